noncomputable def bX2_spareLinks_54 (r : Rec) (v1 : Int32) (v2 : Int32) : Option ((Int32 × Int32) ⊕ Int32) :=
  some (.inl (v1, v2 + 1))
set_option maxRecDepth 100000 in
set_option maxHeartbeats 4000000 in
theorem wX2_spareLinks_54 {p : Program} {l : Launch} {e : Env} {s : State} {m : MethodId} {args : Array Value} {below : List Frame} {meth : Method} {c : Code} {Γ : Gm} {A : Nat → Prop} {G : Gs} {o : Nat} {r : Rec} {v1 : Int32} {v2 : Int32} {q : ((Int32 × Int32) ⊕ Int32)} {fin : Int32} (C : Cx p s m args meth c yX2_spareLinks cX2_spareLinks 4 (some .int) Γ A) (hk : kd Γ o = some 2) (hf : bX2_spareLinks_54 r v1 v2 = some q) (hq : (KC (fun st : Int32 × Int32 => Wk p l e { frames := 3, cells := 0, slots := 0, locals := 69 } s m args below meth c Γ A (ug G o r) (some (.int fin)) 4 4 [(0, .ref (ad Γ o)), (1, .int st.1), (2, .int st.2)] [] (ug G o r)) (fun x => x = fin)) q) : Wk p l e { frames := 3, cells := 0, slots := 0, locals := 69 } s m args below meth c Γ A (ug G o r) (some (.int fin)) 54 4 [(0, .ref (ad Γ o)), (1, .int v1), (2, .int v2)] [] (ug G o r) := by
  intro H locs ls hw hS hl
  unfold bX2_spareLinks_54 at hf
  obtain ⟨hx, hb, hml, hr, hown, htw, hlocks, hE⟩ := id C
  have hown : s.vm.findClass RX2 = some m.cls := hown
  refine lv_iinc (v := v2 + 1) (lv' := [(2, .int (v2 + 1)), (0, .ref (ad Γ o)), (1, .int v1)]) hx hb dX2_spareLinks_54 hl (k := 2) rfl (by rfl) (by decide) rfl (fun ls hl => ?_)
  refine lv_goto (tgt := 4) hx hb dX2_spareLinks_57 (by decide) ?_
  obtain rfl := Option.some.inj hf
  exact hq.1 _ rfl H locs ls hw hS (lv_sub hl [1, 2, 0] rfl)

noncomputable def bX2_spareLinks_4 (r : Rec) (v1 : Int32) (v2 : Int32) : Option ((Int32 × Int32) ⊕ Int32) :=
  if (gi r 2) ≤ v2 then some (.inr (v1)) else gd (inR v2 8) (gd (inR v2 8) ((some (((1 : Int32) <<< ((ga r 8 (Int32.toNatClampNeg v2)) &&& 31)) ||| ((1 : Int32) <<< ((ga r 9 (Int32.toNatClampNeg v2)) &&& 31)))).bind fun x3 => (fX2_closure r x3 v2).bind fun z4 => gd (inR v2 8) ((fX9_hasBit z4 (ga r 10 (Int32.toNatClampNeg v2))).bind fun z6 => if z6 = 0 then bX2_spareLinks_54 r v1 v2 else (some (v1 ||| ((1 : Int32) <<< (v2 &&& 31)))).bind fun x7 => bX2_spareLinks_54 r x7 v2)))
set_option maxRecDepth 100000 in
set_option maxHeartbeats 4000000 in
theorem wX2_spareLinks_4 {p : Program} {l : Launch} {e : Env} {s : State} {m : MethodId} {args : Array Value} {below : List Frame} {meth : Method} {c : Code} {Γ : Gm} {A : Nat → Prop} {G : Gs} {o : Nat} {r : Rec} {v1 : Int32} {v2 : Int32} {q : ((Int32 × Int32) ⊕ Int32)} {fin : Int32} (C : Cx p s m args meth c yX2_spareLinks cX2_spareLinks 4 (some .int) Γ A) (hk : kd Γ o = some 2) (hf : bX2_spareLinks_4 r v1 v2 = some q) (hq : (KC (fun st : Int32 × Int32 => Wk p l e { frames := 3, cells := 0, slots := 0, locals := 69 } s m args below meth c Γ A (ug G o r) (some (.int fin)) 4 4 [(0, .ref (ad Γ o)), (1, .int st.1), (2, .int st.2)] [] (ug G o r)) (fun x => x = fin)) q) : Wk p l e { frames := 3, cells := 0, slots := 0, locals := 69 } s m args below meth c Γ A (ug G o r) (some (.int fin)) 4 4 [(0, .ref (ad Γ o)), (1, .int v1), (2, .int v2)] [] (ug G o r) := by
  intro H locs ls hw hS hl
  unfold bX2_spareLinks_4 at hf
  obtain ⟨hx, hb, hml, hr, hown, htw, hlocks, hE⟩ := id C
  have hown : s.vm.findClass RX2 = some m.cls := hown
  refine lv_iload_n hx hb dX2_spareLinks_4 rfl (lv_at hl 2 rfl) ?_
  refine lv_aload_n hx hb dX2_spareLinks_5 rfl (lv_at hl 0 rfl) ?_
  refine va_get (ci := 2) (v := .int (gi r 2)) (C := RX2) (T := TX2) (N := 11) hx hb htw uwX2 hown hE.1 (wo_me hw hk) 0 rfl rfl 2 (by decide) (htw _ mw171) (fun _ h9 => h9) rfl dX2_spareLinks_6 ?_
  refine lv_icmp_ge (tgt := 60) hx hb dX2_spareLinks_9 (by decide) (fun c9 => ?_) (fun c9 => ?_)
  · have hf := ifp c9 hf
    refine lv_iload_n hx hb dX2_spareLinks_60 rfl (lv_at hl 1 rfl) ?_
    obtain rfl := Option.some.inj hf
    have hq := hq.2 _ rfl
    subst hq
    exact rt_i C hw hS dX2_spareLinks_61
  · have hf := ifn c9 hf
    refine lv_iconst (v := 1) hx hb dX2_spareLinks_12 (by decide) ?_
    refine lv_aload_n hx hb dX2_spareLinks_13 rfl (lv_at hl 0 rfl) ?_
    refine va_get (ci := 2) (v := .ref (aa Γ o 8)) (C := RX2) (T := TX2) (N := 11) hx hb htw uwX2 hown hE.1 (wo_me hw hk) 0 rfl rfl 8 (by decide) (htw _ mw188) (fun _ h9 => h9) rfl dX2_spareLinks_14 ?_
    refine lv_iload_n hx hb dX2_spareLinks_17 rfl (lv_at hl 2 rfl) ?_
    obtain ⟨g1, hf⟩ := gd_some hf
    refine va_iald hx hb hE.1 (wo_me hw hk) 6 0 rfl rfl (inR_in g1) dX2_spareLinks_18 ?_
    refine lv_ishl hx hb dX2_spareLinks_19 ?_
    refine lv_iconst (v := 1) hx hb dX2_spareLinks_20 (by decide) ?_
    refine lv_aload_n hx hb dX2_spareLinks_21 rfl (lv_at hl 0 rfl) ?_
    refine va_get (ci := 2) (v := .ref (aa Γ o 9)) (C := RX2) (T := TX2) (N := 11) hx hb htw uwX2 hown hE.1 (wo_me hw hk) 0 rfl rfl 9 (by decide) (htw _ mw189) (fun _ h9 => h9) rfl dX2_spareLinks_22 ?_
    refine lv_iload_n hx hb dX2_spareLinks_25 rfl (lv_at hl 2 rfl) ?_
    obtain ⟨g2, hf⟩ := gd_some hf
    refine va_iald hx hb hE.1 (wo_me hw hk) 7 0 rfl rfl (inR_in g2) dX2_spareLinks_26 ?_
    refine lv_ishl hx hb dX2_spareLinks_27 ?_
    refine lv_ior hx hb dX2_spareLinks_28 ?_
    obtain ⟨x3, hx3, hf⟩ := bd hf
    have hx3 := Option.some.inj hx3
    refine tp1i hx3 ?_
    refine lv_istore_n (lv' := [(3, .int x3), (0, .ref (ad Γ o)), (1, .int v1), (2, .int v2)]) hx hb dX2_spareLinks_29 rfl hl (by decide) rfl (fun ls hl => ?_)
    refine lv_aload_n hx hb dX2_spareLinks_30 rfl (lv_at hl 1 rfl) ?_
    refine lv_iload_n hx hb dX2_spareLinks_31 rfl (lv_at hl 0 rfl) ?_
    refine lv_iload_n hx hb dX2_spareLinks_32 rfl (lv_at hl 3 rfl) ?_
    obtain ⟨z4, hz4, hf⟩ := bd hf
    refine cl_Vs (rest := []) (kX2_closure (l := l) (Γ := Γ) (A := A) (G := G) (o := o) hk hz4) ⟨hx, hb, hml, hown, htw⟩ hE hw hS (wo_me hw hk) (q0 := 0) rfl rfl mw909 mw893 mw894 mw120 mw895 pdX2_closure ⟨Nat.le_of_ble_eq_true rfl, Nat.le_of_ble_eq_true rfl⟩ rfl rfl hl.1 (Nat.le_of_ble_eq_true rfl) dX2_spareLinks_33 (fun H locs hw hS => ?_)
    refine lv_aload_n hx hb dX2_spareLinks_36 rfl (lv_at hl 1 rfl) ?_
    refine va_get (ci := 2) (v := .ref (aa Γ o 10)) (C := RX2) (T := TX2) (N := 11) hx hb htw uwX2 hown hE.1 (wo_me hw hk) 0 rfl rfl 10 (by decide) (htw _ mw190) (fun _ h9 => h9) rfl dX2_spareLinks_37 ?_
    refine lv_iload_n hx hb dX2_spareLinks_40 rfl (lv_at hl 3 rfl) ?_
    obtain ⟨g5, hf⟩ := gd_some hf
    refine va_iald hx hb hE.1 (wo_me hw hk) 8 0 rfl rfl (inR_in g5) dX2_spareLinks_41 ?_
    obtain ⟨z6, hz6, hf⟩ := bd hf
    refine cl_SN (rest := []) (kX9_hasBit (l := l) (Γ := Γ) (A := A) (G := (ug G o r)) hz6) ⟨hx, hb, hml, hown, htw⟩ hE hw hS (nw8 hE.2.2.1) mw717 mw118 mw718 pdX9_hasBit ⟨Nat.le_of_ble_eq_true rfl, Nat.le_of_ble_eq_true rfl⟩ rfl rfl hl.1 (Nat.le_of_ble_eq_true rfl) dX2_spareLinks_42 (fun H locs hw hS => ?_)
    refine lv_if_eq (tgt := 54) hx hb dX2_spareLinks_45 (by decide) (fun c8 => ?_) (fun c8 => ?_)
    · have hf := ifp c8 hf
      exact wX2_spareLinks_54 C hk hf hq H locs ls hw hS (lv_sub hl [1, 2, 3] rfl)
    · have hf := ifn c8 hf
      refine lv_iload_n hx hb dX2_spareLinks_48 rfl (lv_at hl 2 rfl) ?_
      refine lv_iconst (v := 1) hx hb dX2_spareLinks_49 (by decide) ?_
      refine lv_iload_n hx hb dX2_spareLinks_50 rfl (lv_at hl 3 rfl) ?_
      refine lv_ishl hx hb dX2_spareLinks_51 ?_
      refine lv_ior hx hb dX2_spareLinks_52 ?_
      obtain ⟨x7, hx7, hf⟩ := bd hf
      have hx7 := Option.some.inj hx7
      refine tp1i hx7 ?_
      refine lv_istore_n (lv' := [(1, .int x7), (3, .int x3), (0, .ref (ad Γ o)), (2, .int v2)]) hx hb dX2_spareLinks_53 rfl hl (by decide) rfl (fun ls hl => ?_)
      exact wX2_spareLinks_54 C hk hf hq H locs ls hw hS (lv_sub hl [2, 0, 3] rfl)

set_option maxRecDepth 100000 in
set_option maxHeartbeats 4000000 in
theorem lwX2_spareLinks_4 {p : Program} {l : Launch} {e : Env} {s : State} {m : MethodId} {args : Array Value} {below : List Frame} {meth : Method} {c : Code} {Γ : Gm} {A : Nat → Prop} {G : Gs} {o : Nat} {r : Rec} {v1 : Int32} {v2 : Int32} {q : Int32} {fin : Int32} (C : Cx p s m args meth c yX2_spareLinks cX2_spareLinks 4 (some .int) Γ A) (hk : kd Γ o = some 2) (hf : iter (fun st : Int32 × Int32 => bX2_spareLinks_4 r st.1 st.2) (v1, v2) = some q) (hq : (fun x => x = fin) q) : Wk p l e { frames := 3, cells := 0, slots := 0, locals := 69 } s m args below meth c Γ A (ug G o r) (some (.int fin)) 4 4 [(0, .ref (ad Γ o)), (1, .int v1), (2, .int v2)] [] (ug G o r) := by
  intro H locs ls hw hS hl
  refine iter_walk (P := (fun st : Int32 × Int32 => Wk p l e { frames := 3, cells := 0, slots := 0, locals := 69 } s m args below meth c Γ A (ug G o r) (some (.int fin)) 4 4 [(0, .ref (ad Γ o)), (1, .int st.1), (2, .int st.2)] [] (ug G o r))) (K := (fun x => x = fin)) (fun st q hq1 h1 h2 => ?_) hf hq H locs ls hw hS hl
  exact wX2_spareLinks_4 (v1 := st.1) (v2 := st.2) C hk hq1 ⟨h1, h2⟩

noncomputable def fX2_spareLinks (r : Rec) : Option Int32 :=
  iter (fun st : Int32 × Int32 => bX2_spareLinks_4 r st.1 st.2) (0, 0)
set_option maxRecDepth 100000 in
set_option maxHeartbeats 4000000 in
theorem wX2_spareLinks_e {p : Program} {l : Launch} {e : Env} {s : State} {m : MethodId} {args : Array Value} {below : List Frame} {meth : Method} {c : Code} {Γ : Gm} {A : Nat → Prop} {G : Gs} {o : Nat} {r : Rec} {q : Int32} {fin : Int32} (C : Cx p s m args meth c yX2_spareLinks cX2_spareLinks 4 (some .int) Γ A) (hk : kd Γ o = some 2) (hf : fX2_spareLinks r = some q) (hq : (fun x => x = fin) q) : Wk p l e { frames := 3, cells := 0, slots := 0, locals := 69 } s m args below meth c Γ A (ug G o r) (some (.int fin)) 0 4 [(0, .ref (ad Γ o))] [] (ug G o r) := by
  intro H locs ls hw hS hl
  unfold fX2_spareLinks at hf
  obtain ⟨hx, hb, hml, hr, hown, htw, hlocks, hE⟩ := id C
  have hown : s.vm.findClass RX2 = some m.cls := hown
  refine lv_iconst (v := 0) hx hb dX2_spareLinks_0 (by decide) ?_
  refine lv_istore_n (lv' := [(1, .int 0), (0, .ref (ad Γ o))]) hx hb dX2_spareLinks_1 rfl hl (by decide) rfl (fun ls hl => ?_)
  refine lv_iconst (v := 0) hx hb dX2_spareLinks_2 (by decide) ?_
  refine lv_istore_n (lv' := [(2, .int 0), (1, .int 0), (0, .ref (ad Γ o))]) hx hb dX2_spareLinks_3 rfl hl (by decide) rfl (fun ls hl => ?_)
  exact lwX2_spareLinks_4 C hk hf hq H locs ls hw hS (lv_sub hl [2, 1, 0] rfl)

theorem kX2_spareLinks {l : Launch} {Γ : Gm} {A : Nat → Prop} {G : Gs} {o : Nat} {r : Rec} {fin : Int32} (hk : kd Γ o = some 2) (hf : fX2_spareLinks r = some fin) : Kt l yX2_spareLinks cX2_spareLinks 4 (some .int) 3 69 Γ A (ug G o r) (ug G o r) [.ref (ad Γ o)] (some (.int fin)) :=
  kt_of (by decide) (Nat.le_of_ble_eq_true rfl) (fun p e s m args below meth c C => wX2_spareLinks_e C hk hf rfl)
theorem kgX2_spareLinks {l : Launch} {Γ : Gm} {A : Nat → Prop} {G : Gs} {o : Nat} {fin : Int32} (hk : kd Γ o = some 2) (hf : fX2_spareLinks (G o) = some fin) : Kt l yX2_spareLinks cX2_spareLinks 4 (some .int) 3 69 Γ A G G [.ref (ad Γ o)] (some (.int fin)) := by
  have h := kX2_spareLinks (l := l) (A := A) (G := G) (r := G o) hk hf
  rw [ug_self] at h
  exact h
noncomputable def fJ6_bitCount_0f7a4 (v0 : Int32) : Option Int32 :=
  (some (v0 - ((((v0).toUInt32 >>> ((1 : Int32).toUInt32 &&& Int32.toUInt32 31)).toInt32) &&& 1431655765))).bind fun x1 => (some ((x1 &&& 858993459) + ((((x1).toUInt32 >>> ((2 : Int32).toUInt32 &&& Int32.toUInt32 31)).toInt32) &&& 858993459))).bind fun x2 => (some ((x2 + (((x2).toUInt32 >>> ((4 : Int32).toUInt32 &&& Int32.toUInt32 31)).toInt32)) &&& 252645135)).bind fun x3 => (some (x3 + (((x3).toUInt32 >>> ((8 : Int32).toUInt32 &&& Int32.toUInt32 31)).toInt32))).bind fun x4 => (some (x4 + (((x4).toUInt32 >>> ((16 : Int32).toUInt32 &&& Int32.toUInt32 31)).toInt32))).bind fun x5 => some (x5 &&& 63)
set_option maxRecDepth 100000 in
set_option maxHeartbeats 4000000 in
theorem wJ6_bitCount_0f7a4_e {p : Program} {l : Launch} {e : Env} {s : State} {m : MethodId} {args : Array Value} {below : List Frame} {meth : Method} {c : Code} {Γ : Gm} {A : Nat → Prop} {G : Gs} {v0 : Int32} {q : Int32} {fin : Int32} (C : Cx p s m args meth c yJ6_bitCount_0f7a4 cJ6_bitCount_0f7a4 1 (some .int) Γ A) (hf : fJ6_bitCount_0f7a4 v0 = some q) (hq : (fun x => x = fin) q) : Wk p l e { frames := 0, cells := 0, slots := 0, locals := 0 } s m args below meth c Γ A G (some (.int fin)) 0 1 [(0, .int v0)] [] G := by
  intro H locs ls hw hS hl
  unfold fJ6_bitCount_0f7a4 at hf
  obtain ⟨hx, hb, hml, hr, hown, htw, hlocks, hE⟩ := id C
  have hown : s.vm.findClass RJ6 = some m.cls := hown
  refine lv_iload_n hx hb dJ6_bitCount_0f7a4_0 rfl (lv_at hl 0 rfl) ?_
  refine lv_iload_n hx hb dJ6_bitCount_0f7a4_1 rfl (lv_at hl 0 rfl) ?_
  refine lv_iconst (v := 1) hx hb dJ6_bitCount_0f7a4_2 (by decide) ?_
  refine lv_iushr (v := ((v0).toUInt32 >>> ((1 : Int32).toUInt32 &&& Int32.toUInt32 31)).toInt32) hx hb dJ6_bitCount_0f7a4_3 rfl ?_
  refine lv_ldcw hx hb hown (htw _ mw873) dJ6_bitCount_0f7a4_4 ?_
  refine lv_iand hx hb dJ6_bitCount_0f7a4_7 ?_
  refine lv_isub hx hb dJ6_bitCount_0f7a4_8 ?_
  obtain ⟨x1, hx1, hf⟩ := bd hf
  have hx1 := Option.some.inj hx1
  refine tp1i hx1 ?_
  refine lv_istore_n (lv' := [(0, .int x1)]) hx hb dJ6_bitCount_0f7a4_9 rfl hl (by decide) rfl (fun ls hl => ?_)
  refine lv_iload_n hx hb dJ6_bitCount_0f7a4_10 rfl (lv_at hl 0 rfl) ?_
  refine lv_ldcw hx hb hown (htw _ mw874) dJ6_bitCount_0f7a4_11 ?_
  refine lv_iand hx hb dJ6_bitCount_0f7a4_14 ?_
  refine lv_iload_n hx hb dJ6_bitCount_0f7a4_15 rfl (lv_at hl 0 rfl) ?_
  refine lv_iconst (v := 2) hx hb dJ6_bitCount_0f7a4_16 (by decide) ?_
  refine lv_iushr (v := ((x1).toUInt32 >>> ((2 : Int32).toUInt32 &&& Int32.toUInt32 31)).toInt32) hx hb dJ6_bitCount_0f7a4_17 rfl ?_
  refine lv_ldcw hx hb hown (htw _ mw874) dJ6_bitCount_0f7a4_18 ?_
  refine lv_iand hx hb dJ6_bitCount_0f7a4_21 ?_
  refine lv_iadd hx hb dJ6_bitCount_0f7a4_22 ?_
  obtain ⟨x2, hx2, hf⟩ := bd hf
  have hx2 := Option.some.inj hx2
  refine tp1i hx2 ?_
  refine lv_istore_n (lv' := [(0, .int x2)]) hx hb dJ6_bitCount_0f7a4_23 rfl hl (by decide) rfl (fun ls hl => ?_)
  refine lv_iload_n hx hb dJ6_bitCount_0f7a4_24 rfl (lv_at hl 0 rfl) ?_
  refine lv_iload_n hx hb dJ6_bitCount_0f7a4_25 rfl (lv_at hl 0 rfl) ?_
  refine lv_iconst (v := 4) hx hb dJ6_bitCount_0f7a4_26 (by decide) ?_
  refine lv_iushr (v := ((x2).toUInt32 >>> ((4 : Int32).toUInt32 &&& Int32.toUInt32 31)).toInt32) hx hb dJ6_bitCount_0f7a4_27 rfl ?_
  refine lv_iadd hx hb dJ6_bitCount_0f7a4_28 ?_
  refine lv_ldcw hx hb hown (htw _ mw875) dJ6_bitCount_0f7a4_29 ?_
  refine lv_iand hx hb dJ6_bitCount_0f7a4_32 ?_
  obtain ⟨x3, hx3, hf⟩ := bd hf
  have hx3 := Option.some.inj hx3
  refine tp1i hx3 ?_
  refine lv_istore_n (lv' := [(0, .int x3)]) hx hb dJ6_bitCount_0f7a4_33 rfl hl (by decide) rfl (fun ls hl => ?_)
  refine lv_iload_n hx hb dJ6_bitCount_0f7a4_34 rfl (lv_at hl 0 rfl) ?_
  refine lv_iload_n hx hb dJ6_bitCount_0f7a4_35 rfl (lv_at hl 0 rfl) ?_
  refine lv_bipush (v := 8) hx hb dJ6_bitCount_0f7a4_36 (by decide) ?_
  refine lv_iushr (v := ((x3).toUInt32 >>> ((8 : Int32).toUInt32 &&& Int32.toUInt32 31)).toInt32) hx hb dJ6_bitCount_0f7a4_38 rfl ?_
  refine lv_iadd hx hb dJ6_bitCount_0f7a4_39 ?_
  obtain ⟨x4, hx4, hf⟩ := bd hf
  have hx4 := Option.some.inj hx4
  refine tp1i hx4 ?_
  refine lv_istore_n (lv' := [(0, .int x4)]) hx hb dJ6_bitCount_0f7a4_40 rfl hl (by decide) rfl (fun ls hl => ?_)
  refine lv_iload_n hx hb dJ6_bitCount_0f7a4_41 rfl (lv_at hl 0 rfl) ?_
  refine lv_iload_n hx hb dJ6_bitCount_0f7a4_42 rfl (lv_at hl 0 rfl) ?_
  refine lv_bipush (v := 16) hx hb dJ6_bitCount_0f7a4_43 (by decide) ?_
  refine lv_iushr (v := ((x4).toUInt32 >>> ((16 : Int32).toUInt32 &&& Int32.toUInt32 31)).toInt32) hx hb dJ6_bitCount_0f7a4_45 rfl ?_
  refine lv_iadd hx hb dJ6_bitCount_0f7a4_46 ?_
  obtain ⟨x5, hx5, hf⟩ := bd hf
  have hx5 := Option.some.inj hx5
  refine tp1i hx5 ?_
  refine lv_istore_n (lv' := [(0, .int x5)]) hx hb dJ6_bitCount_0f7a4_47 rfl hl (by decide) rfl (fun ls hl => ?_)
  refine lv_iload_n hx hb dJ6_bitCount_0f7a4_48 rfl (lv_at hl 0 rfl) ?_
  refine lv_bipush (v := 63) hx hb dJ6_bitCount_0f7a4_49 (by decide) ?_
  refine lv_iand hx hb dJ6_bitCount_0f7a4_51 ?_
  obtain rfl := Option.some.inj hf
  subst hq
  exact rt_i C hw hS dJ6_bitCount_0f7a4_52

theorem kJ6_bitCount_0f7a4 {l : Launch} {Γ : Gm} {A : Nat → Prop} {G : Gs} {v0 : Int32} {fin : Int32} (hf : fJ6_bitCount_0f7a4 v0 = some fin) : Kt l yJ6_bitCount_0f7a4 cJ6_bitCount_0f7a4 1 (some .int) 0 0 Γ A G G [.int v0] (some (.int fin)) :=
  kt_of (by decide) (Nat.le_of_ble_eq_true rfl) (fun p e s m args below meth c C => wJ6_bitCount_0f7a4_e C hf rfl)
noncomputable def bX2_fewestKept_66 (r : Rec) (v1 : Int32) (v2 : Int32) (v3 : Int32) (v4 : Int32) : Option ((Int32 × Int32 × Int32) ⊕ Int32) :=
  some (.inl (v2, v3, v4 + 1))
set_option maxRecDepth 100000 in
set_option maxHeartbeats 4000000 in
theorem wX2_fewestKept_66 {p : Program} {l : Launch} {e : Env} {s : State} {m : MethodId} {args : Array Value} {below : List Frame} {meth : Method} {c : Code} {Γ : Gm} {A : Nat → Prop} {G : Gs} {o : Nat} {r : Rec} {v1 : Int32} {v2 : Int32} {v3 : Int32} {v4 : Int32} {q : ((Int32 × Int32 × Int32) ⊕ Int32)} {fin : Int32} (C : Cx p s m args meth c yX2_fewestKept cX2_fewestKept 6 (some .int) Γ A) (hk : kd Γ o = some 2) (hf : bX2_fewestKept_66 r v1 v2 v3 v4 = some q) (hq : (KC (fun st : Int32 × Int32 × Int32 => Wk p l e { frames := 3, cells := 0, slots := 0, locals := 69 } s m args below meth c Γ A (ug G o r) (some (.int fin)) 8 6 [(0, .ref (ad Γ o)), (1, .int v1), (2, .int st.1), (3, .int st.2.1), (4, .int st.2.2)] [] (ug G o r)) (fun x => x = fin)) q) : Wk p l e { frames := 3, cells := 0, slots := 0, locals := 69 } s m args below meth c Γ A (ug G o r) (some (.int fin)) 66 6 [(0, .ref (ad Γ o)), (1, .int v1), (2, .int v2), (3, .int v3), (4, .int v4)] [] (ug G o r) := by
  intro H locs ls hw hS hl
  unfold bX2_fewestKept_66 at hf
  obtain ⟨hx, hb, hml, hr, hown, htw, hlocks, hE⟩ := id C
  have hown : s.vm.findClass RX2 = some m.cls := hown
  refine lv_iinc (v := v4 + 1) (lv' := [(4, .int (v4 + 1)), (0, .ref (ad Γ o)), (1, .int v1), (2, .int v2), (3, .int v3)]) hx hb dX2_fewestKept_66 hl (k := 4) rfl (by rfl) (by decide) rfl (fun ls hl => ?_)
  refine lv_goto (tgt := 8) hx hb dX2_fewestKept_69 (by decide) ?_
  obtain rfl := Option.some.inj hf
  exact hq.1 _ rfl H locs ls hw hS (lv_sub hl [1, 2, 3, 4, 0] rfl)

noncomputable def bX2_fewestKept_8 (r : Rec) (v1 : Int32) (v2 : Int32) (v3 : Int32) (v4 : Int32) : Option ((Int32 × Int32 × Int32) ⊕ Int32) :=
  (fX2_secretSets r).bind fun z1 => if z1 ≤ v4 then some (.inr (v2)) else (fJ6_bitCount_0f7a4 v4).bind fun z2 => if v3 ≤ z2 then bX2_fewestKept_66 r v1 v2 v3 v4 else (fX9_hasBit v4 v1).bind fun z3 => if z3 = 0 then bX2_fewestKept_66 r v1 v2 v3 v4 else (fX2_allSecrets r).bind fun z4 => (fX2_closure r (z4 &&& (v4 ^^^ (-1))) (-1)).bind fun z5 => (fX9_hasBit z5 v1).bind fun z6 => if z6 = 0 then bX2_fewestKept_66 r v1 v4 z2 v4 else bX2_fewestKept_66 r v1 v2 v3 v4
set_option maxRecDepth 100000 in
set_option maxHeartbeats 4000000 in
theorem wX2_fewestKept_8 {p : Program} {l : Launch} {e : Env} {s : State} {m : MethodId} {args : Array Value} {below : List Frame} {meth : Method} {c : Code} {Γ : Gm} {A : Nat → Prop} {G : Gs} {o : Nat} {r : Rec} {v1 : Int32} {v2 : Int32} {v3 : Int32} {v4 : Int32} {q : ((Int32 × Int32 × Int32) ⊕ Int32)} {fin : Int32} (C : Cx p s m args meth c yX2_fewestKept cX2_fewestKept 6 (some .int) Γ A) (hk : kd Γ o = some 2) (hf : bX2_fewestKept_8 r v1 v2 v3 v4 = some q) (hq : (KC (fun st : Int32 × Int32 × Int32 => Wk p l e { frames := 3, cells := 0, slots := 0, locals := 69 } s m args below meth c Γ A (ug G o r) (some (.int fin)) 8 6 [(0, .ref (ad Γ o)), (1, .int v1), (2, .int st.1), (3, .int st.2.1), (4, .int st.2.2)] [] (ug G o r)) (fun x => x = fin)) q) : Wk p l e { frames := 3, cells := 0, slots := 0, locals := 69 } s m args below meth c Γ A (ug G o r) (some (.int fin)) 8 6 [(0, .ref (ad Γ o)), (1, .int v1), (2, .int v2), (3, .int v3), (4, .int v4)] [] (ug G o r) := by
  intro H locs ls hw hS hl
  unfold bX2_fewestKept_8 at hf
  obtain ⟨hx, hb, hml, hr, hown, htw, hlocks, hE⟩ := id C
  have hown : s.vm.findClass RX2 = some m.cls := hown
  refine lv_iload hx hb dX2_fewestKept_8 (lv_at hl 4 rfl) ?_
  refine lv_aload_n hx hb dX2_fewestKept_10 rfl (lv_at hl 0 rfl) ?_
  obtain ⟨z1, hz1, hf⟩ := bd hf
  refine cl_Vs (rest := [.int v4]) (kX2_secretSets (l := l) (Γ := Γ) (A := A) (G := G) (o := o) hk hz1) ⟨hx, hb, hml, hown, htw⟩ hE hw hS (wo_me hw hk) (q0 := 0) rfl rfl mw860 mw851 mw852 mw120 mw853 pdX2_secretSets ⟨Nat.le_of_ble_eq_true rfl, Nat.le_of_ble_eq_true rfl⟩ rfl rfl hl.1 (Nat.le_of_ble_eq_true rfl) dX2_fewestKept_11 (fun H locs hw hS => ?_)
  refine lv_icmp_ge (tgt := 72) hx hb dX2_fewestKept_14 (by decide) (fun c10 => ?_) (fun c10 => ?_)
  · have hf := ifp c10 hf
    refine lv_iload_n hx hb dX2_fewestKept_72 rfl (lv_at hl 2 rfl) ?_
    obtain rfl := Option.some.inj hf
    have hq := hq.2 _ rfl
    subst hq
    exact rt_i C hw hS dX2_fewestKept_73
  · have hf := ifn c10 hf
    refine lv_iload hx hb dX2_fewestKept_17 (lv_at hl 4 rfl) ?_
    obtain ⟨z2, hz2, hf⟩ := bd hf
    refine cl_Ss (rest := []) (kJ6_bitCount_0f7a4 (l := l) (Γ := Γ) (A := A) (G := (ug G o r)) hz2) ⟨hx, hb, hml, hown, htw⟩ hE hw hS mw908 mw871 mw136 mw872 pdJ6_bitCount_0f7a4 ⟨Nat.le_of_ble_eq_true rfl, Nat.le_of_ble_eq_true rfl⟩ rfl rfl hl.1 (Nat.le_of_ble_eq_true rfl) dX2_fewestKept_19 (fun H locs hw hS => ?_)
    refine lv_istore (lv' := [(5, .int z2), (0, .ref (ad Γ o)), (1, .int v1), (2, .int v2), (3, .int v3), (4, .int v4)]) hx hb dX2_fewestKept_22 hl (by decide) rfl (fun ls hl => ?_)
    refine lv_iload hx hb dX2_fewestKept_24 (lv_at hl 0 rfl) ?_
    refine lv_iload_n hx hb dX2_fewestKept_26 rfl (lv_at hl 4 rfl) ?_
    refine lv_icmp_ge (tgt := 66) hx hb dX2_fewestKept_27 (by decide) (fun c9 => ?_) (fun c9 => ?_)
    · have hf := ifp c9 hf
      exact wX2_fewestKept_66 C hk hf hq H locs ls hw hS (lv_sub hl [1, 2, 3, 4, 5] rfl)
    · have hf := ifn c9 hf
      refine lv_iload hx hb dX2_fewestKept_30 (lv_at hl 5 rfl) ?_
      refine lv_iload_n hx hb dX2_fewestKept_32 rfl (lv_at hl 2 rfl) ?_
      obtain ⟨z3, hz3, hf⟩ := bd hf
      refine cl_SN (rest := []) (kX9_hasBit (l := l) (Γ := Γ) (A := A) (G := (ug G o r)) hz3) ⟨hx, hb, hml, hown, htw⟩ hE hw hS (nw8 hE.2.2.1) mw717 mw118 mw718 pdX9_hasBit ⟨Nat.le_of_ble_eq_true rfl, Nat.le_of_ble_eq_true rfl⟩ rfl rfl hl.1 (Nat.le_of_ble_eq_true rfl) dX2_fewestKept_33 (fun H locs hw hS => ?_)
      refine lv_if_eq (tgt := 66) hx hb dX2_fewestKept_36 (by decide) (fun c8 => ?_) (fun c8 => ?_)
      · have hf := ifp c8 hf
        exact wX2_fewestKept_66 C hk hf hq H locs ls hw hS (lv_sub hl [1, 2, 3, 4, 5] rfl)
      · have hf := ifn c8 hf
        refine lv_aload_n hx hb dX2_fewestKept_39 rfl (lv_at hl 1 rfl) ?_
        refine lv_aload_n hx hb dX2_fewestKept_40 rfl (lv_at hl 1 rfl) ?_
        obtain ⟨z4, hz4, hf⟩ := bd hf
        refine cl_Vs (rest := [.ref (ad Γ o)]) (kX2_allSecrets (l := l) (Γ := Γ) (A := A) (G := G) (o := o) hk hz4) ⟨hx, hb, hml, hown, htw⟩ hE hw hS (wo_me hw hk) (q0 := 0) rfl rfl mw914 mw857 mw858 mw120 mw859 pdX2_allSecrets ⟨Nat.le_of_ble_eq_true rfl, Nat.le_of_ble_eq_true rfl⟩ rfl rfl hl.1 (Nat.le_of_ble_eq_true rfl) dX2_fewestKept_41 (fun H locs hw hS => ?_)
        refine lv_iload hx hb dX2_fewestKept_44 (lv_at hl 5 rfl) ?_
        refine lv_iconst (v := (-1)) hx hb dX2_fewestKept_46 (by decide) ?_
        refine lv_ixor hx hb dX2_fewestKept_47 ?_
        refine lv_iand hx hb dX2_fewestKept_48 ?_
        refine lv_iconst (v := (-1)) hx hb dX2_fewestKept_49 (by decide) ?_
        obtain ⟨z5, hz5, hf⟩ := bd hf
        refine cl_Vs (rest := []) (kX2_closure (l := l) (Γ := Γ) (A := A) (G := G) (o := o) hk hz5) ⟨hx, hb, hml, hown, htw⟩ hE hw hS (wo_me hw hk) (q0 := 0) rfl rfl mw909 mw893 mw894 mw120 mw895 pdX2_closure ⟨Nat.le_of_ble_eq_true rfl, Nat.le_of_ble_eq_true rfl⟩ rfl rfl hl.1 (Nat.le_of_ble_eq_true rfl) dX2_fewestKept_50 (fun H locs hw hS => ?_)
        refine lv_iload_n hx hb dX2_fewestKept_53 rfl (lv_at hl 2 rfl) ?_
        obtain ⟨z6, hz6, hf⟩ := bd hf
        refine cl_SN (rest := []) (kX9_hasBit (l := l) (Γ := Γ) (A := A) (G := (ug G o r)) hz6) ⟨hx, hb, hml, hown, htw⟩ hE hw hS (nw8 hE.2.2.1) mw717 mw118 mw718 pdX9_hasBit ⟨Nat.le_of_ble_eq_true rfl, Nat.le_of_ble_eq_true rfl⟩ rfl rfl hl.1 (Nat.le_of_ble_eq_true rfl) dX2_fewestKept_54 (fun H locs hw hS => ?_)
        refine lv_if_ne (tgt := 66) hx hb dX2_fewestKept_57 (by decide) (fun c7 => ?_) (fun c7 => ?_)
        · have hf := ifn c7 hf
          exact wX2_fewestKept_66 C hk hf hq H locs ls hw hS (lv_sub hl [1, 2, 3, 4, 5] rfl)
        · have hf := ifp c7 hf
          refine lv_iload hx hb dX2_fewestKept_60 (lv_at hl 5 rfl) ?_
          refine lv_istore_n (lv' := [(2, .int v4), (5, .int z2), (0, .ref (ad Γ o)), (1, .int v1), (3, .int v3), (4, .int v4)]) hx hb dX2_fewestKept_62 rfl hl (by decide) rfl (fun ls hl => ?_)
          refine lv_iload hx hb dX2_fewestKept_63 (lv_at hl 1 rfl) ?_
          refine lv_istore_n (lv' := [(3, .int z2), (2, .int v4), (5, .int z2), (0, .ref (ad Γ o)), (1, .int v1), (4, .int v4)]) hx hb dX2_fewestKept_65 rfl hl (by decide) rfl (fun ls hl => ?_)
          exact wX2_fewestKept_66 C hk hf hq H locs ls hw hS (lv_sub hl [3, 4, 1, 0, 5] rfl)

set_option maxRecDepth 100000 in
set_option maxHeartbeats 4000000 in
theorem lwX2_fewestKept_8 {p : Program} {l : Launch} {e : Env} {s : State} {m : MethodId} {args : Array Value} {below : List Frame} {meth : Method} {c : Code} {Γ : Gm} {A : Nat → Prop} {G : Gs} {o : Nat} {r : Rec} {v1 : Int32} {v2 : Int32} {v3 : Int32} {v4 : Int32} {q : Int32} {fin : Int32} (C : Cx p s m args meth c yX2_fewestKept cX2_fewestKept 6 (some .int) Γ A) (hk : kd Γ o = some 2) (hf : iter (fun st : Int32 × Int32 × Int32 => bX2_fewestKept_8 r v1 st.1 st.2.1 st.2.2) (v2, v3, v4) = some q) (hq : (fun x => x = fin) q) : Wk p l e { frames := 3, cells := 0, slots := 0, locals := 69 } s m args below meth c Γ A (ug G o r) (some (.int fin)) 8 6 [(0, .ref (ad Γ o)), (1, .int v1), (2, .int v2), (3, .int v3), (4, .int v4)] [] (ug G o r) := by
  intro H locs ls hw hS hl
  refine iter_walk (P := (fun st : Int32 × Int32 × Int32 => Wk p l e { frames := 3, cells := 0, slots := 0, locals := 69 } s m args below meth c Γ A (ug G o r) (some (.int fin)) 8 6 [(0, .ref (ad Γ o)), (1, .int v1), (2, .int st.1), (3, .int st.2.1), (4, .int st.2.2)] [] (ug G o r))) (K := (fun x => x = fin)) (fun st q hq1 h1 h2 => ?_) hf hq H locs ls hw hS hl
  exact wX2_fewestKept_8 (v2 := st.1) (v3 := st.2.1) (v4 := st.2.2) C hk hq1 ⟨h1, h2⟩

noncomputable def fX2_fewestKept (r : Rec) (v1 : Int32) : Option Int32 :=
  iter (fun st : Int32 × Int32 × Int32 => bX2_fewestKept_8 r v1 st.1 st.2.1 st.2.2) ((-1), 11, 0)
set_option maxRecDepth 100000 in
set_option maxHeartbeats 4000000 in
theorem wX2_fewestKept_e {p : Program} {l : Launch} {e : Env} {s : State} {m : MethodId} {args : Array Value} {below : List Frame} {meth : Method} {c : Code} {Γ : Gm} {A : Nat → Prop} {G : Gs} {o : Nat} {r : Rec} {v1 : Int32} {q : Int32} {fin : Int32} (C : Cx p s m args meth c yX2_fewestKept cX2_fewestKept 6 (some .int) Γ A) (hk : kd Γ o = some 2) (hf : fX2_fewestKept r v1 = some q) (hq : (fun x => x = fin) q) : Wk p l e { frames := 3, cells := 0, slots := 0, locals := 69 } s m args below meth c Γ A (ug G o r) (some (.int fin)) 0 6 [(0, .ref (ad Γ o)), (1, .int v1)] [] (ug G o r) := by
  intro H locs ls hw hS hl
  unfold fX2_fewestKept at hf
  obtain ⟨hx, hb, hml, hr, hown, htw, hlocks, hE⟩ := id C
  have hown : s.vm.findClass RX2 = some m.cls := hown
  refine lv_iconst (v := (-1)) hx hb dX2_fewestKept_0 (by decide) ?_
  refine lv_istore_n (lv' := [(2, .int (-1)), (0, .ref (ad Γ o)), (1, .int v1)]) hx hb dX2_fewestKept_1 rfl hl (by decide) rfl (fun ls hl => ?_)
  refine lv_bipush (v := 11) hx hb dX2_fewestKept_2 (by decide) ?_
  refine lv_istore_n (lv' := [(3, .int 11), (2, .int (-1)), (0, .ref (ad Γ o)), (1, .int v1)]) hx hb dX2_fewestKept_4 rfl hl (by decide) rfl (fun ls hl => ?_)
  refine lv_iconst (v := 0) hx hb dX2_fewestKept_5 (by decide) ?_
  refine lv_istore (lv' := [(4, .int 0), (3, .int 11), (2, .int (-1)), (0, .ref (ad Γ o)), (1, .int v1)]) hx hb dX2_fewestKept_6 hl (by decide) rfl (fun ls hl => ?_)
  exact lwX2_fewestKept_8 C hk hf hq H locs ls hw hS (lv_sub hl [3, 4, 2, 1, 0] rfl)

theorem kX2_fewestKept {l : Launch} {Γ : Gm} {A : Nat → Prop} {G : Gs} {o : Nat} {r : Rec} {v1 : Int32} {fin : Int32} (hk : kd Γ o = some 2) (hf : fX2_fewestKept r v1 = some fin) : Kt l yX2_fewestKept cX2_fewestKept 6 (some .int) 3 69 Γ A (ug G o r) (ug G o r) [.ref (ad Γ o), .int v1] (some (.int fin)) :=
  kt_of (by decide) (Nat.le_of_ble_eq_true rfl) (fun p e s m args below meth c C => wX2_fewestKept_e C hk hf rfl)
theorem kgX2_fewestKept {l : Launch} {Γ : Gm} {A : Nat → Prop} {G : Gs} {o : Nat} {v1 : Int32} {fin : Int32} (hk : kd Γ o = some 2) (hf : fX2_fewestKept (G o) v1 = some fin) : Kt l yX2_fewestKept cX2_fewestKept 6 (some .int) 3 69 Γ A G G [.ref (ad Γ o), .int v1] (some (.int fin)) := by
  have h := kX2_fewestKept (l := l) (A := A) (G := G) (r := G o) hk hf
  rw [ug_self] at h
  exact h
noncomputable def bX2_fewestGiving_59 (r : Rec) (v1 : Int32) (v2 : Int32) (v3 : Int32) (v4 : Int32) : Option ((Int32 × Int32 × Int32) ⊕ Int32) :=
  some (.inl (v2, v3, v4 + 1))
set_option maxRecDepth 100000 in
set_option maxHeartbeats 4000000 in
theorem wX2_fewestGiving_59 {p : Program} {l : Launch} {e : Env} {s : State} {m : MethodId} {args : Array Value} {below : List Frame} {meth : Method} {c : Code} {Γ : Gm} {A : Nat → Prop} {G : Gs} {o : Nat} {r : Rec} {v1 : Int32} {v2 : Int32} {v3 : Int32} {v4 : Int32} {q : ((Int32 × Int32 × Int32) ⊕ Int32)} {fin : Int32} (C : Cx p s m args meth c yX2_fewestGiving cX2_fewestGiving 6 (some .int) Γ A) (hk : kd Γ o = some 2) (hf : bX2_fewestGiving_59 r v1 v2 v3 v4 = some q) (hq : (KC (fun st : Int32 × Int32 × Int32 => Wk p l e { frames := 3, cells := 0, slots := 0, locals := 69 } s m args below meth c Γ A (ug G o r) (some (.int fin)) 8 6 [(0, .ref (ad Γ o)), (1, .int v1), (2, .int st.1), (3, .int st.2.1), (4, .int st.2.2)] [] (ug G o r)) (fun x => x = fin)) q) : Wk p l e { frames := 3, cells := 0, slots := 0, locals := 69 } s m args below meth c Γ A (ug G o r) (some (.int fin)) 59 6 [(0, .ref (ad Γ o)), (1, .int v1), (2, .int v2), (3, .int v3), (4, .int v4)] [] (ug G o r) := by
  intro H locs ls hw hS hl
  unfold bX2_fewestGiving_59 at hf
  obtain ⟨hx, hb, hml, hr, hown, htw, hlocks, hE⟩ := id C
  have hown : s.vm.findClass RX2 = some m.cls := hown
  refine lv_iinc (v := v4 + 1) (lv' := [(4, .int (v4 + 1)), (0, .ref (ad Γ o)), (1, .int v1), (2, .int v2), (3, .int v3)]) hx hb dX2_fewestGiving_59 hl (k := 4) rfl (by rfl) (by decide) rfl (fun ls hl => ?_)
  refine lv_goto (tgt := 8) hx hb dX2_fewestGiving_62 (by decide) ?_
  obtain rfl := Option.some.inj hf
  exact hq.1 _ rfl H locs ls hw hS (lv_sub hl [1, 2, 3, 4, 0] rfl)

noncomputable def bX2_fewestGiving_8 (r : Rec) (v1 : Int32) (v2 : Int32) (v3 : Int32) (v4 : Int32) : Option ((Int32 × Int32 × Int32) ⊕ Int32) :=
  (fX2_secretSets r).bind fun z1 => if z1 ≤ v4 then some (.inr (v2)) else (fJ6_bitCount_0f7a4 v4).bind fun z2 => if v3 ≤ z2 then bX2_fewestGiving_59 r v1 v2 v3 v4 else (fX9_hasBit v4 v1).bind fun z3 => if z3 = 0 then (fX2_closure r v4 (-1)).bind fun z4 => (fX9_hasBit z4 v1).bind fun z5 => if z5 = 0 then bX2_fewestGiving_59 r v1 v2 v3 v4 else bX2_fewestGiving_59 r v1 v4 z2 v4 else bX2_fewestGiving_59 r v1 v2 v3 v4
set_option maxRecDepth 100000 in
set_option maxHeartbeats 4000000 in
theorem wX2_fewestGiving_8 {p : Program} {l : Launch} {e : Env} {s : State} {m : MethodId} {args : Array Value} {below : List Frame} {meth : Method} {c : Code} {Γ : Gm} {A : Nat → Prop} {G : Gs} {o : Nat} {r : Rec} {v1 : Int32} {v2 : Int32} {v3 : Int32} {v4 : Int32} {q : ((Int32 × Int32 × Int32) ⊕ Int32)} {fin : Int32} (C : Cx p s m args meth c yX2_fewestGiving cX2_fewestGiving 6 (some .int) Γ A) (hk : kd Γ o = some 2) (hf : bX2_fewestGiving_8 r v1 v2 v3 v4 = some q) (hq : (KC (fun st : Int32 × Int32 × Int32 => Wk p l e { frames := 3, cells := 0, slots := 0, locals := 69 } s m args below meth c Γ A (ug G o r) (some (.int fin)) 8 6 [(0, .ref (ad Γ o)), (1, .int v1), (2, .int st.1), (3, .int st.2.1), (4, .int st.2.2)] [] (ug G o r)) (fun x => x = fin)) q) : Wk p l e { frames := 3, cells := 0, slots := 0, locals := 69 } s m args below meth c Γ A (ug G o r) (some (.int fin)) 8 6 [(0, .ref (ad Γ o)), (1, .int v1), (2, .int v2), (3, .int v3), (4, .int v4)] [] (ug G o r) := by
  intro H locs ls hw hS hl
  unfold bX2_fewestGiving_8 at hf
  obtain ⟨hx, hb, hml, hr, hown, htw, hlocks, hE⟩ := id C
  have hown : s.vm.findClass RX2 = some m.cls := hown
  refine lv_iload hx hb dX2_fewestGiving_8 (lv_at hl 4 rfl) ?_
  refine lv_aload_n hx hb dX2_fewestGiving_10 rfl (lv_at hl 0 rfl) ?_
  obtain ⟨z1, hz1, hf⟩ := bd hf
  refine cl_Vs (rest := [.int v4]) (kX2_secretSets (l := l) (Γ := Γ) (A := A) (G := G) (o := o) hk hz1) ⟨hx, hb, hml, hown, htw⟩ hE hw hS (wo_me hw hk) (q0 := 0) rfl rfl mw860 mw851 mw852 mw120 mw853 pdX2_secretSets ⟨Nat.le_of_ble_eq_true rfl, Nat.le_of_ble_eq_true rfl⟩ rfl rfl hl.1 (Nat.le_of_ble_eq_true rfl) dX2_fewestGiving_11 (fun H locs hw hS => ?_)
  refine lv_icmp_ge (tgt := 65) hx hb dX2_fewestGiving_14 (by decide) (fun c9 => ?_) (fun c9 => ?_)
  · have hf := ifp c9 hf
    refine lv_iload_n hx hb dX2_fewestGiving_65 rfl (lv_at hl 2 rfl) ?_
    obtain rfl := Option.some.inj hf
    have hq := hq.2 _ rfl
    subst hq
    exact rt_i C hw hS dX2_fewestGiving_66
  · have hf := ifn c9 hf
    refine lv_iload hx hb dX2_fewestGiving_17 (lv_at hl 4 rfl) ?_
    obtain ⟨z2, hz2, hf⟩ := bd hf
    refine cl_Ss (rest := []) (kJ6_bitCount_0f7a4 (l := l) (Γ := Γ) (A := A) (G := (ug G o r)) hz2) ⟨hx, hb, hml, hown, htw⟩ hE hw hS mw908 mw871 mw136 mw872 pdJ6_bitCount_0f7a4 ⟨Nat.le_of_ble_eq_true rfl, Nat.le_of_ble_eq_true rfl⟩ rfl rfl hl.1 (Nat.le_of_ble_eq_true rfl) dX2_fewestGiving_19 (fun H locs hw hS => ?_)
    refine lv_istore (lv' := [(5, .int z2), (0, .ref (ad Γ o)), (1, .int v1), (2, .int v2), (3, .int v3), (4, .int v4)]) hx hb dX2_fewestGiving_22 hl (by decide) rfl (fun ls hl => ?_)
    refine lv_iload hx hb dX2_fewestGiving_24 (lv_at hl 0 rfl) ?_
    refine lv_iload_n hx hb dX2_fewestGiving_26 rfl (lv_at hl 4 rfl) ?_
    refine lv_icmp_ge (tgt := 59) hx hb dX2_fewestGiving_27 (by decide) (fun c8 => ?_) (fun c8 => ?_)
    · have hf := ifp c8 hf
      exact wX2_fewestGiving_59 C hk hf hq H locs ls hw hS (lv_sub hl [1, 2, 3, 4, 5] rfl)
    · have hf := ifn c8 hf
      refine lv_iload hx hb dX2_fewestGiving_30 (lv_at hl 5 rfl) ?_
      refine lv_iload_n hx hb dX2_fewestGiving_32 rfl (lv_at hl 2 rfl) ?_
      obtain ⟨z3, hz3, hf⟩ := bd hf
      refine cl_SN (rest := []) (kX9_hasBit (l := l) (Γ := Γ) (A := A) (G := (ug G o r)) hz3) ⟨hx, hb, hml, hown, htw⟩ hE hw hS (nw8 hE.2.2.1) mw717 mw118 mw718 pdX9_hasBit ⟨Nat.le_of_ble_eq_true rfl, Nat.le_of_ble_eq_true rfl⟩ rfl rfl hl.1 (Nat.le_of_ble_eq_true rfl) dX2_fewestGiving_33 (fun H locs hw hS => ?_)
      refine lv_if_ne (tgt := 59) hx hb dX2_fewestGiving_36 (by decide) (fun c7 => ?_) (fun c7 => ?_)
      · have hf := ifn c7 hf
        exact wX2_fewestGiving_59 C hk hf hq H locs ls hw hS (lv_sub hl [1, 2, 3, 4, 5] rfl)
      · have hf := ifp c7 hf
        refine lv_aload_n hx hb dX2_fewestGiving_39 rfl (lv_at hl 1 rfl) ?_
        refine lv_iload hx hb dX2_fewestGiving_40 (lv_at hl 5 rfl) ?_
        refine lv_iconst (v := (-1)) hx hb dX2_fewestGiving_42 (by decide) ?_
        obtain ⟨z4, hz4, hf⟩ := bd hf
        refine cl_Vs (rest := []) (kX2_closure (l := l) (Γ := Γ) (A := A) (G := G) (o := o) hk hz4) ⟨hx, hb, hml, hown, htw⟩ hE hw hS (wo_me hw hk) (q0 := 0) rfl rfl mw909 mw893 mw894 mw120 mw895 pdX2_closure ⟨Nat.le_of_ble_eq_true rfl, Nat.le_of_ble_eq_true rfl⟩ rfl rfl hl.1 (Nat.le_of_ble_eq_true rfl) dX2_fewestGiving_43 (fun H locs hw hS => ?_)
        refine lv_iload_n hx hb dX2_fewestGiving_46 rfl (lv_at hl 2 rfl) ?_
        obtain ⟨z5, hz5, hf⟩ := bd hf
        refine cl_SN (rest := []) (kX9_hasBit (l := l) (Γ := Γ) (A := A) (G := (ug G o r)) hz5) ⟨hx, hb, hml, hown, htw⟩ hE hw hS (nw8 hE.2.2.1) mw717 mw118 mw718 pdX9_hasBit ⟨Nat.le_of_ble_eq_true rfl, Nat.le_of_ble_eq_true rfl⟩ rfl rfl hl.1 (Nat.le_of_ble_eq_true rfl) dX2_fewestGiving_47 (fun H locs hw hS => ?_)
        refine lv_if_eq (tgt := 59) hx hb dX2_fewestGiving_50 (by decide) (fun c6 => ?_) (fun c6 => ?_)
        · have hf := ifp c6 hf
          exact wX2_fewestGiving_59 C hk hf hq H locs ls hw hS (lv_sub hl [1, 2, 3, 4, 5] rfl)
        · have hf := ifn c6 hf
          refine lv_iload hx hb dX2_fewestGiving_53 (lv_at hl 5 rfl) ?_
          refine lv_istore_n (lv' := [(2, .int v4), (5, .int z2), (0, .ref (ad Γ o)), (1, .int v1), (3, .int v3), (4, .int v4)]) hx hb dX2_fewestGiving_55 rfl hl (by decide) rfl (fun ls hl => ?_)
          refine lv_iload hx hb dX2_fewestGiving_56 (lv_at hl 1 rfl) ?_
          refine lv_istore_n (lv' := [(3, .int z2), (2, .int v4), (5, .int z2), (0, .ref (ad Γ o)), (1, .int v1), (4, .int v4)]) hx hb dX2_fewestGiving_58 rfl hl (by decide) rfl (fun ls hl => ?_)
          exact wX2_fewestGiving_59 C hk hf hq H locs ls hw hS (lv_sub hl [3, 4, 1, 0, 5] rfl)

set_option maxRecDepth 100000 in
set_option maxHeartbeats 4000000 in
theorem lwX2_fewestGiving_8 {p : Program} {l : Launch} {e : Env} {s : State} {m : MethodId} {args : Array Value} {below : List Frame} {meth : Method} {c : Code} {Γ : Gm} {A : Nat → Prop} {G : Gs} {o : Nat} {r : Rec} {v1 : Int32} {v2 : Int32} {v3 : Int32} {v4 : Int32} {q : Int32} {fin : Int32} (C : Cx p s m args meth c yX2_fewestGiving cX2_fewestGiving 6 (some .int) Γ A) (hk : kd Γ o = some 2) (hf : iter (fun st : Int32 × Int32 × Int32 => bX2_fewestGiving_8 r v1 st.1 st.2.1 st.2.2) (v2, v3, v4) = some q) (hq : (fun x => x = fin) q) : Wk p l e { frames := 3, cells := 0, slots := 0, locals := 69 } s m args below meth c Γ A (ug G o r) (some (.int fin)) 8 6 [(0, .ref (ad Γ o)), (1, .int v1), (2, .int v2), (3, .int v3), (4, .int v4)] [] (ug G o r) := by
  intro H locs ls hw hS hl
  refine iter_walk (P := (fun st : Int32 × Int32 × Int32 => Wk p l e { frames := 3, cells := 0, slots := 0, locals := 69 } s m args below meth c Γ A (ug G o r) (some (.int fin)) 8 6 [(0, .ref (ad Γ o)), (1, .int v1), (2, .int st.1), (3, .int st.2.1), (4, .int st.2.2)] [] (ug G o r))) (K := (fun x => x = fin)) (fun st q hq1 h1 h2 => ?_) hf hq H locs ls hw hS hl
  exact wX2_fewestGiving_8 (v2 := st.1) (v3 := st.2.1) (v4 := st.2.2) C hk hq1 ⟨h1, h2⟩

noncomputable def fX2_fewestGiving (r : Rec) (v1 : Int32) : Option Int32 :=
  iter (fun st : Int32 × Int32 × Int32 => bX2_fewestGiving_8 r v1 st.1 st.2.1 st.2.2) ((-1), 11, 0)
set_option maxRecDepth 100000 in
set_option maxHeartbeats 4000000 in
theorem wX2_fewestGiving_e {p : Program} {l : Launch} {e : Env} {s : State} {m : MethodId} {args : Array Value} {below : List Frame} {meth : Method} {c : Code} {Γ : Gm} {A : Nat → Prop} {G : Gs} {o : Nat} {r : Rec} {v1 : Int32} {q : Int32} {fin : Int32} (C : Cx p s m args meth c yX2_fewestGiving cX2_fewestGiving 6 (some .int) Γ A) (hk : kd Γ o = some 2) (hf : fX2_fewestGiving r v1 = some q) (hq : (fun x => x = fin) q) : Wk p l e { frames := 3, cells := 0, slots := 0, locals := 69 } s m args below meth c Γ A (ug G o r) (some (.int fin)) 0 6 [(0, .ref (ad Γ o)), (1, .int v1)] [] (ug G o r) := by
  intro H locs ls hw hS hl
  unfold fX2_fewestGiving at hf
  obtain ⟨hx, hb, hml, hr, hown, htw, hlocks, hE⟩ := id C
  have hown : s.vm.findClass RX2 = some m.cls := hown
  refine lv_iconst (v := (-1)) hx hb dX2_fewestGiving_0 (by decide) ?_
  refine lv_istore_n (lv' := [(2, .int (-1)), (0, .ref (ad Γ o)), (1, .int v1)]) hx hb dX2_fewestGiving_1 rfl hl (by decide) rfl (fun ls hl => ?_)
  refine lv_bipush (v := 11) hx hb dX2_fewestGiving_2 (by decide) ?_
  refine lv_istore_n (lv' := [(3, .int 11), (2, .int (-1)), (0, .ref (ad Γ o)), (1, .int v1)]) hx hb dX2_fewestGiving_4 rfl hl (by decide) rfl (fun ls hl => ?_)
  refine lv_iconst (v := 0) hx hb dX2_fewestGiving_5 (by decide) ?_
  refine lv_istore (lv' := [(4, .int 0), (3, .int 11), (2, .int (-1)), (0, .ref (ad Γ o)), (1, .int v1)]) hx hb dX2_fewestGiving_6 hl (by decide) rfl (fun ls hl => ?_)
  exact lwX2_fewestGiving_8 C hk hf hq H locs ls hw hS (lv_sub hl [3, 4, 2, 1, 0] rfl)

theorem kX2_fewestGiving {l : Launch} {Γ : Gm} {A : Nat → Prop} {G : Gs} {o : Nat} {r : Rec} {v1 : Int32} {fin : Int32} (hk : kd Γ o = some 2) (hf : fX2_fewestGiving r v1 = some fin) : Kt l yX2_fewestGiving cX2_fewestGiving 6 (some .int) 3 69 Γ A (ug G o r) (ug G o r) [.ref (ad Γ o), .int v1] (some (.int fin)) :=
  kt_of (by decide) (Nat.le_of_ble_eq_true rfl) (fun p e s m args below meth c C => wX2_fewestGiving_e C hk hf rfl)
theorem kgX2_fewestGiving {l : Launch} {Γ : Gm} {A : Nat → Prop} {G : Gs} {o : Nat} {v1 : Int32} {fin : Int32} (hk : kd Γ o = some 2) (hf : fX2_fewestGiving (G o) v1 = some fin) : Kt l yX2_fewestGiving cX2_fewestGiving 6 (some .int) 3 69 Γ A G G [.ref (ad Γ o), .int v1] (some (.int fin)) := by
  have h := kX2_fewestGiving (l := l) (A := A) (G := G) (r := G o) hk hf
  rw [ug_self] at h
  exact h
noncomputable def bX2_mayBeTold_15 (r : Rec) (v1 : Int32) (v2 : Int32) : Option (Int32 ⊕ Int32) :=
  if (gi r 1) ≤ v2 then some (.inr (1)) else gd (inR v2 10) (if (ga r 7 (Int32.toNatClampNeg v2)) ≤ v1 then some (.inl (v2 + 1)) else some (.inr (0)))
set_option maxRecDepth 100000 in
set_option maxHeartbeats 4000000 in
theorem wX2_mayBeTold_15 {p : Program} {l : Launch} {e : Env} {s : State} {m : MethodId} {args : Array Value} {below : List Frame} {meth : Method} {c : Code} {Γ : Gm} {A : Nat → Prop} {G : Gs} {o : Nat} {r : Rec} {v1 : Int32} {v2 : Int32} {q : (Int32 ⊕ Int32)} {fin : Int32} (C : Cx p s m args meth c yX2_mayBeTold cX2_mayBeTold 3 (some .boolean) Γ A) (hk : kd Γ o = some 2) (hf : bX2_mayBeTold_15 r v1 v2 = some q) (hq : (KC (fun st : Int32 => Wk p l e { frames := 0, cells := 0, slots := 0, locals := 0 } s m args below meth c Γ A (ug G o r) (some (.int fin)) 15 3 [(0, .ref (ad Γ o)), (1, .int v1), (2, .int st)] [] (ug G o r)) (fun x => x = fin)) q) : Wk p l e { frames := 0, cells := 0, slots := 0, locals := 0 } s m args below meth c Γ A (ug G o r) (some (.int fin)) 15 3 [(0, .ref (ad Γ o)), (1, .int v1), (2, .int v2)] [] (ug G o r) := by
  intro H locs ls hw hS hl
  unfold bX2_mayBeTold_15 at hf
  obtain ⟨hx, hb, hml, hr, hown, htw, hlocks, hE⟩ := id C
  have hown : s.vm.findClass RX2 = some m.cls := hown
  refine lv_iload_n hx hb dX2_mayBeTold_15 rfl (lv_at hl 2 rfl) ?_
  refine lv_aload_n hx hb dX2_mayBeTold_16 rfl (lv_at hl 0 rfl) ?_
  refine va_get (ci := 2) (v := .int (gi r 1)) (C := RX2) (T := TX2) (N := 11) hx hb htw uwX2 hown hE.1 (wo_me hw hk) 0 rfl rfl 1 (by decide) (htw _ mw165) (fun _ h9 => h9) rfl dX2_mayBeTold_17 ?_
  refine lv_icmp_ge (tgt := 41) hx hb dX2_mayBeTold_20 (by decide) (fun c3 => ?_) (fun c3 => ?_)
  · have hf := ifp c3 hf
    refine lv_iconst (v := 1) hx hb dX2_mayBeTold_41 (by decide) ?_
    obtain rfl := Option.some.inj hf
    have hq := hq.2 _ rfl
    subst hq
    exact rt_z C (Or.inr rfl) hw hS dX2_mayBeTold_42
  · have hf := ifn c3 hf
    refine lv_aload_n hx hb dX2_mayBeTold_23 rfl (lv_at hl 0 rfl) ?_
    refine va_get (ci := 2) (v := .ref (aa Γ o 7)) (C := RX2) (T := TX2) (N := 11) hx hb htw uwX2 hown hE.1 (wo_me hw hk) 0 rfl rfl 7 (by decide) (htw _ mw184) (fun _ h9 => h9) rfl dX2_mayBeTold_24 ?_
    refine lv_iload_n hx hb dX2_mayBeTold_27 rfl (lv_at hl 2 rfl) ?_
    obtain ⟨g1, hf⟩ := gd_some hf
    refine va_iald hx hb hE.1 (wo_me hw hk) 5 0 rfl rfl (inR_in g1) dX2_mayBeTold_28 ?_
    refine lv_iload_n hx hb dX2_mayBeTold_29 rfl (lv_at hl 1 rfl) ?_
    refine lv_icmp_le (tgt := 35) hx hb dX2_mayBeTold_30 (by decide) (fun c2 => ?_) (fun c2 => ?_)
    · have hf := ifp c2 hf
      refine lv_iinc (v := v2 + 1) (lv' := [(2, .int (v2 + 1)), (0, .ref (ad Γ o)), (1, .int v1)]) hx hb dX2_mayBeTold_35 hl (k := 2) rfl (by rfl) (by decide) rfl (fun ls hl => ?_)
      refine lv_goto (tgt := 15) hx hb dX2_mayBeTold_38 (by decide) ?_
      obtain rfl := Option.some.inj hf
      exact hq.1 _ rfl H locs ls hw hS (lv_sub hl [1, 2, 0] rfl)
    · have hf := ifn c2 hf
      refine lv_iconst (v := 0) hx hb dX2_mayBeTold_33 (by decide) ?_
      obtain rfl := Option.some.inj hf
      have hq := hq.2 _ rfl
      subst hq
      exact rt_z C (Or.inl rfl) hw hS dX2_mayBeTold_34

set_option maxRecDepth 100000 in
set_option maxHeartbeats 4000000 in
theorem lwX2_mayBeTold_15 {p : Program} {l : Launch} {e : Env} {s : State} {m : MethodId} {args : Array Value} {below : List Frame} {meth : Method} {c : Code} {Γ : Gm} {A : Nat → Prop} {G : Gs} {o : Nat} {r : Rec} {v1 : Int32} {v2 : Int32} {q : Int32} {fin : Int32} (C : Cx p s m args meth c yX2_mayBeTold cX2_mayBeTold 3 (some .boolean) Γ A) (hk : kd Γ o = some 2) (hf : iter (fun st : Int32 => bX2_mayBeTold_15 r v1 st) v2 = some q) (hq : (fun x => x = fin) q) : Wk p l e { frames := 0, cells := 0, slots := 0, locals := 0 } s m args below meth c Γ A (ug G o r) (some (.int fin)) 15 3 [(0, .ref (ad Γ o)), (1, .int v1), (2, .int v2)] [] (ug G o r) := by
  intro H locs ls hw hS hl
  refine iter_walk (P := (fun st : Int32 => Wk p l e { frames := 0, cells := 0, slots := 0, locals := 0 } s m args below meth c Γ A (ug G o r) (some (.int fin)) 15 3 [(0, .ref (ad Γ o)), (1, .int v1), (2, .int st)] [] (ug G o r))) (K := (fun x => x = fin)) (fun st q hq1 h1 h2 => ?_) hf hq H locs ls hw hS hl
  exact wX2_mayBeTold_15 (v2 := st) C hk hq1 ⟨h1, h2⟩

noncomputable def fX2_mayBeTold (r : Rec) (v1 : Int32) : Option Int32 :=
  if v1 < 1 then some (0) else if v1 ≤ 99 then iter (fun st : Int32 => bX2_mayBeTold_15 r v1 st) 0 else some (0)
set_option maxRecDepth 100000 in
set_option maxHeartbeats 4000000 in
theorem wX2_mayBeTold_e {p : Program} {l : Launch} {e : Env} {s : State} {m : MethodId} {args : Array Value} {below : List Frame} {meth : Method} {c : Code} {Γ : Gm} {A : Nat → Prop} {G : Gs} {o : Nat} {r : Rec} {v1 : Int32} {q : Int32} {fin : Int32} (C : Cx p s m args meth c yX2_mayBeTold cX2_mayBeTold 3 (some .boolean) Γ A) (hk : kd Γ o = some 2) (hf : fX2_mayBeTold r v1 = some q) (hq : (fun x => x = fin) q) : Wk p l e { frames := 0, cells := 0, slots := 0, locals := 0 } s m args below meth c Γ A (ug G o r) (some (.int fin)) 0 3 [(0, .ref (ad Γ o)), (1, .int v1)] [] (ug G o r) := by
  intro H locs ls hw hS hl
  unfold fX2_mayBeTold at hf
  obtain ⟨hx, hb, hml, hr, hown, htw, hlocks, hE⟩ := id C
  have hown : s.vm.findClass RX2 = some m.cls := hown
  refine lv_iload_n hx hb dX2_mayBeTold_0 rfl (lv_at hl 1 rfl) ?_
  refine lv_iconst (v := 1) hx hb dX2_mayBeTold_1 (by decide) ?_
  refine lv_icmp_lt (tgt := 11) hx hb dX2_mayBeTold_2 (by decide) (fun c5 => ?_) (fun c5 => ?_)
  · have hf := ifp c5 hf
    refine lv_iconst (v := 0) hx hb dX2_mayBeTold_11 (by decide) ?_
    obtain rfl := Option.some.inj hf
    subst hq
    exact rt_z C (Or.inl rfl) hw hS dX2_mayBeTold_12
  · have hf := ifn c5 hf
    refine lv_iload_n hx hb dX2_mayBeTold_5 rfl (lv_at hl 1 rfl) ?_
    refine lv_bipush (v := 99) hx hb dX2_mayBeTold_6 (by decide) ?_
    refine lv_icmp_le (tgt := 13) hx hb dX2_mayBeTold_8 (by decide) (fun c4 => ?_) (fun c4 => ?_)
    · have hf := ifp c4 hf
      refine lv_iconst (v := 0) hx hb dX2_mayBeTold_13 (by decide) ?_
      refine lv_istore_n (lv' := [(2, .int 0), (0, .ref (ad Γ o)), (1, .int v1)]) hx hb dX2_mayBeTold_14 rfl hl (by decide) rfl (fun ls hl => ?_)
      exact lwX2_mayBeTold_15 C hk hf hq H locs ls hw hS (lv_sub hl [1, 2, 0] rfl)
    · have hf := ifn c4 hf
      refine lv_iconst (v := 0) hx hb dX2_mayBeTold_11 (by decide) ?_
      obtain rfl := Option.some.inj hf
      subst hq
      exact rt_z C (Or.inl rfl) hw hS dX2_mayBeTold_12

theorem kX2_mayBeTold {l : Launch} {Γ : Gm} {A : Nat → Prop} {G : Gs} {o : Nat} {r : Rec} {v1 : Int32} {fin : Int32} (hk : kd Γ o = some 2) (hf : fX2_mayBeTold r v1 = some fin) : Kt l yX2_mayBeTold cX2_mayBeTold 3 (some .boolean) 0 0 Γ A (ug G o r) (ug G o r) [.ref (ad Γ o), .int v1] (some (.int fin)) :=
  kt_of (by decide) (Nat.le_of_ble_eq_true rfl) (fun p e s m args below meth c C => wX2_mayBeTold_e C hk hf rfl)
theorem kgX2_mayBeTold {l : Launch} {Γ : Gm} {A : Nat → Prop} {G : Gs} {o : Nat} {v1 : Int32} {fin : Int32} (hk : kd Γ o = some 2) (hf : fX2_mayBeTold (G o) v1 = some fin) : Kt l yX2_mayBeTold cX2_mayBeTold 3 (some .boolean) 0 0 Γ A G G [.ref (ad Γ o), .int v1] (some (.int fin)) := by
  have h := kX2_mayBeTold (l := l) (A := A) (G := G) (r := G o) hk hf
  rw [ug_self] at h
  exact h
noncomputable def bX2_countSets_26 (r : Rec) (v1 : Int32) (v3 : Int32) (s0 : Int32) (s1 : Int32) : Option ((Int32 × Int32) ⊕ Int32) :=
  some (.inl (s1 + s0, v3 + 1))
set_option maxRecDepth 100000 in
set_option maxHeartbeats 4000000 in
theorem wX2_countSets_26 {p : Program} {l : Launch} {e : Env} {s : State} {m : MethodId} {args : Array Value} {below : List Frame} {meth : Method} {c : Code} {Γ : Gm} {A : Nat → Prop} {G : Gs} {o : Nat} {r : Rec} {v1 : Int32} {v3 : Int32} {s0 : Int32} {s1 : Int32} {q : ((Int32 × Int32) ⊕ Int32)} {fin : Int32} (C : Cx p s m args meth c yX2_countSets cX2_countSets 4 (some .int) Γ A) (hk : kd Γ o = some 2) (hf : bX2_countSets_26 r v1 v3 s0 s1 = some q) (hq : (KC (fun st : Int32 × Int32 => Wk p l e { frames := 1, cells := 0, slots := 0, locals := 20 } s m args below meth c Γ A (ug G o r) (some (.int fin)) 4 4 [(0, .ref (ad Γ o)), (1, .int v1), (2, .int st.1), (3, .int st.2)] [] (ug G o r)) (fun x => x = fin)) q) : Wk p l e { frames := 1, cells := 0, slots := 0, locals := 20 } s m args below meth c Γ A (ug G o r) (some (.int fin)) 26 4 [(0, .ref (ad Γ o)), (1, .int v1), (3, .int v3)] [.int s0, .int s1] (ug G o r) := by
  intro H locs ls hw hS hl
  unfold bX2_countSets_26 at hf
  obtain ⟨hx, hb, hml, hr, hown, htw, hlocks, hE⟩ := id C
  have hown : s.vm.findClass RX2 = some m.cls := hown
  refine lv_iadd hx hb dX2_countSets_26 ?_
  refine lv_istore_n (lv' := [(2, .int (s1 + s0)), (0, .ref (ad Γ o)), (1, .int v1), (3, .int v3)]) hx hb dX2_countSets_27 rfl hl (by decide) rfl (fun ls hl => ?_)
  refine lv_iinc (v := v3 + 1) (lv' := [(3, .int (v3 + 1)), (2, .int (s1 + s0)), (0, .ref (ad Γ o)), (1, .int v1)]) hx hb dX2_countSets_28 hl (k := 3) rfl (by rfl) (by decide) rfl (fun ls hl => ?_)
  refine lv_goto (tgt := 4) hx hb dX2_countSets_31 (by decide) ?_
  obtain rfl := Option.some.inj hf
  exact hq.1 _ rfl H locs ls hw hS (lv_sub hl [2, 3, 1, 0] rfl)

noncomputable def bX2_countSets_4 (r : Rec) (v1 : Int32) (v2 : Int32) (v3 : Int32) : Option ((Int32 × Int32) ⊕ Int32) :=
  (fX2_secretSets r).bind fun z1 => if z1 ≤ v3 then some (.inr (v2)) else (fJ6_bitCount_0f7a4 v3).bind fun z2 => if z2 = v1 then bX2_countSets_26 r v1 v3 1 v2 else bX2_countSets_26 r v1 v3 0 v2
set_option maxRecDepth 100000 in
set_option maxHeartbeats 4000000 in
theorem wX2_countSets_4 {p : Program} {l : Launch} {e : Env} {s : State} {m : MethodId} {args : Array Value} {below : List Frame} {meth : Method} {c : Code} {Γ : Gm} {A : Nat → Prop} {G : Gs} {o : Nat} {r : Rec} {v1 : Int32} {v2 : Int32} {v3 : Int32} {q : ((Int32 × Int32) ⊕ Int32)} {fin : Int32} (C : Cx p s m args meth c yX2_countSets cX2_countSets 4 (some .int) Γ A) (hk : kd Γ o = some 2) (hf : bX2_countSets_4 r v1 v2 v3 = some q) (hq : (KC (fun st : Int32 × Int32 => Wk p l e { frames := 1, cells := 0, slots := 0, locals := 20 } s m args below meth c Γ A (ug G o r) (some (.int fin)) 4 4 [(0, .ref (ad Γ o)), (1, .int v1), (2, .int st.1), (3, .int st.2)] [] (ug G o r)) (fun x => x = fin)) q) : Wk p l e { frames := 1, cells := 0, slots := 0, locals := 20 } s m args below meth c Γ A (ug G o r) (some (.int fin)) 4 4 [(0, .ref (ad Γ o)), (1, .int v1), (2, .int v2), (3, .int v3)] [] (ug G o r) := by
  intro H locs ls hw hS hl
  unfold bX2_countSets_4 at hf
  obtain ⟨hx, hb, hml, hr, hown, htw, hlocks, hE⟩ := id C
  have hown : s.vm.findClass RX2 = some m.cls := hown
  refine lv_iload_n hx hb dX2_countSets_4 rfl (lv_at hl 3 rfl) ?_
  refine lv_aload_n hx hb dX2_countSets_5 rfl (lv_at hl 0 rfl) ?_
  obtain ⟨z1, hz1, hf⟩ := bd hf
  refine cl_Vs (rest := [.int v3]) (kX2_secretSets (l := l) (Γ := Γ) (A := A) (G := G) (o := o) hk hz1) ⟨hx, hb, hml, hown, htw⟩ hE hw hS (wo_me hw hk) (q0 := 0) rfl rfl mw860 mw851 mw852 mw120 mw853 pdX2_secretSets ⟨Nat.le_of_ble_eq_true rfl, Nat.le_of_ble_eq_true rfl⟩ rfl rfl hl.1 (Nat.le_of_ble_eq_true rfl) dX2_countSets_6 (fun H locs hw hS => ?_)
  refine lv_icmp_ge (tgt := 34) hx hb dX2_countSets_9 (by decide) (fun c4 => ?_) (fun c4 => ?_)
  · have hf := ifp c4 hf
    refine lv_iload_n hx hb dX2_countSets_34 rfl (lv_at hl 2 rfl) ?_
    obtain rfl := Option.some.inj hf
    have hq := hq.2 _ rfl
    subst hq
    exact rt_i C hw hS dX2_countSets_35
  · have hf := ifn c4 hf
    refine lv_iload_n hx hb dX2_countSets_12 rfl (lv_at hl 2 rfl) ?_
    refine lv_iload_n hx hb dX2_countSets_13 rfl (lv_at hl 3 rfl) ?_
    obtain ⟨z2, hz2, hf⟩ := bd hf
    refine cl_Ss (rest := [.int v2]) (kJ6_bitCount_0f7a4 (l := l) (Γ := Γ) (A := A) (G := (ug G o r)) hz2) ⟨hx, hb, hml, hown, htw⟩ hE hw hS mw908 mw871 mw136 mw872 pdJ6_bitCount_0f7a4 ⟨Nat.le_of_ble_eq_true rfl, Nat.le_of_ble_eq_true rfl⟩ rfl rfl hl.1 (Nat.le_of_ble_eq_true rfl) dX2_countSets_14 (fun H locs hw hS => ?_)
    refine lv_iload_n hx hb dX2_countSets_17 rfl (lv_at hl 1 rfl) ?_
    refine lv_icmp_ne (tgt := 25) hx hb dX2_countSets_18 (by decide) (fun c3 => ?_) (fun c3 => ?_)
    · have hf := ifn c3 hf
      refine lv_iconst (v := 0) hx hb dX2_countSets_25 (by decide) ?_
      exact wX2_countSets_26 C hk hf hq H locs ls hw hS (lv_sub hl [0, 1, 3] rfl)
    · have hf := ifp c3 hf
      refine lv_iconst (v := 1) hx hb dX2_countSets_21 (by decide) ?_
      refine lv_goto (tgt := 26) hx hb dX2_countSets_22 (by decide) ?_
      exact wX2_countSets_26 C hk hf hq H locs ls hw hS (lv_sub hl [0, 1, 3] rfl)

set_option maxRecDepth 100000 in
set_option maxHeartbeats 4000000 in
theorem lwX2_countSets_4 {p : Program} {l : Launch} {e : Env} {s : State} {m : MethodId} {args : Array Value} {below : List Frame} {meth : Method} {c : Code} {Γ : Gm} {A : Nat → Prop} {G : Gs} {o : Nat} {r : Rec} {v1 : Int32} {v2 : Int32} {v3 : Int32} {q : Int32} {fin : Int32} (C : Cx p s m args meth c yX2_countSets cX2_countSets 4 (some .int) Γ A) (hk : kd Γ o = some 2) (hf : iter (fun st : Int32 × Int32 => bX2_countSets_4 r v1 st.1 st.2) (v2, v3) = some q) (hq : (fun x => x = fin) q) : Wk p l e { frames := 1, cells := 0, slots := 0, locals := 20 } s m args below meth c Γ A (ug G o r) (some (.int fin)) 4 4 [(0, .ref (ad Γ o)), (1, .int v1), (2, .int v2), (3, .int v3)] [] (ug G o r) := by
  intro H locs ls hw hS hl
  refine iter_walk (P := (fun st : Int32 × Int32 => Wk p l e { frames := 1, cells := 0, slots := 0, locals := 20 } s m args below meth c Γ A (ug G o r) (some (.int fin)) 4 4 [(0, .ref (ad Γ o)), (1, .int v1), (2, .int st.1), (3, .int st.2)] [] (ug G o r))) (K := (fun x => x = fin)) (fun st q hq1 h1 h2 => ?_) hf hq H locs ls hw hS hl
  exact wX2_countSets_4 (v2 := st.1) (v3 := st.2) C hk hq1 ⟨h1, h2⟩

noncomputable def fX2_countSets (r : Rec) (v1 : Int32) : Option Int32 :=
  iter (fun st : Int32 × Int32 => bX2_countSets_4 r v1 st.1 st.2) (0, 0)
set_option maxRecDepth 100000 in
set_option maxHeartbeats 4000000 in
theorem wX2_countSets_e {p : Program} {l : Launch} {e : Env} {s : State} {m : MethodId} {args : Array Value} {below : List Frame} {meth : Method} {c : Code} {Γ : Gm} {A : Nat → Prop} {G : Gs} {o : Nat} {r : Rec} {v1 : Int32} {q : Int32} {fin : Int32} (C : Cx p s m args meth c yX2_countSets cX2_countSets 4 (some .int) Γ A) (hk : kd Γ o = some 2) (hf : fX2_countSets r v1 = some q) (hq : (fun x => x = fin) q) : Wk p l e { frames := 1, cells := 0, slots := 0, locals := 20 } s m args below meth c Γ A (ug G o r) (some (.int fin)) 0 4 [(0, .ref (ad Γ o)), (1, .int v1)] [] (ug G o r) := by
  intro H locs ls hw hS hl
  unfold fX2_countSets at hf
  obtain ⟨hx, hb, hml, hr, hown, htw, hlocks, hE⟩ := id C
  have hown : s.vm.findClass RX2 = some m.cls := hown
  refine lv_iconst (v := 0) hx hb dX2_countSets_0 (by decide) ?_
  refine lv_istore_n (lv' := [(2, .int 0), (0, .ref (ad Γ o)), (1, .int v1)]) hx hb dX2_countSets_1 rfl hl (by decide) rfl (fun ls hl => ?_)
  refine lv_iconst (v := 0) hx hb dX2_countSets_2 (by decide) ?_
  refine lv_istore_n (lv' := [(3, .int 0), (2, .int 0), (0, .ref (ad Γ o)), (1, .int v1)]) hx hb dX2_countSets_3 rfl hl (by decide) rfl (fun ls hl => ?_)
  exact lwX2_countSets_4 C hk hf hq H locs ls hw hS (lv_sub hl [2, 3, 1, 0] rfl)

theorem kX2_countSets {l : Launch} {Γ : Gm} {A : Nat → Prop} {G : Gs} {o : Nat} {r : Rec} {v1 : Int32} {fin : Int32} (hk : kd Γ o = some 2) (hf : fX2_countSets r v1 = some fin) : Kt l yX2_countSets cX2_countSets 4 (some .int) 1 20 Γ A (ug G o r) (ug G o r) [.ref (ad Γ o), .int v1] (some (.int fin)) :=
  kt_of (by decide) (Nat.le_of_ble_eq_true rfl) (fun p e s m args below meth c C => wX2_countSets_e C hk hf rfl)
theorem kgX2_countSets {l : Launch} {Γ : Gm} {A : Nat → Prop} {G : Gs} {o : Nat} {v1 : Int32} {fin : Int32} (hk : kd Γ o = some 2) (hf : fX2_countSets (G o) v1 = some fin) : Kt l yX2_countSets cX2_countSets 4 (some .int) 1 20 Γ A G G [.ref (ad Γ o), .int v1] (some (.int fin)) := by
  have h := kX2_countSets (l := l) (A := A) (G := G) (r := G o) hk hf
  rw [ug_self] at h
  exact h
noncomputable def bX2_countHiding_40 (r : Rec) (v1 : Int32) (v2 : Int32) (v3 : Int32) (v4 : Int32) : Option ((Int32 × Int32) ⊕ Int32) :=
  some (.inl (v3, v4 + 1))
set_option maxRecDepth 100000 in
set_option maxHeartbeats 4000000 in
theorem wX2_countHiding_40 {p : Program} {l : Launch} {e : Env} {s : State} {m : MethodId} {args : Array Value} {below : List Frame} {meth : Method} {c : Code} {Γ : Gm} {A : Nat → Prop} {G : Gs} {o : Nat} {r : Rec} {v1 : Int32} {v2 : Int32} {v3 : Int32} {v4 : Int32} {q : ((Int32 × Int32) ⊕ Int32)} {fin : Int32} (C : Cx p s m args meth c yX2_countHiding cX2_countHiding 5 (some .int) Γ A) (hk : kd Γ o = some 2) (hf : bX2_countHiding_40 r v1 v2 v3 v4 = some q) (hq : (KC (fun st : Int32 × Int32 => Wk p l e { frames := 3, cells := 0, slots := 0, locals := 69 } s m args below meth c Γ A (ug G o r) (some (.int fin)) 5 5 [(0, .ref (ad Γ o)), (1, .int v1), (2, .int v2), (3, .int st.1), (4, .int st.2)] [] (ug G o r)) (fun x => x = fin)) q) : Wk p l e { frames := 3, cells := 0, slots := 0, locals := 69 } s m args below meth c Γ A (ug G o r) (some (.int fin)) 40 5 [(0, .ref (ad Γ o)), (1, .int v1), (2, .int v2), (3, .int v3), (4, .int v4)] [] (ug G o r) := by
  intro H locs ls hw hS hl
  unfold bX2_countHiding_40 at hf
  obtain ⟨hx, hb, hml, hr, hown, htw, hlocks, hE⟩ := id C
  have hown : s.vm.findClass RX2 = some m.cls := hown
  refine lv_iinc (v := v4 + 1) (lv' := [(4, .int (v4 + 1)), (0, .ref (ad Γ o)), (1, .int v1), (2, .int v2), (3, .int v3)]) hx hb dX2_countHiding_40 hl (k := 4) rfl (by rfl) (by decide) rfl (fun ls hl => ?_)
  refine lv_goto (tgt := 5) hx hb dX2_countHiding_43 (by decide) ?_
  obtain rfl := Option.some.inj hf
  exact hq.1 _ rfl H locs ls hw hS (lv_sub hl [1, 2, 3, 4, 0] rfl)

noncomputable def bX2_countHiding_5 (r : Rec) (v1 : Int32) (v2 : Int32) (v3 : Int32) (v4 : Int32) : Option ((Int32 × Int32) ⊕ Int32) :=
  (fX2_secretSets r).bind fun z1 => if z1 ≤ v4 then some (.inr (v3)) else (fJ6_bitCount_0f7a4 v4).bind fun z2 => if z2 = v2 then (fX2_closure r v4 (-1)).bind fun z3 => (fX9_hasBit z3 v1).bind fun z4 => if z4 = 0 then bX2_countHiding_40 r v1 v2 (v3 + 1) v4 else bX2_countHiding_40 r v1 v2 v3 v4 else bX2_countHiding_40 r v1 v2 v3 v4
set_option maxRecDepth 100000 in
set_option maxHeartbeats 4000000 in
theorem wX2_countHiding_5 {p : Program} {l : Launch} {e : Env} {s : State} {m : MethodId} {args : Array Value} {below : List Frame} {meth : Method} {c : Code} {Γ : Gm} {A : Nat → Prop} {G : Gs} {o : Nat} {r : Rec} {v1 : Int32} {v2 : Int32} {v3 : Int32} {v4 : Int32} {q : ((Int32 × Int32) ⊕ Int32)} {fin : Int32} (C : Cx p s m args meth c yX2_countHiding cX2_countHiding 5 (some .int) Γ A) (hk : kd Γ o = some 2) (hf : bX2_countHiding_5 r v1 v2 v3 v4 = some q) (hq : (KC (fun st : Int32 × Int32 => Wk p l e { frames := 3, cells := 0, slots := 0, locals := 69 } s m args below meth c Γ A (ug G o r) (some (.int fin)) 5 5 [(0, .ref (ad Γ o)), (1, .int v1), (2, .int v2), (3, .int st.1), (4, .int st.2)] [] (ug G o r)) (fun x => x = fin)) q) : Wk p l e { frames := 3, cells := 0, slots := 0, locals := 69 } s m args below meth c Γ A (ug G o r) (some (.int fin)) 5 5 [(0, .ref (ad Γ o)), (1, .int v1), (2, .int v2), (3, .int v3), (4, .int v4)] [] (ug G o r) := by
  intro H locs ls hw hS hl
  unfold bX2_countHiding_5 at hf
  obtain ⟨hx, hb, hml, hr, hown, htw, hlocks, hE⟩ := id C
  have hown : s.vm.findClass RX2 = some m.cls := hown
  refine lv_iload hx hb dX2_countHiding_5 (lv_at hl 4 rfl) ?_
  refine lv_aload_n hx hb dX2_countHiding_7 rfl (lv_at hl 0 rfl) ?_
  obtain ⟨z1, hz1, hf⟩ := bd hf
  refine cl_Vs (rest := [.int v4]) (kX2_secretSets (l := l) (Γ := Γ) (A := A) (G := G) (o := o) hk hz1) ⟨hx, hb, hml, hown, htw⟩ hE hw hS (wo_me hw hk) (q0 := 0) rfl rfl mw860 mw851 mw852 mw120 mw853 pdX2_secretSets ⟨Nat.le_of_ble_eq_true rfl, Nat.le_of_ble_eq_true rfl⟩ rfl rfl hl.1 (Nat.le_of_ble_eq_true rfl) dX2_countHiding_8 (fun H locs hw hS => ?_)
  refine lv_icmp_ge (tgt := 46) hx hb dX2_countHiding_11 (by decide) (fun c7 => ?_) (fun c7 => ?_)
  · have hf := ifp c7 hf
    refine lv_iload_n hx hb dX2_countHiding_46 rfl (lv_at hl 3 rfl) ?_
    obtain rfl := Option.some.inj hf
    have hq := hq.2 _ rfl
    subst hq
    exact rt_i C hw hS dX2_countHiding_47
  · have hf := ifn c7 hf
    refine lv_iload hx hb dX2_countHiding_14 (lv_at hl 4 rfl) ?_
    obtain ⟨z2, hz2, hf⟩ := bd hf
    refine cl_Ss (rest := []) (kJ6_bitCount_0f7a4 (l := l) (Γ := Γ) (A := A) (G := (ug G o r)) hz2) ⟨hx, hb, hml, hown, htw⟩ hE hw hS mw908 mw871 mw136 mw872 pdJ6_bitCount_0f7a4 ⟨Nat.le_of_ble_eq_true rfl, Nat.le_of_ble_eq_true rfl⟩ rfl rfl hl.1 (Nat.le_of_ble_eq_true rfl) dX2_countHiding_16 (fun H locs hw hS => ?_)
    refine lv_iload_n hx hb dX2_countHiding_19 rfl (lv_at hl 2 rfl) ?_
    refine lv_icmp_ne (tgt := 40) hx hb dX2_countHiding_20 (by decide) (fun c6 => ?_) (fun c6 => ?_)
    · have hf := ifn c6 hf
      exact wX2_countHiding_40 C hk hf hq H locs ls hw hS hl
    · have hf := ifp c6 hf
      refine lv_aload_n hx hb dX2_countHiding_23 rfl (lv_at hl 0 rfl) ?_
      refine lv_iload hx hb dX2_countHiding_24 (lv_at hl 4 rfl) ?_
      refine lv_iconst (v := (-1)) hx hb dX2_countHiding_26 (by decide) ?_
      obtain ⟨z3, hz3, hf⟩ := bd hf
      refine cl_Vs (rest := []) (kX2_closure (l := l) (Γ := Γ) (A := A) (G := G) (o := o) hk hz3) ⟨hx, hb, hml, hown, htw⟩ hE hw hS (wo_me hw hk) (q0 := 0) rfl rfl mw909 mw893 mw894 mw120 mw895 pdX2_closure ⟨Nat.le_of_ble_eq_true rfl, Nat.le_of_ble_eq_true rfl⟩ rfl rfl hl.1 (Nat.le_of_ble_eq_true rfl) dX2_countHiding_27 (fun H locs hw hS => ?_)
      refine lv_iload_n hx hb dX2_countHiding_30 rfl (lv_at hl 1 rfl) ?_
      obtain ⟨z4, hz4, hf⟩ := bd hf
      refine cl_SN (rest := []) (kX9_hasBit (l := l) (Γ := Γ) (A := A) (G := (ug G o r)) hz4) ⟨hx, hb, hml, hown, htw⟩ hE hw hS (nw8 hE.2.2.1) mw717 mw118 mw718 pdX9_hasBit ⟨Nat.le_of_ble_eq_true rfl, Nat.le_of_ble_eq_true rfl⟩ rfl rfl hl.1 (Nat.le_of_ble_eq_true rfl) dX2_countHiding_31 (fun H locs hw hS => ?_)
      refine lv_if_ne (tgt := 40) hx hb dX2_countHiding_34 (by decide) (fun c5 => ?_) (fun c5 => ?_)
      · have hf := ifn c5 hf
        exact wX2_countHiding_40 C hk hf hq H locs ls hw hS hl
      · have hf := ifp c5 hf
        refine lv_iinc (v := v3 + 1) (lv' := [(3, .int (v3 + 1)), (0, .ref (ad Γ o)), (1, .int v1), (2, .int v2), (4, .int v4)]) hx hb dX2_countHiding_37 hl (k := 3) rfl (by rfl) (by decide) rfl (fun ls hl => ?_)
        exact wX2_countHiding_40 C hk hf hq H locs ls hw hS (lv_sub hl [1, 2, 3, 0, 4] rfl)

set_option maxRecDepth 100000 in
set_option maxHeartbeats 4000000 in
theorem lwX2_countHiding_5 {p : Program} {l : Launch} {e : Env} {s : State} {m : MethodId} {args : Array Value} {below : List Frame} {meth : Method} {c : Code} {Γ : Gm} {A : Nat → Prop} {G : Gs} {o : Nat} {r : Rec} {v1 : Int32} {v2 : Int32} {v3 : Int32} {v4 : Int32} {q : Int32} {fin : Int32} (C : Cx p s m args meth c yX2_countHiding cX2_countHiding 5 (some .int) Γ A) (hk : kd Γ o = some 2) (hf : iter (fun st : Int32 × Int32 => bX2_countHiding_5 r v1 v2 st.1 st.2) (v3, v4) = some q) (hq : (fun x => x = fin) q) : Wk p l e { frames := 3, cells := 0, slots := 0, locals := 69 } s m args below meth c Γ A (ug G o r) (some (.int fin)) 5 5 [(0, .ref (ad Γ o)), (1, .int v1), (2, .int v2), (3, .int v3), (4, .int v4)] [] (ug G o r) := by
  intro H locs ls hw hS hl
  refine iter_walk (P := (fun st : Int32 × Int32 => Wk p l e { frames := 3, cells := 0, slots := 0, locals := 69 } s m args below meth c Γ A (ug G o r) (some (.int fin)) 5 5 [(0, .ref (ad Γ o)), (1, .int v1), (2, .int v2), (3, .int st.1), (4, .int st.2)] [] (ug G o r))) (K := (fun x => x = fin)) (fun st q hq1 h1 h2 => ?_) hf hq H locs ls hw hS hl
  exact wX2_countHiding_5 (v3 := st.1) (v4 := st.2) C hk hq1 ⟨h1, h2⟩

noncomputable def fX2_countHiding (r : Rec) (v1 : Int32) (v2 : Int32) : Option Int32 :=
  iter (fun st : Int32 × Int32 => bX2_countHiding_5 r v1 v2 st.1 st.2) (0, 0)
set_option maxRecDepth 100000 in
set_option maxHeartbeats 4000000 in
theorem wX2_countHiding_e {p : Program} {l : Launch} {e : Env} {s : State} {m : MethodId} {args : Array Value} {below : List Frame} {meth : Method} {c : Code} {Γ : Gm} {A : Nat → Prop} {G : Gs} {o : Nat} {r : Rec} {v1 : Int32} {v2 : Int32} {q : Int32} {fin : Int32} (C : Cx p s m args meth c yX2_countHiding cX2_countHiding 5 (some .int) Γ A) (hk : kd Γ o = some 2) (hf : fX2_countHiding r v1 v2 = some q) (hq : (fun x => x = fin) q) : Wk p l e { frames := 3, cells := 0, slots := 0, locals := 69 } s m args below meth c Γ A (ug G o r) (some (.int fin)) 0 5 [(0, .ref (ad Γ o)), (1, .int v1), (2, .int v2)] [] (ug G o r) := by
  intro H locs ls hw hS hl
  unfold fX2_countHiding at hf
  obtain ⟨hx, hb, hml, hr, hown, htw, hlocks, hE⟩ := id C
  have hown : s.vm.findClass RX2 = some m.cls := hown
  refine lv_iconst (v := 0) hx hb dX2_countHiding_0 (by decide) ?_
  refine lv_istore_n (lv' := [(3, .int 0), (0, .ref (ad Γ o)), (1, .int v1), (2, .int v2)]) hx hb dX2_countHiding_1 rfl hl (by decide) rfl (fun ls hl => ?_)
  refine lv_iconst (v := 0) hx hb dX2_countHiding_2 (by decide) ?_
  refine lv_istore (lv' := [(4, .int 0), (3, .int 0), (0, .ref (ad Γ o)), (1, .int v1), (2, .int v2)]) hx hb dX2_countHiding_3 hl (by decide) rfl (fun ls hl => ?_)
  exact lwX2_countHiding_5 C hk hf hq H locs ls hw hS (lv_sub hl [2, 3, 4, 1, 0] rfl)

theorem kX2_countHiding {l : Launch} {Γ : Gm} {A : Nat → Prop} {G : Gs} {o : Nat} {r : Rec} {v1 : Int32} {v2 : Int32} {fin : Int32} (hk : kd Γ o = some 2) (hf : fX2_countHiding r v1 v2 = some fin) : Kt l yX2_countHiding cX2_countHiding 5 (some .int) 3 69 Γ A (ug G o r) (ug G o r) [.ref (ad Γ o), .int v1, .int v2] (some (.int fin)) :=
  kt_of (by decide) (Nat.le_of_ble_eq_true rfl) (fun p e s m args below meth c C => wX2_countHiding_e C hk hf rfl)
theorem kgX2_countHiding {l : Launch} {Γ : Gm} {A : Nat → Prop} {G : Gs} {o : Nat} {v1 : Int32} {v2 : Int32} {fin : Int32} (hk : kd Γ o = some 2) (hf : fX2_countHiding (G o) v1 v2 = some fin) : Kt l yX2_countHiding cX2_countHiding 5 (some .int) 3 69 Γ A G G [.ref (ad Γ o), .int v1, .int v2] (some (.int fin)) := by
  have h := kX2_countHiding (l := l) (A := A) (G := G) (r := G o) hk hf
  rw [ug_self] at h
  exact h
noncomputable def bX2_weightLeaking_33 (r : Rec) (v1 : Int32) (v2 : Int32) (v3 : Int32) : Option ((Int32 × Int32) ⊕ Int32) :=
  some (.inl (v2, v3 + 1))
set_option maxRecDepth 100000 in
set_option maxHeartbeats 4000000 in
theorem wX2_weightLeaking_33 {p : Program} {l : Launch} {e : Env} {s : State} {m : MethodId} {args : Array Value} {below : List Frame} {meth : Method} {c : Code} {Γ : Gm} {A : Nat → Prop} {G : Gs} {o : Nat} {r : Rec} {v1 : Int32} {v2 : Int32} {v3 : Int32} {q : ((Int32 × Int32) ⊕ Int32)} {fin : Int32} (C : Cx p s m args meth c yX2_weightLeaking cX2_weightLeaking 4 (some .int) Γ A) (hk : kd Γ o = some 2) (hf : bX2_weightLeaking_33 r v1 v2 v3 = some q) (hq : (KC (fun st : Int32 × Int32 => Wk p l e { frames := 3, cells := 0, slots := 0, locals := 69 } s m args below meth c Γ A (ug G o r) (some (.int fin)) 4 4 [(0, .ref (ad Γ o)), (1, .int v1), (2, .int st.1), (3, .int st.2)] [] (ug G o r)) (fun x => x = fin)) q) : Wk p l e { frames := 3, cells := 0, slots := 0, locals := 69 } s m args below meth c Γ A (ug G o r) (some (.int fin)) 33 4 [(0, .ref (ad Γ o)), (1, .int v1), (2, .int v2), (3, .int v3)] [] (ug G o r) := by
  intro H locs ls hw hS hl
  unfold bX2_weightLeaking_33 at hf
  obtain ⟨hx, hb, hml, hr, hown, htw, hlocks, hE⟩ := id C
  have hown : s.vm.findClass RX2 = some m.cls := hown
  refine lv_iinc (v := v3 + 1) (lv' := [(3, .int (v3 + 1)), (0, .ref (ad Γ o)), (1, .int v1), (2, .int v2)]) hx hb dX2_weightLeaking_33 hl (k := 3) rfl (by rfl) (by decide) rfl (fun ls hl => ?_)
  refine lv_goto (tgt := 4) hx hb dX2_weightLeaking_36 (by decide) ?_
  obtain rfl := Option.some.inj hf
  exact hq.1 _ rfl H locs ls hw hS (lv_sub hl [1, 2, 3, 0] rfl)

noncomputable def bX2_weightLeaking_4 (r : Rec) (v1 : Int32) (v2 : Int32) (v3 : Int32) : Option ((Int32 × Int32) ⊕ Int32) :=
  (fX2_secretSets r).bind fun z1 => if z1 ≤ v3 then some (.inr (v2)) else (fJ6_bitCount_0f7a4 v3).bind fun z2 => if z2 = v1 then (fX2_closure r v3 (-1)).bind fun z3 => (fX2_weightOf r z3).bind fun z4 => bX2_weightLeaking_33 r v1 (v2 + z4) v3 else bX2_weightLeaking_33 r v1 v2 v3
set_option maxRecDepth 100000 in
set_option maxHeartbeats 4000000 in
theorem wX2_weightLeaking_4 {p : Program} {l : Launch} {e : Env} {s : State} {m : MethodId} {args : Array Value} {below : List Frame} {meth : Method} {c : Code} {Γ : Gm} {A : Nat → Prop} {G : Gs} {o : Nat} {r : Rec} {v1 : Int32} {v2 : Int32} {v3 : Int32} {q : ((Int32 × Int32) ⊕ Int32)} {fin : Int32} (C : Cx p s m args meth c yX2_weightLeaking cX2_weightLeaking 4 (some .int) Γ A) (hk : kd Γ o = some 2) (hf : bX2_weightLeaking_4 r v1 v2 v3 = some q) (hq : (KC (fun st : Int32 × Int32 => Wk p l e { frames := 3, cells := 0, slots := 0, locals := 69 } s m args below meth c Γ A (ug G o r) (some (.int fin)) 4 4 [(0, .ref (ad Γ o)), (1, .int v1), (2, .int st.1), (3, .int st.2)] [] (ug G o r)) (fun x => x = fin)) q) : Wk p l e { frames := 3, cells := 0, slots := 0, locals := 69 } s m args below meth c Γ A (ug G o r) (some (.int fin)) 4 4 [(0, .ref (ad Γ o)), (1, .int v1), (2, .int v2), (3, .int v3)] [] (ug G o r) := by
  intro H locs ls hw hS hl
  unfold bX2_weightLeaking_4 at hf
  obtain ⟨hx, hb, hml, hr, hown, htw, hlocks, hE⟩ := id C
  have hown : s.vm.findClass RX2 = some m.cls := hown
  refine lv_iload_n hx hb dX2_weightLeaking_4 rfl (lv_at hl 3 rfl) ?_
  refine lv_aload_n hx hb dX2_weightLeaking_5 rfl (lv_at hl 0 rfl) ?_
  obtain ⟨z1, hz1, hf⟩ := bd hf
  refine cl_Vs (rest := [.int v3]) (kX2_secretSets (l := l) (Γ := Γ) (A := A) (G := G) (o := o) hk hz1) ⟨hx, hb, hml, hown, htw⟩ hE hw hS (wo_me hw hk) (q0 := 0) rfl rfl mw860 mw851 mw852 mw120 mw853 pdX2_secretSets ⟨Nat.le_of_ble_eq_true rfl, Nat.le_of_ble_eq_true rfl⟩ rfl rfl hl.1 (Nat.le_of_ble_eq_true rfl) dX2_weightLeaking_6 (fun H locs hw hS => ?_)
  refine lv_icmp_ge (tgt := 39) hx hb dX2_weightLeaking_9 (by decide) (fun c6 => ?_) (fun c6 => ?_)
  · have hf := ifp c6 hf
    refine lv_iload_n hx hb dX2_weightLeaking_39 rfl (lv_at hl 2 rfl) ?_
    obtain rfl := Option.some.inj hf
    have hq := hq.2 _ rfl
    subst hq
    exact rt_i C hw hS dX2_weightLeaking_40
  · have hf := ifn c6 hf
    refine lv_iload_n hx hb dX2_weightLeaking_12 rfl (lv_at hl 3 rfl) ?_
    obtain ⟨z2, hz2, hf⟩ := bd hf
    refine cl_Ss (rest := []) (kJ6_bitCount_0f7a4 (l := l) (Γ := Γ) (A := A) (G := (ug G o r)) hz2) ⟨hx, hb, hml, hown, htw⟩ hE hw hS mw908 mw871 mw136 mw872 pdJ6_bitCount_0f7a4 ⟨Nat.le_of_ble_eq_true rfl, Nat.le_of_ble_eq_true rfl⟩ rfl rfl hl.1 (Nat.le_of_ble_eq_true rfl) dX2_weightLeaking_13 (fun H locs hw hS => ?_)
    refine lv_iload_n hx hb dX2_weightLeaking_16 rfl (lv_at hl 1 rfl) ?_
    refine lv_icmp_ne (tgt := 33) hx hb dX2_weightLeaking_17 (by decide) (fun c5 => ?_) (fun c5 => ?_)
    · have hf := ifn c5 hf
      exact wX2_weightLeaking_33 C hk hf hq H locs ls hw hS hl
    · have hf := ifp c5 hf
      refine lv_iload_n hx hb dX2_weightLeaking_20 rfl (lv_at hl 2 rfl) ?_
      refine lv_aload_n hx hb dX2_weightLeaking_21 rfl (lv_at hl 0 rfl) ?_
      refine lv_aload_n hx hb dX2_weightLeaking_22 rfl (lv_at hl 0 rfl) ?_
      refine lv_iload_n hx hb dX2_weightLeaking_23 rfl (lv_at hl 3 rfl) ?_
      refine lv_iconst (v := (-1)) hx hb dX2_weightLeaking_24 (by decide) ?_
      obtain ⟨z3, hz3, hf⟩ := bd hf
      refine cl_Vs (rest := [.ref (ad Γ o), .int v2]) (kX2_closure (l := l) (Γ := Γ) (A := A) (G := G) (o := o) hk hz3) ⟨hx, hb, hml, hown, htw⟩ hE hw hS (wo_me hw hk) (q0 := 0) rfl rfl mw909 mw893 mw894 mw120 mw895 pdX2_closure ⟨Nat.le_of_ble_eq_true rfl, Nat.le_of_ble_eq_true rfl⟩ rfl rfl hl.1 (Nat.le_of_ble_eq_true rfl) dX2_weightLeaking_25 (fun H locs hw hS => ?_)
      obtain ⟨z4, hz4, hf⟩ := bd hf
      refine cl_Vs (rest := [.int v2]) (kX2_weightOf (l := l) (Γ := Γ) (A := A) (G := G) (o := o) hk hz4) ⟨hx, hb, hml, hown, htw⟩ hE hw hS (wo_me hw hk) (q0 := 0) rfl rfl mw991 mw930 mw931 mw120 mw932 pdX2_weightOf ⟨Nat.le_of_ble_eq_true rfl, Nat.le_of_ble_eq_true rfl⟩ rfl rfl hl.1 (Nat.le_of_ble_eq_true rfl) dX2_weightLeaking_28 (fun H locs hw hS => ?_)
      refine lv_iadd hx hb dX2_weightLeaking_31 ?_
      refine lv_istore_n (lv' := [(2, .int (v2 + z4)), (0, .ref (ad Γ o)), (1, .int v1), (3, .int v3)]) hx hb dX2_weightLeaking_32 rfl hl (by decide) rfl (fun ls hl => ?_)
      exact wX2_weightLeaking_33 C hk hf hq H locs ls hw hS (lv_sub hl [1, 2, 0, 3] rfl)

set_option maxRecDepth 100000 in
set_option maxHeartbeats 4000000 in
theorem lwX2_weightLeaking_4 {p : Program} {l : Launch} {e : Env} {s : State} {m : MethodId} {args : Array Value} {below : List Frame} {meth : Method} {c : Code} {Γ : Gm} {A : Nat → Prop} {G : Gs} {o : Nat} {r : Rec} {v1 : Int32} {v2 : Int32} {v3 : Int32} {q : Int32} {fin : Int32} (C : Cx p s m args meth c yX2_weightLeaking cX2_weightLeaking 4 (some .int) Γ A) (hk : kd Γ o = some 2) (hf : iter (fun st : Int32 × Int32 => bX2_weightLeaking_4 r v1 st.1 st.2) (v2, v3) = some q) (hq : (fun x => x = fin) q) : Wk p l e { frames := 3, cells := 0, slots := 0, locals := 69 } s m args below meth c Γ A (ug G o r) (some (.int fin)) 4 4 [(0, .ref (ad Γ o)), (1, .int v1), (2, .int v2), (3, .int v3)] [] (ug G o r) := by
  intro H locs ls hw hS hl
  refine iter_walk (P := (fun st : Int32 × Int32 => Wk p l e { frames := 3, cells := 0, slots := 0, locals := 69 } s m args below meth c Γ A (ug G o r) (some (.int fin)) 4 4 [(0, .ref (ad Γ o)), (1, .int v1), (2, .int st.1), (3, .int st.2)] [] (ug G o r))) (K := (fun x => x = fin)) (fun st q hq1 h1 h2 => ?_) hf hq H locs ls hw hS hl
  exact wX2_weightLeaking_4 (v2 := st.1) (v3 := st.2) C hk hq1 ⟨h1, h2⟩

noncomputable def fX2_weightLeaking (r : Rec) (v1 : Int32) : Option Int32 :=
  iter (fun st : Int32 × Int32 => bX2_weightLeaking_4 r v1 st.1 st.2) (0, 0)
set_option maxRecDepth 100000 in
set_option maxHeartbeats 4000000 in
theorem wX2_weightLeaking_e {p : Program} {l : Launch} {e : Env} {s : State} {m : MethodId} {args : Array Value} {below : List Frame} {meth : Method} {c : Code} {Γ : Gm} {A : Nat → Prop} {G : Gs} {o : Nat} {r : Rec} {v1 : Int32} {q : Int32} {fin : Int32} (C : Cx p s m args meth c yX2_weightLeaking cX2_weightLeaking 4 (some .int) Γ A) (hk : kd Γ o = some 2) (hf : fX2_weightLeaking r v1 = some q) (hq : (fun x => x = fin) q) : Wk p l e { frames := 3, cells := 0, slots := 0, locals := 69 } s m args below meth c Γ A (ug G o r) (some (.int fin)) 0 4 [(0, .ref (ad Γ o)), (1, .int v1)] [] (ug G o r) := by
  intro H locs ls hw hS hl
  unfold fX2_weightLeaking at hf
  obtain ⟨hx, hb, hml, hr, hown, htw, hlocks, hE⟩ := id C
  have hown : s.vm.findClass RX2 = some m.cls := hown
  refine lv_iconst (v := 0) hx hb dX2_weightLeaking_0 (by decide) ?_
  refine lv_istore_n (lv' := [(2, .int 0), (0, .ref (ad Γ o)), (1, .int v1)]) hx hb dX2_weightLeaking_1 rfl hl (by decide) rfl (fun ls hl => ?_)
  refine lv_iconst (v := 0) hx hb dX2_weightLeaking_2 (by decide) ?_
  refine lv_istore_n (lv' := [(3, .int 0), (2, .int 0), (0, .ref (ad Γ o)), (1, .int v1)]) hx hb dX2_weightLeaking_3 rfl hl (by decide) rfl (fun ls hl => ?_)
  exact lwX2_weightLeaking_4 C hk hf hq H locs ls hw hS (lv_sub hl [2, 3, 1, 0] rfl)

theorem kX2_weightLeaking {l : Launch} {Γ : Gm} {A : Nat → Prop} {G : Gs} {o : Nat} {r : Rec} {v1 : Int32} {fin : Int32} (hk : kd Γ o = some 2) (hf : fX2_weightLeaking r v1 = some fin) : Kt l yX2_weightLeaking cX2_weightLeaking 4 (some .int) 3 69 Γ A (ug G o r) (ug G o r) [.ref (ad Γ o), .int v1] (some (.int fin)) :=
  kt_of (by decide) (Nat.le_of_ble_eq_true rfl) (fun p e s m args below meth c C => wX2_weightLeaking_e C hk hf rfl)
theorem kgX2_weightLeaking {l : Launch} {Γ : Gm} {A : Nat → Prop} {G : Gs} {o : Nat} {v1 : Int32} {fin : Int32} (hk : kd Γ o = some 2) (hf : fX2_weightLeaking (G o) v1 = some fin) : Kt l yX2_weightLeaking cX2_weightLeaking 4 (some .int) 3 69 Γ A G G [.ref (ad Γ o), .int v1] (some (.int fin)) := by
  have h := kX2_weightLeaking (l := l) (A := A) (G := G) (r := G o) hk hf
  rw [ug_self] at h
  exact h
noncomputable def fX2_weightKeptOut (r : Rec) (v1 : Int32) : Option Int32 :=
  (fX2_allSecrets r).bind fun z1 => (fX2_allSecrets r).bind fun z2 => (fX2_closure r (z2 &&& (v1 ^^^ (-1))) (-1)).bind fun z3 => (fX2_weightOf r (z1 &&& (z3 ^^^ (-1)))).bind fun z4 => some (z4)
set_option maxRecDepth 100000 in
set_option maxHeartbeats 4000000 in
theorem wX2_weightKeptOut_e {p : Program} {l : Launch} {e : Env} {s : State} {m : MethodId} {args : Array Value} {below : List Frame} {meth : Method} {c : Code} {Γ : Gm} {A : Nat → Prop} {G : Gs} {o : Nat} {r : Rec} {v1 : Int32} {q : Int32} {fin : Int32} (C : Cx p s m args meth c yX2_weightKeptOut cX2_weightKeptOut 2 (some .int) Γ A) (hk : kd Γ o = some 2) (hf : fX2_weightKeptOut r v1 = some q) (hq : (fun x => x = fin) q) : Wk p l e { frames := 3, cells := 0, slots := 0, locals := 69 } s m args below meth c Γ A (ug G o r) (some (.int fin)) 0 2 [(0, .ref (ad Γ o)), (1, .int v1)] [] (ug G o r) := by
  intro H locs ls hw hS hl
  unfold fX2_weightKeptOut at hf
  obtain ⟨hx, hb, hml, hr, hown, htw, hlocks, hE⟩ := id C
  have hown : s.vm.findClass RX2 = some m.cls := hown
  refine lv_aload_n hx hb dX2_weightKeptOut_0 rfl (lv_at hl 0 rfl) ?_
  refine lv_aload_n hx hb dX2_weightKeptOut_1 rfl (lv_at hl 0 rfl) ?_
  obtain ⟨z1, hz1, hf⟩ := bd hf
  refine cl_Vs (rest := [.ref (ad Γ o)]) (kX2_allSecrets (l := l) (Γ := Γ) (A := A) (G := G) (o := o) hk hz1) ⟨hx, hb, hml, hown, htw⟩ hE hw hS (wo_me hw hk) (q0 := 0) rfl rfl mw914 mw857 mw858 mw120 mw859 pdX2_allSecrets ⟨Nat.le_of_ble_eq_true rfl, Nat.le_of_ble_eq_true rfl⟩ rfl rfl hl.1 (Nat.le_of_ble_eq_true rfl) dX2_weightKeptOut_2 (fun H locs hw hS => ?_)
  refine lv_aload_n hx hb dX2_weightKeptOut_5 rfl (lv_at hl 0 rfl) ?_
  refine lv_aload_n hx hb dX2_weightKeptOut_6 rfl (lv_at hl 0 rfl) ?_
  obtain ⟨z2, hz2, hf⟩ := bd hf
  refine cl_Vs (rest := [.ref (ad Γ o), .int z1, .ref (ad Γ o)]) (kX2_allSecrets (l := l) (Γ := Γ) (A := A) (G := G) (o := o) hk hz2) ⟨hx, hb, hml, hown, htw⟩ hE hw hS (wo_me hw hk) (q0 := 0) rfl rfl mw914 mw857 mw858 mw120 mw859 pdX2_allSecrets ⟨Nat.le_of_ble_eq_true rfl, Nat.le_of_ble_eq_true rfl⟩ rfl rfl hl.1 (Nat.le_of_ble_eq_true rfl) dX2_weightKeptOut_7 (fun H locs hw hS => ?_)
  refine lv_iload_n hx hb dX2_weightKeptOut_10 rfl (lv_at hl 1 rfl) ?_
  refine lv_iconst (v := (-1)) hx hb dX2_weightKeptOut_11 (by decide) ?_
  refine lv_ixor hx hb dX2_weightKeptOut_12 ?_
  refine lv_iand hx hb dX2_weightKeptOut_13 ?_
  refine lv_iconst (v := (-1)) hx hb dX2_weightKeptOut_14 (by decide) ?_
  obtain ⟨z3, hz3, hf⟩ := bd hf
  refine cl_Vs (rest := [.int z1, .ref (ad Γ o)]) (kX2_closure (l := l) (Γ := Γ) (A := A) (G := G) (o := o) hk hz3) ⟨hx, hb, hml, hown, htw⟩ hE hw hS (wo_me hw hk) (q0 := 0) rfl rfl mw909 mw893 mw894 mw120 mw895 pdX2_closure ⟨Nat.le_of_ble_eq_true rfl, Nat.le_of_ble_eq_true rfl⟩ rfl rfl hl.1 (Nat.le_of_ble_eq_true rfl) dX2_weightKeptOut_15 (fun H locs hw hS => ?_)
  refine lv_iconst (v := (-1)) hx hb dX2_weightKeptOut_18 (by decide) ?_
  refine lv_ixor hx hb dX2_weightKeptOut_19 ?_
  refine lv_iand hx hb dX2_weightKeptOut_20 ?_
  obtain ⟨z4, hz4, hf⟩ := bd hf
  refine cl_Vs (rest := []) (kX2_weightOf (l := l) (Γ := Γ) (A := A) (G := G) (o := o) hk hz4) ⟨hx, hb, hml, hown, htw⟩ hE hw hS (wo_me hw hk) (q0 := 0) rfl rfl mw991 mw930 mw931 mw120 mw932 pdX2_weightOf ⟨Nat.le_of_ble_eq_true rfl, Nat.le_of_ble_eq_true rfl⟩ rfl rfl hl.1 (Nat.le_of_ble_eq_true rfl) dX2_weightKeptOut_21 (fun H locs hw hS => ?_)
  obtain rfl := Option.some.inj hf
  subst hq
  exact rt_i C hw hS dX2_weightKeptOut_24

theorem kX2_weightKeptOut {l : Launch} {Γ : Gm} {A : Nat → Prop} {G : Gs} {o : Nat} {r : Rec} {v1 : Int32} {fin : Int32} (hk : kd Γ o = some 2) (hf : fX2_weightKeptOut r v1 = some fin) : Kt l yX2_weightKeptOut cX2_weightKeptOut 2 (some .int) 3 69 Γ A (ug G o r) (ug G o r) [.ref (ad Γ o), .int v1] (some (.int fin)) :=
  kt_of (by decide) (Nat.le_of_ble_eq_true rfl) (fun p e s m args below meth c C => wX2_weightKeptOut_e C hk hf rfl)
theorem kgX2_weightKeptOut {l : Launch} {Γ : Gm} {A : Nat → Prop} {G : Gs} {o : Nat} {v1 : Int32} {fin : Int32} (hk : kd Γ o = some 2) (hf : fX2_weightKeptOut (G o) v1 = some fin) : Kt l yX2_weightKeptOut cX2_weightKeptOut 2 (some .int) 3 69 Γ A G G [.ref (ad Γ o), .int v1] (some (.int fin)) := by
  have h := kX2_weightKeptOut (l := l) (A := A) (G := G) (r := G o) hk hf
  rw [ug_self] at h
  exact h
noncomputable def bX2_bestTakenAway_67 (r : Rec) (v1 : Int32) (v2 : Int32) (v3 : Int32) (v4 : Int32) : Option ((Int32 × Int32 × Int32) ⊕ Int32) :=
  some (.inl (v2, v3, v4 + 1))
set_option maxRecDepth 100000 in
set_option maxHeartbeats 4000000 in
theorem wX2_bestTakenAway_67 {p : Program} {l : Launch} {e : Env} {s : State} {m : MethodId} {args : Array Value} {below : List Frame} {meth : Method} {c : Code} {Γ : Gm} {A : Nat → Prop} {G : Gs} {o : Nat} {r : Rec} {v1 : Int32} {v2 : Int32} {v3 : Int32} {v4 : Int32} {q : ((Int32 × Int32 × Int32) ⊕ Int32)} {fin : Int32} (C : Cx p s m args meth c yX2_bestTakenAway cX2_bestTakenAway 7 (some .int) Γ A) (hk : kd Γ o = some 2) (hf : bX2_bestTakenAway_67 r v1 v2 v3 v4 = some q) (hq : (KC (fun st : Int32 × Int32 × Int32 => Wk p l e { frames := 4, cells := 0, slots := 0, locals := 90 } s m args below meth c Γ A (ug G o r) (some (.int fin)) 7 7 [(0, .ref (ad Γ o)), (1, .int v1), (2, .int st.1), (3, .int st.2.1), (4, .int st.2.2)] [] (ug G o r)) (fun x => x = fin)) q) : Wk p l e { frames := 4, cells := 0, slots := 0, locals := 90 } s m args below meth c Γ A (ug G o r) (some (.int fin)) 67 7 [(0, .ref (ad Γ o)), (1, .int v1), (2, .int v2), (3, .int v3), (4, .int v4)] [] (ug G o r) := by
  intro H locs ls hw hS hl
  unfold bX2_bestTakenAway_67 at hf
  obtain ⟨hx, hb, hml, hr, hown, htw, hlocks, hE⟩ := id C
  have hown : s.vm.findClass RX2 = some m.cls := hown
  refine lv_iinc (v := v4 + 1) (lv' := [(4, .int (v4 + 1)), (0, .ref (ad Γ o)), (1, .int v1), (2, .int v2), (3, .int v3)]) hx hb dX2_bestTakenAway_67 hl (k := 4) rfl (by rfl) (by decide) rfl (fun ls hl => ?_)
  refine lv_goto (tgt := 7) hx hb dX2_bestTakenAway_70 (by decide) ?_
  obtain rfl := Option.some.inj hf
  exact hq.1 _ rfl H locs ls hw hS (lv_sub hl [1, 2, 3, 4, 0] rfl)

noncomputable def bX2_bestTakenAway_61 (r : Rec) (v1 : Int32) (v4 : Int32) (v6 : Int32) : Option ((Int32 × Int32 × Int32) ⊕ Int32) :=
  bX2_bestTakenAway_67 r v1 v4 v6 v4
set_option maxRecDepth 100000 in
set_option maxHeartbeats 4000000 in
theorem wX2_bestTakenAway_61 {p : Program} {l : Launch} {e : Env} {s : State} {m : MethodId} {args : Array Value} {below : List Frame} {meth : Method} {c : Code} {Γ : Gm} {A : Nat → Prop} {G : Gs} {o : Nat} {r : Rec} {v1 : Int32} {v4 : Int32} {v6 : Int32} {q : ((Int32 × Int32 × Int32) ⊕ Int32)} {fin : Int32} (C : Cx p s m args meth c yX2_bestTakenAway cX2_bestTakenAway 7 (some .int) Γ A) (hk : kd Γ o = some 2) (hf : bX2_bestTakenAway_61 r v1 v4 v6 = some q) (hq : (KC (fun st : Int32 × Int32 × Int32 => Wk p l e { frames := 4, cells := 0, slots := 0, locals := 90 } s m args below meth c Γ A (ug G o r) (some (.int fin)) 7 7 [(0, .ref (ad Γ o)), (1, .int v1), (2, .int st.1), (3, .int st.2.1), (4, .int st.2.2)] [] (ug G o r)) (fun x => x = fin)) q) : Wk p l e { frames := 4, cells := 0, slots := 0, locals := 90 } s m args below meth c Γ A (ug G o r) (some (.int fin)) 61 7 [(0, .ref (ad Γ o)), (1, .int v1), (4, .int v4), (6, .int v6)] [] (ug G o r) := by
  intro H locs ls hw hS hl
  unfold bX2_bestTakenAway_61 at hf
  obtain ⟨hx, hb, hml, hr, hown, htw, hlocks, hE⟩ := id C
  have hown : s.vm.findClass RX2 = some m.cls := hown
  refine lv_iload hx hb dX2_bestTakenAway_61 (lv_at hl 2 rfl) ?_
  refine lv_istore_n (lv' := [(2, .int v4), (0, .ref (ad Γ o)), (1, .int v1), (4, .int v4), (6, .int v6)]) hx hb dX2_bestTakenAway_63 rfl hl (by decide) rfl (fun ls hl => ?_)
  refine lv_iload hx hb dX2_bestTakenAway_64 (lv_at hl 4 rfl) ?_
  refine lv_istore_n (lv' := [(3, .int v6), (2, .int v4), (0, .ref (ad Γ o)), (1, .int v1), (4, .int v4), (6, .int v6)]) hx hb dX2_bestTakenAway_66 rfl hl (by decide) rfl (fun ls hl => ?_)
  exact wX2_bestTakenAway_67 C hk hf hq H locs ls hw hS (lv_sub hl [2, 3, 1, 0, 4] rfl)

noncomputable def bX2_bestTakenAway_7 (r : Rec) (v1 : Int32) (v2 : Int32) (v3 : Int32) (v4 : Int32) : Option ((Int32 × Int32 × Int32) ⊕ Int32) :=
  (fX2_secretSets r).bind fun z1 => if z1 ≤ v4 then some (.inr (v2)) else (fJ6_bitCount_0f7a4 v4).bind fun z2 => if z2 ≤ v1 then (fX2_weightKeptOut r v4).bind fun z3 => if v3 < z3 then bX2_bestTakenAway_61 r v1 v4 z3 else if z3 = v3 then (fJ6_bitCount_0f7a4 v2).bind fun z4 => if z4 ≤ z2 then bX2_bestTakenAway_67 r v1 v2 v3 v4 else bX2_bestTakenAway_61 r v1 v4 z3 else bX2_bestTakenAway_67 r v1 v2 v3 v4 else bX2_bestTakenAway_67 r v1 v2 v3 v4
set_option maxRecDepth 100000 in
set_option maxHeartbeats 4000000 in
theorem wX2_bestTakenAway_7 {p : Program} {l : Launch} {e : Env} {s : State} {m : MethodId} {args : Array Value} {below : List Frame} {meth : Method} {c : Code} {Γ : Gm} {A : Nat → Prop} {G : Gs} {o : Nat} {r : Rec} {v1 : Int32} {v2 : Int32} {v3 : Int32} {v4 : Int32} {q : ((Int32 × Int32 × Int32) ⊕ Int32)} {fin : Int32} (C : Cx p s m args meth c yX2_bestTakenAway cX2_bestTakenAway 7 (some .int) Γ A) (hk : kd Γ o = some 2) (hf : bX2_bestTakenAway_7 r v1 v2 v3 v4 = some q) (hq : (KC (fun st : Int32 × Int32 × Int32 => Wk p l e { frames := 4, cells := 0, slots := 0, locals := 90 } s m args below meth c Γ A (ug G o r) (some (.int fin)) 7 7 [(0, .ref (ad Γ o)), (1, .int v1), (2, .int st.1), (3, .int st.2.1), (4, .int st.2.2)] [] (ug G o r)) (fun x => x = fin)) q) : Wk p l e { frames := 4, cells := 0, slots := 0, locals := 90 } s m args below meth c Γ A (ug G o r) (some (.int fin)) 7 7 [(0, .ref (ad Γ o)), (1, .int v1), (2, .int v2), (3, .int v3), (4, .int v4)] [] (ug G o r) := by
  intro H locs ls hw hS hl
  unfold bX2_bestTakenAway_7 at hf
  obtain ⟨hx, hb, hml, hr, hown, htw, hlocks, hE⟩ := id C
  have hown : s.vm.findClass RX2 = some m.cls := hown
  refine lv_iload hx hb dX2_bestTakenAway_7 (lv_at hl 4 rfl) ?_
  refine lv_aload_n hx hb dX2_bestTakenAway_9 rfl (lv_at hl 0 rfl) ?_
  obtain ⟨z1, hz1, hf⟩ := bd hf
  refine cl_Vs (rest := [.int v4]) (kX2_secretSets (l := l) (Γ := Γ) (A := A) (G := G) (o := o) hk hz1) ⟨hx, hb, hml, hown, htw⟩ hE hw hS (wo_me hw hk) (q0 := 0) rfl rfl mw860 mw851 mw852 mw120 mw853 pdX2_secretSets ⟨Nat.le_of_ble_eq_true rfl, Nat.le_of_ble_eq_true rfl⟩ rfl rfl hl.1 (Nat.le_of_ble_eq_true rfl) dX2_bestTakenAway_10 (fun H locs hw hS => ?_)
  refine lv_icmp_ge (tgt := 73) hx hb dX2_bestTakenAway_13 (by decide) (fun c9 => ?_) (fun c9 => ?_)
  · have hf := ifp c9 hf
    refine lv_iload_n hx hb dX2_bestTakenAway_73 rfl (lv_at hl 2 rfl) ?_
    obtain rfl := Option.some.inj hf
    have hq := hq.2 _ rfl
    subst hq
    exact rt_i C hw hS dX2_bestTakenAway_74
  · have hf := ifn c9 hf
    refine lv_iload hx hb dX2_bestTakenAway_16 (lv_at hl 4 rfl) ?_
    obtain ⟨z2, hz2, hf⟩ := bd hf
    refine cl_Ss (rest := []) (kJ6_bitCount_0f7a4 (l := l) (Γ := Γ) (A := A) (G := (ug G o r)) hz2) ⟨hx, hb, hml, hown, htw⟩ hE hw hS mw908 mw871 mw136 mw872 pdJ6_bitCount_0f7a4 ⟨Nat.le_of_ble_eq_true rfl, Nat.le_of_ble_eq_true rfl⟩ rfl rfl hl.1 (Nat.le_of_ble_eq_true rfl) dX2_bestTakenAway_18 (fun H locs hw hS => ?_)
    refine lv_istore (lv' := [(5, .int z2), (0, .ref (ad Γ o)), (1, .int v1), (2, .int v2), (3, .int v3), (4, .int v4)]) hx hb dX2_bestTakenAway_21 hl (by decide) rfl (fun ls hl => ?_)
    refine lv_iload hx hb dX2_bestTakenAway_23 (lv_at hl 0 rfl) ?_
    refine lv_iload_n hx hb dX2_bestTakenAway_25 rfl (lv_at hl 2 rfl) ?_
    refine lv_icmp_le (tgt := 32) hx hb dX2_bestTakenAway_26 (by decide) (fun c8 => ?_) (fun c8 => ?_)
    · have hf := ifp c8 hf
      refine lv_aload_n hx hb dX2_bestTakenAway_32 rfl (lv_at hl 1 rfl) ?_
      refine lv_iload hx hb dX2_bestTakenAway_33 (lv_at hl 5 rfl) ?_
      obtain ⟨z3, hz3, hf⟩ := bd hf
      refine cl_Vs (rest := []) (kX2_weightKeptOut (l := l) (Γ := Γ) (A := A) (G := G) (o := o) hk hz3) ⟨hx, hb, hml, hown, htw⟩ hE hw hS (wo_me hw hk) (q0 := 0) rfl rfl mw1192 mw1193 mw1194 mw120 mw1195 pdX2_weightKeptOut ⟨Nat.le_of_ble_eq_true rfl, Nat.le_of_ble_eq_true rfl⟩ rfl rfl hl.1 (Nat.le_of_ble_eq_true rfl) dX2_bestTakenAway_35 (fun H locs hw hS => ?_)
      refine lv_istore (lv' := [(6, .int z3), (5, .int z2), (0, .ref (ad Γ o)), (1, .int v1), (2, .int v2), (3, .int v3), (4, .int v4)]) hx hb dX2_bestTakenAway_38 hl (by decide) rfl (fun ls hl => ?_)
      refine lv_iload hx hb dX2_bestTakenAway_40 (lv_at hl 0 rfl) ?_
      refine lv_iload_n hx hb dX2_bestTakenAway_42 rfl (lv_at hl 5 rfl) ?_
      refine lv_icmp_gt (tgt := 61) hx hb dX2_bestTakenAway_43 (by decide) (fun c7 => ?_) (fun c7 => ?_)
      · have hf := ifp c7 hf
        exact wX2_bestTakenAway_61 C hk hf hq H locs ls hw hS (lv_sub hl [2, 3, 6, 0] rfl)
      · have hf := ifn c7 hf
        refine lv_iload hx hb dX2_bestTakenAway_46 (lv_at hl 0 rfl) ?_
        refine lv_iload_n hx hb dX2_bestTakenAway_48 rfl (lv_at hl 5 rfl) ?_
        refine lv_icmp_ne (tgt := 67) hx hb dX2_bestTakenAway_49 (by decide) (fun c6 => ?_) (fun c6 => ?_)
        · have hf := ifn c6 hf
          exact wX2_bestTakenAway_67 C hk hf hq H locs ls hw hS (lv_sub hl [2, 3, 4, 5, 6] rfl)
        · have hf := ifp c6 hf
          refine lv_iload hx hb dX2_bestTakenAway_52 (lv_at hl 1 rfl) ?_
          refine lv_iload_n hx hb dX2_bestTakenAway_54 rfl (lv_at hl 4 rfl) ?_
          obtain ⟨z4, hz4, hf⟩ := bd hf
          refine cl_Ss (rest := [.int z2]) (kJ6_bitCount_0f7a4 (l := l) (Γ := Γ) (A := A) (G := (ug G o r)) hz4) ⟨hx, hb, hml, hown, htw⟩ hE hw hS mw908 mw871 mw136 mw872 pdJ6_bitCount_0f7a4 ⟨Nat.le_of_ble_eq_true rfl, Nat.le_of_ble_eq_true rfl⟩ rfl rfl hl.1 (Nat.le_of_ble_eq_true rfl) dX2_bestTakenAway_55 (fun H locs hw hS => ?_)
          refine lv_icmp_ge (tgt := 67) hx hb dX2_bestTakenAway_58 (by decide) (fun c5 => ?_) (fun c5 => ?_)
          · have hf := ifp c5 hf
            exact wX2_bestTakenAway_67 C hk hf hq H locs ls hw hS (lv_sub hl [2, 3, 4, 5, 6] rfl)
          · have hf := ifn c5 hf
            exact wX2_bestTakenAway_61 C hk hf hq H locs ls hw hS (lv_sub hl [2, 3, 6, 0] rfl)
    · have hf := ifn c8 hf
      refine lv_goto (tgt := 67) hx hb dX2_bestTakenAway_29 (by decide) ?_
      exact wX2_bestTakenAway_67 C hk hf hq H locs ls hw hS (lv_sub hl [1, 2, 3, 4, 5] rfl)

set_option maxRecDepth 100000 in
set_option maxHeartbeats 4000000 in
theorem lwX2_bestTakenAway_7 {p : Program} {l : Launch} {e : Env} {s : State} {m : MethodId} {args : Array Value} {below : List Frame} {meth : Method} {c : Code} {Γ : Gm} {A : Nat → Prop} {G : Gs} {o : Nat} {r : Rec} {v1 : Int32} {v2 : Int32} {v3 : Int32} {v4 : Int32} {q : Int32} {fin : Int32} (C : Cx p s m args meth c yX2_bestTakenAway cX2_bestTakenAway 7 (some .int) Γ A) (hk : kd Γ o = some 2) (hf : iter (fun st : Int32 × Int32 × Int32 => bX2_bestTakenAway_7 r v1 st.1 st.2.1 st.2.2) (v2, v3, v4) = some q) (hq : (fun x => x = fin) q) : Wk p l e { frames := 4, cells := 0, slots := 0, locals := 90 } s m args below meth c Γ A (ug G o r) (some (.int fin)) 7 7 [(0, .ref (ad Γ o)), (1, .int v1), (2, .int v2), (3, .int v3), (4, .int v4)] [] (ug G o r) := by
  intro H locs ls hw hS hl
  refine iter_walk (P := (fun st : Int32 × Int32 × Int32 => Wk p l e { frames := 4, cells := 0, slots := 0, locals := 90 } s m args below meth c Γ A (ug G o r) (some (.int fin)) 7 7 [(0, .ref (ad Γ o)), (1, .int v1), (2, .int st.1), (3, .int st.2.1), (4, .int st.2.2)] [] (ug G o r))) (K := (fun x => x = fin)) (fun st q hq1 h1 h2 => ?_) hf hq H locs ls hw hS hl
  exact wX2_bestTakenAway_7 (v2 := st.1) (v3 := st.2.1) (v4 := st.2.2) C hk hq1 ⟨h1, h2⟩

noncomputable def fX2_bestTakenAway (r : Rec) (v1 : Int32) : Option Int32 :=
  iter (fun st : Int32 × Int32 × Int32 => bX2_bestTakenAway_7 r v1 st.1 st.2.1 st.2.2) (0, 0, 1)
set_option maxRecDepth 100000 in
set_option maxHeartbeats 4000000 in
theorem wX2_bestTakenAway_e {p : Program} {l : Launch} {e : Env} {s : State} {m : MethodId} {args : Array Value} {below : List Frame} {meth : Method} {c : Code} {Γ : Gm} {A : Nat → Prop} {G : Gs} {o : Nat} {r : Rec} {v1 : Int32} {q : Int32} {fin : Int32} (C : Cx p s m args meth c yX2_bestTakenAway cX2_bestTakenAway 7 (some .int) Γ A) (hk : kd Γ o = some 2) (hf : fX2_bestTakenAway r v1 = some q) (hq : (fun x => x = fin) q) : Wk p l e { frames := 4, cells := 0, slots := 0, locals := 90 } s m args below meth c Γ A (ug G o r) (some (.int fin)) 0 7 [(0, .ref (ad Γ o)), (1, .int v1)] [] (ug G o r) := by
  intro H locs ls hw hS hl
  unfold fX2_bestTakenAway at hf
  obtain ⟨hx, hb, hml, hr, hown, htw, hlocks, hE⟩ := id C
  have hown : s.vm.findClass RX2 = some m.cls := hown
  refine lv_iconst (v := 0) hx hb dX2_bestTakenAway_0 (by decide) ?_
  refine lv_istore_n (lv' := [(2, .int 0), (0, .ref (ad Γ o)), (1, .int v1)]) hx hb dX2_bestTakenAway_1 rfl hl (by decide) rfl (fun ls hl => ?_)
  refine lv_iconst (v := 0) hx hb dX2_bestTakenAway_2 (by decide) ?_
  refine lv_istore_n (lv' := [(3, .int 0), (2, .int 0), (0, .ref (ad Γ o)), (1, .int v1)]) hx hb dX2_bestTakenAway_3 rfl hl (by decide) rfl (fun ls hl => ?_)
  refine lv_iconst (v := 1) hx hb dX2_bestTakenAway_4 (by decide) ?_
  refine lv_istore (lv' := [(4, .int 1), (3, .int 0), (2, .int 0), (0, .ref (ad Γ o)), (1, .int v1)]) hx hb dX2_bestTakenAway_5 hl (by decide) rfl (fun ls hl => ?_)
  exact lwX2_bestTakenAway_7 C hk hf hq H locs ls hw hS (lv_sub hl [3, 4, 2, 1, 0] rfl)

theorem kX2_bestTakenAway {l : Launch} {Γ : Gm} {A : Nat → Prop} {G : Gs} {o : Nat} {r : Rec} {v1 : Int32} {fin : Int32} (hk : kd Γ o = some 2) (hf : fX2_bestTakenAway r v1 = some fin) : Kt l yX2_bestTakenAway cX2_bestTakenAway 7 (some .int) 4 90 Γ A (ug G o r) (ug G o r) [.ref (ad Γ o), .int v1] (some (.int fin)) :=
  kt_of (by decide) (Nat.le_of_ble_eq_true rfl) (fun p e s m args below meth c C => wX2_bestTakenAway_e C hk hf rfl)
theorem kgX2_bestTakenAway {l : Launch} {Γ : Gm} {A : Nat → Prop} {G : Gs} {o : Nat} {v1 : Int32} {fin : Int32} (hk : kd Γ o = some 2) (hf : fX2_bestTakenAway (G o) v1 = some fin) : Kt l yX2_bestTakenAway cX2_bestTakenAway 7 (some .int) 4 90 Γ A G G [.ref (ad Γ o), .int v1] (some (.int fin)) := by
  have h := kX2_bestTakenAway (l := l) (A := A) (G := G) (r := G o) hk hf
  rw [ug_self] at h
  exact h
noncomputable def bX2_shareGap_49 (r : Rec) (v2 : Int32) : Option Int32 :=
  (some (abi v2)).bind fun x1 => some (x1)
set_option maxRecDepth 100000 in
set_option maxHeartbeats 4000000 in
theorem wX2_shareGap_49 {p : Program} {l : Launch} {e : Env} {s : State} {m : MethodId} {args : Array Value} {below : List Frame} {meth : Method} {c : Code} {Γ : Gm} {A : Nat → Prop} {G : Gs} {o : Nat} {r : Rec} {v2 : Int32} {q : Int32} {fin : Int32} (C : Cx p s m args meth c yX2_shareGap cX2_shareGap 5 (some .int) Γ A) (hk : kd Γ o = some 2) (hf : bX2_shareGap_49 r v2 = some q) (hq : (fun x => x = fin) q) : Wk p l e { frames := 2, cells := 0, slots := 0, locals := 44 } s m args below meth c Γ A (ug G o r) (some (.int fin)) 49 5 [(2, .int v2)] [] (ug G o r) := by
  intro H locs ls hw hS hl
  unfold bX2_shareGap_49 at hf
  obtain ⟨hx, hb, hml, hr, hown, htw, hlocks, hE⟩ := id C
  have hown : s.vm.findClass RX2 = some m.cls := hown
  refine lv_iload_n hx hb dX2_shareGap_49 rfl (lv_at hl 0 rfl) ?_
  refine va_mabs hx hb (hml.trans hl.1.symm) hown (htw _ mw992) (htw _ mw993) (htw _ mw122) (htw _ mw994) (Nat.le_of_ble_eq_true rfl) (Nat.le_of_ble_eq_true rfl) (Nat.le_refl _) (Nat.le_refl _) dX2_shareGap_50 ?_
  obtain ⟨x1, hx1, hf⟩ := bd hf
  have hx1 := Option.some.inj hx1
  refine tp1i hx1 ?_
  obtain rfl := Option.some.inj hf
  subst hq
  exact rt_i C hw hS dX2_shareGap_53

noncomputable def bX2_shareGap_41 (r : Rec) (v1 : Int32) (v3 : Int32) (s0 : Int32) (s1 : Int32) : Option ((Int32 × Int32) ⊕ Int32) :=
  some (.inl (s1 + s0, v3 + 1))
set_option maxRecDepth 100000 in
set_option maxHeartbeats 4000000 in
theorem wX2_shareGap_41 {p : Program} {l : Launch} {e : Env} {s : State} {m : MethodId} {args : Array Value} {below : List Frame} {meth : Method} {c : Code} {Γ : Gm} {A : Nat → Prop} {G : Gs} {o : Nat} {r : Rec} {v1 : Int32} {v3 : Int32} {s0 : Int32} {s1 : Int32} {q : ((Int32 × Int32) ⊕ Int32)} {fin : Int32} (C : Cx p s m args meth c yX2_shareGap cX2_shareGap 5 (some .int) Γ A) (hk : kd Γ o = some 2) (hf : bX2_shareGap_41 r v1 v3 s0 s1 = some q) (hq : (KC (fun st : Int32 × Int32 => Wk p l e { frames := 2, cells := 0, slots := 0, locals := 44 } s m args below meth c Γ A (ug G o r) (some (.int fin)) 4 5 [(0, .ref (ad Γ o)), (1, .int v1), (2, .int st.1), (3, .int st.2)] [] (ug G o r)) (fun x => x = fin)) q) : Wk p l e { frames := 2, cells := 0, slots := 0, locals := 44 } s m args below meth c Γ A (ug G o r) (some (.int fin)) 41 5 [(0, .ref (ad Γ o)), (1, .int v1), (3, .int v3)] [.int s0, .int s1] (ug G o r) := by
  intro H locs ls hw hS hl
  unfold bX2_shareGap_41 at hf
  obtain ⟨hx, hb, hml, hr, hown, htw, hlocks, hE⟩ := id C
  have hown : s.vm.findClass RX2 = some m.cls := hown
  refine lv_iadd hx hb dX2_shareGap_41 ?_
  refine lv_istore_n (lv' := [(2, .int (s1 + s0)), (0, .ref (ad Γ o)), (1, .int v1), (3, .int v3)]) hx hb dX2_shareGap_42 rfl hl (by decide) rfl (fun ls hl => ?_)
  refine lv_iinc (v := v3 + 1) (lv' := [(3, .int (v3 + 1)), (2, .int (s1 + s0)), (0, .ref (ad Γ o)), (1, .int v1)]) hx hb dX2_shareGap_43 hl (k := 3) rfl (by rfl) (by decide) rfl (fun ls hl => ?_)
  refine lv_goto (tgt := 4) hx hb dX2_shareGap_46 (by decide) ?_
  obtain rfl := Option.some.inj hf
  exact hq.1 _ rfl H locs ls hw hS (lv_sub hl [2, 3, 1, 0] rfl)

noncomputable def bX2_shareGap_4 (r : Rec) (v1 : Int32) (v2 : Int32) (v3 : Int32) : Option ((Int32 × Int32) ⊕ Int32) :=
  if (gi r 0) ≤ v3 then out1 (bX2_shareGap_49 r v2) else gd (inR v3 8) ((fX2_weightOf r (ga r 5 (Int32.toNatClampNeg v3))).bind fun z4 => (fX9_hasBit v1 v3).bind fun z5 => if z5 = 0 then bX2_shareGap_41 r v1 v3 (-z4) v2 else bX2_shareGap_41 r v1 v3 z4 v2)
set_option maxRecDepth 100000 in
set_option maxHeartbeats 4000000 in
theorem wX2_shareGap_4 {p : Program} {l : Launch} {e : Env} {s : State} {m : MethodId} {args : Array Value} {below : List Frame} {meth : Method} {c : Code} {Γ : Gm} {A : Nat → Prop} {G : Gs} {o : Nat} {r : Rec} {v1 : Int32} {v2 : Int32} {v3 : Int32} {q : ((Int32 × Int32) ⊕ Int32)} {fin : Int32} (C : Cx p s m args meth c yX2_shareGap cX2_shareGap 5 (some .int) Γ A) (hk : kd Γ o = some 2) (hf : bX2_shareGap_4 r v1 v2 v3 = some q) (hq : (KC (fun st : Int32 × Int32 => Wk p l e { frames := 2, cells := 0, slots := 0, locals := 44 } s m args below meth c Γ A (ug G o r) (some (.int fin)) 4 5 [(0, .ref (ad Γ o)), (1, .int v1), (2, .int st.1), (3, .int st.2)] [] (ug G o r)) (fun x => x = fin)) q) : Wk p l e { frames := 2, cells := 0, slots := 0, locals := 44 } s m args below meth c Γ A (ug G o r) (some (.int fin)) 4 5 [(0, .ref (ad Γ o)), (1, .int v1), (2, .int v2), (3, .int v3)] [] (ug G o r) := by
  intro H locs ls hw hS hl
  unfold bX2_shareGap_4 at hf
  obtain ⟨hx, hb, hml, hr, hown, htw, hlocks, hE⟩ := id C
  have hown : s.vm.findClass RX2 = some m.cls := hown
  refine lv_iload_n hx hb dX2_shareGap_4 rfl (lv_at hl 3 rfl) ?_
  refine lv_aload_n hx hb dX2_shareGap_5 rfl (lv_at hl 0 rfl) ?_
  refine va_get (ci := 2) (v := .int (gi r 0)) (C := RX2) (T := TX2) (N := 11) hx hb htw uwX2 hown hE.1 (wo_me hw hk) 0 rfl rfl 0 (by decide) (htw _ mw160) (fun _ h9 => h9) rfl dX2_shareGap_6 ?_
  refine lv_icmp_ge (tgt := 49) hx hb dX2_shareGap_9 (by decide) (fun c7 => ?_) (fun c7 => ?_)
  · have hf := ifp c7 hf
    obtain ⟨q2, hfq2, eq2⟩ := out1_some hf
    subst eq2
    have hf := hfq2
    have hq := hq.2 _ rfl
    exact wX2_shareGap_49 C hk hf hq H locs ls hw hS (lv_sub hl [2] rfl)
  · have hf := ifn c7 hf
    refine lv_aload_n hx hb dX2_shareGap_12 rfl (lv_at hl 0 rfl) ?_
    refine lv_aload_n hx hb dX2_shareGap_13 rfl (lv_at hl 0 rfl) ?_
    refine va_get (ci := 2) (v := .ref (aa Γ o 5)) (C := RX2) (T := TX2) (N := 11) hx hb htw uwX2 hown hE.1 (wo_me hw hk) 0 rfl rfl 5 (by decide) (htw _ mw178) (fun _ h9 => h9) rfl dX2_shareGap_14 ?_
    refine lv_iload_n hx hb dX2_shareGap_17 rfl (lv_at hl 3 rfl) ?_
    obtain ⟨g3, hf⟩ := gd_some hf
    refine va_iald hx hb hE.1 (wo_me hw hk) 3 0 rfl rfl (inR_in g3) dX2_shareGap_18 ?_
    obtain ⟨z4, hz4, hf⟩ := bd hf
    refine cl_Vs (rest := []) (kX2_weightOf (l := l) (Γ := Γ) (A := A) (G := G) (o := o) hk hz4) ⟨hx, hb, hml, hown, htw⟩ hE hw hS (wo_me hw hk) (q0 := 0) rfl rfl mw991 mw930 mw931 mw120 mw932 pdX2_weightOf ⟨Nat.le_of_ble_eq_true rfl, Nat.le_of_ble_eq_true rfl⟩ rfl rfl hl.1 (Nat.le_of_ble_eq_true rfl) dX2_shareGap_19 (fun H locs hw hS => ?_)
    refine lv_istore (lv' := [(4, .int z4), (0, .ref (ad Γ o)), (1, .int v1), (2, .int v2), (3, .int v3)]) hx hb dX2_shareGap_22 hl (by decide) rfl (fun ls hl => ?_)
    refine lv_iload_n hx hb dX2_shareGap_24 rfl (lv_at hl 3 rfl) ?_
    refine lv_iload_n hx hb dX2_shareGap_25 rfl (lv_at hl 2 rfl) ?_
    refine lv_iload_n hx hb dX2_shareGap_26 rfl (lv_at hl 4 rfl) ?_
    obtain ⟨z5, hz5, hf⟩ := bd hf
    refine cl_SN (rest := [.int v2]) (kX9_hasBit (l := l) (Γ := Γ) (A := A) (G := (ug G o r)) hz5) ⟨hx, hb, hml, hown, htw⟩ hE hw hS (nw8 hE.2.2.1) mw717 mw118 mw718 pdX9_hasBit ⟨Nat.le_of_ble_eq_true rfl, Nat.le_of_ble_eq_true rfl⟩ rfl rfl hl.1 (Nat.le_of_ble_eq_true rfl) dX2_shareGap_27 (fun H locs hw hS => ?_)
    refine lv_if_eq (tgt := 38) hx hb dX2_shareGap_30 (by decide) (fun c6 => ?_) (fun c6 => ?_)
    · have hf := ifp c6 hf
      refine lv_iload hx hb dX2_shareGap_38 (lv_at hl 0 rfl) ?_
      refine lv_ineg hx hb dX2_shareGap_40 ?_
      exact wX2_shareGap_41 C hk hf hq H locs ls hw hS (lv_sub hl [1, 2, 4] rfl)
    · have hf := ifn c6 hf
      refine lv_iload hx hb dX2_shareGap_33 (lv_at hl 0 rfl) ?_
      refine lv_goto (tgt := 41) hx hb dX2_shareGap_35 (by decide) ?_
      exact wX2_shareGap_41 C hk hf hq H locs ls hw hS (lv_sub hl [1, 2, 4] rfl)

set_option maxRecDepth 100000 in
set_option maxHeartbeats 4000000 in
theorem lwX2_shareGap_4 {p : Program} {l : Launch} {e : Env} {s : State} {m : MethodId} {args : Array Value} {below : List Frame} {meth : Method} {c : Code} {Γ : Gm} {A : Nat → Prop} {G : Gs} {o : Nat} {r : Rec} {v1 : Int32} {v2 : Int32} {v3 : Int32} {q : Int32} {fin : Int32} (C : Cx p s m args meth c yX2_shareGap cX2_shareGap 5 (some .int) Γ A) (hk : kd Γ o = some 2) (hf : iter (fun st : Int32 × Int32 => bX2_shareGap_4 r v1 st.1 st.2) (v2, v3) = some q) (hq : (fun x => x = fin) q) : Wk p l e { frames := 2, cells := 0, slots := 0, locals := 44 } s m args below meth c Γ A (ug G o r) (some (.int fin)) 4 5 [(0, .ref (ad Γ o)), (1, .int v1), (2, .int v2), (3, .int v3)] [] (ug G o r) := by
  intro H locs ls hw hS hl
  refine iter_walk (P := (fun st : Int32 × Int32 => Wk p l e { frames := 2, cells := 0, slots := 0, locals := 44 } s m args below meth c Γ A (ug G o r) (some (.int fin)) 4 5 [(0, .ref (ad Γ o)), (1, .int v1), (2, .int st.1), (3, .int st.2)] [] (ug G o r))) (K := (fun x => x = fin)) (fun st q hq1 h1 h2 => ?_) hf hq H locs ls hw hS hl
  exact wX2_shareGap_4 (v2 := st.1) (v3 := st.2) C hk hq1 ⟨h1, h2⟩

noncomputable def fX2_shareGap (r : Rec) (v1 : Int32) : Option Int32 :=
  iter (fun st : Int32 × Int32 => bX2_shareGap_4 r v1 st.1 st.2) (0, 0)
set_option maxRecDepth 100000 in
set_option maxHeartbeats 4000000 in
theorem wX2_shareGap_e {p : Program} {l : Launch} {e : Env} {s : State} {m : MethodId} {args : Array Value} {below : List Frame} {meth : Method} {c : Code} {Γ : Gm} {A : Nat → Prop} {G : Gs} {o : Nat} {r : Rec} {v1 : Int32} {q : Int32} {fin : Int32} (C : Cx p s m args meth c yX2_shareGap cX2_shareGap 5 (some .int) Γ A) (hk : kd Γ o = some 2) (hf : fX2_shareGap r v1 = some q) (hq : (fun x => x = fin) q) : Wk p l e { frames := 2, cells := 0, slots := 0, locals := 44 } s m args below meth c Γ A (ug G o r) (some (.int fin)) 0 5 [(0, .ref (ad Γ o)), (1, .int v1)] [] (ug G o r) := by
  intro H locs ls hw hS hl
  unfold fX2_shareGap at hf
  obtain ⟨hx, hb, hml, hr, hown, htw, hlocks, hE⟩ := id C
  have hown : s.vm.findClass RX2 = some m.cls := hown
  refine lv_iconst (v := 0) hx hb dX2_shareGap_0 (by decide) ?_
  refine lv_istore_n (lv' := [(2, .int 0), (0, .ref (ad Γ o)), (1, .int v1)]) hx hb dX2_shareGap_1 rfl hl (by decide) rfl (fun ls hl => ?_)
  refine lv_iconst (v := 0) hx hb dX2_shareGap_2 (by decide) ?_
  refine lv_istore_n (lv' := [(3, .int 0), (2, .int 0), (0, .ref (ad Γ o)), (1, .int v1)]) hx hb dX2_shareGap_3 rfl hl (by decide) rfl (fun ls hl => ?_)
  exact lwX2_shareGap_4 C hk hf hq H locs ls hw hS (lv_sub hl [2, 3, 1, 0] rfl)

theorem kX2_shareGap {l : Launch} {Γ : Gm} {A : Nat → Prop} {G : Gs} {o : Nat} {r : Rec} {v1 : Int32} {fin : Int32} (hk : kd Γ o = some 2) (hf : fX2_shareGap r v1 = some fin) : Kt l yX2_shareGap cX2_shareGap 5 (some .int) 2 44 Γ A (ug G o r) (ug G o r) [.ref (ad Γ o), .int v1] (some (.int fin)) :=
  kt_of (by decide) (Nat.le_of_ble_eq_true rfl) (fun p e s m args below meth c C => wX2_shareGap_e C hk hf rfl)
theorem kgX2_shareGap {l : Launch} {Γ : Gm} {A : Nat → Prop} {G : Gs} {o : Nat} {v1 : Int32} {fin : Int32} (hk : kd Γ o = some 2) (hf : fX2_shareGap (G o) v1 = some fin) : Kt l yX2_shareGap cX2_shareGap 5 (some .int) 2 44 Γ A G G [.ref (ad Γ o), .int v1] (some (.int fin)) := by
  have h := kX2_shareGap (l := l) (A := A) (G := G) (r := G o) hk hf
  rw [ug_self] at h
  exact h
noncomputable def bX2_evenestShare_36 (r : Rec) (v1 : Int32) (v2 : Int32) (v3 : Int32) : Option ((Int32 × Int32 × Int32) ⊕ Int32) :=
  some (.inl (v1, v2, v3 + 1))
set_option maxRecDepth 100000 in
set_option maxHeartbeats 4000000 in
theorem wX2_evenestShare_36 {p : Program} {l : Launch} {e : Env} {s : State} {m : MethodId} {args : Array Value} {below : List Frame} {meth : Method} {c : Code} {Γ : Gm} {A : Nat → Prop} {G : Gs} {o : Nat} {r : Rec} {v1 : Int32} {v2 : Int32} {v3 : Int32} {q : ((Int32 × Int32 × Int32) ⊕ Int32)} {fin : Int32} (C : Cx p s m args meth c yX2_evenestShare cX2_evenestShare 5 (some .int) Γ A) (hk : kd Γ o = some 2) (hf : bX2_evenestShare_36 r v1 v2 v3 = some q) (hq : (KC (fun st : Int32 × Int32 × Int32 => Wk p l e { frames := 3, cells := 0, slots := 0, locals := 68 } s m args below meth c Γ A (ug G o r) (some (.int fin)) 10 5 [(0, .ref (ad Γ o)), (1, .int st.1), (2, .int st.2.1), (3, .int st.2.2)] [] (ug G o r)) (fun x => x = fin)) q) : Wk p l e { frames := 3, cells := 0, slots := 0, locals := 68 } s m args below meth c Γ A (ug G o r) (some (.int fin)) 36 5 [(0, .ref (ad Γ o)), (1, .int v1), (2, .int v2), (3, .int v3)] [] (ug G o r) := by
  intro H locs ls hw hS hl
  unfold bX2_evenestShare_36 at hf
  obtain ⟨hx, hb, hml, hr, hown, htw, hlocks, hE⟩ := id C
  have hown : s.vm.findClass RX2 = some m.cls := hown
  refine lv_iinc (v := v3 + 1) (lv' := [(3, .int (v3 + 1)), (0, .ref (ad Γ o)), (1, .int v1), (2, .int v2)]) hx hb dX2_evenestShare_36 hl (k := 3) rfl (by rfl) (by decide) rfl (fun ls hl => ?_)
  refine lv_goto (tgt := 10) hx hb dX2_evenestShare_39 (by decide) ?_
  obtain rfl := Option.some.inj hf
  exact hq.1 _ rfl H locs ls hw hS (lv_sub hl [1, 2, 3, 0] rfl)

noncomputable def bX2_evenestShare_10 (r : Rec) (v1 : Int32) (v2 : Int32) (v3 : Int32) : Option ((Int32 × Int32 × Int32) ⊕ Int32) :=
  (fX2_allPieces r).bind fun z1 => if z1 < v3 then some (.inr (v1)) else (fX2_shareGap r v3).bind fun z2 => if v2 ≤ z2 then bX2_evenestShare_36 r v1 v2 v3 else bX2_evenestShare_36 r v3 z2 v3
set_option maxRecDepth 100000 in
set_option maxHeartbeats 4000000 in
theorem wX2_evenestShare_10 {p : Program} {l : Launch} {e : Env} {s : State} {m : MethodId} {args : Array Value} {below : List Frame} {meth : Method} {c : Code} {Γ : Gm} {A : Nat → Prop} {G : Gs} {o : Nat} {r : Rec} {v1 : Int32} {v2 : Int32} {v3 : Int32} {q : ((Int32 × Int32 × Int32) ⊕ Int32)} {fin : Int32} (C : Cx p s m args meth c yX2_evenestShare cX2_evenestShare 5 (some .int) Γ A) (hk : kd Γ o = some 2) (hf : bX2_evenestShare_10 r v1 v2 v3 = some q) (hq : (KC (fun st : Int32 × Int32 × Int32 => Wk p l e { frames := 3, cells := 0, slots := 0, locals := 68 } s m args below meth c Γ A (ug G o r) (some (.int fin)) 10 5 [(0, .ref (ad Γ o)), (1, .int st.1), (2, .int st.2.1), (3, .int st.2.2)] [] (ug G o r)) (fun x => x = fin)) q) : Wk p l e { frames := 3, cells := 0, slots := 0, locals := 68 } s m args below meth c Γ A (ug G o r) (some (.int fin)) 10 5 [(0, .ref (ad Γ o)), (1, .int v1), (2, .int v2), (3, .int v3)] [] (ug G o r) := by
  intro H locs ls hw hS hl
  unfold bX2_evenestShare_10 at hf
  obtain ⟨hx, hb, hml, hr, hown, htw, hlocks, hE⟩ := id C
  have hown : s.vm.findClass RX2 = some m.cls := hown
  refine lv_iload_n hx hb dX2_evenestShare_10 rfl (lv_at hl 3 rfl) ?_
  refine lv_aload_n hx hb dX2_evenestShare_11 rfl (lv_at hl 0 rfl) ?_
  obtain ⟨z1, hz1, hf⟩ := bd hf
  refine cl_Vs (rest := [.int v3]) (kX2_allPieces (l := l) (Γ := Γ) (A := A) (G := G) (o := o) hk hz1) ⟨hx, hb, hml, hown, htw⟩ hE hw hS (wo_me hw hk) (q0 := 0) rfl rfl mw995 mw924 mw925 mw120 mw926 pdX2_allPieces ⟨Nat.le_of_ble_eq_true rfl, Nat.le_of_ble_eq_true rfl⟩ rfl rfl hl.1 (Nat.le_of_ble_eq_true rfl) dX2_evenestShare_12 (fun H locs hw hS => ?_)
  refine lv_icmp_gt (tgt := 42) hx hb dX2_evenestShare_15 (by decide) (fun c4 => ?_) (fun c4 => ?_)
  · have hf := ifp c4 hf
    refine lv_iload_n hx hb dX2_evenestShare_42 rfl (lv_at hl 1 rfl) ?_
    obtain rfl := Option.some.inj hf
    have hq := hq.2 _ rfl
    subst hq
    exact rt_i C hw hS dX2_evenestShare_43
  · have hf := ifn c4 hf
    refine lv_aload_n hx hb dX2_evenestShare_18 rfl (lv_at hl 0 rfl) ?_
    refine lv_iload_n hx hb dX2_evenestShare_19 rfl (lv_at hl 3 rfl) ?_
    obtain ⟨z2, hz2, hf⟩ := bd hf
    refine cl_Vs (rest := []) (kX2_shareGap (l := l) (Γ := Γ) (A := A) (G := G) (o := o) hk hz2) ⟨hx, hb, hml, hown, htw⟩ hE hw hS (wo_me hw hk) (q0 := 0) rfl rfl mw987 mw988 mw989 mw120 mw990 pdX2_shareGap ⟨Nat.le_of_ble_eq_true rfl, Nat.le_of_ble_eq_true rfl⟩ rfl rfl hl.1 (Nat.le_of_ble_eq_true rfl) dX2_evenestShare_20 (fun H locs hw hS => ?_)
    refine lv_istore (lv' := [(4, .int z2), (0, .ref (ad Γ o)), (1, .int v1), (2, .int v2), (3, .int v3)]) hx hb dX2_evenestShare_23 hl (by decide) rfl (fun ls hl => ?_)
    refine lv_iload hx hb dX2_evenestShare_25 (lv_at hl 0 rfl) ?_
    refine lv_iload_n hx hb dX2_evenestShare_27 rfl (lv_at hl 3 rfl) ?_
    refine lv_icmp_ge (tgt := 36) hx hb dX2_evenestShare_28 (by decide) (fun c3 => ?_) (fun c3 => ?_)
    · have hf := ifp c3 hf
      exact wX2_evenestShare_36 C hk hf hq H locs ls hw hS (lv_sub hl [1, 2, 3, 4] rfl)
    · have hf := ifn c3 hf
      refine lv_iload_n hx hb dX2_evenestShare_31 rfl (lv_at hl 4 rfl) ?_
      refine lv_istore_n (lv' := [(1, .int v3), (4, .int z2), (0, .ref (ad Γ o)), (2, .int v2), (3, .int v3)]) hx hb dX2_evenestShare_32 rfl hl (by decide) rfl (fun ls hl => ?_)
      refine lv_iload hx hb dX2_evenestShare_33 (lv_at hl 1 rfl) ?_
      refine lv_istore_n (lv' := [(2, .int z2), (1, .int v3), (4, .int z2), (0, .ref (ad Γ o)), (3, .int v3)]) hx hb dX2_evenestShare_35 rfl hl (by decide) rfl (fun ls hl => ?_)
      exact wX2_evenestShare_36 C hk hf hq H locs ls hw hS (lv_sub hl [3, 1, 0, 4] rfl)

set_option maxRecDepth 100000 in
set_option maxHeartbeats 4000000 in
theorem lwX2_evenestShare_10 {p : Program} {l : Launch} {e : Env} {s : State} {m : MethodId} {args : Array Value} {below : List Frame} {meth : Method} {c : Code} {Γ : Gm} {A : Nat → Prop} {G : Gs} {o : Nat} {r : Rec} {v1 : Int32} {v2 : Int32} {v3 : Int32} {q : Int32} {fin : Int32} (C : Cx p s m args meth c yX2_evenestShare cX2_evenestShare 5 (some .int) Γ A) (hk : kd Γ o = some 2) (hf : iter (fun st : Int32 × Int32 × Int32 => bX2_evenestShare_10 r st.1 st.2.1 st.2.2) (v1, v2, v3) = some q) (hq : (fun x => x = fin) q) : Wk p l e { frames := 3, cells := 0, slots := 0, locals := 68 } s m args below meth c Γ A (ug G o r) (some (.int fin)) 10 5 [(0, .ref (ad Γ o)), (1, .int v1), (2, .int v2), (3, .int v3)] [] (ug G o r) := by
  intro H locs ls hw hS hl
  refine iter_walk (P := (fun st : Int32 × Int32 × Int32 => Wk p l e { frames := 3, cells := 0, slots := 0, locals := 68 } s m args below meth c Γ A (ug G o r) (some (.int fin)) 10 5 [(0, .ref (ad Γ o)), (1, .int st.1), (2, .int st.2.1), (3, .int st.2.2)] [] (ug G o r))) (K := (fun x => x = fin)) (fun st q hq1 h1 h2 => ?_) hf hq H locs ls hw hS hl
  exact wX2_evenestShare_10 (v1 := st.1) (v2 := st.2.1) (v3 := st.2.2) C hk hq1 ⟨h1, h2⟩

noncomputable def fX2_evenestShare (r : Rec) : Option Int32 :=
  (fX2_shareGap r 0).bind fun z5 => iter (fun st : Int32 × Int32 × Int32 => bX2_evenestShare_10 r st.1 st.2.1 st.2.2) (0, z5, 1)
set_option maxRecDepth 100000 in
set_option maxHeartbeats 4000000 in
theorem wX2_evenestShare_e {p : Program} {l : Launch} {e : Env} {s : State} {m : MethodId} {args : Array Value} {below : List Frame} {meth : Method} {c : Code} {Γ : Gm} {A : Nat → Prop} {G : Gs} {o : Nat} {r : Rec} {q : Int32} {fin : Int32} (C : Cx p s m args meth c yX2_evenestShare cX2_evenestShare 5 (some .int) Γ A) (hk : kd Γ o = some 2) (hf : fX2_evenestShare r = some q) (hq : (fun x => x = fin) q) : Wk p l e { frames := 3, cells := 0, slots := 0, locals := 68 } s m args below meth c Γ A (ug G o r) (some (.int fin)) 0 5 [(0, .ref (ad Γ o))] [] (ug G o r) := by
  intro H locs ls hw hS hl
  unfold fX2_evenestShare at hf
  obtain ⟨hx, hb, hml, hr, hown, htw, hlocks, hE⟩ := id C
  have hown : s.vm.findClass RX2 = some m.cls := hown
  refine lv_iconst (v := 0) hx hb dX2_evenestShare_0 (by decide) ?_
  refine lv_istore_n (lv' := [(1, .int 0), (0, .ref (ad Γ o))]) hx hb dX2_evenestShare_1 rfl hl (by decide) rfl (fun ls hl => ?_)
  refine lv_aload_n hx hb dX2_evenestShare_2 rfl (lv_at hl 1 rfl) ?_
  refine lv_iconst (v := 0) hx hb dX2_evenestShare_3 (by decide) ?_
  obtain ⟨z5, hz5, hf⟩ := bd hf
  refine cl_Vs (rest := []) (kX2_shareGap (l := l) (Γ := Γ) (A := A) (G := G) (o := o) hk hz5) ⟨hx, hb, hml, hown, htw⟩ hE hw hS (wo_me hw hk) (q0 := 0) rfl rfl mw987 mw988 mw989 mw120 mw990 pdX2_shareGap ⟨Nat.le_of_ble_eq_true rfl, Nat.le_of_ble_eq_true rfl⟩ rfl rfl hl.1 (Nat.le_of_ble_eq_true rfl) dX2_evenestShare_4 (fun H locs hw hS => ?_)
  refine lv_istore_n (lv' := [(2, .int z5), (1, .int 0), (0, .ref (ad Γ o))]) hx hb dX2_evenestShare_7 rfl hl (by decide) rfl (fun ls hl => ?_)
  refine lv_iconst (v := 1) hx hb dX2_evenestShare_8 (by decide) ?_
  refine lv_istore_n (lv' := [(3, .int 1), (2, .int z5), (1, .int 0), (0, .ref (ad Γ o))]) hx hb dX2_evenestShare_9 rfl hl (by decide) rfl (fun ls hl => ?_)
  exact lwX2_evenestShare_10 C hk hf hq H locs ls hw hS (lv_sub hl [3, 2, 1, 0] rfl)

theorem kX2_evenestShare {l : Launch} {Γ : Gm} {A : Nat → Prop} {G : Gs} {o : Nat} {r : Rec} {fin : Int32} (hk : kd Γ o = some 2) (hf : fX2_evenestShare r = some fin) : Kt l yX2_evenestShare cX2_evenestShare 5 (some .int) 3 68 Γ A (ug G o r) (ug G o r) [.ref (ad Γ o)] (some (.int fin)) :=
  kt_of (by decide) (Nat.le_of_ble_eq_true rfl) (fun p e s m args below meth c C => wX2_evenestShare_e C hk hf rfl)
theorem kgX2_evenestShare {l : Launch} {Γ : Gm} {A : Nat → Prop} {G : Gs} {o : Nat} {fin : Int32} (hk : kd Γ o = some 2) (hf : fX2_evenestShare (G o) = some fin) : Kt l yX2_evenestShare cX2_evenestShare 5 (some .int) 3 68 Γ A G G [.ref (ad Γ o)] (some (.int fin)) := by
  have h := kX2_evenestShare (l := l) (A := A) (G := G) (r := G o) hk hf
  rw [ug_self] at h
  exact h
noncomputable def fX2_shineBehind (r : Rec) (v1 : Int32) (v2 : Int32) (v3 : Int32) : Option Int32 :=
  (fX2_worthTo r v1 v2).bind fun z1 => gd (inR v2 8) ((some (z1 - (v3 * (ga r 4 (Int32.toNatClampNeg v2))))).bind fun x3 => (some (mxi 0 x3)).bind fun x4 => some (x4))
set_option maxRecDepth 100000 in
set_option maxHeartbeats 4000000 in
theorem wX2_shineBehind_e {p : Program} {l : Launch} {e : Env} {s : State} {m : MethodId} {args : Array Value} {below : List Frame} {meth : Method} {c : Code} {Γ : Gm} {A : Nat → Prop} {G : Gs} {o : Nat} {r : Rec} {v1 : Int32} {v2 : Int32} {v3 : Int32} {q : Int32} {fin : Int32} (C : Cx p s m args meth c yX2_shineBehind cX2_shineBehind 4 (some .int) Γ A) (hk : kd Γ o = some 2) (hf : fX2_shineBehind r v1 v2 v3 = some q) (hq : (fun x => x = fin) q) : Wk p l e { frames := 3, cells := 0, slots := 0, locals := 68 } s m args below meth c Γ A (ug G o r) (some (.int fin)) 0 4 [(0, .ref (ad Γ o)), (1, .int v1), (2, .int v2), (3, .int v3)] [] (ug G o r) := by
  intro H locs ls hw hS hl
  unfold fX2_shineBehind at hf
  obtain ⟨hx, hb, hml, hr, hown, htw, hlocks, hE⟩ := id C
  have hown : s.vm.findClass RX2 = some m.cls := hown
  refine lv_iconst (v := 0) hx hb dX2_shineBehind_0 (by decide) ?_
  refine lv_aload_n hx hb dX2_shineBehind_1 rfl (lv_at hl 0 rfl) ?_
  refine lv_iload_n hx hb dX2_shineBehind_2 rfl (lv_at hl 1 rfl) ?_
  refine lv_iload_n hx hb dX2_shineBehind_3 rfl (lv_at hl 2 rfl) ?_
  obtain ⟨z1, hz1, hf⟩ := bd hf
  refine cl_Vs (rest := [.int 0]) (kX2_worthTo (l := l) (Γ := Γ) (A := A) (G := G) (o := o) hk hz1) ⟨hx, hb, hml, hown, htw⟩ hE hw hS (wo_me hw hk) (q0 := 0) rfl rfl mw1088 mw709 mw710 mw120 mw711 pdX2_worthTo ⟨Nat.le_of_ble_eq_true rfl, Nat.le_of_ble_eq_true rfl⟩ rfl rfl hl.1 (Nat.le_of_ble_eq_true rfl) dX2_shineBehind_4 (fun H locs hw hS => ?_)
  refine lv_iload_n hx hb dX2_shineBehind_7 rfl (lv_at hl 3 rfl) ?_
  refine lv_aload_n hx hb dX2_shineBehind_8 rfl (lv_at hl 0 rfl) ?_
  refine va_get (ci := 2) (v := .ref (aa Γ o 4)) (C := RX2) (T := TX2) (N := 11) hx hb htw uwX2 hown hE.1 (wo_me hw hk) 0 rfl rfl 4 (by decide) (htw _ mw175) (fun _ h9 => h9) rfl dX2_shineBehind_9 ?_
  refine lv_iload_n hx hb dX2_shineBehind_12 rfl (lv_at hl 2 rfl) ?_
  obtain ⟨g2, hf⟩ := gd_some hf
  refine va_iald hx hb hE.1 (wo_me hw hk) 2 0 rfl rfl (inR_in g2) dX2_shineBehind_13 ?_
  refine lv_imul hx hb dX2_shineBehind_14 ?_
  refine lv_isub hx hb dX2_shineBehind_15 ?_
  obtain ⟨x3, hx3, hf⟩ := bd hf
  have hx3 := Option.some.inj hx3
  refine tp1i hx3 ?_
  refine va_mmax hx hb (hml.trans hl.1.symm) hown (htw _ mw1089) (htw _ mw225) (htw _ mw122) (htw _ mw226) (Nat.le_of_ble_eq_true rfl) (Nat.le_of_ble_eq_true rfl) (Nat.le_refl _) (Nat.le_refl _) dX2_shineBehind_16 ?_
  obtain ⟨x4, hx4, hf⟩ := bd hf
  have hx4 := Option.some.inj hx4
  refine tp1i hx4 ?_
  obtain rfl := Option.some.inj hf
  subst hq
  exact rt_i C hw hS dX2_shineBehind_19

theorem kX2_shineBehind {l : Launch} {Γ : Gm} {A : Nat → Prop} {G : Gs} {o : Nat} {r : Rec} {v1 : Int32} {v2 : Int32} {v3 : Int32} {fin : Int32} (hk : kd Γ o = some 2) (hf : fX2_shineBehind r v1 v2 v3 = some fin) : Kt l yX2_shineBehind cX2_shineBehind 4 (some .int) 3 68 Γ A (ug G o r) (ug G o r) [.ref (ad Γ o), .int v1, .int v2, .int v3] (some (.int fin)) :=
  kt_of (by decide) (Nat.le_of_ble_eq_true rfl) (fun p e s m args below meth c C => wX2_shineBehind_e C hk hf rfl)
theorem kgX2_shineBehind {l : Launch} {Γ : Gm} {A : Nat → Prop} {G : Gs} {o : Nat} {v1 : Int32} {v2 : Int32} {v3 : Int32} {fin : Int32} (hk : kd Γ o = some 2) (hf : fX2_shineBehind (G o) v1 v2 v3 = some fin) : Kt l yX2_shineBehind cX2_shineBehind 4 (some .int) 3 68 Γ A G G [.ref (ad Γ o), .int v1, .int v2, .int v3] (some (.int fin)) := by
  have h := kX2_shineBehind (l := l) (A := A) (G := G) (r := G o) hk hf
  rw [ug_self] at h
  exact h
noncomputable def bX2_longestShining_35 (r : Rec) (v1 : Int32) (v2 : Int32) (v3 : Int32) (v4 : Int32) : Option ((Int32 × Int32) ⊕ Int32) :=
  some (.inl (v3, v4 + 1))
set_option maxRecDepth 100000 in
set_option maxHeartbeats 4000000 in
theorem wX2_longestShining_35 {p : Program} {l : Launch} {e : Env} {s : State} {m : MethodId} {args : Array Value} {below : List Frame} {meth : Method} {c : Code} {Γ : Gm} {A : Nat → Prop} {G : Gs} {o : Nat} {r : Rec} {v1 : Int32} {v2 : Int32} {v3 : Int32} {v4 : Int32} {q : ((Int32 × Int32) ⊕ Int32)} {fin : Int32} (C : Cx p s m args meth c yX2_longestShining cX2_longestShining 5 (some .int) Γ A) (hk : kd Γ o = some 2) (hf : bX2_longestShining_35 r v1 v2 v3 v4 = some q) (hq : (KC (fun st : Int32 × Int32 => Wk p l e { frames := 4, cells := 0, slots := 0, locals := 91 } s m args below meth c Γ A (ug G o r) (some (.int fin)) 5 5 [(0, .ref (ad Γ o)), (1, .int v1), (2, .int v2), (3, .int st.1), (4, .int st.2)] [] (ug G o r)) (fun x => x = fin)) q) : Wk p l e { frames := 4, cells := 0, slots := 0, locals := 91 } s m args below meth c Γ A (ug G o r) (some (.int fin)) 35 5 [(0, .ref (ad Γ o)), (1, .int v1), (2, .int v2), (3, .int v3), (4, .int v4)] [] (ug G o r) := by
  intro H locs ls hw hS hl
  unfold bX2_longestShining_35 at hf
  obtain ⟨hx, hb, hml, hr, hown, htw, hlocks, hE⟩ := id C
  have hown : s.vm.findClass RX2 = some m.cls := hown
  refine lv_iinc (v := v4 + 1) (lv' := [(4, .int (v4 + 1)), (0, .ref (ad Γ o)), (1, .int v1), (2, .int v2), (3, .int v3)]) hx hb dX2_longestShining_35 hl (k := 4) rfl (by rfl) (by decide) rfl (fun ls hl => ?_)
  refine lv_goto (tgt := 5) hx hb dX2_longestShining_38 (by decide) ?_
  obtain rfl := Option.some.inj hf
  exact hq.1 _ rfl H locs ls hw hS (lv_sub hl [1, 2, 3, 4, 0] rfl)

noncomputable def bX2_longestShining_5 (r : Rec) (v1 : Int32) (v2 : Int32) (v3 : Int32) (v4 : Int32) : Option ((Int32 × Int32) ⊕ Int32) :=
  if (gi r 1) ≤ v4 then some (.inr (v3)) else (fX2_shineBehind r v4 v1 v2).bind fun z1 => (fX2_shineBehind r v3 v1 v2).bind fun z2 => if z1 ≤ z2 then bX2_longestShining_35 r v1 v2 v3 v4 else bX2_longestShining_35 r v1 v2 v4 v4
set_option maxRecDepth 100000 in
set_option maxHeartbeats 4000000 in
theorem wX2_longestShining_5 {p : Program} {l : Launch} {e : Env} {s : State} {m : MethodId} {args : Array Value} {below : List Frame} {meth : Method} {c : Code} {Γ : Gm} {A : Nat → Prop} {G : Gs} {o : Nat} {r : Rec} {v1 : Int32} {v2 : Int32} {v3 : Int32} {v4 : Int32} {q : ((Int32 × Int32) ⊕ Int32)} {fin : Int32} (C : Cx p s m args meth c yX2_longestShining cX2_longestShining 5 (some .int) Γ A) (hk : kd Γ o = some 2) (hf : bX2_longestShining_5 r v1 v2 v3 v4 = some q) (hq : (KC (fun st : Int32 × Int32 => Wk p l e { frames := 4, cells := 0, slots := 0, locals := 91 } s m args below meth c Γ A (ug G o r) (some (.int fin)) 5 5 [(0, .ref (ad Γ o)), (1, .int v1), (2, .int v2), (3, .int st.1), (4, .int st.2)] [] (ug G o r)) (fun x => x = fin)) q) : Wk p l e { frames := 4, cells := 0, slots := 0, locals := 91 } s m args below meth c Γ A (ug G o r) (some (.int fin)) 5 5 [(0, .ref (ad Γ o)), (1, .int v1), (2, .int v2), (3, .int v3), (4, .int v4)] [] (ug G o r) := by
  intro H locs ls hw hS hl
  unfold bX2_longestShining_5 at hf
  obtain ⟨hx, hb, hml, hr, hown, htw, hlocks, hE⟩ := id C
  have hown : s.vm.findClass RX2 = some m.cls := hown
  refine lv_iload hx hb dX2_longestShining_5 (lv_at hl 4 rfl) ?_
  refine lv_aload_n hx hb dX2_longestShining_7 rfl (lv_at hl 0 rfl) ?_
  refine va_get (ci := 2) (v := .int (gi r 1)) (C := RX2) (T := TX2) (N := 11) hx hb htw uwX2 hown hE.1 (wo_me hw hk) 0 rfl rfl 1 (by decide) (htw _ mw165) (fun _ h9 => h9) rfl dX2_longestShining_8 ?_
  refine lv_icmp_ge (tgt := 41) hx hb dX2_longestShining_11 (by decide) (fun c4 => ?_) (fun c4 => ?_)
  · have hf := ifp c4 hf
    refine lv_iload_n hx hb dX2_longestShining_41 rfl (lv_at hl 3 rfl) ?_
    obtain rfl := Option.some.inj hf
    have hq := hq.2 _ rfl
    subst hq
    exact rt_i C hw hS dX2_longestShining_42
  · have hf := ifn c4 hf
    refine lv_aload_n hx hb dX2_longestShining_14 rfl (lv_at hl 0 rfl) ?_
    refine lv_iload hx hb dX2_longestShining_15 (lv_at hl 4 rfl) ?_
    refine lv_iload_n hx hb dX2_longestShining_17 rfl (lv_at hl 1 rfl) ?_
    refine lv_iload_n hx hb dX2_longestShining_18 rfl (lv_at hl 2 rfl) ?_
    obtain ⟨z1, hz1, hf⟩ := bd hf
    refine cl_Vs (rest := []) (kX2_shineBehind (l := l) (Γ := Γ) (A := A) (G := G) (o := o) hk hz1) ⟨hx, hb, hml, hown, htw⟩ hE hw hS (wo_me hw hk) (q0 := 0) rfl rfl mw1084 mw1085 mw1086 mw120 mw1087 pdX2_shineBehind ⟨Nat.le_of_ble_eq_true rfl, Nat.le_of_ble_eq_true rfl⟩ rfl rfl hl.1 (Nat.le_of_ble_eq_true rfl) dX2_longestShining_19 (fun H locs hw hS => ?_)
    refine lv_aload_n hx hb dX2_longestShining_22 rfl (lv_at hl 0 rfl) ?_
    refine lv_iload_n hx hb dX2_longestShining_23 rfl (lv_at hl 3 rfl) ?_
    refine lv_iload_n hx hb dX2_longestShining_24 rfl (lv_at hl 1 rfl) ?_
    refine lv_iload_n hx hb dX2_longestShining_25 rfl (lv_at hl 2 rfl) ?_
    obtain ⟨z2, hz2, hf⟩ := bd hf
    refine cl_Vs (rest := [.int z1]) (kX2_shineBehind (l := l) (Γ := Γ) (A := A) (G := G) (o := o) hk hz2) ⟨hx, hb, hml, hown, htw⟩ hE hw hS (wo_me hw hk) (q0 := 0) rfl rfl mw1084 mw1085 mw1086 mw120 mw1087 pdX2_shineBehind ⟨Nat.le_of_ble_eq_true rfl, Nat.le_of_ble_eq_true rfl⟩ rfl rfl hl.1 (Nat.le_of_ble_eq_true rfl) dX2_longestShining_26 (fun H locs hw hS => ?_)
    refine lv_icmp_le (tgt := 35) hx hb dX2_longestShining_29 (by decide) (fun c3 => ?_) (fun c3 => ?_)
    · have hf := ifp c3 hf
      exact wX2_longestShining_35 C hk hf hq H locs ls hw hS hl
    · have hf := ifn c3 hf
      refine lv_iload hx hb dX2_longestShining_32 (lv_at hl 4 rfl) ?_
      refine lv_istore_n (lv' := [(3, .int v4), (0, .ref (ad Γ o)), (1, .int v1), (2, .int v2), (4, .int v4)]) hx hb dX2_longestShining_34 rfl hl (by decide) rfl (fun ls hl => ?_)
      exact wX2_longestShining_35 C hk hf hq H locs ls hw hS (lv_sub hl [1, 2, 3, 0, 4] rfl)

set_option maxRecDepth 100000 in
set_option maxHeartbeats 4000000 in
theorem lwX2_longestShining_5 {p : Program} {l : Launch} {e : Env} {s : State} {m : MethodId} {args : Array Value} {below : List Frame} {meth : Method} {c : Code} {Γ : Gm} {A : Nat → Prop} {G : Gs} {o : Nat} {r : Rec} {v1 : Int32} {v2 : Int32} {v3 : Int32} {v4 : Int32} {q : Int32} {fin : Int32} (C : Cx p s m args meth c yX2_longestShining cX2_longestShining 5 (some .int) Γ A) (hk : kd Γ o = some 2) (hf : iter (fun st : Int32 × Int32 => bX2_longestShining_5 r v1 v2 st.1 st.2) (v3, v4) = some q) (hq : (fun x => x = fin) q) : Wk p l e { frames := 4, cells := 0, slots := 0, locals := 91 } s m args below meth c Γ A (ug G o r) (some (.int fin)) 5 5 [(0, .ref (ad Γ o)), (1, .int v1), (2, .int v2), (3, .int v3), (4, .int v4)] [] (ug G o r) := by
  intro H locs ls hw hS hl
  refine iter_walk (P := (fun st : Int32 × Int32 => Wk p l e { frames := 4, cells := 0, slots := 0, locals := 91 } s m args below meth c Γ A (ug G o r) (some (.int fin)) 5 5 [(0, .ref (ad Γ o)), (1, .int v1), (2, .int v2), (3, .int st.1), (4, .int st.2)] [] (ug G o r))) (K := (fun x => x = fin)) (fun st q hq1 h1 h2 => ?_) hf hq H locs ls hw hS hl
  exact wX2_longestShining_5 (v3 := st.1) (v4 := st.2) C hk hq1 ⟨h1, h2⟩

noncomputable def fX2_longestShining (r : Rec) (v1 : Int32) (v2 : Int32) : Option Int32 :=
  iter (fun st : Int32 × Int32 => bX2_longestShining_5 r v1 v2 st.1 st.2) (0, 1)
set_option maxRecDepth 100000 in
set_option maxHeartbeats 4000000 in
theorem wX2_longestShining_e {p : Program} {l : Launch} {e : Env} {s : State} {m : MethodId} {args : Array Value} {below : List Frame} {meth : Method} {c : Code} {Γ : Gm} {A : Nat → Prop} {G : Gs} {o : Nat} {r : Rec} {v1 : Int32} {v2 : Int32} {q : Int32} {fin : Int32} (C : Cx p s m args meth c yX2_longestShining cX2_longestShining 5 (some .int) Γ A) (hk : kd Γ o = some 2) (hf : fX2_longestShining r v1 v2 = some q) (hq : (fun x => x = fin) q) : Wk p l e { frames := 4, cells := 0, slots := 0, locals := 91 } s m args below meth c Γ A (ug G o r) (some (.int fin)) 0 5 [(0, .ref (ad Γ o)), (1, .int v1), (2, .int v2)] [] (ug G o r) := by
  intro H locs ls hw hS hl
  unfold fX2_longestShining at hf
  obtain ⟨hx, hb, hml, hr, hown, htw, hlocks, hE⟩ := id C
  have hown : s.vm.findClass RX2 = some m.cls := hown
  refine lv_iconst (v := 0) hx hb dX2_longestShining_0 (by decide) ?_
  refine lv_istore_n (lv' := [(3, .int 0), (0, .ref (ad Γ o)), (1, .int v1), (2, .int v2)]) hx hb dX2_longestShining_1 rfl hl (by decide) rfl (fun ls hl => ?_)
  refine lv_iconst (v := 1) hx hb dX2_longestShining_2 (by decide) ?_
  refine lv_istore (lv' := [(4, .int 1), (3, .int 0), (0, .ref (ad Γ o)), (1, .int v1), (2, .int v2)]) hx hb dX2_longestShining_3 hl (by decide) rfl (fun ls hl => ?_)
  exact lwX2_longestShining_5 C hk hf hq H locs ls hw hS (lv_sub hl [2, 3, 4, 1, 0] rfl)

theorem kX2_longestShining {l : Launch} {Γ : Gm} {A : Nat → Prop} {G : Gs} {o : Nat} {r : Rec} {v1 : Int32} {v2 : Int32} {fin : Int32} (hk : kd Γ o = some 2) (hf : fX2_longestShining r v1 v2 = some fin) : Kt l yX2_longestShining cX2_longestShining 5 (some .int) 4 91 Γ A (ug G o r) (ug G o r) [.ref (ad Γ o), .int v1, .int v2] (some (.int fin)) :=
  kt_of (by decide) (Nat.le_of_ble_eq_true rfl) (fun p e s m args below meth c C => wX2_longestShining_e C hk hf rfl)
theorem kgX2_longestShining {l : Launch} {Γ : Gm} {A : Nat → Prop} {G : Gs} {o : Nat} {v1 : Int32} {v2 : Int32} {fin : Int32} (hk : kd Γ o = some 2) (hf : fX2_longestShining (G o) v1 v2 = some fin) : Kt l yX2_longestShining cX2_longestShining 5 (some .int) 4 91 Γ A G G [.ref (ad Γ o), .int v1, .int v2] (some (.int fin)) := by
  have h := kX2_longestShining (l := l) (A := A) (G := G) (r := G o) hk hf
  rw [ug_self] at h
  exact h
noncomputable def bX2_longestLit_5 (r : Rec) (v1 : Int32) (v2 : Int32) (v3 : Int32) (v4 : Int32) : Option ((Int32 × Int32) ⊕ Int32) :=
  if (gi r 0) ≤ v4 then some (.inr (v3)) else (fX2_worthTo r v1 v4).bind fun z1 => gd (inR v4 8) ((fX9_hoursLeft (z1 - (v2 - 1)) (ga r 4 (Int32.toNatClampNeg v4))).bind fun z3 => (some (mxi v3 z3)).bind fun x4 => some (.inl (x4, v4 + 1)))
set_option maxRecDepth 100000 in
set_option maxHeartbeats 4000000 in
theorem wX2_longestLit_5 {p : Program} {l : Launch} {e : Env} {s : State} {m : MethodId} {args : Array Value} {below : List Frame} {meth : Method} {c : Code} {Γ : Gm} {A : Nat → Prop} {G : Gs} {o : Nat} {r : Rec} {v1 : Int32} {v2 : Int32} {v3 : Int32} {v4 : Int32} {q : ((Int32 × Int32) ⊕ Int32)} {fin : Int32} (C : Cx p s m args meth c yX2_longestLit cX2_longestLit 5 (some .int) Γ A) (hk : kd Γ o = some 2) (hf : bX2_longestLit_5 r v1 v2 v3 v4 = some q) (hq : (KC (fun st : Int32 × Int32 => Wk p l e { frames := 3, cells := 0, slots := 0, locals := 68 } s m args below meth c Γ A (ug G o r) (some (.int fin)) 5 5 [(0, .ref (ad Γ o)), (1, .int v1), (2, .int v2), (3, .int st.1), (4, .int st.2)] [] (ug G o r)) (fun x => x = fin)) q) : Wk p l e { frames := 3, cells := 0, slots := 0, locals := 68 } s m args below meth c Γ A (ug G o r) (some (.int fin)) 5 5 [(0, .ref (ad Γ o)), (1, .int v1), (2, .int v2), (3, .int v3), (4, .int v4)] [] (ug G o r) := by
  intro H locs ls hw hS hl
  unfold bX2_longestLit_5 at hf
  obtain ⟨hx, hb, hml, hr, hown, htw, hlocks, hE⟩ := id C
  have hown : s.vm.findClass RX2 = some m.cls := hown
  refine lv_iload hx hb dX2_longestLit_5 (lv_at hl 4 rfl) ?_
  refine lv_aload_n hx hb dX2_longestLit_7 rfl (lv_at hl 0 rfl) ?_
  refine va_get (ci := 2) (v := .int (gi r 0)) (C := RX2) (T := TX2) (N := 11) hx hb htw uwX2 hown hE.1 (wo_me hw hk) 0 rfl rfl 0 (by decide) (htw _ mw160) (fun _ h9 => h9) rfl dX2_longestLit_8 ?_
  refine lv_icmp_ge (tgt := 46) hx hb dX2_longestLit_11 (by decide) (fun c5 => ?_) (fun c5 => ?_)
  · have hf := ifp c5 hf
    refine lv_iload_n hx hb dX2_longestLit_46 rfl (lv_at hl 3 rfl) ?_
    obtain rfl := Option.some.inj hf
    have hq := hq.2 _ rfl
    subst hq
    exact rt_i C hw hS dX2_longestLit_47
  · have hf := ifn c5 hf
    refine lv_iload_n hx hb dX2_longestLit_14 rfl (lv_at hl 3 rfl) ?_
    refine lv_aload_n hx hb dX2_longestLit_15 rfl (lv_at hl 0 rfl) ?_
    refine lv_iload_n hx hb dX2_longestLit_16 rfl (lv_at hl 1 rfl) ?_
    refine lv_iload hx hb dX2_longestLit_17 (lv_at hl 4 rfl) ?_
    obtain ⟨z1, hz1, hf⟩ := bd hf
    refine cl_Vs (rest := [.int v3]) (kX2_worthTo (l := l) (Γ := Γ) (A := A) (G := G) (o := o) hk hz1) ⟨hx, hb, hml, hown, htw⟩ hE hw hS (wo_me hw hk) (q0 := 0) rfl rfl mw1088 mw709 mw710 mw120 mw711 pdX2_worthTo ⟨Nat.le_of_ble_eq_true rfl, Nat.le_of_ble_eq_true rfl⟩ rfl rfl hl.1 (Nat.le_of_ble_eq_true rfl) dX2_longestLit_19 (fun H locs hw hS => ?_)
    refine lv_iload_n hx hb dX2_longestLit_22 rfl (lv_at hl 2 rfl) ?_
    refine lv_iconst (v := 1) hx hb dX2_longestLit_23 (by decide) ?_
    refine lv_isub hx hb dX2_longestLit_24 ?_
    refine lv_isub hx hb dX2_longestLit_25 ?_
    refine lv_aload_n hx hb dX2_longestLit_26 rfl (lv_at hl 0 rfl) ?_
    refine va_get (ci := 2) (v := .ref (aa Γ o 4)) (C := RX2) (T := TX2) (N := 11) hx hb htw uwX2 hown hE.1 (wo_me hw hk) 0 rfl rfl 4 (by decide) (htw _ mw175) (fun _ h9 => h9) rfl dX2_longestLit_27 ?_
    refine lv_iload hx hb dX2_longestLit_30 (lv_at hl 4 rfl) ?_
    obtain ⟨g2, hf⟩ := gd_some hf
    refine va_iald hx hb hE.1 (wo_me hw hk) 2 0 rfl rfl (inR_in g2) dX2_longestLit_32 ?_
    obtain ⟨z3, hz3, hf⟩ := bd hf
    refine cl_SN (rest := [.int v3]) (kX9_hoursLeft (l := l) (Γ := Γ) (A := A) (G := (ug G o r)) hz3) ⟨hx, hb, hml, hown, htw⟩ hE hw hS (nw17 hE.2.2.1) mw1024 mw118 mw1025 pdX9_hoursLeft ⟨Nat.le_of_ble_eq_true rfl, Nat.le_of_ble_eq_true rfl⟩ rfl rfl hl.1 (Nat.le_of_ble_eq_true rfl) dX2_longestLit_33 (fun H locs hw hS => ?_)
    refine va_mmax hx hb (hml.trans hl.1.symm) hown (htw _ mw1089) (htw _ mw225) (htw _ mw122) (htw _ mw226) (Nat.le_of_ble_eq_true rfl) (Nat.le_of_ble_eq_true rfl) (Nat.le_refl _) (Nat.le_refl _) dX2_longestLit_36 ?_
    obtain ⟨x4, hx4, hf⟩ := bd hf
    have hx4 := Option.some.inj hx4
    refine tp1i hx4 ?_
    refine lv_istore_n (lv' := [(3, .int x4), (0, .ref (ad Γ o)), (1, .int v1), (2, .int v2), (4, .int v4)]) hx hb dX2_longestLit_39 rfl hl (by decide) rfl (fun ls hl => ?_)
    refine lv_iinc (v := v4 + 1) (lv' := [(4, .int (v4 + 1)), (3, .int x4), (0, .ref (ad Γ o)), (1, .int v1), (2, .int v2)]) hx hb dX2_longestLit_40 hl (k := 4) rfl (by rfl) (by decide) rfl (fun ls hl => ?_)
    refine lv_goto (tgt := 5) hx hb dX2_longestLit_43 (by decide) ?_
    obtain rfl := Option.some.inj hf
    exact hq.1 _ rfl H locs ls hw hS (lv_sub hl [2, 3, 4, 1, 0] rfl)

set_option maxRecDepth 100000 in
set_option maxHeartbeats 4000000 in
theorem lwX2_longestLit_5 {p : Program} {l : Launch} {e : Env} {s : State} {m : MethodId} {args : Array Value} {below : List Frame} {meth : Method} {c : Code} {Γ : Gm} {A : Nat → Prop} {G : Gs} {o : Nat} {r : Rec} {v1 : Int32} {v2 : Int32} {v3 : Int32} {v4 : Int32} {q : Int32} {fin : Int32} (C : Cx p s m args meth c yX2_longestLit cX2_longestLit 5 (some .int) Γ A) (hk : kd Γ o = some 2) (hf : iter (fun st : Int32 × Int32 => bX2_longestLit_5 r v1 v2 st.1 st.2) (v3, v4) = some q) (hq : (fun x => x = fin) q) : Wk p l e { frames := 3, cells := 0, slots := 0, locals := 68 } s m args below meth c Γ A (ug G o r) (some (.int fin)) 5 5 [(0, .ref (ad Γ o)), (1, .int v1), (2, .int v2), (3, .int v3), (4, .int v4)] [] (ug G o r) := by
  intro H locs ls hw hS hl
  refine iter_walk (P := (fun st : Int32 × Int32 => Wk p l e { frames := 3, cells := 0, slots := 0, locals := 68 } s m args below meth c Γ A (ug G o r) (some (.int fin)) 5 5 [(0, .ref (ad Γ o)), (1, .int v1), (2, .int v2), (3, .int st.1), (4, .int st.2)] [] (ug G o r))) (K := (fun x => x = fin)) (fun st q hq1 h1 h2 => ?_) hf hq H locs ls hw hS hl
  exact wX2_longestLit_5 (v3 := st.1) (v4 := st.2) C hk hq1 ⟨h1, h2⟩

noncomputable def fX2_longestLit (r : Rec) (v1 : Int32) (v2 : Int32) : Option Int32 :=
  iter (fun st : Int32 × Int32 => bX2_longestLit_5 r v1 v2 st.1 st.2) (0, 0)
set_option maxRecDepth 100000 in
set_option maxHeartbeats 4000000 in
theorem wX2_longestLit_e {p : Program} {l : Launch} {e : Env} {s : State} {m : MethodId} {args : Array Value} {below : List Frame} {meth : Method} {c : Code} {Γ : Gm} {A : Nat → Prop} {G : Gs} {o : Nat} {r : Rec} {v1 : Int32} {v2 : Int32} {q : Int32} {fin : Int32} (C : Cx p s m args meth c yX2_longestLit cX2_longestLit 5 (some .int) Γ A) (hk : kd Γ o = some 2) (hf : fX2_longestLit r v1 v2 = some q) (hq : (fun x => x = fin) q) : Wk p l e { frames := 3, cells := 0, slots := 0, locals := 68 } s m args below meth c Γ A (ug G o r) (some (.int fin)) 0 5 [(0, .ref (ad Γ o)), (1, .int v1), (2, .int v2)] [] (ug G o r) := by
  intro H locs ls hw hS hl
  unfold fX2_longestLit at hf
  obtain ⟨hx, hb, hml, hr, hown, htw, hlocks, hE⟩ := id C
  have hown : s.vm.findClass RX2 = some m.cls := hown
  refine lv_iconst (v := 0) hx hb dX2_longestLit_0 (by decide) ?_
  refine lv_istore_n (lv' := [(3, .int 0), (0, .ref (ad Γ o)), (1, .int v1), (2, .int v2)]) hx hb dX2_longestLit_1 rfl hl (by decide) rfl (fun ls hl => ?_)
  refine lv_iconst (v := 0) hx hb dX2_longestLit_2 (by decide) ?_
  refine lv_istore (lv' := [(4, .int 0), (3, .int 0), (0, .ref (ad Γ o)), (1, .int v1), (2, .int v2)]) hx hb dX2_longestLit_3 hl (by decide) rfl (fun ls hl => ?_)
  exact lwX2_longestLit_5 C hk hf hq H locs ls hw hS (lv_sub hl [2, 3, 4, 1, 0] rfl)

theorem kX2_longestLit {l : Launch} {Γ : Gm} {A : Nat → Prop} {G : Gs} {o : Nat} {r : Rec} {v1 : Int32} {v2 : Int32} {fin : Int32} (hk : kd Γ o = some 2) (hf : fX2_longestLit r v1 v2 = some fin) : Kt l yX2_longestLit cX2_longestLit 5 (some .int) 3 68 Γ A (ug G o r) (ug G o r) [.ref (ad Γ o), .int v1, .int v2] (some (.int fin)) :=
  kt_of (by decide) (Nat.le_of_ble_eq_true rfl) (fun p e s m args below meth c C => wX2_longestLit_e C hk hf rfl)
theorem kgX2_longestLit {l : Launch} {Γ : Gm} {A : Nat → Prop} {G : Gs} {o : Nat} {v1 : Int32} {v2 : Int32} {fin : Int32} (hk : kd Γ o = some 2) (hf : fX2_longestLit (G o) v1 v2 = some fin) : Kt l yX2_longestLit cX2_longestLit 5 (some .int) 3 68 Γ A G G [.ref (ad Γ o), .int v1, .int v2] (some (.int fin)) := by
  have h := kX2_longestLit (l := l) (A := A) (G := G) (r := G o) hk hf
  rw [ug_self] at h
  exact h
noncomputable def fX2_duskHours (r : Rec) (v1 : Int32) (v2 : Int32) (v3 : Int32) : Option Int32 :=
  (fX2_hasPiece r v2).bind fun z1 => if z1 = 0 then some (0) else (fX2_hasPiece r v3).bind fun z2 => if z2 = 0 then some (0) else (fX2_worthTo r v1 v2).bind fun z3 => gd (inR v2 8) ((fX9_hoursLeft (z3 / 2) (ga r 4 (Int32.toNatClampNeg v2))).bind fun z5 => (fX2_worthTo r v1 v3).bind fun z6 => gd (inR v3 8) ((fX9_hoursLeft (z6 / 2) (ga r 4 (Int32.toNatClampNeg v3))).bind fun z8 => (some (mni z5 z8)).bind fun x9 => some (x9)))
set_option maxRecDepth 100000 in
set_option maxHeartbeats 4000000 in
theorem wX2_duskHours_e {p : Program} {l : Launch} {e : Env} {s : State} {m : MethodId} {args : Array Value} {below : List Frame} {meth : Method} {c : Code} {Γ : Gm} {A : Nat → Prop} {G : Gs} {o : Nat} {r : Rec} {v1 : Int32} {v2 : Int32} {v3 : Int32} {q : Int32} {fin : Int32} (C : Cx p s m args meth c yX2_duskHours cX2_duskHours 4 (some .int) Γ A) (hk : kd Γ o = some 2) (hf : fX2_duskHours r v1 v2 v3 = some q) (hq : (fun x => x = fin) q) : Wk p l e { frames := 3, cells := 0, slots := 0, locals := 68 } s m args below meth c Γ A (ug G o r) (some (.int fin)) 0 4 [(0, .ref (ad Γ o)), (1, .int v1), (2, .int v2), (3, .int v3)] [] (ug G o r) := by
  intro H locs ls hw hS hl
  unfold fX2_duskHours at hf
  obtain ⟨hx, hb, hml, hr, hown, htw, hlocks, hE⟩ := id C
  have hown : s.vm.findClass RX2 = some m.cls := hown
  refine lv_aload_n hx hb dX2_duskHours_0 rfl (lv_at hl 0 rfl) ?_
  refine lv_iload_n hx hb dX2_duskHours_1 rfl (lv_at hl 2 rfl) ?_
  obtain ⟨z1, hz1, hf⟩ := bd hf
  refine cl_Vs (rest := []) (kX2_hasPiece (l := l) (Γ := Γ) (A := A) (G := G) (o := o) hk hz1) ⟨hx, hb, hml, hown, htw⟩ hE hw hS (wo_me hw hk) (q0 := 0) rfl rfl mw682 mw683 mw684 mw120 mw685 pdX2_hasPiece ⟨Nat.le_of_ble_eq_true rfl, Nat.le_of_ble_eq_true rfl⟩ rfl rfl hl.1 (Nat.le_of_ble_eq_true rfl) dX2_duskHours_2 (fun H locs hw hS => ?_)
  refine lv_if_eq (tgt := 16) hx hb dX2_duskHours_5 (by decide) (fun c11 => ?_) (fun c11 => ?_)
  · have hf := ifp c11 hf
    refine lv_iconst (v := 0) hx hb dX2_duskHours_16 (by decide) ?_
    obtain rfl := Option.some.inj hf
    subst hq
    exact rt_i C hw hS dX2_duskHours_17
  · have hf := ifn c11 hf
    refine lv_aload_n hx hb dX2_duskHours_8 rfl (lv_at hl 0 rfl) ?_
    refine lv_iload_n hx hb dX2_duskHours_9 rfl (lv_at hl 3 rfl) ?_
    obtain ⟨z2, hz2, hf⟩ := bd hf
    refine cl_Vs (rest := []) (kX2_hasPiece (l := l) (Γ := Γ) (A := A) (G := G) (o := o) hk hz2) ⟨hx, hb, hml, hown, htw⟩ hE hw hS (wo_me hw hk) (q0 := 0) rfl rfl mw682 mw683 mw684 mw120 mw685 pdX2_hasPiece ⟨Nat.le_of_ble_eq_true rfl, Nat.le_of_ble_eq_true rfl⟩ rfl rfl hl.1 (Nat.le_of_ble_eq_true rfl) dX2_duskHours_10 (fun H locs hw hS => ?_)
    refine lv_if_ne (tgt := 18) hx hb dX2_duskHours_13 (by decide) (fun c10 => ?_) (fun c10 => ?_)
    · have hf := ifn c10 hf
      refine lv_aload_n hx hb dX2_duskHours_18 rfl (lv_at hl 0 rfl) ?_
      refine lv_iload_n hx hb dX2_duskHours_19 rfl (lv_at hl 1 rfl) ?_
      refine lv_iload_n hx hb dX2_duskHours_20 rfl (lv_at hl 2 rfl) ?_
      obtain ⟨z3, hz3, hf⟩ := bd hf
      refine cl_Vs (rest := []) (kX2_worthTo (l := l) (Γ := Γ) (A := A) (G := G) (o := o) hk hz3) ⟨hx, hb, hml, hown, htw⟩ hE hw hS (wo_me hw hk) (q0 := 0) rfl rfl mw1088 mw709 mw710 mw120 mw711 pdX2_worthTo ⟨Nat.le_of_ble_eq_true rfl, Nat.le_of_ble_eq_true rfl⟩ rfl rfl hl.1 (Nat.le_of_ble_eq_true rfl) dX2_duskHours_21 (fun H locs hw hS => ?_)
      refine lv_iconst (v := 2) hx hb dX2_duskHours_24 (by decide) ?_
      refine lv_idiv hx hb dX2_duskHours_25 (by decide) ?_
      refine lv_aload_n hx hb dX2_duskHours_26 rfl (lv_at hl 0 rfl) ?_
      refine va_get (ci := 2) (v := .ref (aa Γ o 4)) (C := RX2) (T := TX2) (N := 11) hx hb htw uwX2 hown hE.1 (wo_me hw hk) 0 rfl rfl 4 (by decide) (htw _ mw175) (fun _ h9 => h9) rfl dX2_duskHours_27 ?_
      refine lv_iload_n hx hb dX2_duskHours_30 rfl (lv_at hl 2 rfl) ?_
      obtain ⟨g4, hf⟩ := gd_some hf
      refine va_iald hx hb hE.1 (wo_me hw hk) 2 0 rfl rfl (inR_in g4) dX2_duskHours_31 ?_
      obtain ⟨z5, hz5, hf⟩ := bd hf
      refine cl_SN (rest := []) (kX9_hoursLeft (l := l) (Γ := Γ) (A := A) (G := (ug G o r)) hz5) ⟨hx, hb, hml, hown, htw⟩ hE hw hS (nw17 hE.2.2.1) mw1024 mw118 mw1025 pdX9_hoursLeft ⟨Nat.le_of_ble_eq_true rfl, Nat.le_of_ble_eq_true rfl⟩ rfl rfl hl.1 (Nat.le_of_ble_eq_true rfl) dX2_duskHours_32 (fun H locs hw hS => ?_)
      refine lv_aload_n hx hb dX2_duskHours_35 rfl (lv_at hl 0 rfl) ?_
      refine lv_iload_n hx hb dX2_duskHours_36 rfl (lv_at hl 1 rfl) ?_
      refine lv_iload_n hx hb dX2_duskHours_37 rfl (lv_at hl 3 rfl) ?_
      obtain ⟨z6, hz6, hf⟩ := bd hf
      refine cl_Vs (rest := [.int z5]) (kX2_worthTo (l := l) (Γ := Γ) (A := A) (G := G) (o := o) hk hz6) ⟨hx, hb, hml, hown, htw⟩ hE hw hS (wo_me hw hk) (q0 := 0) rfl rfl mw1088 mw709 mw710 mw120 mw711 pdX2_worthTo ⟨Nat.le_of_ble_eq_true rfl, Nat.le_of_ble_eq_true rfl⟩ rfl rfl hl.1 (Nat.le_of_ble_eq_true rfl) dX2_duskHours_38 (fun H locs hw hS => ?_)
      refine lv_iconst (v := 2) hx hb dX2_duskHours_41 (by decide) ?_
      refine lv_idiv hx hb dX2_duskHours_42 (by decide) ?_
      refine lv_aload_n hx hb dX2_duskHours_43 rfl (lv_at hl 0 rfl) ?_
      refine va_get (ci := 2) (v := .ref (aa Γ o 4)) (C := RX2) (T := TX2) (N := 11) hx hb htw uwX2 hown hE.1 (wo_me hw hk) 0 rfl rfl 4 (by decide) (htw _ mw175) (fun _ h9 => h9) rfl dX2_duskHours_44 ?_
      refine lv_iload_n hx hb dX2_duskHours_47 rfl (lv_at hl 3 rfl) ?_
      obtain ⟨g7, hf⟩ := gd_some hf
      refine va_iald hx hb hE.1 (wo_me hw hk) 2 0 rfl rfl (inR_in g7) dX2_duskHours_48 ?_
      obtain ⟨z8, hz8, hf⟩ := bd hf
      refine cl_SN (rest := [.int z5]) (kX9_hoursLeft (l := l) (Γ := Γ) (A := A) (G := (ug G o r)) hz8) ⟨hx, hb, hml, hown, htw⟩ hE hw hS (nw17 hE.2.2.1) mw1024 mw118 mw1025 pdX9_hoursLeft ⟨Nat.le_of_ble_eq_true rfl, Nat.le_of_ble_eq_true rfl⟩ rfl rfl hl.1 (Nat.le_of_ble_eq_true rfl) dX2_duskHours_49 (fun H locs hw hS => ?_)
      refine va_mmin hx hb (hml.trans hl.1.symm) hown (htw _ mw1111) (htw _ mw222) (htw _ mw122) (htw _ mw223) (Nat.le_of_ble_eq_true rfl) (Nat.le_of_ble_eq_true rfl) (Nat.le_refl _) (Nat.le_refl _) dX2_duskHours_52 ?_
      obtain ⟨x9, hx9, hf⟩ := bd hf
      have hx9 := Option.some.inj hx9
      refine tp1i hx9 ?_
      obtain rfl := Option.some.inj hf
      subst hq
      exact rt_i C hw hS dX2_duskHours_55
    · have hf := ifp c10 hf
      refine lv_iconst (v := 0) hx hb dX2_duskHours_16 (by decide) ?_
      obtain rfl := Option.some.inj hf
      subst hq
      exact rt_i C hw hS dX2_duskHours_17

theorem kX2_duskHours {l : Launch} {Γ : Gm} {A : Nat → Prop} {G : Gs} {o : Nat} {r : Rec} {v1 : Int32} {v2 : Int32} {v3 : Int32} {fin : Int32} (hk : kd Γ o = some 2) (hf : fX2_duskHours r v1 v2 v3 = some fin) : Kt l yX2_duskHours cX2_duskHours 4 (some .int) 3 68 Γ A (ug G o r) (ug G o r) [.ref (ad Γ o), .int v1, .int v2, .int v3] (some (.int fin)) :=
  kt_of (by decide) (Nat.le_of_ble_eq_true rfl) (fun p e s m args below meth c C => wX2_duskHours_e C hk hf rfl)
theorem kgX2_duskHours {l : Launch} {Γ : Gm} {A : Nat → Prop} {G : Gs} {o : Nat} {v1 : Int32} {v2 : Int32} {v3 : Int32} {fin : Int32} (hk : kd Γ o = some 2) (hf : fX2_duskHours (G o) v1 v2 v3 = some fin) : Kt l yX2_duskHours cX2_duskHours 4 (some .int) 3 68 Γ A G G [.ref (ad Γ o), .int v1, .int v2, .int v3] (some (.int fin)) := by
  have h := kX2_duskHours (l := l) (A := A) (G := G) (r := G o) hk hf
  rw [ug_self] at h
  exact h
noncomputable def bX2_duskiestCouple_66 (r : Rec) (v1 : Int32) (v2 : Int32) (v3 : Int32) (v4 : Int32) : Option ((Int32 × Int32 × Int32) ⊕ Int32) :=
  some (.inl (v2, v3, v4 + 1))
set_option maxRecDepth 100000 in
set_option maxHeartbeats 4000000 in
theorem wX2_duskiestCouple_66 {p : Program} {l : Launch} {e : Env} {s : State} {m : MethodId} {args : Array Value} {below : List Frame} {meth : Method} {c : Code} {Γ : Gm} {A : Nat → Prop} {G : Gs} {o : Nat} {r : Rec} {v1 : Int32} {v2 : Int32} {v3 : Int32} {v4 : Int32} {q : ((Int32 × Int32 × Int32) ⊕ Int32)} {fin : Int32} (C : Cx p s m args meth c yX2_duskiestCouple cX2_duskiestCouple 7 (some .int) Γ A) (hk : kd Γ o = some 2) (hf : bX2_duskiestCouple_66 r v1 v2 v3 v4 = some q) (hq : (KC (fun st : Int32 × Int32 × Int32 => Wk p l e { frames := 4, cells := 0, slots := 0, locals := 91 } s m args below meth c Γ A (ug G o r) (some (.int fin)) 7 7 [(0, .ref (ad Γ o)), (1, .int v1), (2, .int st.1), (3, .int st.2.1), (4, .int st.2.2)] [] (ug G o r)) (fun x => x = fin)) q) : Wk p l e { frames := 4, cells := 0, slots := 0, locals := 91 } s m args below meth c Γ A (ug G o r) (some (.int fin)) 66 7 [(0, .ref (ad Γ o)), (1, .int v1), (2, .int v2), (3, .int v3), (4, .int v4)] [] (ug G o r) := by
  intro H locs ls hw hS hl
  unfold bX2_duskiestCouple_66 at hf
  obtain ⟨hx, hb, hml, hr, hown, htw, hlocks, hE⟩ := id C
  have hown : s.vm.findClass RX2 = some m.cls := hown
  refine lv_iinc (v := v4 + 1) (lv' := [(4, .int (v4 + 1)), (0, .ref (ad Γ o)), (1, .int v1), (2, .int v2), (3, .int v3)]) hx hb dX2_duskiestCouple_66 hl (k := 4) rfl (by rfl) (by decide) rfl (fun ls hl => ?_)
  refine lv_goto (tgt := 7) hx hb dX2_duskiestCouple_69 (by decide) ?_
  obtain rfl := Option.some.inj hf
  exact hq.1 _ rfl H locs ls hw hS (lv_sub hl [1, 2, 3, 4, 0] rfl)

noncomputable def bX2_duskiestCouple_60 (r : Rec) (v1 : Int32) (v2 : Int32) (v3 : Int32) (v4 : Int32) (v5 : Int32) : Option ((Int32 × Int32 × Int32) ⊕ ((Int32 × Int32 × Int32) ⊕ Int32)) :=
  some (.inl (v2, v3, v5 + 1))
set_option maxRecDepth 100000 in
set_option maxHeartbeats 4000000 in
theorem wX2_duskiestCouple_60 {p : Program} {l : Launch} {e : Env} {s : State} {m : MethodId} {args : Array Value} {below : List Frame} {meth : Method} {c : Code} {Γ : Gm} {A : Nat → Prop} {G : Gs} {o : Nat} {r : Rec} {v1 : Int32} {v2 : Int32} {v3 : Int32} {v4 : Int32} {v5 : Int32} {q : ((Int32 × Int32 × Int32) ⊕ ((Int32 × Int32 × Int32) ⊕ Int32))} {fin : Int32} (C : Cx p s m args meth c yX2_duskiestCouple cX2_duskiestCouple 7 (some .int) Γ A) (hk : kd Γ o = some 2) (hf : bX2_duskiestCouple_60 r v1 v2 v3 v4 v5 = some q) (hq : (KC (fun st : Int32 × Int32 × Int32 => Wk p l e { frames := 4, cells := 0, slots := 0, locals := 91 } s m args below meth c Γ A (ug G o r) (some (.int fin)) 22 7 [(0, .ref (ad Γ o)), (1, .int v1), (2, .int st.1), (3, .int st.2.1), (4, .int v4), (5, .int st.2.2)] [] (ug G o r)) (KC (fun st : Int32 × Int32 × Int32 => Wk p l e { frames := 4, cells := 0, slots := 0, locals := 91 } s m args below meth c Γ A (ug G o r) (some (.int fin)) 7 7 [(0, .ref (ad Γ o)), (1, .int v1), (2, .int st.1), (3, .int st.2.1), (4, .int st.2.2)] [] (ug G o r)) (fun x => x = fin))) q) : Wk p l e { frames := 4, cells := 0, slots := 0, locals := 91 } s m args below meth c Γ A (ug G o r) (some (.int fin)) 60 7 [(0, .ref (ad Γ o)), (1, .int v1), (2, .int v2), (3, .int v3), (4, .int v4), (5, .int v5)] [] (ug G o r) := by
  intro H locs ls hw hS hl
  unfold bX2_duskiestCouple_60 at hf
  obtain ⟨hx, hb, hml, hr, hown, htw, hlocks, hE⟩ := id C
  have hown : s.vm.findClass RX2 = some m.cls := hown
  refine lv_iinc (v := v5 + 1) (lv' := [(5, .int (v5 + 1)), (0, .ref (ad Γ o)), (1, .int v1), (2, .int v2), (3, .int v3), (4, .int v4)]) hx hb dX2_duskiestCouple_60 hl (k := 5) rfl (by rfl) (by decide) rfl (fun ls hl => ?_)
  refine lv_goto (tgt := 22) hx hb dX2_duskiestCouple_63 (by decide) ?_
  obtain rfl := Option.some.inj hf
  exact hq.1 _ rfl H locs ls hw hS (lv_sub hl [1, 2, 3, 4, 5, 0] rfl)

noncomputable def bX2_duskiestCouple_22 (r : Rec) (v1 : Int32) (v2 : Int32) (v3 : Int32) (v4 : Int32) (v5 : Int32) : Option ((Int32 × Int32 × Int32) ⊕ ((Int32 × Int32 × Int32) ⊕ Int32)) :=
  if (gi r 0) ≤ v5 then out1 (bX2_duskiestCouple_66 r v1 v2 v3 v4) else (fX2_duskHours r v1 v4 v5).bind fun z2 => if z2 ≤ v3 then bX2_duskiestCouple_60 r v1 v2 v3 v4 v5 else bX2_duskiestCouple_60 r v1 ((10 * v4) + v5) z2 v4 v5
set_option maxRecDepth 100000 in
set_option maxHeartbeats 4000000 in
theorem wX2_duskiestCouple_22 {p : Program} {l : Launch} {e : Env} {s : State} {m : MethodId} {args : Array Value} {below : List Frame} {meth : Method} {c : Code} {Γ : Gm} {A : Nat → Prop} {G : Gs} {o : Nat} {r : Rec} {v1 : Int32} {v2 : Int32} {v3 : Int32} {v4 : Int32} {v5 : Int32} {q : ((Int32 × Int32 × Int32) ⊕ ((Int32 × Int32 × Int32) ⊕ Int32))} {fin : Int32} (C : Cx p s m args meth c yX2_duskiestCouple cX2_duskiestCouple 7 (some .int) Γ A) (hk : kd Γ o = some 2) (hf : bX2_duskiestCouple_22 r v1 v2 v3 v4 v5 = some q) (hq : (KC (fun st : Int32 × Int32 × Int32 => Wk p l e { frames := 4, cells := 0, slots := 0, locals := 91 } s m args below meth c Γ A (ug G o r) (some (.int fin)) 22 7 [(0, .ref (ad Γ o)), (1, .int v1), (2, .int st.1), (3, .int st.2.1), (4, .int v4), (5, .int st.2.2)] [] (ug G o r)) (KC (fun st : Int32 × Int32 × Int32 => Wk p l e { frames := 4, cells := 0, slots := 0, locals := 91 } s m args below meth c Γ A (ug G o r) (some (.int fin)) 7 7 [(0, .ref (ad Γ o)), (1, .int v1), (2, .int st.1), (3, .int st.2.1), (4, .int st.2.2)] [] (ug G o r)) (fun x => x = fin))) q) : Wk p l e { frames := 4, cells := 0, slots := 0, locals := 91 } s m args below meth c Γ A (ug G o r) (some (.int fin)) 22 7 [(0, .ref (ad Γ o)), (1, .int v1), (2, .int v2), (3, .int v3), (4, .int v4), (5, .int v5)] [] (ug G o r) := by
  intro H locs ls hw hS hl
  unfold bX2_duskiestCouple_22 at hf
  obtain ⟨hx, hb, hml, hr, hown, htw, hlocks, hE⟩ := id C
  have hown : s.vm.findClass RX2 = some m.cls := hown
  refine lv_iload hx hb dX2_duskiestCouple_22 (lv_at hl 5 rfl) ?_
  refine lv_aload_n hx hb dX2_duskiestCouple_24 rfl (lv_at hl 0 rfl) ?_
  refine va_get (ci := 2) (v := .int (gi r 0)) (C := RX2) (T := TX2) (N := 11) hx hb htw uwX2 hown hE.1 (wo_me hw hk) 0 rfl rfl 0 (by decide) (htw _ mw160) (fun _ h9 => h9) rfl dX2_duskiestCouple_25 ?_
  refine lv_icmp_ge (tgt := 66) hx hb dX2_duskiestCouple_28 (by decide) (fun c4 => ?_) (fun c4 => ?_)
  · have hf := ifp c4 hf
    obtain ⟨q1, hfq1, eq1⟩ := out1_some hf
    subst eq1
    have hf := hfq1
    have hq := hq.2 _ rfl
    exact wX2_duskiestCouple_66 C hk hf hq H locs ls hw hS (lv_sub hl [0, 1, 2, 3, 4] rfl)
  · have hf := ifn c4 hf
    refine lv_aload_n hx hb dX2_duskiestCouple_31 rfl (lv_at hl 0 rfl) ?_
    refine lv_iload_n hx hb dX2_duskiestCouple_32 rfl (lv_at hl 1 rfl) ?_
    refine lv_iload hx hb dX2_duskiestCouple_33 (lv_at hl 4 rfl) ?_
    refine lv_iload hx hb dX2_duskiestCouple_35 (lv_at hl 5 rfl) ?_
    obtain ⟨z2, hz2, hf⟩ := bd hf
    refine cl_Vs (rest := []) (kX2_duskHours (l := l) (Γ := Γ) (A := A) (G := G) (o := o) hk hz2) ⟨hx, hb, hml, hown, htw⟩ hE hw hS (wo_me hw hk) (q0 := 0) rfl rfl mw1107 mw1108 mw1109 mw120 mw1110 pdX2_duskHours ⟨Nat.le_of_ble_eq_true rfl, Nat.le_of_ble_eq_true rfl⟩ rfl rfl hl.1 (Nat.le_of_ble_eq_true rfl) dX2_duskiestCouple_37 (fun H locs hw hS => ?_)
    refine lv_istore (lv' := [(6, .int z2), (0, .ref (ad Γ o)), (1, .int v1), (2, .int v2), (3, .int v3), (4, .int v4), (5, .int v5)]) hx hb dX2_duskiestCouple_40 hl (by decide) rfl (fun ls hl => ?_)
    refine lv_iload hx hb dX2_duskiestCouple_42 (lv_at hl 0 rfl) ?_
    refine lv_iload_n hx hb dX2_duskiestCouple_44 rfl (lv_at hl 4 rfl) ?_
    refine lv_icmp_le (tgt := 60) hx hb dX2_duskiestCouple_45 (by decide) (fun c3 => ?_) (fun c3 => ?_)
    · have hf := ifp c3 hf
      exact wX2_duskiestCouple_60 C hk hf hq H locs ls hw hS (lv_sub hl [1, 2, 3, 4, 5, 6] rfl)
    · have hf := ifn c3 hf
      refine lv_iload hx hb dX2_duskiestCouple_48 (lv_at hl 0 rfl) ?_
      refine lv_istore_n (lv' := [(3, .int z2), (6, .int z2), (0, .ref (ad Γ o)), (1, .int v1), (2, .int v2), (4, .int v4), (5, .int v5)]) hx hb dX2_duskiestCouple_50 rfl hl (by decide) rfl (fun ls hl => ?_)
      refine lv_bipush (v := 10) hx hb dX2_duskiestCouple_51 (by decide) ?_
      refine lv_iload hx hb dX2_duskiestCouple_53 (lv_at hl 5 rfl) ?_
      refine lv_imul hx hb dX2_duskiestCouple_55 ?_
      refine lv_iload hx hb dX2_duskiestCouple_56 (lv_at hl 6 rfl) ?_
      refine lv_iadd hx hb dX2_duskiestCouple_58 ?_
      refine lv_istore_n (lv' := [(2, .int ((10 * v4) + v5)), (3, .int z2), (6, .int z2), (0, .ref (ad Γ o)), (1, .int v1), (4, .int v4), (5, .int v5)]) hx hb dX2_duskiestCouple_59 rfl hl (by decide) rfl (fun ls hl => ?_)
      exact wX2_duskiestCouple_60 C hk hf hq H locs ls hw hS (lv_sub hl [3, 4, 0, 1, 5, 6] rfl)

set_option maxRecDepth 100000 in
set_option maxHeartbeats 4000000 in
theorem lwX2_duskiestCouple_22 {p : Program} {l : Launch} {e : Env} {s : State} {m : MethodId} {args : Array Value} {below : List Frame} {meth : Method} {c : Code} {Γ : Gm} {A : Nat → Prop} {G : Gs} {o : Nat} {r : Rec} {v1 : Int32} {v2 : Int32} {v3 : Int32} {v4 : Int32} {v5 : Int32} {q : ((Int32 × Int32 × Int32) ⊕ Int32)} {fin : Int32} (C : Cx p s m args meth c yX2_duskiestCouple cX2_duskiestCouple 7 (some .int) Γ A) (hk : kd Γ o = some 2) (hf : iter (fun st : Int32 × Int32 × Int32 => bX2_duskiestCouple_22 r v1 st.1 st.2.1 v4 st.2.2) (v2, v3, v5) = some q) (hq : (KC (fun st : Int32 × Int32 × Int32 => Wk p l e { frames := 4, cells := 0, slots := 0, locals := 91 } s m args below meth c Γ A (ug G o r) (some (.int fin)) 7 7 [(0, .ref (ad Γ o)), (1, .int v1), (2, .int st.1), (3, .int st.2.1), (4, .int st.2.2)] [] (ug G o r)) (fun x => x = fin)) q) : Wk p l e { frames := 4, cells := 0, slots := 0, locals := 91 } s m args below meth c Γ A (ug G o r) (some (.int fin)) 22 7 [(0, .ref (ad Γ o)), (1, .int v1), (2, .int v2), (3, .int v3), (4, .int v4), (5, .int v5)] [] (ug G o r) := by
  intro H locs ls hw hS hl
  refine iter_walk (P := (fun st : Int32 × Int32 × Int32 => Wk p l e { frames := 4, cells := 0, slots := 0, locals := 91 } s m args below meth c Γ A (ug G o r) (some (.int fin)) 22 7 [(0, .ref (ad Γ o)), (1, .int v1), (2, .int st.1), (3, .int st.2.1), (4, .int v4), (5, .int st.2.2)] [] (ug G o r))) (K := (KC (fun st : Int32 × Int32 × Int32 => Wk p l e { frames := 4, cells := 0, slots := 0, locals := 91 } s m args below meth c Γ A (ug G o r) (some (.int fin)) 7 7 [(0, .ref (ad Γ o)), (1, .int v1), (2, .int st.1), (3, .int st.2.1), (4, .int st.2.2)] [] (ug G o r)) (fun x => x = fin))) (fun st q hq1 h1 h2 => ?_) hf hq H locs ls hw hS hl
  exact wX2_duskiestCouple_22 (v2 := st.1) (v3 := st.2.1) (v5 := st.2.2) C hk hq1 ⟨h1, h2⟩

noncomputable def bX2_duskiestCouple_7 (r : Rec) (v1 : Int32) (v2 : Int32) (v3 : Int32) (v4 : Int32) : Option ((Int32 × Int32 × Int32) ⊕ Int32) :=
  if (gi r 0) ≤ v4 then some (.inr (v2)) else iter (fun st : Int32 × Int32 × Int32 => bX2_duskiestCouple_22 r v1 st.1 st.2.1 v4 st.2.2) (v2, v3, v4 + 1)
set_option maxRecDepth 100000 in
set_option maxHeartbeats 4000000 in
theorem wX2_duskiestCouple_7 {p : Program} {l : Launch} {e : Env} {s : State} {m : MethodId} {args : Array Value} {below : List Frame} {meth : Method} {c : Code} {Γ : Gm} {A : Nat → Prop} {G : Gs} {o : Nat} {r : Rec} {v1 : Int32} {v2 : Int32} {v3 : Int32} {v4 : Int32} {q : ((Int32 × Int32 × Int32) ⊕ Int32)} {fin : Int32} (C : Cx p s m args meth c yX2_duskiestCouple cX2_duskiestCouple 7 (some .int) Γ A) (hk : kd Γ o = some 2) (hf : bX2_duskiestCouple_7 r v1 v2 v3 v4 = some q) (hq : (KC (fun st : Int32 × Int32 × Int32 => Wk p l e { frames := 4, cells := 0, slots := 0, locals := 91 } s m args below meth c Γ A (ug G o r) (some (.int fin)) 7 7 [(0, .ref (ad Γ o)), (1, .int v1), (2, .int st.1), (3, .int st.2.1), (4, .int st.2.2)] [] (ug G o r)) (fun x => x = fin)) q) : Wk p l e { frames := 4, cells := 0, slots := 0, locals := 91 } s m args below meth c Γ A (ug G o r) (some (.int fin)) 7 7 [(0, .ref (ad Γ o)), (1, .int v1), (2, .int v2), (3, .int v3), (4, .int v4)] [] (ug G o r) := by
  intro H locs ls hw hS hl
  unfold bX2_duskiestCouple_7 at hf
  obtain ⟨hx, hb, hml, hr, hown, htw, hlocks, hE⟩ := id C
  have hown : s.vm.findClass RX2 = some m.cls := hown
  refine lv_iload hx hb dX2_duskiestCouple_7 (lv_at hl 4 rfl) ?_
  refine lv_aload_n hx hb dX2_duskiestCouple_9 rfl (lv_at hl 0 rfl) ?_
  refine va_get (ci := 2) (v := .int (gi r 0)) (C := RX2) (T := TX2) (N := 11) hx hb htw uwX2 hown hE.1 (wo_me hw hk) 0 rfl rfl 0 (by decide) (htw _ mw160) (fun _ h9 => h9) rfl dX2_duskiestCouple_10 ?_
  refine lv_icmp_ge (tgt := 72) hx hb dX2_duskiestCouple_13 (by decide) (fun c5 => ?_) (fun c5 => ?_)
  · have hf := ifp c5 hf
    refine lv_iload_n hx hb dX2_duskiestCouple_72 rfl (lv_at hl 2 rfl) ?_
    obtain rfl := Option.some.inj hf
    have hq := hq.2 _ rfl
    subst hq
    exact rt_i C hw hS dX2_duskiestCouple_73
  · have hf := ifn c5 hf
    refine lv_iload hx hb dX2_duskiestCouple_16 (lv_at hl 4 rfl) ?_
    refine lv_iconst (v := 1) hx hb dX2_duskiestCouple_18 (by decide) ?_
    refine lv_iadd hx hb dX2_duskiestCouple_19 ?_
    refine lv_istore (lv' := [(5, .int (v4 + 1)), (0, .ref (ad Γ o)), (1, .int v1), (2, .int v2), (3, .int v3), (4, .int v4)]) hx hb dX2_duskiestCouple_20 hl (by decide) rfl (fun ls hl => ?_)
    exact lwX2_duskiestCouple_22 C hk hf hq H locs ls hw hS (lv_sub hl [1, 2, 3, 4, 5, 0] rfl)

set_option maxRecDepth 100000 in
set_option maxHeartbeats 4000000 in
theorem lwX2_duskiestCouple_7 {p : Program} {l : Launch} {e : Env} {s : State} {m : MethodId} {args : Array Value} {below : List Frame} {meth : Method} {c : Code} {Γ : Gm} {A : Nat → Prop} {G : Gs} {o : Nat} {r : Rec} {v1 : Int32} {v2 : Int32} {v3 : Int32} {v4 : Int32} {q : Int32} {fin : Int32} (C : Cx p s m args meth c yX2_duskiestCouple cX2_duskiestCouple 7 (some .int) Γ A) (hk : kd Γ o = some 2) (hf : iter (fun st : Int32 × Int32 × Int32 => bX2_duskiestCouple_7 r v1 st.1 st.2.1 st.2.2) (v2, v3, v4) = some q) (hq : (fun x => x = fin) q) : Wk p l e { frames := 4, cells := 0, slots := 0, locals := 91 } s m args below meth c Γ A (ug G o r) (some (.int fin)) 7 7 [(0, .ref (ad Γ o)), (1, .int v1), (2, .int v2), (3, .int v3), (4, .int v4)] [] (ug G o r) := by
  intro H locs ls hw hS hl
  refine iter_walk (P := (fun st : Int32 × Int32 × Int32 => Wk p l e { frames := 4, cells := 0, slots := 0, locals := 91 } s m args below meth c Γ A (ug G o r) (some (.int fin)) 7 7 [(0, .ref (ad Γ o)), (1, .int v1), (2, .int st.1), (3, .int st.2.1), (4, .int st.2.2)] [] (ug G o r))) (K := (fun x => x = fin)) (fun st q hq1 h1 h2 => ?_) hf hq H locs ls hw hS hl
  exact wX2_duskiestCouple_7 (v2 := st.1) (v3 := st.2.1) (v4 := st.2.2) C hk hq1 ⟨h1, h2⟩

noncomputable def fX2_duskiestCouple (r : Rec) (v1 : Int32) : Option Int32 :=
  iter (fun st : Int32 × Int32 × Int32 => bX2_duskiestCouple_7 r v1 st.1 st.2.1 st.2.2) ((-1), (-1), 0)
set_option maxRecDepth 100000 in
set_option maxHeartbeats 4000000 in
theorem wX2_duskiestCouple_e {p : Program} {l : Launch} {e : Env} {s : State} {m : MethodId} {args : Array Value} {below : List Frame} {meth : Method} {c : Code} {Γ : Gm} {A : Nat → Prop} {G : Gs} {o : Nat} {r : Rec} {v1 : Int32} {q : Int32} {fin : Int32} (C : Cx p s m args meth c yX2_duskiestCouple cX2_duskiestCouple 7 (some .int) Γ A) (hk : kd Γ o = some 2) (hf : fX2_duskiestCouple r v1 = some q) (hq : (fun x => x = fin) q) : Wk p l e { frames := 4, cells := 0, slots := 0, locals := 91 } s m args below meth c Γ A (ug G o r) (some (.int fin)) 0 7 [(0, .ref (ad Γ o)), (1, .int v1)] [] (ug G o r) := by
  intro H locs ls hw hS hl
  unfold fX2_duskiestCouple at hf
  obtain ⟨hx, hb, hml, hr, hown, htw, hlocks, hE⟩ := id C
  have hown : s.vm.findClass RX2 = some m.cls := hown
  refine lv_iconst (v := (-1)) hx hb dX2_duskiestCouple_0 (by decide) ?_
  refine lv_istore_n (lv' := [(2, .int (-1)), (0, .ref (ad Γ o)), (1, .int v1)]) hx hb dX2_duskiestCouple_1 rfl hl (by decide) rfl (fun ls hl => ?_)
  refine lv_iconst (v := (-1)) hx hb dX2_duskiestCouple_2 (by decide) ?_
  refine lv_istore_n (lv' := [(3, .int (-1)), (2, .int (-1)), (0, .ref (ad Γ o)), (1, .int v1)]) hx hb dX2_duskiestCouple_3 rfl hl (by decide) rfl (fun ls hl => ?_)
  refine lv_iconst (v := 0) hx hb dX2_duskiestCouple_4 (by decide) ?_
  refine lv_istore (lv' := [(4, .int 0), (3, .int (-1)), (2, .int (-1)), (0, .ref (ad Γ o)), (1, .int v1)]) hx hb dX2_duskiestCouple_5 hl (by decide) rfl (fun ls hl => ?_)
  exact lwX2_duskiestCouple_7 C hk hf hq H locs ls hw hS (lv_sub hl [3, 4, 2, 1, 0] rfl)

theorem kX2_duskiestCouple {l : Launch} {Γ : Gm} {A : Nat → Prop} {G : Gs} {o : Nat} {r : Rec} {v1 : Int32} {fin : Int32} (hk : kd Γ o = some 2) (hf : fX2_duskiestCouple r v1 = some fin) : Kt l yX2_duskiestCouple cX2_duskiestCouple 7 (some .int) 4 91 Γ A (ug G o r) (ug G o r) [.ref (ad Γ o), .int v1] (some (.int fin)) :=
  kt_of (by decide) (Nat.le_of_ble_eq_true rfl) (fun p e s m args below meth c C => wX2_duskiestCouple_e C hk hf rfl)
theorem kgX2_duskiestCouple {l : Launch} {Γ : Gm} {A : Nat → Prop} {G : Gs} {o : Nat} {v1 : Int32} {fin : Int32} (hk : kd Γ o = some 2) (hf : fX2_duskiestCouple (G o) v1 = some fin) : Kt l yX2_duskiestCouple cX2_duskiestCouple 7 (some .int) 4 91 Γ A G G [.ref (ad Γ o), .int v1] (some (.int fin)) := by
  have h := kX2_duskiestCouple (l := l) (A := A) (G := G) (r := G o) hk hf
  rw [ug_self] at h
  exact h
