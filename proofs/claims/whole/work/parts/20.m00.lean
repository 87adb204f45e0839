noncomputable def fX10_in (v0 : Int32) (v1 : Int32) (v2 : Int32) : Option Int32 :=
  if v0 < v1 then some (0) else if v2 < v0 then some (0) else some (1)
set_option maxRecDepth 100000 in
set_option maxHeartbeats 4000000 in
theorem wX10_in_e {p : Program} {l : Launch} {e : Env} {s : State} {m : MethodId} {args : Array Value} {below : List Frame} {meth : Method} {c : Code} {Γ : Gm} {A : Nat → Prop} {G : Gs} {v0 : Int32} {v1 : Int32} {v2 : Int32} {q : Int32} {fin : Int32} (C : Cx p s m args meth c yX10_in cX10_in 3 (some .boolean) Γ A) (hf : fX10_in v0 v1 v2 = some q) (hq : (fun x => x = fin) q) : Wk p l e { frames := 0, cells := 0, slots := 0, locals := 0 } s m args below meth c Γ A G (some (.int fin)) 0 3 [(0, .int v0), (1, .int v1), (2, .int v2)] [] G := by
  intro H locs ls hw hS hl
  unfold fX10_in at hf
  obtain ⟨hx, hb, hml, hr, hown, htw, hlocks, hE⟩ := id C
  have hown : s.vm.findClass RX10 = some m.cls := hown
  refine lv_iload_n hx hb dX10_in_0 rfl (lv_at hl 0 rfl) ?_
  refine lv_iload_n hx hb dX10_in_1 rfl (lv_at hl 1 rfl) ?_
  refine lv_icmp_lt (tgt := 14) hx hb dX10_in_2 (by decide) (fun c2 => ?_) (fun c2 => ?_)
  · have hf := ifp c2 hf
    refine lv_iconst (v := 0) hx hb dX10_in_14 (by decide) ?_
    obtain rfl := Option.some.inj hf
    subst hq
    exact rt_z C (Or.inl rfl) hw hS dX10_in_15
  · have hf := ifn c2 hf
    refine lv_iload_n hx hb dX10_in_5 rfl (lv_at hl 0 rfl) ?_
    refine lv_iload_n hx hb dX10_in_6 rfl (lv_at hl 2 rfl) ?_
    refine lv_icmp_gt (tgt := 14) hx hb dX10_in_7 (by decide) (fun c1 => ?_) (fun c1 => ?_)
    · have hf := ifp c1 hf
      refine lv_iconst (v := 0) hx hb dX10_in_14 (by decide) ?_
      obtain rfl := Option.some.inj hf
      subst hq
      exact rt_z C (Or.inl rfl) hw hS dX10_in_15
    · have hf := ifn c1 hf
      refine lv_iconst (v := 1) hx hb dX10_in_10 (by decide) ?_
      refine lv_goto (tgt := 15) hx hb dX10_in_11 (by decide) ?_
      obtain rfl := Option.some.inj hf
      subst hq
      exact rt_z C (Or.inr rfl) hw hS dX10_in_15

theorem kX10_in {l : Launch} {Γ : Gm} {A : Nat → Prop} {G : Gs} {v0 : Int32} {v1 : Int32} {v2 : Int32} {fin : Int32} (hf : fX10_in v0 v1 v2 = some fin) : Kt l yX10_in cX10_in 3 (some .boolean) 0 0 Γ A G G [.int v0, .int v1, .int v2] (some (.int fin)) :=
  kt_of (by decide) (Nat.le_of_ble_eq_true rfl) (fun p e s m args below meth c C => wX10_in_e C hf rfl)
noncomputable def fX10_has (v0 : Int32) (v1 : Int32) : Option Int32 :=
  if ((v0 >>> (v1 &&& 31)) &&& 1) = 1 then some (1) else some (0)
set_option maxRecDepth 100000 in
set_option maxHeartbeats 4000000 in
theorem wX10_has_e {p : Program} {l : Launch} {e : Env} {s : State} {m : MethodId} {args : Array Value} {below : List Frame} {meth : Method} {c : Code} {Γ : Gm} {A : Nat → Prop} {G : Gs} {v0 : Int32} {v1 : Int32} {q : Int32} {fin : Int32} (C : Cx p s m args meth c yX10_has cX10_has 2 (some .boolean) Γ A) (hf : fX10_has v0 v1 = some q) (hq : (fun x => x = fin) q) : Wk p l e { frames := 0, cells := 0, slots := 0, locals := 0 } s m args below meth c Γ A G (some (.int fin)) 0 2 [(0, .int v0), (1, .int v1)] [] G := by
  intro H locs ls hw hS hl
  unfold fX10_has at hf
  obtain ⟨hx, hb, hml, hr, hown, htw, hlocks, hE⟩ := id C
  have hown : s.vm.findClass RX10 = some m.cls := hown
  refine lv_iload_n hx hb dX10_has_0 rfl (lv_at hl 0 rfl) ?_
  refine lv_iload_n hx hb dX10_has_1 rfl (lv_at hl 1 rfl) ?_
  refine lv_ishr hx hb dX10_has_2 ?_
  refine lv_iconst (v := 1) hx hb dX10_has_3 (by decide) ?_
  refine lv_iand hx hb dX10_has_4 ?_
  refine lv_iconst (v := 1) hx hb dX10_has_5 (by decide) ?_
  refine lv_icmp_ne (tgt := 13) hx hb dX10_has_6 (by decide) (fun c1 => ?_) (fun c1 => ?_)
  · have hf := ifn c1 hf
    refine lv_iconst (v := 0) hx hb dX10_has_13 (by decide) ?_
    obtain rfl := Option.some.inj hf
    subst hq
    exact rt_z C (Or.inl rfl) hw hS dX10_has_14
  · have hf := ifp c1 hf
    refine lv_iconst (v := 1) hx hb dX10_has_9 (by decide) ?_
    refine lv_goto (tgt := 14) hx hb dX10_has_10 (by decide) ?_
    obtain rfl := Option.some.inj hf
    subst hq
    exact rt_z C (Or.inr rfl) hw hS dX10_has_14

theorem kX10_has {l : Launch} {Γ : Gm} {A : Nat → Prop} {G : Gs} {v0 : Int32} {v1 : Int32} {fin : Int32} (hf : fX10_has v0 v1 = some fin) : Kt l yX10_has cX10_has 2 (some .boolean) 0 0 Γ A G G [.int v0, .int v1] (some (.int fin)) :=
  kt_of (by decide) (Nat.le_of_ble_eq_true rfl) (fun p e s m args below meth c C => wX10_has_e C hf rfl)
noncomputable def fX10_greater (v0 : Int32) (v1 : Int32) : Option Int32 :=
  if v0 ≤ v1 then some (v1) else some (v0)
set_option maxRecDepth 100000 in
set_option maxHeartbeats 4000000 in
theorem wX10_greater_e {p : Program} {l : Launch} {e : Env} {s : State} {m : MethodId} {args : Array Value} {below : List Frame} {meth : Method} {c : Code} {Γ : Gm} {A : Nat → Prop} {G : Gs} {v0 : Int32} {v1 : Int32} {q : Int32} {fin : Int32} (C : Cx p s m args meth c yX10_greater cX10_greater 2 (some .int) Γ A) (hf : fX10_greater v0 v1 = some q) (hq : (fun x => x = fin) q) : Wk p l e { frames := 0, cells := 0, slots := 0, locals := 0 } s m args below meth c Γ A G (some (.int fin)) 0 2 [(0, .int v0), (1, .int v1)] [] G := by
  intro H locs ls hw hS hl
  unfold fX10_greater at hf
  obtain ⟨hx, hb, hml, hr, hown, htw, hlocks, hE⟩ := id C
  have hown : s.vm.findClass RX10 = some m.cls := hown
  refine lv_iload_n hx hb dX10_greater_0 rfl (lv_at hl 0 rfl) ?_
  refine lv_iload_n hx hb dX10_greater_1 rfl (lv_at hl 1 rfl) ?_
  refine lv_icmp_le (tgt := 9) hx hb dX10_greater_2 (by decide) (fun c1 => ?_) (fun c1 => ?_)
  · have hf := ifp c1 hf
    refine lv_iload_n hx hb dX10_greater_9 rfl (lv_at hl 1 rfl) ?_
    obtain rfl := Option.some.inj hf
    subst hq
    exact rt_i C hw hS dX10_greater_10
  · have hf := ifn c1 hf
    refine lv_iload_n hx hb dX10_greater_5 rfl (lv_at hl 0 rfl) ?_
    refine lv_goto (tgt := 10) hx hb dX10_greater_6 (by decide) ?_
    obtain rfl := Option.some.inj hf
    subst hq
    exact rt_i C hw hS dX10_greater_10

theorem kX10_greater {l : Launch} {Γ : Gm} {A : Nat → Prop} {G : Gs} {v0 : Int32} {v1 : Int32} {fin : Int32} (hf : fX10_greater v0 v1 = some fin) : Kt l yX10_greater cX10_greater 2 (some .int) 0 0 Γ A G G [.int v0, .int v1] (some (.int fin)) :=
  kt_of (by decide) (Nat.le_of_ble_eq_true rfl) (fun p e s m args below meth c C => wX10_greater_e C hf rfl)
noncomputable def fX10_lesser (v0 : Int32) (v1 : Int32) : Option Int32 :=
  if v1 ≤ v0 then some (v1) else some (v0)
set_option maxRecDepth 100000 in
set_option maxHeartbeats 4000000 in
theorem wX10_lesser_e {p : Program} {l : Launch} {e : Env} {s : State} {m : MethodId} {args : Array Value} {below : List Frame} {meth : Method} {c : Code} {Γ : Gm} {A : Nat → Prop} {G : Gs} {v0 : Int32} {v1 : Int32} {q : Int32} {fin : Int32} (C : Cx p s m args meth c yX10_lesser cX10_lesser 2 (some .int) Γ A) (hf : fX10_lesser v0 v1 = some q) (hq : (fun x => x = fin) q) : Wk p l e { frames := 0, cells := 0, slots := 0, locals := 0 } s m args below meth c Γ A G (some (.int fin)) 0 2 [(0, .int v0), (1, .int v1)] [] G := by
  intro H locs ls hw hS hl
  unfold fX10_lesser at hf
  obtain ⟨hx, hb, hml, hr, hown, htw, hlocks, hE⟩ := id C
  have hown : s.vm.findClass RX10 = some m.cls := hown
  refine lv_iload_n hx hb dX10_lesser_0 rfl (lv_at hl 0 rfl) ?_
  refine lv_iload_n hx hb dX10_lesser_1 rfl (lv_at hl 1 rfl) ?_
  refine lv_icmp_ge (tgt := 9) hx hb dX10_lesser_2 (by decide) (fun c1 => ?_) (fun c1 => ?_)
  · have hf := ifp c1 hf
    refine lv_iload_n hx hb dX10_lesser_9 rfl (lv_at hl 1 rfl) ?_
    obtain rfl := Option.some.inj hf
    subst hq
    exact rt_i C hw hS dX10_lesser_10
  · have hf := ifn c1 hf
    refine lv_iload_n hx hb dX10_lesser_5 rfl (lv_at hl 0 rfl) ?_
    refine lv_goto (tgt := 10) hx hb dX10_lesser_6 (by decide) ?_
    obtain rfl := Option.some.inj hf
    subst hq
    exact rt_i C hw hS dX10_lesser_10

theorem kX10_lesser {l : Launch} {Γ : Gm} {A : Nat → Prop} {G : Gs} {v0 : Int32} {v1 : Int32} {fin : Int32} (hf : fX10_lesser v0 v1 = some fin) : Kt l yX10_lesser cX10_lesser 2 (some .int) 0 0 Γ A G G [.int v0, .int v1] (some (.int fin)) :=
  kt_of (by decide) (Nat.le_of_ble_eq_true rfl) (fun p e s m args below meth c C => wX10_lesser_e C hf rfl)
noncomputable def bX10_ones_24 (v0 : Int32) (v2 : Int32) (s0 : Int32) (s1 : Int32) : Option ((Int32 × Int32) ⊕ Int32) :=
  some (.inl (s1 + s0, v2 + 1))
set_option maxRecDepth 100000 in
set_option maxHeartbeats 4000000 in
theorem wX10_ones_24 {p : Program} {l : Launch} {e : Env} {s : State} {m : MethodId} {args : Array Value} {below : List Frame} {meth : Method} {c : Code} {Γ : Gm} {A : Nat → Prop} {G : Gs} {v0 : Int32} {v2 : Int32} {s0 : Int32} {s1 : Int32} {q : ((Int32 × Int32) ⊕ Int32)} {fin : Int32} (C : Cx p s m args meth c yX10_ones cX10_ones 3 (some .int) Γ A) (hf : bX10_ones_24 v0 v2 s0 s1 = some q) (hq : (KC (fun st : Int32 × Int32 => Wk p l e { frames := 1, cells := 0, slots := 0, locals := 21 } s m args below meth c Γ A G (some (.int fin)) 4 3 [(0, .int v0), (1, .int st.1), (2, .int st.2)] [] G) (fun x => x = fin)) q) : Wk p l e { frames := 1, cells := 0, slots := 0, locals := 21 } s m args below meth c Γ A G (some (.int fin)) 24 3 [(0, .int v0), (2, .int v2)] [.int s0, .int s1] G := by
  intro H locs ls hw hS hl
  unfold bX10_ones_24 at hf
  obtain ⟨hx, hb, hml, hr, hown, htw, hlocks, hE⟩ := id C
  have hown : s.vm.findClass RX10 = some m.cls := hown
  refine lv_iadd hx hb dX10_ones_24 ?_
  refine lv_istore_n (lv' := [(1, .int (s1 + s0)), (0, .int v0), (2, .int v2)]) hx hb dX10_ones_25 rfl hl (by decide) rfl (fun ls hl => ?_)
  refine lv_iinc (v := v2 + 1) (lv' := [(2, .int (v2 + 1)), (1, .int (s1 + s0)), (0, .int v0)]) hx hb dX10_ones_26 hl (k := 2) rfl (by rfl) (by decide) rfl (fun ls hl => ?_)
  refine lv_goto (tgt := 4) hx hb dX10_ones_29 (by decide) ?_
  obtain rfl := Option.some.inj hf
  exact hq.1 _ rfl H locs ls hw hS (lv_sub hl [2, 1, 0] rfl)

noncomputable def bX10_ones_4 (v0 : Int32) (v1 : Int32) (v2 : Int32) : Option ((Int32 × Int32) ⊕ Int32) :=
  if 10 ≤ v2 then some (.inr (v1)) else (fX10_has v0 v2).bind fun z1 => if z1 = 0 then bX10_ones_24 v0 v2 0 v1 else bX10_ones_24 v0 v2 1 v1
set_option maxRecDepth 100000 in
set_option maxHeartbeats 4000000 in
theorem wX10_ones_4 {p : Program} {l : Launch} {e : Env} {s : State} {m : MethodId} {args : Array Value} {below : List Frame} {meth : Method} {c : Code} {Γ : Gm} {A : Nat → Prop} {G : Gs} {v0 : Int32} {v1 : Int32} {v2 : Int32} {q : ((Int32 × Int32) ⊕ Int32)} {fin : Int32} (C : Cx p s m args meth c yX10_ones cX10_ones 3 (some .int) Γ A) (hf : bX10_ones_4 v0 v1 v2 = some q) (hq : (KC (fun st : Int32 × Int32 => Wk p l e { frames := 1, cells := 0, slots := 0, locals := 21 } s m args below meth c Γ A G (some (.int fin)) 4 3 [(0, .int v0), (1, .int st.1), (2, .int st.2)] [] G) (fun x => x = fin)) q) : Wk p l e { frames := 1, cells := 0, slots := 0, locals := 21 } s m args below meth c Γ A G (some (.int fin)) 4 3 [(0, .int v0), (1, .int v1), (2, .int v2)] [] G := by
  intro H locs ls hw hS hl
  unfold bX10_ones_4 at hf
  obtain ⟨hx, hb, hml, hr, hown, htw, hlocks, hE⟩ := id C
  have hown : s.vm.findClass RX10 = some m.cls := hown
  refine lv_iload_n hx hb dX10_ones_4 rfl (lv_at hl 2 rfl) ?_
  refine lv_bipush (v := 10) hx hb dX10_ones_5 (by decide) ?_
  refine lv_icmp_ge (tgt := 32) hx hb dX10_ones_7 (by decide) (fun c3 => ?_) (fun c3 => ?_)
  · have hf := ifp c3 hf
    refine lv_iload_n hx hb dX10_ones_32 rfl (lv_at hl 1 rfl) ?_
    obtain rfl := Option.some.inj hf
    have hq := hq.2 _ rfl
    subst hq
    exact rt_i C hw hS dX10_ones_33
  · have hf := ifn c3 hf
    refine lv_iload_n hx hb dX10_ones_10 rfl (lv_at hl 1 rfl) ?_
    refine lv_iload_n hx hb dX10_ones_11 rfl (lv_at hl 0 rfl) ?_
    refine lv_iload_n hx hb dX10_ones_12 rfl (lv_at hl 2 rfl) ?_
    obtain ⟨z1, hz1, hf⟩ := bd hf
    refine cl_Ss (rest := [.int v1]) (kX10_has (l := l) (Γ := Γ) (A := A) (G := G) hz1) ⟨hx, hb, hml, hown, htw⟩ hE hw hS mw1561 mw1562 mw129 mw1563 pdX10_has ⟨Nat.le_of_ble_eq_true rfl, Nat.le_of_ble_eq_true rfl⟩ rfl rfl hl.1 (Nat.le_of_ble_eq_true rfl) dX10_ones_13 (fun H locs hw hS => ?_)
    refine lv_if_eq (tgt := 23) hx hb dX10_ones_16 (by decide) (fun c2 => ?_) (fun c2 => ?_)
    · have hf := ifp c2 hf
      refine lv_iconst (v := 0) hx hb dX10_ones_23 (by decide) ?_
      exact wX10_ones_24 C hf hq H locs ls hw hS (lv_sub hl [0, 2] rfl)
    · have hf := ifn c2 hf
      refine lv_iconst (v := 1) hx hb dX10_ones_19 (by decide) ?_
      refine lv_goto (tgt := 24) hx hb dX10_ones_20 (by decide) ?_
      exact wX10_ones_24 C hf hq H locs ls hw hS (lv_sub hl [0, 2] rfl)

set_option maxRecDepth 100000 in
set_option maxHeartbeats 4000000 in
theorem lwX10_ones_4 {p : Program} {l : Launch} {e : Env} {s : State} {m : MethodId} {args : Array Value} {below : List Frame} {meth : Method} {c : Code} {Γ : Gm} {A : Nat → Prop} {G : Gs} {v0 : Int32} {v1 : Int32} {v2 : Int32} {q : Int32} {fin : Int32} (C : Cx p s m args meth c yX10_ones cX10_ones 3 (some .int) Γ A) (hf : iter (fun st : Int32 × Int32 => bX10_ones_4 v0 st.1 st.2) (v1, v2) = some q) (hq : (fun x => x = fin) q) : Wk p l e { frames := 1, cells := 0, slots := 0, locals := 21 } s m args below meth c Γ A G (some (.int fin)) 4 3 [(0, .int v0), (1, .int v1), (2, .int v2)] [] G := by
  intro H locs ls hw hS hl
  refine iter_walk (P := (fun st : Int32 × Int32 => Wk p l e { frames := 1, cells := 0, slots := 0, locals := 21 } s m args below meth c Γ A G (some (.int fin)) 4 3 [(0, .int v0), (1, .int st.1), (2, .int st.2)] [] G)) (K := (fun x => x = fin)) (fun st q hq1 h1 h2 => ?_) hf hq H locs ls hw hS hl
  exact wX10_ones_4 (v1 := st.1) (v2 := st.2) C hq1 ⟨h1, h2⟩

noncomputable def fX10_ones (v0 : Int32) : Option Int32 :=
  iter (fun st : Int32 × Int32 => bX10_ones_4 v0 st.1 st.2) (0, 0)
set_option maxRecDepth 100000 in
set_option maxHeartbeats 4000000 in
theorem wX10_ones_e {p : Program} {l : Launch} {e : Env} {s : State} {m : MethodId} {args : Array Value} {below : List Frame} {meth : Method} {c : Code} {Γ : Gm} {A : Nat → Prop} {G : Gs} {v0 : Int32} {q : Int32} {fin : Int32} (C : Cx p s m args meth c yX10_ones cX10_ones 3 (some .int) Γ A) (hf : fX10_ones v0 = some q) (hq : (fun x => x = fin) q) : Wk p l e { frames := 1, cells := 0, slots := 0, locals := 21 } s m args below meth c Γ A G (some (.int fin)) 0 3 [(0, .int v0)] [] G := by
  intro H locs ls hw hS hl
  unfold fX10_ones at hf
  obtain ⟨hx, hb, hml, hr, hown, htw, hlocks, hE⟩ := id C
  have hown : s.vm.findClass RX10 = some m.cls := hown
  refine lv_iconst (v := 0) hx hb dX10_ones_0 (by decide) ?_
  refine lv_istore_n (lv' := [(1, .int 0), (0, .int v0)]) hx hb dX10_ones_1 rfl hl (by decide) rfl (fun ls hl => ?_)
  refine lv_iconst (v := 0) hx hb dX10_ones_2 (by decide) ?_
  refine lv_istore_n (lv' := [(2, .int 0), (1, .int 0), (0, .int v0)]) hx hb dX10_ones_3 rfl hl (by decide) rfl (fun ls hl => ?_)
  exact lwX10_ones_4 C hf hq H locs ls hw hS (lv_sub hl [2, 1, 0] rfl)

theorem kX10_ones {l : Launch} {Γ : Gm} {A : Nat → Prop} {G : Gs} {v0 : Int32} {fin : Int32} (hf : fX10_ones v0 = some fin) : Kt l yX10_ones cX10_ones 3 (some .int) 1 21 Γ A G G [.int v0] (some (.int fin)) :=
  kt_of (by decide) (Nat.le_of_ble_eq_true rfl) (fun p e s m args below meth c C => wX10_ones_e C hf rfl)
noncomputable def bX10_copyRow_3 (r : Rec) (k0 : Nat) (v1 : Int32) (v2 : Int32) (v3 : Int32) (v4 : Int32) : Option ((Int32 × Rec) ⊕ Rec) :=
  if v1 ≤ v4 then some (.inr (r)) else gd (inR ((v1 * v2) + v4) (ln10 k0)) (gd (inR ((v1 * v3) + v4) (ln10 k0)) ((some (sa r k0 (upd (ga r k0) (Int32.toNatClampNeg ((v1 * v3) + v4)) (ga r k0 (Int32.toNatClampNeg ((v1 * v2) + v4)))))).bind fun r3 => some (.inl (v4 + 1, r3))))
set_option maxRecDepth 100000 in
set_option maxHeartbeats 4000000 in
theorem wX10_copyRow_3 {p : Program} {l : Launch} {e : Env} {s : State} {m : MethodId} {args : Array Value} {below : List Frame} {meth : Method} {c : Code} {Γ : Gm} {A : Nat → Prop} {G : Gs} {o : Nat} {r : Rec} {k0 : Nat} {v1 : Int32} {v2 : Int32} {v3 : Int32} {v4 : Int32} {q : ((Int32 × Rec) ⊕ Rec)} {fin : Rec} (C : Cx p s m args meth c yX10_copyRow cX10_copyRow 5 none Γ A) (hk : kd Γ o = some 10) (hk0 : isI10 k0 = true) (hf : bX10_copyRow_3 r k0 v1 v2 v3 v4 = some q) (hq : (KC (fun st : Int32 × Rec => Wk p l e { frames := 0, cells := 0, slots := 0, locals := 0 } s m args below meth c Γ A (ug G o fin) none 3 5 [(0, .ref (aa Γ o k0)), (1, .int v1), (2, .int v2), (3, .int v3), (4, .int st.1)] [] (ug G o st.2)) (fun x => x = fin)) q) : Wk p l e { frames := 0, cells := 0, slots := 0, locals := 0 } s m args below meth c Γ A (ug G o fin) none 3 5 [(0, .ref (aa Γ o k0)), (1, .int v1), (2, .int v2), (3, .int v3), (4, .int v4)] [] (ug G o r) := by
  intro H locs ls hw hS hl
  unfold bX10_copyRow_3 at hf
  obtain ⟨hx, hb, hml, hr, hown, htw, hlocks, hE⟩ := id C
  have hown : s.vm.findClass RX10 = some m.cls := hown
  refine lv_iload hx hb dX10_copyRow_3 (lv_at hl 4 rfl) ?_
  refine lv_iload_n hx hb dX10_copyRow_5 rfl (lv_at hl 1 rfl) ?_
  refine lv_icmp_ge (tgt := 31) hx hb dX10_copyRow_6 (by decide) (fun c4 => ?_) (fun c4 => ?_)
  · have hf := ifp c4 hf
    obtain rfl := Option.some.inj hf
    have hq := hq.2 _ rfl
    subst hq
    exact rt_v C hw hS dX10_copyRow_31
  · have hf := ifn c4 hf
    refine lv_aload_n hx hb dX10_copyRow_9 rfl (lv_at hl 0 rfl) ?_
    refine lv_iload_n hx hb dX10_copyRow_10 rfl (lv_at hl 1 rfl) ?_
    refine lv_iload_n hx hb dX10_copyRow_11 rfl (lv_at hl 3 rfl) ?_
    refine lv_imul hx hb dX10_copyRow_12 ?_
    refine lv_iload hx hb dX10_copyRow_13 (lv_at hl 4 rfl) ?_
    refine lv_iadd hx hb dX10_copyRow_15 ?_
    refine lv_aload_n hx hb dX10_copyRow_16 rfl (lv_at hl 0 rfl) ?_
    refine lv_iload_n hx hb dX10_copyRow_17 rfl (lv_at hl 1 rfl) ?_
    refine lv_iload_n hx hb dX10_copyRow_18 rfl (lv_at hl 2 rfl) ?_
    refine lv_imul hx hb dX10_copyRow_19 ?_
    refine lv_iload hx hb dX10_copyRow_20 (lv_at hl 4 rfl) ?_
    refine lv_iadd hx hb dX10_copyRow_22 ?_
    obtain ⟨g1, hf⟩ := gd_some hf
    refine va_iald hx hb hE.1 (wo_me hw hk) (ix10 k0) 0 (ar10 hk0) rfl (inR_in g1) dX10_copyRow_23 ?_
    obtain ⟨g2, hf⟩ := gd_some hf
    obtain ⟨r3, hr3, hf⟩ := bd hf
    have hr3 := Option.some.inj hr3
    refine wo_iast hx hb hE hw hS hk (q0 := (ix10 k0)) (ar10 hk0) (inR_in g2) (sav10 hk0 hr3) dX10_copyRow_24 (fun H locs hw hS => ?_)
    refine lv_iinc (v := v4 + 1) (lv' := [(4, .int (v4 + 1)), (0, .ref (aa Γ o k0)), (1, .int v1), (2, .int v2), (3, .int v3)]) hx hb dX10_copyRow_25 hl (k := 4) rfl (by rfl) (by decide) rfl (fun ls hl => ?_)
    refine lv_goto (tgt := 3) hx hb dX10_copyRow_28 (by decide) ?_
    obtain rfl := Option.some.inj hf
    exact hq.1 _ rfl H locs ls hw hS (lv_sub hl [1, 2, 3, 4, 0] rfl)

set_option maxRecDepth 100000 in
set_option maxHeartbeats 4000000 in
theorem lwX10_copyRow_3 {p : Program} {l : Launch} {e : Env} {s : State} {m : MethodId} {args : Array Value} {below : List Frame} {meth : Method} {c : Code} {Γ : Gm} {A : Nat → Prop} {G : Gs} {o : Nat} {r : Rec} {k0 : Nat} {v1 : Int32} {v2 : Int32} {v3 : Int32} {v4 : Int32} {q : Rec} {fin : Rec} (C : Cx p s m args meth c yX10_copyRow cX10_copyRow 5 none Γ A) (hk : kd Γ o = some 10) (hk0 : isI10 k0 = true) (hf : iter (fun st : Int32 × Rec => bX10_copyRow_3 st.2 k0 v1 v2 v3 st.1) (v4, r) = some q) (hq : (fun x => x = fin) q) : Wk p l e { frames := 0, cells := 0, slots := 0, locals := 0 } s m args below meth c Γ A (ug G o fin) none 3 5 [(0, .ref (aa Γ o k0)), (1, .int v1), (2, .int v2), (3, .int v3), (4, .int v4)] [] (ug G o r) := by
  intro H locs ls hw hS hl
  refine iter_walk (P := (fun st : Int32 × Rec => Wk p l e { frames := 0, cells := 0, slots := 0, locals := 0 } s m args below meth c Γ A (ug G o fin) none 3 5 [(0, .ref (aa Γ o k0)), (1, .int v1), (2, .int v2), (3, .int v3), (4, .int st.1)] [] (ug G o st.2))) (K := (fun x => x = fin)) (fun st q hq1 h1 h2 => ?_) hf hq H locs ls hw hS hl
  exact wX10_copyRow_3 (r := st.2) (v4 := st.1) C hk hk0 hq1 ⟨h1, h2⟩

noncomputable def fX10_copyRow (r : Rec) (k0 : Nat) (v1 : Int32) (v2 : Int32) (v3 : Int32) : Option Rec :=
  iter (fun st : Int32 × Rec => bX10_copyRow_3 st.2 k0 v1 v2 v3 st.1) (0, r)
set_option maxRecDepth 100000 in
set_option maxHeartbeats 4000000 in
theorem wX10_copyRow_e {p : Program} {l : Launch} {e : Env} {s : State} {m : MethodId} {args : Array Value} {below : List Frame} {meth : Method} {c : Code} {Γ : Gm} {A : Nat → Prop} {G : Gs} {o : Nat} {r : Rec} {k0 : Nat} {v1 : Int32} {v2 : Int32} {v3 : Int32} {q : Rec} {fin : Rec} (C : Cx p s m args meth c yX10_copyRow cX10_copyRow 5 none Γ A) (hk : kd Γ o = some 10) (hk0 : isI10 k0 = true) (hf : fX10_copyRow r k0 v1 v2 v3 = some q) (hq : (fun x => x = fin) q) : Wk p l e { frames := 0, cells := 0, slots := 0, locals := 0 } s m args below meth c Γ A (ug G o fin) none 0 5 [(0, .ref (aa Γ o k0)), (1, .int v1), (2, .int v2), (3, .int v3)] [] (ug G o r) := by
  intro H locs ls hw hS hl
  unfold fX10_copyRow at hf
  obtain ⟨hx, hb, hml, hr, hown, htw, hlocks, hE⟩ := id C
  have hown : s.vm.findClass RX10 = some m.cls := hown
  refine lv_iconst (v := 0) hx hb dX10_copyRow_0 (by decide) ?_
  refine lv_istore (lv' := [(4, .int 0), (0, .ref (aa Γ o k0)), (1, .int v1), (2, .int v2), (3, .int v3)]) hx hb dX10_copyRow_1 hl (by decide) rfl (fun ls hl => ?_)
  exact lwX10_copyRow_3 C hk hk0 hf hq H locs ls hw hS (lv_sub hl [1, 2, 3, 4, 0] rfl)

theorem kX10_copyRow {l : Launch} {Γ : Gm} {A : Nat → Prop} {G : Gs} {o : Nat} {r : Rec} {k0 : Nat} {v1 : Int32} {v2 : Int32} {v3 : Int32} {fin : Rec} (hk : kd Γ o = some 10) (hk0 : isI10 k0 = true) (hf : fX10_copyRow r k0 v1 v2 v3 = some fin) : Kt l yX10_copyRow cX10_copyRow 5 none 0 0 Γ A (ug G o r) (ug G o fin) [.ref (aa Γ o k0), .int v1, .int v2, .int v3] none :=
  kt_of (by decide) (Nat.le_of_ble_eq_true rfl) (fun p e s m args below meth c C => wX10_copyRow_e C hk hk0 hf rfl)
noncomputable def bX10_copyAll_39 (r : Rec) (v1 : Int32) (v2 : Int32) : Option Rec :=
  (fX10_copyRow r 2 1 v1 v2).bind fun z1 => (fX10_copyRow z1 3 1 v1 v2).bind fun z2 => (fX10_copyRow z2 4 1 v1 v2).bind fun z3 => (fX10_copyRow z3 5 4 v1 v2).bind fun z4 => (fX10_copyRow z4 6 142 v1 v2).bind fun z5 => (fX10_copyRow z5 7 322 v1 v2).bind fun z6 => (fX10_copyRow z6 8 50 v1 v2).bind fun z7 => (fX10_copyRow z7 9 34 v1 v2).bind fun z8 => some (z8)
set_option maxRecDepth 100000 in
set_option maxHeartbeats 4000000 in
theorem wX10_copyAll_39 {p : Program} {l : Launch} {e : Env} {s : State} {m : MethodId} {args : Array Value} {below : List Frame} {meth : Method} {c : Code} {Γ : Gm} {A : Nat → Prop} {G : Gs} {o : Nat} {r : Rec} {v1 : Int32} {v2 : Int32} {q : Rec} {fin : Rec} (C : Cx p s m args meth c yX10_copyAll cX10_copyAll 4 none Γ A) (hk : kd Γ o = some 10) (hf : bX10_copyAll_39 r v1 v2 = some q) (hq : (fun x => x = fin) q) : Wk p l e { frames := 1, cells := 0, slots := 0, locals := 24 } s m args below meth c Γ A (ug G o fin) none 39 4 [(0, .ref (ad Γ o)), (1, .int v1), (2, .int v2)] [] (ug G o r) := by
  intro H locs ls hw hS hl
  unfold bX10_copyAll_39 at hf
  obtain ⟨hx, hb, hml, hr, hown, htw, hlocks, hE⟩ := id C
  have hown : s.vm.findClass RX10 = some m.cls := hown
  refine lv_aload_n hx hb dX10_copyAll_39 rfl (lv_at hl 0 rfl) ?_
  refine va_get (ci := 10) (v := .ref (aa Γ o 2)) (C := RX10) (T := TX10) (N := 49) hx hb htw uwX10 hown hE.1 (wo_me hw hk) 0 rfl rfl 2 (by decide) (htw _ mw1245) (fun _ h9 => h9) rfl dX10_copyAll_40 ?_
  refine lv_iconst (v := 1) hx hb dX10_copyAll_43 (by decide) ?_
  refine lv_iload_n hx hb dX10_copyAll_44 rfl (lv_at hl 1 rfl) ?_
  refine lv_iload_n hx hb dX10_copyAll_45 rfl (lv_at hl 2 rfl) ?_
  obtain ⟨z1, hz1, hf⟩ := bd hf
  refine cl_Sv (rest := []) (kX10_copyRow (l := l) (Γ := Γ) (A := A) (G := G) (o := o) hk (rfl : isI10 2 = true) hz1) ⟨hx, hb, hml, hown, htw⟩ hE hw hS mw1887 mw1888 mw129 mw1889 pdX10_copyRow ⟨Nat.le_of_ble_eq_true rfl, Nat.le_of_ble_eq_true rfl⟩ rfl rfl hl.1 (Nat.le_of_ble_eq_true rfl) dX10_copyAll_46 (fun H locs hw hS => ?_)
  refine lv_aload_n hx hb dX10_copyAll_49 rfl (lv_at hl 0 rfl) ?_
  refine va_get (ci := 10) (v := .ref (aa Γ o 3)) (C := RX10) (T := TX10) (N := 49) hx hb htw uwX10 hown hE.1 (wo_me hw hk) 0 rfl rfl 3 (by decide) (htw _ mw1246) (fun _ h9 => h9) rfl dX10_copyAll_50 ?_
  refine lv_iconst (v := 1) hx hb dX10_copyAll_53 (by decide) ?_
  refine lv_iload_n hx hb dX10_copyAll_54 rfl (lv_at hl 1 rfl) ?_
  refine lv_iload_n hx hb dX10_copyAll_55 rfl (lv_at hl 2 rfl) ?_
  obtain ⟨z2, hz2, hf⟩ := bd hf
  refine cl_Sv (rest := []) (kX10_copyRow (l := l) (Γ := Γ) (A := A) (G := G) (o := o) hk (rfl : isI10 3 = true) hz2) ⟨hx, hb, hml, hown, htw⟩ hE hw hS mw1887 mw1888 mw129 mw1889 pdX10_copyRow ⟨Nat.le_of_ble_eq_true rfl, Nat.le_of_ble_eq_true rfl⟩ rfl rfl hl.1 (Nat.le_of_ble_eq_true rfl) dX10_copyAll_56 (fun H locs hw hS => ?_)
  refine lv_aload_n hx hb dX10_copyAll_59 rfl (lv_at hl 0 rfl) ?_
  refine va_get (ci := 10) (v := .ref (aa Γ o 4)) (C := RX10) (T := TX10) (N := 49) hx hb htw uwX10 hown hE.1 (wo_me hw hk) 0 rfl rfl 4 (by decide) (htw _ mw1247) (fun _ h9 => h9) rfl dX10_copyAll_60 ?_
  refine lv_iconst (v := 1) hx hb dX10_copyAll_63 (by decide) ?_
  refine lv_iload_n hx hb dX10_copyAll_64 rfl (lv_at hl 1 rfl) ?_
  refine lv_iload_n hx hb dX10_copyAll_65 rfl (lv_at hl 2 rfl) ?_
  obtain ⟨z3, hz3, hf⟩ := bd hf
  refine cl_Sv (rest := []) (kX10_copyRow (l := l) (Γ := Γ) (A := A) (G := G) (o := o) hk (rfl : isI10 4 = true) hz3) ⟨hx, hb, hml, hown, htw⟩ hE hw hS mw1887 mw1888 mw129 mw1889 pdX10_copyRow ⟨Nat.le_of_ble_eq_true rfl, Nat.le_of_ble_eq_true rfl⟩ rfl rfl hl.1 (Nat.le_of_ble_eq_true rfl) dX10_copyAll_66 (fun H locs hw hS => ?_)
  refine lv_aload_n hx hb dX10_copyAll_69 rfl (lv_at hl 0 rfl) ?_
  refine va_get (ci := 10) (v := .ref (aa Γ o 5)) (C := RX10) (T := TX10) (N := 49) hx hb htw uwX10 hown hE.1 (wo_me hw hk) 0 rfl rfl 5 (by decide) (htw _ mw1248) (fun _ h9 => h9) rfl dX10_copyAll_70 ?_
  refine lv_iconst (v := 4) hx hb dX10_copyAll_73 (by decide) ?_
  refine lv_iload_n hx hb dX10_copyAll_74 rfl (lv_at hl 1 rfl) ?_
  refine lv_iload_n hx hb dX10_copyAll_75 rfl (lv_at hl 2 rfl) ?_
  obtain ⟨z4, hz4, hf⟩ := bd hf
  refine cl_Sv (rest := []) (kX10_copyRow (l := l) (Γ := Γ) (A := A) (G := G) (o := o) hk (rfl : isI10 5 = true) hz4) ⟨hx, hb, hml, hown, htw⟩ hE hw hS mw1887 mw1888 mw129 mw1889 pdX10_copyRow ⟨Nat.le_of_ble_eq_true rfl, Nat.le_of_ble_eq_true rfl⟩ rfl rfl hl.1 (Nat.le_of_ble_eq_true rfl) dX10_copyAll_76 (fun H locs hw hS => ?_)
  refine lv_aload_n hx hb dX10_copyAll_79 rfl (lv_at hl 0 rfl) ?_
  refine va_get (ci := 10) (v := .ref (aa Γ o 6)) (C := RX10) (T := TX10) (N := 49) hx hb htw uwX10 hown hE.1 (wo_me hw hk) 0 rfl rfl 6 (by decide) (htw _ mw1249) (fun _ h9 => h9) rfl dX10_copyAll_80 ?_
  refine lv_sipush (v := 142) hx hb dX10_copyAll_83 (by decide) ?_
  refine lv_iload_n hx hb dX10_copyAll_86 rfl (lv_at hl 1 rfl) ?_
  refine lv_iload_n hx hb dX10_copyAll_87 rfl (lv_at hl 2 rfl) ?_
  obtain ⟨z5, hz5, hf⟩ := bd hf
  refine cl_Sv (rest := []) (kX10_copyRow (l := l) (Γ := Γ) (A := A) (G := G) (o := o) hk (rfl : isI10 6 = true) hz5) ⟨hx, hb, hml, hown, htw⟩ hE hw hS mw1887 mw1888 mw129 mw1889 pdX10_copyRow ⟨Nat.le_of_ble_eq_true rfl, Nat.le_of_ble_eq_true rfl⟩ rfl rfl hl.1 (Nat.le_of_ble_eq_true rfl) dX10_copyAll_88 (fun H locs hw hS => ?_)
  refine lv_aload_n hx hb dX10_copyAll_91 rfl (lv_at hl 0 rfl) ?_
  refine va_get (ci := 10) (v := .ref (aa Γ o 7)) (C := RX10) (T := TX10) (N := 49) hx hb htw uwX10 hown hE.1 (wo_me hw hk) 0 rfl rfl 7 (by decide) (htw _ mw1250) (fun _ h9 => h9) rfl dX10_copyAll_92 ?_
  refine lv_sipush (v := 322) hx hb dX10_copyAll_95 (by decide) ?_
  refine lv_iload_n hx hb dX10_copyAll_98 rfl (lv_at hl 1 rfl) ?_
  refine lv_iload_n hx hb dX10_copyAll_99 rfl (lv_at hl 2 rfl) ?_
  obtain ⟨z6, hz6, hf⟩ := bd hf
  refine cl_Sv (rest := []) (kX10_copyRow (l := l) (Γ := Γ) (A := A) (G := G) (o := o) hk (rfl : isI10 7 = true) hz6) ⟨hx, hb, hml, hown, htw⟩ hE hw hS mw1887 mw1888 mw129 mw1889 pdX10_copyRow ⟨Nat.le_of_ble_eq_true rfl, Nat.le_of_ble_eq_true rfl⟩ rfl rfl hl.1 (Nat.le_of_ble_eq_true rfl) dX10_copyAll_100 (fun H locs hw hS => ?_)
  refine lv_aload_n hx hb dX10_copyAll_103 rfl (lv_at hl 0 rfl) ?_
  refine va_get (ci := 10) (v := .ref (aa Γ o 8)) (C := RX10) (T := TX10) (N := 49) hx hb htw uwX10 hown hE.1 (wo_me hw hk) 0 rfl rfl 8 (by decide) (htw _ mw1251) (fun _ h9 => h9) rfl dX10_copyAll_104 ?_
  refine lv_bipush (v := 50) hx hb dX10_copyAll_107 (by decide) ?_
  refine lv_iload_n hx hb dX10_copyAll_109 rfl (lv_at hl 1 rfl) ?_
  refine lv_iload_n hx hb dX10_copyAll_110 rfl (lv_at hl 2 rfl) ?_
  obtain ⟨z7, hz7, hf⟩ := bd hf
  refine cl_Sv (rest := []) (kX10_copyRow (l := l) (Γ := Γ) (A := A) (G := G) (o := o) hk (rfl : isI10 8 = true) hz7) ⟨hx, hb, hml, hown, htw⟩ hE hw hS mw1887 mw1888 mw129 mw1889 pdX10_copyRow ⟨Nat.le_of_ble_eq_true rfl, Nat.le_of_ble_eq_true rfl⟩ rfl rfl hl.1 (Nat.le_of_ble_eq_true rfl) dX10_copyAll_111 (fun H locs hw hS => ?_)
  refine lv_aload_n hx hb dX10_copyAll_114 rfl (lv_at hl 0 rfl) ?_
  refine va_get (ci := 10) (v := .ref (aa Γ o 9)) (C := RX10) (T := TX10) (N := 49) hx hb htw uwX10 hown hE.1 (wo_me hw hk) 0 rfl rfl 9 (by decide) (htw _ mw1252) (fun _ h9 => h9) rfl dX10_copyAll_115 ?_
  refine lv_bipush (v := 34) hx hb dX10_copyAll_118 (by decide) ?_
  refine lv_iload_n hx hb dX10_copyAll_120 rfl (lv_at hl 1 rfl) ?_
  refine lv_iload_n hx hb dX10_copyAll_121 rfl (lv_at hl 2 rfl) ?_
  obtain ⟨z8, hz8, hf⟩ := bd hf
  refine cl_Sv (rest := []) (kX10_copyRow (l := l) (Γ := Γ) (A := A) (G := G) (o := o) hk (rfl : isI10 9 = true) hz8) ⟨hx, hb, hml, hown, htw⟩ hE hw hS mw1887 mw1888 mw129 mw1889 pdX10_copyRow ⟨Nat.le_of_ble_eq_true rfl, Nat.le_of_ble_eq_true rfl⟩ rfl rfl hl.1 (Nat.le_of_ble_eq_true rfl) dX10_copyAll_122 (fun H locs hw hS => ?_)
  obtain rfl := Option.some.inj hf
  subst hq
  exact rt_v C hw hS dX10_copyAll_125

noncomputable def bX10_copyAll_2 (r : Rec) (v1 : Int32) (v2 : Int32) (v3 : Int32) : Option ((Int32 × Rec) ⊕ Rec) :=
  if 600 ≤ v3 then out1 (bX10_copyAll_39 r v1 v2) else gd (inR ((600 * v1) + v3) 2400) (gd (inR ((600 * v2) + v3) 2400) ((some (sa r 1 (upd (ga r 1) (Int32.toNatClampNeg ((600 * v2) + v3)) (vp_nar .byte (ga r 1 (Int32.toNatClampNeg ((600 * v1) + v3))))))).bind fun r12 => some (.inl (v3 + 1, r12))))
set_option maxRecDepth 100000 in
set_option maxHeartbeats 4000000 in
theorem wX10_copyAll_2 {p : Program} {l : Launch} {e : Env} {s : State} {m : MethodId} {args : Array Value} {below : List Frame} {meth : Method} {c : Code} {Γ : Gm} {A : Nat → Prop} {G : Gs} {o : Nat} {r : Rec} {v1 : Int32} {v2 : Int32} {v3 : Int32} {q : ((Int32 × Rec) ⊕ Rec)} {fin : Rec} (C : Cx p s m args meth c yX10_copyAll cX10_copyAll 4 none Γ A) (hk : kd Γ o = some 10) (hf : bX10_copyAll_2 r v1 v2 v3 = some q) (hq : (KC (fun st : Int32 × Rec => Wk p l e { frames := 1, cells := 0, slots := 0, locals := 24 } s m args below meth c Γ A (ug G o fin) none 2 4 [(0, .ref (ad Γ o)), (1, .int v1), (2, .int v2), (3, .int st.1)] [] (ug G o st.2)) (fun x => x = fin)) q) : Wk p l e { frames := 1, cells := 0, slots := 0, locals := 24 } s m args below meth c Γ A (ug G o fin) none 2 4 [(0, .ref (ad Γ o)), (1, .int v1), (2, .int v2), (3, .int v3)] [] (ug G o r) := by
  intro H locs ls hw hS hl
  unfold bX10_copyAll_2 at hf
  obtain ⟨hx, hb, hml, hr, hown, htw, hlocks, hE⟩ := id C
  have hown : s.vm.findClass RX10 = some m.cls := hown
  refine lv_iload_n hx hb dX10_copyAll_2 rfl (lv_at hl 3 rfl) ?_
  refine lv_sipush (v := 600) hx hb dX10_copyAll_3 (by decide) ?_
  refine lv_icmp_ge (tgt := 39) hx hb dX10_copyAll_6 (by decide) (fun c13 => ?_) (fun c13 => ?_)
  · have hf := ifp c13 hf
    obtain ⟨q9, hfq9, eq9⟩ := out1_some hf
    subst eq9
    have hf := hfq9
    have hq := hq.2 _ rfl
    exact wX10_copyAll_39 C hk hf hq H locs ls hw hS (lv_sub hl [0, 1, 2] rfl)
  · have hf := ifn c13 hf
    refine lv_aload_n hx hb dX10_copyAll_9 rfl (lv_at hl 0 rfl) ?_
    refine va_get (ci := 10) (v := .ref (aa Γ o 1)) (C := RX10) (T := TX10) (N := 49) hx hb htw uwX10 hown hE.1 (wo_me hw hk) 0 rfl rfl 1 (by decide) (htw _ mw1244) (fun _ h9 => h9) rfl dX10_copyAll_10 ?_
    refine lv_sipush (v := 600) hx hb dX10_copyAll_13 (by decide) ?_
    refine lv_iload_n hx hb dX10_copyAll_16 rfl (lv_at hl 2 rfl) ?_
    refine lv_imul hx hb dX10_copyAll_17 ?_
    refine lv_iload_n hx hb dX10_copyAll_18 rfl (lv_at hl 3 rfl) ?_
    refine lv_iadd hx hb dX10_copyAll_19 ?_
    refine lv_aload_n hx hb dX10_copyAll_20 rfl (lv_at hl 0 rfl) ?_
    refine va_get (ci := 10) (v := .ref (aa Γ o 1)) (C := RX10) (T := TX10) (N := 49) hx hb htw uwX10 hown hE.1 (wo_me hw hk) 0 rfl rfl 1 (by decide) (htw _ mw1244) (fun _ h9 => h9) rfl dX10_copyAll_21 ?_
    refine lv_sipush (v := 600) hx hb dX10_copyAll_24 (by decide) ?_
    refine lv_iload_n hx hb dX10_copyAll_27 rfl (lv_at hl 1 rfl) ?_
    refine lv_imul hx hb dX10_copyAll_28 ?_
    refine lv_iload_n hx hb dX10_copyAll_29 rfl (lv_at hl 3 rfl) ?_
    refine lv_iadd hx hb dX10_copyAll_30 ?_
    obtain ⟨g10, hf⟩ := gd_some hf
    refine va_bald hx hb hE.1 (wo_me hw hk) 1 1 rfl rfl (inR_in g10) dX10_copyAll_31 ?_
    obtain ⟨g11, hf⟩ := gd_some hf
    obtain ⟨r12, hr12, hf⟩ := bd hf
    have hr12 := Option.some.inj hr12
    refine wo_bast hx hb hE hw hS hk (q0 := 1) rfl (inR_in g11) (sa10_1 hr12) dX10_copyAll_32 (fun H locs hw hS => ?_)
    refine lv_iinc (v := v3 + 1) (lv' := [(3, .int (v3 + 1)), (0, .ref (ad Γ o)), (1, .int v1), (2, .int v2)]) hx hb dX10_copyAll_33 hl (k := 3) rfl (by rfl) (by decide) rfl (fun ls hl => ?_)
    refine lv_goto (tgt := 2) hx hb dX10_copyAll_36 (by decide) ?_
    obtain rfl := Option.some.inj hf
    exact hq.1 _ rfl H locs ls hw hS (lv_sub hl [1, 2, 3, 0] rfl)

set_option maxRecDepth 100000 in
set_option maxHeartbeats 4000000 in
theorem lwX10_copyAll_2 {p : Program} {l : Launch} {e : Env} {s : State} {m : MethodId} {args : Array Value} {below : List Frame} {meth : Method} {c : Code} {Γ : Gm} {A : Nat → Prop} {G : Gs} {o : Nat} {r : Rec} {v1 : Int32} {v2 : Int32} {v3 : Int32} {q : Rec} {fin : Rec} (C : Cx p s m args meth c yX10_copyAll cX10_copyAll 4 none Γ A) (hk : kd Γ o = some 10) (hf : iter (fun st : Int32 × Rec => bX10_copyAll_2 st.2 v1 v2 st.1) (v3, r) = some q) (hq : (fun x => x = fin) q) : Wk p l e { frames := 1, cells := 0, slots := 0, locals := 24 } s m args below meth c Γ A (ug G o fin) none 2 4 [(0, .ref (ad Γ o)), (1, .int v1), (2, .int v2), (3, .int v3)] [] (ug G o r) := by
  intro H locs ls hw hS hl
  refine iter_walk (P := (fun st : Int32 × Rec => Wk p l e { frames := 1, cells := 0, slots := 0, locals := 24 } s m args below meth c Γ A (ug G o fin) none 2 4 [(0, .ref (ad Γ o)), (1, .int v1), (2, .int v2), (3, .int st.1)] [] (ug G o st.2))) (K := (fun x => x = fin)) (fun st q hq1 h1 h2 => ?_) hf hq H locs ls hw hS hl
  exact wX10_copyAll_2 (r := st.2) (v3 := st.1) C hk hq1 ⟨h1, h2⟩

noncomputable def fX10_copyAll (r : Rec) (v1 : Int32) (v2 : Int32) : Option Rec :=
  iter (fun st : Int32 × Rec => bX10_copyAll_2 st.2 v1 v2 st.1) (0, r)
set_option maxRecDepth 100000 in
set_option maxHeartbeats 4000000 in
theorem wX10_copyAll_e {p : Program} {l : Launch} {e : Env} {s : State} {m : MethodId} {args : Array Value} {below : List Frame} {meth : Method} {c : Code} {Γ : Gm} {A : Nat → Prop} {G : Gs} {o : Nat} {r : Rec} {v1 : Int32} {v2 : Int32} {q : Rec} {fin : Rec} (C : Cx p s m args meth c yX10_copyAll cX10_copyAll 4 none Γ A) (hk : kd Γ o = some 10) (hf : fX10_copyAll r v1 v2 = some q) (hq : (fun x => x = fin) q) : Wk p l e { frames := 1, cells := 0, slots := 0, locals := 24 } s m args below meth c Γ A (ug G o fin) none 0 4 [(0, .ref (ad Γ o)), (1, .int v1), (2, .int v2)] [] (ug G o r) := by
  intro H locs ls hw hS hl
  unfold fX10_copyAll at hf
  obtain ⟨hx, hb, hml, hr, hown, htw, hlocks, hE⟩ := id C
  have hown : s.vm.findClass RX10 = some m.cls := hown
  refine lv_iconst (v := 0) hx hb dX10_copyAll_0 (by decide) ?_
  refine lv_istore_n (lv' := [(3, .int 0), (0, .ref (ad Γ o)), (1, .int v1), (2, .int v2)]) hx hb dX10_copyAll_1 rfl hl (by decide) rfl (fun ls hl => ?_)
  exact lwX10_copyAll_2 C hk hf hq H locs ls hw hS (lv_sub hl [1, 2, 3, 0] rfl)

theorem kX10_copyAll {l : Launch} {Γ : Gm} {A : Nat → Prop} {G : Gs} {o : Nat} {r : Rec} {v1 : Int32} {v2 : Int32} {fin : Rec} (hk : kd Γ o = some 10) (hf : fX10_copyAll r v1 v2 = some fin) : Kt l yX10_copyAll cX10_copyAll 4 none 1 24 Γ A (ug G o r) (ug G o fin) [.ref (ad Γ o), .int v1, .int v2] none :=
  kt_of (by decide) (Nat.le_of_ble_eq_true rfl) (fun p e s m args below meth c C => wX10_copyAll_e C hk hf rfl)
theorem kgX10_copyAll {l : Launch} {Γ : Gm} {A : Nat → Prop} {G : Gs} {o : Nat} {v1 : Int32} {v2 : Int32} {fin : Rec} (hk : kd Γ o = some 10) (hf : fX10_copyAll (G o) v1 v2 = some fin) : Kt l yX10_copyAll cX10_copyAll 4 none 1 24 Γ A G (ug G o fin) [.ref (ad Γ o), .int v1, .int v2] none := by
  have h := kX10_copyAll (l := l) (A := A) (G := G) (r := G o) hk hf
  rw [ug_self] at h
  exact h
noncomputable def fX10_is (r : Rec) (v1 : Int32) (v2 : Int32) : Option Int32 :=
  gd (inR v1 16) ((fX10_in v2 0 ((ga r 5 (Int32.toNatClampNeg v1)) - 1)).bind fun z2 => gd (isB z2) (some (z2)))
set_option maxRecDepth 100000 in
set_option maxHeartbeats 4000000 in
theorem wX10_is_e {p : Program} {l : Launch} {e : Env} {s : State} {m : MethodId} {args : Array Value} {below : List Frame} {meth : Method} {c : Code} {Γ : Gm} {A : Nat → Prop} {G : Gs} {o : Nat} {r : Rec} {v1 : Int32} {v2 : Int32} {q : Int32} {fin : Int32} (C : Cx p s m args meth c yX10_is cX10_is 3 (some .boolean) Γ A) (hk : kd Γ o = some 10) (hf : fX10_is r v1 v2 = some q) (hq : (fun x => x = fin) q) : Wk p l e { frames := 1, cells := 0, slots := 0, locals := 22 } s m args below meth c Γ A (ug G o r) (some (.int fin)) 0 3 [(0, .ref (ad Γ o)), (1, .int v1), (2, .int v2)] [] (ug G o r) := by
  intro H locs ls hw hS hl
  unfold fX10_is at hf
  obtain ⟨hx, hb, hml, hr, hown, htw, hlocks, hE⟩ := id C
  have hown : s.vm.findClass RX10 = some m.cls := hown
  refine lv_iload_n hx hb dX10_is_0 rfl (lv_at hl 2 rfl) ?_
  refine lv_iconst (v := 0) hx hb dX10_is_1 (by decide) ?_
  refine lv_aload_n hx hb dX10_is_2 rfl (lv_at hl 0 rfl) ?_
  refine va_get (ci := 10) (v := .ref (aa Γ o 5)) (C := RX10) (T := TX10) (N := 49) hx hb htw uwX10 hown hE.1 (wo_me hw hk) 0 rfl rfl 5 (by decide) (htw _ mw1248) (fun _ h9 => h9) rfl dX10_is_3 ?_
  refine lv_iload_n hx hb dX10_is_6 rfl (lv_at hl 1 rfl) ?_
  obtain ⟨g1, hf⟩ := gd_some hf
  refine va_iald hx hb hE.1 (wo_me hw hk) 5 0 rfl rfl (inR_in g1) dX10_is_7 ?_
  refine lv_iconst (v := 1) hx hb dX10_is_8 (by decide) ?_
  refine lv_isub hx hb dX10_is_9 ?_
  obtain ⟨z2, hz2, hf⟩ := bd hf
  refine cl_Ss (rest := []) (kX10_in (l := l) (Γ := Γ) (A := A) (G := (ug G o r)) hz2) ⟨hx, hb, hml, hown, htw⟩ hE hw hS mw1404 mw1405 mw129 mw1406 pdX10_in ⟨Nat.le_of_ble_eq_true rfl, Nat.le_of_ble_eq_true rfl⟩ rfl rfl hl.1 (Nat.le_of_ble_eq_true rfl) dX10_is_10 (fun H locs hw hS => ?_)
  obtain ⟨g3, hf⟩ := gd_some hf
  obtain rfl := Option.some.inj hf
  subst hq
  exact rt_z C (isB_or g3) hw hS dX10_is_13

theorem kX10_is {l : Launch} {Γ : Gm} {A : Nat → Prop} {G : Gs} {o : Nat} {r : Rec} {v1 : Int32} {v2 : Int32} {fin : Int32} (hk : kd Γ o = some 10) (hf : fX10_is r v1 v2 = some fin) : Kt l yX10_is cX10_is 3 (some .boolean) 1 22 Γ A (ug G o r) (ug G o r) [.ref (ad Γ o), .int v1, .int v2] (some (.int fin)) :=
  kt_of (by decide) (Nat.le_of_ble_eq_true rfl) (fun p e s m args below meth c C => wX10_is_e C hk hf rfl)
theorem kgX10_is {l : Launch} {Γ : Gm} {A : Nat → Prop} {G : Gs} {o : Nat} {v1 : Int32} {v2 : Int32} {fin : Int32} (hk : kd Γ o = some 10) (hf : fX10_is (G o) v1 v2 = some fin) : Kt l yX10_is cX10_is 3 (some .boolean) 1 22 Γ A G G [.ref (ad Γ o), .int v1, .int v2] (some (.int fin)) := by
  have h := kX10_is (l := l) (A := A) (G := G) (r := G o) hk hf
  rw [ug_self] at h
  exact h
noncomputable def bX10_four_3 (r : Rec) (v1 : Int32) (v2 : Int32) : Option ((Int32 × Rec) ⊕ Rec) :=
  if v2 < 0 then some (.inr (r)) else (some (ga r 2 (Int32.toNatClampNeg 0))).bind fun x1 => gd (inR x1 2400) ((some (sa r 1 (upd (ga r 1) (Int32.toNatClampNeg x1) (vp_nar .byte ((v1 >>> (v2 &&& 31) : Int32).toInt8.toInt32))))).bind fun r3 => (some (sa r3 2 (upd (ga r3 2) (Int32.toNatClampNeg 0) ((ga r3 2 (Int32.toNatClampNeg 0)) + 1)))).bind fun r4 => some (.inl (v2 + (-8), r4)))
set_option maxRecDepth 100000 in
set_option maxHeartbeats 4000000 in
theorem wX10_four_3 {p : Program} {l : Launch} {e : Env} {s : State} {m : MethodId} {args : Array Value} {below : List Frame} {meth : Method} {c : Code} {Γ : Gm} {A : Nat → Prop} {G : Gs} {o : Nat} {r : Rec} {v1 : Int32} {v2 : Int32} {q : ((Int32 × Rec) ⊕ Rec)} {fin : Rec} (C : Cx p s m args meth c yX10_four cX10_four 3 none Γ A) (hk : kd Γ o = some 10) (hf : bX10_four_3 r v1 v2 = some q) (hq : (KC (fun st : Int32 × Rec => Wk p l e { frames := 0, cells := 0, slots := 0, locals := 0 } s m args below meth c Γ A (ug G o fin) none 3 3 [(0, .ref (ad Γ o)), (1, .int v1), (2, .int st.1)] [] (ug G o st.2)) (fun x => x = fin)) q) : Wk p l e { frames := 0, cells := 0, slots := 0, locals := 0 } s m args below meth c Γ A (ug G o fin) none 3 3 [(0, .ref (ad Γ o)), (1, .int v1), (2, .int v2)] [] (ug G o r) := by
  intro H locs ls hw hS hl
  unfold bX10_four_3 at hf
  obtain ⟨hx, hb, hml, hr, hown, htw, hlocks, hE⟩ := id C
  have hown : s.vm.findClass RX10 = some m.cls := hown
  refine lv_iload_n hx hb dX10_four_3 rfl (lv_at hl 2 rfl) ?_
  refine lv_if_lt (tgt := 38) hx hb dX10_four_4 (by decide) (fun c5 => ?_) (fun c5 => ?_)
  · have hf := ifp c5 hf
    obtain rfl := Option.some.inj hf
    have hq := hq.2 _ rfl
    subst hq
    exact rt_v C hw hS dX10_four_38
  · have hf := ifn c5 hf
    refine lv_aload_n hx hb dX10_four_7 rfl (lv_at hl 0 rfl) ?_
    refine va_get (ci := 10) (v := .ref (aa Γ o 1)) (C := RX10) (T := TX10) (N := 49) hx hb htw uwX10 hown hE.1 (wo_me hw hk) 0 rfl rfl 1 (by decide) (htw _ mw1244) (fun _ h9 => h9) rfl dX10_four_8 ?_
    refine lv_aload_n hx hb dX10_four_11 rfl (lv_at hl 0 rfl) ?_
    refine va_get (ci := 10) (v := .ref (aa Γ o 2)) (C := RX10) (T := TX10) (N := 49) hx hb htw uwX10 hown hE.1 (wo_me hw hk) 0 rfl rfl 2 (by decide) (htw _ mw1245) (fun _ h9 => h9) rfl dX10_four_12 ?_
    refine lv_iconst (v := 0) hx hb dX10_four_15 (by decide) ?_
    refine va_iald hx hb hE.1 (wo_me hw hk) 2 0 rfl rfl (inR_in (i := 0) (n := 4) (by decide)) dX10_four_16 ?_
    refine lv_iload_n hx hb dX10_four_17 rfl (lv_at hl 1 rfl) ?_
    refine lv_iload_n hx hb dX10_four_18 rfl (lv_at hl 2 rfl) ?_
    refine lv_ishr hx hb dX10_four_19 ?_
    refine lv_i2b (v := (v1 >>> (v2 &&& 31) : Int32).toInt8.toInt32) hx hb dX10_four_20 rfl ?_
    obtain ⟨x1, hx1, hf⟩ := bd hf
    have hx1 := Option.some.inj hx1
    refine tp2i hx1 ?_
    obtain ⟨g2, hf⟩ := gd_some hf
    obtain ⟨r3, hr3, hf⟩ := bd hf
    have hr3 := Option.some.inj hr3
    refine wo_bast hx hb hE hw hS hk (q0 := 1) rfl (inR_in g2) (sa10_1 hr3) dX10_four_21 (fun H locs hw hS => ?_)
    refine lv_aload_n hx hb dX10_four_22 rfl (lv_at hl 0 rfl) ?_
    refine va_get (ci := 10) (v := .ref (aa Γ o 2)) (C := RX10) (T := TX10) (N := 49) hx hb htw uwX10 hown hE.1 (wo_me hw hk) 0 rfl rfl 2 (by decide) (htw _ mw1245) (fun _ h9 => h9) rfl dX10_four_23 ?_
    refine lv_iconst (v := 0) hx hb dX10_four_26 (by decide) ?_
    refine lv_dup2_11 hx hb dX10_four_27 rfl rfl ?_
    refine va_iald hx hb hE.1 (wo_me hw hk) 2 0 rfl rfl (inR_in (i := 0) (n := 4) (by decide)) dX10_four_28 ?_
    refine lv_iconst (v := 1) hx hb dX10_four_29 (by decide) ?_
    refine lv_iadd hx hb dX10_four_30 ?_
    obtain ⟨r4, hr4, hf⟩ := bd hf
    have hr4 := Option.some.inj hr4
    refine wo_iast hx hb hE hw hS hk (q0 := 2) rfl (inR_in (i := 0) (n := 4) (by decide)) (sa10_2 hr4) dX10_four_31 (fun H locs hw hS => ?_)
    refine lv_iinc (v := v2 + (-8)) (lv' := [(2, .int (v2 + (-8))), (0, .ref (ad Γ o)), (1, .int v1)]) hx hb dX10_four_32 hl (k := 2) rfl (by rfl) (by decide) rfl (fun ls hl => ?_)
    refine lv_goto (tgt := 3) hx hb dX10_four_35 (by decide) ?_
    obtain rfl := Option.some.inj hf
    exact hq.1 _ rfl H locs ls hw hS (lv_sub hl [1, 2, 0] rfl)

set_option maxRecDepth 100000 in
set_option maxHeartbeats 4000000 in
theorem lwX10_four_3 {p : Program} {l : Launch} {e : Env} {s : State} {m : MethodId} {args : Array Value} {below : List Frame} {meth : Method} {c : Code} {Γ : Gm} {A : Nat → Prop} {G : Gs} {o : Nat} {r : Rec} {v1 : Int32} {v2 : Int32} {q : Rec} {fin : Rec} (C : Cx p s m args meth c yX10_four cX10_four 3 none Γ A) (hk : kd Γ o = some 10) (hf : iter (fun st : Int32 × Rec => bX10_four_3 st.2 v1 st.1) (v2, r) = some q) (hq : (fun x => x = fin) q) : Wk p l e { frames := 0, cells := 0, slots := 0, locals := 0 } s m args below meth c Γ A (ug G o fin) none 3 3 [(0, .ref (ad Γ o)), (1, .int v1), (2, .int v2)] [] (ug G o r) := by
  intro H locs ls hw hS hl
  refine iter_walk (P := (fun st : Int32 × Rec => Wk p l e { frames := 0, cells := 0, slots := 0, locals := 0 } s m args below meth c Γ A (ug G o fin) none 3 3 [(0, .ref (ad Γ o)), (1, .int v1), (2, .int st.1)] [] (ug G o st.2))) (K := (fun x => x = fin)) (fun st q hq1 h1 h2 => ?_) hf hq H locs ls hw hS hl
  exact wX10_four_3 (r := st.2) (v2 := st.1) C hk hq1 ⟨h1, h2⟩

noncomputable def fX10_four (r : Rec) (v1 : Int32) : Option Rec :=
  iter (fun st : Int32 × Rec => bX10_four_3 st.2 v1 st.1) (24, r)
set_option maxRecDepth 100000 in
set_option maxHeartbeats 4000000 in
theorem wX10_four_e {p : Program} {l : Launch} {e : Env} {s : State} {m : MethodId} {args : Array Value} {below : List Frame} {meth : Method} {c : Code} {Γ : Gm} {A : Nat → Prop} {G : Gs} {o : Nat} {r : Rec} {v1 : Int32} {q : Rec} {fin : Rec} (C : Cx p s m args meth c yX10_four cX10_four 3 none Γ A) (hk : kd Γ o = some 10) (hf : fX10_four r v1 = some q) (hq : (fun x => x = fin) q) : Wk p l e { frames := 0, cells := 0, slots := 0, locals := 0 } s m args below meth c Γ A (ug G o fin) none 0 3 [(0, .ref (ad Γ o)), (1, .int v1)] [] (ug G o r) := by
  intro H locs ls hw hS hl
  unfold fX10_four at hf
  obtain ⟨hx, hb, hml, hr, hown, htw, hlocks, hE⟩ := id C
  have hown : s.vm.findClass RX10 = some m.cls := hown
  refine lv_bipush (v := 24) hx hb dX10_four_0 (by decide) ?_
  refine lv_istore_n (lv' := [(2, .int 24), (0, .ref (ad Γ o)), (1, .int v1)]) hx hb dX10_four_2 rfl hl (by decide) rfl (fun ls hl => ?_)
  exact lwX10_four_3 C hk hf hq H locs ls hw hS (lv_sub hl [1, 2, 0] rfl)

theorem kX10_four {l : Launch} {Γ : Gm} {A : Nat → Prop} {G : Gs} {o : Nat} {r : Rec} {v1 : Int32} {fin : Rec} (hk : kd Γ o = some 10) (hf : fX10_four r v1 = some fin) : Kt l yX10_four cX10_four 3 none 0 0 Γ A (ug G o r) (ug G o fin) [.ref (ad Γ o), .int v1] none :=
  kt_of (by decide) (Nat.le_of_ble_eq_true rfl) (fun p e s m args below meth c C => wX10_four_e C hk hf rfl)
theorem kgX10_four {l : Launch} {Γ : Gm} {A : Nat → Prop} {G : Gs} {o : Nat} {v1 : Int32} {fin : Rec} (hk : kd Γ o = some 10) (hf : fX10_four (G o) v1 = some fin) : Kt l yX10_four cX10_four 3 none 0 0 Γ A G (ug G o fin) [.ref (ad Γ o), .int v1] none := by
  have h := kX10_four (l := l) (A := A) (G := G) (r := G o) hk hf
  rw [ug_self] at h
  exact h
noncomputable def fX10_feed (r : Rec) (v1 : Int32) (v2 : Int32) (v3 : Int32) (v4 : Int32) (v5 : Int32) : Option (Rec × Int32) :=
  (some (si r 0 0)).bind fun r1 => if ((ga r1 2 (Int32.toNatClampNeg 0)) + 20) ≤ 600 then (fX10_four r1 v1).bind fun z2 => (fX10_four z2 v2).bind fun z3 => (fX10_four z3 v3).bind fun z4 => (fX10_four z4 v4).bind fun z5 => (fX10_four z5 v5).bind fun z6 => some ((z6, ga z6 2 (Int32.toNatClampNeg 0))) else some ((r1, (-1)))
set_option maxRecDepth 100000 in
set_option maxHeartbeats 4000000 in
theorem wX10_feed_e {p : Program} {l : Launch} {e : Env} {s : State} {m : MethodId} {args : Array Value} {below : List Frame} {meth : Method} {c : Code} {Γ : Gm} {A : Nat → Prop} {G : Gs} {o : Nat} {r : Rec} {v1 : Int32} {v2 : Int32} {v3 : Int32} {v4 : Int32} {v5 : Int32} {q : (Rec × Int32)} {fin : Rec × Int32} (C : Cx p s m args meth c yX10_feed cX10_feed 6 (some .int) Γ A) (hk : kd Γ o = some 10) (hf : fX10_feed r v1 v2 v3 v4 v5 = some q) (hq : (fun x => x = fin) q) : Wk p l e { frames := 1, cells := 0, slots := 0, locals := 22 } s m args below meth c Γ A (ug G o fin.1) (some (.int fin.2)) 0 6 [(0, .ref (ad Γ o)), (1, .int v1), (2, .int v2), (3, .int v3), (4, .int v4), (5, .int v5)] [] (ug G o r) := by
  intro H locs ls hw hS hl
  unfold fX10_feed at hf
  obtain ⟨hx, hb, hml, hr, hown, htw, hlocks, hE⟩ := id C
  have hown : s.vm.findClass RX10 = some m.cls := hown
  refine lv_aload_n hx hb dX10_feed_0 rfl (lv_at hl 0 rfl) ?_
  refine lv_iconst (v := 0) hx hb dX10_feed_1 (by decide) ?_
  obtain ⟨r1, hr1, hf⟩ := bd hf
  have hr1 := Option.some.inj hr1
  refine wo_put (C := RX10) (T := TX10) (N := 49) (v := .int 0) (ty := .int) hx hb htw uwX10 tyX10 tyX10_ok nmX10 hown hE hw hS hk rfl rfl 0 (by decide) (htw _ mw1243) (fun _ h9 => h9) rfl (tyX10_ok 0 (by decide)) rfl rfl (Nat.le_of_ble_eq_true rfl) (st10_0 hr1) dX10_feed_2 (fun H locs hw hS => ?_)
  refine lv_aload_n hx hb dX10_feed_5 rfl (lv_at hl 0 rfl) ?_
  refine va_get (ci := 10) (v := .ref (aa Γ o 2)) (C := RX10) (T := TX10) (N := 49) hx hb htw uwX10 hown hE.1 (wo_me hw hk) 0 rfl rfl 2 (by decide) (htw _ mw1245) (fun _ h9 => h9) rfl dX10_feed_6 ?_
  refine lv_iconst (v := 0) hx hb dX10_feed_9 (by decide) ?_
  refine va_iald hx hb hE.1 (wo_me hw hk) 2 0 rfl rfl (inR_in (i := 0) (n := 4) (by decide)) dX10_feed_10 ?_
  refine lv_bipush (v := 20) hx hb dX10_feed_11 (by decide) ?_
  refine lv_iadd hx hb dX10_feed_13 ?_
  refine lv_sipush (v := 600) hx hb dX10_feed_14 (by decide) ?_
  refine lv_icmp_le (tgt := 22) hx hb dX10_feed_17 (by decide) (fun c7 => ?_) (fun c7 => ?_)
  · have hf := ifp c7 hf
    refine lv_aload_n hx hb dX10_feed_22 rfl (lv_at hl 0 rfl) ?_
    refine lv_iload_n hx hb dX10_feed_23 rfl (lv_at hl 1 rfl) ?_
    obtain ⟨z2, hz2, hf⟩ := bd hf
    refine cl_Vv (rest := []) (kX10_four (l := l) (Γ := Γ) (A := A) (G := G) (o := o) hk hz2) ⟨hx, hb, hml, hown, htw⟩ hE hw hS (wo_me hw hk) (q0 := 0) rfl rfl mw1396 mw1398 mw40 mw129 mw1399 pdX10_four ⟨Nat.le_of_ble_eq_true rfl, Nat.le_of_ble_eq_true rfl⟩ rfl rfl hl.1 (Nat.le_of_ble_eq_true rfl) dX10_feed_24 (fun H locs hw hS => ?_)
    refine lv_aload_n hx hb dX10_feed_27 rfl (lv_at hl 0 rfl) ?_
    refine lv_iload_n hx hb dX10_feed_28 rfl (lv_at hl 2 rfl) ?_
    obtain ⟨z3, hz3, hf⟩ := bd hf
    refine cl_Vv (rest := []) (kX10_four (l := l) (Γ := Γ) (A := A) (G := G) (o := o) hk hz3) ⟨hx, hb, hml, hown, htw⟩ hE hw hS (wo_me hw hk) (q0 := 0) rfl rfl mw1396 mw1398 mw40 mw129 mw1399 pdX10_four ⟨Nat.le_of_ble_eq_true rfl, Nat.le_of_ble_eq_true rfl⟩ rfl rfl hl.1 (Nat.le_of_ble_eq_true rfl) dX10_feed_29 (fun H locs hw hS => ?_)
    refine lv_aload_n hx hb dX10_feed_32 rfl (lv_at hl 0 rfl) ?_
    refine lv_iload_n hx hb dX10_feed_33 rfl (lv_at hl 3 rfl) ?_
    obtain ⟨z4, hz4, hf⟩ := bd hf
    refine cl_Vv (rest := []) (kX10_four (l := l) (Γ := Γ) (A := A) (G := G) (o := o) hk hz4) ⟨hx, hb, hml, hown, htw⟩ hE hw hS (wo_me hw hk) (q0 := 0) rfl rfl mw1396 mw1398 mw40 mw129 mw1399 pdX10_four ⟨Nat.le_of_ble_eq_true rfl, Nat.le_of_ble_eq_true rfl⟩ rfl rfl hl.1 (Nat.le_of_ble_eq_true rfl) dX10_feed_34 (fun H locs hw hS => ?_)
    refine lv_aload_n hx hb dX10_feed_37 rfl (lv_at hl 0 rfl) ?_
    refine lv_iload hx hb dX10_feed_38 (lv_at hl 4 rfl) ?_
    obtain ⟨z5, hz5, hf⟩ := bd hf
    refine cl_Vv (rest := []) (kX10_four (l := l) (Γ := Γ) (A := A) (G := G) (o := o) hk hz5) ⟨hx, hb, hml, hown, htw⟩ hE hw hS (wo_me hw hk) (q0 := 0) rfl rfl mw1396 mw1398 mw40 mw129 mw1399 pdX10_four ⟨Nat.le_of_ble_eq_true rfl, Nat.le_of_ble_eq_true rfl⟩ rfl rfl hl.1 (Nat.le_of_ble_eq_true rfl) dX10_feed_40 (fun H locs hw hS => ?_)
    refine lv_aload_n hx hb dX10_feed_43 rfl (lv_at hl 0 rfl) ?_
    refine lv_iload hx hb dX10_feed_44 (lv_at hl 5 rfl) ?_
    obtain ⟨z6, hz6, hf⟩ := bd hf
    refine cl_Vv (rest := []) (kX10_four (l := l) (Γ := Γ) (A := A) (G := G) (o := o) hk hz6) ⟨hx, hb, hml, hown, htw⟩ hE hw hS (wo_me hw hk) (q0 := 0) rfl rfl mw1396 mw1398 mw40 mw129 mw1399 pdX10_four ⟨Nat.le_of_ble_eq_true rfl, Nat.le_of_ble_eq_true rfl⟩ rfl rfl hl.1 (Nat.le_of_ble_eq_true rfl) dX10_feed_46 (fun H locs hw hS => ?_)
    refine lv_aload_n hx hb dX10_feed_49 rfl (lv_at hl 0 rfl) ?_
    refine va_get (ci := 10) (v := .ref (aa Γ o 2)) (C := RX10) (T := TX10) (N := 49) hx hb htw uwX10 hown hE.1 (wo_me hw hk) 0 rfl rfl 2 (by decide) (htw _ mw1245) (fun _ h9 => h9) rfl dX10_feed_50 ?_
    refine lv_iconst (v := 0) hx hb dX10_feed_53 (by decide) ?_
    refine va_iald hx hb hE.1 (wo_me hw hk) 2 0 rfl rfl (inR_in (i := 0) (n := 4) (by decide)) dX10_feed_54 ?_
    obtain rfl := Option.some.inj hf
    subst hq
    exact rt_i C hw hS dX10_feed_55
  · have hf := ifn c7 hf
    refine lv_iconst (v := (-1)) hx hb dX10_feed_20 (by decide) ?_
    obtain rfl := Option.some.inj hf
    subst hq
    exact rt_i C hw hS dX10_feed_21

theorem kX10_feed {l : Launch} {Γ : Gm} {A : Nat → Prop} {G : Gs} {o : Nat} {r : Rec} {v1 : Int32} {v2 : Int32} {v3 : Int32} {v4 : Int32} {v5 : Int32} {fin : Rec × Int32} (hk : kd Γ o = some 10) (hf : fX10_feed r v1 v2 v3 v4 v5 = some fin) : Kt l yX10_feed cX10_feed 6 (some .int) 1 22 Γ A (ug G o r) (ug G o fin.1) [.ref (ad Γ o), .int v1, .int v2, .int v3, .int v4, .int v5] (some (.int fin.2)) :=
  kt_of (by decide) (Nat.le_of_ble_eq_true rfl) (fun p e s m args below meth c C => wX10_feed_e C hk hf rfl)
theorem kgX10_feed {l : Launch} {Γ : Gm} {A : Nat → Prop} {G : Gs} {o : Nat} {v1 : Int32} {v2 : Int32} {v3 : Int32} {v4 : Int32} {v5 : Int32} {fin : Rec × Int32} (hk : kd Γ o = some 10) (hf : fX10_feed (G o) v1 v2 v3 v4 v5 = some fin) : Kt l yX10_feed cX10_feed 6 (some .int) 1 22 Γ A G (ug G o fin.1) [.ref (ad Γ o), .int v1, .int v2, .int v3, .int v4, .int v5] (some (.int fin.2)) := by
  have h := kX10_feed (l := l) (A := A) (G := G) (r := G o) hk hf
  rw [ug_self] at h
  exact h
noncomputable def fX10_end (r : Rec) (v1 : Int32) : Option (Rec × Int32) :=
  (some (si r 0 0)).bind fun r1 => (fX10_in v1 0 (ga r1 2 (Int32.toNatClampNeg 0))).bind fun z2 => if z2 = 0 then some ((r1, (-1))) else (some (sa r1 2 (upd (ga r1 2) (Int32.toNatClampNeg 0) v1))).bind fun r3 => some ((r3, v1))
set_option maxRecDepth 100000 in
set_option maxHeartbeats 4000000 in
theorem wX10_end_e {p : Program} {l : Launch} {e : Env} {s : State} {m : MethodId} {args : Array Value} {below : List Frame} {meth : Method} {c : Code} {Γ : Gm} {A : Nat → Prop} {G : Gs} {o : Nat} {r : Rec} {v1 : Int32} {q : (Rec × Int32)} {fin : Rec × Int32} (C : Cx p s m args meth c yX10_end cX10_end 2 (some .int) Γ A) (hk : kd Γ o = some 10) (hf : fX10_end r v1 = some q) (hq : (fun x => x = fin) q) : Wk p l e { frames := 1, cells := 0, slots := 0, locals := 22 } s m args below meth c Γ A (ug G o fin.1) (some (.int fin.2)) 0 2 [(0, .ref (ad Γ o)), (1, .int v1)] [] (ug G o r) := by
  intro H locs ls hw hS hl
  unfold fX10_end at hf
  obtain ⟨hx, hb, hml, hr, hown, htw, hlocks, hE⟩ := id C
  have hown : s.vm.findClass RX10 = some m.cls := hown
  refine lv_aload_n hx hb dX10_end_0 rfl (lv_at hl 0 rfl) ?_
  refine lv_iconst (v := 0) hx hb dX10_end_1 (by decide) ?_
  obtain ⟨r1, hr1, hf⟩ := bd hf
  have hr1 := Option.some.inj hr1
  refine wo_put (C := RX10) (T := TX10) (N := 49) (v := .int 0) (ty := .int) hx hb htw uwX10 tyX10 tyX10_ok nmX10 hown hE hw hS hk rfl rfl 0 (by decide) (htw _ mw1243) (fun _ h9 => h9) rfl (tyX10_ok 0 (by decide)) rfl rfl (Nat.le_of_ble_eq_true rfl) (st10_0 hr1) dX10_end_2 (fun H locs hw hS => ?_)
  refine lv_iload_n hx hb dX10_end_5 rfl (lv_at hl 1 rfl) ?_
  refine lv_iconst (v := 0) hx hb dX10_end_6 (by decide) ?_
  refine lv_aload_n hx hb dX10_end_7 rfl (lv_at hl 0 rfl) ?_
  refine va_get (ci := 10) (v := .ref (aa Γ o 2)) (C := RX10) (T := TX10) (N := 49) hx hb htw uwX10 hown hE.1 (wo_me hw hk) 0 rfl rfl 2 (by decide) (htw _ mw1245) (fun _ h9 => h9) rfl dX10_end_8 ?_
  refine lv_iconst (v := 0) hx hb dX10_end_11 (by decide) ?_
  refine va_iald hx hb hE.1 (wo_me hw hk) 2 0 rfl rfl (inR_in (i := 0) (n := 4) (by decide)) dX10_end_12 ?_
  obtain ⟨z2, hz2, hf⟩ := bd hf
  refine cl_Ss (rest := []) (kX10_in (l := l) (Γ := Γ) (A := A) (G := (ug G o r1)) hz2) ⟨hx, hb, hml, hown, htw⟩ hE hw hS mw1404 mw1405 mw129 mw1406 pdX10_in ⟨Nat.le_of_ble_eq_true rfl, Nat.le_of_ble_eq_true rfl⟩ rfl rfl hl.1 (Nat.le_of_ble_eq_true rfl) dX10_end_13 (fun H locs hw hS => ?_)
  refine lv_if_ne (tgt := 21) hx hb dX10_end_16 (by decide) (fun c4 => ?_) (fun c4 => ?_)
  · have hf := ifn c4 hf
    refine lv_aload_n hx hb dX10_end_21 rfl (lv_at hl 0 rfl) ?_
    refine va_get (ci := 10) (v := .ref (aa Γ o 2)) (C := RX10) (T := TX10) (N := 49) hx hb htw uwX10 hown hE.1 (wo_me hw hk) 0 rfl rfl 2 (by decide) (htw _ mw1245) (fun _ h9 => h9) rfl dX10_end_22 ?_
    refine lv_iconst (v := 0) hx hb dX10_end_25 (by decide) ?_
    refine lv_iload_n hx hb dX10_end_26 rfl (lv_at hl 1 rfl) ?_
    obtain ⟨r3, hr3, hf⟩ := bd hf
    have hr3 := Option.some.inj hr3
    refine wo_iast hx hb hE hw hS hk (q0 := 2) rfl (inR_in (i := 0) (n := 4) (by decide)) (sa10_2 hr3) dX10_end_27 (fun H locs hw hS => ?_)
    refine lv_iload_n hx hb dX10_end_28 rfl (lv_at hl 1 rfl) ?_
    obtain rfl := Option.some.inj hf
    subst hq
    exact rt_i C hw hS dX10_end_29
  · have hf := ifp c4 hf
    refine lv_iconst (v := (-1)) hx hb dX10_end_19 (by decide) ?_
    obtain rfl := Option.some.inj hf
    subst hq
    exact rt_i C hw hS dX10_end_20

theorem kX10_end {l : Launch} {Γ : Gm} {A : Nat → Prop} {G : Gs} {o : Nat} {r : Rec} {v1 : Int32} {fin : Rec × Int32} (hk : kd Γ o = some 10) (hf : fX10_end r v1 = some fin) : Kt l yX10_end cX10_end 2 (some .int) 1 22 Γ A (ug G o r) (ug G o fin.1) [.ref (ad Γ o), .int v1] (some (.int fin.2)) :=
  kt_of (by decide) (Nat.le_of_ble_eq_true rfl) (fun p e s m args below meth c C => wX10_end_e C hk hf rfl)
theorem kgX10_end {l : Launch} {Γ : Gm} {A : Nat → Prop} {G : Gs} {o : Nat} {v1 : Int32} {fin : Rec × Int32} (hk : kd Γ o = some 10) (hf : fX10_end (G o) v1 = some fin) : Kt l yX10_end cX10_end 2 (some .int) 1 22 Γ A G (ug G o fin.1) [.ref (ad Γ o), .int v1] (some (.int fin.2)) := by
  have h := kX10_end (l := l) (A := A) (G := G) (r := G o) hk hf
  rw [ug_self] at h
  exact h
noncomputable def fX10_see (r : Rec) : Option Int32 :=
  if (gi r 11) ≤ (gi r 10) then some ((-1)) else gd (inR (gi r 10) 2400) (some ((ga r 1 (Int32.toNatClampNeg (gi r 10))) &&& 255))
set_option maxRecDepth 100000 in
set_option maxHeartbeats 4000000 in
theorem wX10_see_e {p : Program} {l : Launch} {e : Env} {s : State} {m : MethodId} {args : Array Value} {below : List Frame} {meth : Method} {c : Code} {Γ : Gm} {A : Nat → Prop} {G : Gs} {o : Nat} {r : Rec} {q : Int32} {fin : Int32} (C : Cx p s m args meth c yX10_see cX10_see 1 (some .int) Γ A) (hk : kd Γ o = some 10) (hf : fX10_see r = some q) (hq : (fun x => x = fin) q) : Wk p l e { frames := 0, cells := 0, slots := 0, locals := 0 } s m args below meth c Γ A (ug G o r) (some (.int fin)) 0 1 [(0, .ref (ad Γ o))] [] (ug G o r) := by
  intro H locs ls hw hS hl
  unfold fX10_see at hf
  obtain ⟨hx, hb, hml, hr, hown, htw, hlocks, hE⟩ := id C
  have hown : s.vm.findClass RX10 = some m.cls := hown
  refine lv_aload_n hx hb dX10_see_0 rfl (lv_at hl 0 rfl) ?_
  refine va_get (ci := 10) (v := .int (gi r 10)) (C := RX10) (T := TX10) (N := 49) hx hb htw uwX10 hown hE.1 (wo_me hw hk) 0 rfl rfl 10 (by decide) (htw _ mw1253) (fun _ h9 => h9) rfl dX10_see_1 ?_
  refine lv_aload_n hx hb dX10_see_4 rfl (lv_at hl 0 rfl) ?_
  refine va_get (ci := 10) (v := .int (gi r 11)) (C := RX10) (T := TX10) (N := 49) hx hb htw uwX10 hown hE.1 (wo_me hw hk) 0 rfl rfl 11 (by decide) (htw _ mw1254) (fun _ h9 => h9) rfl dX10_see_5 ?_
  refine lv_icmp_ge (tgt := 27) hx hb dX10_see_8 (by decide) (fun c2 => ?_) (fun c2 => ?_)
  · have hf := ifp c2 hf
    refine lv_iconst (v := (-1)) hx hb dX10_see_27 (by decide) ?_
    obtain rfl := Option.some.inj hf
    subst hq
    exact rt_i C hw hS dX10_see_28
  · have hf := ifn c2 hf
    refine lv_aload_n hx hb dX10_see_11 rfl (lv_at hl 0 rfl) ?_
    refine va_get (ci := 10) (v := .ref (aa Γ o 1)) (C := RX10) (T := TX10) (N := 49) hx hb htw uwX10 hown hE.1 (wo_me hw hk) 0 rfl rfl 1 (by decide) (htw _ mw1244) (fun _ h9 => h9) rfl dX10_see_12 ?_
    refine lv_aload_n hx hb dX10_see_15 rfl (lv_at hl 0 rfl) ?_
    refine va_get (ci := 10) (v := .int (gi r 10)) (C := RX10) (T := TX10) (N := 49) hx hb htw uwX10 hown hE.1 (wo_me hw hk) 0 rfl rfl 10 (by decide) (htw _ mw1253) (fun _ h9 => h9) rfl dX10_see_16 ?_
    obtain ⟨g1, hf⟩ := gd_some hf
    refine va_bald hx hb hE.1 (wo_me hw hk) 1 1 rfl rfl (inR_in g1) dX10_see_19 ?_
    refine lv_sipush (v := 255) hx hb dX10_see_20 (by decide) ?_
    refine lv_iand hx hb dX10_see_23 ?_
    refine lv_goto (tgt := 28) hx hb dX10_see_24 (by decide) ?_
    obtain rfl := Option.some.inj hf
    subst hq
    exact rt_i C hw hS dX10_see_28

theorem kX10_see {l : Launch} {Γ : Gm} {A : Nat → Prop} {G : Gs} {o : Nat} {r : Rec} {fin : Int32} (hk : kd Γ o = some 10) (hf : fX10_see r = some fin) : Kt l yX10_see cX10_see 1 (some .int) 0 0 Γ A (ug G o r) (ug G o r) [.ref (ad Γ o)] (some (.int fin)) :=
  kt_of (by decide) (Nat.le_of_ble_eq_true rfl) (fun p e s m args below meth c C => wX10_see_e C hk hf rfl)
theorem kgX10_see {l : Launch} {Γ : Gm} {A : Nat → Prop} {G : Gs} {o : Nat} {fin : Int32} (hk : kd Γ o = some 10) (hf : fX10_see (G o) = some fin) : Kt l yX10_see cX10_see 1 (some .int) 0 0 Γ A G G [.ref (ad Γ o)] (some (.int fin)) := by
  have h := kX10_see (l := l) (A := A) (G := G) (r := G o) hk hf
  rw [ug_self] at h
  exact h
noncomputable def bX10_token_18 (r : Rec) : Option (Rec ⊕ Rec) :=
  (some (si r 10 ((gi r 10) + 1))).bind fun r1 => some (.inl r1)
set_option maxRecDepth 100000 in
set_option maxHeartbeats 4000000 in
theorem wX10_token_18 {p : Program} {l : Launch} {e : Env} {s : State} {m : MethodId} {args : Array Value} {below : List Frame} {meth : Method} {c : Code} {Γ : Gm} {A : Nat → Prop} {G : Gs} {o : Nat} {r : Rec} {q : (Rec ⊕ Rec)} {fin : Rec} (C : Cx p s m args meth c yX10_token cX10_token 3 none Γ A) (hk : kd Γ o = some 10) (hf : bX10_token_18 r = some q) (hq : (KC (fun st : Rec => Wk p l e { frames := 1, cells := 0, slots := 0, locals := 22 } s m args below meth c Γ A (ug G o fin) none 0 3 [(0, .ref (ad Γ o))] [] (ug G o st)) (fun x => x = fin)) q) : Wk p l e { frames := 1, cells := 0, slots := 0, locals := 22 } s m args below meth c Γ A (ug G o fin) none 18 3 [(0, .ref (ad Γ o))] [] (ug G o r) := by
  intro H locs ls hw hS hl
  unfold bX10_token_18 at hf
  obtain ⟨hx, hb, hml, hr, hown, htw, hlocks, hE⟩ := id C
  have hown : s.vm.findClass RX10 = some m.cls := hown
  refine lv_aload_n hx hb dX10_token_18 rfl (lv_at hl 0 rfl) ?_
  refine lv_dup hx hb dX10_token_19 rfl ?_
  refine va_get (ci := 10) (v := .int (gi r 10)) (C := RX10) (T := TX10) (N := 49) hx hb htw uwX10 hown hE.1 (wo_me hw hk) 0 rfl rfl 10 (by decide) (htw _ mw1253) (fun _ h9 => h9) rfl dX10_token_20 ?_
  refine lv_iconst (v := 1) hx hb dX10_token_23 (by decide) ?_
  refine lv_iadd hx hb dX10_token_24 ?_
  obtain ⟨r1, hr1, hf⟩ := bd hf
  have hr1 := Option.some.inj hr1
  refine wo_put (C := RX10) (T := TX10) (N := 49) (v := .int ((gi r 10) + 1)) (ty := .int) hx hb htw uwX10 tyX10 tyX10_ok nmX10 hown hE hw hS hk rfl rfl 10 (by decide) (htw _ mw1253) (fun _ h9 => h9) rfl (tyX10_ok 10 (by decide)) rfl rfl (Nat.le_of_ble_eq_true rfl) (st10_10 hr1) dX10_token_25 (fun H locs hw hS => ?_)
  refine lv_goto (tgt := 0) hx hb dX10_token_28 (by decide) ?_
  obtain rfl := Option.some.inj hf
  exact hq.1 _ rfl H locs ls hw hS hl

noncomputable def bX10_token_136 (r : Rec) (s0 : Int64) : Option Rec :=
  (some (sl r 15 s0)).bind fun r2 => (some (si r2 13 2)).bind fun r3 => some (r3)
set_option maxRecDepth 100000 in
set_option maxHeartbeats 4000000 in
theorem wX10_token_136 {p : Program} {l : Launch} {e : Env} {s : State} {m : MethodId} {args : Array Value} {below : List Frame} {meth : Method} {c : Code} {Γ : Gm} {A : Nat → Prop} {G : Gs} {o : Nat} {r : Rec} {s0 : Int64} {q : Rec} {fin : Rec} (C : Cx p s m args meth c yX10_token cX10_token 3 none Γ A) (hk : kd Γ o = some 10) (hf : bX10_token_136 r s0 = some q) (hq : (fun x => x = fin) q) : Wk p l e { frames := 1, cells := 0, slots := 0, locals := 22 } s m args below meth c Γ A (ug G o fin) none 136 3 [(0, .ref (ad Γ o))] [.long s0, .ref (ad Γ o)] (ug G o r) := by
  intro H locs ls hw hS hl
  unfold bX10_token_136 at hf
  obtain ⟨hx, hb, hml, hr, hown, htw, hlocks, hE⟩ := id C
  have hown : s.vm.findClass RX10 = some m.cls := hown
  obtain ⟨r2, hr2, hf⟩ := bd hf
  have hr2 := Option.some.inj hr2
  refine wo_put (C := RX10) (T := TX10) (N := 49) (v := .long s0) (ty := .long) hx hb htw uwX10 tyX10 tyX10_ok nmX10 hown hE hw hS hk rfl rfl 15 (by decide) (htw _ mw1258) (fun _ h9 => h9) rfl (tyX10_ok 15 (by decide)) rfl rfl (Nat.le_of_ble_eq_true rfl) (st10_15 hr2) dX10_token_136 (fun H locs hw hS => ?_)
  refine lv_aload_n hx hb dX10_token_139 rfl (lv_at hl 0 rfl) ?_
  refine lv_iconst (v := 2) hx hb dX10_token_140 (by decide) ?_
  obtain ⟨r3, hr3, hf⟩ := bd hf
  have hr3 := Option.some.inj hr3
  refine wo_put (C := RX10) (T := TX10) (N := 49) (v := .int 2) (ty := .int) hx hb htw uwX10 tyX10 tyX10_ok nmX10 hown hE hw hS hk rfl rfl 13 (by decide) (htw _ mw1256) (fun _ h9 => h9) rfl (tyX10_ok 13 (by decide)) rfl rfl (Nat.le_of_ble_eq_true rfl) (st10_13 hr3) dX10_token_141 (fun H locs hw hS => ?_)
  refine lv_goto (tgt := 266) hx hb dX10_token_144 (by decide) ?_
  obtain rfl := Option.some.inj hf
  subst hq
  exact rt_v C hw hS dX10_token_266

noncomputable def bX10_token_121 (r : Rec) (v2 : Int32) : Option Rec :=
  if v2 ≤ 8 then bX10_token_136 r (gl r 15) else bX10_token_136 r 0
set_option maxRecDepth 100000 in
set_option maxHeartbeats 4000000 in
theorem wX10_token_121 {p : Program} {l : Launch} {e : Env} {s : State} {m : MethodId} {args : Array Value} {below : List Frame} {meth : Method} {c : Code} {Γ : Gm} {A : Nat → Prop} {G : Gs} {o : Nat} {r : Rec} {v2 : Int32} {q : Rec} {fin : Rec} (C : Cx p s m args meth c yX10_token cX10_token 3 none Γ A) (hk : kd Γ o = some 10) (hf : bX10_token_121 r v2 = some q) (hq : (fun x => x = fin) q) : Wk p l e { frames := 1, cells := 0, slots := 0, locals := 22 } s m args below meth c Γ A (ug G o fin) none 121 3 [(0, .ref (ad Γ o)), (2, .int v2)] [] (ug G o r) := by
  intro H locs ls hw hS hl
  unfold bX10_token_121 at hf
  obtain ⟨hx, hb, hml, hr, hown, htw, hlocks, hE⟩ := id C
  have hown : s.vm.findClass RX10 = some m.cls := hown
  refine lv_aload_n hx hb dX10_token_121 rfl (lv_at hl 0 rfl) ?_
  refine lv_iload_n hx hb dX10_token_122 rfl (lv_at hl 1 rfl) ?_
  refine lv_bipush (v := 8) hx hb dX10_token_123 (by decide) ?_
  refine lv_icmp_le (tgt := 132) hx hb dX10_token_125 (by decide) (fun c4 => ?_) (fun c4 => ?_)
  · have hf := ifp c4 hf
    refine lv_aload_n hx hb dX10_token_132 rfl (lv_at hl 0 rfl) ?_
    refine va_get (ci := 10) (v := .long (gl r 15)) (C := RX10) (T := TX10) (N := 49) hx hb htw uwX10 hown hE.1 (wo_me hw hk) 0 rfl rfl 15 (by decide) (htw _ mw1258) (fun _ h9 => h9) rfl dX10_token_133 ?_
    exact wX10_token_136 C hk hf hq H locs ls hw hS (lv_sub hl [0] rfl)
  · have hf := ifn c4 hf
    refine lv_lconst (v := 0) hx hb dX10_token_128 (by decide) ?_
    refine lv_goto (tgt := 136) hx hb dX10_token_129 (by decide) ?_
    exact wX10_token_136 C hk hf hq H locs ls hw hS (lv_sub hl [0] rfl)

noncomputable def bX10_token_74 (r : Rec) (v2 : Int32) : Option ((Int32 × Rec) ⊕ Rec) :=
  (fX10_see r).bind fun z5 => (fX10_in z5 97 122).bind fun z6 => if z6 = 0 then out1 (bX10_token_121 r v2) else (fX10_see r).bind fun z8 => (some (sl r 15 (((gl r 15) <<< ((8 : Int32).toInt64 &&& 63)) ||| ((z8 : Int32).toInt64)))).bind fun r9 => (some (si r9 10 ((gi r9 10) + 1))).bind fun r10 => some (.inl (v2 + 1, r10))
set_option maxRecDepth 100000 in
set_option maxHeartbeats 4000000 in
theorem wX10_token_74 {p : Program} {l : Launch} {e : Env} {s : State} {m : MethodId} {args : Array Value} {below : List Frame} {meth : Method} {c : Code} {Γ : Gm} {A : Nat → Prop} {G : Gs} {o : Nat} {r : Rec} {v2 : Int32} {q : ((Int32 × Rec) ⊕ Rec)} {fin : Rec} (C : Cx p s m args meth c yX10_token cX10_token 3 none Γ A) (hk : kd Γ o = some 10) (hf : bX10_token_74 r v2 = some q) (hq : (KC (fun st : Int32 × Rec => Wk p l e { frames := 1, cells := 0, slots := 0, locals := 22 } s m args below meth c Γ A (ug G o fin) none 74 3 [(0, .ref (ad Γ o)), (2, .int st.1)] [] (ug G o st.2)) (fun x => x = fin)) q) : Wk p l e { frames := 1, cells := 0, slots := 0, locals := 22 } s m args below meth c Γ A (ug G o fin) none 74 3 [(0, .ref (ad Γ o)), (2, .int v2)] [] (ug G o r) := by
  intro H locs ls hw hS hl
  unfold bX10_token_74 at hf
  obtain ⟨hx, hb, hml, hr, hown, htw, hlocks, hE⟩ := id C
  have hown : s.vm.findClass RX10 = some m.cls := hown
  refine lv_aload_n hx hb dX10_token_74 rfl (lv_at hl 0 rfl) ?_
  obtain ⟨z5, hz5, hf⟩ := bd hf
  refine cl_Vs (rest := []) (kX10_see (l := l) (Γ := Γ) (A := A) (G := G) (o := o) hk hz5) ⟨hx, hb, hml, hown, htw⟩ hE hw hS (wo_me hw hk) (q0 := 0) rfl rfl mw1423 mw1425 mw44 mw129 mw1426 pdX10_see ⟨Nat.le_of_ble_eq_true rfl, Nat.le_of_ble_eq_true rfl⟩ rfl rfl hl.1 (Nat.le_of_ble_eq_true rfl) dX10_token_75 (fun H locs hw hS => ?_)
  refine lv_bipush (v := 97) hx hb dX10_token_78 (by decide) ?_
  refine lv_bipush (v := 122) hx hb dX10_token_80 (by decide) ?_
  obtain ⟨z6, hz6, hf⟩ := bd hf
  refine cl_Ss (rest := []) (kX10_in (l := l) (Γ := Γ) (A := A) (G := (ug G o r)) hz6) ⟨hx, hb, hml, hown, htw⟩ hE hw hS mw1404 mw1405 mw129 mw1406 pdX10_in ⟨Nat.le_of_ble_eq_true rfl, Nat.le_of_ble_eq_true rfl⟩ rfl rfl hl.1 (Nat.le_of_ble_eq_true rfl) dX10_token_82 (fun H locs hw hS => ?_)
  refine lv_if_eq (tgt := 121) hx hb dX10_token_85 (by decide) (fun c11 => ?_) (fun c11 => ?_)
  · have hf := ifp c11 hf
    obtain ⟨q7, hfq7, eq7⟩ := out1_some hf
    subst eq7
    have hf := hfq7
    have hq := hq.2 _ rfl
    exact wX10_token_121 C hk hf hq H locs ls hw hS hl
  · have hf := ifn c11 hf
    refine lv_aload_n hx hb dX10_token_88 rfl (lv_at hl 0 rfl) ?_
    refine lv_aload_n hx hb dX10_token_89 rfl (lv_at hl 0 rfl) ?_
    refine va_get (ci := 10) (v := .long (gl r 15)) (C := RX10) (T := TX10) (N := 49) hx hb htw uwX10 hown hE.1 (wo_me hw hk) 0 rfl rfl 15 (by decide) (htw _ mw1258) (fun _ h9 => h9) rfl dX10_token_90 ?_
    refine lv_bipush (v := 8) hx hb dX10_token_93 (by decide) ?_
    refine lv_lshl (v := (gl r 15) <<< ((8 : Int32).toInt64 &&& 63)) hx hb dX10_token_95 rfl ?_
    refine lv_aload_n hx hb dX10_token_96 rfl (lv_at hl 0 rfl) ?_
    obtain ⟨z8, hz8, hf⟩ := bd hf
    refine cl_Vs (rest := [.long ((gl r 15) <<< ((8 : Int32).toInt64 &&& 63)), .ref (ad Γ o)]) (kX10_see (l := l) (Γ := Γ) (A := A) (G := G) (o := o) hk hz8) ⟨hx, hb, hml, hown, htw⟩ hE hw hS (wo_me hw hk) (q0 := 0) rfl rfl mw1423 mw1425 mw44 mw129 mw1426 pdX10_see ⟨Nat.le_of_ble_eq_true rfl, Nat.le_of_ble_eq_true rfl⟩ rfl rfl hl.1 (Nat.le_of_ble_eq_true rfl) dX10_token_97 (fun H locs hw hS => ?_)
    refine lv_i2l (v := (z8 : Int32).toInt64) hx hb dX10_token_100 rfl ?_
    refine lv_lor hx hb dX10_token_101 ?_
    obtain ⟨r9, hr9, hf⟩ := bd hf
    have hr9 := Option.some.inj hr9
    refine wo_put (C := RX10) (T := TX10) (N := 49) (v := .long (((gl r 15) <<< ((8 : Int32).toInt64 &&& 63)) ||| ((z8 : Int32).toInt64))) (ty := .long) hx hb htw uwX10 tyX10 tyX10_ok nmX10 hown hE hw hS hk rfl rfl 15 (by decide) (htw _ mw1258) (fun _ h9 => h9) rfl (tyX10_ok 15 (by decide)) rfl rfl (Nat.le_of_ble_eq_true rfl) (st10_15 hr9) dX10_token_102 (fun H locs hw hS => ?_)
    refine lv_aload_n hx hb dX10_token_105 rfl (lv_at hl 0 rfl) ?_
    refine lv_dup hx hb dX10_token_106 rfl ?_
    refine va_get (ci := 10) (v := .int (gi r9 10)) (C := RX10) (T := TX10) (N := 49) hx hb htw uwX10 hown hE.1 (wo_me hw hk) 0 rfl rfl 10 (by decide) (htw _ mw1253) (fun _ h9 => h9) rfl dX10_token_107 ?_
    refine lv_iconst (v := 1) hx hb dX10_token_110 (by decide) ?_
    refine lv_iadd hx hb dX10_token_111 ?_
    obtain ⟨r10, hr10, hf⟩ := bd hf
    have hr10 := Option.some.inj hr10
    refine wo_put (C := RX10) (T := TX10) (N := 49) (v := .int ((gi r9 10) + 1)) (ty := .int) hx hb htw uwX10 tyX10 tyX10_ok nmX10 hown hE hw hS hk rfl rfl 10 (by decide) (htw _ mw1253) (fun _ h9 => h9) rfl (tyX10_ok 10 (by decide)) rfl rfl (Nat.le_of_ble_eq_true rfl) (st10_10 hr10) dX10_token_112 (fun H locs hw hS => ?_)
    refine lv_iinc (v := v2 + 1) (lv' := [(2, .int (v2 + 1)), (0, .ref (ad Γ o))]) hx hb dX10_token_115 hl (k := 1) rfl (by rfl) (by decide) rfl (fun ls hl => ?_)
    refine lv_goto (tgt := 74) hx hb dX10_token_118 (by decide) ?_
    obtain rfl := Option.some.inj hf
    exact hq.1 _ rfl H locs ls hw hS (lv_sub hl [1, 0] rfl)

set_option maxRecDepth 100000 in
set_option maxHeartbeats 4000000 in
theorem lwX10_token_74 {p : Program} {l : Launch} {e : Env} {s : State} {m : MethodId} {args : Array Value} {below : List Frame} {meth : Method} {c : Code} {Γ : Gm} {A : Nat → Prop} {G : Gs} {o : Nat} {r : Rec} {v2 : Int32} {q : Rec} {fin : Rec} (C : Cx p s m args meth c yX10_token cX10_token 3 none Γ A) (hk : kd Γ o = some 10) (hf : iter (fun st : Int32 × Rec => bX10_token_74 st.2 st.1) (v2, r) = some q) (hq : (fun x => x = fin) q) : Wk p l e { frames := 1, cells := 0, slots := 0, locals := 22 } s m args below meth c Γ A (ug G o fin) none 74 3 [(0, .ref (ad Γ o)), (2, .int v2)] [] (ug G o r) := by
  intro H locs ls hw hS hl
  refine iter_walk (P := (fun st : Int32 × Rec => Wk p l e { frames := 1, cells := 0, slots := 0, locals := 22 } s m args below meth c Γ A (ug G o fin) none 74 3 [(0, .ref (ad Γ o)), (2, .int st.1)] [] (ug G o st.2))) (K := (fun x => x = fin)) (fun st q hq1 h1 h2 => ?_) hf hq H locs ls hw hS hl
  exact wX10_token_74 (r := st.2) (v2 := st.1) C hk hq1 ⟨h1, h2⟩

noncomputable def bX10_token_235 (r : Rec) (s0 : Int32) : Option Rec :=
  (some (si r 13 s0)).bind fun r12 => some (r12)
set_option maxRecDepth 100000 in
set_option maxHeartbeats 4000000 in
theorem wX10_token_235 {p : Program} {l : Launch} {e : Env} {s : State} {m : MethodId} {args : Array Value} {below : List Frame} {meth : Method} {c : Code} {Γ : Gm} {A : Nat → Prop} {G : Gs} {o : Nat} {r : Rec} {s0 : Int32} {q : Rec} {fin : Rec} (C : Cx p s m args meth c yX10_token cX10_token 3 none Γ A) (hk : kd Γ o = some 10) (hf : bX10_token_235 r s0 = some q) (hq : (fun x => x = fin) q) : Wk p l e { frames := 1, cells := 0, slots := 0, locals := 22 } s m args below meth c Γ A (ug G o fin) none 235 3 [] [.int s0, .ref (ad Γ o)] (ug G o r) := by
  intro H locs ls hw hS hl
  unfold bX10_token_235 at hf
  obtain ⟨hx, hb, hml, hr, hown, htw, hlocks, hE⟩ := id C
  have hown : s.vm.findClass RX10 = some m.cls := hown
  obtain ⟨r12, hr12, hf⟩ := bd hf
  have hr12 := Option.some.inj hr12
  refine wo_put (C := RX10) (T := TX10) (N := 49) (v := .int s0) (ty := .int) hx hb htw uwX10 tyX10 tyX10_ok nmX10 hown hE hw hS hk rfl rfl 13 (by decide) (htw _ mw1256) (fun _ h9 => h9) rfl (tyX10_ok 13 (by decide)) rfl rfl (Nat.le_of_ble_eq_true rfl) (st10_13 hr12) dX10_token_235 (fun H locs hw hS => ?_)
  refine lv_goto (tgt := 266) hx hb dX10_token_238 (by decide) ?_
  obtain rfl := Option.some.inj hf
  subst hq
  exact rt_v C hw hS dX10_token_266

noncomputable def bX10_token_224 (r : Rec) (v2 : Int32) : Option Rec :=
  if v2 ≤ 2 then bX10_token_235 r 3 else bX10_token_235 r 1
set_option maxRecDepth 100000 in
set_option maxHeartbeats 4000000 in
theorem wX10_token_224 {p : Program} {l : Launch} {e : Env} {s : State} {m : MethodId} {args : Array Value} {below : List Frame} {meth : Method} {c : Code} {Γ : Gm} {A : Nat → Prop} {G : Gs} {o : Nat} {r : Rec} {v2 : Int32} {q : Rec} {fin : Rec} (C : Cx p s m args meth c yX10_token cX10_token 3 none Γ A) (hk : kd Γ o = some 10) (hf : bX10_token_224 r v2 = some q) (hq : (fun x => x = fin) q) : Wk p l e { frames := 1, cells := 0, slots := 0, locals := 22 } s m args below meth c Γ A (ug G o fin) none 224 3 [(0, .ref (ad Γ o)), (2, .int v2)] [] (ug G o r) := by
  intro H locs ls hw hS hl
  unfold bX10_token_224 at hf
  obtain ⟨hx, hb, hml, hr, hown, htw, hlocks, hE⟩ := id C
  have hown : s.vm.findClass RX10 = some m.cls := hown
  refine lv_aload_n hx hb dX10_token_224 rfl (lv_at hl 0 rfl) ?_
  refine lv_iload_n hx hb dX10_token_225 rfl (lv_at hl 1 rfl) ?_
  refine lv_iconst (v := 2) hx hb dX10_token_226 (by decide) ?_
  refine lv_icmp_le (tgt := 234) hx hb dX10_token_227 (by decide) (fun c13 => ?_) (fun c13 => ?_)
  · have hf := ifp c13 hf
    refine lv_iconst (v := 3) hx hb dX10_token_234 (by decide) ?_
    exact wX10_token_235 C hk hf hq H locs ls hw hS (lv_sub hl [] rfl)
  · have hf := ifn c13 hf
    refine lv_iconst (v := 1) hx hb dX10_token_230 (by decide) ?_
    refine lv_goto (tgt := 235) hx hb dX10_token_231 (by decide) ?_
    exact wX10_token_235 C hk hf hq H locs ls hw hS (lv_sub hl [] rfl)

noncomputable def bX10_token_205 (r : Rec) (v2 : Int32) (s0 : Int32) : Option ((Int32 × Rec) ⊕ Rec) :=
  (some (si r 14 s0)).bind fun r14 => (some (si r14 10 ((gi r14 10) + 1))).bind fun r15 => some (.inl (v2 + 1, r15))
set_option maxRecDepth 100000 in
set_option maxHeartbeats 4000000 in
theorem wX10_token_205 {p : Program} {l : Launch} {e : Env} {s : State} {m : MethodId} {args : Array Value} {below : List Frame} {meth : Method} {c : Code} {Γ : Gm} {A : Nat → Prop} {G : Gs} {o : Nat} {r : Rec} {v2 : Int32} {s0 : Int32} {q : ((Int32 × Rec) ⊕ Rec)} {fin : Rec} (C : Cx p s m args meth c yX10_token cX10_token 3 none Γ A) (hk : kd Γ o = some 10) (hf : bX10_token_205 r v2 s0 = some q) (hq : (KC (fun st : Int32 × Rec => Wk p l e { frames := 1, cells := 0, slots := 0, locals := 22 } s m args below meth c Γ A (ug G o fin) none 163 3 [(0, .ref (ad Γ o)), (2, .int st.1)] [] (ug G o st.2)) (fun x => x = fin)) q) : Wk p l e { frames := 1, cells := 0, slots := 0, locals := 22 } s m args below meth c Γ A (ug G o fin) none 205 3 [(0, .ref (ad Γ o)), (2, .int v2)] [.int s0, .ref (ad Γ o)] (ug G o r) := by
  intro H locs ls hw hS hl
  unfold bX10_token_205 at hf
  obtain ⟨hx, hb, hml, hr, hown, htw, hlocks, hE⟩ := id C
  have hown : s.vm.findClass RX10 = some m.cls := hown
  obtain ⟨r14, hr14, hf⟩ := bd hf
  have hr14 := Option.some.inj hr14
  refine wo_put (C := RX10) (T := TX10) (N := 49) (v := .int s0) (ty := .int) hx hb htw uwX10 tyX10 tyX10_ok nmX10 hown hE hw hS hk rfl rfl 14 (by decide) (htw _ mw1257) (fun _ h9 => h9) rfl (tyX10_ok 14 (by decide)) rfl rfl (Nat.le_of_ble_eq_true rfl) (st10_14 hr14) dX10_token_205 (fun H locs hw hS => ?_)
  refine lv_aload_n hx hb dX10_token_208 rfl (lv_at hl 0 rfl) ?_
  refine lv_dup hx hb dX10_token_209 rfl ?_
  refine va_get (ci := 10) (v := .int (gi r14 10)) (C := RX10) (T := TX10) (N := 49) hx hb htw uwX10 hown hE.1 (wo_me hw hk) 0 rfl rfl 10 (by decide) (htw _ mw1253) (fun _ h9 => h9) rfl dX10_token_210 ?_
  refine lv_iconst (v := 1) hx hb dX10_token_213 (by decide) ?_
  refine lv_iadd hx hb dX10_token_214 ?_
  obtain ⟨r15, hr15, hf⟩ := bd hf
  have hr15 := Option.some.inj hr15
  refine wo_put (C := RX10) (T := TX10) (N := 49) (v := .int ((gi r14 10) + 1)) (ty := .int) hx hb htw uwX10 tyX10 tyX10_ok nmX10 hown hE hw hS hk rfl rfl 10 (by decide) (htw _ mw1253) (fun _ h9 => h9) rfl (tyX10_ok 10 (by decide)) rfl rfl (Nat.le_of_ble_eq_true rfl) (st10_10 hr15) dX10_token_215 (fun H locs hw hS => ?_)
  refine lv_iinc (v := v2 + 1) (lv' := [(2, .int (v2 + 1)), (0, .ref (ad Γ o))]) hx hb dX10_token_218 hl (k := 1) rfl (by rfl) (by decide) rfl (fun ls hl => ?_)
  refine lv_goto (tgt := 163) hx hb dX10_token_221 (by decide) ?_
  obtain rfl := Option.some.inj hf
  exact hq.1 _ rfl H locs ls hw hS (lv_sub hl [1, 0] rfl)

noncomputable def bX10_token_163 (r : Rec) (v2 : Int32) : Option ((Int32 × Rec) ⊕ Rec) :=
  (fX10_see r).bind fun z16 => (fX10_in z16 48 57).bind fun z17 => if z17 = 0 then out1 (bX10_token_224 r v2) else if 2 ≤ v2 then bX10_token_205 r v2 (gi r 14) else (fX10_see r).bind fun z19 => bX10_token_205 r v2 (((10 * (gi r 14)) + z19) - 48)
set_option maxRecDepth 100000 in
set_option maxHeartbeats 4000000 in
theorem wX10_token_163 {p : Program} {l : Launch} {e : Env} {s : State} {m : MethodId} {args : Array Value} {below : List Frame} {meth : Method} {c : Code} {Γ : Gm} {A : Nat → Prop} {G : Gs} {o : Nat} {r : Rec} {v2 : Int32} {q : ((Int32 × Rec) ⊕ Rec)} {fin : Rec} (C : Cx p s m args meth c yX10_token cX10_token 3 none Γ A) (hk : kd Γ o = some 10) (hf : bX10_token_163 r v2 = some q) (hq : (KC (fun st : Int32 × Rec => Wk p l e { frames := 1, cells := 0, slots := 0, locals := 22 } s m args below meth c Γ A (ug G o fin) none 163 3 [(0, .ref (ad Γ o)), (2, .int st.1)] [] (ug G o st.2)) (fun x => x = fin)) q) : Wk p l e { frames := 1, cells := 0, slots := 0, locals := 22 } s m args below meth c Γ A (ug G o fin) none 163 3 [(0, .ref (ad Γ o)), (2, .int v2)] [] (ug G o r) := by
  intro H locs ls hw hS hl
  unfold bX10_token_163 at hf
  obtain ⟨hx, hb, hml, hr, hown, htw, hlocks, hE⟩ := id C
  have hown : s.vm.findClass RX10 = some m.cls := hown
  refine lv_aload_n hx hb dX10_token_163 rfl (lv_at hl 0 rfl) ?_
  obtain ⟨z16, hz16, hf⟩ := bd hf
  refine cl_Vs (rest := []) (kX10_see (l := l) (Γ := Γ) (A := A) (G := G) (o := o) hk hz16) ⟨hx, hb, hml, hown, htw⟩ hE hw hS (wo_me hw hk) (q0 := 0) rfl rfl mw1423 mw1425 mw44 mw129 mw1426 pdX10_see ⟨Nat.le_of_ble_eq_true rfl, Nat.le_of_ble_eq_true rfl⟩ rfl rfl hl.1 (Nat.le_of_ble_eq_true rfl) dX10_token_164 (fun H locs hw hS => ?_)
  refine lv_bipush (v := 48) hx hb dX10_token_167 (by decide) ?_
  refine lv_bipush (v := 57) hx hb dX10_token_169 (by decide) ?_
  obtain ⟨z17, hz17, hf⟩ := bd hf
  refine cl_Ss (rest := []) (kX10_in (l := l) (Γ := Γ) (A := A) (G := (ug G o r)) hz17) ⟨hx, hb, hml, hown, htw⟩ hE hw hS mw1404 mw1405 mw129 mw1406 pdX10_in ⟨Nat.le_of_ble_eq_true rfl, Nat.le_of_ble_eq_true rfl⟩ rfl rfl hl.1 (Nat.le_of_ble_eq_true rfl) dX10_token_171 (fun H locs hw hS => ?_)
  refine lv_if_eq (tgt := 224) hx hb dX10_token_174 (by decide) (fun c21 => ?_) (fun c21 => ?_)
  · have hf := ifp c21 hf
    obtain ⟨q18, hfq18, eq18⟩ := out1_some hf
    subst eq18
    have hf := hfq18
    have hq := hq.2 _ rfl
    exact wX10_token_224 C hk hf hq H locs ls hw hS hl
  · have hf := ifn c21 hf
    refine lv_aload_n hx hb dX10_token_177 rfl (lv_at hl 0 rfl) ?_
    refine lv_iload_n hx hb dX10_token_178 rfl (lv_at hl 1 rfl) ?_
    refine lv_iconst (v := 2) hx hb dX10_token_179 (by decide) ?_
    refine lv_icmp_ge (tgt := 201) hx hb dX10_token_180 (by decide) (fun c20 => ?_) (fun c20 => ?_)
    · have hf := ifp c20 hf
      refine lv_aload_n hx hb dX10_token_201 rfl (lv_at hl 0 rfl) ?_
      refine va_get (ci := 10) (v := .int (gi r 14)) (C := RX10) (T := TX10) (N := 49) hx hb htw uwX10 hown hE.1 (wo_me hw hk) 0 rfl rfl 14 (by decide) (htw _ mw1257) (fun _ h9 => h9) rfl dX10_token_202 ?_
      exact wX10_token_205 C hk hf hq H locs ls hw hS hl
    · have hf := ifn c20 hf
      refine lv_bipush (v := 10) hx hb dX10_token_183 (by decide) ?_
      refine lv_aload_n hx hb dX10_token_185 rfl (lv_at hl 0 rfl) ?_
      refine va_get (ci := 10) (v := .int (gi r 14)) (C := RX10) (T := TX10) (N := 49) hx hb htw uwX10 hown hE.1 (wo_me hw hk) 0 rfl rfl 14 (by decide) (htw _ mw1257) (fun _ h9 => h9) rfl dX10_token_186 ?_
      refine lv_imul hx hb dX10_token_189 ?_
      refine lv_aload_n hx hb dX10_token_190 rfl (lv_at hl 0 rfl) ?_
      obtain ⟨z19, hz19, hf⟩ := bd hf
      refine cl_Vs (rest := [.int (10 * (gi r 14)), .ref (ad Γ o)]) (kX10_see (l := l) (Γ := Γ) (A := A) (G := G) (o := o) hk hz19) ⟨hx, hb, hml, hown, htw⟩ hE hw hS (wo_me hw hk) (q0 := 0) rfl rfl mw1423 mw1425 mw44 mw129 mw1426 pdX10_see ⟨Nat.le_of_ble_eq_true rfl, Nat.le_of_ble_eq_true rfl⟩ rfl rfl hl.1 (Nat.le_of_ble_eq_true rfl) dX10_token_191 (fun H locs hw hS => ?_)
      refine lv_iadd hx hb dX10_token_194 ?_
      refine lv_bipush (v := 48) hx hb dX10_token_195 (by decide) ?_
      refine lv_isub hx hb dX10_token_197 ?_
      refine lv_goto (tgt := 205) hx hb dX10_token_198 (by decide) ?_
      exact wX10_token_205 C hk hf hq H locs ls hw hS hl

set_option maxRecDepth 100000 in
set_option maxHeartbeats 4000000 in
theorem lwX10_token_163 {p : Program} {l : Launch} {e : Env} {s : State} {m : MethodId} {args : Array Value} {below : List Frame} {meth : Method} {c : Code} {Γ : Gm} {A : Nat → Prop} {G : Gs} {o : Nat} {r : Rec} {v2 : Int32} {q : Rec} {fin : Rec} (C : Cx p s m args meth c yX10_token cX10_token 3 none Γ A) (hk : kd Γ o = some 10) (hf : iter (fun st : Int32 × Rec => bX10_token_163 st.2 st.1) (v2, r) = some q) (hq : (fun x => x = fin) q) : Wk p l e { frames := 1, cells := 0, slots := 0, locals := 22 } s m args below meth c Γ A (ug G o fin) none 163 3 [(0, .ref (ad Γ o)), (2, .int v2)] [] (ug G o r) := by
  intro H locs ls hw hS hl
  refine iter_walk (P := (fun st : Int32 × Rec => Wk p l e { frames := 1, cells := 0, slots := 0, locals := 22 } s m args below meth c Γ A (ug G o fin) none 163 3 [(0, .ref (ad Γ o)), (2, .int st.1)] [] (ug G o st.2))) (K := (fun x => x = fin)) (fun st q hq1 h1 h2 => ?_) hf hq H locs ls hw hS hl
  exact wX10_token_163 (r := st.2) (v2 := st.1) C hk hq1 ⟨h1, h2⟩

noncomputable def bX10_token_263 (r : Rec) (s0 : Int32) : Option Rec :=
  (some (si r 13 s0)).bind fun r22 => some (r22)
set_option maxRecDepth 100000 in
set_option maxHeartbeats 4000000 in
theorem wX10_token_263 {p : Program} {l : Launch} {e : Env} {s : State} {m : MethodId} {args : Array Value} {below : List Frame} {meth : Method} {c : Code} {Γ : Gm} {A : Nat → Prop} {G : Gs} {o : Nat} {r : Rec} {s0 : Int32} {q : Rec} {fin : Rec} (C : Cx p s m args meth c yX10_token cX10_token 3 none Γ A) (hk : kd Γ o = some 10) (hf : bX10_token_263 r s0 = some q) (hq : (fun x => x = fin) q) : Wk p l e { frames := 1, cells := 0, slots := 0, locals := 22 } s m args below meth c Γ A (ug G o fin) none 263 3 [] [.int s0, .ref (ad Γ o)] (ug G o r) := by
  intro H locs ls hw hS hl
  unfold bX10_token_263 at hf
  obtain ⟨hx, hb, hml, hr, hown, htw, hlocks, hE⟩ := id C
  have hown : s.vm.findClass RX10 = some m.cls := hown
  obtain ⟨r22, hr22, hf⟩ := bd hf
  have hr22 := Option.some.inj hr22
  refine wo_put (C := RX10) (T := TX10) (N := 49) (v := .int s0) (ty := .int) hx hb htw uwX10 tyX10 tyX10_ok nmX10 hown hE hw hS hk rfl rfl 13 (by decide) (htw _ mw1256) (fun _ h9 => h9) rfl (tyX10_ok 13 (by decide)) rfl rfl (Nat.le_of_ble_eq_true rfl) (st10_13 hr22) dX10_token_263 (fun H locs hw hS => ?_)
  obtain rfl := Option.some.inj hf
  subst hq
  exact rt_v C hw hS dX10_token_266

noncomputable def bX10_token_31 (r : Rec) : Option Rec :=
  (some (si r 12 (gi r 10))).bind fun r23 => (fX10_see r23).bind fun z24 => (some (sl r23 15 0)).bind fun r25 => if 0 ≤ z24 then (fX10_in z24 97 122).bind fun z26 => if z26 = 0 then (fX10_in z24 48 57).bind fun z27 => if z27 = 0 then (some (si r25 10 ((gi r25 10) + 1))).bind fun r28 => if z24 = 59 then bX10_token_263 r28 4 else bX10_token_263 r28 1 else (some (si r25 14 0)).bind fun r30 => iter (fun st : Int32 × Rec => bX10_token_163 st.2 st.1) (0, r30) else iter (fun st : Int32 × Rec => bX10_token_74 st.2 st.1) (0, r25) else (some (si r25 13 0)).bind fun r33 => some (r33)
set_option maxRecDepth 100000 in
set_option maxHeartbeats 4000000 in
theorem wX10_token_31 {p : Program} {l : Launch} {e : Env} {s : State} {m : MethodId} {args : Array Value} {below : List Frame} {meth : Method} {c : Code} {Γ : Gm} {A : Nat → Prop} {G : Gs} {o : Nat} {r : Rec} {q : Rec} {fin : Rec} (C : Cx p s m args meth c yX10_token cX10_token 3 none Γ A) (hk : kd Γ o = some 10) (hf : bX10_token_31 r = some q) (hq : (fun x => x = fin) q) : Wk p l e { frames := 1, cells := 0, slots := 0, locals := 22 } s m args below meth c Γ A (ug G o fin) none 31 3 [(0, .ref (ad Γ o))] [] (ug G o r) := by
  intro H locs ls hw hS hl
  unfold bX10_token_31 at hf
  obtain ⟨hx, hb, hml, hr, hown, htw, hlocks, hE⟩ := id C
  have hown : s.vm.findClass RX10 = some m.cls := hown
  refine lv_aload_n hx hb dX10_token_31 rfl (lv_at hl 0 rfl) ?_
  refine lv_aload_n hx hb dX10_token_32 rfl (lv_at hl 0 rfl) ?_
  refine va_get (ci := 10) (v := .int (gi r 10)) (C := RX10) (T := TX10) (N := 49) hx hb htw uwX10 hown hE.1 (wo_me hw hk) 0 rfl rfl 10 (by decide) (htw _ mw1253) (fun _ h9 => h9) rfl dX10_token_33 ?_
  obtain ⟨r23, hr23, hf⟩ := bd hf
  have hr23 := Option.some.inj hr23
  refine wo_put (C := RX10) (T := TX10) (N := 49) (v := .int (gi r 10)) (ty := .int) hx hb htw uwX10 tyX10 tyX10_ok nmX10 hown hE hw hS hk rfl rfl 12 (by decide) (htw _ mw1255) (fun _ h9 => h9) rfl (tyX10_ok 12 (by decide)) rfl rfl (Nat.le_of_ble_eq_true rfl) (st10_12 hr23) dX10_token_36 (fun H locs hw hS => ?_)
  refine lv_aload_n hx hb dX10_token_39 rfl (lv_at hl 0 rfl) ?_
  obtain ⟨z24, hz24, hf⟩ := bd hf
  refine cl_Vs (rest := []) (kX10_see (l := l) (Γ := Γ) (A := A) (G := G) (o := o) hk hz24) ⟨hx, hb, hml, hown, htw⟩ hE hw hS (wo_me hw hk) (q0 := 0) rfl rfl mw1423 mw1425 mw44 mw129 mw1426 pdX10_see ⟨Nat.le_of_ble_eq_true rfl, Nat.le_of_ble_eq_true rfl⟩ rfl rfl hl.1 (Nat.le_of_ble_eq_true rfl) dX10_token_40 (fun H locs hw hS => ?_)
  refine lv_istore_n (lv' := [(1, .int z24), (0, .ref (ad Γ o))]) hx hb dX10_token_43 rfl hl (by decide) rfl (fun ls hl => ?_)
  refine lv_aload_n hx hb dX10_token_44 rfl (lv_at hl 1 rfl) ?_
  refine lv_lconst (v := 0) hx hb dX10_token_45 (by decide) ?_
  obtain ⟨r25, hr25, hf⟩ := bd hf
  have hr25 := Option.some.inj hr25
  refine wo_put (C := RX10) (T := TX10) (N := 49) (v := .long 0) (ty := .long) hx hb htw uwX10 tyX10 tyX10_ok nmX10 hown hE hw hS hk rfl rfl 15 (by decide) (htw _ mw1258) (fun _ h9 => h9) rfl (tyX10_ok 15 (by decide)) rfl rfl (Nat.le_of_ble_eq_true rfl) (st10_15 hr25) dX10_token_46 (fun H locs hw hS => ?_)
  refine lv_iconst (v := 0) hx hb dX10_token_49 (by decide) ?_
  refine lv_istore_n (lv' := [(2, .int 0), (1, .int z24), (0, .ref (ad Γ o))]) hx hb dX10_token_50 rfl hl (by decide) rfl (fun ls hl => ?_)
  refine lv_iload_n hx hb dX10_token_51 rfl (lv_at hl 1 rfl) ?_
  refine lv_if_ge (tgt := 63) hx hb dX10_token_52 (by decide) (fun c34 => ?_) (fun c34 => ?_)
  · have hf := ifp c34 hf
    refine lv_iload_n hx hb dX10_token_63 rfl (lv_at hl 1 rfl) ?_
    refine lv_bipush (v := 97) hx hb dX10_token_64 (by decide) ?_
    refine lv_bipush (v := 122) hx hb dX10_token_66 (by decide) ?_
    obtain ⟨z26, hz26, hf⟩ := bd hf
    refine cl_Ss (rest := []) (kX10_in (l := l) (Γ := Γ) (A := A) (G := (ug G o r25)) hz26) ⟨hx, hb, hml, hown, htw⟩ hE hw hS mw1404 mw1405 mw129 mw1406 pdX10_in ⟨Nat.le_of_ble_eq_true rfl, Nat.le_of_ble_eq_true rfl⟩ rfl rfl hl.1 (Nat.le_of_ble_eq_true rfl) dX10_token_68 (fun H locs hw hS => ?_)
    refine lv_if_eq (tgt := 147) hx hb dX10_token_71 (by decide) (fun c32 => ?_) (fun c32 => ?_)
    · have hf := ifp c32 hf
      refine lv_iload_n hx hb dX10_token_147 rfl (lv_at hl 1 rfl) ?_
      refine lv_bipush (v := 48) hx hb dX10_token_148 (by decide) ?_
      refine lv_bipush (v := 57) hx hb dX10_token_150 (by decide) ?_
      obtain ⟨z27, hz27, hf⟩ := bd hf
      refine cl_Ss (rest := []) (kX10_in (l := l) (Γ := Γ) (A := A) (G := (ug G o r25)) hz27) ⟨hx, hb, hml, hown, htw⟩ hE hw hS mw1404 mw1405 mw129 mw1406 pdX10_in ⟨Nat.le_of_ble_eq_true rfl, Nat.le_of_ble_eq_true rfl⟩ rfl rfl hl.1 (Nat.le_of_ble_eq_true rfl) dX10_token_152 (fun H locs hw hS => ?_)
      refine lv_if_eq (tgt := 241) hx hb dX10_token_155 (by decide) (fun c31 => ?_) (fun c31 => ?_)
      · have hf := ifp c31 hf
        refine lv_aload_n hx hb dX10_token_241 rfl (lv_at hl 2 rfl) ?_
        refine lv_dup hx hb dX10_token_242 rfl ?_
        refine va_get (ci := 10) (v := .int (gi r25 10)) (C := RX10) (T := TX10) (N := 49) hx hb htw uwX10 hown hE.1 (wo_me hw hk) 0 rfl rfl 10 (by decide) (htw _ mw1253) (fun _ h9 => h9) rfl dX10_token_243 ?_
        refine lv_iconst (v := 1) hx hb dX10_token_246 (by decide) ?_
        refine lv_iadd hx hb dX10_token_247 ?_
        obtain ⟨r28, hr28, hf⟩ := bd hf
        have hr28 := Option.some.inj hr28
        refine wo_put (C := RX10) (T := TX10) (N := 49) (v := .int ((gi r25 10) + 1)) (ty := .int) hx hb htw uwX10 tyX10 tyX10_ok nmX10 hown hE hw hS hk rfl rfl 10 (by decide) (htw _ mw1253) (fun _ h9 => h9) rfl (tyX10_ok 10 (by decide)) rfl rfl (Nat.le_of_ble_eq_true rfl) (st10_10 hr28) dX10_token_248 (fun H locs hw hS => ?_)
        refine lv_aload_n hx hb dX10_token_251 rfl (lv_at hl 2 rfl) ?_
        refine lv_iload_n hx hb dX10_token_252 rfl (lv_at hl 1 rfl) ?_
        refine lv_bipush (v := 59) hx hb dX10_token_253 (by decide) ?_
        refine lv_icmp_ne (tgt := 262) hx hb dX10_token_255 (by decide) (fun c29 => ?_) (fun c29 => ?_)
        · have hf := ifn c29 hf
          refine lv_iconst (v := 1) hx hb dX10_token_262 (by decide) ?_
          exact wX10_token_263 C hk hf hq H locs ls hw hS (lv_sub hl [] rfl)
        · have hf := ifp c29 hf
          refine lv_iconst (v := 4) hx hb dX10_token_258 (by decide) ?_
          refine lv_goto (tgt := 263) hx hb dX10_token_259 (by decide) ?_
          exact wX10_token_263 C hk hf hq H locs ls hw hS (lv_sub hl [] rfl)
      · have hf := ifn c31 hf
        refine lv_aload_n hx hb dX10_token_158 rfl (lv_at hl 2 rfl) ?_
        refine lv_iconst (v := 0) hx hb dX10_token_159 (by decide) ?_
        obtain ⟨r30, hr30, hf⟩ := bd hf
        have hr30 := Option.some.inj hr30
        refine wo_put (C := RX10) (T := TX10) (N := 49) (v := .int 0) (ty := .int) hx hb htw uwX10 tyX10 tyX10_ok nmX10 hown hE hw hS hk rfl rfl 14 (by decide) (htw _ mw1257) (fun _ h9 => h9) rfl (tyX10_ok 14 (by decide)) rfl rfl (Nat.le_of_ble_eq_true rfl) (st10_14 hr30) dX10_token_160 (fun H locs hw hS => ?_)
        exact lwX10_token_163 C hk hf hq H locs ls hw hS (lv_sub hl [2, 0] rfl)
    · have hf := ifn c32 hf
      exact lwX10_token_74 C hk hf hq H locs ls hw hS (lv_sub hl [2, 0] rfl)
  · have hf := ifn c34 hf
    refine lv_aload_n hx hb dX10_token_55 rfl (lv_at hl 2 rfl) ?_
    refine lv_iconst (v := 0) hx hb dX10_token_56 (by decide) ?_
    obtain ⟨r33, hr33, hf⟩ := bd hf
    have hr33 := Option.some.inj hr33
    refine wo_put (C := RX10) (T := TX10) (N := 49) (v := .int 0) (ty := .int) hx hb htw uwX10 tyX10 tyX10_ok nmX10 hown hE hw hS hk rfl rfl 13 (by decide) (htw _ mw1256) (fun _ h9 => h9) rfl (tyX10_ok 13 (by decide)) rfl rfl (Nat.le_of_ble_eq_true rfl) (st10_13 hr33) dX10_token_57 (fun H locs hw hS => ?_)
    refine lv_goto (tgt := 266) hx hb dX10_token_60 (by decide) ?_
    obtain rfl := Option.some.inj hf
    subst hq
    exact rt_v C hw hS dX10_token_266

noncomputable def bX10_token_0 (r : Rec) : Option (Rec ⊕ Rec) :=
  (fX10_see r).bind fun z35 => if z35 = 10 then bX10_token_18 r else (fX10_see r).bind fun z36 => if z36 = 32 then bX10_token_18 r else out1 (bX10_token_31 r)
set_option maxRecDepth 100000 in
set_option maxHeartbeats 4000000 in
theorem wX10_token_0 {p : Program} {l : Launch} {e : Env} {s : State} {m : MethodId} {args : Array Value} {below : List Frame} {meth : Method} {c : Code} {Γ : Gm} {A : Nat → Prop} {G : Gs} {o : Nat} {r : Rec} {q : (Rec ⊕ Rec)} {fin : Rec} (C : Cx p s m args meth c yX10_token cX10_token 3 none Γ A) (hk : kd Γ o = some 10) (hf : bX10_token_0 r = some q) (hq : (KC (fun st : Rec => Wk p l e { frames := 1, cells := 0, slots := 0, locals := 22 } s m args below meth c Γ A (ug G o fin) none 0 3 [(0, .ref (ad Γ o))] [] (ug G o st)) (fun x => x = fin)) q) : Wk p l e { frames := 1, cells := 0, slots := 0, locals := 22 } s m args below meth c Γ A (ug G o fin) none 0 3 [(0, .ref (ad Γ o))] [] (ug G o r) := by
  intro H locs ls hw hS hl
  unfold bX10_token_0 at hf
  obtain ⟨hx, hb, hml, hr, hown, htw, hlocks, hE⟩ := id C
  have hown : s.vm.findClass RX10 = some m.cls := hown
  refine lv_aload_n hx hb dX10_token_0 rfl (lv_at hl 0 rfl) ?_
  obtain ⟨z35, hz35, hf⟩ := bd hf
  refine cl_Vs (rest := []) (kX10_see (l := l) (Γ := Γ) (A := A) (G := G) (o := o) hk hz35) ⟨hx, hb, hml, hown, htw⟩ hE hw hS (wo_me hw hk) (q0 := 0) rfl rfl mw1423 mw1425 mw44 mw129 mw1426 pdX10_see ⟨Nat.le_of_ble_eq_true rfl, Nat.le_of_ble_eq_true rfl⟩ rfl rfl hl.1 (Nat.le_of_ble_eq_true rfl) dX10_token_1 (fun H locs hw hS => ?_)
  refine lv_bipush (v := 10) hx hb dX10_token_4 (by decide) ?_
  refine lv_icmp_eq (tgt := 18) hx hb dX10_token_6 (by decide) (fun c39 => ?_) (fun c39 => ?_)
  · have hf := ifp c39 hf
    exact wX10_token_18 C hk hf hq H locs ls hw hS hl
  · have hf := ifn c39 hf
    refine lv_aload_n hx hb dX10_token_9 rfl (lv_at hl 0 rfl) ?_
    obtain ⟨z36, hz36, hf⟩ := bd hf
    refine cl_Vs (rest := []) (kX10_see (l := l) (Γ := Γ) (A := A) (G := G) (o := o) hk hz36) ⟨hx, hb, hml, hown, htw⟩ hE hw hS (wo_me hw hk) (q0 := 0) rfl rfl mw1423 mw1425 mw44 mw129 mw1426 pdX10_see ⟨Nat.le_of_ble_eq_true rfl, Nat.le_of_ble_eq_true rfl⟩ rfl rfl hl.1 (Nat.le_of_ble_eq_true rfl) dX10_token_10 (fun H locs hw hS => ?_)
    refine lv_bipush (v := 32) hx hb dX10_token_13 (by decide) ?_
    refine lv_icmp_ne (tgt := 31) hx hb dX10_token_15 (by decide) (fun c38 => ?_) (fun c38 => ?_)
    · have hf := ifn c38 hf
      obtain ⟨q37, hfq37, eq37⟩ := out1_some hf
      subst eq37
      have hf := hfq37
      have hq := hq.2 _ rfl
      exact wX10_token_31 C hk hf hq H locs ls hw hS hl
    · have hf := ifp c38 hf
      exact wX10_token_18 C hk hf hq H locs ls hw hS hl

set_option maxRecDepth 100000 in
set_option maxHeartbeats 4000000 in
theorem lwX10_token_0 {p : Program} {l : Launch} {e : Env} {s : State} {m : MethodId} {args : Array Value} {below : List Frame} {meth : Method} {c : Code} {Γ : Gm} {A : Nat → Prop} {G : Gs} {o : Nat} {r : Rec} {q : Rec} {fin : Rec} (C : Cx p s m args meth c yX10_token cX10_token 3 none Γ A) (hk : kd Γ o = some 10) (hf : iter (fun st : Rec => bX10_token_0 st) r = some q) (hq : (fun x => x = fin) q) : Wk p l e { frames := 1, cells := 0, slots := 0, locals := 22 } s m args below meth c Γ A (ug G o fin) none 0 3 [(0, .ref (ad Γ o))] [] (ug G o r) := by
  intro H locs ls hw hS hl
  refine iter_walk (P := (fun st : Rec => Wk p l e { frames := 1, cells := 0, slots := 0, locals := 22 } s m args below meth c Γ A (ug G o fin) none 0 3 [(0, .ref (ad Γ o))] [] (ug G o st))) (K := (fun x => x = fin)) (fun st q hq1 h1 h2 => ?_) hf hq H locs ls hw hS hl
  exact wX10_token_0 (r := st) C hk hq1 ⟨h1, h2⟩

noncomputable def fX10_token (r : Rec) : Option Rec :=
  iter (fun st : Rec => bX10_token_0 st) r
set_option maxRecDepth 100000 in
set_option maxHeartbeats 4000000 in
theorem wX10_token_e {p : Program} {l : Launch} {e : Env} {s : State} {m : MethodId} {args : Array Value} {below : List Frame} {meth : Method} {c : Code} {Γ : Gm} {A : Nat → Prop} {G : Gs} {o : Nat} {r : Rec} {q : Rec} {fin : Rec} (C : Cx p s m args meth c yX10_token cX10_token 3 none Γ A) (hk : kd Γ o = some 10) (hf : fX10_token r = some q) (hq : (fun x => x = fin) q) : Wk p l e { frames := 1, cells := 0, slots := 0, locals := 22 } s m args below meth c Γ A (ug G o fin) none 0 3 [(0, .ref (ad Γ o))] [] (ug G o r) := by
  intro H locs ls hw hS hl
  unfold fX10_token at hf
  obtain ⟨hx, hb, hml, hr, hown, htw, hlocks, hE⟩ := id C
  have hown : s.vm.findClass RX10 = some m.cls := hown
  exact lwX10_token_0 C hk hf hq H locs ls hw hS hl

theorem kX10_token {l : Launch} {Γ : Gm} {A : Nat → Prop} {G : Gs} {o : Nat} {r : Rec} {fin : Rec} (hk : kd Γ o = some 10) (hf : fX10_token r = some fin) : Kt l yX10_token cX10_token 3 none 1 22 Γ A (ug G o r) (ug G o fin) [.ref (ad Γ o)] none :=
  kt_of (by decide) (Nat.le_of_ble_eq_true rfl) (fun p e s m args below meth c C => wX10_token_e C hk hf rfl)
theorem kgX10_token {l : Launch} {Γ : Gm} {A : Nat → Prop} {G : Gs} {o : Nat} {fin : Rec} (hk : kd Γ o = some 10) (hf : fX10_token (G o) = some fin) : Kt l yX10_token cX10_token 3 none 1 22 Γ A G (ug G o fin) [.ref (ad Γ o)] none := by
  have h := kX10_token (l := l) (A := A) (G := G) (r := G o) hk hf
  rw [ug_self] at h
  exact h
noncomputable def fX10_fails (r : Rec) : Option (Rec × Int32) :=
  (some (si r 16 (gi r 12))).bind fun r1 => some ((r1, 0))
set_option maxRecDepth 100000 in
set_option maxHeartbeats 4000000 in
theorem wX10_fails_e {p : Program} {l : Launch} {e : Env} {s : State} {m : MethodId} {args : Array Value} {below : List Frame} {meth : Method} {c : Code} {Γ : Gm} {A : Nat → Prop} {G : Gs} {o : Nat} {r : Rec} {q : (Rec × Int32)} {fin : Rec × Int32} (C : Cx p s m args meth c yX10_fails cX10_fails 1 (some .boolean) Γ A) (hk : kd Γ o = some 10) (hf : fX10_fails r = some q) (hq : (fun x => x = fin) q) : Wk p l e { frames := 0, cells := 0, slots := 0, locals := 0 } s m args below meth c Γ A (ug G o fin.1) (some (.int fin.2)) 0 1 [(0, .ref (ad Γ o))] [] (ug G o r) := by
  intro H locs ls hw hS hl
  unfold fX10_fails at hf
  obtain ⟨hx, hb, hml, hr, hown, htw, hlocks, hE⟩ := id C
  have hown : s.vm.findClass RX10 = some m.cls := hown
  refine lv_aload_n hx hb dX10_fails_0 rfl (lv_at hl 0 rfl) ?_
  refine lv_aload_n hx hb dX10_fails_1 rfl (lv_at hl 0 rfl) ?_
  refine va_get (ci := 10) (v := .int (gi r 12)) (C := RX10) (T := TX10) (N := 49) hx hb htw uwX10 hown hE.1 (wo_me hw hk) 0 rfl rfl 12 (by decide) (htw _ mw1255) (fun _ h9 => h9) rfl dX10_fails_2 ?_
  obtain ⟨r1, hr1, hf⟩ := bd hf
  have hr1 := Option.some.inj hr1
  refine wo_put (C := RX10) (T := TX10) (N := 49) (v := .int (gi r 12)) (ty := .int) hx hb htw uwX10 tyX10 tyX10_ok nmX10 hown hE hw hS hk rfl rfl 16 (by decide) (htw _ mw1259) (fun _ h9 => h9) rfl (tyX10_ok 16 (by decide)) rfl rfl (Nat.le_of_ble_eq_true rfl) (st10_16 hr1) dX10_fails_5 (fun H locs hw hS => ?_)
  refine lv_iconst (v := 0) hx hb dX10_fails_8 (by decide) ?_
  obtain rfl := Option.some.inj hf
  subst hq
  exact rt_z C (Or.inl rfl) hw hS dX10_fails_9

theorem kX10_fails {l : Launch} {Γ : Gm} {A : Nat → Prop} {G : Gs} {o : Nat} {r : Rec} {fin : Rec × Int32} (hk : kd Γ o = some 10) (hf : fX10_fails r = some fin) : Kt l yX10_fails cX10_fails 1 (some .boolean) 0 0 Γ A (ug G o r) (ug G o fin.1) [.ref (ad Γ o)] (some (.int fin.2)) :=
  kt_of (by decide) (Nat.le_of_ble_eq_true rfl) (fun p e s m args below meth c C => wX10_fails_e C hk hf rfl)
theorem kgX10_fails {l : Launch} {Γ : Gm} {A : Nat → Prop} {G : Gs} {o : Nat} {fin : Rec × Int32} (hk : kd Γ o = some 10) (hf : fX10_fails (G o) = some fin) : Kt l yX10_fails cX10_fails 1 (some .boolean) 0 0 Γ A G (ug G o fin.1) [.ref (ad Γ o)] (some (.int fin.2)) := by
  have h := kX10_fails (l := l) (A := A) (G := G) (r := G o) hk hf
  rw [ug_self] at h
  exact h
noncomputable def bX10_later_31 (r : Rec) (v1 : Int32) (v2 : Int32) : Option Rec :=
  (some (si r 17 v1)).bind fun r1 => (some (si r1 18 v2)).bind fun r2 => some (r2)
set_option maxRecDepth 100000 in
set_option maxHeartbeats 4000000 in
theorem wX10_later_31 {p : Program} {l : Launch} {e : Env} {s : State} {m : MethodId} {args : Array Value} {below : List Frame} {meth : Method} {c : Code} {Γ : Gm} {A : Nat → Prop} {G : Gs} {o : Nat} {r : Rec} {v1 : Int32} {v2 : Int32} {q : Rec} {fin : Rec} (C : Cx p s m args meth c yX10_later cX10_later 3 none Γ A) (hk : kd Γ o = some 10) (hf : bX10_later_31 r v1 v2 = some q) (hq : (fun x => x = fin) q) : Wk p l e { frames := 0, cells := 0, slots := 0, locals := 0 } s m args below meth c Γ A (ug G o fin) none 31 3 [(0, .ref (ad Γ o)), (1, .int v1), (2, .int v2)] [] (ug G o r) := by
  intro H locs ls hw hS hl
  unfold bX10_later_31 at hf
  obtain ⟨hx, hb, hml, hr, hown, htw, hlocks, hE⟩ := id C
  have hown : s.vm.findClass RX10 = some m.cls := hown
  refine lv_aload_n hx hb dX10_later_31 rfl (lv_at hl 0 rfl) ?_
  refine lv_iload_n hx hb dX10_later_32 rfl (lv_at hl 1 rfl) ?_
  obtain ⟨r1, hr1, hf⟩ := bd hf
  have hr1 := Option.some.inj hr1
  refine wo_put (C := RX10) (T := TX10) (N := 49) (v := .int v1) (ty := .int) hx hb htw uwX10 tyX10 tyX10_ok nmX10 hown hE hw hS hk rfl rfl 17 (by decide) (htw _ mw1260) (fun _ h9 => h9) rfl (tyX10_ok 17 (by decide)) rfl rfl (Nat.le_of_ble_eq_true rfl) (st10_17 hr1) dX10_later_33 (fun H locs hw hS => ?_)
  refine lv_aload_n hx hb dX10_later_36 rfl (lv_at hl 0 rfl) ?_
  refine lv_iload_n hx hb dX10_later_37 rfl (lv_at hl 2 rfl) ?_
  obtain ⟨r2, hr2, hf⟩ := bd hf
  have hr2 := Option.some.inj hr2
  refine wo_put (C := RX10) (T := TX10) (N := 49) (v := .int v2) (ty := .int) hx hb htw uwX10 tyX10 tyX10_ok nmX10 hown hE hw hS hk rfl rfl 18 (by decide) (htw _ mw1261) (fun _ h9 => h9) rfl (tyX10_ok 18 (by decide)) rfl rfl (Nat.le_of_ble_eq_true rfl) (st10_18 hr2) dX10_later_38 (fun H locs hw hS => ?_)
  obtain rfl := Option.some.inj hf
  subst hq
  exact rt_v C hw hS dX10_later_41

noncomputable def fX10_later (r : Rec) (v1 : Int32) (v2 : Int32) : Option Rec :=
  if (gi r 17) = 0 then bX10_later_31 r v1 v2 else if v2 < (gi r 18) then bX10_later_31 r v1 v2 else if v2 = (gi r 18) then if (gi r 17) ≤ v1 then some (r) else bX10_later_31 r v1 v2 else some (r)
set_option maxRecDepth 100000 in
set_option maxHeartbeats 4000000 in
theorem wX10_later_e {p : Program} {l : Launch} {e : Env} {s : State} {m : MethodId} {args : Array Value} {below : List Frame} {meth : Method} {c : Code} {Γ : Gm} {A : Nat → Prop} {G : Gs} {o : Nat} {r : Rec} {v1 : Int32} {v2 : Int32} {q : Rec} {fin : Rec} (C : Cx p s m args meth c yX10_later cX10_later 3 none Γ A) (hk : kd Γ o = some 10) (hf : fX10_later r v1 v2 = some q) (hq : (fun x => x = fin) q) : Wk p l e { frames := 0, cells := 0, slots := 0, locals := 0 } s m args below meth c Γ A (ug G o fin) none 0 3 [(0, .ref (ad Γ o)), (1, .int v1), (2, .int v2)] [] (ug G o r) := by
  intro H locs ls hw hS hl
  unfold fX10_later at hf
  obtain ⟨hx, hb, hml, hr, hown, htw, hlocks, hE⟩ := id C
  have hown : s.vm.findClass RX10 = some m.cls := hown
  refine lv_aload_n hx hb dX10_later_0 rfl (lv_at hl 0 rfl) ?_
  refine va_get (ci := 10) (v := .int (gi r 17)) (C := RX10) (T := TX10) (N := 49) hx hb htw uwX10 hown hE.1 (wo_me hw hk) 0 rfl rfl 17 (by decide) (htw _ mw1260) (fun _ h9 => h9) rfl dX10_later_1 ?_
  refine lv_if_eq (tgt := 31) hx hb dX10_later_4 (by decide) (fun c6 => ?_) (fun c6 => ?_)
  · have hf := ifp c6 hf
    exact wX10_later_31 C hk hf hq H locs ls hw hS hl
  · have hf := ifn c6 hf
    refine lv_iload_n hx hb dX10_later_7 rfl (lv_at hl 2 rfl) ?_
    refine lv_aload_n hx hb dX10_later_8 rfl (lv_at hl 0 rfl) ?_
    refine va_get (ci := 10) (v := .int (gi r 18)) (C := RX10) (T := TX10) (N := 49) hx hb htw uwX10 hown hE.1 (wo_me hw hk) 0 rfl rfl 18 (by decide) (htw _ mw1261) (fun _ h9 => h9) rfl dX10_later_9 ?_
    refine lv_icmp_lt (tgt := 31) hx hb dX10_later_12 (by decide) (fun c5 => ?_) (fun c5 => ?_)
    · have hf := ifp c5 hf
      exact wX10_later_31 C hk hf hq H locs ls hw hS hl
    · have hf := ifn c5 hf
      refine lv_iload_n hx hb dX10_later_15 rfl (lv_at hl 2 rfl) ?_
      refine lv_aload_n hx hb dX10_later_16 rfl (lv_at hl 0 rfl) ?_
      refine va_get (ci := 10) (v := .int (gi r 18)) (C := RX10) (T := TX10) (N := 49) hx hb htw uwX10 hown hE.1 (wo_me hw hk) 0 rfl rfl 18 (by decide) (htw _ mw1261) (fun _ h9 => h9) rfl dX10_later_17 ?_
      refine lv_icmp_ne (tgt := 41) hx hb dX10_later_20 (by decide) (fun c4 => ?_) (fun c4 => ?_)
      · have hf := ifn c4 hf
        obtain rfl := Option.some.inj hf
        subst hq
        exact rt_v C hw hS dX10_later_41
      · have hf := ifp c4 hf
        refine lv_iload_n hx hb dX10_later_23 rfl (lv_at hl 1 rfl) ?_
        refine lv_aload_n hx hb dX10_later_24 rfl (lv_at hl 0 rfl) ?_
        refine va_get (ci := 10) (v := .int (gi r 17)) (C := RX10) (T := TX10) (N := 49) hx hb htw uwX10 hown hE.1 (wo_me hw hk) 0 rfl rfl 17 (by decide) (htw _ mw1260) (fun _ h9 => h9) rfl dX10_later_25 ?_
        refine lv_icmp_ge (tgt := 41) hx hb dX10_later_28 (by decide) (fun c3 => ?_) (fun c3 => ?_)
        · have hf := ifp c3 hf
          obtain rfl := Option.some.inj hf
          subst hq
          exact rt_v C hw hS dX10_later_41
        · have hf := ifn c3 hf
          exact wX10_later_31 C hk hf hq H locs ls hw hS hl

theorem kX10_later {l : Launch} {Γ : Gm} {A : Nat → Prop} {G : Gs} {o : Nat} {r : Rec} {v1 : Int32} {v2 : Int32} {fin : Rec} (hk : kd Γ o = some 10) (hf : fX10_later r v1 v2 = some fin) : Kt l yX10_later cX10_later 3 none 0 0 Γ A (ug G o r) (ug G o fin) [.ref (ad Γ o), .int v1, .int v2] none :=
  kt_of (by decide) (Nat.le_of_ble_eq_true rfl) (fun p e s m args below meth c C => wX10_later_e C hk hf rfl)
theorem kgX10_later {l : Launch} {Γ : Gm} {A : Nat → Prop} {G : Gs} {o : Nat} {v1 : Int32} {v2 : Int32} {fin : Rec} (hk : kd Γ o = some 10) (hf : fX10_later (G o) v1 v2 = some fin) : Kt l yX10_later cX10_later 3 none 0 0 Γ A G (ug G o fin) [.ref (ad Γ o), .int v1, .int v2] none := by
  have h := kX10_later (l := l) (A := A) (G := G) (r := G o) hk hf
  rw [ug_self] at h
  exact h
noncomputable def bX10_takeBut_67 (r : Rec) : Option (Rec × Int32) :=
  (fX10_token r).bind fun z1 => some ((z1, 1))
set_option maxRecDepth 100000 in
set_option maxHeartbeats 4000000 in
theorem wX10_takeBut_67 {p : Program} {l : Launch} {e : Env} {s : State} {m : MethodId} {args : Array Value} {below : List Frame} {meth : Method} {c : Code} {Γ : Gm} {A : Nat → Prop} {G : Gs} {o : Nat} {r : Rec} {q : (Rec × Int32)} {fin : Rec × Int32} (C : Cx p s m args meth c yX10_takeBut cX10_takeBut 6 (some .boolean) Γ A) (hk : kd Γ o = some 10) (hf : bX10_takeBut_67 r = some q) (hq : (fun x => x = fin) q) : Wk p l e { frames := 2, cells := 0, slots := 0, locals := 44 } s m args below meth c Γ A (ug G o fin.1) (some (.int fin.2)) 67 6 [(0, .ref (ad Γ o))] [] (ug G o r) := by
  intro H locs ls hw hS hl
  unfold bX10_takeBut_67 at hf
  obtain ⟨hx, hb, hml, hr, hown, htw, hlocks, hE⟩ := id C
  have hown : s.vm.findClass RX10 = some m.cls := hown
  refine lv_aload_n hx hb dX10_takeBut_67 rfl (lv_at hl 0 rfl) ?_
  obtain ⟨z1, hz1, hf⟩ := bd hf
  refine cl_Vv (rest := []) (kX10_token (l := l) (Γ := Γ) (A := A) (G := G) (o := o) hk hz1) ⟨hx, hb, hml, hown, htw⟩ hE hw hS (wo_me hw hk) (q0 := 0) rfl rfl mw1419 mw1421 mw43 mw129 mw1422 pdX10_token ⟨Nat.le_of_ble_eq_true rfl, Nat.le_of_ble_eq_true rfl⟩ rfl rfl hl.1 (Nat.le_of_ble_eq_true rfl) dX10_takeBut_68 (fun H locs hw hS => ?_)
  refine lv_iconst (v := 1) hx hb dX10_takeBut_71 (by decide) ?_
  obtain rfl := Option.some.inj hf
  subst hq
  exact rt_z C (Or.inr rfl) hw hS dX10_takeBut_72

noncomputable def bX10_takeBut_53 (r : Rec) : Option (Rec × Int32) :=
  (fX10_later r 2 (gi r 12)).bind fun z2 => (some (si z2 24 0)).bind fun r3 => bX10_takeBut_67 r3
set_option maxRecDepth 100000 in
set_option maxHeartbeats 4000000 in
theorem wX10_takeBut_53 {p : Program} {l : Launch} {e : Env} {s : State} {m : MethodId} {args : Array Value} {below : List Frame} {meth : Method} {c : Code} {Γ : Gm} {A : Nat → Prop} {G : Gs} {o : Nat} {r : Rec} {q : (Rec × Int32)} {fin : Rec × Int32} (C : Cx p s m args meth c yX10_takeBut cX10_takeBut 6 (some .boolean) Γ A) (hk : kd Γ o = some 10) (hf : bX10_takeBut_53 r = some q) (hq : (fun x => x = fin) q) : Wk p l e { frames := 2, cells := 0, slots := 0, locals := 44 } s m args below meth c Γ A (ug G o fin.1) (some (.int fin.2)) 53 6 [(0, .ref (ad Γ o))] [] (ug G o r) := by
  intro H locs ls hw hS hl
  unfold bX10_takeBut_53 at hf
  obtain ⟨hx, hb, hml, hr, hown, htw, hlocks, hE⟩ := id C
  have hown : s.vm.findClass RX10 = some m.cls := hown
  refine lv_aload_n hx hb dX10_takeBut_53 rfl (lv_at hl 0 rfl) ?_
  refine lv_iconst (v := 2) hx hb dX10_takeBut_54 (by decide) ?_
  refine lv_aload_n hx hb dX10_takeBut_55 rfl (lv_at hl 0 rfl) ?_
  refine va_get (ci := 10) (v := .int (gi r 12)) (C := RX10) (T := TX10) (N := 49) hx hb htw uwX10 hown hE.1 (wo_me hw hk) 0 rfl rfl 12 (by decide) (htw _ mw1255) (fun _ h9 => h9) rfl dX10_takeBut_56 ?_
  obtain ⟨z2, hz2, hf⟩ := bd hf
  refine cl_Vv (rest := []) (kX10_later (l := l) (Γ := Γ) (A := A) (G := G) (o := o) hk hz2) ⟨hx, hb, hml, hown, htw⟩ hE hw hS (wo_me hw hk) (q0 := 0) rfl rfl mw1451 mw1453 mw50 mw129 mw1454 pdX10_later ⟨Nat.le_of_ble_eq_true rfl, Nat.le_of_ble_eq_true rfl⟩ rfl rfl hl.1 (Nat.le_of_ble_eq_true rfl) dX10_takeBut_59 (fun H locs hw hS => ?_)
  refine lv_aload_n hx hb dX10_takeBut_62 rfl (lv_at hl 0 rfl) ?_
  refine lv_iconst (v := 0) hx hb dX10_takeBut_63 (by decide) ?_
  obtain ⟨r3, hr3, hf⟩ := bd hf
  have hr3 := Option.some.inj hr3
  refine wo_put (C := RX10) (T := TX10) (N := 49) (v := .int 0) (ty := .boolean) hx hb htw uwX10 tyX10 tyX10_ok nmX10 hown hE hw hS hk rfl rfl 24 (by decide) (htw _ mw1267) (fun _ h9 => h9) rfl (tyX10_ok 24 (by decide)) (by decide +kernel) (by decide +kernel) (Nat.le_of_ble_eq_true rfl) (st10_24 hr3) dX10_takeBut_64 (fun H locs hw hS => ?_)
  exact wX10_takeBut_67 C hk hf hq H locs ls hw hS hl

noncomputable def fX10_takeBut (r : Rec) (v1 : Int32) (v2 : Int32) (v3 : Int32) (v4 : Int32) (v5 : Int32) : Option (Rec × Int32) :=
  if (gi r 13) = 3 then gd (inR v1 4) ((some (sa r 20 (upd (ga r 20) (Int32.toNatClampNeg v1) (gi r 14)))).bind fun r5 => (fX10_in (gi r5 14) v2 v3).bind fun z6 => if z6 = 0 then bX10_takeBut_53 r5 else if (gi r5 14) = v4 then bX10_takeBut_53 r5 else if (gi r5 14) = v5 then bX10_takeBut_53 r5 else bX10_takeBut_67 r5) else (fX10_fails r).bind fun z10 => gd (isB z10.2) (some ((z10.1, z10.2)))
set_option maxRecDepth 100000 in
set_option maxHeartbeats 4000000 in
theorem wX10_takeBut_e {p : Program} {l : Launch} {e : Env} {s : State} {m : MethodId} {args : Array Value} {below : List Frame} {meth : Method} {c : Code} {Γ : Gm} {A : Nat → Prop} {G : Gs} {o : Nat} {r : Rec} {v1 : Int32} {v2 : Int32} {v3 : Int32} {v4 : Int32} {v5 : Int32} {q : (Rec × Int32)} {fin : Rec × Int32} (C : Cx p s m args meth c yX10_takeBut cX10_takeBut 6 (some .boolean) Γ A) (hk : kd Γ o = some 10) (hf : fX10_takeBut r v1 v2 v3 v4 v5 = some q) (hq : (fun x => x = fin) q) : Wk p l e { frames := 2, cells := 0, slots := 0, locals := 44 } s m args below meth c Γ A (ug G o fin.1) (some (.int fin.2)) 0 6 [(0, .ref (ad Γ o)), (1, .int v1), (2, .int v2), (3, .int v3), (4, .int v4), (5, .int v5)] [] (ug G o r) := by
  intro H locs ls hw hS hl
  unfold fX10_takeBut at hf
  obtain ⟨hx, hb, hml, hr, hown, htw, hlocks, hE⟩ := id C
  have hown : s.vm.findClass RX10 = some m.cls := hown
  refine lv_aload_n hx hb dX10_takeBut_0 rfl (lv_at hl 0 rfl) ?_
  refine va_get (ci := 10) (v := .int (gi r 13)) (C := RX10) (T := TX10) (N := 49) hx hb htw uwX10 hown hE.1 (wo_me hw hk) 0 rfl rfl 13 (by decide) (htw _ mw1256) (fun _ h9 => h9) rfl dX10_takeBut_1 ?_
  refine lv_iconst (v := 3) hx hb dX10_takeBut_4 (by decide) ?_
  refine lv_icmp_eq (tgt := 13) hx hb dX10_takeBut_5 (by decide) (fun c12 => ?_) (fun c12 => ?_)
  · have hf := ifp c12 hf
    refine lv_aload_n hx hb dX10_takeBut_13 rfl (lv_at hl 0 rfl) ?_
    refine va_get (ci := 10) (v := .ref (aa Γ o 20)) (C := RX10) (T := TX10) (N := 49) hx hb htw uwX10 hown hE.1 (wo_me hw hk) 0 rfl rfl 20 (by decide) (htw _ mw1263) (fun _ h9 => h9) rfl dX10_takeBut_14 ?_
    refine lv_iload_n hx hb dX10_takeBut_17 rfl (lv_at hl 1 rfl) ?_
    refine lv_aload_n hx hb dX10_takeBut_18 rfl (lv_at hl 0 rfl) ?_
    refine va_get (ci := 10) (v := .int (gi r 14)) (C := RX10) (T := TX10) (N := 49) hx hb htw uwX10 hown hE.1 (wo_me hw hk) 0 rfl rfl 14 (by decide) (htw _ mw1257) (fun _ h9 => h9) rfl dX10_takeBut_19 ?_
    obtain ⟨g4, hf⟩ := gd_some hf
    obtain ⟨r5, hr5, hf⟩ := bd hf
    have hr5 := Option.some.inj hr5
    refine wo_iast hx hb hE hw hS hk (q0 := 11) rfl (inR_in g4) (sa10_20 hr5) dX10_takeBut_22 (fun H locs hw hS => ?_)
    refine lv_aload_n hx hb dX10_takeBut_23 rfl (lv_at hl 0 rfl) ?_
    refine va_get (ci := 10) (v := .int (gi r5 14)) (C := RX10) (T := TX10) (N := 49) hx hb htw uwX10 hown hE.1 (wo_me hw hk) 0 rfl rfl 14 (by decide) (htw _ mw1257) (fun _ h9 => h9) rfl dX10_takeBut_24 ?_
    refine lv_iload_n hx hb dX10_takeBut_27 rfl (lv_at hl 2 rfl) ?_
    refine lv_iload_n hx hb dX10_takeBut_28 rfl (lv_at hl 3 rfl) ?_
    obtain ⟨z6, hz6, hf⟩ := bd hf
    refine cl_Ss (rest := []) (kX10_in (l := l) (Γ := Γ) (A := A) (G := (ug G o r5)) hz6) ⟨hx, hb, hml, hown, htw⟩ hE hw hS mw1404 mw1405 mw129 mw1406 pdX10_in ⟨Nat.le_of_ble_eq_true rfl, Nat.le_of_ble_eq_true rfl⟩ rfl rfl hl.1 (Nat.le_of_ble_eq_true rfl) dX10_takeBut_29 (fun H locs hw hS => ?_)
    refine lv_if_eq (tgt := 53) hx hb dX10_takeBut_32 (by decide) (fun c9 => ?_) (fun c9 => ?_)
    · have hf := ifp c9 hf
      exact wX10_takeBut_53 C hk hf hq H locs ls hw hS (lv_sub hl [0] rfl)
    · have hf := ifn c9 hf
      refine lv_aload_n hx hb dX10_takeBut_35 rfl (lv_at hl 0 rfl) ?_
      refine va_get (ci := 10) (v := .int (gi r5 14)) (C := RX10) (T := TX10) (N := 49) hx hb htw uwX10 hown hE.1 (wo_me hw hk) 0 rfl rfl 14 (by decide) (htw _ mw1257) (fun _ h9 => h9) rfl dX10_takeBut_36 ?_
      refine lv_iload hx hb dX10_takeBut_39 (lv_at hl 4 rfl) ?_
      refine lv_icmp_eq (tgt := 53) hx hb dX10_takeBut_41 (by decide) (fun c8 => ?_) (fun c8 => ?_)
      · have hf := ifp c8 hf
        exact wX10_takeBut_53 C hk hf hq H locs ls hw hS (lv_sub hl [0] rfl)
      · have hf := ifn c8 hf
        refine lv_aload_n hx hb dX10_takeBut_44 rfl (lv_at hl 0 rfl) ?_
        refine va_get (ci := 10) (v := .int (gi r5 14)) (C := RX10) (T := TX10) (N := 49) hx hb htw uwX10 hown hE.1 (wo_me hw hk) 0 rfl rfl 14 (by decide) (htw _ mw1257) (fun _ h9 => h9) rfl dX10_takeBut_45 ?_
        refine lv_iload hx hb dX10_takeBut_48 (lv_at hl 5 rfl) ?_
        refine lv_icmp_ne (tgt := 67) hx hb dX10_takeBut_50 (by decide) (fun c7 => ?_) (fun c7 => ?_)
        · have hf := ifn c7 hf
          exact wX10_takeBut_67 C hk hf hq H locs ls hw hS (lv_sub hl [0] rfl)
        · have hf := ifp c7 hf
          exact wX10_takeBut_53 C hk hf hq H locs ls hw hS (lv_sub hl [0] rfl)
  · have hf := ifn c12 hf
    refine lv_aload_n hx hb dX10_takeBut_8 rfl (lv_at hl 0 rfl) ?_
    obtain ⟨z10, hz10, hf⟩ := bd hf
    refine cl_Vs (rest := []) (kX10_fails (l := l) (Γ := Γ) (A := A) (G := G) (o := o) hk hz10) ⟨hx, hb, hml, hown, htw⟩ hE hw hS (wo_me hw hk) (q0 := 0) rfl rfl mw1443 mw1445 mw48 mw129 mw1446 pdX10_fails ⟨Nat.le_of_ble_eq_true rfl, Nat.le_of_ble_eq_true rfl⟩ rfl rfl hl.1 (Nat.le_of_ble_eq_true rfl) dX10_takeBut_9 (fun H locs hw hS => ?_)
    obtain ⟨g11, hf⟩ := gd_some hf
    obtain rfl := Option.some.inj hf
    subst hq
    exact rt_z C (isB_or g11) hw hS dX10_takeBut_12

theorem kX10_takeBut {l : Launch} {Γ : Gm} {A : Nat → Prop} {G : Gs} {o : Nat} {r : Rec} {v1 : Int32} {v2 : Int32} {v3 : Int32} {v4 : Int32} {v5 : Int32} {fin : Rec × Int32} (hk : kd Γ o = some 10) (hf : fX10_takeBut r v1 v2 v3 v4 v5 = some fin) : Kt l yX10_takeBut cX10_takeBut 6 (some .boolean) 2 44 Γ A (ug G o r) (ug G o fin.1) [.ref (ad Γ o), .int v1, .int v2, .int v3, .int v4, .int v5] (some (.int fin.2)) :=
  kt_of (by decide) (Nat.le_of_ble_eq_true rfl) (fun p e s m args below meth c C => wX10_takeBut_e C hk hf rfl)
theorem kgX10_takeBut {l : Launch} {Γ : Gm} {A : Nat → Prop} {G : Gs} {o : Nat} {v1 : Int32} {v2 : Int32} {v3 : Int32} {v4 : Int32} {v5 : Int32} {fin : Rec × Int32} (hk : kd Γ o = some 10) (hf : fX10_takeBut (G o) v1 v2 v3 v4 v5 = some fin) : Kt l yX10_takeBut cX10_takeBut 6 (some .boolean) 2 44 Γ A G (ug G o fin.1) [.ref (ad Γ o), .int v1, .int v2, .int v3, .int v4, .int v5] (some (.int fin.2)) := by
  have h := kX10_takeBut (l := l) (A := A) (G := G) (r := G o) hk hf
  rw [ug_self] at h
  exact h
noncomputable def fX10_take (r : Rec) (v1 : Int32) (v2 : Int32) (v3 : Int32) : Option (Rec × Int32) :=
  (fX10_takeBut r v1 v2 v3 (-1) (-1)).bind fun z1 => gd (isB z1.2) (some ((z1.1, z1.2)))
set_option maxRecDepth 100000 in
set_option maxHeartbeats 4000000 in
theorem wX10_take_e {p : Program} {l : Launch} {e : Env} {s : State} {m : MethodId} {args : Array Value} {below : List Frame} {meth : Method} {c : Code} {Γ : Gm} {A : Nat → Prop} {G : Gs} {o : Nat} {r : Rec} {v1 : Int32} {v2 : Int32} {v3 : Int32} {q : (Rec × Int32)} {fin : Rec × Int32} (C : Cx p s m args meth c yX10_take cX10_take 4 (some .boolean) Γ A) (hk : kd Γ o = some 10) (hf : fX10_take r v1 v2 v3 = some q) (hq : (fun x => x = fin) q) : Wk p l e { frames := 3, cells := 0, slots := 0, locals := 69 } s m args below meth c Γ A (ug G o fin.1) (some (.int fin.2)) 0 4 [(0, .ref (ad Γ o)), (1, .int v1), (2, .int v2), (3, .int v3)] [] (ug G o r) := by
  intro H locs ls hw hS hl
  unfold fX10_take at hf
  obtain ⟨hx, hb, hml, hr, hown, htw, hlocks, hE⟩ := id C
  have hown : s.vm.findClass RX10 = some m.cls := hown
  refine lv_aload_n hx hb dX10_take_0 rfl (lv_at hl 0 rfl) ?_
  refine lv_iload_n hx hb dX10_take_1 rfl (lv_at hl 1 rfl) ?_
  refine lv_iload_n hx hb dX10_take_2 rfl (lv_at hl 2 rfl) ?_
  refine lv_iload_n hx hb dX10_take_3 rfl (lv_at hl 3 rfl) ?_
  refine lv_iconst (v := (-1)) hx hb dX10_take_4 (by decide) ?_
  refine lv_iconst (v := (-1)) hx hb dX10_take_5 (by decide) ?_
  obtain ⟨z1, hz1, hf⟩ := bd hf
  refine cl_Vs (rest := []) (kX10_takeBut (l := l) (Γ := Γ) (A := A) (G := G) (o := o) hk hz1) ⟨hx, hb, hml, hown, htw⟩ hE hw hS (wo_me hw hk) (q0 := 0) rfl rfl mw1463 mw1465 mw53 mw129 mw1466 pdX10_takeBut ⟨Nat.le_of_ble_eq_true rfl, Nat.le_of_ble_eq_true rfl⟩ rfl rfl hl.1 (Nat.le_of_ble_eq_true rfl) dX10_take_6 (fun H locs hw hS => ?_)
  obtain ⟨g2, hf⟩ := gd_some hf
  obtain rfl := Option.some.inj hf
  subst hq
  exact rt_z C (isB_or g2) hw hS dX10_take_9

theorem kX10_take {l : Launch} {Γ : Gm} {A : Nat → Prop} {G : Gs} {o : Nat} {r : Rec} {v1 : Int32} {v2 : Int32} {v3 : Int32} {fin : Rec × Int32} (hk : kd Γ o = some 10) (hf : fX10_take r v1 v2 v3 = some fin) : Kt l yX10_take cX10_take 4 (some .boolean) 3 69 Γ A (ug G o r) (ug G o fin.1) [.ref (ad Γ o), .int v1, .int v2, .int v3] (some (.int fin.2)) :=
  kt_of (by decide) (Nat.le_of_ble_eq_true rfl) (fun p e s m args below meth c C => wX10_take_e C hk hf rfl)
theorem kgX10_take {l : Launch} {Γ : Gm} {A : Nat → Prop} {G : Gs} {o : Nat} {v1 : Int32} {v2 : Int32} {v3 : Int32} {fin : Rec × Int32} (hk : kd Γ o = some 10) (hf : fX10_take (G o) v1 v2 v3 = some fin) : Kt l yX10_take cX10_take 4 (some .boolean) 3 69 Γ A G (ug G o fin.1) [.ref (ad Γ o), .int v1, .int v2, .int v3] (some (.int fin.2)) := by
  have h := kX10_take (l := l) (A := A) (G := G) (r := G o) hk hf
  rw [ug_self] at h
  exact h
noncomputable def fX10_takePiece (r : Rec) (v1 : Int32) (v2 : Int32) : Option (Rec × Int32) :=
  (fX10_takeBut r v1 0 7 v2 (-1)).bind fun z1 => if z1.2 = 0 then some ((z1.1, 0)) else gd (inR v1 4) ((fX10_greater (gi z1.1 21) (ga z1.1 20 (Int32.toNatClampNeg v1))).bind fun z3 => (some (si z1.1 21 z3)).bind fun r4 => some ((r4, 1)))
set_option maxRecDepth 100000 in
set_option maxHeartbeats 4000000 in
theorem wX10_takePiece_e {p : Program} {l : Launch} {e : Env} {s : State} {m : MethodId} {args : Array Value} {below : List Frame} {meth : Method} {c : Code} {Γ : Gm} {A : Nat → Prop} {G : Gs} {o : Nat} {r : Rec} {v1 : Int32} {v2 : Int32} {q : (Rec × Int32)} {fin : Rec × Int32} (C : Cx p s m args meth c yX10_takePiece cX10_takePiece 3 (some .boolean) Γ A) (hk : kd Γ o = some 10) (hf : fX10_takePiece r v1 v2 = some q) (hq : (fun x => x = fin) q) : Wk p l e { frames := 3, cells := 0, slots := 0, locals := 69 } s m args below meth c Γ A (ug G o fin.1) (some (.int fin.2)) 0 3 [(0, .ref (ad Γ o)), (1, .int v1), (2, .int v2)] [] (ug G o r) := by
  intro H locs ls hw hS hl
  unfold fX10_takePiece at hf
  obtain ⟨hx, hb, hml, hr, hown, htw, hlocks, hE⟩ := id C
  have hown : s.vm.findClass RX10 = some m.cls := hown
  refine lv_aload_n hx hb dX10_takePiece_0 rfl (lv_at hl 0 rfl) ?_
  refine lv_iload_n hx hb dX10_takePiece_1 rfl (lv_at hl 1 rfl) ?_
  refine lv_iconst (v := 0) hx hb dX10_takePiece_2 (by decide) ?_
  refine lv_bipush (v := 7) hx hb dX10_takePiece_3 (by decide) ?_
  refine lv_iload_n hx hb dX10_takePiece_5 rfl (lv_at hl 2 rfl) ?_
  refine lv_iconst (v := (-1)) hx hb dX10_takePiece_6 (by decide) ?_
  obtain ⟨z1, hz1, hf⟩ := bd hf
  refine cl_Vs (rest := []) (kX10_takeBut (l := l) (Γ := Γ) (A := A) (G := G) (o := o) hk hz1) ⟨hx, hb, hml, hown, htw⟩ hE hw hS (wo_me hw hk) (q0 := 0) rfl rfl mw1463 mw1465 mw53 mw129 mw1466 pdX10_takeBut ⟨Nat.le_of_ble_eq_true rfl, Nat.le_of_ble_eq_true rfl⟩ rfl rfl hl.1 (Nat.le_of_ble_eq_true rfl) dX10_takePiece_7 (fun H locs hw hS => ?_)
  refine lv_if_ne (tgt := 15) hx hb dX10_takePiece_10 (by decide) (fun c5 => ?_) (fun c5 => ?_)
  · have hf := ifn c5 hf
    refine lv_aload_n hx hb dX10_takePiece_15 rfl (lv_at hl 0 rfl) ?_
    refine lv_aload_n hx hb dX10_takePiece_16 rfl (lv_at hl 0 rfl) ?_
    refine va_get (ci := 10) (v := .int (gi z1.1 21)) (C := RX10) (T := TX10) (N := 49) hx hb htw uwX10 hown hE.1 (wo_me hw hk) 0 rfl rfl 21 (by decide) (htw _ mw1264) (fun _ h9 => h9) rfl dX10_takePiece_17 ?_
    refine lv_aload_n hx hb dX10_takePiece_20 rfl (lv_at hl 0 rfl) ?_
    refine va_get (ci := 10) (v := .ref (aa Γ o 20)) (C := RX10) (T := TX10) (N := 49) hx hb htw uwX10 hown hE.1 (wo_me hw hk) 0 rfl rfl 20 (by decide) (htw _ mw1263) (fun _ h9 => h9) rfl dX10_takePiece_21 ?_
    refine lv_iload_n hx hb dX10_takePiece_24 rfl (lv_at hl 1 rfl) ?_
    obtain ⟨g2, hf⟩ := gd_some hf
    refine va_iald hx hb hE.1 (wo_me hw hk) 11 0 rfl rfl (inR_in g2) dX10_takePiece_25 ?_
    obtain ⟨z3, hz3, hf⟩ := bd hf
    refine cl_Ss (rest := [.ref (ad Γ o)]) (kX10_greater (l := l) (Γ := Γ) (A := A) (G := (ug G o z1.1)) hz3) ⟨hx, hb, hml, hown, htw⟩ hE hw hS mw1467 mw1468 mw129 mw1469 pdX10_greater ⟨Nat.le_of_ble_eq_true rfl, Nat.le_of_ble_eq_true rfl⟩ rfl rfl hl.1 (Nat.le_of_ble_eq_true rfl) dX10_takePiece_26 (fun H locs hw hS => ?_)
    obtain ⟨r4, hr4, hf⟩ := bd hf
    have hr4 := Option.some.inj hr4
    refine wo_put (C := RX10) (T := TX10) (N := 49) (v := .int z3) (ty := .int) hx hb htw uwX10 tyX10 tyX10_ok nmX10 hown hE hw hS hk rfl rfl 21 (by decide) (htw _ mw1264) (fun _ h9 => h9) rfl (tyX10_ok 21 (by decide)) rfl rfl (Nat.le_of_ble_eq_true rfl) (st10_21 hr4) dX10_takePiece_29 (fun H locs hw hS => ?_)
    refine lv_iconst (v := 1) hx hb dX10_takePiece_32 (by decide) ?_
    obtain rfl := Option.some.inj hf
    subst hq
    exact rt_z C (Or.inr rfl) hw hS dX10_takePiece_33
  · have hf := ifp c5 hf
    refine lv_iconst (v := 0) hx hb dX10_takePiece_13 (by decide) ?_
    obtain rfl := Option.some.inj hf
    subst hq
    exact rt_z C (Or.inl rfl) hw hS dX10_takePiece_14

theorem kX10_takePiece {l : Launch} {Γ : Gm} {A : Nat → Prop} {G : Gs} {o : Nat} {r : Rec} {v1 : Int32} {v2 : Int32} {fin : Rec × Int32} (hk : kd Γ o = some 10) (hf : fX10_takePiece r v1 v2 = some fin) : Kt l yX10_takePiece cX10_takePiece 3 (some .boolean) 3 69 Γ A (ug G o r) (ug G o fin.1) [.ref (ad Γ o), .int v1, .int v2] (some (.int fin.2)) :=
  kt_of (by decide) (Nat.le_of_ble_eq_true rfl) (fun p e s m args below meth c C => wX10_takePiece_e C hk hf rfl)
theorem kgX10_takePiece {l : Launch} {Γ : Gm} {A : Nat → Prop} {G : Gs} {o : Nat} {v1 : Int32} {v2 : Int32} {fin : Rec × Int32} (hk : kd Γ o = some 10) (hf : fX10_takePiece (G o) v1 v2 = some fin) : Kt l yX10_takePiece cX10_takePiece 3 (some .boolean) 3 69 Γ A G (ug G o fin.1) [.ref (ad Γ o), .int v1, .int v2] (some (.int fin.2)) := by
  have h := kX10_takePiece (l := l) (A := A) (G := G) (r := G o) hk hf
  rw [ug_self] at h
  exact h
noncomputable def fX10_takeSecret (r : Rec) (v1 : Int32) (v2 : Int32) (v3 : Int32) : Option (Rec × Int32) :=
  (fX10_takeBut r v1 0 9 v2 v3).bind fun z1 => if z1.2 = 0 then some ((z1.1, 0)) else gd (inR v1 4) ((fX10_greater (gi z1.1 22) (ga z1.1 20 (Int32.toNatClampNeg v1))).bind fun z3 => (some (si z1.1 22 z3)).bind fun r4 => some ((r4, 1)))
set_option maxRecDepth 100000 in
set_option maxHeartbeats 4000000 in
theorem wX10_takeSecret_e {p : Program} {l : Launch} {e : Env} {s : State} {m : MethodId} {args : Array Value} {below : List Frame} {meth : Method} {c : Code} {Γ : Gm} {A : Nat → Prop} {G : Gs} {o : Nat} {r : Rec} {v1 : Int32} {v2 : Int32} {v3 : Int32} {q : (Rec × Int32)} {fin : Rec × Int32} (C : Cx p s m args meth c yX10_takeSecret cX10_takeSecret 4 (some .boolean) Γ A) (hk : kd Γ o = some 10) (hf : fX10_takeSecret r v1 v2 v3 = some q) (hq : (fun x => x = fin) q) : Wk p l e { frames := 3, cells := 0, slots := 0, locals := 69 } s m args below meth c Γ A (ug G o fin.1) (some (.int fin.2)) 0 4 [(0, .ref (ad Γ o)), (1, .int v1), (2, .int v2), (3, .int v3)] [] (ug G o r) := by
  intro H locs ls hw hS hl
  unfold fX10_takeSecret at hf
  obtain ⟨hx, hb, hml, hr, hown, htw, hlocks, hE⟩ := id C
  have hown : s.vm.findClass RX10 = some m.cls := hown
  refine lv_aload_n hx hb dX10_takeSecret_0 rfl (lv_at hl 0 rfl) ?_
  refine lv_iload_n hx hb dX10_takeSecret_1 rfl (lv_at hl 1 rfl) ?_
  refine lv_iconst (v := 0) hx hb dX10_takeSecret_2 (by decide) ?_
  refine lv_bipush (v := 9) hx hb dX10_takeSecret_3 (by decide) ?_
  refine lv_iload_n hx hb dX10_takeSecret_5 rfl (lv_at hl 2 rfl) ?_
  refine lv_iload_n hx hb dX10_takeSecret_6 rfl (lv_at hl 3 rfl) ?_
  obtain ⟨z1, hz1, hf⟩ := bd hf
  refine cl_Vs (rest := []) (kX10_takeBut (l := l) (Γ := Γ) (A := A) (G := G) (o := o) hk hz1) ⟨hx, hb, hml, hown, htw⟩ hE hw hS (wo_me hw hk) (q0 := 0) rfl rfl mw1463 mw1465 mw53 mw129 mw1466 pdX10_takeBut ⟨Nat.le_of_ble_eq_true rfl, Nat.le_of_ble_eq_true rfl⟩ rfl rfl hl.1 (Nat.le_of_ble_eq_true rfl) dX10_takeSecret_7 (fun H locs hw hS => ?_)
  refine lv_if_ne (tgt := 15) hx hb dX10_takeSecret_10 (by decide) (fun c5 => ?_) (fun c5 => ?_)
  · have hf := ifn c5 hf
    refine lv_aload_n hx hb dX10_takeSecret_15 rfl (lv_at hl 0 rfl) ?_
    refine lv_aload_n hx hb dX10_takeSecret_16 rfl (lv_at hl 0 rfl) ?_
    refine va_get (ci := 10) (v := .int (gi z1.1 22)) (C := RX10) (T := TX10) (N := 49) hx hb htw uwX10 hown hE.1 (wo_me hw hk) 0 rfl rfl 22 (by decide) (htw _ mw1265) (fun _ h9 => h9) rfl dX10_takeSecret_17 ?_
    refine lv_aload_n hx hb dX10_takeSecret_20 rfl (lv_at hl 0 rfl) ?_
    refine va_get (ci := 10) (v := .ref (aa Γ o 20)) (C := RX10) (T := TX10) (N := 49) hx hb htw uwX10 hown hE.1 (wo_me hw hk) 0 rfl rfl 20 (by decide) (htw _ mw1263) (fun _ h9 => h9) rfl dX10_takeSecret_21 ?_
    refine lv_iload_n hx hb dX10_takeSecret_24 rfl (lv_at hl 1 rfl) ?_
    obtain ⟨g2, hf⟩ := gd_some hf
    refine va_iald hx hb hE.1 (wo_me hw hk) 11 0 rfl rfl (inR_in g2) dX10_takeSecret_25 ?_
    obtain ⟨z3, hz3, hf⟩ := bd hf
    refine cl_Ss (rest := [.ref (ad Γ o)]) (kX10_greater (l := l) (Γ := Γ) (A := A) (G := (ug G o z1.1)) hz3) ⟨hx, hb, hml, hown, htw⟩ hE hw hS mw1467 mw1468 mw129 mw1469 pdX10_greater ⟨Nat.le_of_ble_eq_true rfl, Nat.le_of_ble_eq_true rfl⟩ rfl rfl hl.1 (Nat.le_of_ble_eq_true rfl) dX10_takeSecret_26 (fun H locs hw hS => ?_)
    obtain ⟨r4, hr4, hf⟩ := bd hf
    have hr4 := Option.some.inj hr4
    refine wo_put (C := RX10) (T := TX10) (N := 49) (v := .int z3) (ty := .int) hx hb htw uwX10 tyX10 tyX10_ok nmX10 hown hE hw hS hk rfl rfl 22 (by decide) (htw _ mw1265) (fun _ h9 => h9) rfl (tyX10_ok 22 (by decide)) rfl rfl (Nat.le_of_ble_eq_true rfl) (st10_22 hr4) dX10_takeSecret_29 (fun H locs hw hS => ?_)
    refine lv_iconst (v := 1) hx hb dX10_takeSecret_32 (by decide) ?_
    obtain rfl := Option.some.inj hf
    subst hq
    exact rt_z C (Or.inr rfl) hw hS dX10_takeSecret_33
  · have hf := ifp c5 hf
    refine lv_iconst (v := 0) hx hb dX10_takeSecret_13 (by decide) ?_
    obtain rfl := Option.some.inj hf
    subst hq
    exact rt_z C (Or.inl rfl) hw hS dX10_takeSecret_14

theorem kX10_takeSecret {l : Launch} {Γ : Gm} {A : Nat → Prop} {G : Gs} {o : Nat} {r : Rec} {v1 : Int32} {v2 : Int32} {v3 : Int32} {fin : Rec × Int32} (hk : kd Γ o = some 10) (hf : fX10_takeSecret r v1 v2 v3 = some fin) : Kt l yX10_takeSecret cX10_takeSecret 4 (some .boolean) 3 69 Γ A (ug G o r) (ug G o fin.1) [.ref (ad Γ o), .int v1, .int v2, .int v3] (some (.int fin.2)) :=
  kt_of (by decide) (Nat.le_of_ble_eq_true rfl) (fun p e s m args below meth c C => wX10_takeSecret_e C hk hf rfl)
theorem kgX10_takeSecret {l : Launch} {Γ : Gm} {A : Nat → Prop} {G : Gs} {o : Nat} {v1 : Int32} {v2 : Int32} {v3 : Int32} {fin : Rec × Int32} (hk : kd Γ o = some 10) (hf : fX10_takeSecret (G o) v1 v2 v3 = some fin) : Kt l yX10_takeSecret cX10_takeSecret 4 (some .boolean) 3 69 Γ A G (ug G o fin.1) [.ref (ad Γ o), .int v1, .int v2, .int v3] (some (.int fin.2)) := by
  have h := kX10_takeSecret (l := l) (A := A) (G := G) (r := G o) hk hf
  rw [ug_self] at h
  exact h
