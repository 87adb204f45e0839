def Xt (Γ Γ' : Gm) : Prop := dd Γ' = dd Γ ∧ ac Γ' = ac Γ ∧ Γ'.2.2.2.2.2 = Γ.2.2.2.2.2 ∧ ad Γ' 901 = ad Γ 901 ∧ ad Γ' 1001 = ad Γ 1001
theorem Xt.rf (Γ : Gm) : Xt Γ Γ := ⟨rfl, rfl, rfl, rfl, rfl⟩
theorem Ev.xt {Γ Γ' : Gm} {A : Nat → Prop} {s : State} (h : Ev Γ A s) (hx : Xt Γ Γ') (hap : Ap Γ' A) (hwf : WF Γ') : Ev Γ' A s := by
  obtain ⟨D, ad1, aa1, ac1, kd1, st1⟩ := Γ
  obtain ⟨D', ad2, aa2, ac2, kd2, st2⟩ := Γ'
  obtain ⟨e1, e2, e3, -, -⟩ := hx
  have f1 : D' = D := e1
  have f2 : ac2 = ac1 := e2
  have f3 : st2 = st1 := e3
  clear e1 e2 e3
  subst f1
  subst f2
  subst f3
  exact ⟨h.1, hap, h.2.2.1, hwf, h.2.2.2.2⟩
noncomputable def imgPre (g : Gs) (v1 : Int32) : Gs := if v1 < 0 then g else if v1 < 3 then (if gr (g 901) v1.toNatClampNeg = 0 then ug (nT g v1.toNatClampNeg) 901 (sr (g 901) v1.toNatClampNeg (801 + v1.toNatClampNeg)) else g) else g
noncomputable def fX9_image (g : Gs) (v1 : Int32) : Option (Gs × Int32) := if v1 < 0 then some (g, 0) else if v1 < 3 then (fX8_copyFrom (imgPre g v1) (801 + v1.toNatClampNeg) 800).bind (fun g2 => some (g2, 1)) else some (g, 0)
noncomputable def fX9_again (g : Gs) (v1 : Int32) : Option (Gs × Int32) := if v1 < 0 then some (g, 0) else if 3 ≤ v1 then some (g, 0) else if gr (g 901) v1.toNatClampNeg = 0 then some (g, 0) else (fX8_copyFrom g 800 (801 + v1.toNatClampNeg)).bind (fun g2 => some (g2, 1))
theorem i3_in {v : Int32} (h0 : ¬ v < 0) (h3 : v < 3) : v = 0 ∨ v = 1 ∨ v = 2 := by
  have a : ¬ v.toInt < 0 := fun h => h0 (Int32.lt_iff_toInt_lt.mpr (by simpa using h))
  have b : v.toInt < 3 := by simpa using Int32.lt_iff_toInt_lt.mp h3
  have c : v.toInt = 0 ∨ v.toInt = 1 ∨ v.toInt = 2 := by omega
  rcases c with c | c | c
  · exact Or.inl (Int32.toInt_inj.mp (c.trans (by decide)))
  · exact Or.inr (Or.inl (Int32.toInt_inj.mp (c.trans (by decide))))
  · exact Or.inr (Or.inr (Int32.toInt_inj.mp (c.trans (by decide))))
section IMG
variable {p : Program} {l : Launch} {e : Env} {R : Room} {s : State} {m : MethodId} {args : Array Value} {below : List Frame} {meth : Method} {c : Code} {H : Heap} {locs : List Loc} {cells slots : Nat} {Q : State → Prop}
variable {cc : ByteArray} {pc : Nat} {ls : Array Slot} {rest : List Value} {Γ : Gm} {A : Nat → Prop} {a : Nat} {H0 : Heap} {G G' g g' : Gs} {r r' : Rec} {o ci : Nat}
/-- a call in a method that has made cells -/
theorem cl_VL {y : MethodName} {cy : ByteArray} {nL nL' n index F L ci : Nat} {ret : Option FieldType} {rv : Option Value} {own C : String} {As : List Value} {st0 : List Value} {T : u_T} {N : Nat} {q0 : Nat} {fs : List Value} {ws : va_W} (hM : Kt l y cy nL' ret F L Γ A G G' (.ref a :: As) rv) (S : CallFix p m c cc nL s args WS own) (hE : Ev Γ A s) (hw : Wo Γ G H) (hS : va_S A s.heap H locs) (hP : va_P (dd Γ) vwCl ws H) (he : ws[q0]? = some (a, .inr (ci, fs))) (hc : vwCl[ci]? = some (C, T, N))
    (w1 : (Cond.methodLink own index y).before args s = true) (w2 : Cond.instanceMethod y ∈ WS) (w3 : Cond.selects C y y ∈ WS) (w5 : Cond.initialized y.cls ∈ WS) (w4 : Cond.code y cy nL' ret ∈ WS) (hd : y.cls ≠ "java/lang/invoke/MethodHandle" ∧ y.cls ≠ "java/lang/invoke/VarHandle" ∧ (parseMethodDescriptor y.desc).map (fun d => d.parameters.length) = some n) (hR : F + 1 ≤ R.frames ∧ 8 + (nL' + 11) + L ≤ R.locals)
    (hst : st0 = As.reverse ++ .ref a :: rest) (hn : As.length = n) (hsize : ls.size = nL) (hroom : (rest.map fun v => v.category).sum ≤ 8) (hdg : decode cc pc = .ok (.invokevirtual index, 3)) (hcs : cells ≤ R.cells ∧ slots ≤ R.slots)
    (kk : ∀ (H1 : Heap) (locs1 : List Loc), Wo Γ G' H1 → va_S A s.heap H1 locs1 → W p l e R s m args below meth c H1 locs1 cells slots Q (F0 m (pc + 3) ls (rv.toList ++ rest))) : W p l e R s m args below meth c H locs cells slots Q (F0 m pc ls st0) := by
  have hr := va_runV (cells := cells) (slots := slots) (e := e) (below := below) (meth := meth) (locs := locs) (g := F0 m pc ls st0) (C := C) (b := a) (As := As) (rest := rest) S hM ⟨callB_of n S.2.2.2.2 (ws_in w4) rfl rfl rfl (S.2.2.2.2 _ w5) w1 hd hR, S.2.2.2.2 _ w2, S.2.2.2.2 _ w3⟩ ⟨pre_blind, va_recv hE.1 hP hc he, fun U hU hW => ⟨rfl, hE.warm hW hU hS, by rw [hU]; exact hw⟩⟩ rfl hn hsize hst (lv_room hroom) hdg hcs
  intro T hT X
  obtain ⟨v, st₀, t, T', L, h0, X', hL, e1, e2, ⟨hv, hw1, hz, hk⟩, st⟩ := hr T hT X
  cases hv
  rw [h0] at hz hk
  obtain ⟨t2, a1, b1⟩ := kk T'.heap (locs ++ L) (by rw [e1]; exact hw1)
    ⟨Nat.le_trans hS.1 (by rw [e1]; exact hz), fun q h1 h2 => by rw [e1, hk q (Nat.lt_of_lt_of_le h1 hS.1) h2]; exact hS.2.1 q h1 h2, fun q hq => by
      rcases List.mem_append.mp hq with h | h
      · exact hS.2.2 q h
      · exact hL q h⟩ T' rfl X'
  exact ⟨t2, st t2 a1, b1⟩
end IMG
/-- image's end -/
def QM (Γ : Gm) (A : Nat → Prop) (gp : Gs) (fin : Gs × Int32) : Array Value → State → Outcome → State → Prop := fun _ st oc t => oc = .returned (some (.int fin.2)) ∧ (∃ Γ' : Gm, Xt Γ Γ' ∧ Ap Γ' A ∧ WF Γ' ∧ LI Γ' gp ∧ Wo Γ' fin.1 t.heap) ∧ va_F A st t
def CxM (p : Program) (s : State) (m : MethodId) (args : Array Value) (meth : Method) (c : Code) (y : MethodName) (cc : ByteArray) (nL : Nat) (ret : Option FieldType) : Prop :=
  p.tables.exec = Jvm.exec ∧ c.code = cc ∧ c.maxLocals = nL ∧ meth.sig.returnType = ret ∧ s.vm.findClass y.cls = some m.cls ∧ (∀ w ∈ WS, w.before args s = true) ∧ meth.locks = false
theorem lv_has2 {ls : Array Slot} {n : Nat} {l l' : List (Nat × Value)} (h : lv_has ls n l) (e : l = l') : lv_has ls n l' := e ▸ h
set_option maxRecDepth 100000 in
set_option maxHeartbeats 8000000 in
/-- image from its place 33 on: the told is copied into the image -/
theorem img33 {p : Program} {l : Launch} {e : Env} {s : State} {m : MethodId} {args : Array Value} {below : List Frame} {meth : Method} {c : Code} {Γ Γ' : Gm} {A : Nat → Prop} {gp g2 : Gs} {v1 : Int32} (C : CxM p s m args meth c yX9_image cX9_image 2 (some .boolean)) (hxt : Xt Γ Γ') (hE : Ev Γ' A s) (hLI : LI Γ' gp) (hin : inR v1 3 = true) (hne : gr (gp 901) v1.toNatClampNeg ≠ 0) (hkt : kd Γ' (801 + v1.toNatClampNeg) = some 8) (hf : fX8_copyFrom gp (801 + v1.toNatClampNeg) 800 = some g2)
    {H : Heap} {locs : List Loc} {ls : Array Slot} (hw : Wo Γ' gp H) (hS : va_S A s.heap H locs) (hl : lv_has ls 2 [(0, .ref (ad Γ' 901)), (1, .int v1)]) : W p l e { frames := 3, cells := 37, slots := 1245, locals := 120 } s m args below meth c H locs 37 1245 (MQ below (QM Γ A gp (g2, 1)) args s 37 1245 A) (F0 m 33 ls []) := by
  obtain ⟨hx, hb, hml, hr, hown, htw, hlocks⟩ := C
  have hown : s.vm.findClass RX9 = some m.cls := hown
  refine lv_aload_n hx hb dX9_image_33 rfl (lv_at hl 0 rfl) ?_
  refine va_get (ci := 9) (v := .ref (aa Γ' 901 1)) (C := RX9) (T := TX9) (N := 8) hx hb htw uwX9 hown hE.1 (hw _ _ (wf_901 hE)) 0 rfl rfl 1 (by decide) (htw _ mw434) (fun _ h9 => h9) rfl dX9_image_34 ?_
  refine lv_iload_n hx hb dX9_image_37 rfl (lv_at hl 1 rfl) ?_
  refine va_aldq hx hb hE.1 (hw _ _ (wf_901 hE)) 1 5 rfl rfl (inR_in hin) dX9_image_38 ?_
  refine W.eq (g2 := F0 m 39 ls [.ref (ad Γ' (801 + v1.toNatClampNeg))]) (by rw [if_neg hne]; rfl) ?_
  refine lv_aload_n hx hb dX9_image_39 rfl (lv_at hl 0 rfl) ?_
  refine va_get (ci := 9) (v := .ref (ad Γ' 800)) (C := RX9) (T := TX9) (N := 8) hx hb htw uwX9 hown hE.1 (hw _ _ (wf_901 hE)) 0 rfl rfl 0 (by decide) (htw _ mw433) (fun _ h9 => h9) rfl dX9_image_40 ?_
  refine cl_VL (rest := []) (kX8_copyFrom (l := l) (Γ := Γ') (A := A) hkt (wf_800 hE) hf) ⟨hx, hb, hml, hown, htw⟩ hE hw hS (hw _ _ hkt) (q0 := 0) rfl rfl (htw _ mw1218) mw1219 mw1220 mw119 mw1221 pdX8_copyFrom ⟨Nat.le_of_ble_eq_true rfl, Nat.le_of_ble_eq_true rfl⟩ rfl rfl hl.1 (Nat.le_of_ble_eq_true rfl) dX9_image_43 ⟨Nat.le_of_ble_eq_true rfl, Nat.le_of_ble_eq_true rfl⟩ (fun H locs hw hS => ?_)
  refine W.eq (g2 := F0 m 46 ls []) rfl ?_
  refine lv_iconst (v := 1) hx hb dX9_image_46 (by decide) ?_
  exact W.zret hx hb hr (by decide +kernel) (fun t ht hW => ⟨rfl, ⟨Γ', hxt, hE.2.1, hE.2.2.2.1, hLI, by rw [ht]; exact hw⟩, hS.F ht⟩) hS.2.2 dX9_image_47 hlocks
theorem img_set {Γ : Gm} {k t h0 : Nat} {r : Rec} (ht : ad Γ (801 + k) = h0) (hn : t ≠ 0) : va_up (fun i => if gr r i = 0 then none else some (ad Γ (801 + i))) k (some h0) = fun i => if gr (sr r k t) i = 0 then none else some (ad Γ (801 + i)) := by
  funext i
  by_cases hi : i = k
  · subst hi
    simp [va_up, gr, sr, hn, ht]
  · have h1 : gr (sr r k t) i = gr r i := by simp [gr, sr, hi]
    rw [h1]
    exact if_neg hi
set_option maxRecDepth 100000 in
set_option maxHeartbeats 8000000 in
theorem kX9_image {l : Launch} {Γ : Gm} {g : Gs} {v1 : Int32} {fin : Gs × Int32} {base : Nat} (hLI : LI Γ g) (hf : fX9_image g v1 = some fin) : Met l yX9_image (Cond.code yX9_image cX9_image 2 (some .boolean) :: WS) { frames := 3, cells := 37, slots := 1245, locals := 120 } (va_Pc [.ref (ad Γ 901), .int v1] (fun U => base ≤ U.heap.size ∧ Ev Γ (fun q => base ≤ q) U ∧ Ek (dd Γ) (ac Γ) U ∧ Wo Γ g U.heap)) (QM Γ (fun q => base ≤ q) (imgPre g v1) fin) 37 1245 (fun q => base ≤ q) := by
  refine Met.ofW (cc := cX9_image) (maxL := 2) (ret := some .boolean) (by decide) rfl ?_
  intro p e s m args below meth c s₁ B hml hv
  obtain ⟨rfl, hbase, hE, hEk, hw⟩ := hv
  have hts := atoms_spec (ws := Cond.code yX9_image cX9_image 2 (some .boolean) :: WS) B.pre
  have hx := B.exec
  have hb := B.bytes
  have hr := B.returns
  have hown : s.vm.findClass RX9 = some m.cls := findClass_of_methodNamed B.named
  have htw : ∀ w ∈ WS, w.before [Value.ref (ad Γ 901), Value.int v1].toArray s = true := fun w h => hts w (List.mem_cons_of_mem _ h)
  have hlocks := B.notSynchronized
  have C : CxM p s m [Value.ref (ad Γ 901), Value.int v1].toArray meth c yX9_image cX9_image 2 (some .boolean) := ⟨hx, hb, hml, hr, hown, htw, hlocks⟩
  have hS : va_S (fun q => base ≤ q) s.heap s.heap [] := va_S.rf
  have hl := lv_entry [Value.ref (ad Γ 901), Value.int v1] (n := 2) (Nat.le_of_ble_eq_true rfl)
  rw [lg_entry_eq]
  generalize (lg_sl [Value.ref (ad Γ 901), Value.int v1] ++ List.replicate (2 - (lg_sl [Value.ref (ad Γ 901), Value.int v1]).length) Slot.unset).toArray = ls at hl ⊢
  have hl : lv_has ls 2 [(0, .ref (ad Γ 901)), (1, .int v1)] := hl
  show W p l e { frames := 3, cells := 37, slots := 1245, locals := 120 } s m _ below meth c s.heap [] 0 0 _ _
  unfold fX9_image at hf
  refine lv_iload_n hx hb dX9_image_0 rfl (lv_at hl 1 rfl) ?_
  refine lv_if_lt (tgt := 9) hx hb dX9_image_1 (by decide) (fun c1 => ?_) (fun c1 => ?_)
  · have hf := ifp c1 hf
    obtain rfl := Option.some.inj hf
    have e1 : imgPre g v1 = g := by unfold imgPre; rw [if_pos c1]
    refine lv_iconst (v := 0) hx hb dX9_image_9 (by decide) ?_
    refine W.widen (k := 37) (n := 1245) (Nat.zero_le _) (Nat.zero_le _) ?_
    exact W.zret hx hb hr (by decide +kernel) (fun t ht hW => ⟨rfl, ⟨Γ, Xt.rf Γ, hE.2.1, hE.2.2.2.1, by rw [e1]; exact hLI, by rw [ht]; exact hw⟩, hS.F ht⟩) hS.2.2 dX9_image_10 hlocks
  have hf := ifn c1 hf
  refine lv_iload_n hx hb dX9_image_4 rfl (lv_at hl 1 rfl) ?_
  refine lv_iconst (v := 3) hx hb dX9_image_5 (by decide) ?_
  refine lv_icmp_lt (tgt := 11) hx hb dX9_image_6 (by decide) (fun c2 => ?_) (fun c2 => ?_)
  rotate_left
  · have hf := ifn c2 hf
    obtain rfl := Option.some.inj hf
    have e1 : imgPre g v1 = g := by unfold imgPre; rw [if_neg c1, if_neg c2]
    refine lv_iconst (v := 0) hx hb dX9_image_9 (by decide) ?_
    refine W.widen (k := 37) (n := 1245) (Nat.zero_le _) (Nat.zero_le _) ?_
    exact W.zret hx hb hr (by decide +kernel) (fun t ht hW => ⟨rfl, ⟨Γ, Xt.rf Γ, hE.2.1, hE.2.2.2.1, by rw [e1]; exact hLI, by rw [ht]; exact hw⟩, hS.F ht⟩) hS.2.2 dX9_image_10 hlocks
  have hf := ifp c2 hf
  obtain ⟨g2, hc, hf⟩ := bd hf
  obtain rfl := Option.some.inj hf
  have hin : inR v1 3 = true := by
    rcases i3_in c1 c2 with rfl | rfl | rfl <;> decide
  have hk3 : v1.toNatClampNeg < 3 := inR_lt hin
  refine lv_aload_n hx hb dX9_image_11 rfl (lv_at hl 0 rfl) ?_
  refine va_get (ci := 9) (v := .ref (aa Γ 901 1)) (C := RX9) (T := TX9) (N := 8) hx hb htw uwX9 hown hE.1 (hw _ _ (wf_901 hE)) 0 rfl rfl 1 (by decide) (htw _ mw434) (fun _ h9 => h9) rfl dX9_image_12 ?_
  refine lv_iload_n hx hb dX9_image_15 rfl (lv_at hl 1 rfl) ?_
  refine va_aldq hx hb hE.1 (hw _ _ (wf_901 hE)) 1 5 rfl rfl (inR_in hin) dX9_image_16 ?_
  by_cases hne : gr (g 901) v1.toNatClampNeg = 0
  rotate_left
  · refine W.eq (g2 := F0 m 17 ls [.ref (ad Γ (801 + v1.toNatClampNeg))]) (by rw [if_neg hne]; rfl) ?_
    refine lv_ifnonnull (tgt := 33) hx hb dX9_image_17 (by decide) ?_
    refine W.widen (k := 37) (n := 1245) (Nat.zero_le _) (Nat.zero_le _) ?_
    have e1 : imgPre g v1 = g := by unfold imgPre; rw [if_neg c1, if_pos c2, if_neg hne]
    rw [e1] at hc ⊢
    exact img33 C (Xt.rf Γ) hE hLI hin hne (hLI.1 _ hk3 hne) hc hw hS hl
  · refine W.eq (g2 := F0 m 17 ls [.null]) (by rw [if_pos hne]; rfl) ?_
    refine lv_ifnonnullN hx hb dX9_image_17 ?_
    have e1 : imgPre g v1 = ug (nT g v1.toNatClampNeg) 901 (sr (g 901) v1.toNatClampNeg (801 + v1.toNatClampNeg)) := by unfold imgPre; rw [if_neg c1, if_pos c2, if_pos hne]
    rw [e1] at hc ⊢
    refine lv_aload_n hx hb dX9_image_20 rfl (lv_at hl 0 rfl) ?_
    refine va_get (ci := 9) (v := .ref (aa Γ 901 1)) (C := RX9) (T := TX9) (N := 8) hx hb htw uwX9 hown hE.1 (hw _ _ (wf_901 hE)) 0 rfl rfl 1 (by decide) (htw _ mw434) (fun _ h9 => h9) rfl dX9_image_21 ?_
    refine lv_iload_n hx hb dX9_image_24 rfl (lv_at hl 1 rfl) ?_
    generalize hHe : s.heap = H at hw
    have hS : va_S (fun q => base ≤ q) s.heap H [] := by rw [← hHe]; exact va_S.rf
    rw [hHe] at hbase
    refine wo_new (ci := 8) (fs := [.null, .int 0, .int 0, .int 0, .null, .null, .null, .null, .null]) (C := RX8) (T := TX8) (N := 9) (H := H) hx hb htw uwX8 tyX8 tyX8_ok hown (htw _ mo145) (htw _ mo146) (htw _ mw119) hE hw hS rfl (fun j hj => dvX8 j hj) (Nat.le_of_ble_eq_true rfl) (Nat.le_of_ble_eq_true rfl) dX9_image_25 (fun H1 z1 o1 hw1 hP1 hS1 => ?_)
    refine lv_dup hx hb dX9_image_28 rfl ?_
    have hF : ∀ q, va_A [(H.size, .inr (8, [.null, .int 0, .int 0, .int 0, .null, .null, .null, .null, .null]))] H1.size q → base ≤ q := by
      intro q h
      rcases h with ⟨k, e, h⟩ | h
      · have hk0 : k < 1 := (List.getElem?_eq_some_iff.mp h).1
        rw [show k = 0 by omega] at h
        cases h
        exact hbase
      · omega
    have hF2 : ∀ q, va_A [(H.size, .inr (8, [.null, .int 0, .int 0, .int 0, .null, .null, .null, .null, .null]))] H1.size q → H.size ≤ q := by
      intro q h
      rcases h with ⟨k, e, h⟩ | h
      · have hk0 : k < 1 := (List.getElem?_eq_some_iff.mp h).1
        rw [show k = 0 by omega] at h
        cases h
        exact Nat.le_refl _
      · omega
    refine cl_I (D := dd Γ) (cs := ac Γ) (rest := [.ref H.size, .int v1, .ref (aa Γ 901 1)]) (wc := [(H.size, .inr (8, [.null, .int 0, .int 0, .int 0, .null, .null, .null, .null, .null]))]) (kiX8 (l := l) (D := dd Γ) (cs := ac Γ) (h0 := H.size)) ⟨hx, hb, hml, hown, htw⟩ hEk hP1 ⟨fun i j p q hi hj _ => by
        have h1 : i < 1 := (List.getElem?_eq_some_iff.mp hi).1
        have h2 : j < 1 := (List.getElem?_eq_some_iff.mp hj).1
        omega, fun _ _ _ => trivial⟩ hS1 hF (Or.inl (htw _ mw147)) mw148 mw119 mw149 rfl pdX8_init ⟨Nat.le_of_ble_eq_true rfl, Nat.le_of_ble_eq_true rfl⟩ rfl rfl hl.1 (Nat.le_of_ble_eq_true rfl) dX9_image_29 ⟨Nat.le_of_ble_eq_true rfl, Nat.le_of_ble_eq_true rfl⟩ (fun w1 H2 locs2 hp hP2 hD2 hk2 hS2 => ?_)
    have hold : ∀ q, q < H.size → H2[q]? = H[q]? := by
      intro q hq
      rw [hk2 q (by omega) (fun h => by have := hF2 q h; omega), o1 q hq]
    have hD3 : va_D (fun q => H.size ≤ q) w1 := hD2.weaken (fun _ q _ h => hF2 q.1 h)
    have go : ∀ (k t : Nat), v1.toNatClampNeg = k → 801 + k = t → (∃ Γ' : Gm, dd Γ' = dd Γ ∧ ac Γ' = ac Γ ∧ Γ'.2.2.2.2.2 = Γ.2.2.2.2.2 ∧ ad Γ' 901 = ad Γ 901 ∧ ad Γ' 1001 = ad Γ 1001 ∧ ad Γ' 800 = ad Γ 800 ∧ aa Γ' 901 1 = aa Γ 901 1 ∧ ad Γ' t = H.size ∧ kd Γ' t = some 8 ∧ Ev Γ' (fun q => base ≤ q) s ∧ Wo Γ' (nT g k) H2 ∧ LI Γ' (ug (nT g k) 901 (sr (g 901) k t))) → nT g k 901 = g 901 → W p l e { frames := 3, cells := 37, slots := 1245, locals := 120 } s m [Value.ref (ad Γ 901), Value.int v1].toArray below meth c H2 locs2 (0 + 1 + 36) (0 + 9 + 1236) (MQ below (QM Γ (fun q => base ≤ q) (ug (nT g v1.toNatClampNeg) 901 (sr (g 901) v1.toNatClampNeg (801 + v1.toNatClampNeg))) (g2, 1)) [Value.ref (ad Γ 901), Value.int v1].toArray s 37 1245 (fun q => base ≤ q)) (F0 m 32 ls [.ref H.size, .int v1, .ref (aa Γ 901 1)]) := by
      intro k t hkk htt hex hn9
      obtain ⟨Γ', x1, x2, x3, x4, x5, x6, x7, x8, x9, hE', hw', hLI'⟩ := hex
      subst htt
      rw [hkk] at hc ⊢
      have hl' : lv_has ls 2 [(0, .ref (ad Γ' 901)), (1, .int v1)] := by rw [x4]; exact hl
      refine W.eq (g2 := F0 m 32 ls [.ref H.size, .int v1, .ref (aa Γ' 901 1)]) (by rw [x7]) ?_
      refine wo_aast (r' := sr (g 901) k (801 + k)) (t0 := 5) (cv := 8) (q0 := 1) hx hb hE' hw' hS2 (wf_901 hE') rfl rfl (v := H.size) (by have h := hw' _ _ x9 0 _ rfl; rw [x8] at h; exact h) rfl (inR_in hin) (by
        rw [hn9, hkk]
        have e2 := img_set (Γ := Γ') (k := k) (t := 801 + k) (r := g 901) x8 (by omega)
        show [_, _] = [_, _]
        rw [e2]
        rfl) dX9_image_32 (fun H3 locs3 hw3 hS3 => ?_)
      refine W.widen (k := 37) (n := 1245) (Nat.le_of_ble_eq_true rfl) (Nat.le_of_ble_eq_true rfl) ?_
      have hg9 : gr ((ug (nT g k) 901 (sr (g 901) k (801 + k))) 901) k ≠ 0 := by rw [ug_same]; simp [gr, sr]
      exact img33 C ⟨x1, x2, x3, x4, x5⟩ hE' hLI' hin (by rw [hkk]; exact hg9) (by rw [hkk]; exact x9) (by rw [hkk]; exact hc) hw3 hS3 hl'
    rcases i3_in c1 c2 with hv0 | hv0 | hv0
    · have hkk : v1.toNatClampNeg = 0 := by rw [hv0]; decide
      rw [hkk] at hne
      exact go 0 801 hkk rfl (ext0 hE hLI hw rfl hp hP2 hD3 hold (fun q h => Nat.le_trans hbase h) hne) rfl
    · have hkk : v1.toNatClampNeg = 1 := by rw [hv0]; decide
      rw [hkk] at hne
      exact go 1 802 hkk rfl (ext1 hE hLI hw rfl hp hP2 hD3 hold (fun q h => Nat.le_trans hbase h) hne) rfl
    · have hkk : v1.toNatClampNeg = 2 := by rw [hv0]; decide
      rw [hkk] at hne
      exact go 2 803 hkk rfl (ext2 hE hLI hw rfl hp hP2 hD3 hold (fun q h => Nat.le_trans hbase h) hne) rfl
set_option maxRecDepth 100000 in
set_option maxHeartbeats 8000000 in
theorem kX9_again {l : Launch} {Γ : Gm} {A : Nat → Prop} {g : Gs} {v1 : Int32} {fin : Gs × Int32} (hLI : LI Γ g) (hf : fX9_again g v1 = some fin) : Kt l yX9_again cX9_again 2 (some .boolean) 3 120 Γ A g fin.1 [.ref (ad Γ 901), .int v1] (some (.int fin.2)) := by
  refine kt_of (by decide) (Nat.le_of_ble_eq_true rfl) (fun p e s m args below meth c C => ?_)
  intro H locs ls hw hS hl
  have hl : lv_has ls 2 [(0, .ref (ad Γ 901)), (1, .int v1)] := hl
  obtain ⟨hx, hb, hml, hr, hown, htw, hlocks, hE⟩ := id C
  have hown : s.vm.findClass RX9 = some m.cls := hown
  unfold fX9_again at hf
  refine lv_iload_n hx hb dX9_again_0 rfl (lv_at hl 1 rfl) ?_
  refine lv_if_lt (tgt := 18) hx hb dX9_again_1 (by decide) (fun c1 => ?_) (fun c1 => ?_)
  · have hf := ifp c1 hf
    obtain rfl := Option.some.inj hf
    refine lv_iconst (v := 0) hx hb dX9_again_18 (by decide) ?_
    exact rt_z C (Or.inl rfl) hw hS dX9_again_19
  have hf := ifn c1 hf
  refine lv_iload_n hx hb dX9_again_4 rfl (lv_at hl 1 rfl) ?_
  refine lv_iconst (v := 3) hx hb dX9_again_5 (by decide) ?_
  refine lv_icmp_ge (tgt := 18) hx hb dX9_again_6 (by decide) (fun c2 => ?_) (fun c2 => ?_)
  · have hf := ifp c2 hf
    obtain rfl := Option.some.inj hf
    refine lv_iconst (v := 0) hx hb dX9_again_18 (by decide) ?_
    exact rt_z C (Or.inl rfl) hw hS dX9_again_19
  have hf := ifn c2 hf
  have c3 : v1 < 3 := Int32.not_le.mp c2
  have hin : inR v1 3 = true := by
    rcases i3_in c1 c3 with rfl | rfl | rfl <;> decide
  have hk3 : v1.toNatClampNeg < 3 := inR_lt hin
  refine lv_aload_n hx hb dX9_again_9 rfl (lv_at hl 0 rfl) ?_
  refine va_get (ci := 9) (v := .ref (aa Γ 901 1)) (C := RX9) (T := TX9) (N := 8) hx hb htw uwX9 hown hE.1 (hw _ _ (wf_901 hE)) 0 rfl rfl 1 (by decide) (htw _ mw434) (fun _ h9 => h9) rfl dX9_again_10 ?_
  refine lv_iload_n hx hb dX9_again_13 rfl (lv_at hl 1 rfl) ?_
  refine va_aldq hx hb hE.1 (hw _ _ (wf_901 hE)) 1 5 rfl rfl (inR_in hin) dX9_again_14 ?_
  by_cases hne : gr (g 901) v1.toNatClampNeg = 0
  · have hf := ifp hne hf
    obtain rfl := Option.some.inj hf
    refine W.eq (g2 := F0 m 15 ls [.null]) (by rw [if_pos hne]; rfl) ?_
    refine lv_ifnonnullN hx hb dX9_again_15 ?_
    refine lv_iconst (v := 0) hx hb dX9_again_18 (by decide) ?_
    exact rt_z C (Or.inl rfl) hw hS dX9_again_19
  · have hf := ifn hne hf
    obtain ⟨g2, hc, hf⟩ := bd hf
    obtain rfl := Option.some.inj hf
    refine W.eq (g2 := F0 m 15 ls [.ref (ad Γ (801 + v1.toNatClampNeg))]) (by rw [if_neg hne]; rfl) ?_
    refine lv_ifnonnull (tgt := 20) hx hb dX9_again_15 (by decide) ?_
    refine lv_aload_n hx hb dX9_again_20 rfl (lv_at hl 0 rfl) ?_
    refine va_get (ci := 9) (v := .ref (ad Γ 800)) (C := RX9) (T := TX9) (N := 8) hx hb htw uwX9 hown hE.1 (hw _ _ (wf_901 hE)) 0 rfl rfl 0 (by decide) (htw _ mw433) (fun _ h9 => h9) rfl dX9_again_21 ?_
    refine lv_aload_n hx hb dX9_again_24 rfl (lv_at hl 0 rfl) ?_
    refine va_get (ci := 9) (v := .ref (aa Γ 901 1)) (C := RX9) (T := TX9) (N := 8) hx hb htw uwX9 hown hE.1 (hw _ _ (wf_901 hE)) 0 rfl rfl 1 (by decide) (htw _ mw434) (fun _ h9 => h9) rfl dX9_again_25 ?_
    refine lv_iload_n hx hb dX9_again_28 rfl (lv_at hl 1 rfl) ?_
    refine va_aldq hx hb hE.1 (hw _ _ (wf_901 hE)) 1 5 rfl rfl (inR_in hin) dX9_again_29 ?_
    refine W.eq (g2 := F0 m 30 ls [.ref (ad Γ (801 + v1.toNatClampNeg)), .ref (ad Γ 800)]) (by rw [if_neg hne]; rfl) ?_
    refine cl_Vv (rest := []) (kX8_copyFrom (l := l) (Γ := Γ) (A := A) (wf_800 hE) (hLI.1 _ hk3 hne) hc) ⟨hx, hb, hml, hown, htw⟩ hE hw hS (hw _ _ (wf_800 hE)) (q0 := 0) rfl rfl mw1218 mw1219 mw1220 mw119 mw1221 pdX8_copyFrom ⟨Nat.le_of_ble_eq_true rfl, Nat.le_of_ble_eq_true rfl⟩ rfl rfl hl.1 (Nat.le_of_ble_eq_true rfl) dX9_again_30 (fun H locs hw hS => ?_)
    refine lv_iconst (v := 1) hx hb dX9_again_33 (by decide) ?_
    exact rt_z C (Or.inr rfl) hw hS dX9_again_34
