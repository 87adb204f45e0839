/-! constructors: worlds as lists of cells -/
def tyc (cs : Nat → ClassId) : List (ClassId × FieldType) := [(cs 0, .int), (cs 1, .byte), (cs 2, .boolean), (cs 3, .object "TarnishTurns$House"), (cs 4, .object "TarnishTurns$Rows"), (cs 5, .object "TarnishTurns$Told")]
def Ek (D : va_G) (cs : Nat → ClassId) (U : State) : Prop := va_K D vwCl (tyc cs) U ∧ NestW U ∧ va_AO "TarnishTurns$House" U ∧ va_AO "TarnishTurns$Rows" U ∧ va_AO "TarnishTurns$Told" U
theorem Ek.warm {D : va_G} {cs : Nat → ClassId} {s U : State} (hW : s.WarmedH U.vm) (h : Ek D cs s) : Ek D cs U := ⟨h.1.moved hW.alike, h.2.1.warm hW, h.2.2.1.moved hW.alike, h.2.2.2.1.moved hW.alike, h.2.2.2.2.moved hW.alike⟩
theorem Ek.call {D : va_G} {cs : Nat → ClassId} {U : State} {g : JFrame} {mk : MethodId} {a : Array Value} (h : Ek D cs U) : Ek D cs (U.calling g mk a) := ⟨va_K.moved (u := U) (U := U.calling g mk a) (Vm.Alike.refl U.vm) h.1, h.2.1.same rfl, va_AO.moved (u := U) (U := U.calling g mk a) (Vm.Alike.refl U.vm) h.2.2.1, va_AO.moved (u := U) (U := U.calling g mk a) (Vm.Alike.refl U.vm) h.2.2.2.1, va_AO.moved (u := U) (U := U.calling g mk a) (Vm.Alike.refl U.vm) h.2.2.2.2⟩
def QI (D : va_G) (Post : va_W → Prop) (A : Nat → Prop) : Array Value → State → Outcome → State → Prop := fun _ st oc t => oc = .returned none ∧ (∃ w1 : va_W, Post w1 ∧ va_P D vwCl w1 t.heap ∧ va_D A w1) ∧ va_F A st t
def Kl (l : Launch) (y : MethodName) (cc : ByteArray) (nL F L : Nat) (D : va_G) (cs : Nat → ClassId) (mc ms : Nat) (ws : va_W) (av : List Value) (Post : va_W → Prop) : Prop :=
  ∀ sz : Nat, Met l y (Cond.code y cc nL none :: WS) { frames := F, cells := mc, slots := ms, locals := L } (va_Pc av (fun U => U.heap.size = sz ∧ Ek D cs U ∧ va_P D vwCl ws U.heap ∧ va_D (fun _ => True) ws)) (QI D Post (va_A ws sz)) mc ms (va_A ws sz)
def CxI (p : Program) (s : State) (m : MethodId) (args : Array Value) (meth : Method) (c : Code) (y : MethodName) (cc : ByteArray) (nL : Nat) (D : va_G) (cs : Nat → ClassId) : Prop :=
  p.tables.exec = Jvm.exec ∧ c.code = cc ∧ c.maxLocals = nL ∧ meth.sig.returnType = none ∧ s.vm.findClass y.cls = some m.cls ∧ (∀ w ∈ WS, w.before args s = true) ∧ meth.locks = false ∧ meth.name = y.name ∧ Ek D cs s
theorem kl_of {l : Launch} {y : MethodName} {cc : ByteArray} {nL F L : Nat} {D : va_G} {cs : Nat → ClassId} {mc ms : Nat} {ws : va_W} {av : List Value} {Post : va_W → Prop} (hy : plainName y.cls = true) (hn : (lg_sl av).length ≤ nL)
    (body : ∀ (p : Program) (e : Env) (s : State) (m : MethodId) (args : Array Value) (below : List Frame) (meth : Method) (c : Code) (A : Nat → Prop) (ls : Array Slot), CxI p s m args meth c y cc nL D cs → (∀ q, s.heap.size ≤ q → A q) → va_P D vwCl ws s.heap → va_D A ws → lv_has ls nL (lv_args 0 av) → W p l e { frames := F, cells := mc, slots := ms, locals := L } s m args below meth c s.heap [] 0 0 (MQ below (QI D Post A) args s mc ms A) (F0 m 0 ls [])) : Kl l y cc nL F L D cs mc ms ws av Post := by
  intro sz
  refine Met.ofW (cc := cc) (maxL := nL) (ret := none) hy rfl ?_
  intro p e s m args below meth c s₁ B hml hv
  obtain ⟨rfl, hsz, hE, hP, hD0⟩ := hv
  have hts := atoms_spec (ws := Cond.code y cc nL none :: WS) B.pre
  subst hsz
  rw [lg_entry_eq]
  exact body p e s m av.toArray below meth c (va_A ws s.heap.size) _ ⟨B.exec, B.bytes, hml, B.returns, findClass_of_methodNamed B.named, fun w h => hts w (List.mem_cons_of_mem _ h), B.notSynchronized, (name_of_methodNamed B.named B.method).1, hE⟩ (fun q h => Or.inr h) hP (hD0.self (sz := s.heap.size)) (lv_entry av hn)
theorem va_RA_inj {U : State} {c1 c2 : ClassId} {ty : FieldType} (h1 : va_RA U c1 ty) (h2 : va_RA U c2 ty) : c1 = c2 := by
  cases ty with
  | object C =>
    obtain ⟨_, _, _, _, _, a⟩ := h1
    obtain ⟨_, _, _, _, _, b⟩ := h2
    exact Option.some.inj (a.symm.trans b)
  | _ => exact Option.some.inj (Eq.trans (Eq.symm h1) h2)
section CTOR
variable {p : Program} {l : Launch} {e : Env} {R : Room} {s : State} {m : MethodId} {args : Array Value} {below : List Frame} {meth : Method} {c : Code} {H : Heap} {locs : List Loc} {cells slots : Nat} {Q : State → Prop}
variable {cc : ByteArray} {pc : Nat} {ls : Array Slot} {rest : List Value} {D : va_G} {cl : List vw_C} {A : Nat → Prop} {a : Nat} {tys : List (ClassId × FieldType)} {ws : va_W} {H0 : Heap}
theorem wl_newa (hexec : p.tables.exec = Jvm.exec) (hb : c.code = cc) {atype : ArrayType} (harr : (Cond.arrayClass (newarray.typeOf atype)).before args s = true) {ty : FieldType} (hty : newarray.typeOf atype = ty) (hK : va_K D cl tys s) (hP : va_P D cl ws H) (hD : va_D A ws) (hS : va_S A H0 H locs) (hA : ∀ q, H0.size ≤ q → A q) (t : Nat) {cI : ClassId} (ht : tys[t]? = some (cI, ty))
    {n : Int32} {N' : Nat} {a0 : vp_A} (ha : ∀ cA : ClassId, vp_cell cA a0 = arrV cA N' (fun _ => defaultValue ty)) (hn : ¬ n < 0) (hN : n.toNatClampNeg = N') (hbytes : N' * componentBytes ty ≤ 536870912) (hcells : cells + 1 ≤ R.cells) (hslots : slots + N' ≤ R.slots) (hdg : decode cc pc = .ok (.newarray atype, 2))
    (kk : ∀ (q : Nat) (H1 : Heap), va_P D cl (ws ++ [(q, .inl (cI, a0))]) H1 → va_D A (ws ++ [(q, .inl (cI, a0))]) → va_S A H0 H1 locs →
      W p l e R s m args below meth c H1 locs (cells + 1) (slots + N') Q (F0 m (pc + 2) ls (.ref q :: rest))) : W p l e R s m args below meth c H locs cells slots Q (F0 m pc ls (.int n :: rest)) := by
  refine va_newa hexec hb harr hty hK hP hD hS hA ha hn hN hbytes hcells hslots hdg (fun q cA H1 hK1 hP1 hD1 hS1 => ?_)
  have e1 : cA = cI := va_RA_inj (hK1.2 tys.length (cA, ty) (by simp)).2 (hK.2 t _ ht).2
  subst e1
  exact kk q H1 hP1 hD1 hS1
theorem wl_newq (hexec : p.tables.exec = Jvm.exec) (hb : c.code = cc) {own C : String} {index : Nat} (hown : s.vm.findClass own = some m.cls) (hclink : (Cond.classLink own index C).before args s = true) (hover : va_AO C s) (hK : va_K D cl tys s) (hP : va_P D cl ws H) (hD : va_D A ws) (hS : va_S A H0 H locs) (hA : ∀ q, H0.size ≤ q → A q) (t : Nat) {cI : ClassId} (ht : tys[t]? = some (cI, .object C))
    {n : Int32} {N' : Nat} (hn : ¬ n < 0) (hN : n.toNatClampNeg = N') (hbytes : N' * 4 ≤ 536870912) (hcells : cells + 1 ≤ R.cells) (hslots : slots + N' ≤ R.slots) (hdg : decode cc pc = .ok (.anewarray index, 3))
    (kk : ∀ (q : Nat) (H1 : Heap), va_P D cl (ws ++ [(q, .inl (cI, N', .inr (.inr (.inr (.inr (fun _ => none))))))]) H1 → va_D A (ws ++ [(q, .inl (cI, N', .inr (.inr (.inr (.inr (fun _ => none))))))]) → va_S A H0 H1 locs →
      W p l e R s m args below meth c H1 locs (cells + 1) (slots + N') Q (F0 m (pc + 3) ls (.ref q :: rest))) : W p l e R s m args below meth c H locs cells slots Q (F0 m pc ls (.int n :: rest)) := by
  refine va_newq hexec hb hown hclink hover hK hP hD hS hA hn hN hbytes hcells hslots hdg (fun q cA H1 hK1 hP1 hD1 hS1 => ?_)
  have e1 : cA = cI := va_RA_inj (hK1.2 tys.length (cA, .object C) (by simp)).2 (hK.2 t _ ht).2
  subst e1
  exact kk q H1 hP1 hD1 hS1
theorem cl_goI {Post : va_W → Prop} {wc : va_W} {mc ms : Nat} {av : Array Value} {st0 : List Value} (hr : va_Run p l e R s m args below meth c H locs cells slots mc ms (F0 m pc ls st0) rest (QI D Post (va_A wc H.size) av) (va_A wc H.size)) (hS : va_S A H0 H locs) (hF : ∀ q, va_A wc H.size q → A q)
    (kk : ∀ (w1 : va_W) (H1 : Heap) (locs1 : List Loc), Post w1 → va_P D vwCl w1 H1 → va_D (va_A wc H.size) w1 → (∀ q : Nat, q < H.size → ¬ va_A wc H.size q → H1[q]? = H[q]?) → va_S A H0 H1 locs1 → W p l e R s m args below meth c H1 locs1 (cells + mc) (slots + ms) Q (F0 m (pc + 3) ls rest)) : W p l e R s m args below meth c H locs cells slots Q (F0 m pc ls st0) := by
  intro T hT X
  obtain ⟨v, st₀, t, T', L, h0, X', hL, e1, e2, ⟨hv, ⟨w1, hp, hP1, hD1⟩, hz, hk⟩, st⟩ := hr T hT X
  cases hv
  rw [h0] at hz hk
  obtain ⟨t2, a1, b1⟩ := kk w1 T'.heap (locs ++ L) hp (by rw [e1]; exact hP1) hD1 (fun q h1 h2 => by rw [e1]; exact hk q h1 h2)
    ⟨Nat.le_trans hS.1 (by rw [e1]; exact hz), fun q h1 h2 => by rw [e1, hk q (Nat.lt_of_lt_of_le h1 hS.1) (fun z => h2 (hF q z))]; exact hS.2.1 q h1 h2, fun q hq => by
      rcases List.mem_append.mp hq with h | h
      · exact hS.2.2 q h
      · exact hF _ (hL q h)⟩ T' rfl X'
  exact ⟨t2, st t2 a1, b1⟩
theorem cl_I {y : MethodName} {cy : ByteArray} {nL nL' n index F L : Nat} {own : String} {As : List Value} {st0 : List Value} {cs : Nat → ClassId} {mc ms : Nat} {wc : va_W} {Post : va_W → Prop} (hM : Kl l y cy nL' F L D cs mc ms wc (.ref a :: As) Post) (S : CallFix p m c cc nL s args WS own) (hE : Ek D cs s) (hP : va_P D vwCl wc H) (hD : va_D (fun _ => True) wc) (hS : va_S A H0 H locs) (hF : ∀ q, va_A wc H.size q → A q)
    (w1 : (Cond.methodLink own index y).before args s = true ∨ ∃ host, va_Nw (.methodLinkNest own index y host) s) (w2 : Cond.instanceMethod y ∈ WS) (w3 : Cond.initialized y.cls ∈ WS) (w4 : Cond.code y cy nL' none ∈ WS) (hy : y.name = "<init>") (hd : y.cls ≠ "java/lang/invoke/MethodHandle" ∧ y.cls ≠ "java/lang/invoke/VarHandle" ∧ (parseMethodDescriptor y.desc).map (fun d => d.parameters.length) = some n) (hR : F + 1 ≤ R.frames ∧ 8 + (nL' + 11) + L ≤ R.locals)
    (hst : st0 = As.reverse ++ .ref a :: rest) (hn : As.length = n) (hsize : ls.size = nL) (hroom : (rest.map fun v => v.category).sum ≤ 8) (hdg : decode cc pc = .ok (.invokespecial index, 3)) (hcs : cells + mc ≤ R.cells ∧ slots + ms ≤ R.slots)
    (kk : ∀ (w1 : va_W) (H1 : Heap) (locs1 : List Loc), Post w1 → va_P D vwCl w1 H1 → va_D (va_A wc H.size) w1 → (∀ q : Nat, q < H.size → ¬ va_A wc H.size q → H1[q]? = H[q]?) → va_S A H0 H1 locs1 → W p l e R s m args below meth c H1 locs1 (cells + mc) (slots + ms) Q (F0 m (pc + 3) ls rest)) : W p l e R s m args below meth c H locs cells slots Q (F0 m pc ls st0) := by
  have blind : FrameBlind (va_Pc (.ref a :: As) (fun U => U.heap.size = H.size ∧ Ek D cs U ∧ va_P D vwCl wc U.heap ∧ va_D (fun _ => True) wc)) := fun a U g mk h => ⟨h.1, h.2.1, h.2.2.1.call, h.2.2.2.1, h.2.2.2.2⟩
  rcases w1 with w1 | ⟨host, w1⟩
  · exact cl_goI (va_runI (b := a) (As := As) (rest := rest) S (hM H.size) ⟨callB_of n S.2.2.2.2 (ws_in w4) rfl rfl rfl (S.2.2.2.2 _ w3) w1 hd hR, hy, S.2.2.2.2 _ w2⟩ ⟨blind, fun U hU hW => ⟨rfl, by rw [hU], hE.warm hW, by rw [hU]; exact hP, hD⟩⟩ rfl hn hsize hst (lv_room hroom) hdg hcs) hS hF kk
  · exact cl_goI (va_runIN (b := a) (As := As) (rest := rest) S (hM H.size) ⟨va_cnB n S.2.2.2.2 (ws_in w4) rfl rfl rfl w1 (S.2.2.2.2 _ w3) hd hR, hy, S.2.2.2.2 _ w2⟩ ⟨blind, fun U hU hW => ⟨rfl, by rw [hU], hE.warm hW, by rw [hU]; exact hP, hD⟩⟩ rfl hn hsize hst (lv_room hroom) hdg hcs) hS hF kk
end CTOR
