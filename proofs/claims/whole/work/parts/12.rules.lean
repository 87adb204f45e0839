theorem inR_lt {i : Int32} {n : Nat} (h : inR i n = true) : i.toNatClampNeg < n := Nat.not_le.mp fun q => (inR_in h) (Or.inr q)
def isCh (v : Int32) : Bool := decide ((v.toUInt32 % 65536).toInt32 = v)
theorem isCh_n {v : Int32} (h : isCh v = true) : narrow .char (.int v) = .int v := by
  have h1 : (v.toUInt32 % 65536).toInt32 = v := of_decide_eq_true h
  have h2 := pk_nc v
  rw [h1] at h2
  exact h2
def oc {α β : Type} (z : Option β) (a : Option α) (b : β → Option α) : Option α := match z with
  | none => a
  | some h => b h
theorem oc_none {α β : Type} {a x : Option α} {b : β → Option α} (h : oc none a b = x) : a = x := h
theorem oc_some {α β : Type} {a x : Option α} {b : β → Option α} {z : β} (h : oc (some z) a b = x) : b z = x := h
def mxi (x y : Int32) : Int32 := if x < y then y else x
def mni (x y : Int32) : Int32 := if y < x then y else x
def abi (x : Int32) : Int32 := if 0 ≤ x then x else 0 - x
def fl (n : Nat) (v : Int32) (f : Nat → Int32) : Nat → Int32 := fun j => if j < n then v else f j
def cpOK (sp dp n : Int32) (n0 n1 : Nat) : Bool := decide (¬ sp < 0 ∧ ¬ dp < 0 ∧ ¬ n < 0 ∧ sp.toNatClampNeg + n.toNatClampNeg ≤ n0 ∧ dp.toNatClampNeg + n.toNatClampNeg ≤ n1)
theorem cpOK_of {sp dp n : Int32} {n0 n1 : Nat} (h : cpOK sp dp n n0 n1 = true) : ¬ sp < 0 ∧ ¬ dp < 0 ∧ ¬ n < 0 ∧ sp.toNatClampNeg + n.toNatClampNeg ≤ n0 ∧ dp.toNatClampNeg + n.toNatClampNeg ≤ n1 := of_decide_eq_true h
def fitB (f : Nat → Int32) (sp n : Nat) : Bool := (List.range n).all (fun i => fits .byte (.int (f (sp + i))))
theorem fitB_of {f : Nat → Int32} {sp n : Nat} (h : fitB f sp n = true) : ∀ i, i < n → fits .byte (.int (f (sp + i))) = true := fun i hi => List.all_eq_true.mp h i (List.mem_range.mpr hi)
theorem sa_sa (r : Rec) (k : Nat) (f g : Nat → Int32) : sa (sa r k f) k g = sa r k g := by
  unfold sa
  congr 2
  funext j
  by_cases h : j = k
  · simp [h]
  · simp [h]
theorem ga_sa (r : Rec) (k : Nat) (f : Nat → Int32) : ga (sa r k f) k = f := by simp [ga, sa]
theorem sa_ga (r : Rec) (k : Nat) : sa r k (ga r k) = r := by
  unfold sa ga
  have h : (fun j => if j = k then r.2.1 k else r.2.1 j) = r.2.1 := by
    funext j
    by_cases h : j = k
    · simp [h]
    · simp [h]
  rw [h]
theorem fl_0 (v : Int32) (f : Nat → Int32) : fl 0 v f = f := funext fun j => if_neg (Nat.not_lt_zero j)
theorem fl_s (i : Nat) (v : Int32) (f : Nat → Int32) : upd (fl i v f) i v = fl (i + 1) v f := by
  funext j
  by_cases h : j = i
  · subst h; simp [upd, fl]
  · by_cases h2 : j < i
    · have h3 : j < i + 1 := by omega
      simp [upd, fl, h, h2, h3]
    · have h3 : ¬ j < i + 1 := by omega
      simp [upd, fl, h, h2, h3]
section RULES2
variable {p : Program} {l : Launch} {e : Env} {R : Room} {s : State} {m : MethodId} {args : Array Value} {below : List Frame} {meth : Method} {c : Code} {H : Heap} {locs : List Loc} {cells slots : Nat} {Q : State → Prop}
variable {cc : ByteArray} {pc : Nat} {ls : Array Slot} {rest : List Value} {Γ : Gm} {A : Nat → Prop} {a : Nat} {H0 : Heap} {G G' g g' : Gs} {r r' : Rec} {o ci : Nat}
theorem tp1r {x y : Nat} (h : x = y) (k : W p l e R s m args below meth c H locs cells slots Q (F0 m pc ls (.ref (ad Γ y) :: rest))) : W p l e R s m args below meth c H locs cells slots Q (F0 m pc ls (.ref (ad Γ x) :: rest)) := by subst h; exact k
theorem wo_gs (hw : Wo Γ g H) : Wo Γ (ug g o (g o)) H := by rw [ug_self]; exact hw
theorem wo_putG (hexec : p.tables.exec = Jvm.exec) (hb : c.code = cc) {own ref C : String} {T : u_T} {N index : Nat} {Ts : List Cond} (hts : ∀ w ∈ Ts, w.before args s = true) (hin : ∀ w ∈ u_ws C T N, w ∈ Ts) (ty0 : Nat → FieldType) (hty : ∀ k, k < N → parseFieldDescriptor (T k).2.2.1 = some (ty0 k)) (hnm : ∀ a, a < N → ∀ b, b < N → a ≠ b → (T a).2.1 ≠ (T b).2.1) (hown : s.vm.findClass own = some m.cls) (hE : Ev Γ A s) (hw : Wo Γ g H) (hS0 : va_S A H0 H locs) (hk0 : kd Γ o = some ci) {fs : List Value} (he : (cellsOf Γ ci o (g o))[0]? = some (a, .inr (ci, fs))) (hc : vwCl[ci]? = some (C, T, N)) (k : Nat) (hk : k < N) (hlink : (Cond.fieldLink own index ref (T k).2.1 (T k).2.2.1).before args s = true) (hsame : ∀ x, s.fieldFound? (T k).1 (T k).2.1 (T k).2.2.1 = some x → s.fieldFound? ref (T k).2.1 (T k).2.2.1 = some x) (hfin : (T k).2.2.2 = false) {ty : FieldType} {v : Value} (hd : parseFieldDescriptor (T k).2.2.1 = some ty) (hn : narrow ty v = v) (hfit : fits ty v = true) (hl : k < fs.length) (hset : (cellsOf Γ ci o (g o)).set 0 (a, .inr (ci, fs.set k v)) = cellsOf Γ ci o r') (hg : ug g o r' = g')
    (hdg : decode cc pc = .ok (.putfield index, 3)) (kk : ∀ (H1 : Heap) (locs1 : List Loc), Wo Γ g' H1 → va_S A H0 H1 locs1 → W p l e R s m args below meth c H1 locs1 cells slots Q (F0 m (pc + 3) ls rest)) : W p l e R s m args below meth c H locs cells slots Q (F0 m pc ls (v :: .ref a :: rest)) := by
  subst hg
  exact wo_put hexec hb hts hin ty0 hty hnm hown hE (wo_gs hw) hS0 hk0 he hc k hk hlink hsame hfin hd hn hfit hl hset hdg kk
theorem wo_iastG (hexec : p.tables.exec = Jvm.exec) (hb : c.code = cc) (hE : Ev Γ A s) (hw : Wo Γ g H) (hS : va_S A H0 H locs) (hk : kd Γ o = some ci) {q0 n : Nat} {f : Nat → Int32} (ha : (cellsOf Γ ci o (g o))[q0]? = some (a, .inl (ac Γ 0, n, .inl f))) {i x : Int32} (hin : vp_in i n) (hset : (cellsOf Γ ci o (g o)).set q0 (a, .inl (ac Γ 0, n, .inl (upd f i.toNatClampNeg x))) = cellsOf Γ ci o r') (hg : ug g o r' = g') (hdg : decode cc pc = .ok (.iastore, 1))
    (kk : ∀ (H1 : Heap) (locs1 : List Loc), Wo Γ g' H1 → va_S A H0 H1 locs1 → W p l e R s m args below meth c H1 locs1 cells slots Q (F0 m (pc + 1) ls rest)) : W p l e R s m args below meth c H locs cells slots Q (F0 m pc ls (.int x :: .int i :: .ref a :: rest)) := by
  subst hg
  exact wo_iast hexec hb hE (wo_gs hw) hS hk ha hin hset hdg kk
/-- a private static of the nest's host -/
theorem cl_SN {y : MethodName} {cy : ByteArray} {nL nL' n index F L : Nat} {ret : Option FieldType} {v : Value} {own host : String} {As : List Value} {st0 : List Value} (hM : Kt l y cy nL' ret F L Γ A G G' As (some v)) (S : CallFix p m c cc nL s args WS own) (hE : Ev Γ A s) (hw : Wo Γ G H) (hS : va_S A s.heap H locs)
    (w1 : va_Nw (.methodLinkNest own index y host) s) (w2 : Cond.static y ∈ WS) (w3 : Cond.initialized y.cls ∈ WS) (w4 : Cond.code y cy nL' ret ∈ WS) (hd : y.cls ≠ "java/lang/invoke/MethodHandle" ∧ y.cls ≠ "java/lang/invoke/VarHandle" ∧ (parseMethodDescriptor y.desc).map (fun d => d.parameters.length) = some n) (hR : F + 1 ≤ R.frames ∧ 8 + (nL' + 11) + L ≤ R.locals)
    (hst : st0 = As.reverse ++ rest) (hn : As.length = n) (hsize : ls.size = nL) (hroom : (rest.map fun v => v.category).sum ≤ 8) (hdg : decode cc pc = .ok (.invokestatic index, 3))
    (kk : ∀ (H1 : Heap) (locs1 : List Loc), Wo Γ G' H1 → va_S A s.heap H1 locs1 → W p l e R s m args below meth c H1 locs1 0 0 Q (F0 m (pc + 3) ls (v :: rest))) : W p l e R s m args below meth c H locs 0 0 Q (F0 m pc ls st0) :=
  cl_go (y := y) (va_runSN (As := As) (rest := rest) S hM ⟨va_cnB n S.2.2.2.2 (ws_in w4) rfl rfl rfl w1 (S.2.2.2.2 _ w3) hd hR, S.2.2.2.2 _ w2, trivial⟩ ⟨pre_blind, fun U hU hW => ⟨rfl, hE.warm hW hU hS, by rw [hU]; exact hw⟩⟩ rfl hn hsize hst (lv_room hroom) hdg ⟨Nat.zero_le _, Nat.zero_le _⟩) hS kk
/-- a method of a constant text -/
theorem cl_T {y : MethodName} {cy : ByteArray} {nL nL' n index F L i : Nat} {ret : Option FieldType} {v : Value} {own : String} {As : List Value} {st0 : List Value} (hi : i < 17) (hM : Kt l y cy nL' ret F L Γ A G G' (.ref (kK Γ i) :: As) (some v)) (S : CallFix p m c cc nL s args WS own) (hE : Ev Γ A s) (hw : Wo Γ G H) (hS : va_S A s.heap H locs)
    (w1 : Cond.methodLink own index y ∈ WS) (w2 : Cond.instanceMethod y ∈ WS) (w3 : Cond.selects "java/lang/String" y y ∈ WS) (w5 : Cond.initialized y.cls ∈ WS) (w4 : Cond.code y cy nL' ret ∈ WS) (hd : y.cls ≠ "java/lang/invoke/MethodHandle" ∧ y.cls ≠ "java/lang/invoke/VarHandle" ∧ (parseMethodDescriptor y.desc).map (fun d => d.parameters.length) = some n) (hR : F + 1 ≤ R.frames ∧ 8 + (nL' + 11) + L ≤ R.locals)
    (hst : st0 = As.reverse ++ .ref (kK Γ i) :: rest) (hn : As.length = n) (hsize : ls.size = nL) (hroom : (rest.map fun v => v.category).sum ≤ 8) (hdg : decode cc pc = .ok (.invokevirtual index, 3))
    (kk : ∀ (H1 : Heap) (locs1 : List Loc), Wo Γ G' H1 → va_S A s.heap H1 locs1 → W p l e R s m args below meth c H1 locs1 0 0 Q (F0 m (pc + 3) ls (v :: rest))) : W p l e R s m args below meth c H locs 0 0 Q (F0 m pc ls st0) := by
  have hO := (hE.2.2.2.2.2.2.1.1 i hi).1.kept hS.2.1
  obtain ⟨cell, h1, h2, h3, h4⟩ := hO
  exact cl_go (y := y) (va_runV (C := "java/lang/String") (b := kK Γ i) (As := As) (rest := rest) S hM ⟨callB_of n S.2.2.2.2 (ws_in w4) rfl rfl rfl (S.2.2.2.2 _ w5) (S.2.2.2.2 _ w1) hd hR, S.2.2.2.2 _ w2, S.2.2.2.2 _ w3⟩ ⟨pre_blind, ⟨cell, h1, h2, h3⟩, fun U hU hW => ⟨rfl, hE.warm hW hU hS, by rw [hU]; exact hw⟩⟩ rfl hn hsize hst (lv_room hroom) hdg ⟨Nat.zero_le _, Nat.zero_le _⟩) hS kk
theorem rt_n {v : Int32} {y : MethodName} {nL : Nat} {ty : FieldType} (C : Cx p s m args meth c y cc nL (some ty) Γ A) (hv : narrow ty (.int v) = .int v) (hw : Wo Γ G H) (hS : va_S A s.heap H locs) (hdg : decode cc pc = .ok (.ireturn, 1)) : W p l e R s m args below meth c H locs 0 0 (MQ below (QK Γ A G (some (.int v))) args s 0 0 A) (F0 m pc ls [.int v]) := by
  obtain ⟨hx, hb, hml, hr, hown, hts, hlocks, hE⟩ := C
  exact W.zret hx hb hr hv (fun t ht hW => ⟨rfl, by rw [ht]; exact hw, hS.F ht⟩) hS.2.2 hdg hlocks
theorem rt_a {x : Nat} {y : MethodName} {nL : Nat} {n : String} (C : Cx p s m args meth c y cc nL (some (.object n)) Γ A) (hw : Wo Γ G H) (hS : va_S A s.heap H locs) (hdg : decode cc pc = .ok (.areturn, 1)) : W p l e R s m args below meth c H locs 0 0 (MQ below (QK Γ A G (some (.ref x))) args s 0 0 A) (F0 m pc ls [.ref x]) := by
  obtain ⟨hx, hb, hml, hr, hown, hts, hlocks, hE⟩ := C
  exact W.aret hx hb hr (Or.inl ⟨n, rfl⟩) (Or.inr ⟨x, rfl⟩) (fun t ht hW => ⟨rfl, by rw [ht]; exact hw, hS.F ht⟩) hS.2.2 hdg hlocks
theorem rt_0 {y : MethodName} {nL : Nat} {n : String} (C : Cx p s m args meth c y cc nL (some (.object n)) Γ A) (hw : Wo Γ G H) (hS : va_S A s.heap H locs) (hdg : decode cc pc = .ok (.areturn, 1)) : W p l e R s m args below meth c H locs 0 0 (MQ below (QK Γ A G (some .null)) args s 0 0 A) (F0 m pc ls [.null]) := by
  obtain ⟨hx, hb, hml, hr, hown, hts, hlocks, hE⟩ := C
  exact W.aret hx hb hr (Or.inl ⟨n, rfl⟩) (Or.inl rfl) (fun t ht hW => ⟨rfl, by rw [ht]; exact hw, hS.F ht⟩) hS.2.2 hdg hlocks
theorem wo_copy (hexec : p.tables.exec = Jvm.exec) (hb : c.code = cc) (hml : c.maxLocals = ls.size) {own : String} {index : Nat} (hown : s.vm.findClass own = some m.cls) (hlink : (Cond.methodLink own index arraycopyName).before args s = true) (hnat : (Cond.native arraycopyName).before args s = true) (hstat : (Cond.static arraycopyName).before args s = true) (hini : (Cond.initialized "java/lang/System").before args s = true)
    (hE : Ev Γ A s) (hw : Wo Γ (ug G o r) H) (hS : va_S A H0 H locs) (hk : kd Γ o = some ci) {a0 t n0 n1 q1 : Nat} {f g : Nat → Int32} {ty : FieldType} (hc0 : H[a0]? = some (vp_cell (ac Γ t) (n0, .inl f))) (ha1 : (cellsOf Γ ci o r)[q1]? = some (a, .inl (ac Γ t, n1, .inl g))) (ht : (tyl Γ)[t]? = some (ac Γ t, ty)) (hprim : refKind ty = false)
    {sp dp n : Int32} (hok : cpOK sp dp n n0 n1 = true) (hfit : ∀ i, i < n.toNatClampNeg → fits ty (.int (f (sp.toNatClampNeg + i))) = true) (hset : (cellsOf Γ ci o r).set q1 (a, .inl (ac Γ t, n1, .inl (va_cpy f g sp.toNatClampNeg dp.toNatClampNeg n.toNatClampNeg))) = cellsOf Γ ci o r')
    (hframes : 1 ≤ R.frames) (hlocals : (rest.map fun v => v.category).sum + (nativeFrameWords "java/lang/System" "arraycopy" 5 + 11) ≤ R.locals) (hdg : decode cc pc = .ok (.invokestatic index, 3))
    (kk : ∀ (H1 : Heap) (locs1 : List Loc), Wo Γ (ug G o r') H1 → va_S A H0 H1 locs1 → W p l e R s m args below meth c H1 locs1 cells slots Q (F0 m (pc + 3) ls rest)) : W p l e R s m args below meth c H locs cells slots Q (F0 m pc ls (.int n :: .int dp :: .ref a :: .int sp :: .ref a0 :: rest)) := by
  obtain ⟨hK, hap, hNest, hWF, hSx⟩ := hE
  obtain ⟨h1, h2, h3, h4, h5⟩ := cpOK_of hok
  have hP := wo_me hw hk
  have hD := hap.D hk r
  have nn : ∀ z : Int32, ¬ z < 0 → z.toInt = (z.toNatClampNeg : Int) := by
    intro z hz
    have hz0 : (0 : Int) ≤ z.toInt := by
      have := Int32.not_lt.mp hz
      simpa using Int32.le_iff_toInt_le.mp this
    show z.toInt = ((z.toInt.toNat : Nat) : Int)
    omega
  intro T hT X
  have hc1 : H[a]? = some (vp_cell (ac Γ t) (n1, .inl g)) := hP q1 _ ha1
  obtain ⟨-, k0, hk0, cm0, hkk0⟩ := (hK.2 t _ ht).1 n0 (fun j => .int (f j))
  obtain ⟨-, k1, hk1, cm1, hkk1⟩ := (hK.2 t _ ht).1 n1 (fun j => .int (g j))
  obtain ⟨vm', X', step⟩ := X.arraycopy hexec hown hlink hnat hstat hini (src := a0) (dst := a) (cs := vp_cell (ac Γ t) (n0, .inl f)) (cd := vp_cell (ac Γ t) (n1, .inl g)) (srcPos := sp) (destPos := dp) (n := n) (by rw [hT]; exact hc0) (by rw [hT]; exact hc1)
    (fun _ h => by cases h) (fun _ h => by cases h) (fun h => by cases h) (fun h => by cases h) hk0 hk1 hkk0 hkk1 (by simp [hprim]) h1 h2 h3
    (by rw [nn sp h1, nn n h3]; show ¬ _ > ((arrV (ac Γ t) n0 (fun j => .int (f j))).slots.size : Int); rw [arrV_size]; omega)
    (by rw [nn dp h2, nn n h3]; show ¬ _ > ((arrV (ac Γ t) n1 (fun j => .int (g j))).slots.size : Int); rw [arrV_size]; omega)
    (fun vm₁ _ i hi => by
      have e : (vp_cell (ac Γ t) (n0, .inl f)).slots.getD (sp.toNatClampNeg + i) .null = .int (f (sp.toNatClampNeg + i)) := by
        show (arrV (ac Γ t) n0 (fun j => .int (f j))).slots.getD _ _ = _
        rw [Array.getD_eq_getD_getElem?, arrV_read _ _ (by omega)]
        rfl
      refine ⟨?_, ?_⟩
      · rw [e]
        exact hfit i hi
      · rw [e]
        exact trivial)
    (g := F0 m pc ls (.int n :: .int dp :: .ref a :: .int sp :: .ref a0 :: rest)) rfl (by rw [hml]) (rest := rest) rfl (by rw [hb]; exact hdg) hframes (by show 2 * 0 + _ + _ ≤ _; omega)
  have e1 : copied (vp_cell (ac Γ t) (n0, .inl f)) (vp_cell (ac Γ t) (n1, .inl g)) sp dp n = vp_cell (ac Γ t) (n1, .inl (va_cpy f g sp.toNatClampNeg dp.toNatClampNeg n.toNatClampNeg)) := va_copied (fun z => .int z) (ac Γ t) (ac Γ t) f g h4
  rw [e1] at X' step
  have hl : a < H.size := (Array.getElem?_eq_some_iff.mp hc1).1
  have hheap : ((T.setVm vm').setCell a (vp_cell (ac Γ t) (n1, .inl (va_cpy f g sp.toNatClampNeg dp.toNatClampNeg n.toNatClampNeg)))).heap = H.setIfInBounds a (vp_cell (ac Γ t) (n1, .inl (va_cpy f g sp.toNatClampNeg dp.toNatClampNeg n.toNatClampNeg))) := by rw [← hT]; rfl
  have oq : ∀ q : Nat, q ≠ a → (H.setIfInBounds a (vp_cell (ac Γ t) (n1, .inl (va_cpy f g sp.toNatClampNeg dp.toNatClampNeg n.toNatClampNeg))))[q]? = H[q]? := fun q hq => by simp [Array.getElem?_setIfInBounds, Ne.symm hq]
  obtain ⟨t', a1, b1⟩ := kk _ _ (wo_upd (e := .inl (ac Γ t, n1, .inl (va_cpy f g sp.toNatClampNeg dp.toNatClampNeg n.toNatClampNeg))) hw hap hk ha1 (show (H.setIfInBounds a _)[a]? = some _ by simp [Array.getElem?_setIfInBounds, hl]) oq hset) ⟨by simp; exact hS.1, fun q g1 g2 => by
      rw [oq q (fun e => g2 (by rw [e]; exact hD.2 q1 _ ha1))]
      exact hS.2.1 q g1 g2, fun q hq => by
      rcases List.mem_append.mp hq with h | h
      · exact hS.2.2 q h
      · obtain ⟨z, -, hz⟩ := List.mem_map.mp h
        rw [← hz]
        exact hD.2 q1 _ ha1⟩ _ hheap X'
  exact ⟨t', step t' a1, b1⟩
end RULES2
set_option maxRecDepth 100000 in
set_option maxHeartbeats 4000000 in
/-- Arrays.fill(int[], int): from place i on -/
theorem wfill {p : Program} {l : Launch} {e : Env} {s : State} {m : MethodId} {args : Array Value} {below : List Frame} {meth : Method} {c : Code} {Γ : Gm} {A : Nat → Prop} {G : Gs} {o ci n k q0 a : Nat} {r : Rec} {v : Int32} (C : Cx p s m args meth c yJ7_fill_53178 cJ7_fill_53178 4 none Γ A) (hk : kd Γ o = some ci) (hn : n < 2 ^ 31) (ha : ∀ r, (cellsOf Γ ci o r)[q0]? = some (a, .inl (ac Γ 0, n, .inl (ga r k)))) (hs : ∀ r f, (cellsOf Γ ci o r).set q0 (a, .inl (ac Γ 0, n, .inl f)) = cellsOf Γ ci o (sa r k f)) :
    ∀ (d i : Nat), i + d = n → Wk p l e { frames := 0, cells := 0, slots := 0, locals := 0 } s m args below meth c Γ A (ug G o (sa r k (fl n v (ga r k)))) none 5 4 [(0, .ref a), (1, .int v), (2, .int (nI i)), (3, .int (nI n))] [] (ug G o (sa r k (fl i v (ga r k)))) := by
  obtain ⟨hx, hb, hml, hr, hown, htw, hlocks, hE⟩ := id C
  intro d
  induction d with
  | zero =>
    intro i hi H locs ls hw hS hl
    have hin : i = n := by omega
    subst hin
    refine lv_iload_n hx hb dJ7_fill_53178_5 rfl (lv_at hl 2 rfl) ?_
    refine lv_iload_n hx hb dJ7_fill_53178_6 rfl (lv_at hl 3 rfl) ?_
    refine lv_icmp_ge (tgt := 20) hx hb dJ7_fill_53178_7 (by decide) (fun c1 => ?_) (fun c1 => ?_)
    · exact rt_v C hw hS dJ7_fill_53178_20
    · exact absurd (nI_le (Nat.le_refl i) hn) c1
  | succ d ih =>
    intro i hi H locs ls hw hS hl
    have hlt : i < n := by omega
    refine lv_iload_n hx hb dJ7_fill_53178_5 rfl (lv_at hl 2 rfl) ?_
    refine lv_iload_n hx hb dJ7_fill_53178_6 rfl (lv_at hl 3 rfl) ?_
    refine lv_icmp_ge (tgt := 20) hx hb dJ7_fill_53178_7 (by decide) (fun c1 => ?_) (fun c1 => ?_)
    · exact absurd c1 (nI_ge hlt hn)
    · refine lv_aload_n hx hb dJ7_fill_53178_10 rfl (lv_at hl 0 rfl) ?_
      refine lv_iload_n hx hb dJ7_fill_53178_11 rfl (lv_at hl 2 rfl) ?_
      refine lv_iload_n hx hb dJ7_fill_53178_12 rfl (lv_at hl 1 rfl) ?_
      refine wo_iast hx hb hE hw hS hk (q0 := q0) (r' := sa r k (fl (i + 1) v (ga r k))) (ha _) (vp_in_nI hlt hn) (by rw [hs, sa_sa, ga_sa, nI_clamp (Nat.lt_trans hlt hn), fl_s]) dJ7_fill_53178_13 (fun H locs hw hS => ?_)
      refine lv_iinc (v := nI (i + 1)) (lv' := [(2, .int (nI (i + 1))), (0, .ref a), (1, .int v), (3, .int (nI n))]) hx hb dJ7_fill_53178_14 hl (k := 2) rfl (nI_1 i) (by decide) rfl (fun ls hl => ?_)
      refine lv_goto (tgt := 5) hx hb dJ7_fill_53178_17 (by decide) ?_
      exact ih (i + 1) (by omega) H locs ls hw hS (lv_sub hl [1, 2, 0, 3] rfl)
set_option maxRecDepth 100000 in
set_option maxHeartbeats 4000000 in
theorem kfill {l : Launch} {Γ : Gm} {A : Nat → Prop} {G : Gs} {o ci n k q0 a : Nat} {r : Rec} {v : Int32} (hk : kd Γ o = some ci) (hn : n < 2 ^ 31) (ha : ∀ r, (cellsOf Γ ci o r)[q0]? = some (a, .inl (ac Γ 0, n, .inl (ga r k)))) (hs : ∀ r f, (cellsOf Γ ci o r).set q0 (a, .inl (ac Γ 0, n, .inl f)) = cellsOf Γ ci o (sa r k f)) : Kt l yJ7_fill_53178 cJ7_fill_53178 4 none 0 0 Γ A (ug G o r) (ug G o (sa r k (fl n v (ga r k)))) [.ref a, .int v] none := by
  refine kt_of (by decide) (Nat.le_of_ble_eq_true rfl) (fun p e s m args below meth c C => ?_)
  obtain ⟨hx, hb, hml, hr, hown, htw, hlocks, hE⟩ := id C
  intro H locs ls hw hS hl
  have hl : lv_has ls 4 [(0, .ref a), (1, .int v)] := hl
  refine lv_iconst (v := 0) hx hb dJ7_fill_53178_0 (by decide) ?_
  refine lv_istore_n (lv' := [(2, .int 0), (0, .ref a), (1, .int v)]) hx hb dJ7_fill_53178_1 rfl hl (by decide) rfl (fun ls hl => ?_)
  refine lv_aload_n hx hb dJ7_fill_53178_2 rfl (lv_at hl 1 rfl) ?_
  refine va_alen hx hb hE.1 (wo_me hw hk) q0 0 (ha r) rfl (v := nI n) rfl dJ7_fill_53178_3 ?_
  refine lv_istore_n (lv' := [(3, .int (nI n)), (2, .int 0), (0, .ref a), (1, .int v)]) hx hb dJ7_fill_53178_4 rfl hl (by decide) rfl (fun ls hl => ?_)
  refine wfill (G := G) (r := r) (v := v) C hk hn ha hs n 0 (Nat.zero_add n) H locs ls ?_ hS (lv_sub hl [2, 3, 1, 0] rfl)
  rw [fl_0, sa_ga]
  exact hw
