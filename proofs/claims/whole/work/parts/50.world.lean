/-! worlds out of lists of cells -/
theorem va_P.left {D : va_G} {cl : List vw_C} {w1 w2 : va_W} {H : Heap} (h : va_P D cl (w1 ++ w2) H) : va_P D cl w1 H := fun k q hk => h k q (by rw [List.getElem?_append_left (List.getElem?_eq_some_iff.mp hk).1]; exact hk)
theorem va_P.right {D : va_G} {cl : List vw_C} {w1 w2 : va_W} {H : Heap} (h : va_P D cl (w1 ++ w2) H) : va_P D cl w2 H := fun k q hk => h (w1.length + k) q (by rw [List.getElem?_append_right (Nat.le_add_right _ _), Nat.add_sub_cancel_left]; exact hk)
theorem va_D.parts {A : Nat → Prop} {w1 w2 : va_W} (h : va_D A (w1 ++ w2)) : va_D A w1 ∧ va_D A w2 ∧ ∀ (i j : Nat) (p q : Nat × va_E), w1[i]? = some p → w2[j]? = some q → p.1 ≠ q.1 := by
  have a1 : ∀ {k : Nat} {q : Nat × va_E}, w1[k]? = some q → (w1 ++ w2)[k]? = some q := fun {k q} hk => by rw [List.getElem?_append_left (List.getElem?_eq_some_iff.mp hk).1]; exact hk
  have a2 : ∀ {k : Nat} {q : Nat × va_E}, w2[k]? = some q → (w1 ++ w2)[w1.length + k]? = some q := fun {k q} hk => by rw [List.getElem?_append_right (Nat.le_add_right _ _), Nat.add_sub_cancel_left]; exact hk
  refine ⟨⟨fun i j p q hi hj e => h.1 i j p q (a1 hi) (a1 hj) e, fun k q hk => h.2 k q (a1 hk)⟩, ⟨fun i j p q hi hj e => ?_, fun k q hk => h.2 _ q (a2 hk)⟩, fun i j p q hi hj e => ?_⟩
  · have := h.1 _ _ p q (a2 hi) (a2 hj) e
    omega
  · have h1 := h.1 _ _ p q (a1 hi) (a2 hj) e
    have h2 := (List.getElem?_eq_some_iff.mp hi).1
    omega
def zr : Rec := (fun _ => 0, fun _ _ => 0, fun _ => 0, fun _ => 0)
theorem cl_adr (Γ : Gm) (ci o : Nat) (r r' : Rec) : (cellsOf Γ ci o r).map Prod.fst = (cellsOf Γ ci o r').map Prod.fst := by
  unfold cellsOf
  split <;> rfl
theorem cl_adr_at {Γ : Gm} {ci o i : Nat} {r : Rec} {q : Nat × va_E} (r' : Rec) (h : (cellsOf Γ ci o r)[i]? = some q) : ∃ q', (cellsOf Γ ci o r')[i]? = some q' ∧ q'.1 = q.1 := by
  have h1 : ((cellsOf Γ ci o r).map Prod.fst)[i]? = some q.1 := by rw [List.getElem?_map, h]; rfl
  rw [cl_adr Γ ci o r r', List.getElem?_map] at h1
  cases h2 : (cellsOf Γ ci o r')[i]? with
  | none => rw [h2] at h1; cases h1
  | some q' => rw [h2] at h1; exact ⟨q', rfl, Option.some.inj h1⟩
def cAll (Γ : Gm) (G : Gs) : List (Nat × Nat) → va_W
  | [] => []
  | x :: l => cellsOf Γ x.2 x.1 (G x.1) ++ cAll Γ G l
theorem cAll_P {D : va_G} {cl : List vw_C} {Γ : Gm} {G : Gs} {H : Heap} : ∀ {l : List (Nat × Nat)}, va_P D cl (cAll Γ G l) H → ∀ x ∈ l, va_P D cl (cellsOf Γ x.2 x.1 (G x.1)) H
  | [], _, x, hx => absurd hx List.not_mem_nil
  | y :: l, h, x, hx => by
    rcases List.mem_cons.mp hx with rfl | hx
    · exact va_P.left h
    · exact cAll_P (va_P.right h) x hx
theorem cAll_in {Γ : Gm} {G : Gs} {q : Nat × va_E} : ∀ {l : List (Nat × Nat)} {x : Nat × Nat} {i : Nat}, x ∈ l → (cellsOf Γ x.2 x.1 (G x.1))[i]? = some q → ∃ j : Nat, (cAll Γ G l)[j]? = some q
  | [], x, i, hx, _ => absurd hx List.not_mem_nil
  | y :: l, x, i, hx, h => by
    rcases List.mem_cons.mp hx with rfl | hx
    · exact ⟨i, by rw [cAll, List.getElem?_append_left (List.getElem?_eq_some_iff.mp h).1]; exact h⟩
    · obtain ⟨j, hj⟩ := cAll_in hx h
      exact ⟨_, by rw [cAll, List.getElem?_append_right (Nat.le_add_right _ j), Nat.add_sub_cancel_left]; exact hj⟩
theorem cAll_D {A : Nat → Prop} {Γ : Gm} {G : Gs} : ∀ {l : List (Nat × Nat)}, va_D A (cAll Γ G l) → ∀ x ∈ l, ∀ y ∈ l, ∀ (i i' : Nat) (q q' : Nat × va_E), (cellsOf Γ x.2 x.1 (G x.1))[i]? = some q → (cellsOf Γ y.2 y.1 (G y.1))[i']? = some q' → q.1 = q'.1 → x = y ∧ i = i'
  | [], _, x, hx, _, _, _, _, _, _, _, _, _ => absurd hx List.not_mem_nil
  | z :: l, h, x, hx, y, hy, i, i', q, q', h1, h2, e => by
    obtain ⟨d1, d2, d3⟩ := va_D.parts h
    rcases List.mem_cons.mp hx with ex | hx1
    · rcases List.mem_cons.mp hy with ey | hy1
      · subst ex
        subst ey
        exact ⟨rfl, d1.1 i i' q q' h1 h2 e⟩
      · obtain ⟨j, hj⟩ := cAll_in hy1 h2
        subst ex
        exact absurd e (d3 i j q q' h1 hj)
    · rcases List.mem_cons.mp hy with ey | hy1
      · obtain ⟨j, hj⟩ := cAll_in hx1 h1
        subst ey
        exact absurd e.symm (d3 i' j q' q h2 hj)
      · exact cAll_D d2 x hx1 y hy1 i i' q q' h1 h2 e
theorem ap_of {Γ : Gm} {G : Gs} {A : Nat → Prop} {l : List (Nat × Nat)} (hkd : ∀ o ci, kd Γ o = some ci → (o, ci) ∈ l) (hD : va_D A (cAll Γ G l)) : Ap Γ A := by
  refine ⟨fun o ci o' ci' i i' r r' q q' hk hk' h h' e => ?_, fun o ci i r q hk h => ?_⟩
  · obtain ⟨p, hp, ep⟩ := cl_adr_at (G o) h
    obtain ⟨p', hp', ep'⟩ := cl_adr_at (G o') h'
    have := cAll_D hD (o, ci) (hkd o ci hk) (o', ci') (hkd o' ci' hk') i i' p p' hp hp' (by rw [ep, ep', e])
    exact ⟨congrArg Prod.fst this.1, this.2⟩
  · obtain ⟨p, hp, ep⟩ := cl_adr_at (G o) h
    obtain ⟨j, hj⟩ := cAll_in (hkd o ci hk) hp
    rw [← ep]
    exact hD.2 j p hj
theorem wo_of {Γ : Gm} {G : Gs} {H : Heap} {l : List (Nat × Nat)} (hkd : ∀ o ci, kd Γ o = some ci → (o, ci) ∈ l) (hP : va_P (dd Γ) vwCl (cAll Γ G l) H) : Wo Γ G H := fun o ci hk => cAll_P hP (o, ci) (hkd o ci hk)
/-- new objects beside old ones -/
theorem ap_ext {Γ Γ' : Gm} {G : Gs} {A A' : Nat → Prop} {l : List (Nat × Nat)} {h0 : Nat} (hap : Ap Γ A) (hkd : ∀ o ci, kd Γ' o = some ci → (o, ci) ∈ l ∨ (kd Γ o = some ci ∧ ∀ r, (cellsOf Γ' ci o r).map Prod.fst = (cellsOf Γ ci o r).map Prod.fst)) (hD : va_D A' (cAll Γ' G l)) (hA1 : ∀ q, A' q → h0 ≤ q) (hA2 : ∀ q, A' q → A q) (hold : ∀ (o ci i : Nat) (r : Rec) (q : Nat × va_E), kd Γ o = some ci → (cellsOf Γ ci o r)[i]? = some q → q.1 < h0) : Ap Γ' A := by
  have mv : ∀ {ci o i : Nat} {r : Rec} {q : Nat × va_E}, (∀ r, (cellsOf Γ' ci o r).map Prod.fst = (cellsOf Γ ci o r).map Prod.fst) → (cellsOf Γ' ci o r)[i]? = some q → ∃ q', (cellsOf Γ ci o r)[i]? = some q' ∧ q'.1 = q.1 := by
    intro ci o i r q hm h
    have h1 : ((cellsOf Γ' ci o r).map Prod.fst)[i]? = some q.1 := by rw [List.getElem?_map, h]; rfl
    rw [hm r, List.getElem?_map] at h1
    cases h2 : (cellsOf Γ ci o r)[i]? with
    | none => rw [h2] at h1; cases h1
    | some q' => rw [h2] at h1; exact ⟨q', rfl, Option.some.inj h1⟩
  have new : ∀ {ci o i : Nat} {r : Rec} {q : Nat × va_E}, (o, ci) ∈ l → (cellsOf Γ' ci o r)[i]? = some q → A' q.1 := by
    intro ci o i r q hm h
    obtain ⟨p, hp, ep⟩ := cl_adr_at (G o) h
    obtain ⟨j, hj⟩ := cAll_in hm hp
    rw [← ep]
    exact hD.2 j p hj
  refine ⟨fun o ci o' ci' i i' r r' q q' hk hk' h h' e => ?_, fun o ci i r q hk h => ?_⟩
  · rcases hkd o ci hk with m1 | ⟨k1, m1⟩
    · rcases hkd o' ci' hk' with m2 | ⟨k2, m2⟩
      · obtain ⟨p, hp, ep⟩ := cl_adr_at (G o) h
        obtain ⟨p', hp', ep'⟩ := cl_adr_at (G o') h'
        have := cAll_D hD (o, ci) m1 (o', ci') m2 i i' p p' hp hp' (by rw [ep, ep', e])
        exact ⟨congrArg Prod.fst this.1, this.2⟩
      · obtain ⟨p', hp', ep'⟩ := mv m2 h'
        have l1 := hA1 _ (new m1 h)
        have l2 := hold o' ci' i' r' p' k2 hp'
        omega
    · obtain ⟨p, hp, ep⟩ := mv m1 h
      rcases hkd o' ci' hk' with m2 | ⟨k2, m2⟩
      · have l1 := hA1 _ (new m2 h')
        have l2 := hold o ci i r p k1 hp
        omega
      · obtain ⟨p', hp', ep'⟩ := mv m2 h'
        exact hap.1 o ci o' ci' i i' r r' p p' k1 k2 hp hp' (by rw [ep, ep', e])
  · rcases hkd o ci hk with m1 | ⟨k1, m1⟩
    · exact hA2 _ (new m1 h)
    · obtain ⟨p, hp, ep⟩ := mv m1 h
      rw [← ep]
      exact hap.2 o ci i r p k1 hp
theorem up2 {a b : Nat} (f : Nat → Nat) (h0 : f 0 = a) (h1 : f 1 = b) : va_up (va_up (fun _ => none) 0 (some a)) 1 (some b) = fun i => if i < 2 then some (f i) else none := by
  funext i
  match i with
  | 0 => simp [va_up, h0]
  | 1 => simp [va_up, h1]
  | i + 2 => simp [va_up]
def lk : List (Nat × Nat) → Nat → Nat
  | [], _ => 0
  | x :: l, o => if o = x.1 then x.2 else lk l o
def lko : List (Nat × Nat) → Nat → Option Nat
  | [], _ => none
  | x :: l, o => if o = x.1 then some x.2 else lko l o
theorem lko_mem : ∀ {l : List (Nat × Nat)} {o c : Nat}, lko l o = some c → (o, c) ∈ l
  | [], o, c, h => by cases h
  | x :: l, o, c, h => by
    unfold lko at h
    by_cases e : o = x.1
    · rw [if_pos e] at h
      cases h
      rw [e]
      exact List.mem_cons_self
    · rw [if_neg e] at h
      exact List.mem_cons_of_mem _ (lko_mem h)
section WNEW
variable {p : Program} {l : Launch} {e : Env} {R : Room} {s : State} {m : MethodId} {args : Array Value} {below : List Frame} {meth : Method} {c : Code} {H : Heap} {locs : List Loc} {cells slots : Nat} {Q : State → Prop}
variable {cc : ByteArray} {pc : Nat} {ls : Array Slot} {rest : List Value} {Γ : Gm} {A : Nat → Prop} {a : Nat} {H0 : Heap} {g g' : Gs} {r r' : Rec} {o ci : Nat}
theorem wo_lt (hw : Wo Γ g H) : ∀ (o ci i : Nat) (r : Rec) (q : Nat × va_E), kd Γ o = some ci → (cellsOf Γ ci o r)[i]? = some q → q.1 < H.size := by
  intro o ci i r q hk h
  obtain ⟨p, hp, ep⟩ := cl_adr_at (g o) h
  rw [← ep]
  exact (hw o ci hk i p hp).lt
theorem wo_kept {H1 : Heap} (hw : Wo Γ g H) (hq : ∀ q : Nat, q < H.size → H1[q]? = H[q]?) : Wo Γ g H1 := fun o ci hk => (hw o ci hk).kept (fun k q hq' => hq q.1 (wo_lt hw o ci k (g o) q hk hq'))
theorem wo_new (hexec : p.tables.exec = Jvm.exec) (hb : c.code = cc) {own C : String} {T : u_T} {N index : Nat} {Ts : List Cond} (hts : ∀ w ∈ Ts, w.before args s = true) (hin : ∀ w ∈ u_ws C T N, w ∈ Ts) (ty : Nat → FieldType) (hty : ∀ k, k < N → parseFieldDescriptor (T k).2.2.1 = some (ty k)) (hown : s.vm.findClass own = some m.cls) (hcl : (Cond.classLink own index C).before args s = true) (hinst : (Cond.instantiable C N).before args s = true) (hini : (Cond.initialized C).before args s = true)
    (hE : Ev Γ A s) (hw : Wo Γ g H) (hS : va_S A H0 H locs) (hc : vwCl[ci]? = some (C, T, N)) {fs : List Value} (hfs : ∀ j, j < N → defaultValue (ty j) = vp_V fs j) (hcells : cells + 1 ≤ R.cells) (hslots : slots + N ≤ R.slots) (hdg : decode cc pc = .ok (.new index, 3))
    (kk : ∀ (H1 : Heap), H1.size = H.size + 1 → (∀ q, q < H.size → H1[q]? = H[q]?) → Wo Γ g H1 → va_P (dd Γ) vwCl [(H.size, .inr (ci, fs))] H1 → va_S A H0 H1 locs → W p l e R s m args below meth c H1 locs (cells + 1) (slots + N) Q (F0 m (pc + 3) ls (.ref H.size :: rest))) : W p l e R s m args below meth c H locs cells slots Q (F0 m pc ls rest) := by
  have hKn := hE.1.1 ci _ hc
  refine W.newcK hexec hb hown hcl hinst hini rfl hdg hcells hslots hKn.2.1 rfl fun H1 kC hkC e1 z1 o1 => ?_
  refine kk H1 z1 o1 (wo_kept hw o1) (fun k x hx => ?_) ⟨Nat.le_trans hS.1 (by omega), fun x h1 h2 => (o1 x (Nat.lt_of_lt_of_le h1 hS.1)).trans (hS.2.1 x h1 h2), hS.2.2⟩
  have hz : k < 1 := (List.getElem?_eq_some_iff.mp hx).1
  rw [show k = 0 by omega] at hx
  cases hx
  exact ⟨_, hc, (u_born ty hts hin hKn hkC e1 hty).to hfs⟩
theorem wo_aast (hexec : p.tables.exec = Jvm.exec) (hb : c.code = cc) (hE : Ev Γ A s) (hw : Wo Γ g H) (hS : va_S A H0 H locs) (hk : kd Γ o = some ci) {q0 n t0 v cv : Nat} {rc : vw_C} {vs : List Value} {f : Nat → Option Nat} (ha : (cellsOf Γ ci o (g o))[q0]? = some (a, .inl (ac Γ t0, n, .inr (.inr (.inr (.inr f)))))) (ht : (tyl Γ)[t0]? = some (ac Γ t0, .object rc.1)) (hv : va_at (dd Γ) vwCl (v, .inr (cv, vs)) H) (hc : vwCl[cv]? = some rc) {i : Int32} (hin : vp_in i n) (hset : (cellsOf Γ ci o (g o)).set q0 (a, .inl (ac Γ t0, n, .inr (.inr (.inr (.inr (va_up f i.toNatClampNeg (some v))))))) = cellsOf Γ ci o r') (hdg : decode cc pc = .ok (.aastore, 1))
    (kk : ∀ (H1 : Heap) (locs1 : List Loc), Wo Γ (ug g o r') H1 → va_S A H0 H1 locs1 → W p l e R s m args below meth c H1 locs1 cells slots Q (F0 m (pc + 1) ls rest)) : W p l e R s m args below meth c H locs cells slots Q (F0 m pc ls (.ref v :: .int i :: .ref a :: rest)) := by
  have hP := hw o ci hk
  have hD := hE.2.1.D hk (g o)
  have hlt : i.toNatClampNeg < n := Nat.not_le.mp fun q => hin (Or.inr q)
  have h0 : ¬ i < 0 := fun q => hin (Or.inl q)
  obtain ⟨r1, hr1, cellV, g1, g2, g3, -⟩ := hv
  have hcls := (hE.1.1 cv rc hc).2
  obtain ⟨kA, comp, k1, k2, k3, -⟩ := (hE.1.2 t0 _ ht).2
  have hcomp : comp = (dd Γ).1 cv := Option.some.inj (k3.symm.trans hcls.1)
  subst hcomp
  obtain ⟨kC, hkC, -⟩ := hcls.2
  refine W.aast hexec hb (hP q0 _ ha) (fun q h => by cases h) (fun h => by cases h) k1 k2 rfl hkC ⟨h0, by show _ < (arrV _ _ _).slots.size; rw [arrV_size]; exact hlt⟩ g1 (fun q h => by rw [g3] at h; cases h) (by rw [g2]; exact hkC) (by rw [g2]; exact va_assign hcls) rfl rfl hdg fun H1 e z oq => ?_
  refine kk H1 _ (wo_upd (e := .inl (ac Γ t0, n, .inr (.inr (.inr (.inr (va_up f i.toNatClampNeg (some v))))))) (wo_gs hw) hE.2.1 hk ha ?_ oq hset) (hS.put z oq (hD.2 q0 _ ha))
  show H1[a]? = some (vp_cell _ _)
  rw [e]
  rw [vp_cell_q, vp_cell_q, arrV_store]
  congr 2
  funext q
  by_cases hq : q = i.toNatClampNeg
  · subst hq
    simp [updV, va_up, va_rf]
  · simp [updV, va_up, hq]
end WNEW
