/-! THE CLAIM OUT OF ONE WALK OF THE LAW'S BODY. Your part is whole_start (and what it stands on); all else here is the same for every law, but numbers. -/
def R_law : String := "TarnishTurnsLaw"
def lw_P (b : Addr) (xs : List Int32) (args : Array Value) (s : State) : Prop := args = #[.ref b] ∧ s.IntsAt b xs ∧ xs.length ≤ 3072 ∧ (Jvm.Cond.and given_1 narrow_1).before args s = true
def lw_Q (_ : Array Value) (s : State) (o : Outcome) (t : State) : Prop := o = .returned (some (.int 1)) ∧ Framed s o t [] 600000 7302250
def lw_Z (below : List Frame) (a : Array Value) (s : State) : State → Prop := fun t => ∃ o, t.status = .running ∧ Ended t below o ∧ lw_Q a s o t
/-- the law's own end, with 1 on the stack, nothing written that was there before, its room as the claim has it -/
theorem lw_ret {p : Program} {l : Launch} {e : Env} {s : State} {m : MethodId} {below : List Frame} {meth : Method} {c : Code} {b : Nat} (hx : p.tables.exec = Jvm.exec) (hb : c.code = code) (hr : meth.sig.returnType = ret) (hlocks : meth.locks = false) {pc : Nat} {H : Heap} {ls : Array Slot} (hdg : decode code pc = .ok (.ireturn, 1)) : W p l e room_1 s m #[Value.ref b] below meth c H [] 600000 7302250 (lw_Z below #[Value.ref b] s) (F0 m pc ls [.int 1]) := by
  intro T hT X
  obtain ⟨fs, hret, hrun, hended, hW, hframe⟩ := X.leave (v := some (.int 1)) (hlocks := hlocks) (fun h => by rw [hr] at h; cases h)
  have hmeth' : T.vm.method? m = some meth := X.method'
  refine ⟨T.setFrames fs, ?_, .returned (some (.int 1)), hrun, hended, rfl, ⟨_, rfl⟩, hW, hframe⟩
  jvm_step X.here [X.here.top, hx, hb, hdg, hmeth', hr, ret, narrow_b1]
  (try refine ⟨rfl, ?_⟩); (try refine ⟨rfl, ?_⟩)
  first | (intro acts; rw [hret _ acts rfl rfl rfl]) | rw [hret _ _ rfl rfl rfl]
  exact Steps.refl _
/-- what holds at the law's entry: the machine, the code, the tables' words (any of lw_tbl by 'hts w (by decide +kernel)'), the script of L ints xs at the cell b, what the Statement gives of the start (any of its parts by flat_of_before) -/
def lw_At (p : Program) (s : State) (m : MethodId) (meth : Method) (c : Code) (b L : Nat) (xs : Nat → Int32) : Prop :=
  p.tables.exec = Jvm.exec ∧ c.code = code ∧ meth.sig.returnType = ret ∧ c.maxLocals = 4 ∧ s.vm.findClass R_law = some m.cls ∧ (∀ w ∈ lw_tbl, w.before #[Value.ref b] s = true) ∧ va_X b L xs s s.heap ∧ b < s.heap.size ∧ meth.locks = false ∧ (Jvm.Cond.and given_1 narrow_1).before #[Value.ref b] s = true
def bz (v : Int32) : Int32 := if v = 0 then 0 else 1
theorem bz_or (v : Int32) : bz v = 0 ∨ bz v = 1 := by
  unfold bz
  by_cases h : v = 0
  · exact Or.inl (if_pos h)
  · exact Or.inr (if_neg h)
theorem sl_in {i k L : Nat} {kv : Int32} (hk : kv = nI k) (h : i + k < L) (hL : L ≤ 3072) : vp_in (nI i + kv) L := by
  rw [hk, nI_add]
  exact vp_in_nI h (by omega)
theorem sl_ix {i k L : Nat} {kv : Int32} (hk : kv = nI k) (h : i + k < L) (hL : L ≤ 3072) : (nI i + kv).toNatClampNeg = i + k := by
  rw [hk, nI_add]
  exact nI_clamp (by omega)
theorem LI.move {Γ : Gm} {g g' : Gs} (h : LI Γ g) (h1 : gr (g' 901) = gr (g 901)) (h2 : isHm (gr (g' 1) 0) = true) : LI Γ g' := ⟨fun i hi hn => h.1 i hi (by rw [← h1]; exact hn), h.2.1, h.2.2.1, h.2.2.2.1, h2⟩
theorem law_gt {i L : Nat} (hi : i ≤ L) (hL : L ≤ 3072) : (Int32.ofNat L - 6 < nI i) ↔ L < i + 6 := by
  have e1 : (Int32.ofNat L - 6).toInt = (L : Int) - 6 := pk_sub_toInt (a := L) (b := 6) (by omega) (by omega)
  have e2 : (nI i).toInt = (i : Int) := nI_toInt (by omega)
  rw [Int32.lt_iff_toInt_lt, e1, e2]
  omega
section LAW
variable {p : Program} {l : Launch} {e : Env} {s : State} {m : MethodId} {args : Array Value} {below : List Frame} {meth : Method} {c : Code} {H : Heap} {locs : List Loc} {cells slots : Nat} {Q : State → Prop}
variable {cc : ByteArray} {pc : Nat} {ls : Array Slot} {rest : List Value} {Γ : Gm} {a : Nat} {g : Gs}
theorem cl_img {nL index : Nat} {own : String} {v1 : Int32} {st0 : List Value} {fin : Gs × Int32} (hLI : LI Γ g) (hf : fX9_image g v1 = some fin) (S : CallFix p m c cc nL s args WS own) (hE : Ev Γ (fun q => s.heap.size ≤ q) s) (hEk : Ek (dd Γ) (ac Γ) s) (hw : Wo Γ g H) (hS : va_S (fun q => s.heap.size ≤ q) s.heap H locs)
    (w1 : (Cond.methodLink own index yX9_image).before args s = true) (w2 : Cond.instanceMethod yX9_image ∈ WS) (w3 : Cond.selects RX9 yX9_image yX9_image ∈ WS) (w5 : Cond.initialized yX9_image.cls ∈ WS) (w4 : Cond.code yX9_image cX9_image 2 (some .boolean) ∈ WS)
    (hst : st0 = [.int v1, .ref (ad Γ 901)] ++ rest) (hsize : ls.size = nL) (hroom : (rest.map fun v => v.category).sum ≤ 8) (hdg : decode cc pc = .ok (.invokevirtual index, 3)) (hcs : cells + 37 ≤ 600000 ∧ slots + 1245 ≤ 7302250)
    (kk : ∀ (Γ' : Gm) (H1 : Heap) (locs1 : List Loc), Xt Γ Γ' → Ap Γ' (fun q => s.heap.size ≤ q) → WF Γ' → LI Γ' (imgPre g v1) → Wo Γ' fin.1 H1 → va_S (fun q => s.heap.size ≤ q) s.heap H1 locs1 → W p l e room_1 s m args below meth c H1 locs1 (cells + 37) (slots + 1245) Q (F0 m (pc + 3) ls (.int fin.2 :: rest))) : W p l e room_1 s m args below meth c H locs cells slots Q (F0 m pc ls st0) := by
  have hM := kX9_image (l := l) (Γ := Γ) (base := s.heap.size) hLI hf
  have blind : FrameBlind (va_Pc [.ref (ad Γ 901), .int v1] (fun U => s.heap.size ≤ U.heap.size ∧ Ev Γ (fun q => s.heap.size ≤ q) U ∧ Ek (dd Γ) (ac Γ) U ∧ Wo Γ g U.heap)) := fun a U g mk h => ⟨h.1, h.2.1, h.2.2.1.call, h.2.2.2.1.call, h.2.2.2.2⟩
  have hr := va_runV (cells := cells) (slots := slots) (R := room_1) (e := e) (below := below) (meth := meth) (locs := locs) (g := F0 m pc ls st0) (C := RX9) (b := ad Γ 901) (As := [.int v1]) (rest := rest) S hM ⟨callB_of 1 S.2.2.2.2 (ws_in w4) rfl rfl rfl (S.2.2.2.2 _ w5) w1 pdX9_image ⟨Nat.le_of_ble_eq_true rfl, Nat.le_of_ble_eq_true rfl⟩, S.2.2.2.2 _ w2, S.2.2.2.2 _ w3⟩ ⟨blind, va_recv hE.1 (hw _ _ (wf_901 hE)) (q0 := 0) (ci := 9) rfl rfl, fun U hU hW => ⟨rfl, by rw [hU]; exact hS.1, hE.warm hW hU hS, hEk.warm hW, by rw [hU]; exact hw⟩⟩ rfl rfl hsize hst (lv_room hroom) hdg hcs
  intro T hT X
  obtain ⟨v, st₀, t, T', L, h0, X', hL, e1, e2, ⟨hv, ⟨Γ', x1, x2, x3, x4, x5⟩, hz, hk⟩, st⟩ := hr T hT X
  cases hv
  rw [h0] at hz hk
  obtain ⟨t2, a1, b1⟩ := kk Γ' T'.heap (locs ++ L) x1 x2 x3 x4 (by rw [e1]; exact x5)
    ⟨Nat.le_trans hS.1 (by rw [e1]; exact hz), fun q h1 h2 => by rw [e1, hk q (Nat.lt_of_lt_of_le h1 hS.1) h2]; exact hS.2.1 q h1 h2, fun q hq => by
      rcases List.mem_append.mp hq with h | h
      · exact hS.2.2 q h
      · exact hL q h⟩ T' rfl X'
  exact ⟨t2, st t2 a1, b1⟩
end LAW
def Ob_feed (Inv : Gs → Prop) : Prop := ∀ (g : Gs) (a1 a2 a3 a4 a5 : Int32), Inv g → ∃ (g1 : Gs) (v : Int32) (r : Rec), fX9_feed g a1 a2 a3 a4 a5 = some (g1, v) ∧ fX10_feed (g1 1001) a1 a2 a3 a4 a5 = some (r, v) ∧ gr (g1 901) = gr (g 901) ∧ isHm (gr (g1 1) 0) = true ∧ Inv (ug g1 1001 r)
def Ob_end (Inv : Gs → Prop) : Prop := ∀ (g : Gs) (a1 : Int32), Inv g → ∃ (g1 : Gs) (v : Int32) (r : Rec), fX9_end g a1 = some (g1, v) ∧ fX10_end (g1 1001) a1 = some (r, v) ∧ gr (g1 901) = gr (g 901) ∧ isHm (gr (g1 1) 0) = true ∧ Inv (ug g1 1001 r)
def Ob_text (Inv : Gs → Prop) : Prop := ∀ (g : Gs) (a1 a2 : Int32), Inv g → ∃ (g1 : Gs) (v : Int32) (r : Rec), fX9_text g a1 a2 = some (g1, v) ∧ fX10_text (g1 1001) a1 a2 = some (r, v) ∧ gr (g1 901) = gr (g 901) ∧ isHm (gr (g1 1) 0) = true ∧ Inv (ug g1 1001 r)
def Ob_fault (Inv : Gs → Prop) : Prop := ∀ (g : Gs) (a1 : Int32), Inv g → ∃ (v : Int32) (r : Rec), fX9_fault g a1 = some v ∧ fX10_fault (g 1001) a1 = some (r, v) ∧ Inv (ug g 1001 r)
def Ob_house (Inv : Gs → Prop) : Prop := ∀ (g : Gs) (a1 a2 : Int32), Inv g → ∃ (v : Int32) (r : Rec), fX9_house g a1 a2 = some v ∧ fX10_house (g 1001) a1 a2 = some (r, v) ∧ Inv (ug g 1001 r)
def Ob_worth (Inv : Gs → Prop) : Prop := ∀ (g : Gs) (a1 a2 a3 : Int32), Inv g → ∃ (v : Int32) (r : Rec), fX9_worth g a1 a2 a3 = some v ∧ fX10_worth (g 1001) a1 a2 a3 = some (r, v) ∧ Inv (ug g 1001 r)
def Ob_deed (Inv : Gs → Prop) : Prop := ∀ (g : Gs) (a1 a2 a3 : Int32), Inv g → ∃ (v : Int32) (r : Rec), fX9_deed g a1 a2 a3 = some v ∧ fX10_deed (g 1001) a1 a2 a3 = some (r, v) ∧ Inv (ug g 1001 r)
def Ob_till (Inv : Gs → Prop) : Prop := ∀ (g : Gs) (a1 a2 : Int32), Inv g → ∃ (g1 : Gs) (v : Int32) (r : Rec), fX9_till g a1 a2 = some (g1, v) ∧ fX10_till (g1 1001) a1 a2 = some (r, v) ∧ gr (g1 901) = gr (g 901) ∧ isHm (gr (g1 1) 0) = true ∧ Inv (ug g1 1001 r)
def Ob_state (Inv : Gs → Prop) : Prop := ∀ (g : Gs) (a1 a2 a3 a4 : Int32), Inv g → ∃ (g1 : Gs) (v : Int32) (r : Rec), fX9_state g a1 a2 a3 a4 = some (g1, v) ∧ fX10_state (g1 1001) a1 a2 a3 a4 = some (r, v) ∧ gr (g1 901) = gr (g 901) ∧ isHm (gr (g1 1) 0) = true ∧ Inv (ug g1 1001 r)
def Ob_dinner (Inv : Gs → Prop) : Prop := ∀ (g : Gs) (a1 a2 a3 : Int32), Inv g → ∃ (v : Int32) (r : Rec), fX9_dinner g a1 a2 a3 = some v ∧ fX10_dinner (g 1001) a1 a2 a3 = some (r, v) ∧ Inv (ug g 1001 r)
def Ob_served (Inv : Gs → Prop) : Prop := ∀ (g : Gs) (a1 a2 a3 : Int32), Inv g → ∃ (g1 : Gs) (v : Int32) (r : Rec), fX9_served g a1 a2 a3 = some (g1, v) ∧ fX10_served (g1 1001) a1 a2 a3 = some (r, v) ∧ gr (g1 901) = gr (g 901) ∧ isHm (gr (g1 1) 0) = true ∧ Inv (ug g1 1001 r)
def Ob_comes (Inv : Gs → Prop) : Prop := ∀ (g : Gs) (a1 a2 : Int32), Inv g → ∃ (v : Int32) (r : Rec), fX9_comes g a1 a2 = some v ∧ fX10_comes (g 1001) a1 a2 = some (r, v) ∧ Inv (ug g 1001 r)
def Ob_keep (Inv : Gs → Prop) : Prop := ∀ (g : Gs) (a1 a2 a3 : Int32), Inv g → (a3 = 0 ∨ a3 = 1) → ∃ (v : Int32) (r : Rec), fX9_keep g a1 a2 a3 = some v ∧ fX10_keep_ (g 1001) a1 a2 a3 = some (r, v) ∧ Inv (ug g 1001 r)
def Ob_theft (Inv : Gs → Prop) : Prop := ∀ (g : Gs) (a1 a2 a3 : Int32), Inv g → (a3 = 0 ∨ a3 = 1) → ∃ (g1 : Gs) (v : Int32) (r : Rec), fX9_theft g a1 a2 a3 = some (g1, v) ∧ fX10_theft (g1 1001) a1 a2 a3 = some (r, v) ∧ gr (g1 901) = gr (g 901) ∧ isHm (gr (g1 1) 0) = true ∧ Inv (ug g1 1001 r)
def Ob_evenings (Inv : Gs → Prop) : Prop := ∀ (g : Gs) (a1 a2 : Int32), Inv g → ∃ (g1 : Gs) (v : Int32) (r : Rec), fX9_evenings g a1 a2 = some (g1, v) ∧ fX10_evenings (g1 1001) a1 a2 = some (r, v) ∧ gr (g1 901) = gr (g 901) ∧ isHm (gr (g1 1) 0) = true ∧ Inv (ug g1 1001 r)
def Ob_hidden (Inv : Gs → Prop) : Prop := ∀ (g : Gs) (a1 a2 a3 a4 : Int32), Inv g → (a4 = 0 ∨ a4 = 1) → ∃ (v : Int64) (r : Rec), fX9_hidden g a1 a2 a3 a4 = some v ∧ fX10_hidden (g 1001) a1 a2 a3 a4 = some (r, v) ∧ Inv (ug g 1001 r)
def Ob_heirs (Inv : Gs → Prop) : Prop := ∀ (g : Gs) (a1 a2 : Int32), Inv g → (a2 = 0 ∨ a2 = 1) → ∃ (v : Int32) (r : Rec), fX9_heirs g a1 a2 = some v ∧ fX10_heirs (g 1001) a1 a2 = some (r, v) ∧ Inv (ug g 1001 r)
def Ob_fact (Inv : Gs → Prop) : Prop := ∀ (g : Gs) (a1 a2 a3 : Int32), Inv g → ∃ (v : Int32) (r : Rec), fX9_fact g a1 a2 a3 = some v ∧ fX10_fact (g 1001) a1 a2 a3 = some (r, v) ∧ Inv (ug g 1001 r)
def Ob_fits (Inv : Gs → Prop) : Prop := ∀ (g : Gs) (a1 a2 a3 : Int32), Inv g → ∃ (g1 : Gs) (v : Int32) (r : Rec), fX9_fits g a1 a2 a3 = some (g1, v) ∧ fX10_fits (g1 1001) a1 a2 a3 = some (r, v) ∧ gr (g1 901) = gr (g 901) ∧ isHm (gr (g1 1) 0) = true ∧ Inv (ug g1 1001 r)
def Ob_drawn (Inv : Gs → Prop) : Prop := ∀ (g : Gs) (a1 a2 a3 a4 : Int32), Inv g → ∃ (g1 : Gs) (v : Int32) (r : Rec), fX9_drawn g a1 a2 a3 a4 = some (g1, v) ∧ fX10_drawn (g1 1001) a1 a2 a3 a4 = some (r, v) ∧ gr (g1 901) = gr (g 901) ∧ isHm (gr (g1 1) 0) = true ∧ Inv (ug g1 1001 r)
def Ob_lasting (Inv : Gs → Prop) : Prop := ∀ (g : Gs) (a1 a2 a3 a4 : Int32), Inv g → (a4 = 0 ∨ a4 = 1) → ∃ (v : Int32) (r : Rec), fX9_lasting g a1 a2 a3 a4 = some v ∧ fX10_lasting (g 1001) a1 a2 a3 a4 = some (r, v) ∧ Inv (ug g 1001 r)
def Ob_lit (Inv : Gs → Prop) : Prop := ∀ (g : Gs) (a1 a2 : Int32), Inv g → ∃ (v : Int32) (r : Rec), fX9_lit g a1 a2 = some v ∧ fX10_lit (g 1001) a1 a2 = some (r, v) ∧ Inv (ug g 1001 r)
def Ob_dusky (Inv : Gs → Prop) : Prop := ∀ (g : Gs) (a1 a2 a3 : Int32), Inv g → (a3 = 0 ∨ a3 = 1) → ∃ (v : Int32) (r : Rec), fX9_dusky g a1 a2 a3 = some v ∧ fX10_dusky (g 1001) a1 a2 a3 = some (r, v) ∧ Inv (ug g 1001 r)
def Ob_fitter (Inv : Gs → Prop) : Prop := ∀ (g : Gs) (a1 a2 : Int32), Inv g → (a2 = 0 ∨ a2 = 1) → ∃ (v : Int32) (r : Rec), fX9_fitter g a1 a2 = some v ∧ fX10_fitter (g 1001) a1 a2 = some (r, v) ∧ Inv (ug g 1001 r)
def Ob_unlike (Inv : Gs → Prop) : Prop := ∀ (g : Gs) (a1 a2 : Int32), Inv g → ∃ (v : Int32) (r : Rec), fX9_unlike g a1 a2 = some v ∧ fX10_unlike (g 1001) a1 a2 = some (r, v) ∧ Inv (ug g 1001 r)
def Ob_spread (Inv : Gs → Prop) : Prop := ∀ (g : Gs) (a1 a2 : Int32), Inv g → ∃ (v : Int32) (r : Rec), fX9_spread g a1 a2 = some v ∧ fX10_spread (g 1001) a1 a2 = some (r, v) ∧ Inv (ug g 1001 r)
def Ob_depth (Inv : Gs → Prop) : Prop := ∀ (g : Gs) (a1 a2 a3 : Int32), Inv g → ∃ (v : Int32) (r : Rec), fX9_depth g a1 a2 a3 = some v ∧ fX10_depth (g 1001) a1 a2 a3 = some (r, v) ∧ Inv (ug g 1001 r)
def Ob_spare (Inv : Gs → Prop) : Prop := ∀ (g : Gs) (a1 : Int32), Inv g → ∃ (v : Int32) (r : Rec), fX9_spare g a1 = some v ∧ fX10_spare (g 1001) a1 = some (r, v) ∧ Inv (ug g 1001 r)
def Ob_guarded (Inv : Gs → Prop) : Prop := ∀ (g : Gs) (a1 a2 a3 a4 : Int32), Inv g → (a4 = 0 ∨ a4 = 1) → ∃ (g1 : Gs) (v : Int32) (r : Rec), fX9_guarded g a1 a2 a3 a4 = some (g1, v) ∧ fX10_guarded (g1 1001) a1 a2 a3 a4 = some (r, v) ∧ gr (g1 901) = gr (g 901) ∧ isHm (gr (g1 1) 0) = true ∧ Inv (ug g1 1001 r)
def Ob_evening (Inv : Gs → Prop) : Prop := ∀ (g : Gs) (a1 a2 a3 : Int32), Inv g → ∃ (g1 : Gs) (v : Int32) (r : Rec), fX9_evening g a1 a2 a3 = some (g1, v) ∧ fX10_evening (g1 1001) a1 a2 a3 = some (r, v) ∧ gr (g1 901) = gr (g 901) ∧ isHm (gr (g1 1) 0) = true ∧ Inv (ug g1 1001 r)
def Ob_leaks (Inv : Gs → Prop) : Prop := ∀ (g : Gs) (a1 a2 a3 : Int32), Inv g → (a3 = 0 ∨ a3 = 1) → ∃ (v : Int64) (r : Rec), fX9_leaks g a1 a2 a3 = some v ∧ fX10_leaks (g 1001) a1 a2 a3 = some (r, v) ∧ Inv (ug g 1001 r)
def Ob_cut (Inv : Gs → Prop) : Prop := ∀ (g : Gs) (a1 a2 a3 : Int32), Inv g → (a3 = 0 ∨ a3 = 1) → ∃ (v : Int32) (r : Rec), fX9_cut g a1 a2 a3 = some v ∧ fX10_cut (g 1001) a1 a2 a3 = some (r, v) ∧ Inv (ug g 1001 r)
def Ob_after (Inv : Gs → Prop) : Prop := ∀ (g : Gs) (a1 a2 a3 : Int32), Inv g → ∃ (g1 : Gs) (v : Int32) (r : Rec), fX9_after g a1 a2 a3 = some (g1, v) ∧ fX10_after (g1 1001) a1 a2 a3 = some (r, v) ∧ gr (g1 901) = gr (g 901) ∧ isHm (gr (g1 1) 0) = true ∧ Inv (ug g1 1001 r)
def Ob_would (Inv : Gs → Prop) : Prop := ∀ (g : Gs) (a1 a2 a3 a4 : Int32), Inv g → ∃ (g1 : Gs) (v : Int32) (r : Rec), fX9_would g a1 a2 a3 a4 = some (g1, v) ∧ fX10_would (g1 1001) a1 a2 a3 a4 = some (r, v) ∧ gr (g1 901) = gr (g 901) ∧ isHm (gr (g1 1) 0) = true ∧ Inv (ug g1 1001 r)
def Ob_count (Inv : Gs → Prop) : Prop := ∀ (g : Gs) (a1 : Int32), Inv g → ∃ (v : Int32) (r : Rec), fX9_count g a1 = some v ∧ fX10_count (g 1001) a1 = some (r, v) ∧ Inv (ug g 1001 r)
def Ob_image (Inv : Gs → Prop) : Prop := ∀ (g : Gs) (a1 : Int32), Inv g → ∃ (g1 : Gs) (v : Int32) (r : Rec), fX9_image g a1 = some (g1, v) ∧ fX10_image (g1 1001) a1 = some (r, v) ∧ gr (g1 901) = gr (imgPre g a1 901) ∧ isHm (gr (g1 1) 0) = true ∧ Inv (ug g1 1001 r)
def Ob_again (Inv : Gs → Prop) : Prop := ∀ (g : Gs) (a1 : Int32), Inv g → ∃ (g1 : Gs) (v : Int32) (r : Rec), fX9_again g a1 = some (g1, v) ∧ fX10_again (g1 1001) a1 = some (r, v) ∧ gr (g1 901) = gr (g 901) ∧ isHm (gr (g1 1) 0) = true ∧ Inv (ug g1 1001 r)
def ObAll (Inv : Gs → Prop) : Prop := Ob_feed Inv ∧ Ob_end Inv ∧ Ob_text Inv ∧ Ob_fault Inv ∧ Ob_house Inv ∧ Ob_worth Inv ∧ Ob_deed Inv ∧ Ob_till Inv ∧ Ob_state Inv ∧ Ob_dinner Inv ∧ Ob_served Inv ∧ Ob_comes Inv ∧ Ob_keep Inv ∧ Ob_theft Inv ∧ Ob_evenings Inv ∧ Ob_hidden Inv ∧ Ob_heirs Inv ∧ Ob_fact Inv ∧ Ob_fits Inv ∧ Ob_drawn Inv ∧ Ob_lasting Inv ∧ Ob_lit Inv ∧ Ob_dusky Inv ∧ Ob_fitter Inv ∧ Ob_unlike Inv ∧ Ob_spread Inv ∧ Ob_depth Inv ∧ Ob_spare Inv ∧ Ob_guarded Inv ∧ Ob_evening Inv ∧ Ob_leaks Inv ∧ Ob_cut Inv ∧ Ob_after Inv ∧ Ob_would Inv ∧ Ob_count Inv ∧ Ob_image Inv ∧ Ob_again Inv
