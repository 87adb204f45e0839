theorem nw0 {U : State} (h : NestW U) : va_Nw (.methodLinkNest RX8 47 yX2_init "TarnishTurns") U := h _ (List.mem_of_getElem? (i := 0) rfl)
theorem nw1 {U : State} (h : NestW U) : va_Nw (.methodLinkNest RX9 22 yX4_init "TarnishTurns") U := h _ (List.mem_of_getElem? (i := 1) rfl)
theorem nw2 {U : State} (h : NestW U) : va_Nw (.methodLinkNest RX9 29 yX0_init "TarnishTurns") U := h _ (List.mem_of_getElem? (i := 2) rfl)
theorem nw3 {U : State} (h : NestW U) : va_Nw (.methodLinkNest RX0 11 yX2_init "TarnishTurns") U := h _ (List.mem_of_getElem? (i := 3) rfl)
theorem nw4 {U : State} (h : NestW U) : va_Nw (.methodLinkNest RX9 36 yX6_init "TarnishTurns") U := h _ (List.mem_of_getElem? (i := 4) rfl)
theorem nw5 {U : State} (h : NestW U) : va_Nw (.methodLinkNest RX9 43 yX3_init "TarnishTurns") U := h _ (List.mem_of_getElem? (i := 5) rfl)
theorem nw6 {U : State} (h : NestW U) : va_Nw (.methodLinkNest RX9 50 yX1_init "TarnishTurns") U := h _ (List.mem_of_getElem? (i := 6) rfl)
theorem nw7 {U : State} (h : NestW U) : va_Nw (.methodLinkNest RX9 57 yX7_init "TarnishTurns") U := h _ (List.mem_of_getElem? (i := 7) rfl)
theorem nw8 {U : State} (h : NestW U) : va_Nw (.methodLinkNest RX2 91 yX9_hasBit "TarnishTurns") U := h _ (List.mem_of_getElem? (i := 8) rfl)
theorem nw9 {U : State} (h : NestW U) : va_Nw (.methodLinkNest RX2 95 yX9_worthOf "TarnishTurns") U := h _ (List.mem_of_getElem? (i := 9) rfl)
theorem nw10 {U : State} (h : NestW U) : va_Nw (.methodLinkNest RX0 130 yX9_hasBit "TarnishTurns") U := h _ (List.mem_of_getElem? (i := 10) rfl)
theorem nw11 {U : State} (h : NestW U) : va_Nw (.methodLinkNest RX0 142 yX9_worthOf "TarnishTurns") U := h _ (List.mem_of_getElem? (i := 11) rfl)
theorem nw12 {U : State} (h : NestW U) : va_Nw (.methodLinkNest RX6 55 yX9_hasBit "TarnishTurns") U := h _ (List.mem_of_getElem? (i := 12) rfl)
theorem nw13 {U : State} (h : NestW U) : va_Nw (.methodLinkNest RX7 25 yX9_hasBit "TarnishTurns") U := h _ (List.mem_of_getElem? (i := 13) rfl)
theorem nw14 {U : State} (h : NestW U) : va_Nw (.methodLinkNest RX3 31 yX9_hasBit "TarnishTurns") U := h _ (List.mem_of_getElem? (i := 14) rfl)
theorem nw15 {U : State} (h : NestW U) : va_Nw (.methodLinkNest RX2 152 yX9_weightOfCode "TarnishTurns") U := h _ (List.mem_of_getElem? (i := 15) rfl)
theorem nw16 {U : State} (h : NestW U) : va_Nw (.methodLinkNest RX2 155 yX9_kindOfCode "TarnishTurns") U := h _ (List.mem_of_getElem? (i := 16) rfl)
theorem nw17 {U : State} (h : NestW U) : va_Nw (.methodLinkNest RX2 140 yX9_hoursLeft "TarnishTurns") U := h _ (List.mem_of_getElem? (i := 17) rfl)
theorem nw18 {U : State} (h : NestW U) : va_Nw (.methodLinkNest RX1 38 yX9_kindOfCode "TarnishTurns") U := h _ (List.mem_of_getElem? (i := 18) rfl)
theorem nw19 {U : State} (h : NestW U) : va_Nw (.methodLinkNest RX1 42 yX9_weightOfCode "TarnishTurns") U := h _ (List.mem_of_getElem? (i := 19) rfl)
set_option maxRecDepth 100000 in
set_option maxHeartbeats 4000000 in
theorem kJ3_checkIndex {l : Launch} {Γ : Gm} {A : Nat → Prop} {G : Gs} {i n : Int32} {w : Value} (hv : w = .null ∨ ∃ t, w = .ref t) (h1 : ¬ i < 0) (h2 : i < n) : Kt l yJ3_checkIndex_8e157 cJ3_checkIndex_8e157 3 (some .int) 0 0 Γ A G G [.int i, .int n, w] (some (.int i)) := by
  have key : ∀ (p : Program) (e : Env) (s : State) (m : MethodId) (args : Array Value) (below : List Frame) (meth : Method) (c : Code), Cx p s m args meth c yJ3_checkIndex_8e157 cJ3_checkIndex_8e157 3 (some .int) Γ A → Wk p l e { frames := 0, cells := 0, slots := 0, locals := 0 } s m args below meth c Γ A G (some (.int i)) 0 3 [(0, .int i), (1, .int n), (2, w)] [] G := by
    intro p e s m args below meth c C H locs ls hw hS hl
    obtain ⟨hx, hb, hml, hr, hown, htw, hlocks, hE⟩ := id C
    refine lv_iload_n hx hb dJ3_checkIndex_8e157_0 rfl (lv_at hl 0 rfl) ?_
    refine lv_if_lt (tgt := 9) hx hb dJ3_checkIndex_8e157_1 (by decide) (fun c1 => absurd c1 h1) (fun c1 => ?_)
    refine lv_iload_n hx hb dJ3_checkIndex_8e157_4 rfl (lv_at hl 0 rfl) ?_
    refine lv_iload_n hx hb dJ3_checkIndex_8e157_5 rfl (lv_at hl 1 rfl) ?_
    refine lv_icmp_lt (tgt := 16) hx hb dJ3_checkIndex_8e157_6 (by decide) (fun c2 => ?_) (fun c2 => absurd h2 c2)
    refine lv_iload_n hx hb dJ3_checkIndex_8e157_16 rfl (lv_at hl 0 rfl) ?_
    exact rt_i C hw hS dJ3_checkIndex_8e157_17
  rcases hv with rfl | ⟨t, rfl⟩
  · exact kt_of (by decide) (Nat.le_of_ble_eq_true rfl) key
  · exact kt_of (by decide) (Nat.le_of_ble_eq_true rfl) key
def fJ0_checkIndex_df160 (v0 v1 : Int32) : Option Unit := gd (decide (¬ v0 < 0 ∧ v0 < v1)) (some ())
set_option maxRecDepth 100000 in
set_option maxHeartbeats 4000000 in
theorem kJ0_checkIndex_df160 {l : Launch} {Γ : Gm} {A : Nat → Prop} {G : Gs} {v0 v1 : Int32} {fin : Unit} (hf : fJ0_checkIndex_df160 v0 v1 = some fin) : Kt l yJ0_checkIndex_df160 cJ0_checkIndex_df160 2 none 1 22 Γ A G G [.int v0, .int v1] none := by
  obtain ⟨h0, -⟩ := gd_some hf
  obtain ⟨h1, h2⟩ := of_decide_eq_true h0
  refine kt_of (by decide) (Nat.le_of_ble_eq_true rfl) (fun p e s m args below meth c C => ?_)
  intro H locs ls hw hS hl
  have hl : lv_has ls 2 [(0, .int v0), (1, .int v1)] := hl
  obtain ⟨hx, hb, hml, hr, hown, htw, hlocks, hE⟩ := id C
  have hown : s.vm.findClass RJ0 = some m.cls := hown
  refine lv_iload_n hx hb dJ0_checkIndex_df160_0 rfl (lv_at hl 0 rfl) ?_
  refine lv_iload_n hx hb dJ0_checkIndex_df160_1 rfl (lv_at hl 1 rfl) ?_
  have go : ∀ (w : Value), (w = .null ∨ ∃ t, w = .ref t) → w.category = 1 → va_Z "jdk/internal/util/Preconditions" "SIOOBE_FORMATTER" "Ljava/util/function/BiFunction;" w A s s.heap → W p l e { frames := 1, cells := 0, slots := 0, locals := 22 } s m args below meth c H locs 0 0 (MQ below (QK Γ A G none) args s 0 0 A) (F0 m 2 ls [.int v1, .int v0]) := by
    intro w hv hcat hZ
    refine va_gets hx hb hZ hS hown (htw _ mw554) (fun _ h9 => h9) dJ0_checkIndex_df160_2 ?_
    refine cl_Ss (rest := []) (kJ3_checkIndex (l := l) (Γ := Γ) (A := A) (G := G) (i := v0) (n := v1) hv h1 h2) ⟨hx, hb, hml, hown, htw⟩ hE hw hS mw556 mw557 mw133 mw558 pdJ3_checkIndex_8e157 ⟨Nat.le_of_ble_eq_true rfl, Nat.le_of_ble_eq_true rfl⟩ rfl rfl hl.1 (Nat.le_of_ble_eq_true rfl) dJ0_checkIndex_df160_5 (fun H locs hw hS => ?_)
    refine lv_pop hx hb dJ0_checkIndex_df160_8 rfl ?_
    exact rt_v C hw hS dJ0_checkIndex_df160_9
  rcases hE.2.2.2.2.2.2.2.2.2 with h | ⟨t, h⟩
  · exact go .null (Or.inl rfl) rfl h
  · exact go (.ref t) (Or.inr ⟨t, rfl⟩) rfl h
