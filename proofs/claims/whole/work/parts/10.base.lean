theorem ws_good {w : Cond} (h : w ∈ WS) : (w.onTables && w.keeps) = true ∨ ∃ ty, w = .arrayClass ty := good_of_word (List.mem_filter.mp h).2
theorem ws_in {y : MethodName} {cc : ByteArray} {n : Nat} {ret : Option FieldType} (h : Cond.code y cc n ret ∈ WS) : GoodIn WS (Cond.code y cc n ret :: WS) := by
  intro w hw
  rcases List.mem_cons.mp hw with rfl | hw
  · exact ⟨h, ws_good h⟩
  · exact ⟨hw, ws_good hw⟩
/-! what an object holds: its ints, its rows of ints, its longs, its objects, by slot -/
abbrev Rec : Type := (Nat → Int32) × (Nat → Nat → Int32) × (Nat → Int64) × (Nat → Nat)
def gi (r : Rec) (k : Nat) : Int32 := r.1 k
def ga (r : Rec) (k : Nat) : Nat → Int32 := r.2.1 k
def gl (r : Rec) (k : Nat) : Int64 := r.2.2.1 k
def gr (r : Rec) (k : Nat) : Nat := r.2.2.2 k
def si (r : Rec) (k : Nat) (v : Int32) : Rec := (fun j => if j = k then v else r.1 j, r.2)
def sa (r : Rec) (k : Nat) (f : Nat → Int32) : Rec := (r.1, fun j => if j = k then f else r.2.1 j, r.2.2)
def sl (r : Rec) (k : Nat) (v : Int64) : Rec := (r.1, r.2.1, fun j => if j = k then v else r.2.2.1 j, r.2.2.2)
def sr (r : Rec) (k : Nat) (v : Nat) : Rec := (r.1, r.2.1, r.2.2.1, fun j => if j = k then v else r.2.2.2 j)
abbrev Gs : Type := Nat → Rec
def ug (G : Gs) (o : Nat) (r : Rec) : Gs := fun j => if j = o then r else G j
theorem ug_same (G : Gs) (o : Nat) (r : Rec) : ug G o r o = r := if_pos rfl
theorem ug_ne {G : Gs} {o j : Nat} {r : Rec} (h : j ≠ o) : ug G o r j = G j := if_neg h
theorem ug_self (G : Gs) (o : Nat) : ug G o (G o) = G := by
  funext j
  by_cases h : j = o
  · subst h; exact ug_same G j _
  · exact ug_ne h
theorem ug_ug (G : Gs) (o : Nat) (r r' : Rec) : ug (ug G o r) o r' = ug G o r' := by
  funext j
  by_cases h : j = o
  · subst h; rw [ug_same, ug_same]
  · rw [ug_ne h, ug_ne h, ug_ne h]
/-! where things lie -/
abbrev Gm : Type := va_G × (Nat → Nat) × (Nat → Nat → Nat) × (Nat → ClassId) × (Nat → Option Nat) × (Nat → Nat) × (Nat → Nat) × (Nat → Nat)
def dd (Γ : Gm) : va_G := Γ.1
def ad (Γ : Gm) (o : Nat) : Nat := Γ.2.1 o
def aa (Γ : Gm) (o k : Nat) : Nat := Γ.2.2.1 o k
def ac (Γ : Gm) (t : Nat) : ClassId := Γ.2.2.2.1 t
def kd (Γ : Gm) (o : Nat) : Option Nat := Γ.2.2.2.2.1 o
def sx (Γ : Gm) (i : Nat) : Nat := Γ.2.2.2.2.2.1 i
def kK (Γ : Gm) (i : Nat) : Nat := Γ.2.2.2.2.2.2.1 i
def kV (Γ : Gm) (i : Nat) : Nat := Γ.2.2.2.2.2.2.2 i
def tyl (Γ : Gm) : List (ClassId × FieldType) := [(ac Γ 0, .int), (ac Γ 1, .byte), (ac Γ 2, .boolean), (ac Γ 3, .object "TarnishTurns$House"), (ac Γ 4, .object "TarnishTurns$Rows"), (ac Γ 5, .object "TarnishTurns$Told")]
def cl0_fs (Γ : Gm) (o : Nat) (r : Rec) : List Value := [.ref (ad Γ (gr r 0)), .ref (aa Γ o 1), .ref (aa Γ o 2), .ref (aa Γ o 3), .ref (aa Γ o 4), .int (gi r 5), .int (gi r 6), .int (gi r 7), .int (gi r 8), .int (gi r 9), .int (gi r 10), .int (gi r 11)]
def cl0 (Γ : Gm) (o : Nat) (r : Rec) : va_W := [(ad Γ o, .inr (0, cl0_fs Γ o r)), (aa Γ o 1, .inl (ac Γ 0, 8, .inl (ga r 1))), (aa Γ o 2, .inl (ac Γ 0, 8, .inl (ga r 2))), (aa Γ o 3, .inl (ac Γ 0, 8, .inl (ga r 3))), (aa Γ o 4, .inl (ac Γ 0, 8, .inl (ga r 4)))]
def cl1_fs (Γ : Gm) (o : Nat) (r : Rec) : List Value := [.ref (aa Γ o 0), .int (gi r 1), .ref (aa Γ o 2)]
def cl1 (Γ : Gm) (o : Nat) (r : Rec) : va_W := [(ad Γ o, .inr (1, cl1_fs Γ o r)), (aa Γ o 0, .inl (ac Γ 0, 120, .inl (ga r 0))), (aa Γ o 2, .inl (ac Γ 0, 61, .inl (ga r 2)))]
def cl2_fs (Γ : Gm) (o : Nat) (r : Rec) : List Value := [.int (gi r 0), .int (gi r 1), .int (gi r 2), .ref (aa Γ o 3), .ref (aa Γ o 4), .ref (aa Γ o 5), .ref (aa Γ o 6), .ref (aa Γ o 7), .ref (aa Γ o 8), .ref (aa Γ o 9), .ref (aa Γ o 10)]
def cl2 (Γ : Gm) (o : Nat) (r : Rec) : va_W := [(ad Γ o, .inr (2, cl2_fs Γ o r)), (aa Γ o 3, .inl (ac Γ 0, 8, .inl (ga r 3))), (aa Γ o 4, .inl (ac Γ 0, 8, .inl (ga r 4))), (aa Γ o 5, .inl (ac Γ 0, 8, .inl (ga r 5))), (aa Γ o 6, .inl (ac Γ 0, 10, .inl (ga r 6))), (aa Γ o 7, .inl (ac Γ 0, 10, .inl (ga r 7))), (aa Γ o 8, .inl (ac Γ 0, 8, .inl (ga r 8))), (aa Γ o 9, .inl (ac Γ 0, 8, .inl (ga r 9))), (aa Γ o 10, .inl (ac Γ 0, 8, .inl (ga r 10)))]
def cl3_fs (Γ : Gm) (o : Nat) (r : Rec) : List Value := [.ref (aa Γ o 0), .ref (aa Γ o 1), .ref (aa Γ o 2)]
def cl3 (Γ : Gm) (o : Nat) (r : Rec) : va_W := [(ad Γ o, .inr (3, cl3_fs Γ o r)), (aa Γ o 0, .inl (ac Γ 0, 1024, .inl (ga r 0))), (aa Γ o 1, .inl (ac Γ 0, 10, .inl (ga r 1))), (aa Γ o 2, .inl (ac Γ 0, 10, .inl (ga r 2)))]
def cl4_fs (Γ : Gm) (o : Nat) (r : Rec) : List Value := [.ref (aa Γ o 0), .int (gi r 1), .int (gi r 2), .int (gi r 3), .int (gi r 4), .int (gi r 5), .ref (aa Γ o 6), .ref (aa Γ o 7), .ref (aa Γ o 8), .ref (aa Γ o 9), .ref (aa Γ o 10), .ref (aa Γ o 11), .int (gi r 12), .int (gi r 13)]
def cl4 (Γ : Gm) (o : Nat) (r : Rec) : va_W := [(ad Γ o, .inr (4, cl4_fs Γ o r)), (aa Γ o 0, .inl (ac Γ 1, 600, .inl (ga r 0))), (aa Γ o 6, .inl (ac Γ 0, 120, .inl (ga r 6))), (aa Γ o 7, .inl (ac Γ 0, 120, .inl (ga r 7))), (aa Γ o 8, .inl (ac Γ 0, 120, .inl (ga r 8))), (aa Γ o 9, .inl (ac Γ 0, 360, .inl (ga r 9))), (aa Γ o 10, .inl (ac Γ 0, 360, .inl (ga r 10))), (aa Γ o 11, .inl (ac Γ 0, 4, .inl (ga r 11)))]
def cl5_fs (Γ : Gm) (o : Nat) (r : Rec) : List Value := [.int (gi r 0), .ref (aa Γ o 1), .int (gi r 2)]
def cl5 (Γ : Gm) (o : Nat) (r : Rec) : va_W := [(ad Γ o, .inr (5, cl5_fs Γ o r)), (aa Γ o 1, .inl (ac Γ 0, 4 * (gi r 0).toNatClampNeg, .inl (ga r 1)))]
def cl6_fs (Γ : Gm) (o : Nat) (r : Rec) : List Value := [.ref (aa Γ o 0), .ref (aa Γ o 1)]
def cl6 (Γ : Gm) (o : Nat) (r : Rec) : va_W := [(ad Γ o, .inr (6, cl6_fs Γ o r)), (aa Γ o 0, .inl (ac Γ 0, 80, .inl (ga r 0))), (aa Γ o 1, .inl (ac Γ 0, 1024, .inl (ga r 1)))]
def cl7_fs (Γ : Gm) (o : Nat) (r : Rec) : List Value := [.ref (aa Γ o 0)]
def cl7 (Γ : Gm) (o : Nat) (r : Rec) : va_W := [(ad Γ o, .inr (7, cl7_fs Γ o r)), (aa Γ o 0, .inl (ac Γ 0, 256, .inl (ga r 0)))]
def cl8_fs (Γ : Gm) (o : Nat) (r : Rec) : List Value := [.ref (aa Γ o 0), .int (gi r 1), .int (gi r 2), .int (gi r 3), .ref (aa Γ o 4), .ref (aa Γ o 5), .ref (aa Γ o 6), .ref (aa Γ o 7), .ref (aa Γ o 8)]
def cl8 (Γ : Gm) (o : Nat) (r : Rec) : va_W := [(ad Γ o, .inr (8, cl8_fs Γ o r)), (aa Γ o 0, .inl (ac Γ 1, 600, .inl (ga r 0))), (aa Γ o 4, .inl (ac Γ 0, 4, .inl (ga r 4))), (aa Γ o 5, .inl (ac Γ 3, 2, .inr (.inr (.inr (.inr (fun i => if i < 2 then some (ad Γ (200 + 2 * (o - 800) + i)) else none)))))), (aa Γ o 6, .inl (ac Γ 4, 2, .inr (.inr (.inr (.inr (fun i => if i < 2 then some (ad Γ (500 + 6 * (o - 800) + i)) else none)))))), (aa Γ o 7, .inl (ac Γ 4, 2, .inr (.inr (.inr (.inr (fun i => if i < 2 then some (ad Γ (502 + 6 * (o - 800) + i)) else none)))))), (aa Γ o 8, .inl (ac Γ 4, 2, .inr (.inr (.inr (.inr (fun i => if i < 2 then some (ad Γ (504 + 6 * (o - 800) + i)) else none))))))]
def cl9_fs (Γ : Gm) (o : Nat) (r : Rec) : List Value := [.ref (ad Γ 800), .ref (aa Γ o 1), .ref (ad Γ 401), .ref (ad Γ 1), .ref (ad Γ 601), .ref (ad Γ 301), .ref (ad Γ 101), .ref (ad Γ 701)]
def cl9 (Γ : Gm) (o : Nat) (r : Rec) : va_W := [(ad Γ o, .inr (9, cl9_fs Γ o r)), (aa Γ o 1, .inl (ac Γ 5, 3, .inr (.inr (.inr (.inr (fun i => if gr r i = 0 then none else some (ad Γ (801 + i))))))))]
def cl10_fs (Γ : Gm) (o : Nat) (r : Rec) : List Value := [.int (gi r 0), .ref (aa Γ o 1), .ref (aa Γ o 2), .ref (aa Γ o 3), .ref (aa Γ o 4), .ref (aa Γ o 5), .ref (aa Γ o 6), .ref (aa Γ o 7), .ref (aa Γ o 8), .ref (aa Γ o 9), .int (gi r 10), .int (gi r 11), .int (gi r 12), .int (gi r 13), .int (gi r 14), .long (gl r 15), .int (gi r 16), .int (gi r 17), .int (gi r 18), .ref (aa Γ o 19), .ref (aa Γ o 20), .int (gi r 21), .int (gi r 22), .int (gi r 23), .int (gi r 24), .int (gi r 25), .int (gi r 26), .int (gi r 27), .ref (aa Γ o 28), .int (gi r 29), .int (gi r 30), .int (gi r 31), .int (gi r 32), .ref (aa Γ o 33), .ref (aa Γ o 34), .int (gi r 35), .ref (aa Γ o 36), .ref (aa Γ o 37), .ref (aa Γ o 38), .ref (aa Γ o 39), .ref (aa Γ o 40), .int (gi r 41), .ref (aa Γ o 42), .int (gi r 43), .ref (aa Γ o 44), .int (gi r 45), .ref (aa Γ o 46), .ref (aa Γ o 47), .ref (aa Γ o 48)]
def cl10 (Γ : Gm) (o : Nat) (r : Rec) : va_W := [(ad Γ o, .inr (10, cl10_fs Γ o r)), (aa Γ o 1, .inl (ac Γ 1, 2400, .inl (ga r 1))), (aa Γ o 2, .inl (ac Γ 0, 4, .inl (ga r 2))), (aa Γ o 3, .inl (ac Γ 0, 4, .inl (ga r 3))), (aa Γ o 4, .inl (ac Γ 0, 4, .inl (ga r 4))), (aa Γ o 5, .inl (ac Γ 0, 16, .inl (ga r 5))), (aa Γ o 6, .inl (ac Γ 0, 568, .inl (ga r 6))), (aa Γ o 7, .inl (ac Γ 0, 1288, .inl (ga r 7))), (aa Γ o 8, .inl (ac Γ 0, 200, .inl (ga r 8))), (aa Γ o 9, .inl (ac Γ 0, 136, .inl (ga r 9))), (aa Γ o 19, .inl (ac Γ 0, 161, .inl (ga r 19))), (aa Γ o 20, .inl (ac Γ 0, 4, .inl (ga r 20))), (aa Γ o 28, .inl (ac Γ 0, 8, .inl (ga r 28))), (aa Γ o 33, .inl (ac Γ 0, 8, .inl (ga r 33))), (aa Γ o 34, .inl (ac Γ 0, 8, .inl (ga r 34))), (aa Γ o 36, .inl (ac Γ 0, 9216, .inl (ga r 36))), (aa Γ o 37, .inl (ac Γ 0, 9216, .inl (ga r 37))), (aa Γ o 38, .inl (ac Γ 0, 256, .inl (ga r 38))), (aa Γ o 39, .inl (ac Γ 0, 1024, .inl (ga r 39))), (aa Γ o 40, .inl (ac Γ 0, 10, .inl (ga r 40))), (aa Γ o 42, .inl (ac Γ 0, 120, .inl (ga r 42))), (aa Γ o 44, .inl (ac Γ 0, 61, .inl (ga r 44))), (aa Γ o 46, .inl (ac Γ 0, 80, .inl (ga r 46))), (aa Γ o 47, .inl (ac Γ 0, 8, .inl (ga r 47))), (aa Γ o 48, .inl (ac Γ 2, 3, .inl (ga r 48)))]
def cellsOf (Γ : Gm) (ci o : Nat) (r : Rec) : va_W := match ci with
  | 0 => cl0 Γ o r
  | 1 => cl1 Γ o r
  | 2 => cl2 Γ o r
  | 3 => cl3 Γ o r
  | 4 => cl4 Γ o r
  | 5 => cl5 Γ o r
  | 6 => cl6 Γ o r
  | 7 => cl7 Γ o r
  | 8 => cl8 Γ o r
  | 9 => cl9 Γ o r
  | 10 => cl10 Γ o r
  | _ => []
theorem st0_0 {Γ : Gm} {o : Nat} {r r' : Rec} {v : Nat} (h : sr r 0 v = r') : (cellsOf Γ 0 o r).set 0 (ad Γ o, .inr (0, ((cl0_fs Γ o r).set 0 (.ref (ad Γ v))))) = cellsOf Γ 0 o r' := by subst h; rfl
theorem sa0_1 {Γ : Gm} {o : Nat} {r r' : Rec} {f : Nat → Int32} (h : sa r 1 f = r') : (cellsOf Γ 0 o r).set 1 (aa Γ o 1, .inl (ac Γ 0, 8, .inl f)) = cellsOf Γ 0 o r' := by subst h; rfl
theorem sa0_2 {Γ : Gm} {o : Nat} {r r' : Rec} {f : Nat → Int32} (h : sa r 2 f = r') : (cellsOf Γ 0 o r).set 2 (aa Γ o 2, .inl (ac Γ 0, 8, .inl f)) = cellsOf Γ 0 o r' := by subst h; rfl
theorem sa0_3 {Γ : Gm} {o : Nat} {r r' : Rec} {f : Nat → Int32} (h : sa r 3 f = r') : (cellsOf Γ 0 o r).set 3 (aa Γ o 3, .inl (ac Γ 0, 8, .inl f)) = cellsOf Γ 0 o r' := by subst h; rfl
theorem sa0_4 {Γ : Gm} {o : Nat} {r r' : Rec} {f : Nat → Int32} (h : sa r 4 f = r') : (cellsOf Γ 0 o r).set 4 (aa Γ o 4, .inl (ac Γ 0, 8, .inl f)) = cellsOf Γ 0 o r' := by subst h; rfl
theorem st0_5 {Γ : Gm} {o : Nat} {r r' : Rec} {v : Int32} (h : si r 5 v = r') : (cellsOf Γ 0 o r).set 0 (ad Γ o, .inr (0, ((cl0_fs Γ o r).set 5 (.int v)))) = cellsOf Γ 0 o r' := by subst h; rfl
theorem st0_6 {Γ : Gm} {o : Nat} {r r' : Rec} {v : Int32} (h : si r 6 v = r') : (cellsOf Γ 0 o r).set 0 (ad Γ o, .inr (0, ((cl0_fs Γ o r).set 6 (.int v)))) = cellsOf Γ 0 o r' := by subst h; rfl
theorem st0_7 {Γ : Gm} {o : Nat} {r r' : Rec} {v : Int32} (h : si r 7 v = r') : (cellsOf Γ 0 o r).set 0 (ad Γ o, .inr (0, ((cl0_fs Γ o r).set 7 (.int v)))) = cellsOf Γ 0 o r' := by subst h; rfl
theorem st0_8 {Γ : Gm} {o : Nat} {r r' : Rec} {v : Int32} (h : si r 8 v = r') : (cellsOf Γ 0 o r).set 0 (ad Γ o, .inr (0, ((cl0_fs Γ o r).set 8 (.int v)))) = cellsOf Γ 0 o r' := by subst h; rfl
theorem st0_9 {Γ : Gm} {o : Nat} {r r' : Rec} {v : Int32} (h : si r 9 v = r') : (cellsOf Γ 0 o r).set 0 (ad Γ o, .inr (0, ((cl0_fs Γ o r).set 9 (.int v)))) = cellsOf Γ 0 o r' := by subst h; rfl
theorem st0_10 {Γ : Gm} {o : Nat} {r r' : Rec} {v : Int32} (h : si r 10 v = r') : (cellsOf Γ 0 o r).set 0 (ad Γ o, .inr (0, ((cl0_fs Γ o r).set 10 (.int v)))) = cellsOf Γ 0 o r' := by subst h; rfl
theorem st0_11 {Γ : Gm} {o : Nat} {r r' : Rec} {v : Int32} (h : si r 11 v = r') : (cellsOf Γ 0 o r).set 0 (ad Γ o, .inr (0, ((cl0_fs Γ o r).set 11 (.int v)))) = cellsOf Γ 0 o r' := by subst h; rfl
theorem sa1_0 {Γ : Gm} {o : Nat} {r r' : Rec} {f : Nat → Int32} (h : sa r 0 f = r') : (cellsOf Γ 1 o r).set 1 (aa Γ o 0, .inl (ac Γ 0, 120, .inl f)) = cellsOf Γ 1 o r' := by subst h; rfl
theorem st1_1 {Γ : Gm} {o : Nat} {r r' : Rec} {v : Int32} (h : si r 1 v = r') : (cellsOf Γ 1 o r).set 0 (ad Γ o, .inr (1, ((cl1_fs Γ o r).set 1 (.int v)))) = cellsOf Γ 1 o r' := by subst h; rfl
theorem sa1_2 {Γ : Gm} {o : Nat} {r r' : Rec} {f : Nat → Int32} (h : sa r 2 f = r') : (cellsOf Γ 1 o r).set 2 (aa Γ o 2, .inl (ac Γ 0, 61, .inl f)) = cellsOf Γ 1 o r' := by subst h; rfl
theorem st2_0 {Γ : Gm} {o : Nat} {r r' : Rec} {v : Int32} (h : si r 0 v = r') : (cellsOf Γ 2 o r).set 0 (ad Γ o, .inr (2, ((cl2_fs Γ o r).set 0 (.int v)))) = cellsOf Γ 2 o r' := by subst h; rfl
theorem st2_1 {Γ : Gm} {o : Nat} {r r' : Rec} {v : Int32} (h : si r 1 v = r') : (cellsOf Γ 2 o r).set 0 (ad Γ o, .inr (2, ((cl2_fs Γ o r).set 1 (.int v)))) = cellsOf Γ 2 o r' := by subst h; rfl
theorem st2_2 {Γ : Gm} {o : Nat} {r r' : Rec} {v : Int32} (h : si r 2 v = r') : (cellsOf Γ 2 o r).set 0 (ad Γ o, .inr (2, ((cl2_fs Γ o r).set 2 (.int v)))) = cellsOf Γ 2 o r' := by subst h; rfl
theorem sa2_3 {Γ : Gm} {o : Nat} {r r' : Rec} {f : Nat → Int32} (h : sa r 3 f = r') : (cellsOf Γ 2 o r).set 1 (aa Γ o 3, .inl (ac Γ 0, 8, .inl f)) = cellsOf Γ 2 o r' := by subst h; rfl
theorem sa2_4 {Γ : Gm} {o : Nat} {r r' : Rec} {f : Nat → Int32} (h : sa r 4 f = r') : (cellsOf Γ 2 o r).set 2 (aa Γ o 4, .inl (ac Γ 0, 8, .inl f)) = cellsOf Γ 2 o r' := by subst h; rfl
theorem sa2_5 {Γ : Gm} {o : Nat} {r r' : Rec} {f : Nat → Int32} (h : sa r 5 f = r') : (cellsOf Γ 2 o r).set 3 (aa Γ o 5, .inl (ac Γ 0, 8, .inl f)) = cellsOf Γ 2 o r' := by subst h; rfl
theorem sa2_6 {Γ : Gm} {o : Nat} {r r' : Rec} {f : Nat → Int32} (h : sa r 6 f = r') : (cellsOf Γ 2 o r).set 4 (aa Γ o 6, .inl (ac Γ 0, 10, .inl f)) = cellsOf Γ 2 o r' := by subst h; rfl
theorem sa2_7 {Γ : Gm} {o : Nat} {r r' : Rec} {f : Nat → Int32} (h : sa r 7 f = r') : (cellsOf Γ 2 o r).set 5 (aa Γ o 7, .inl (ac Γ 0, 10, .inl f)) = cellsOf Γ 2 o r' := by subst h; rfl
theorem sa2_8 {Γ : Gm} {o : Nat} {r r' : Rec} {f : Nat → Int32} (h : sa r 8 f = r') : (cellsOf Γ 2 o r).set 6 (aa Γ o 8, .inl (ac Γ 0, 8, .inl f)) = cellsOf Γ 2 o r' := by subst h; rfl
theorem sa2_9 {Γ : Gm} {o : Nat} {r r' : Rec} {f : Nat → Int32} (h : sa r 9 f = r') : (cellsOf Γ 2 o r).set 7 (aa Γ o 9, .inl (ac Γ 0, 8, .inl f)) = cellsOf Γ 2 o r' := by subst h; rfl
theorem sa2_10 {Γ : Gm} {o : Nat} {r r' : Rec} {f : Nat → Int32} (h : sa r 10 f = r') : (cellsOf Γ 2 o r).set 8 (aa Γ o 10, .inl (ac Γ 0, 8, .inl f)) = cellsOf Γ 2 o r' := by subst h; rfl
theorem sa3_0 {Γ : Gm} {o : Nat} {r r' : Rec} {f : Nat → Int32} (h : sa r 0 f = r') : (cellsOf Γ 3 o r).set 1 (aa Γ o 0, .inl (ac Γ 0, 1024, .inl f)) = cellsOf Γ 3 o r' := by subst h; rfl
theorem sa3_1 {Γ : Gm} {o : Nat} {r r' : Rec} {f : Nat → Int32} (h : sa r 1 f = r') : (cellsOf Γ 3 o r).set 2 (aa Γ o 1, .inl (ac Γ 0, 10, .inl f)) = cellsOf Γ 3 o r' := by subst h; rfl
theorem sa3_2 {Γ : Gm} {o : Nat} {r r' : Rec} {f : Nat → Int32} (h : sa r 2 f = r') : (cellsOf Γ 3 o r).set 3 (aa Γ o 2, .inl (ac Γ 0, 10, .inl f)) = cellsOf Γ 3 o r' := by subst h; rfl
theorem sa4_0 {Γ : Gm} {o : Nat} {r r' : Rec} {f : Nat → Int32} (h : sa r 0 f = r') : (cellsOf Γ 4 o r).set 1 (aa Γ o 0, .inl (ac Γ 1, 600, .inl f)) = cellsOf Γ 4 o r' := by subst h; rfl
theorem st4_1 {Γ : Gm} {o : Nat} {r r' : Rec} {v : Int32} (h : si r 1 v = r') : (cellsOf Γ 4 o r).set 0 (ad Γ o, .inr (4, ((cl4_fs Γ o r).set 1 (.int v)))) = cellsOf Γ 4 o r' := by subst h; rfl
theorem st4_2 {Γ : Gm} {o : Nat} {r r' : Rec} {v : Int32} (h : si r 2 v = r') : (cellsOf Γ 4 o r).set 0 (ad Γ o, .inr (4, ((cl4_fs Γ o r).set 2 (.int v)))) = cellsOf Γ 4 o r' := by subst h; rfl
theorem st4_3 {Γ : Gm} {o : Nat} {r r' : Rec} {v : Int32} (h : si r 3 v = r') : (cellsOf Γ 4 o r).set 0 (ad Γ o, .inr (4, ((cl4_fs Γ o r).set 3 (.int v)))) = cellsOf Γ 4 o r' := by subst h; rfl
theorem st4_4 {Γ : Gm} {o : Nat} {r r' : Rec} {v : Int32} (h : si r 4 v = r') : (cellsOf Γ 4 o r).set 0 (ad Γ o, .inr (4, ((cl4_fs Γ o r).set 4 (.int v)))) = cellsOf Γ 4 o r' := by subst h; rfl
theorem st4_5 {Γ : Gm} {o : Nat} {r r' : Rec} {v : Int32} (h : si r 5 v = r') : (cellsOf Γ 4 o r).set 0 (ad Γ o, .inr (4, ((cl4_fs Γ o r).set 5 (.int v)))) = cellsOf Γ 4 o r' := by subst h; rfl
theorem sa4_6 {Γ : Gm} {o : Nat} {r r' : Rec} {f : Nat → Int32} (h : sa r 6 f = r') : (cellsOf Γ 4 o r).set 2 (aa Γ o 6, .inl (ac Γ 0, 120, .inl f)) = cellsOf Γ 4 o r' := by subst h; rfl
theorem sa4_7 {Γ : Gm} {o : Nat} {r r' : Rec} {f : Nat → Int32} (h : sa r 7 f = r') : (cellsOf Γ 4 o r).set 3 (aa Γ o 7, .inl (ac Γ 0, 120, .inl f)) = cellsOf Γ 4 o r' := by subst h; rfl
theorem sa4_8 {Γ : Gm} {o : Nat} {r r' : Rec} {f : Nat → Int32} (h : sa r 8 f = r') : (cellsOf Γ 4 o r).set 4 (aa Γ o 8, .inl (ac Γ 0, 120, .inl f)) = cellsOf Γ 4 o r' := by subst h; rfl
theorem sa4_9 {Γ : Gm} {o : Nat} {r r' : Rec} {f : Nat → Int32} (h : sa r 9 f = r') : (cellsOf Γ 4 o r).set 5 (aa Γ o 9, .inl (ac Γ 0, 360, .inl f)) = cellsOf Γ 4 o r' := by subst h; rfl
theorem sa4_10 {Γ : Gm} {o : Nat} {r r' : Rec} {f : Nat → Int32} (h : sa r 10 f = r') : (cellsOf Γ 4 o r).set 6 (aa Γ o 10, .inl (ac Γ 0, 360, .inl f)) = cellsOf Γ 4 o r' := by subst h; rfl
theorem sa4_11 {Γ : Gm} {o : Nat} {r r' : Rec} {f : Nat → Int32} (h : sa r 11 f = r') : (cellsOf Γ 4 o r).set 7 (aa Γ o 11, .inl (ac Γ 0, 4, .inl f)) = cellsOf Γ 4 o r' := by subst h; rfl
theorem st4_12 {Γ : Gm} {o : Nat} {r r' : Rec} {v : Int32} (h : si r 12 v = r') : (cellsOf Γ 4 o r).set 0 (ad Γ o, .inr (4, ((cl4_fs Γ o r).set 12 (.int v)))) = cellsOf Γ 4 o r' := by subst h; rfl
theorem st4_13 {Γ : Gm} {o : Nat} {r r' : Rec} {v : Int32} (h : si r 13 v = r') : (cellsOf Γ 4 o r).set 0 (ad Γ o, .inr (4, ((cl4_fs Γ o r).set 13 (.int v)))) = cellsOf Γ 4 o r' := by subst h; rfl
theorem sa5_1 {Γ : Gm} {o : Nat} {r r' : Rec} {f : Nat → Int32} (h : sa r 1 f = r') : (cellsOf Γ 5 o r).set 1 (aa Γ o 1, .inl (ac Γ 0, 4 * (gi r 0).toNatClampNeg, .inl f)) = cellsOf Γ 5 o r' := by subst h; rfl
theorem st5_2 {Γ : Gm} {o : Nat} {r r' : Rec} {v : Int32} (h : si r 2 v = r') : (cellsOf Γ 5 o r).set 0 (ad Γ o, .inr (5, ((cl5_fs Γ o r).set 2 (.int v)))) = cellsOf Γ 5 o r' := by subst h; rfl
theorem sa6_0 {Γ : Gm} {o : Nat} {r r' : Rec} {f : Nat → Int32} (h : sa r 0 f = r') : (cellsOf Γ 6 o r).set 1 (aa Γ o 0, .inl (ac Γ 0, 80, .inl f)) = cellsOf Γ 6 o r' := by subst h; rfl
theorem sa6_1 {Γ : Gm} {o : Nat} {r r' : Rec} {f : Nat → Int32} (h : sa r 1 f = r') : (cellsOf Γ 6 o r).set 2 (aa Γ o 1, .inl (ac Γ 0, 1024, .inl f)) = cellsOf Γ 6 o r' := by subst h; rfl
theorem sa7_0 {Γ : Gm} {o : Nat} {r r' : Rec} {f : Nat → Int32} (h : sa r 0 f = r') : (cellsOf Γ 7 o r).set 1 (aa Γ o 0, .inl (ac Γ 0, 256, .inl f)) = cellsOf Γ 7 o r' := by subst h; rfl
theorem sa8_0 {Γ : Gm} {o : Nat} {r r' : Rec} {f : Nat → Int32} (h : sa r 0 f = r') : (cellsOf Γ 8 o r).set 1 (aa Γ o 0, .inl (ac Γ 1, 600, .inl f)) = cellsOf Γ 8 o r' := by subst h; rfl
theorem st8_1 {Γ : Gm} {o : Nat} {r r' : Rec} {v : Int32} (h : si r 1 v = r') : (cellsOf Γ 8 o r).set 0 (ad Γ o, .inr (8, ((cl8_fs Γ o r).set 1 (.int v)))) = cellsOf Γ 8 o r' := by subst h; rfl
theorem st8_2 {Γ : Gm} {o : Nat} {r r' : Rec} {v : Int32} (h : si r 2 v = r') : (cellsOf Γ 8 o r).set 0 (ad Γ o, .inr (8, ((cl8_fs Γ o r).set 2 (.int v)))) = cellsOf Γ 8 o r' := by subst h; rfl
theorem st8_3 {Γ : Gm} {o : Nat} {r r' : Rec} {v : Int32} (h : si r 3 v = r') : (cellsOf Γ 8 o r).set 0 (ad Γ o, .inr (8, ((cl8_fs Γ o r).set 3 (.int v)))) = cellsOf Γ 8 o r' := by subst h; rfl
theorem sa8_4 {Γ : Gm} {o : Nat} {r r' : Rec} {f : Nat → Int32} (h : sa r 4 f = r') : (cellsOf Γ 8 o r).set 2 (aa Γ o 4, .inl (ac Γ 0, 4, .inl f)) = cellsOf Γ 8 o r' := by subst h; rfl
theorem st10_0 {Γ : Gm} {o : Nat} {r r' : Rec} {v : Int32} (h : si r 0 v = r') : (cellsOf Γ 10 o r).set 0 (ad Γ o, .inr (10, ((cl10_fs Γ o r).set 0 (.int v)))) = cellsOf Γ 10 o r' := by subst h; rfl
theorem sa10_1 {Γ : Gm} {o : Nat} {r r' : Rec} {f : Nat → Int32} (h : sa r 1 f = r') : (cellsOf Γ 10 o r).set 1 (aa Γ o 1, .inl (ac Γ 1, 2400, .inl f)) = cellsOf Γ 10 o r' := by subst h; rfl
theorem sa10_2 {Γ : Gm} {o : Nat} {r r' : Rec} {f : Nat → Int32} (h : sa r 2 f = r') : (cellsOf Γ 10 o r).set 2 (aa Γ o 2, .inl (ac Γ 0, 4, .inl f)) = cellsOf Γ 10 o r' := by subst h; rfl
theorem sa10_3 {Γ : Gm} {o : Nat} {r r' : Rec} {f : Nat → Int32} (h : sa r 3 f = r') : (cellsOf Γ 10 o r).set 3 (aa Γ o 3, .inl (ac Γ 0, 4, .inl f)) = cellsOf Γ 10 o r' := by subst h; rfl
theorem sa10_4 {Γ : Gm} {o : Nat} {r r' : Rec} {f : Nat → Int32} (h : sa r 4 f = r') : (cellsOf Γ 10 o r).set 4 (aa Γ o 4, .inl (ac Γ 0, 4, .inl f)) = cellsOf Γ 10 o r' := by subst h; rfl
theorem sa10_5 {Γ : Gm} {o : Nat} {r r' : Rec} {f : Nat → Int32} (h : sa r 5 f = r') : (cellsOf Γ 10 o r).set 5 (aa Γ o 5, .inl (ac Γ 0, 16, .inl f)) = cellsOf Γ 10 o r' := by subst h; rfl
theorem sa10_6 {Γ : Gm} {o : Nat} {r r' : Rec} {f : Nat → Int32} (h : sa r 6 f = r') : (cellsOf Γ 10 o r).set 6 (aa Γ o 6, .inl (ac Γ 0, 568, .inl f)) = cellsOf Γ 10 o r' := by subst h; rfl
theorem sa10_7 {Γ : Gm} {o : Nat} {r r' : Rec} {f : Nat → Int32} (h : sa r 7 f = r') : (cellsOf Γ 10 o r).set 7 (aa Γ o 7, .inl (ac Γ 0, 1288, .inl f)) = cellsOf Γ 10 o r' := by subst h; rfl
theorem sa10_8 {Γ : Gm} {o : Nat} {r r' : Rec} {f : Nat → Int32} (h : sa r 8 f = r') : (cellsOf Γ 10 o r).set 8 (aa Γ o 8, .inl (ac Γ 0, 200, .inl f)) = cellsOf Γ 10 o r' := by subst h; rfl
theorem sa10_9 {Γ : Gm} {o : Nat} {r r' : Rec} {f : Nat → Int32} (h : sa r 9 f = r') : (cellsOf Γ 10 o r).set 9 (aa Γ o 9, .inl (ac Γ 0, 136, .inl f)) = cellsOf Γ 10 o r' := by subst h; rfl
theorem st10_10 {Γ : Gm} {o : Nat} {r r' : Rec} {v : Int32} (h : si r 10 v = r') : (cellsOf Γ 10 o r).set 0 (ad Γ o, .inr (10, ((cl10_fs Γ o r).set 10 (.int v)))) = cellsOf Γ 10 o r' := by subst h; rfl
theorem st10_11 {Γ : Gm} {o : Nat} {r r' : Rec} {v : Int32} (h : si r 11 v = r') : (cellsOf Γ 10 o r).set 0 (ad Γ o, .inr (10, ((cl10_fs Γ o r).set 11 (.int v)))) = cellsOf Γ 10 o r' := by subst h; rfl
theorem st10_12 {Γ : Gm} {o : Nat} {r r' : Rec} {v : Int32} (h : si r 12 v = r') : (cellsOf Γ 10 o r).set 0 (ad Γ o, .inr (10, ((cl10_fs Γ o r).set 12 (.int v)))) = cellsOf Γ 10 o r' := by subst h; rfl
theorem st10_13 {Γ : Gm} {o : Nat} {r r' : Rec} {v : Int32} (h : si r 13 v = r') : (cellsOf Γ 10 o r).set 0 (ad Γ o, .inr (10, ((cl10_fs Γ o r).set 13 (.int v)))) = cellsOf Γ 10 o r' := by subst h; rfl
theorem st10_14 {Γ : Gm} {o : Nat} {r r' : Rec} {v : Int32} (h : si r 14 v = r') : (cellsOf Γ 10 o r).set 0 (ad Γ o, .inr (10, ((cl10_fs Γ o r).set 14 (.int v)))) = cellsOf Γ 10 o r' := by subst h; rfl
theorem st10_15 {Γ : Gm} {o : Nat} {r r' : Rec} {v : Int64} (h : sl r 15 v = r') : (cellsOf Γ 10 o r).set 0 (ad Γ o, .inr (10, ((cl10_fs Γ o r).set 15 (.long v)))) = cellsOf Γ 10 o r' := by subst h; rfl
theorem st10_16 {Γ : Gm} {o : Nat} {r r' : Rec} {v : Int32} (h : si r 16 v = r') : (cellsOf Γ 10 o r).set 0 (ad Γ o, .inr (10, ((cl10_fs Γ o r).set 16 (.int v)))) = cellsOf Γ 10 o r' := by subst h; rfl
theorem st10_17 {Γ : Gm} {o : Nat} {r r' : Rec} {v : Int32} (h : si r 17 v = r') : (cellsOf Γ 10 o r).set 0 (ad Γ o, .inr (10, ((cl10_fs Γ o r).set 17 (.int v)))) = cellsOf Γ 10 o r' := by subst h; rfl
theorem st10_18 {Γ : Gm} {o : Nat} {r r' : Rec} {v : Int32} (h : si r 18 v = r') : (cellsOf Γ 10 o r).set 0 (ad Γ o, .inr (10, ((cl10_fs Γ o r).set 18 (.int v)))) = cellsOf Γ 10 o r' := by subst h; rfl
theorem sa10_19 {Γ : Gm} {o : Nat} {r r' : Rec} {f : Nat → Int32} (h : sa r 19 f = r') : (cellsOf Γ 10 o r).set 10 (aa Γ o 19, .inl (ac Γ 0, 161, .inl f)) = cellsOf Γ 10 o r' := by subst h; rfl
theorem sa10_20 {Γ : Gm} {o : Nat} {r r' : Rec} {f : Nat → Int32} (h : sa r 20 f = r') : (cellsOf Γ 10 o r).set 11 (aa Γ o 20, .inl (ac Γ 0, 4, .inl f)) = cellsOf Γ 10 o r' := by subst h; rfl
theorem st10_21 {Γ : Gm} {o : Nat} {r r' : Rec} {v : Int32} (h : si r 21 v = r') : (cellsOf Γ 10 o r).set 0 (ad Γ o, .inr (10, ((cl10_fs Γ o r).set 21 (.int v)))) = cellsOf Γ 10 o r' := by subst h; rfl
theorem st10_22 {Γ : Gm} {o : Nat} {r r' : Rec} {v : Int32} (h : si r 22 v = r') : (cellsOf Γ 10 o r).set 0 (ad Γ o, .inr (10, ((cl10_fs Γ o r).set 22 (.int v)))) = cellsOf Γ 10 o r' := by subst h; rfl
theorem st10_23 {Γ : Gm} {o : Nat} {r r' : Rec} {v : Int32} (h : si r 23 v = r') : (cellsOf Γ 10 o r).set 0 (ad Γ o, .inr (10, ((cl10_fs Γ o r).set 23 (.int v)))) = cellsOf Γ 10 o r' := by subst h; rfl
theorem st10_24 {Γ : Gm} {o : Nat} {r r' : Rec} {v : Int32} (h : si r 24 v = r') : (cellsOf Γ 10 o r).set 0 (ad Γ o, .inr (10, ((cl10_fs Γ o r).set 24 (.int v)))) = cellsOf Γ 10 o r' := by subst h; rfl
theorem st10_25 {Γ : Gm} {o : Nat} {r r' : Rec} {v : Int32} (h : si r 25 v = r') : (cellsOf Γ 10 o r).set 0 (ad Γ o, .inr (10, ((cl10_fs Γ o r).set 25 (.int v)))) = cellsOf Γ 10 o r' := by subst h; rfl
theorem st10_26 {Γ : Gm} {o : Nat} {r r' : Rec} {v : Int32} (h : si r 26 v = r') : (cellsOf Γ 10 o r).set 0 (ad Γ o, .inr (10, ((cl10_fs Γ o r).set 26 (.int v)))) = cellsOf Γ 10 o r' := by subst h; rfl
theorem st10_27 {Γ : Gm} {o : Nat} {r r' : Rec} {v : Int32} (h : si r 27 v = r') : (cellsOf Γ 10 o r).set 0 (ad Γ o, .inr (10, ((cl10_fs Γ o r).set 27 (.int v)))) = cellsOf Γ 10 o r' := by subst h; rfl
theorem sa10_28 {Γ : Gm} {o : Nat} {r r' : Rec} {f : Nat → Int32} (h : sa r 28 f = r') : (cellsOf Γ 10 o r).set 12 (aa Γ o 28, .inl (ac Γ 0, 8, .inl f)) = cellsOf Γ 10 o r' := by subst h; rfl
theorem st10_29 {Γ : Gm} {o : Nat} {r r' : Rec} {v : Int32} (h : si r 29 v = r') : (cellsOf Γ 10 o r).set 0 (ad Γ o, .inr (10, ((cl10_fs Γ o r).set 29 (.int v)))) = cellsOf Γ 10 o r' := by subst h; rfl
theorem st10_30 {Γ : Gm} {o : Nat} {r r' : Rec} {v : Int32} (h : si r 30 v = r') : (cellsOf Γ 10 o r).set 0 (ad Γ o, .inr (10, ((cl10_fs Γ o r).set 30 (.int v)))) = cellsOf Γ 10 o r' := by subst h; rfl
theorem st10_31 {Γ : Gm} {o : Nat} {r r' : Rec} {v : Int32} (h : si r 31 v = r') : (cellsOf Γ 10 o r).set 0 (ad Γ o, .inr (10, ((cl10_fs Γ o r).set 31 (.int v)))) = cellsOf Γ 10 o r' := by subst h; rfl
theorem st10_32 {Γ : Gm} {o : Nat} {r r' : Rec} {v : Int32} (h : si r 32 v = r') : (cellsOf Γ 10 o r).set 0 (ad Γ o, .inr (10, ((cl10_fs Γ o r).set 32 (.int v)))) = cellsOf Γ 10 o r' := by subst h; rfl
theorem sa10_33 {Γ : Gm} {o : Nat} {r r' : Rec} {f : Nat → Int32} (h : sa r 33 f = r') : (cellsOf Γ 10 o r).set 13 (aa Γ o 33, .inl (ac Γ 0, 8, .inl f)) = cellsOf Γ 10 o r' := by subst h; rfl
theorem sa10_34 {Γ : Gm} {o : Nat} {r r' : Rec} {f : Nat → Int32} (h : sa r 34 f = r') : (cellsOf Γ 10 o r).set 14 (aa Γ o 34, .inl (ac Γ 0, 8, .inl f)) = cellsOf Γ 10 o r' := by subst h; rfl
theorem st10_35 {Γ : Gm} {o : Nat} {r r' : Rec} {v : Int32} (h : si r 35 v = r') : (cellsOf Γ 10 o r).set 0 (ad Γ o, .inr (10, ((cl10_fs Γ o r).set 35 (.int v)))) = cellsOf Γ 10 o r' := by subst h; rfl
theorem sa10_36 {Γ : Gm} {o : Nat} {r r' : Rec} {f : Nat → Int32} (h : sa r 36 f = r') : (cellsOf Γ 10 o r).set 15 (aa Γ o 36, .inl (ac Γ 0, 9216, .inl f)) = cellsOf Γ 10 o r' := by subst h; rfl
theorem sa10_37 {Γ : Gm} {o : Nat} {r r' : Rec} {f : Nat → Int32} (h : sa r 37 f = r') : (cellsOf Γ 10 o r).set 16 (aa Γ o 37, .inl (ac Γ 0, 9216, .inl f)) = cellsOf Γ 10 o r' := by subst h; rfl
theorem sa10_38 {Γ : Gm} {o : Nat} {r r' : Rec} {f : Nat → Int32} (h : sa r 38 f = r') : (cellsOf Γ 10 o r).set 17 (aa Γ o 38, .inl (ac Γ 0, 256, .inl f)) = cellsOf Γ 10 o r' := by subst h; rfl
theorem sa10_39 {Γ : Gm} {o : Nat} {r r' : Rec} {f : Nat → Int32} (h : sa r 39 f = r') : (cellsOf Γ 10 o r).set 18 (aa Γ o 39, .inl (ac Γ 0, 1024, .inl f)) = cellsOf Γ 10 o r' := by subst h; rfl
theorem sa10_40 {Γ : Gm} {o : Nat} {r r' : Rec} {f : Nat → Int32} (h : sa r 40 f = r') : (cellsOf Γ 10 o r).set 19 (aa Γ o 40, .inl (ac Γ 0, 10, .inl f)) = cellsOf Γ 10 o r' := by subst h; rfl
theorem st10_41 {Γ : Gm} {o : Nat} {r r' : Rec} {v : Int32} (h : si r 41 v = r') : (cellsOf Γ 10 o r).set 0 (ad Γ o, .inr (10, ((cl10_fs Γ o r).set 41 (.int v)))) = cellsOf Γ 10 o r' := by subst h; rfl
theorem sa10_42 {Γ : Gm} {o : Nat} {r r' : Rec} {f : Nat → Int32} (h : sa r 42 f = r') : (cellsOf Γ 10 o r).set 20 (aa Γ o 42, .inl (ac Γ 0, 120, .inl f)) = cellsOf Γ 10 o r' := by subst h; rfl
theorem st10_43 {Γ : Gm} {o : Nat} {r r' : Rec} {v : Int32} (h : si r 43 v = r') : (cellsOf Γ 10 o r).set 0 (ad Γ o, .inr (10, ((cl10_fs Γ o r).set 43 (.int v)))) = cellsOf Γ 10 o r' := by subst h; rfl
theorem sa10_44 {Γ : Gm} {o : Nat} {r r' : Rec} {f : Nat → Int32} (h : sa r 44 f = r') : (cellsOf Γ 10 o r).set 21 (aa Γ o 44, .inl (ac Γ 0, 61, .inl f)) = cellsOf Γ 10 o r' := by subst h; rfl
theorem st10_45 {Γ : Gm} {o : Nat} {r r' : Rec} {v : Int32} (h : si r 45 v = r') : (cellsOf Γ 10 o r).set 0 (ad Γ o, .inr (10, ((cl10_fs Γ o r).set 45 (.int v)))) = cellsOf Γ 10 o r' := by subst h; rfl
theorem sa10_46 {Γ : Gm} {o : Nat} {r r' : Rec} {f : Nat → Int32} (h : sa r 46 f = r') : (cellsOf Γ 10 o r).set 22 (aa Γ o 46, .inl (ac Γ 0, 80, .inl f)) = cellsOf Γ 10 o r' := by subst h; rfl
theorem sa10_47 {Γ : Gm} {o : Nat} {r r' : Rec} {f : Nat → Int32} (h : sa r 47 f = r') : (cellsOf Γ 10 o r).set 23 (aa Γ o 47, .inl (ac Γ 0, 8, .inl f)) = cellsOf Γ 10 o r' := by subst h; rfl
theorem sa10_48 {Γ : Gm} {o : Nat} {r r' : Rec} {f : Nat → Int32} (h : sa r 48 f = r') : (cellsOf Γ 10 o r).set 24 (aa Γ o 48, .inl (ac Γ 2, 3, .inl f)) = cellsOf Γ 10 o r' := by subst h; rfl
def nestL : List (String × Nat × MethodName × String) := [(RX8, 47, yX2_init, "TarnishTurns"), (RX9, 22, yX4_init, "TarnishTurns"), (RX9, 29, yX0_init, "TarnishTurns"), (RX0, 11, yX2_init, "TarnishTurns"), (RX9, 36, yX6_init, "TarnishTurns"), (RX9, 43, yX3_init, "TarnishTurns"), (RX9, 50, yX1_init, "TarnishTurns"), (RX9, 57, yX7_init, "TarnishTurns"), (RX2, 91, yX9_hasBit, "TarnishTurns"), (RX2, 95, yX9_worthOf, "TarnishTurns"), (RX0, 130, yX9_hasBit, "TarnishTurns"), (RX0, 142, yX9_worthOf, "TarnishTurns"), (RX6, 55, yX9_hasBit, "TarnishTurns"), (RX7, 25, yX9_hasBit, "TarnishTurns"), (RX3, 31, yX9_hasBit, "TarnishTurns"), (RX2, 152, yX9_weightOfCode, "TarnishTurns"), (RX2, 155, yX9_kindOfCode, "TarnishTurns"), (RX2, 140, yX9_hoursLeft, "TarnishTurns"), (RX1, 38, yX9_kindOfCode, "TarnishTurns"), (RX1, 42, yX9_weightOfCode, "TarnishTurns")]
def NestW (U : State) : Prop := ∀ q ∈ nestL, va_Nw (.methodLinkNest q.1 q.2.1 q.2.2.1 q.2.2.2) U
theorem NestW.warm {s U : State} (h : NestW s) (hW : s.WarmedH U.vm) : NestW U := fun q hq => va_Nw.warmM hW (h q hq)
theorem NestW.same {s U : State} (h : NestW s) (e : s.vm = U.vm) : NestW U := fun q hq => va_Nw.same rfl e (h q hq)

/-- the world: every object that there is holds what G says -/
def Wo (Γ : Gm) (G : Gs) (H : Heap) : Prop := ∀ (o ci : Nat), kd Γ o = some ci → va_P (dd Γ) vwCl (cellsOf Γ ci o (G o)) H
/-- no two of them share a place, and all are the method's to change -/
def Ap (Γ : Gm) (A : Nat → Prop) : Prop := (∀ (o ci o' ci' i i' : Nat) (r r' : Rec) (q q' : Nat × va_E), kd Γ o = some ci → kd Γ o' = some ci' → (cellsOf Γ ci o r)[i]? = some q → (cellsOf Γ ci' o' r')[i']? = some q' → q.1 = q'.1 → o = o' ∧ i = i') ∧ ∀ (o ci i : Nat) (r : Rec) (q : Nat × va_E), kd Γ o = some ci → (cellsOf Γ ci o r)[i]? = some q → A q.1
theorem Ap.D {Γ : Gm} {A : Nat → Prop} (h : Ap Γ A) {o ci : Nat} (hk : kd Γ o = some ci) (r : Rec) : va_D A (cellsOf Γ ci o r) :=
  ⟨fun i j p q hi hj e => (h.1 o ci o ci i j r r p q hk hk hi hj e).2, fun k q hq => h.2 o ci k r q hk hq⟩
theorem wo_me {Γ : Gm} {G : Gs} {o ci : Nat} {r : Rec} {H : Heap} (hw : Wo Γ (ug G o r) H) (hk : kd Γ o = some ci) : va_P (dd Γ) vwCl (cellsOf Γ ci o r) H := by
  have h := hw o ci hk
  rw [ug_same] at h
  exact h
theorem wo_upd {Γ : Gm} {A : Nat → Prop} {G : Gs} {o ci i a : Nat} {r r' : Rec} {e0 e : va_E} {H H1 : Heap} (hw : Wo Γ (ug G o r) H) (hap : Ap Γ A) (hk : kd Γ o = some ci) (hq : (cellsOf Γ ci o r)[i]? = some (a, e0)) (he : va_at (dd Γ) vwCl (a, e) H1) (oq : ∀ q : Nat, q ≠ a → H1[q]? = H[q]?) (hset : (cellsOf Γ ci o r).set i (a, e) = cellsOf Γ ci o r') : Wo Γ (ug G o r') H1 := by
  intro o' ci' hk'
  by_cases ho : o' = o
  · subst ho
    have hc : ci' = ci := Option.some.inj (hk'.symm.trans hk)
    subst hc
    rw [ug_same, ← hset]
    exact (wo_me hw hk).set (hap.D hk r) hq he oq
  · have h := hw o' ci' hk'
    rw [ug_ne ho] at h ⊢
    exact h.kept (fun k q hq' => oq q.1 (fun e1 => ho (hap.1 o' ci' o ci k i _ r q (a, e0) hk' hk hq' hq e1).1))
/-! the surroundings of a call: the tables' classes, that places are apart, which objects there are, the statics and the constant texts -/
def WF (Γ : Gm) : Prop := kd Γ 1 = some 0 ∧ kd Γ 101 = some 1 ∧ kd Γ 209 = some 2 ∧ kd Γ 301 = some 3 ∧ kd Γ 401 = some 4 ∧ kd Γ 601 = some 6 ∧ kd Γ 701 = some 7 ∧ kd Γ 800 = some 8 ∧ kd Γ 901 = some 9 ∧ kd Γ 1001 = some 10 ∧ ∀ t, kd Γ t = some 8 → ∀ i, i < 2 → kd Γ (200 + 2 * (t - 800) + i) = some 2 ∧ kd Γ (500 + 6 * (t - 800) + i) = some 5 ∧ kd Γ (502 + 6 * (t - 800) + i) = some 5 ∧ kd Γ (504 + 6 * (t - 800) + i) = some 5
def sNm (i : Nat) : String := match i with
  | 0 => "VERBS_FROM"
  | 1 => "NUMBERS"
  | 2 => "LIMITS"
  | 3 => "LEAST"
  | 4 => "MOST"
  | _ => ""
def sIx (i : Nat) : Nat := match i with
  | 0 => 126
  | 1 => 165
  | 2 => 184
  | 3 => 187
  | 4 => 190
  | _ => 0
def sLn (i : Nat) : Nat := match i with
  | 0 => 5
  | 1 => 12
  | 2 => 12
  | 3 => 36
  | 4 => 36
  | _ => 0
def sDt (i j : Nat) : Int32 := match i with
  | 0 => ([0, 4, 10, 11, 12] : List Int32).getD j 0
  | 1 => ([1, 1, 2, 3, 2, 3, 1, 1, 1, 0, 3, 2] : List Int32).getD j 0
  | 2 => ([8, 10, 600, 8, 40, 40, 40, 40, 40, 40, 8, 8] : List Int32).getD j 0
  | 3 => ([0, 0, 0, 1, 0, 0, 0, 0, 0, 0, 0, 0, 0, 0, 0, 0, 0, 0, 0, 0, 0, 0, 0, 0, 0, 0, 0, 0, 0, 0, 0, 0, 1, 0, 0, 0] : List Int32).getD j 0
  | 4 => ([9, 0, 0, 30, 0, 0, 7, 9, 0, 9, 9, 9, 9, 7, 0, 9, 7, 7, 7, 0, 0, 7, 0, 0, 7, 0, 0, 0, 0, 0, 60, 7, 60, 7, 60, 0] : List Int32).getD j 0
  | _ => 0
def tIx (i : Nat) : Nat := ([100, 102, 104, 106, 108, 110, 112, 114, 116, 118, 120, 122, 124, 137, 139, 141, 143] : List Nat).getD i 0
def tTx (i : Nat) : String := (["piece", "secret", "knows", "link", "tell", "both", "polish", "steal", "back", "hour", "dinner", "shone", "", "love", "debt", "death", "will"] : List String).getD i ""
def tLen : List Nat := [5, 6, 5, 4, 4, 4, 6, 5, 4, 4, 6, 5, 0, 4, 4, 5, 4]
def tByt : List (List Int32) := [[112, 105, 101, 99, 101], [115, 101, 99, 114, 101, 116], [107, 110, 111, 119, 115], [108, 105, 110, 107], [116, 101, 108, 108], [98, 111, 116, 104], [112, 111, 108, 105, 115, 104], [115, 116, 101, 97, 108], [98, 97, 99, 107], [104, 111, 117, 114], [100, 105, 110, 110, 101, 114], [115, 104, 111, 110, 101], [], [108, 111, 118, 101], [100, 101, 98, 116], [100, 101, 97, 116, 104], [119, 105, 108, 108]]
def Sx (Γ : Gm) (A : Nat → Prop) (U : State) : Prop :=
  (∀ i, i < 5 → va_Z "TarnishTurns" (sNm i) "[I" (.ref (sx Γ i)) A U U.heap ∧ va_T .int (sx Γ i) (sLn i) (fun j => .int (sDt i j)) A U U.heap) ∧ va_Z "java/lang/String" "COMPACT_STRINGS" "Z" (.int 1) A U U.heap ∧ vk_S 17 tLen tByt (kK Γ) (kV Γ) A U U.heap ∧ (∀ i, i < 17 → vk_R "TarnishTurns$Reader" (tIx i) (tTx i) (kK Γ i) U) ∧ (∀ i, i < 5 → va_Nw (.fieldLinkNest "TarnishTurns$Reader" (sIx i) "TarnishTurns" (sNm i) "[I" "TarnishTurns") U) ∧ va_Zq "jdk/internal/util/Preconditions" "SIOOBE_FORMATTER" "Ljava/util/function/BiFunction;" A U U.heap
theorem Sx.warm {Γ : Gm} {A : Nat → Prop} {s U : State} {H : Heap} {locs : List Loc} (hW : s.WarmedH U.vm) (hU : U.heap = H) (hS : va_S A s.heap H locs) (h : Sx Γ A s) : Sx Γ A U := by
  have hq : ∀ a : Nat, a < s.heap.size → ¬ A a → U.heap[a]? = s.heap[a]? := by rw [hU]; exact hS.2.1
  exact ⟨fun i hi => ⟨((h.1 i hi).1.moved hW.alike).kept hq, ((h.1 i hi).2.moved hW.alike).kept hq⟩, (h.2.1.moved hW.alike).kept hq, (h.2.2.1.moved hW.alike).kept hq, fun i hi => vk_R.warm hW (h.2.2.2.1 i hi), fun i hi => va_Nw.warmF hW (h.2.2.2.2.1 i hi), (h.2.2.2.2.2.moved hW.alike).kept hq⟩
theorem Sx.call {Γ : Gm} {A : Nat → Prop} {U : State} {g : JFrame} {mk : MethodId} {a : Array Value} (h : Sx Γ A U) : Sx Γ A (U.calling g mk a) :=
  ⟨fun i hi => ⟨va_Z.moved (u := U) (U := U.calling g mk a) (Vm.Alike.refl U.vm) (h.1 i hi).1, va_T.moved (u := U) (U := U.calling g mk a) (Vm.Alike.refl U.vm) (h.1 i hi).2⟩, va_Z.moved (u := U) (U := U.calling g mk a) (Vm.Alike.refl U.vm) h.2.1, vk_S.moved (u := U) (U := U.calling g mk a) (Vm.Alike.refl U.vm) h.2.2.1, fun i hi => vk_R.same (u := U) (U := U.calling g mk a) rfl (h.2.2.2.1 i hi), fun i hi => va_Nw.same rfl rfl (h.2.2.2.2.1 i hi), va_Zq.moved (u := U) (U := U.calling g mk a) (Vm.Alike.refl U.vm) h.2.2.2.2.2⟩
def Ev (Γ : Gm) (A : Nat → Prop) (U : State) : Prop := va_K (dd Γ) vwCl (tyl Γ) U ∧ Ap Γ A ∧ NestW U ∧ WF Γ ∧ Sx Γ A U
theorem Ev.warm {Γ : Gm} {A : Nat → Prop} {s U : State} {H : Heap} {locs : List Loc} (hW : s.WarmedH U.vm) (hU : U.heap = H) (hS : va_S A s.heap H locs) (h : Ev Γ A s) : Ev Γ A U := ⟨h.1.moved hW.alike, h.2.1, h.2.2.1.warm hW, h.2.2.2.1, h.2.2.2.2.warm hW hU hS⟩
theorem Ev.call {Γ : Gm} {A : Nat → Prop} {U : State} {g : JFrame} {mk : MethodId} {a : Array Value} (h : Ev Γ A U) : Ev Γ A (U.calling g mk a) := ⟨va_K.moved (u := U) (U := U.calling g mk a) (Vm.Alike.refl U.vm) h.1, h.2.1, h.2.2.1.same rfl, h.2.2.2.1, h.2.2.2.2.call⟩
theorem wf_1 {Γ : Gm} {A : Nat → Prop} {U : State} (h : Ev Γ A U) : kd Γ 1 = some 0 := h.2.2.2.1.1
theorem wf_101 {Γ : Gm} {A : Nat → Prop} {U : State} (h : Ev Γ A U) : kd Γ 101 = some 1 := h.2.2.2.1.2.1
theorem wf_209 {Γ : Gm} {A : Nat → Prop} {U : State} (h : Ev Γ A U) : kd Γ 209 = some 2 := h.2.2.2.1.2.2.1
theorem wf_301 {Γ : Gm} {A : Nat → Prop} {U : State} (h : Ev Γ A U) : kd Γ 301 = some 3 := h.2.2.2.1.2.2.2.1
theorem wf_401 {Γ : Gm} {A : Nat → Prop} {U : State} (h : Ev Γ A U) : kd Γ 401 = some 4 := h.2.2.2.1.2.2.2.2.1
theorem wf_601 {Γ : Gm} {A : Nat → Prop} {U : State} (h : Ev Γ A U) : kd Γ 601 = some 6 := h.2.2.2.1.2.2.2.2.2.1
theorem wf_701 {Γ : Gm} {A : Nat → Prop} {U : State} (h : Ev Γ A U) : kd Γ 701 = some 7 := h.2.2.2.1.2.2.2.2.2.2.1
theorem wf_800 {Γ : Gm} {A : Nat → Prop} {U : State} (h : Ev Γ A U) : kd Γ 800 = some 8 := h.2.2.2.1.2.2.2.2.2.2.2.1
theorem wf_901 {Γ : Gm} {A : Nat → Prop} {U : State} (h : Ev Γ A U) : kd Γ 901 = some 9 := h.2.2.2.1.2.2.2.2.2.2.2.2.1
theorem wf_1001 {Γ : Gm} {A : Nat → Prop} {U : State} (h : Ev Γ A U) : kd Γ 1001 = some 10 := h.2.2.2.1.2.2.2.2.2.2.2.2.2.1
theorem wf_t {Γ : Gm} {A : Nat → Prop} {U : State} (h : Ev Γ A U) {t : Nat} (ht : kd Γ t = some 8) {i : Nat} (hi : i < 2) : kd Γ (200 + 2 * (t - 800) + i) = some 2 ∧ kd Γ (500 + 6 * (t - 800) + i) = some 5 ∧ kd Γ (502 + 6 * (t - 800) + i) = some 5 ∧ kd Γ (504 + 6 * (t - 800) + i) = some 5 := h.2.2.2.1.2.2.2.2.2.2.2.2.2.2 t ht i hi
def isHm (h : Nat) : Bool := h == 200 || h == 201 || h == 209
def isRw (h : Nat) : Bool := h == 500 || h == 501 || h == 502 || h == 503 || h == 504 || h == 505
theorem hm_kd {Γ : Gm} {A : Nat → Prop} {U : State} (hE : Ev Γ A U) {h : Nat} (hh : isHm h = true) : kd Γ h = some 2 := by
  simp only [isHm, Bool.or_eq_true, beq_iff_eq] at hh
  rcases hh with (rfl | rfl) | rfl
  · exact (wf_t hE (wf_800 hE) (i := 0) (by decide)).1
  · exact (wf_t hE (wf_800 hE) (i := 1) (by decide)).1
  · exact wf_209 hE
theorem rw_kd {Γ : Gm} {A : Nat → Prop} {U : State} (hE : Ev Γ A U) {h : Nat} (hh : isRw h = true) : kd Γ h = some 5 := by
  simp only [isRw, Bool.or_eq_true, beq_iff_eq] at hh
  rcases hh with ((((rfl | rfl) | rfl) | rfl) | rfl) | rfl
  · exact (wf_t hE (wf_800 hE) (i := 0) (by decide)).2.1
  · exact (wf_t hE (wf_800 hE) (i := 1) (by decide)).2.1
  · exact (wf_t hE (wf_800 hE) (i := 0) (by decide)).2.2.1
  · exact (wf_t hE (wf_800 hE) (i := 1) (by decide)).2.2.1
  · exact (wf_t hE (wf_800 hE) (i := 0) (by decide)).2.2.2
  · exact (wf_t hE (wf_800 hE) (i := 1) (by decide)).2.2.2
/-- what stands at a method's body -/
def Cx (p : Program) (s : State) (m : MethodId) (args : Array Value) (meth : Method) (c : Code) (y : MethodName) (cc : ByteArray) (nL : Nat) (ret : Option FieldType) (Γ : Gm) (A : Nat → Prop) : Prop :=
  p.tables.exec = Jvm.exec ∧ c.code = cc ∧ c.maxLocals = nL ∧ meth.sig.returnType = ret ∧ s.vm.findClass y.cls = some m.cls ∧ (∀ w ∈ WS, w.before args s = true) ∧ meth.locks = false ∧ Ev Γ A s
/-- a method's end -/
def QK (Γ : Gm) (A : Nat → Prop) (G : Gs) (rv : Option Value) : Array Value → State → Outcome → State → Prop := fun _ st oc t => oc = .returned rv ∧ Wo Γ G t.heap ∧ va_F A st t
/-- a method's contract: from the world G with these arguments to the world G' with that answer -/
def Kt (l : Launch) (y : MethodName) (cc : ByteArray) (nL : Nat) (ret : Option FieldType) (F L : Nat) (Γ : Gm) (A : Nat → Prop) (G G' : Gs) (av : List Value) (rv : Option Value) : Prop :=
  Met l y (Cond.code y cc nL ret :: WS) { frames := F, cells := 0, slots := 0, locals := L } (va_Pc av (fun U => Ev Γ A U ∧ Wo Γ G U.heap)) (QK Γ A G' rv) 0 0 A
/-- the walk at a place of a method -/
def Wk (p : Program) (l : Launch) (e : Env) (R : Room) (s : State) (m : MethodId) (args : Array Value) (below : List Frame) (meth : Method) (c : Code) (Γ : Gm) (A : Nat → Prop) (Gf : Gs) (rv : Option Value) (pc n : Nat) (lv : List (Nat × Value)) (st : List Value) (G : Gs) : Prop :=
  ∀ (H : Heap) (locs : List Loc) (ls : Array Slot), Wo Γ G H → va_S A s.heap H locs → lv_has ls n lv → W p l e R s m args below meth c H locs 0 0 (MQ below (QK Γ A Gf rv) args s 0 0 A) (F0 m pc ls st)
theorem kt_of {l : Launch} {y : MethodName} {cc : ByteArray} {nL : Nat} {ret : Option FieldType} {F L : Nat} {Γ : Gm} {A : Nat → Prop} {G G' : Gs} {av : List Value} {rv : Option Value} (hy : plainName y.cls = true) (hn : (lg_sl av).length ≤ nL)
    (body : ∀ (p : Program) (e : Env) (s : State) (m : MethodId) (args : Array Value) (below : List Frame) (meth : Method) (c : Code), Cx p s m args meth c y cc nL ret Γ A → Wk p l e { frames := F, cells := 0, slots := 0, locals := L } s m args below meth c Γ A G' rv 0 nL (lv_args 0 av) [] G) : Kt l y cc nL ret F L Γ A G G' av rv := by
  refine Met.ofW (cc := cc) (maxL := nL) (ret := ret) hy rfl ?_
  intro p e s m args below meth c s₁ B hml hv
  obtain ⟨rfl, hE, hw⟩ := hv
  have hts := atoms_spec (ws := Cond.code y cc nL ret :: WS) B.pre
  have C : Cx p s m av.toArray meth c y cc nL ret Γ A := ⟨B.exec, B.bytes, hml, B.returns, findClass_of_methodNamed B.named, fun w h => hts w (List.mem_cons_of_mem _ h), B.notSynchronized, hE⟩
  rw [lg_entry_eq]
  exact body p e s m av.toArray below meth c C s.heap [] _ hw va_S.rf (lv_entry av hn)
section RULES
variable {p : Program} {l : Launch} {e : Env} {R : Room} {s : State} {m : MethodId} {args : Array Value} {below : List Frame} {meth : Method} {c : Code} {H : Heap} {locs : List Loc} {cells slots : Nat} {Q : State → Prop}
variable {cc : ByteArray} {pc : Nat} {ls : Array Slot} {rest : List Value} {Γ : Gm} {A : Nat → Prop} {a : Nat} {H0 : Heap} {G G' : Gs} {r r' : Rec} {o ci : Nat}
theorem wo_put (hexec : p.tables.exec = Jvm.exec) (hb : c.code = cc) {own ref C : String} {T : u_T} {N index : Nat} {Ts : List Cond} (hts : ∀ w ∈ Ts, w.before args s = true) (hin : ∀ w ∈ u_ws C T N, w ∈ Ts) (ty0 : Nat → FieldType) (hty : ∀ k, k < N → parseFieldDescriptor (T k).2.2.1 = some (ty0 k)) (hnm : ∀ a, a < N → ∀ b, b < N → a ≠ b → (T a).2.1 ≠ (T b).2.1) (hown : s.vm.findClass own = some m.cls) (hE : Ev Γ A s) (hw : Wo Γ (ug G o r) H) (hS0 : va_S A H0 H locs) (hk0 : kd Γ o = some ci) {fs : List Value} (he : (cellsOf Γ ci o r)[0]? = some (a, .inr (ci, fs))) (hc : vwCl[ci]? = some (C, T, N)) (k : Nat) (hk : k < N) (hlink : (Cond.fieldLink own index ref (T k).2.1 (T k).2.2.1).before args s = true) (hsame : ∀ x, s.fieldFound? (T k).1 (T k).2.1 (T k).2.2.1 = some x → s.fieldFound? ref (T k).2.1 (T k).2.2.1 = some x) (hfin : (T k).2.2.2 = false) {ty : FieldType} {v : Value} (hd : parseFieldDescriptor (T k).2.2.1 = some ty) (hn : narrow ty v = v) (hfit : fits ty v = true) (hl : k < fs.length) (hset : (cellsOf Γ ci o r).set 0 (a, .inr (ci, fs.set k v)) = cellsOf Γ ci o r')
    (hdg : decode cc pc = .ok (.putfield index, 3)) (kk : ∀ (H1 : Heap) (locs1 : List Loc), Wo Γ (ug G o r') H1 → va_S A H0 H1 locs1 → W p l e R s m args below meth c H1 locs1 cells slots Q (F0 m (pc + 3) ls rest)) : W p l e R s m args below meth c H locs cells slots Q (F0 m pc ls (v :: .ref a :: rest)) := by
  obtain ⟨hK, hap0, hNest, hWF, hSx⟩ := hE
  have hP := wo_me hw hk0
  have hD := hap0.D hk0 r
  have hap := va_apart (own := own) hts hin ty0 hty hnm hK hc
  obtain ⟨r0, h1, cell, q1, q2, q3, q4⟩ := hP 0 _ he
  have hr : r0 = (C, T, N) := Option.some.inj (h1.symm.trans hc)
  subst hr
  obtain ⟨hS, hfc, kC, hkC, hkind⟩ := hK.1 ci _ hc
  obtain ⟨cf, kf, fi, f, hi, hsl⟩ := hS k hk
  have hlay := hts _ (hin _ (u_in_lay hk))
  unfold u_lay at hlay
  rw [if_neg (by rw [hfin]; decide)] at hlay
  have hst := (u_facts hfc hkC (u_lays hts hin hk) hi).1
  have h6 := u_store hfc hkC hkind hlay hi hd hn hfit
  refine W.putK hexec hb (f := f) ⟨hown, hlink, ⟨_, _, _, hsame _ hi⟩, hst⟩ (by rw [q2]; exact h6) q1 q3 (by rw [hsl]; exact k2_hasslot (q4 k hk)) rfl rfl hdg fun H' e1 e2 e3 => ?_
  rw [hsl] at e1 ⊢
  exact kk H' _ (wo_upd (e := .inr (ci, fs.set k v)) hw hap0 hk0 he ⟨_, hc, t_OB.to (V := updV (vp_V fs) k v) ⟨_, e1, q2, q3, t_set q4 hap hk v⟩ (fun j _ => vp_updV_set hl v j)⟩ e3 hset) (hS0.put e2 e3 (hD.2 0 _ he))
theorem wo_iast (hexec : p.tables.exec = Jvm.exec) (hb : c.code = cc) (hE : Ev Γ A s) (hw : Wo Γ (ug G o r) H) (hS : va_S A H0 H locs) (hk : kd Γ o = some ci) {q0 n : Nat} {f : Nat → Int32} (ha : (cellsOf Γ ci o r)[q0]? = some (a, .inl (ac Γ 0, n, .inl f))) {i x : Int32} (hin : vp_in i n) (hset : (cellsOf Γ ci o r).set q0 (a, .inl (ac Γ 0, n, .inl (upd f i.toNatClampNeg x))) = cellsOf Γ ci o r') (hdg : decode cc pc = .ok (.iastore, 1))
    (kk : ∀ (H1 : Heap) (locs1 : List Loc), Wo Γ (ug G o r') H1 → va_S A H0 H1 locs1 → W p l e R s m args below meth c H1 locs1 cells slots Q (F0 m (pc + 1) ls rest)) : W p l e R s m args below meth c H locs cells slots Q (F0 m pc ls (.int x :: .int i :: .ref a :: rest)) := by
  obtain ⟨hK, hap, hNest, hWF, hSx⟩ := hE
  have hP := wo_me hw hk
  have hD := hap.D hk r
  refine W.iast hexec hb (hP q0 _ ha) ((hK.2 0 _ rfl).1 n (fun j => .int (f j))) (fun q => by cases q) (by show ¬ (i < 0 ∨ (arrV _ _ _).slots.size ≤ _); rw [arrV_size]; exact hin) rfl rfl hdg fun H1 e z oq => ?_
  refine kk H1 _ (wo_upd hw hap hk ha ?_ oq hset) (hS.put z oq (hD.2 q0 _ ha))
  show H1[a]? = some (vp_cell _ _)
  rw [e]
  rw [vp_cell_i, vp_cell_i, arrV_store]
  congr 2
  funext q
  by_cases hq : q = i.toNatClampNeg
  · subst hq
    simp [updV, upd]
  · simp [updV, upd, hq]
theorem wo_bast (hexec : p.tables.exec = Jvm.exec) (hb : c.code = cc) (hE : Ev Γ A s) (hw : Wo Γ (ug G o r) H) (hS : va_S A H0 H locs) (hk : kd Γ o = some ci) {q0 n : Nat} {f : Nat → Int32} (ha : (cellsOf Γ ci o r)[q0]? = some (a, .inl (ac Γ 1, n, .inl f))) {i x : Int32} (hin : vp_in i n) (hset : (cellsOf Γ ci o r).set q0 (a, .inl (ac Γ 1, n, .inl (upd f i.toNatClampNeg (vp_nar .byte x)))) = cellsOf Γ ci o r') (hdg : decode cc pc = .ok (.bastore, 1))
    (kk : ∀ (H1 : Heap) (locs1 : List Loc), Wo Γ (ug G o r') H1 → va_S A H0 H1 locs1 → W p l e R s m args below meth c H1 locs1 cells slots Q (F0 m (pc + 1) ls rest)) : W p l e R s m args below meth c H locs cells slots Q (F0 m pc ls (.int x :: .int i :: .ref a :: rest)) := by
  obtain ⟨hK, hap, hNest, hWF, hSx⟩ := hE
  have hP := wo_me hw hk
  have hD := hap.D hk r
  refine W.bast hexec hb (hP q0 _ ha) ((hK.2 1 _ rfl).1 n (fun j => .int (f j))) (fun q => by cases q) (by show ¬ (i < 0 ∨ (arrV _ _ _).slots.size ≤ _); rw [arrV_size]; exact hin) rfl rfl hdg fun H1 e z oq => ?_
  refine kk H1 _ (wo_upd hw hap hk ha ?_ oq hset) (hS.put z oq (hD.2 q0 _ ha))
  show H1[a]? = some (vp_cell _ _)
  rw [e]
  rw [vp_cell_i, vp_cell_i, arrV_store]
  congr 2
  funext q
  by_cases hq : q = i.toNatClampNeg
  · subst hq
    simp [updV, upd, vp_nar]
    try rfl
  · simp [updV, upd, hq]
theorem wo_zast (hexec : p.tables.exec = Jvm.exec) (hb : c.code = cc) (hE : Ev Γ A s) (hw : Wo Γ (ug G o r) H) (hS : va_S A H0 H locs) (hk : kd Γ o = some ci) {q0 n : Nat} {f : Nat → Int32} (ha : (cellsOf Γ ci o r)[q0]? = some (a, .inl (ac Γ 2, n, .inl f))) {i x : Int32} (hin : vp_in i n) (hset : (cellsOf Γ ci o r).set q0 (a, .inl (ac Γ 2, n, .inl (upd f i.toNatClampNeg (vp_nar .boolean x)))) = cellsOf Γ ci o r') (hdg : decode cc pc = .ok (.bastore, 1))
    (kk : ∀ (H1 : Heap) (locs1 : List Loc), Wo Γ (ug G o r') H1 → va_S A H0 H1 locs1 → W p l e R s m args below meth c H1 locs1 cells slots Q (F0 m (pc + 1) ls rest)) : W p l e R s m args below meth c H locs cells slots Q (F0 m pc ls (.int x :: .int i :: .ref a :: rest)) := by
  obtain ⟨hK, hap, hNest, hWF, hSx⟩ := hE
  have hP := wo_me hw hk
  have hD := hap.D hk r
  refine W.zast hexec hb (hP q0 _ ha) ((hK.2 2 _ rfl).1 n (fun j => .int (f j))) (fun q => by cases q) (by show ¬ (i < 0 ∨ (arrV _ _ _).slots.size ≤ _); rw [arrV_size]; exact hin) rfl rfl hdg fun H1 e z oq => ?_
  refine kk H1 _ (wo_upd hw hap hk ha ?_ oq hset) (hS.put z oq (hD.2 q0 _ ha))
  show H1[a]? = some (vp_cell _ _)
  rw [e]
  rw [vp_cell_i, vp_cell_i, arrV_store]
  congr 2
  funext q
  by_cases hq : q = i.toNatClampNeg
  · subst hq
    simp [updV, upd, vp_nar]
    try rfl
  · simp [updV, upd, hq]
/-- a call, by its contract -/
theorem cl_go {y : MethodName} {rv : Option Value} {a : Array Value} {st0 : List Value} (hr : va_Run p l e R s m args below meth c H locs 0 0 0 0 (F0 m pc ls st0) rest (QK Γ A G' rv a) A) (hS : va_S A s.heap H locs)
    (kk : ∀ (H1 : Heap) (locs1 : List Loc), Wo Γ G' H1 → va_S A s.heap H1 locs1 → W p l e R s m args below meth c H1 locs1 0 0 Q (F0 m (pc + 3) ls (rv.toList ++ rest))) : W p l e R s m args below meth c H locs 0 0 Q (F0 m pc ls st0) := by
  intro T hT X
  obtain ⟨v, st₀, t, T', L, h0, X', hL, e1, e2, ⟨hv, hw, hz, hk⟩, st⟩ := hr T hT X
  cases hv
  rw [h0] at hz hk
  obtain ⟨t2, a1, b1⟩ := kk T'.heap (locs ++ L) (by rw [e1]; exact hw)
    ⟨Nat.le_trans hS.1 (by rw [e1]; exact hz), fun q h1 h2 => by rw [e1, hk q (Nat.lt_of_lt_of_le h1 hS.1) h2]; exact hS.2.1 q h1 h2, fun q hq => by
      rcases List.mem_append.mp hq with h | h
      · exact hS.2.2 q h
      · exact hL q h⟩ T' rfl X'
  exact ⟨t2, st t2 a1, b1⟩
theorem pre_blind {av : List Value} : FrameBlind (va_Pc av (fun U => Ev Γ A U ∧ Wo Γ G U.heap)) := fun a U g mk h => ⟨h.1, h.2.1.call, h.2.2⟩
theorem cl_S {y : MethodName} {cy : ByteArray} {nL nL' n index F L : Nat} {ret : Option FieldType} {rv : Option Value} {own : String} {As : List Value} {st0 : List Value} (hM : Kt l y cy nL' ret F L Γ A G G' As rv) (S : CallFix p m c cc nL s args WS own) (hE : Ev Γ A s) (hw : Wo Γ G H) (hS : va_S A s.heap H locs)
    (w1 : Cond.methodLink own index y ∈ WS) (w2 : Cond.static y ∈ WS) (w3 : Cond.initialized y.cls ∈ WS) (w4 : Cond.code y cy nL' ret ∈ WS) (hd : y.cls ≠ "java/lang/invoke/MethodHandle" ∧ y.cls ≠ "java/lang/invoke/VarHandle" ∧ (parseMethodDescriptor y.desc).map (fun d => d.parameters.length) = some n) (hR : F + 1 ≤ R.frames ∧ 8 + (nL' + 11) + L ≤ R.locals)
    (hst : st0 = As.reverse ++ rest) (hn : As.length = n) (hsize : ls.size = nL) (hroom : (rest.map fun v => v.category).sum ≤ 8) (hdg : decode cc pc = .ok (.invokestatic index, 3))
    (kk : ∀ (H1 : Heap) (locs1 : List Loc), Wo Γ G' H1 → va_S A s.heap H1 locs1 → W p l e R s m args below meth c H1 locs1 0 0 Q (F0 m (pc + 3) ls (rv.toList ++ rest))) : W p l e R s m args below meth c H locs 0 0 Q (F0 m pc ls st0) :=
  cl_go (y := y) (va_runS (As := As) (rest := rest) S hM ⟨callB_of n S.2.2.2.2 (ws_in w4) rfl rfl rfl (S.2.2.2.2 _ w3) (S.2.2.2.2 _ w1) hd hR, S.2.2.2.2 _ w2⟩ ⟨pre_blind, fun U hU hW => ⟨rfl, hE.warm hW hU hS, by rw [hU]; exact hw⟩⟩ rfl hn hsize hst (lv_room hroom) hdg ⟨Nat.zero_le _, Nat.zero_le _⟩) hS kk
theorem cl_V {y : MethodName} {cy : ByteArray} {nL nL' n index F L ci : Nat} {ret : Option FieldType} {rv : Option Value} {own C : String} {As : List Value} {st0 : List Value} {T : u_T} {N : Nat} {q0 : Nat} {fs : List Value} {ws : va_W} (hM : Kt l y cy nL' ret F L Γ A G G' (.ref a :: As) rv) (S : CallFix p m c cc nL s args WS own) (hE : Ev Γ A s) (hw : Wo Γ G H) (hS : va_S A s.heap H locs) (hP : va_P (dd Γ) vwCl ws H) (he : ws[q0]? = some (a, .inr (ci, fs))) (hc : vwCl[ci]? = some (C, T, N))
    (w1 : Cond.methodLink own index y ∈ WS) (w2 : Cond.instanceMethod y ∈ WS) (w3 : Cond.selects C y y ∈ WS) (w5 : Cond.initialized y.cls ∈ WS) (w4 : Cond.code y cy nL' ret ∈ WS) (hd : y.cls ≠ "java/lang/invoke/MethodHandle" ∧ y.cls ≠ "java/lang/invoke/VarHandle" ∧ (parseMethodDescriptor y.desc).map (fun d => d.parameters.length) = some n) (hR : F + 1 ≤ R.frames ∧ 8 + (nL' + 11) + L ≤ R.locals)
    (hst : st0 = As.reverse ++ .ref a :: rest) (hn : As.length = n) (hsize : ls.size = nL) (hroom : (rest.map fun v => v.category).sum ≤ 8) (hdg : decode cc pc = .ok (.invokevirtual index, 3))
    (kk : ∀ (H1 : Heap) (locs1 : List Loc), Wo Γ G' H1 → va_S A s.heap H1 locs1 → W p l e R s m args below meth c H1 locs1 0 0 Q (F0 m (pc + 3) ls (rv.toList ++ rest))) : W p l e R s m args below meth c H locs 0 0 Q (F0 m pc ls st0) :=
  cl_go (y := y) (va_runV (C := C) (b := a) (As := As) (rest := rest) S hM ⟨callB_of n S.2.2.2.2 (ws_in w4) rfl rfl rfl (S.2.2.2.2 _ w5) (S.2.2.2.2 _ w1) hd hR, S.2.2.2.2 _ w2, S.2.2.2.2 _ w3⟩ ⟨pre_blind, va_recv hE.1 hP hc he, fun U hU hW => ⟨rfl, hE.warm hW hU hS, by rw [hU]; exact hw⟩⟩ rfl hn hsize hst (lv_room hroom) hdg ⟨Nat.zero_le _, Nat.zero_le _⟩) hS kk
theorem cl_Ss {y : MethodName} {cy : ByteArray} {nL nL' n index F L : Nat} {ret : Option FieldType} {v : Value} {own : String} {As : List Value} {st0 : List Value} (hM : Kt l y cy nL' ret F L Γ A G G' As (some v)) (S : CallFix p m c cc nL s args WS own) (hE : Ev Γ A s) (hw : Wo Γ G H) (hS : va_S A s.heap H locs)
    (w1 : Cond.methodLink own index y ∈ WS) (w2 : Cond.static y ∈ WS) (w3 : Cond.initialized y.cls ∈ WS) (w4 : Cond.code y cy nL' ret ∈ WS) (hd : y.cls ≠ "java/lang/invoke/MethodHandle" ∧ y.cls ≠ "java/lang/invoke/VarHandle" ∧ (parseMethodDescriptor y.desc).map (fun d => d.parameters.length) = some n) (hR : F + 1 ≤ R.frames ∧ 8 + (nL' + 11) + L ≤ R.locals)
    (hst : st0 = As.reverse ++ rest) (hn : As.length = n) (hsize : ls.size = nL) (hroom : (rest.map fun v => v.category).sum ≤ 8) (hdg : decode cc pc = .ok (.invokestatic index, 3))
    (kk : ∀ (H1 : Heap) (locs1 : List Loc), Wo Γ G' H1 → va_S A s.heap H1 locs1 → W p l e R s m args below meth c H1 locs1 0 0 Q (F0 m (pc + 3) ls (v :: rest))) : W p l e R s m args below meth c H locs 0 0 Q (F0 m pc ls st0) := cl_S hM S hE hw hS w1 w2 w3 w4 hd hR hst hn hsize hroom hdg kk
theorem cl_Sv {y : MethodName} {cy : ByteArray} {nL nL' n index F L : Nat} {ret : Option FieldType} {own : String} {As : List Value} {st0 : List Value} (hM : Kt l y cy nL' ret F L Γ A G G' As none) (S : CallFix p m c cc nL s args WS own) (hE : Ev Γ A s) (hw : Wo Γ G H) (hS : va_S A s.heap H locs)
    (w1 : Cond.methodLink own index y ∈ WS) (w2 : Cond.static y ∈ WS) (w3 : Cond.initialized y.cls ∈ WS) (w4 : Cond.code y cy nL' ret ∈ WS) (hd : y.cls ≠ "java/lang/invoke/MethodHandle" ∧ y.cls ≠ "java/lang/invoke/VarHandle" ∧ (parseMethodDescriptor y.desc).map (fun d => d.parameters.length) = some n) (hR : F + 1 ≤ R.frames ∧ 8 + (nL' + 11) + L ≤ R.locals)
    (hst : st0 = As.reverse ++ rest) (hn : As.length = n) (hsize : ls.size = nL) (hroom : (rest.map fun v => v.category).sum ≤ 8) (hdg : decode cc pc = .ok (.invokestatic index, 3))
    (kk : ∀ (H1 : Heap) (locs1 : List Loc), Wo Γ G' H1 → va_S A s.heap H1 locs1 → W p l e R s m args below meth c H1 locs1 0 0 Q (F0 m (pc + 3) ls rest)) : W p l e R s m args below meth c H locs 0 0 Q (F0 m pc ls st0) := cl_S hM S hE hw hS w1 w2 w3 w4 hd hR hst hn hsize hroom hdg kk
theorem cl_Vs {y : MethodName} {cy : ByteArray} {nL nL' n index F L ci : Nat} {ret : Option FieldType} {v : Value} {own C : String} {As : List Value} {st0 : List Value} {T : u_T} {N : Nat} {q0 : Nat} {fs : List Value} {ws : va_W} (hM : Kt l y cy nL' ret F L Γ A G G' (.ref a :: As) (some v)) (S : CallFix p m c cc nL s args WS own) (hE : Ev Γ A s) (hw : Wo Γ G H) (hS : va_S A s.heap H locs) (hP : va_P (dd Γ) vwCl ws H) (he : ws[q0]? = some (a, .inr (ci, fs))) (hc : vwCl[ci]? = some (C, T, N))
    (w1 : Cond.methodLink own index y ∈ WS) (w2 : Cond.instanceMethod y ∈ WS) (w3 : Cond.selects C y y ∈ WS) (w5 : Cond.initialized y.cls ∈ WS) (w4 : Cond.code y cy nL' ret ∈ WS) (hd : y.cls ≠ "java/lang/invoke/MethodHandle" ∧ y.cls ≠ "java/lang/invoke/VarHandle" ∧ (parseMethodDescriptor y.desc).map (fun d => d.parameters.length) = some n) (hR : F + 1 ≤ R.frames ∧ 8 + (nL' + 11) + L ≤ R.locals)
    (hst : st0 = As.reverse ++ .ref a :: rest) (hn : As.length = n) (hsize : ls.size = nL) (hroom : (rest.map fun v => v.category).sum ≤ 8) (hdg : decode cc pc = .ok (.invokevirtual index, 3))
    (kk : ∀ (H1 : Heap) (locs1 : List Loc), Wo Γ G' H1 → va_S A s.heap H1 locs1 → W p l e R s m args below meth c H1 locs1 0 0 Q (F0 m (pc + 3) ls (v :: rest))) : W p l e R s m args below meth c H locs 0 0 Q (F0 m pc ls st0) := cl_V hM S hE hw hS hP he hc w1 w2 w3 w5 w4 hd hR hst hn hsize hroom hdg kk
theorem cl_Vv {y : MethodName} {cy : ByteArray} {nL nL' n index F L ci : Nat} {ret : Option FieldType} {own C : String} {As : List Value} {st0 : List Value} {T : u_T} {N : Nat} {q0 : Nat} {fs : List Value} {ws : va_W} (hM : Kt l y cy nL' ret F L Γ A G G' (.ref a :: As) none) (S : CallFix p m c cc nL s args WS own) (hE : Ev Γ A s) (hw : Wo Γ G H) (hS : va_S A s.heap H locs) (hP : va_P (dd Γ) vwCl ws H) (he : ws[q0]? = some (a, .inr (ci, fs))) (hc : vwCl[ci]? = some (C, T, N))
    (w1 : Cond.methodLink own index y ∈ WS) (w2 : Cond.instanceMethod y ∈ WS) (w3 : Cond.selects C y y ∈ WS) (w5 : Cond.initialized y.cls ∈ WS) (w4 : Cond.code y cy nL' ret ∈ WS) (hd : y.cls ≠ "java/lang/invoke/MethodHandle" ∧ y.cls ≠ "java/lang/invoke/VarHandle" ∧ (parseMethodDescriptor y.desc).map (fun d => d.parameters.length) = some n) (hR : F + 1 ≤ R.frames ∧ 8 + (nL' + 11) + L ≤ R.locals)
    (hst : st0 = As.reverse ++ .ref a :: rest) (hn : As.length = n) (hsize : ls.size = nL) (hroom : (rest.map fun v => v.category).sum ≤ 8) (hdg : decode cc pc = .ok (.invokevirtual index, 3))
    (kk : ∀ (H1 : Heap) (locs1 : List Loc), Wo Γ G' H1 → va_S A s.heap H1 locs1 → W p l e R s m args below meth c H1 locs1 0 0 Q (F0 m (pc + 3) ls rest)) : W p l e R s m args below meth c H locs 0 0 Q (F0 m pc ls st0) := cl_V hM S hE hw hS hP he hc w1 w2 w3 w5 w4 hd hR hst hn hsize hroom hdg kk
theorem tp1i {x y : Int32} (h : x = y) (k : W p l e R s m args below meth c H locs cells slots Q (F0 m pc ls (.int y :: rest))) : W p l e R s m args below meth c H locs cells slots Q (F0 m pc ls (.int x :: rest)) := by subst h; exact k
theorem tp1l {x y : Int64} (h : x = y) (k : W p l e R s m args below meth c H locs cells slots Q (F0 m pc ls (.long y :: rest))) : W p l e R s m args below meth c H locs cells slots Q (F0 m pc ls (.long x :: rest)) := by subst h; exact k
theorem tp2i {x y : Int32} {v : Value} (h : x = y) (k : W p l e R s m args below meth c H locs cells slots Q (F0 m pc ls (v :: .int y :: rest))) : W p l e R s m args below meth c H locs cells slots Q (F0 m pc ls (v :: .int x :: rest)) := by subst h; exact k
theorem tp2l {x y : Int64} {v : Value} (h : x = y) (k : W p l e R s m args below meth c H locs cells slots Q (F0 m pc ls (v :: .long y :: rest))) : W p l e R s m args below meth c H locs cells slots Q (F0 m pc ls (v :: .long x :: rest)) := by subst h; exact k
theorem rt_i {v : Int32} {y : MethodName} {nL : Nat} (C : Cx p s m args meth c y cc nL (some .int) Γ A) (hw : Wo Γ G H) (hS : va_S A s.heap H locs) (hdg : decode cc pc = .ok (.ireturn, 1)) : W p l e R s m args below meth c H locs 0 0 (MQ below (QK Γ A G (some (.int v))) args s 0 0 A) (F0 m pc ls [.int v]) := by
  obtain ⟨hx, hb, hml, hr, hown, hts, hlocks, hE⟩ := C
  exact W.iret hx hb hr (fun t ht hW => ⟨rfl, by rw [ht]; exact hw, hS.F ht⟩) hS.2.2 hdg hlocks
theorem rt_z {v : Int32} {y : MethodName} {nL : Nat} (C : Cx p s m args meth c y cc nL (some .boolean) Γ A) (hv : v = 0 ∨ v = 1) (hw : Wo Γ G H) (hS : va_S A s.heap H locs) (hdg : decode cc pc = .ok (.ireturn, 1)) : W p l e R s m args below meth c H locs 0 0 (MQ below (QK Γ A G (some (.int v))) args s 0 0 A) (F0 m pc ls [.int v]) := by
  obtain ⟨hx, hb, hml, hr, hown, hts, hlocks, hE⟩ := C
  exact W.zret hx hb hr (by rcases hv with rfl | rfl <;> decide +kernel) (fun t ht hW => ⟨rfl, by rw [ht]; exact hw, hS.F ht⟩) hS.2.2 hdg hlocks
theorem rt_l {v : Int64} {y : MethodName} {nL : Nat} (C : Cx p s m args meth c y cc nL (some .long) Γ A) (hw : Wo Γ G H) (hS : va_S A s.heap H locs) (hdg : decode cc pc = .ok (.lreturn, 1)) : W p l e R s m args below meth c H locs 0 0 (MQ below (QK Γ A G (some (.long v))) args s 0 0 A) (F0 m pc ls [.long v]) := by
  obtain ⟨hx, hb, hml, hr, hown, hts, hlocks, hE⟩ := C
  exact W.lret hx hb hr (fun t ht hW => ⟨rfl, by rw [ht]; exact hw, hS.F ht⟩) hS.2.2 hdg hlocks
theorem rt_v {y : MethodName} {nL : Nat} (C : Cx p s m args meth c y cc nL none Γ A) (hw : Wo Γ G H) (hS : va_S A s.heap H locs) (hdg : decode cc pc = .ok (.return_, 1)) : W p l e R s m args below meth c H locs 0 0 (MQ below (QK Γ A G none) args s 0 0 A) (F0 m pc ls []) := by
  obtain ⟨hx, hb, hml, hr, hown, hts, hlocks, hE⟩ := C
  exact W.vret hx hb hr (fun t ht hW => ⟨rfl, by rw [ht]; exact hw, hS.F ht⟩) hS.2.2 hdg hlocks
end RULES
/-! programs as functions: what may fail is 'none' -/
def gd {α : Type} (b : Bool) (k : Option α) : Option α := if b = true then k else none
theorem gd_some {α : Type} {b : Bool} {k : Option α} {x : α} (h : gd b k = some x) : b = true ∧ k = some x := by
  cases b with
  | true => exact ⟨rfl, h⟩
  | false => cases h
theorem gd_t {α : Type} {b : Bool} {k : Option α} (h : b = true) : gd b k = k := by subst h; rfl
def inR (i : Int32) (n : Nat) : Bool := decide (¬ (i < 0 ∨ n ≤ i.toNatClampNeg))
theorem inR_in {i : Int32} {n : Nat} (h : inR i n = true) : vp_in i n := by
  have h1 : ¬ (i < 0 ∨ n ≤ i.toNatClampNeg) := of_decide_eq_true h
  exact h1
def isB (v : Int32) : Bool := decide (v = 0 ∨ v = 1)
theorem isB_or {v : Int32} (h : isB v = true) : v = 0 ∨ v = 1 := of_decide_eq_true h
def nz (v : Int32) : Bool := decide (¬ v = 0)
theorem nz_ne {v : Int32} (h : nz v = true) : ¬ v = 0 := of_decide_eq_true h
def nzl (v : Int64) : Bool := decide (¬ v = 0)
theorem nzl_ne {v : Int64} (h : nzl v = true) : ¬ v = 0 := of_decide_eq_true h
theorem bd {α β : Type} {o : Option α} {k : α → Option β} {x : β} (h : o.bind k = some x) : ∃ a, o = some a ∧ k a = some x := by
  cases o with
  | none => cases h
  | some a => exact ⟨a, rfl, h⟩
theorem ifp {α : Type} {c : Prop} {i : Decidable c} {a b x : α} (h : c) (hf : @ite α c i a b = x) : a = x := by rw [if_pos h] at hf; exact hf
theorem ifn {α : Type} {c : Prop} {i : Decidable c} {a b x : α} (h : ¬ c) (hf : @ite α c i a b = x) : b = x := by rw [if_neg h] at hf; exact hf
theorem ifnp {α : Type} {c : Prop} {i : Decidable (¬ c)} {a b x : α} (h : c) (hf : @ite α (¬ c) i a b = x) : b = x := by rw [if_neg (fun k => k h)] at hf; exact hf
def out1 {α β : Type} (o : Option β) : Option (α ⊕ β) := o.bind (fun b => some (.inr b))
theorem out1_some {α β : Type} {o : Option β} {x : α ⊕ β} (h : out1 o = some x) : ∃ b, o = some b ∧ x = .inr b := by
  obtain ⟨b, h1, h2⟩ := bd h
  exact ⟨b, h1, (Option.some.inj h2).symm⟩
/-! a loop: rounds until it leaves -/
def itN {σ ρ : Type} (step : σ → Option (σ ⊕ ρ)) : Nat → σ → Option ρ
  | 0, _ => none
  | n + 1, s => (step s).bind (fun q => match q with
    | .inl s' => itN step n s'
    | .inr x => some x)
theorem itN_mono {σ ρ : Type} {step : σ → Option (σ ⊕ ρ)} : ∀ (n k : Nat) (s : σ) (x : ρ), itN step n s = some x → itN step (n + k) s = some x
  | 0, _, _, _, h => by cases h
  | n + 1, k, s, x, h => by
    rw [Nat.add_right_comm]
    unfold itN at h ⊢
    obtain ⟨q, h1, h2⟩ := bd h
    rw [h1]
    cases q with
    | inl s' => exact itN_mono n k s' x h2
    | inr y => exact h2
theorem itN_one {σ ρ : Type} {step : σ → Option (σ ⊕ ρ)} {n k : Nat} {s : σ} {x y : ρ} (h1 : itN step n s = some x) (h2 : itN step k s = some y) : x = y := by
  have a := itN_mono n k s x h1
  have b := itN_mono k n s y h2
  rw [Nat.add_comm] at b
  exact Option.some.inj (a.symm.trans b)
noncomputable def iter {σ ρ : Type} (step : σ → Option (σ ⊕ ρ)) (s : σ) : Option ρ := @dite _ (∃ x, ∃ n, itN step n s = some x) (Classical.propDecidable _) (fun h => some h.choose) (fun _ => none)
theorem iter_of {σ ρ : Type} {step : σ → Option (σ ⊕ ρ)} {n : Nat} {s : σ} {x : ρ} (h : itN step n s = some x) : iter step s = some x := by
  have hx : ∃ x, ∃ n, itN step n s = some x := ⟨x, n, h⟩
  unfold iter
  rw [dif_pos hx]
  obtain ⟨k, hk⟩ := hx.choose_spec
  rw [itN_one hk h]
theorem iter_ex {σ ρ : Type} {step : σ → Option (σ ⊕ ρ)} {s : σ} {x : ρ} (h : iter step s = some x) : ∃ n, itN step n s = some x := by
  unfold iter at h
  by_cases hx : ∃ x, ∃ n, itN step n s = some x
  · rw [dif_pos hx] at h
    obtain ⟨n, hn⟩ := hx.choose_spec
    exact ⟨n, by rw [hn, h]⟩
  · rw [dif_neg hx] at h
    cases h
theorem iter_step {σ ρ : Type} {step : σ → Option (σ ⊕ ρ)} {s s' : σ} (h : step s = some (.inl s')) : iter step s = iter step s' := by
  have key : ∀ x, iter step s = some x ↔ iter step s' = some x := by
    intro x
    constructor
    · intro hx
      obtain ⟨n, hn⟩ := iter_ex hx
      cases n with
      | zero => cases hn
      | succ n =>
        unfold itN at hn
        rw [h] at hn
        exact iter_of hn
    · intro hx
      obtain ⟨n, hn⟩ := iter_ex hx
      refine iter_of (n := n + 1) ?_
      unfold itN
      rw [h]
      exact hn
  cases h1 : iter step s with
  | some x => exact ((key x).mp h1).symm
  | none =>
    cases h2 : iter step s' with
    | none => rfl
    | some x => rw [(key x).mpr h2] at h1; cases h1
theorem iter_end {σ ρ : Type} {step : σ → Option (σ ⊕ ρ)} {s : σ} {x : ρ} (h : step s = some (.inr x)) : iter step s = some x := by
  refine iter_of (n := 1) ?_
  unfold itN
  rw [h]
  rfl
/-- a loop's walk: from what its head's body does, by rounds -/
theorem iter_walk {σ ρ : Type} {step : σ → Option (σ ⊕ ρ)} {P : σ → Prop} {K : ρ → Prop} (body : ∀ (s : σ) (q : σ ⊕ ρ), step s = some q → (∀ s', q = .inl s' → P s') → (∀ x, q = .inr x → K x) → P s) {s : σ} {x : ρ} (h : iter step s = some x) (hK : K x) : P s := by
  obtain ⟨n, hn⟩ := iter_ex h
  induction n generalizing s with
  | zero => cases hn
  | succ n ih =>
    unfold itN at hn
    obtain ⟨q, h1, h2⟩ := bd hn
    refine body s q h1 (fun s' e => ?_) (fun y e => ?_)
    · subst e
      exact ih (iter_of h2) h2
    · subst e
      cases h2
      exact hK
def KC {σ ρ : Type} (P : σ → Prop) (K : ρ → Prop) (q : σ ⊕ ρ) : Prop := (∀ s', q = .inl s' → P s') ∧ (∀ x, q = .inr x → K x)
theorem ts_ne {x v : Int32} {k : Int} (hv : v.toInt = k) (h : ¬ x = v) : x.toInt ≠ k := fun e => h (Int32.toInt_inj.mp (e.trans hv.symm))
