def isI10 (k : Nat) : Bool := match k with
  | 2 => true
  | 3 => true
  | 4 => true
  | 5 => true
  | 6 => true
  | 7 => true
  | 8 => true
  | 9 => true
  | 19 => true
  | 20 => true
  | 28 => true
  | 33 => true
  | 34 => true
  | 36 => true
  | 37 => true
  | 38 => true
  | 39 => true
  | 40 => true
  | 42 => true
  | 44 => true
  | 46 => true
  | 47 => true
  | _ => false
def ln10 (k : Nat) : Nat := match k with
  | 2 => 4
  | 3 => 4
  | 4 => 4
  | 5 => 16
  | 6 => 568
  | 7 => 1288
  | 8 => 200
  | 9 => 136
  | 19 => 161
  | 20 => 4
  | 28 => 8
  | 33 => 8
  | 34 => 8
  | 36 => 9216
  | 37 => 9216
  | 38 => 256
  | 39 => 1024
  | 40 => 10
  | 42 => 120
  | 44 => 61
  | 46 => 80
  | 47 => 8
  | _ => 0
def ix10 (k : Nat) : Nat := match k with
  | 2 => 2
  | 3 => 3
  | 4 => 4
  | 5 => 5
  | 6 => 6
  | 7 => 7
  | 8 => 8
  | 9 => 9
  | 19 => 10
  | 20 => 11
  | 28 => 12
  | 33 => 13
  | 34 => 14
  | 36 => 15
  | 37 => 16
  | 38 => 17
  | 39 => 18
  | 40 => 19
  | 42 => 20
  | 44 => 21
  | 46 => 22
  | 47 => 23
  | _ => 0
theorem is10_or {k : Nat} (h : isI10 k = true) : k = 2 ∨ k = 3 ∨ k = 4 ∨ k = 5 ∨ k = 6 ∨ k = 7 ∨ k = 8 ∨ k = 9 ∨ k = 19 ∨ k = 20 ∨ k = 28 ∨ k = 33 ∨ k = 34 ∨ k = 36 ∨ k = 37 ∨ k = 38 ∨ k = 39 ∨ k = 40 ∨ k = 42 ∨ k = 44 ∨ k = 46 ∨ k = 47 := by
  unfold isI10 at h
  split at h <;> first | (cases h; done) | simp
theorem ar10 {Γ : Gm} {o k : Nat} {r : Rec} (h : isI10 k = true) : (cellsOf Γ 10 o r)[ix10 k]? = some (aa Γ o k, .inl (ac Γ 0, ln10 k, .inl (ga r k))) := by
  rcases is10_or h with rfl | rfl | rfl | rfl | rfl | rfl | rfl | rfl | rfl | rfl | rfl | rfl | rfl | rfl | rfl | rfl | rfl | rfl | rfl | rfl | rfl | rfl <;> rfl
theorem sav10 {Γ : Gm} {o k : Nat} {r r' : Rec} {f : Nat → Int32} (h : isI10 k = true) (hr : sa r k f = r') : (cellsOf Γ 10 o r).set (ix10 k) (aa Γ o k, .inl (ac Γ 0, ln10 k, .inl f)) = cellsOf Γ 10 o r' := by
  subst hr
  rcases is10_or h with rfl | rfl | rfl | rfl | rfl | rfl | rfl | rfl | rfl | rfl | rfl | rfl | rfl | rfl | rfl | rfl | rfl | rfl | rfl | rfl | rfl | rfl <;> rfl
