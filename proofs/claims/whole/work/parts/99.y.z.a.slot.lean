def tT0 (g : Gs) : Rec := si (si (si (g 800) 1 0) 2 0) 3 (-1)
def tR0 (r : Rec) : Rec := sa (sa (sa (si (si r 0 0) 11 (ga r 2 0)) 2 (upd (ga r 2) 0 0)) 3 (upd (ga r 3) 0 0)) 4 (upd (ga r 4) 0 (-1))
noncomputable def rdX (g : Gs) (n so : Nat) (v4 : Int32) : Option (Gs × Int32) := (fX4_read (ug g 800 (tT0 g)) (nI n) (nI so)).bind fun z1 => (some (ug z1 800 (si (z1 800) 2 (gi (z1 401) 12)))).bind fun g2 => (some (ug g2 800 (si (g2 800) 3 (gi (g2 401) 13)))).bind fun g3 => if (gi (g3 401) 12) = 0 then (fX9_takeText g3 (nI so) v4).bind fun z4 => some ((z4, v4)) else some ((g3, (-1)))
theorem textX0 {g : Gs} {n : Nat} (e1 : gi (g 800) 1 = nI n) (a1 a2 : Int32) : fX9_text g a1 a2 = if a1 < 0 then some ((ug g 800 (tT0 g), (-2))) else if a1 < 4 then if a2 = (-1) then gd (inR a1 4) (bX9_text_62 (ug g 800 (tT0 g)) a1 a2 (nI n) (ga (g 800) 4 (Int32.toNatClampNeg a1))) else bX9_text_62 (ug g 800 (tT0 g)) a1 a2 (nI n) a2 else some ((ug g 800 (tT0 g), (-2))) := by
  unfold fX9_text
  simp only [bd_some, ug_same, ug_ug, e1]
  rfl
theorem textM0 (r : Rec) (a1 a2 : Int32) : fX10_text r a1 a2 = (fX10_in a1 0 3).bind fun z15 => if z15 = 0 then some ((tR0 r, (-2))) else if a2 = (-1) then gd (inR a1 16) (if (ga (tR0 r) 5 (Int32.toNatClampNeg a1)) = 2 then some ((tR0 r, (-2))) else bX10_text_75 (tR0 r) a1 a2) else (fX10_is (tR0 r) a1 a2).bind fun z16 => if z16 = 0 then some ((tR0 r, (-2))) else bX10_text_75 (tR0 r) a1 a2 := by
  unfold fX10_text
  rfl
