theorem store_nI {r : Rec} {k w i : Nat} (hk : k ≠ 19) (hw : w ≤ 161) (hl : w * i + w ≤ ln10 k) (hl2 : ln10 k < 2 ^ 31) : fX10_store r k (nI w) (nI i) = some (sa r k (va_cpy (ga r 19) (ga r k) 0 (w * i) w)) := by
  unfold fX10_store
  have h0 : ((0 : Int32), r) = (fun j => (nI j, sa r k (va_cpy (ga r 19) (ga r k) 0 (w * i) j))) 0 := by
    show _ = (nI 0, sa r k (va_cpy (ga r 19) (ga r k) 0 (w * i) 0))
    rw [cpy_0, sa_self]
    rfl
  rw [h0]
  refine loopO (step := fun st : Int32 × Rec => bX10_store_3 st.2 k (nI w) (nI i) st.1) (x := some (sa r k (va_cpy (ga r 19) (ga r k) 0 (w * i) w))) (fun j => (nI j, sa r k (va_cpy (ga r 19) (ga r k) 0 (w * i) j))) w (fun j hj => ?_) ?_
  · show bX10_store_3 (sa r k (va_cpy (ga r 19) (ga r k) 0 (w * i) j)) k (nI w) (nI i) (nI j) = some (.inl (nI (j + 1), sa r k (va_cpy (ga r 19) (ga r k) 0 (w * i) (j + 1))))
    unfold bX10_store_3
    rw [if_neg (show ¬ nI w ≤ nI j from fun z => by have := (nI_leI (by omega) (by omega)).mp z; omega), inR_nI (show j < 161 by omega) (by decide), gd_true, pk_mul, nI_add, inR_nI (show w * i + j < ln10 k by omega) hl2, gd_true, bd_some, nI_clamp (by omega), nI_clamp (by omega), nI_1, ga_sae, sa_sa2, ga_san (fun z => hk z.symm)]
    have := cpy_succ (ga r 19) (ga r k) 0 (w * i) j
    rw [Nat.zero_add] at this
    rw [this]
  · show bX10_store_3 (sa r k (va_cpy (ga r 19) (ga r k) 0 (w * i) w)) k (nI w) (nI i) (nI w) = _
    unfold bX10_store_3
    rw [if_pos ((nI_leI (by omega) (by omega)).mpr (Nat.le_refl _))]
    rfl
theorem cpy_in {f h : Nat → Int32} {d w x : Nat} (hx : x < w) : va_cpy f h 0 d w (d + x) = f x := by
  unfold va_cpy
  rw [if_pos (by omega), show 0 + (d + x - d) = x by omega]
theorem cpy_out {f h : Nat → Int32} {d w x : Nat} (hx : x < d ∨ d + w ≤ x) : va_cpy f h 0 d w x = h x := by
  unfold va_cpy
  rw [if_neg (by omega)]
theorem ln_6 : ln10 6 = 568 ∧ ln10 7 = 1288 ∧ ln10 8 = 200 ∧ ln10 9 = 136 := by decide +kernel
