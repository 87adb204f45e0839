def kpx (m : Nat → Int32) (ix : Nat → Nat) (g : Nat → Int32) : Nat → (Nat → Int32)
  | 0 => m
  | j + 1 => upd (kpx m ix g j) (ix j) (g j)
theorem kpx_no {m : Nat → Int32} {ix : Nat → Nat} {g : Nat → Int32} {x : Nat} : ∀ t, (∀ j, j < t → x ≠ ix j) → kpx m ix g t x = m x
  | 0, _ => rfl
  | t + 1, h => by
    show upd (kpx m ix g t) (ix t) (g t) x = m x
    rw [upd_if, if_neg (h t (by omega))]
    exact kpx_no t (fun j hj => h j (by omega))
theorem kpx_at {m : Nat → Int32} {ix : Nat → Nat} {g : Nat → Int32} : ∀ t j, j < t → (∀ i, i < t → i ≠ j → ix i ≠ ix j) → kpx m ix g t (ix j) = g j
  | 0, _, h, _ => by omega
  | t + 1, j, h, hi => by
    show upd (kpx m ix g t) (ix t) (g t) (ix j) = g j
    by_cases e : j = t
    · rw [e, upd_if, if_pos rfl]
    · rw [upd_if, if_neg (fun z => hi t (by omega) (fun y => e y.symm) z.symm)]
      exact kpx_at t j (by omega) (fun i h1 h2 => hi i (by omega) h2)
theorem keep_no {r : Rec} {v1 cp : Nat} {v2 v3 v4 : Int32} (h1 : v1 < 161) (h : ga r 19 v1 = nI cp) : fX10_keep r (nI v1) v2 v3 v4 (nI cp) = some r := by
  unfold fX10_keep
  rw [inR_nI h1 (by decide), gd_true, bd_some, nI_clamp (by omega), h, if_pos rfl]
theorem keep_nI {r : Rec} {v1 b s w c cp : Nat} (h1 : v1 < b) (hc : ga r 19 v1 = nI c) (hcp : c < cp) (hw : w ≤ 4) (hw0 : 0 < w) (hb : b + s * w + cp ≤ 161 + s) : fX10_keep r (nI v1) (nI b) (nI s) (nI w) (nI cp) = some (sa r 19 (upd (kpx (ga r 19) (fun j => b + s * j + c) (ga r 20) w) v1 (nI (c + 1)))) := by
  have hm : ∀ j, j < w → s * j + s ≤ s * w := fun j hj => by
    have := Nat.mul_le_mul_left s (show j + 1 ≤ w from hj)
    rw [Nat.mul_add, Nat.mul_one] at this
    exact this
  have hv : v1 < 161 ∧ cp ≤ 161 := by have := hm 0 (by omega); rw [Nat.mul_zero] at this; omega
  obtain ⟨hv, hcpb⟩ := hv
  unfold fX10_keep
  rw [inR_nI hv (by decide), gd_true, bd_some, nI_clamp (by omega), hc, if_neg (show ¬ nI c = nI cp from fun z => by have := (nI_eq (by omega) (by omega)).mp z; omega)]
  have h0 : ((0 : Int32), r) = (fun j => (nI j, sa r 19 (kpx (ga r 19) (fun j => b + s * j + c) (ga r 20) j))) 0 := by
    show _ = (nI 0, sa r 19 (ga r 19))
    rw [sa_self]
    rfl
  rw [h0]
  refine loopO (step := fun st : Int32 × Rec => bX10_keep_19 st.2 (nI v1) (nI b) (nI s) (nI w) (nI c) st.1) (fun j => (nI j, sa r 19 (kpx (ga r 19) (fun j => b + s * j + c) (ga r 20) j))) w (fun j hj => ?_) ?_
  · have := hm j hj
    show bX10_keep_19 _ (nI v1) (nI b) (nI s) (nI w) (nI c) (nI j) = some (.inl (nI (j + 1), sa r 19 (upd (kpx (ga r 19) (fun j => b + s * j + c) (ga r 20) j) (b + s * j + c) (ga r 20 j))))
    unfold bX10_keep_19
    rw [if_neg (show ¬ nI w ≤ nI j from fun z => by have := (nI_leI (by omega) (by omega)).mp z; omega), inR_nI (show j < 4 by omega) (by decide), gd_true, pk_mul, nI_add, nI_add, inR_nI (show b + s * j + c < 161 by omega) (by decide), gd_true, bd_some, nI_clamp (by omega), nI_clamp (by omega), nI_1, ga_sae, sa_sa2]
    rfl
  · show bX10_keep_19 _ (nI v1) (nI b) (nI s) (nI w) (nI c) (nI w) = _
    unfold bX10_keep_19 bX10_keep_53
    rw [if_pos ((nI_leI (by omega) (by omega)).mpr (Nat.le_refl _)), inR_nI hv (by decide), gd_true, gd_true, bd_some, nI_clamp (by omega), ga_sae, sa_sa2, kpx_no w (fun j hj => by omega), hc, nI_1]
theorem keepRow_no {r : Rec} {cp : Nat} {w : Int32} (h : ga r 19 0 = nI cp) : fX10_keepRow r w (nI cp) = some r := by
  unfold fX10_keepRow
  rw [bd_some, show Int32.toNatClampNeg 0 = 0 from rfl, h, if_pos rfl]
theorem keepRow_nI {r : Rec} {w c cp : Nat} (hc : ga r 19 0 = nI c) (hcp : c < cp) (hw : w ≤ 4) (hb : w * cp ≤ 160) (hcp2 : cp < 161) : fX10_keepRow r (nI w) (nI cp) = some (sa r 19 (upd (kpx (ga r 19) (fun j => 1 + w * c + j) (ga r 20) w) 0 (nI (c + 1)))) := by
  have hm : w * c + w ≤ w * cp := by
    have := Nat.mul_le_mul_left w (show c + 1 ≤ cp from hcp)
    rw [Nat.mul_add, Nat.mul_one] at this
    exact this
  unfold fX10_keepRow
  rw [bd_some, show Int32.toNatClampNeg 0 = 0 from rfl, hc, if_neg (show ¬ nI c = nI cp from fun z => by have := (nI_eq (by omega) (by omega)).mp z; omega)]
  have h0 : ((0 : Int32), r) = (fun j => (nI j, sa r 19 (kpx (ga r 19) (fun j => 1 + w * c + j) (ga r 20) j))) 0 := by
    show _ = (nI 0, sa r 19 (ga r 19))
    rw [sa_self]
    rfl
  rw [h0]
  refine loopO (step := fun st : Int32 × Rec => bX10_keepRow_16 st.2 (nI w) (nI c) st.1) (fun j => (nI j, sa r 19 (kpx (ga r 19) (fun j => 1 + w * c + j) (ga r 20) j))) w (fun j hj => ?_) ?_
  · show bX10_keepRow_16 _ (nI w) (nI c) (nI j) = some (.inl (nI (j + 1), sa r 19 (upd (kpx (ga r 19) (fun j => 1 + w * c + j) (ga r 20) j) (1 + w * c + j) (ga r 20 j))))
    unfold bX10_keepRow_16
    rw [if_neg (show ¬ nI w ≤ nI j from fun z => by have := (nI_leI (by omega) (by omega)).mp z; omega), inR_nI (show j < 4 by omega) (by decide), gd_true, pk_mul, show (1 : Int32) = nI 1 from rfl, nI_add, nI_add, nI_add, inR_nI (show 1 + w * c + j < 161 by omega) (by decide), gd_true, bd_some, nI_clamp (by omega), nI_clamp (by omega), ga_sae, sa_sa2]
    rfl
  · show bX10_keepRow_16 _ (nI w) (nI c) (nI w) = _
    unfold bX10_keepRow_16 bX10_keepRow_48
    rw [if_pos ((nI_leI (by omega) (by omega)).mpr (Nat.le_refl _)), bd_some, show Int32.toNatClampNeg 0 = 0 from rfl, ga_sae, sa_sa2, kpx_no w (fun j hj => by omega), hc, nI_1]
theorem full_nI {r : Rec} {ff : Option (Nat × Nat)} {v1 c cp b p : Nat} {tm : Bool} (h1 : v1 < 161) (hc : ga r 19 v1 = nI c) (hcp : c < 2 ^ 31) (hcp2 : cp < 2 ^ 31) (ht : tm = true ↔ c = cp) (h : FS r ff b) (hb : b ≤ p) (hp : p < 2 ^ 31) : ∃ r', fX10_full r (nI v1) (nI cp) (nI p) = some r' ∧ FS r' (lt1 ff (!tm) 3 p) (p + 1) ∧ (∀ k, k ≠ 17 → k ≠ 18 → gi r' k = gi r k) ∧ (∀ k, ga r' k = ga r k) ∧ ∀ k, gl r' k = gl r k := by
  unfold fX10_full
  rw [inR_nI h1 (by decide), gd_true, nI_clamp (by omega), hc]
  by_cases e : c = cp
  · obtain ⟨r', f1, f2⟩ := later_nI (f := 3) h hb hp (by decide) (by decide)
    refine ⟨r', ?_, by rw [ht.mpr e]; exact f2⟩
    rw [if_pos (by rw [e]), show (3 : Int32) = nI 3 from rfl, f1]
    rfl
  · refine ⟨r, by rw [if_neg (fun z => e ((nI_eq hcp hcp2).mp z))], ?_, fun _ _ _ => rfl, fun _ => rfl, fun _ => rfl⟩
    rw [show tm = false from Bool.eq_false_iff.mpr (fun z => e (ht.mp z))]
    rw [show lt1 ff (!false) 3 p = ff by cases ff <;> rfl]
    exact h.to rfl rfl (by omega)
