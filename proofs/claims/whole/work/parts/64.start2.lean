theorem sx_start {b : Nat} {s : State} (hts : ∀ w ∈ lw_tbl, w.before #[Value.ref b] s = true) (hgv : (Jvm.Cond.and given_1 narrow_1).before #[Value.ref b] s = true) : ∃ (sx1 k1 k2 : Nat → Nat), ∀ (D : va_G) (a : Nat → Nat) (aa1 : Nat → Nat → Nat) (cs : Nat → ClassId) (kd1 : Nat → Option Nat), Sx (D, a, aa1, cs, kd1, sx1, k1, k2) (fun q => s.heap.size ≤ q) s := by
  have hg := flat_of_before _ hgv
  have hA : ∀ a : Nat, a < s.heap.size → ¬ (fun q => s.heap.size ≤ q) a := fun a h => Nat.not_le.mpr h
  have st : ∀ i : Nat, ∃ t : Nat, i < 5 → va_Z "TarnishTurns" (sNm i) "[I" (.ref t) (fun q => s.heap.size ≤ q) s s.heap ∧ va_T .int t (sLn i) (fun j => .int (sDt i j)) (fun q => s.heap.size ≤ q) s s.heap := by
    intro i
    by_cases hi : i < 5
    · have hN : sLn i < 2 ^ 31 := by
        rcases (show i = 0 ∨ i = 1 ∨ i = 2 ∨ i = 3 ∨ i = 4 by omega) with rfl | rfl | rfl | rfl | rfl <;> decide
      obtain ⟨t, ht, hT⟩ := va_Tof (f := fun j => .int (sDt i j)) (A := fun q => s.heap.size ≤ q) hN (hg _ (fg_arr i hi)) (va_eqt (hg _ (fg_len i hi))) (fun j hj => va_eqt (hg _ (fg_el i hi j hj))) hA
      exact ⟨t, fun _ => ⟨va_Zof (hts _ (lst_in i hi)) (hts _ ini_x) ht hA, hT⟩⟩
    · exact ⟨0, fun h => absurd h hi⟩
  obtain ⟨sx1, hsx⟩ := Classical.axiomOfChoice st
  obtain ⟨k1, k2, hk, hev⟩ := vk_Sof (args := #[Value.ref b]) (s := s) (N := 17) (tm := tmS) (len := tLen) (byt := tByt) (A := fun q => s.heap.size ≤ q) (by decide +kernel) (fun i hi => hg _ (fs_ex i hi)) (fun i hi => hg _ (fs_co i hi)) (fun i hi => hg _ (fs_ar i hi)) (fun i hi => hg _ (fs_le i hi)) (fun i hi j hj => hg _ (fs_el i hi j hj)) (fun i j hi hj h => (fs_ne i hi j hj h).imp (hg _) (hg _)) hA
  refine ⟨sx1, k1, k2, fun D a aa1 cs kd1 => ⟨fun i hi => hsx i hi, va_Zof (hts _ lst_c) (hts _ ini_s) (va_eqt (hg _ fg_c)) hA, hk, fun i hi => ?_, fun i hi => va_Nw.of rfl (hts _ (fln_in i hi)), va_Zqof (hts _ lst_f) (hts _ ini_p) (hg _ fg_f) hA⟩⟩
  have h2 := hev i hi
  exact vk_R.of (A := #[Value.ref b]) (hts _ (sref_in i hi)) h2
