
/-- which ids are those of image k -/
def nwI (k o : Nat) : Bool := (o == 801 + k) || ((202 + 2 * k <= o) && (o < 204 + 2 * k)) || ((506 + 6 * k <= o) && (o < 512 + 6 * k))
def nwL (k : Nat) : List (Nat × Nat) := [(801 + k, 8), (202 + 2 * k, 2), (203 + 2 * k, 2), (506 + 6 * k, 5), (507 + 6 * k, 5), (508 + 6 * k, 5), (509 + 6 * k, 5), (510 + 6 * k, 5), (511 + 6 * k, 5)]
/-- a new Told's objects -/
def nT (g : Gs) (k : Nat) : Gs := fun o => if nwI k o = true then (if o = 801 + k then si zr 3 (-1) else if o < 300 then zr else if o < 508 + 6 * k then si zr 0 40 else si zr 0 8) else g o
/-- what the law's loop knows of images -/
def LI (Γ : Gm) (g : Gs) : Prop := (∀ i, i < 3 → gr (g 901) i ≠ 0 → kd Γ (801 + i) = some 8) ∧ (∀ t, kd Γ t = some 8 → 800 ≤ t ∧ t ≤ 803) ∧ (∀ o, kd Γ o = some 9 → o = 901) ∧ (∀ o, kd Γ o = some 0 → o = 1) ∧ isHm (gr (g 1) 0) = true
def gx (Γ : Gm) (k : Nat) (L1 L2 : List (Nat × Nat)) : Gm := (Γ.1, fun o => if nwI k o = true then lk L1 o else ad Γ o, fun o j => if nwI k o = true then lk L2 (100 * o + j) else aa Γ o j, Γ.2.2.2.1, fun o => if nwI k o = true then lko (nwL k) o else kd Γ o, Γ.2.2.2.2.2)
theorem gx_ad {Γ : Gm} {k o : Nat} {L1 L2 : List (Nat × Nat)} (h : nwI k o = false) : ad (gx Γ k L1 L2) o = ad Γ o := by show (if nwI k o = true then _ else _) = _; rw [h]; rfl
theorem gx_aa {Γ : Gm} {k o j : Nat} {L1 L2 : List (Nat × Nat)} (h : nwI k o = false) : aa (gx Γ k L1 L2) o j = aa Γ o j := by show (if nwI k o = true then _ else _) = _; rw [h]; rfl
theorem gx_kd {Γ : Gm} {k o : Nat} {L1 L2 : List (Nat × Nat)} (h : nwI k o = false) : kd (gx Γ k L1 L2) o = kd Γ o := by show (if nwI k o = true then _ else _) = _; rw [h]; rfl
theorem gx_ac {Γ : Gm} {k t : Nat} {L1 L2 : List (Nat × Nat)} : ac (gx Γ k L1 L2) t = ac Γ t := rfl
theorem nwI_f {k o : Nat} (h1 : o ≠ 801 + k) (h2 : o < 202 + 2 * k ∨ 204 + 2 * k ≤ o) (h3 : o < 506 + 6 * k ∨ 512 + 6 * k ≤ o) : nwI k o = false := by
  unfold nwI
  simp only [Bool.or_eq_false_iff, Bool.and_eq_false_iff, beq_eq_false_iff_ne, decide_eq_false_iff_not, ne_eq]
  omega
theorem nwI_t {k o : Nat} (h : nwI k o = true) : (o = 801 + k) ∨ (202 + 2 * k ≤ o ∧ o < 204 + 2 * k) ∨ (506 + 6 * k ≤ o ∧ o < 512 + 6 * k) := by
  unfold nwI at h
  simp only [Bool.or_eq_true, Bool.and_eq_true, beq_iff_eq, decide_eq_true_eq] at h
  omega
/-- old objects' cells are as they were -/
theorem gx_cells {Γ : Gm} {k o ci : Nat} {L1 L2 : List (Nat × Nat)} {r : Rec} (hn : nwI k o = false) (h8 : ci = 8 → 800 ≤ o ∧ o ≤ 803 ∧ o ≠ 801 + k) (hk3 : k < 3) (h9 : ci = 9 → gr r k = 0) (h0 : ci = 0 → nwI k (gr r 0) = false) : cellsOf (gx Γ k L1 L2) ci o r = cellsOf Γ ci o r := by
  unfold cellsOf
  split
  · simp only [cl0, cl0_fs, gx_ad hn, gx_aa hn, gx_ac, gx_ad (h0 rfl)]
  · simp only [cl1, cl1_fs, gx_ad hn, gx_aa hn, gx_ac]
  · simp only [cl2, cl2_fs, gx_ad hn, gx_aa hn, gx_ac]
  · simp only [cl3, cl3_fs, gx_ad hn, gx_aa hn, gx_ac]
  · simp only [cl4, cl4_fs, gx_ad hn, gx_aa hn, gx_ac]
  · simp only [cl5, cl5_fs, gx_ad hn, gx_aa hn, gx_ac]
  · simp only [cl6, cl6_fs, gx_ad hn, gx_aa hn, gx_ac]
  · simp only [cl7, cl7_fs, gx_ad hn, gx_aa hn, gx_ac]
  · obtain ⟨a1, a2, a3⟩ := h8 rfl
    have e1 : (fun i : Nat => if i < 2 then some (ad (gx Γ k L1 L2) (200 + 2 * (o - 800) + i)) else none) = fun i => if i < 2 then some (ad Γ (200 + 2 * (o - 800) + i)) else none := by
      funext i
      by_cases hi : i < 2
      · rw [if_pos hi, if_pos hi, gx_ad (nwI_f (by omega) (by omega) (by omega))]
      · rw [if_neg hi, if_neg hi]
    have e2 : (fun i : Nat => if i < 2 then some (ad (gx Γ k L1 L2) (500 + 6 * (o - 800) + i)) else none) = fun i => if i < 2 then some (ad Γ (500 + 6 * (o - 800) + i)) else none := by
      funext i
      by_cases hi : i < 2
      · rw [if_pos hi, if_pos hi, gx_ad (nwI_f (by omega) (by omega) (by omega))]
      · rw [if_neg hi, if_neg hi]
    have e3 : (fun i : Nat => if i < 2 then some (ad (gx Γ k L1 L2) (502 + 6 * (o - 800) + i)) else none) = fun i => if i < 2 then some (ad Γ (502 + 6 * (o - 800) + i)) else none := by
      funext i
      by_cases hi : i < 2
      · rw [if_pos hi, if_pos hi, gx_ad (nwI_f (by omega) (by omega) (by omega))]
      · rw [if_neg hi, if_neg hi]
    have e4 : (fun i : Nat => if i < 2 then some (ad (gx Γ k L1 L2) (504 + 6 * (o - 800) + i)) else none) = fun i => if i < 2 then some (ad Γ (504 + 6 * (o - 800) + i)) else none := by
      funext i
      by_cases hi : i < 2
      · rw [if_pos hi, if_pos hi, gx_ad (nwI_f (by omega) (by omega) (by omega))]
      · rw [if_neg hi, if_neg hi]
    simp only [cl8, cl8_fs, gx_ad hn, gx_aa hn, gx_ac, e1, e2, e3, e4]
  · have e1 : (fun i : Nat => if gr r i = 0 then none else some (ad (gx Γ k L1 L2) (801 + i))) = fun i => if gr r i = 0 then none else some (ad Γ (801 + i)) := by
      funext i
      by_cases hi : gr r i = 0
      · rw [if_pos hi, if_pos hi]
      · rw [if_neg hi, if_neg hi, gx_ad (nwI_f (by intro e; have : i = k := by omega
                                                   subst this; exact hi (h9 rfl)) (by omega) (by omega))]
    simp only [cl9, cl9_fs, gx_ad hn, gx_aa hn, gx_ac, e1, gx_ad (k := k) (o := 800) (nwI_f (by omega) (by omega) (by omega)), gx_ad (k := k) (o := 401) (nwI_f (by omega) (by omega) (by omega)), gx_ad (k := k) (o := 1) (nwI_f (by omega) (by omega) (by omega)), gx_ad (k := k) (o := 601) (nwI_f (by omega) (by omega) (by omega)), gx_ad (k := k) (o := 301) (nwI_f (by omega) (by omega) (by omega)), gx_ad (k := k) (o := 101) (nwI_f (by omega) (by omega) (by omega)), gx_ad (k := k) (o := 701) (nwI_f (by omega) (by omega) (by omega))]
  · simp only [cl10, cl10_fs, gx_ad hn, gx_aa hn, gx_ac]
  · rfl
/-- and so are their places -/
theorem gx_adr {Γ : Gm} {k o ci : Nat} {L1 L2 : List (Nat × Nat)} (hn : nwI k o = false) (r : Rec) : (cellsOf (gx Γ k L1 L2) ci o r).map Prod.fst = (cellsOf Γ ci o r).map Prod.fst := by
  unfold cellsOf
  split
  · simp only [cl0, List.map, gx_ad hn, gx_aa hn]
  · simp only [cl1, List.map, gx_ad hn, gx_aa hn]
  · simp only [cl2, List.map, gx_ad hn, gx_aa hn]
  · simp only [cl3, List.map, gx_ad hn, gx_aa hn]
  · simp only [cl4, List.map, gx_ad hn, gx_aa hn]
  · simp only [cl5, List.map, gx_ad hn, gx_aa hn]
  · simp only [cl6, List.map, gx_ad hn, gx_aa hn]
  · simp only [cl7, List.map, gx_ad hn, gx_aa hn]
  · simp only [cl8, List.map, gx_ad hn, gx_aa hn]
  · simp only [cl9, List.map, gx_ad hn, gx_aa hn]
  · simp only [cl10, List.map, gx_ad hn, gx_aa hn]
  · rfl
set_option maxRecDepth 100000 in
set_option maxHeartbeats 8000000 in
theorem ext0 {Γ : Gm} {A : Nat → Prop} {s : State} {H H2 : Heap} {g : Gs} {w : va_W} {h0 : Nat} (hE : Ev Γ A s) (hLI : LI Γ g) (hw : Wo Γ g H) (hH : H.size = h0) (hp : PIX8 (ac Γ) h0 w) (hP : va_P (dd Γ) vwCl w H2) (hD : va_D (fun q => h0 ≤ q) w) (hold : ∀ q, q < h0 → H2[q]? = H[q]?) (hA : ∀ q, h0 ≤ q → A q) (hz : gr (g 901) 0 = 0) :
    ∃ Γ' : Gm, dd Γ' = dd Γ ∧ ac Γ' = ac Γ ∧ Γ'.2.2.2.2.2 = Γ.2.2.2.2.2 ∧ ad Γ' 901 = ad Γ 901 ∧ ad Γ' 1001 = ad Γ 1001 ∧ ad Γ' 800 = ad Γ 800 ∧ aa Γ' 901 1 = aa Γ 901 1 ∧ ad Γ' 801 = h0 ∧ kd Γ' 801 = some 8 ∧ Ev Γ' A s ∧ Wo Γ' (nT g 0) H2 ∧ LI Γ' (ug (nT g 0) 901 (sr (g 901) 0 801)) := by
  obtain ⟨q1, q2, q3, q4, q5, q6, q7, q8, q9, q10, q11, q12, q13, q14, q15, q16, q17, q18, q19, q20, q21, q22, q23, q24, q25, q26, q27, q28, q29, q30, q31, q32, q33, q34, q35, q36, rfl⟩ := hp
  have hkd : ∀ o ci, kd (gx Γ 0 [(801, h0), (202, q7), (203, q22), (506, q16), (507, q31), (508, q18), (509, q33), (510, q20), (511, q35)] [(80100, q1), (80104, q2), (80105, q3), (80106, q4), (80107, q5), (80108, q6), (20203, q8), (20204, q9), (20205, q10), (20206, q11), (20207, q12), (20208, q13), (20209, q14), (20210, q15), (20303, q23), (20304, q24), (20305, q25), (20306, q26), (20307, q27), (20308, q28), (20309, q29), (20310, q30), (50601, q17), (50701, q32), (50801, q19), (50901, q34), (51001, q21), (51101, q36)]) o = some ci → (o, ci) ∈ nwL 0 ∨ (kd Γ o = some ci ∧ nwI 0 o = false) := by
    intro o ci h
    by_cases hn : nwI 0 o = true
    · have h1 : lko (nwL 0) o = some ci := by
        have h2 : (if nwI 0 o = true then lko (nwL 0) o else kd Γ o) = some ci := h
        rw [if_pos hn] at h2
        exact h2
      exact Or.inl (lko_mem h1)
    · have hn : nwI 0 o = false := by
        cases hh : nwI 0 o with
        | true => exact absurd hh hn
        | false => rfl
      rw [gx_kd hn] at h
      exact Or.inr ⟨h, hn⟩
  have uq7 : va_up (va_up (fun _ => none) 0 (some q7)) 1 (some q22) = fun i => if i < 2 then some (ad (gx Γ 0 [(801, h0), (202, q7), (203, q22), (506, q16), (507, q31), (508, q18), (509, q33), (510, q20), (511, q35)] [(80100, q1), (80104, q2), (80105, q3), (80106, q4), (80107, q5), (80108, q6), (20203, q8), (20204, q9), (20205, q10), (20206, q11), (20207, q12), (20208, q13), (20209, q14), (20210, q15), (20303, q23), (20304, q24), (20305, q25), (20306, q26), (20307, q27), (20308, q28), (20309, q29), (20310, q30), (50601, q17), (50701, q32), (50801, q19), (50901, q34), (51001, q21), (51101, q36)]) (200 + 2 * (801 - 800) + i)) else none := up2 _ rfl rfl
  have uq16 : va_up (va_up (fun _ => none) 0 (some q16)) 1 (some q31) = fun i => if i < 2 then some (ad (gx Γ 0 [(801, h0), (202, q7), (203, q22), (506, q16), (507, q31), (508, q18), (509, q33), (510, q20), (511, q35)] [(80100, q1), (80104, q2), (80105, q3), (80106, q4), (80107, q5), (80108, q6), (20203, q8), (20204, q9), (20205, q10), (20206, q11), (20207, q12), (20208, q13), (20209, q14), (20210, q15), (20303, q23), (20304, q24), (20305, q25), (20306, q26), (20307, q27), (20308, q28), (20309, q29), (20310, q30), (50601, q17), (50701, q32), (50801, q19), (50901, q34), (51001, q21), (51101, q36)]) (500 + 6 * (801 - 800) + i)) else none := up2 _ rfl rfl
  have uq18 : va_up (va_up (fun _ => none) 0 (some q18)) 1 (some q33) = fun i => if i < 2 then some (ad (gx Γ 0 [(801, h0), (202, q7), (203, q22), (506, q16), (507, q31), (508, q18), (509, q33), (510, q20), (511, q35)] [(80100, q1), (80104, q2), (80105, q3), (80106, q4), (80107, q5), (80108, q6), (20203, q8), (20204, q9), (20205, q10), (20206, q11), (20207, q12), (20208, q13), (20209, q14), (20210, q15), (20303, q23), (20304, q24), (20305, q25), (20306, q26), (20307, q27), (20308, q28), (20309, q29), (20310, q30), (50601, q17), (50701, q32), (50801, q19), (50901, q34), (51001, q21), (51101, q36)]) (502 + 6 * (801 - 800) + i)) else none := up2 _ rfl rfl
  have uq20 : va_up (va_up (fun _ => none) 0 (some q20)) 1 (some q35) = fun i => if i < 2 then some (ad (gx Γ 0 [(801, h0), (202, q7), (203, q22), (506, q16), (507, q31), (508, q18), (509, q33), (510, q20), (511, q35)] [(80100, q1), (80104, q2), (80105, q3), (80106, q4), (80107, q5), (80108, q6), (20203, q8), (20204, q9), (20205, q10), (20206, q11), (20207, q12), (20208, q13), (20209, q14), (20210, q15), (20303, q23), (20304, q24), (20305, q25), (20306, q26), (20307, q27), (20308, q28), (20309, q29), (20310, q30), (50601, q17), (50701, q32), (50801, q19), (50901, q34), (51001, q21), (51101, q36)]) (504 + 6 * (801 - 800) + i)) else none := up2 _ rfl rfl
  rw [uq7, uq16, uq18, uq20] at hP hD
  have hPn : va_P (dd Γ) vwCl (cAll (gx Γ 0 [(801, h0), (202, q7), (203, q22), (506, q16), (507, q31), (508, q18), (509, q33), (510, q20), (511, q35)] [(80100, q1), (80104, q2), (80105, q3), (80106, q4), (80107, q5), (80108, q6), (20203, q8), (20204, q9), (20205, q10), (20206, q11), (20207, q12), (20208, q13), (20209, q14), (20210, q15), (20303, q23), (20304, q24), (20305, q25), (20306, q26), (20307, q27), (20308, q28), (20309, q29), (20310, q30), (50601, q17), (50701, q32), (50801, q19), (50901, q34), (51001, q21), (51101, q36)]) (nT g 0) (nwL 0)) H2 := hP.sub [0, 1, 2, 3, 4, 5, 6, 7, 8, 9, 10, 11, 12, 13, 14, 15, 22, 23, 24, 25, 26, 27, 28, 29, 30, 16, 17, 31, 32, 18, 19, 33, 34, 20, 21, 35, 36] rfl
  have hDn : va_D (fun q => h0 ≤ q) (cAll (gx Γ 0 [(801, h0), (202, q7), (203, q22), (506, q16), (507, q31), (508, q18), (509, q33), (510, q20), (511, q35)] [(80100, q1), (80104, q2), (80105, q3), (80106, q4), (80107, q5), (80108, q6), (20203, q8), (20204, q9), (20205, q10), (20206, q11), (20207, q12), (20208, q13), (20209, q14), (20210, q15), (20303, q23), (20304, q24), (20305, q25), (20306, q26), (20307, q27), (20308, q28), (20309, q29), (20310, q30), (50601, q17), (50701, q32), (50801, q19), (50901, q34), (51001, q21), (51101, q36)]) (nT g 0) (nwL 0)) := hD.sub [0, 1, 2, 3, 4, 5, 6, 7, 8, 9, 10, 11, 12, 13, 14, 15, 22, 23, 24, 25, 26, 27, 28, 29, 30, 16, 17, 31, 32, 18, 19, 33, 34, 20, 21, 35, 36] (by decide +kernel) rfl
  have hlt := wo_lt hw
  rw [hH] at hlt
  have hap : Ap (gx Γ 0 [(801, h0), (202, q7), (203, q22), (506, q16), (507, q31), (508, q18), (509, q33), (510, q20), (511, q35)] [(80100, q1), (80104, q2), (80105, q3), (80106, q4), (80107, q5), (80108, q6), (20203, q8), (20204, q9), (20205, q10), (20206, q11), (20207, q12), (20208, q13), (20209, q14), (20210, q15), (20303, q23), (20304, q24), (20305, q25), (20306, q26), (20307, q27), (20308, q28), (20309, q29), (20310, q30), (50601, q17), (50701, q32), (50801, q19), (50901, q34), (51001, q21), (51101, q36)]) A := ap_ext (G := nT g 0) (A' := fun q => h0 ≤ q) hE.2.1 (fun o ci h => (hkd o ci h).imp id (fun x => ⟨x.1, gx_adr x.2⟩)) hDn (fun _ h => h) (fun q h => hA q h) hlt
  have k901 : nwI 0 901 = false := by decide
  have hwo : Wo (gx Γ 0 [(801, h0), (202, q7), (203, q22), (506, q16), (507, q31), (508, q18), (509, q33), (510, q20), (511, q35)] [(80100, q1), (80104, q2), (80105, q3), (80106, q4), (80107, q5), (80108, q6), (20203, q8), (20204, q9), (20205, q10), (20206, q11), (20207, q12), (20208, q13), (20209, q14), (20210, q15), (20303, q23), (20304, q24), (20305, q25), (20306, q26), (20307, q27), (20308, q28), (20309, q29), (20310, q30), (50601, q17), (50701, q32), (50801, q19), (50901, q34), (51001, q21), (51101, q36)]) (nT g 0) H2 := by
    intro o ci h
    rcases hkd o ci h with h1 | ⟨h1, hn⟩
    · exact cAll_P hPn (o, ci) h1
    · have e1 : nT g 0 o = g o := by unfold nT; rw [hn]; rfl
      have hh : va_P (dd Γ) vwCl (cellsOf Γ ci o (g o)) H2 := (hw o ci h1).kept (fun j q hq => hold q.1 (hlt o ci j (g o) q h1 hq))
      rw [e1, gx_cells hn (fun e => by subst e; obtain ⟨a1, a2⟩ := hLI.2.1 o h1; exact ⟨a1, a2, fun e2 => by subst e2; exact absurd hn (by decide)⟩) (by decide) (fun e => by subst e; rw [hLI.2.2.1 o h1]; exact hz) (fun e => by
        subst e
        rw [hLI.2.2.2.1 o h1]
        have hm := hLI.2.2.2.2
        simp only [isHm, Bool.or_eq_true, beq_iff_eq] at hm
        rcases hm with (hm | hm) | hm <;> rw [hm] <;> decide)]
      exact hh
  have kt : ∀ t, kd (gx Γ 0 [(801, h0), (202, q7), (203, q22), (506, q16), (507, q31), (508, q18), (509, q33), (510, q20), (511, q35)] [(80100, q1), (80104, q2), (80105, q3), (80106, q4), (80107, q5), (80108, q6), (20203, q8), (20204, q9), (20205, q10), (20206, q11), (20207, q12), (20208, q13), (20209, q14), (20210, q15), (20303, q23), (20304, q24), (20305, q25), (20306, q26), (20307, q27), (20308, q28), (20309, q29), (20310, q30), (50601, q17), (50701, q32), (50801, q19), (50901, q34), (51001, q21), (51101, q36)]) t = some 8 → 800 ≤ t ∧ t ≤ 803 := by
    intro t h
    rcases hkd t 8 h with h1 | ⟨h1, hn⟩
    · simp [nwL] at h1
      omega
    · exact hLI.2.1 t h1
  have hWF : WF (gx Γ 0 [(801, h0), (202, q7), (203, q22), (506, q16), (507, q31), (508, q18), (509, q33), (510, q20), (511, q35)] [(80100, q1), (80104, q2), (80105, q3), (80106, q4), (80107, q5), (80108, q6), (20203, q8), (20204, q9), (20205, q10), (20206, q11), (20207, q12), (20208, q13), (20209, q14), (20210, q15), (20303, q23), (20304, q24), (20305, q25), (20306, q26), (20307, q27), (20308, q28), (20309, q29), (20310, q30), (50601, q17), (50701, q32), (50801, q19), (50901, q34), (51001, q21), (51101, q36)]) := by
    obtain ⟨w1, w2, w3, w4, w5, w6, w7, w8, w9, w10, w11⟩ := hE.2.2.2.1
    refine ⟨(gx_kd (by decide)).trans w1, (gx_kd (by decide)).trans w2, (gx_kd (by decide)).trans w3, (gx_kd (by decide)).trans w4, (gx_kd (by decide)).trans w5, (gx_kd (by decide)).trans w6, (gx_kd (by decide)).trans w7, (gx_kd (by decide)).trans w8, (gx_kd (by decide)).trans w9, (gx_kd (by decide)).trans w10, ?_⟩
    intro t h i hi
    rcases hkd t 8 h with h1 | ⟨h1, hn⟩
    · have e1 : t = 801 := by
        simp [nwL] at h1
        omega
      subst e1
      have hi2 : i = 0 ∨ i = 1 := by omega
      rcases hi2 with rfl | rfl
      · exact ⟨rfl, rfl, rfl, rfl⟩
      · exact ⟨rfl, rfl, rfl, rfl⟩
    · obtain ⟨a1, a2⟩ := hLI.2.1 t h1
      have a3 : t ≠ 801 := fun e2 => by subst e2; exact absurd hn (by decide)
      obtain ⟨b1, b2, b3, b4⟩ := w11 t h1 i hi
      exact ⟨(gx_kd (nwI_f (by omega) (by omega) (by omega))).trans b1, (gx_kd (nwI_f (by omega) (by omega) (by omega))).trans b2, (gx_kd (nwI_f (by omega) (by omega) (by omega))).trans b3, (gx_kd (nwI_f (by omega) (by omega) (by omega))).trans b4⟩
  refine ⟨gx Γ 0 [(801, h0), (202, q7), (203, q22), (506, q16), (507, q31), (508, q18), (509, q33), (510, q20), (511, q35)] [(80100, q1), (80104, q2), (80105, q3), (80106, q4), (80107, q5), (80108, q6), (20203, q8), (20204, q9), (20205, q10), (20206, q11), (20207, q12), (20208, q13), (20209, q14), (20210, q15), (20303, q23), (20304, q24), (20305, q25), (20306, q26), (20307, q27), (20308, q28), (20309, q29), (20310, q30), (50601, q17), (50701, q32), (50801, q19), (50901, q34), (51001, q21), (51101, q36)], rfl, rfl, rfl, gx_ad k901, gx_ad (by decide), gx_ad (by decide), gx_aa k901, rfl, rfl, ⟨hE.1, hap, hE.2.2.1, hWF, hE.2.2.2.2⟩, hwo, ?_⟩
  refine ⟨fun i hi h => ?_, kt, fun o h => ?_, fun o h => ?_, ?_⟩
  · rw [ug_same] at h
    by_cases hik : i = 0
    · subst hik
      rfl
    · have h2 : gr (sr (g 901) 0 801) i = gr (g 901) i := by simp [gr, sr, hik]
      rw [h2] at h
      rw [gx_kd (nwI_f (by omega) (by omega) (by omega))]
      exact hLI.1 i hi h
  · rcases hkd o 9 h with h1 | ⟨h1, hn⟩
    · simp [nwL] at h1
    · exact hLI.2.2.1 o h1
  · rcases hkd o 0 h with h1 | ⟨h1, hn⟩
    · simp [nwL] at h1
    · exact hLI.2.2.2.1 o h1
  · rw [ug_ne (by decide)]
    have e1 : nT g 0 1 = g 1 := rfl
    rw [e1]
    exact hLI.2.2.2.2
set_option maxRecDepth 100000 in
set_option maxHeartbeats 8000000 in
theorem ext1 {Γ : Gm} {A : Nat → Prop} {s : State} {H H2 : Heap} {g : Gs} {w : va_W} {h0 : Nat} (hE : Ev Γ A s) (hLI : LI Γ g) (hw : Wo Γ g H) (hH : H.size = h0) (hp : PIX8 (ac Γ) h0 w) (hP : va_P (dd Γ) vwCl w H2) (hD : va_D (fun q => h0 ≤ q) w) (hold : ∀ q, q < h0 → H2[q]? = H[q]?) (hA : ∀ q, h0 ≤ q → A q) (hz : gr (g 901) 1 = 0) :
    ∃ Γ' : Gm, dd Γ' = dd Γ ∧ ac Γ' = ac Γ ∧ Γ'.2.2.2.2.2 = Γ.2.2.2.2.2 ∧ ad Γ' 901 = ad Γ 901 ∧ ad Γ' 1001 = ad Γ 1001 ∧ ad Γ' 800 = ad Γ 800 ∧ aa Γ' 901 1 = aa Γ 901 1 ∧ ad Γ' 802 = h0 ∧ kd Γ' 802 = some 8 ∧ Ev Γ' A s ∧ Wo Γ' (nT g 1) H2 ∧ LI Γ' (ug (nT g 1) 901 (sr (g 901) 1 802)) := by
  obtain ⟨q1, q2, q3, q4, q5, q6, q7, q8, q9, q10, q11, q12, q13, q14, q15, q16, q17, q18, q19, q20, q21, q22, q23, q24, q25, q26, q27, q28, q29, q30, q31, q32, q33, q34, q35, q36, rfl⟩ := hp
  have hkd : ∀ o ci, kd (gx Γ 1 [(802, h0), (204, q7), (205, q22), (512, q16), (513, q31), (514, q18), (515, q33), (516, q20), (517, q35)] [(80200, q1), (80204, q2), (80205, q3), (80206, q4), (80207, q5), (80208, q6), (20403, q8), (20404, q9), (20405, q10), (20406, q11), (20407, q12), (20408, q13), (20409, q14), (20410, q15), (20503, q23), (20504, q24), (20505, q25), (20506, q26), (20507, q27), (20508, q28), (20509, q29), (20510, q30), (51201, q17), (51301, q32), (51401, q19), (51501, q34), (51601, q21), (51701, q36)]) o = some ci → (o, ci) ∈ nwL 1 ∨ (kd Γ o = some ci ∧ nwI 1 o = false) := by
    intro o ci h
    by_cases hn : nwI 1 o = true
    · have h1 : lko (nwL 1) o = some ci := by
        have h2 : (if nwI 1 o = true then lko (nwL 1) o else kd Γ o) = some ci := h
        rw [if_pos hn] at h2
        exact h2
      exact Or.inl (lko_mem h1)
    · have hn : nwI 1 o = false := by
        cases hh : nwI 1 o with
        | true => exact absurd hh hn
        | false => rfl
      rw [gx_kd hn] at h
      exact Or.inr ⟨h, hn⟩
  have uq7 : va_up (va_up (fun _ => none) 0 (some q7)) 1 (some q22) = fun i => if i < 2 then some (ad (gx Γ 1 [(802, h0), (204, q7), (205, q22), (512, q16), (513, q31), (514, q18), (515, q33), (516, q20), (517, q35)] [(80200, q1), (80204, q2), (80205, q3), (80206, q4), (80207, q5), (80208, q6), (20403, q8), (20404, q9), (20405, q10), (20406, q11), (20407, q12), (20408, q13), (20409, q14), (20410, q15), (20503, q23), (20504, q24), (20505, q25), (20506, q26), (20507, q27), (20508, q28), (20509, q29), (20510, q30), (51201, q17), (51301, q32), (51401, q19), (51501, q34), (51601, q21), (51701, q36)]) (200 + 2 * (802 - 800) + i)) else none := up2 _ rfl rfl
  have uq16 : va_up (va_up (fun _ => none) 0 (some q16)) 1 (some q31) = fun i => if i < 2 then some (ad (gx Γ 1 [(802, h0), (204, q7), (205, q22), (512, q16), (513, q31), (514, q18), (515, q33), (516, q20), (517, q35)] [(80200, q1), (80204, q2), (80205, q3), (80206, q4), (80207, q5), (80208, q6), (20403, q8), (20404, q9), (20405, q10), (20406, q11), (20407, q12), (20408, q13), (20409, q14), (20410, q15), (20503, q23), (20504, q24), (20505, q25), (20506, q26), (20507, q27), (20508, q28), (20509, q29), (20510, q30), (51201, q17), (51301, q32), (51401, q19), (51501, q34), (51601, q21), (51701, q36)]) (500 + 6 * (802 - 800) + i)) else none := up2 _ rfl rfl
  have uq18 : va_up (va_up (fun _ => none) 0 (some q18)) 1 (some q33) = fun i => if i < 2 then some (ad (gx Γ 1 [(802, h0), (204, q7), (205, q22), (512, q16), (513, q31), (514, q18), (515, q33), (516, q20), (517, q35)] [(80200, q1), (80204, q2), (80205, q3), (80206, q4), (80207, q5), (80208, q6), (20403, q8), (20404, q9), (20405, q10), (20406, q11), (20407, q12), (20408, q13), (20409, q14), (20410, q15), (20503, q23), (20504, q24), (20505, q25), (20506, q26), (20507, q27), (20508, q28), (20509, q29), (20510, q30), (51201, q17), (51301, q32), (51401, q19), (51501, q34), (51601, q21), (51701, q36)]) (502 + 6 * (802 - 800) + i)) else none := up2 _ rfl rfl
  have uq20 : va_up (va_up (fun _ => none) 0 (some q20)) 1 (some q35) = fun i => if i < 2 then some (ad (gx Γ 1 [(802, h0), (204, q7), (205, q22), (512, q16), (513, q31), (514, q18), (515, q33), (516, q20), (517, q35)] [(80200, q1), (80204, q2), (80205, q3), (80206, q4), (80207, q5), (80208, q6), (20403, q8), (20404, q9), (20405, q10), (20406, q11), (20407, q12), (20408, q13), (20409, q14), (20410, q15), (20503, q23), (20504, q24), (20505, q25), (20506, q26), (20507, q27), (20508, q28), (20509, q29), (20510, q30), (51201, q17), (51301, q32), (51401, q19), (51501, q34), (51601, q21), (51701, q36)]) (504 + 6 * (802 - 800) + i)) else none := up2 _ rfl rfl
  rw [uq7, uq16, uq18, uq20] at hP hD
  have hPn : va_P (dd Γ) vwCl (cAll (gx Γ 1 [(802, h0), (204, q7), (205, q22), (512, q16), (513, q31), (514, q18), (515, q33), (516, q20), (517, q35)] [(80200, q1), (80204, q2), (80205, q3), (80206, q4), (80207, q5), (80208, q6), (20403, q8), (20404, q9), (20405, q10), (20406, q11), (20407, q12), (20408, q13), (20409, q14), (20410, q15), (20503, q23), (20504, q24), (20505, q25), (20506, q26), (20507, q27), (20508, q28), (20509, q29), (20510, q30), (51201, q17), (51301, q32), (51401, q19), (51501, q34), (51601, q21), (51701, q36)]) (nT g 1) (nwL 1)) H2 := hP.sub [0, 1, 2, 3, 4, 5, 6, 7, 8, 9, 10, 11, 12, 13, 14, 15, 22, 23, 24, 25, 26, 27, 28, 29, 30, 16, 17, 31, 32, 18, 19, 33, 34, 20, 21, 35, 36] rfl
  have hDn : va_D (fun q => h0 ≤ q) (cAll (gx Γ 1 [(802, h0), (204, q7), (205, q22), (512, q16), (513, q31), (514, q18), (515, q33), (516, q20), (517, q35)] [(80200, q1), (80204, q2), (80205, q3), (80206, q4), (80207, q5), (80208, q6), (20403, q8), (20404, q9), (20405, q10), (20406, q11), (20407, q12), (20408, q13), (20409, q14), (20410, q15), (20503, q23), (20504, q24), (20505, q25), (20506, q26), (20507, q27), (20508, q28), (20509, q29), (20510, q30), (51201, q17), (51301, q32), (51401, q19), (51501, q34), (51601, q21), (51701, q36)]) (nT g 1) (nwL 1)) := hD.sub [0, 1, 2, 3, 4, 5, 6, 7, 8, 9, 10, 11, 12, 13, 14, 15, 22, 23, 24, 25, 26, 27, 28, 29, 30, 16, 17, 31, 32, 18, 19, 33, 34, 20, 21, 35, 36] (by decide +kernel) rfl
  have hlt := wo_lt hw
  rw [hH] at hlt
  have hap : Ap (gx Γ 1 [(802, h0), (204, q7), (205, q22), (512, q16), (513, q31), (514, q18), (515, q33), (516, q20), (517, q35)] [(80200, q1), (80204, q2), (80205, q3), (80206, q4), (80207, q5), (80208, q6), (20403, q8), (20404, q9), (20405, q10), (20406, q11), (20407, q12), (20408, q13), (20409, q14), (20410, q15), (20503, q23), (20504, q24), (20505, q25), (20506, q26), (20507, q27), (20508, q28), (20509, q29), (20510, q30), (51201, q17), (51301, q32), (51401, q19), (51501, q34), (51601, q21), (51701, q36)]) A := ap_ext (G := nT g 1) (A' := fun q => h0 ≤ q) hE.2.1 (fun o ci h => (hkd o ci h).imp id (fun x => ⟨x.1, gx_adr x.2⟩)) hDn (fun _ h => h) (fun q h => hA q h) hlt
  have k901 : nwI 1 901 = false := by decide
  have hwo : Wo (gx Γ 1 [(802, h0), (204, q7), (205, q22), (512, q16), (513, q31), (514, q18), (515, q33), (516, q20), (517, q35)] [(80200, q1), (80204, q2), (80205, q3), (80206, q4), (80207, q5), (80208, q6), (20403, q8), (20404, q9), (20405, q10), (20406, q11), (20407, q12), (20408, q13), (20409, q14), (20410, q15), (20503, q23), (20504, q24), (20505, q25), (20506, q26), (20507, q27), (20508, q28), (20509, q29), (20510, q30), (51201, q17), (51301, q32), (51401, q19), (51501, q34), (51601, q21), (51701, q36)]) (nT g 1) H2 := by
    intro o ci h
    rcases hkd o ci h with h1 | ⟨h1, hn⟩
    · exact cAll_P hPn (o, ci) h1
    · have e1 : nT g 1 o = g o := by unfold nT; rw [hn]; rfl
      have hh : va_P (dd Γ) vwCl (cellsOf Γ ci o (g o)) H2 := (hw o ci h1).kept (fun j q hq => hold q.1 (hlt o ci j (g o) q h1 hq))
      rw [e1, gx_cells hn (fun e => by subst e; obtain ⟨a1, a2⟩ := hLI.2.1 o h1; exact ⟨a1, a2, fun e2 => by subst e2; exact absurd hn (by decide)⟩) (by decide) (fun e => by subst e; rw [hLI.2.2.1 o h1]; exact hz) (fun e => by
        subst e
        rw [hLI.2.2.2.1 o h1]
        have hm := hLI.2.2.2.2
        simp only [isHm, Bool.or_eq_true, beq_iff_eq] at hm
        rcases hm with (hm | hm) | hm <;> rw [hm] <;> decide)]
      exact hh
  have kt : ∀ t, kd (gx Γ 1 [(802, h0), (204, q7), (205, q22), (512, q16), (513, q31), (514, q18), (515, q33), (516, q20), (517, q35)] [(80200, q1), (80204, q2), (80205, q3), (80206, q4), (80207, q5), (80208, q6), (20403, q8), (20404, q9), (20405, q10), (20406, q11), (20407, q12), (20408, q13), (20409, q14), (20410, q15), (20503, q23), (20504, q24), (20505, q25), (20506, q26), (20507, q27), (20508, q28), (20509, q29), (20510, q30), (51201, q17), (51301, q32), (51401, q19), (51501, q34), (51601, q21), (51701, q36)]) t = some 8 → 800 ≤ t ∧ t ≤ 803 := by
    intro t h
    rcases hkd t 8 h with h1 | ⟨h1, hn⟩
    · simp [nwL] at h1
      omega
    · exact hLI.2.1 t h1
  have hWF : WF (gx Γ 1 [(802, h0), (204, q7), (205, q22), (512, q16), (513, q31), (514, q18), (515, q33), (516, q20), (517, q35)] [(80200, q1), (80204, q2), (80205, q3), (80206, q4), (80207, q5), (80208, q6), (20403, q8), (20404, q9), (20405, q10), (20406, q11), (20407, q12), (20408, q13), (20409, q14), (20410, q15), (20503, q23), (20504, q24), (20505, q25), (20506, q26), (20507, q27), (20508, q28), (20509, q29), (20510, q30), (51201, q17), (51301, q32), (51401, q19), (51501, q34), (51601, q21), (51701, q36)]) := by
    obtain ⟨w1, w2, w3, w4, w5, w6, w7, w8, w9, w10, w11⟩ := hE.2.2.2.1
    refine ⟨(gx_kd (by decide)).trans w1, (gx_kd (by decide)).trans w2, (gx_kd (by decide)).trans w3, (gx_kd (by decide)).trans w4, (gx_kd (by decide)).trans w5, (gx_kd (by decide)).trans w6, (gx_kd (by decide)).trans w7, (gx_kd (by decide)).trans w8, (gx_kd (by decide)).trans w9, (gx_kd (by decide)).trans w10, ?_⟩
    intro t h i hi
    rcases hkd t 8 h with h1 | ⟨h1, hn⟩
    · have e1 : t = 802 := by
        simp [nwL] at h1
        omega
      subst e1
      have hi2 : i = 0 ∨ i = 1 := by omega
      rcases hi2 with rfl | rfl
      · exact ⟨rfl, rfl, rfl, rfl⟩
      · exact ⟨rfl, rfl, rfl, rfl⟩
    · obtain ⟨a1, a2⟩ := hLI.2.1 t h1
      have a3 : t ≠ 802 := fun e2 => by subst e2; exact absurd hn (by decide)
      obtain ⟨b1, b2, b3, b4⟩ := w11 t h1 i hi
      exact ⟨(gx_kd (nwI_f (by omega) (by omega) (by omega))).trans b1, (gx_kd (nwI_f (by omega) (by omega) (by omega))).trans b2, (gx_kd (nwI_f (by omega) (by omega) (by omega))).trans b3, (gx_kd (nwI_f (by omega) (by omega) (by omega))).trans b4⟩
  refine ⟨gx Γ 1 [(802, h0), (204, q7), (205, q22), (512, q16), (513, q31), (514, q18), (515, q33), (516, q20), (517, q35)] [(80200, q1), (80204, q2), (80205, q3), (80206, q4), (80207, q5), (80208, q6), (20403, q8), (20404, q9), (20405, q10), (20406, q11), (20407, q12), (20408, q13), (20409, q14), (20410, q15), (20503, q23), (20504, q24), (20505, q25), (20506, q26), (20507, q27), (20508, q28), (20509, q29), (20510, q30), (51201, q17), (51301, q32), (51401, q19), (51501, q34), (51601, q21), (51701, q36)], rfl, rfl, rfl, gx_ad k901, gx_ad (by decide), gx_ad (by decide), gx_aa k901, rfl, rfl, ⟨hE.1, hap, hE.2.2.1, hWF, hE.2.2.2.2⟩, hwo, ?_⟩
  refine ⟨fun i hi h => ?_, kt, fun o h => ?_, fun o h => ?_, ?_⟩
  · rw [ug_same] at h
    by_cases hik : i = 1
    · subst hik
      rfl
    · have h2 : gr (sr (g 901) 1 802) i = gr (g 901) i := by simp [gr, sr, hik]
      rw [h2] at h
      rw [gx_kd (nwI_f (by omega) (by omega) (by omega))]
      exact hLI.1 i hi h
  · rcases hkd o 9 h with h1 | ⟨h1, hn⟩
    · simp [nwL] at h1
    · exact hLI.2.2.1 o h1
  · rcases hkd o 0 h with h1 | ⟨h1, hn⟩
    · simp [nwL] at h1
    · exact hLI.2.2.2.1 o h1
  · rw [ug_ne (by decide)]
    have e1 : nT g 1 1 = g 1 := rfl
    rw [e1]
    exact hLI.2.2.2.2
set_option maxRecDepth 100000 in
set_option maxHeartbeats 8000000 in
theorem ext2 {Γ : Gm} {A : Nat → Prop} {s : State} {H H2 : Heap} {g : Gs} {w : va_W} {h0 : Nat} (hE : Ev Γ A s) (hLI : LI Γ g) (hw : Wo Γ g H) (hH : H.size = h0) (hp : PIX8 (ac Γ) h0 w) (hP : va_P (dd Γ) vwCl w H2) (hD : va_D (fun q => h0 ≤ q) w) (hold : ∀ q, q < h0 → H2[q]? = H[q]?) (hA : ∀ q, h0 ≤ q → A q) (hz : gr (g 901) 2 = 0) :
    ∃ Γ' : Gm, dd Γ' = dd Γ ∧ ac Γ' = ac Γ ∧ Γ'.2.2.2.2.2 = Γ.2.2.2.2.2 ∧ ad Γ' 901 = ad Γ 901 ∧ ad Γ' 1001 = ad Γ 1001 ∧ ad Γ' 800 = ad Γ 800 ∧ aa Γ' 901 1 = aa Γ 901 1 ∧ ad Γ' 803 = h0 ∧ kd Γ' 803 = some 8 ∧ Ev Γ' A s ∧ Wo Γ' (nT g 2) H2 ∧ LI Γ' (ug (nT g 2) 901 (sr (g 901) 2 803)) := by
  obtain ⟨q1, q2, q3, q4, q5, q6, q7, q8, q9, q10, q11, q12, q13, q14, q15, q16, q17, q18, q19, q20, q21, q22, q23, q24, q25, q26, q27, q28, q29, q30, q31, q32, q33, q34, q35, q36, rfl⟩ := hp
  have hkd : ∀ o ci, kd (gx Γ 2 [(803, h0), (206, q7), (207, q22), (518, q16), (519, q31), (520, q18), (521, q33), (522, q20), (523, q35)] [(80300, q1), (80304, q2), (80305, q3), (80306, q4), (80307, q5), (80308, q6), (20603, q8), (20604, q9), (20605, q10), (20606, q11), (20607, q12), (20608, q13), (20609, q14), (20610, q15), (20703, q23), (20704, q24), (20705, q25), (20706, q26), (20707, q27), (20708, q28), (20709, q29), (20710, q30), (51801, q17), (51901, q32), (52001, q19), (52101, q34), (52201, q21), (52301, q36)]) o = some ci → (o, ci) ∈ nwL 2 ∨ (kd Γ o = some ci ∧ nwI 2 o = false) := by
    intro o ci h
    by_cases hn : nwI 2 o = true
    · have h1 : lko (nwL 2) o = some ci := by
        have h2 : (if nwI 2 o = true then lko (nwL 2) o else kd Γ o) = some ci := h
        rw [if_pos hn] at h2
        exact h2
      exact Or.inl (lko_mem h1)
    · have hn : nwI 2 o = false := by
        cases hh : nwI 2 o with
        | true => exact absurd hh hn
        | false => rfl
      rw [gx_kd hn] at h
      exact Or.inr ⟨h, hn⟩
  have uq7 : va_up (va_up (fun _ => none) 0 (some q7)) 1 (some q22) = fun i => if i < 2 then some (ad (gx Γ 2 [(803, h0), (206, q7), (207, q22), (518, q16), (519, q31), (520, q18), (521, q33), (522, q20), (523, q35)] [(80300, q1), (80304, q2), (80305, q3), (80306, q4), (80307, q5), (80308, q6), (20603, q8), (20604, q9), (20605, q10), (20606, q11), (20607, q12), (20608, q13), (20609, q14), (20610, q15), (20703, q23), (20704, q24), (20705, q25), (20706, q26), (20707, q27), (20708, q28), (20709, q29), (20710, q30), (51801, q17), (51901, q32), (52001, q19), (52101, q34), (52201, q21), (52301, q36)]) (200 + 2 * (803 - 800) + i)) else none := up2 _ rfl rfl
  have uq16 : va_up (va_up (fun _ => none) 0 (some q16)) 1 (some q31) = fun i => if i < 2 then some (ad (gx Γ 2 [(803, h0), (206, q7), (207, q22), (518, q16), (519, q31), (520, q18), (521, q33), (522, q20), (523, q35)] [(80300, q1), (80304, q2), (80305, q3), (80306, q4), (80307, q5), (80308, q6), (20603, q8), (20604, q9), (20605, q10), (20606, q11), (20607, q12), (20608, q13), (20609, q14), (20610, q15), (20703, q23), (20704, q24), (20705, q25), (20706, q26), (20707, q27), (20708, q28), (20709, q29), (20710, q30), (51801, q17), (51901, q32), (52001, q19), (52101, q34), (52201, q21), (52301, q36)]) (500 + 6 * (803 - 800) + i)) else none := up2 _ rfl rfl
  have uq18 : va_up (va_up (fun _ => none) 0 (some q18)) 1 (some q33) = fun i => if i < 2 then some (ad (gx Γ 2 [(803, h0), (206, q7), (207, q22), (518, q16), (519, q31), (520, q18), (521, q33), (522, q20), (523, q35)] [(80300, q1), (80304, q2), (80305, q3), (80306, q4), (80307, q5), (80308, q6), (20603, q8), (20604, q9), (20605, q10), (20606, q11), (20607, q12), (20608, q13), (20609, q14), (20610, q15), (20703, q23), (20704, q24), (20705, q25), (20706, q26), (20707, q27), (20708, q28), (20709, q29), (20710, q30), (51801, q17), (51901, q32), (52001, q19), (52101, q34), (52201, q21), (52301, q36)]) (502 + 6 * (803 - 800) + i)) else none := up2 _ rfl rfl
  have uq20 : va_up (va_up (fun _ => none) 0 (some q20)) 1 (some q35) = fun i => if i < 2 then some (ad (gx Γ 2 [(803, h0), (206, q7), (207, q22), (518, q16), (519, q31), (520, q18), (521, q33), (522, q20), (523, q35)] [(80300, q1), (80304, q2), (80305, q3), (80306, q4), (80307, q5), (80308, q6), (20603, q8), (20604, q9), (20605, q10), (20606, q11), (20607, q12), (20608, q13), (20609, q14), (20610, q15), (20703, q23), (20704, q24), (20705, q25), (20706, q26), (20707, q27), (20708, q28), (20709, q29), (20710, q30), (51801, q17), (51901, q32), (52001, q19), (52101, q34), (52201, q21), (52301, q36)]) (504 + 6 * (803 - 800) + i)) else none := up2 _ rfl rfl
  rw [uq7, uq16, uq18, uq20] at hP hD
  have hPn : va_P (dd Γ) vwCl (cAll (gx Γ 2 [(803, h0), (206, q7), (207, q22), (518, q16), (519, q31), (520, q18), (521, q33), (522, q20), (523, q35)] [(80300, q1), (80304, q2), (80305, q3), (80306, q4), (80307, q5), (80308, q6), (20603, q8), (20604, q9), (20605, q10), (20606, q11), (20607, q12), (20608, q13), (20609, q14), (20610, q15), (20703, q23), (20704, q24), (20705, q25), (20706, q26), (20707, q27), (20708, q28), (20709, q29), (20710, q30), (51801, q17), (51901, q32), (52001, q19), (52101, q34), (52201, q21), (52301, q36)]) (nT g 2) (nwL 2)) H2 := hP.sub [0, 1, 2, 3, 4, 5, 6, 7, 8, 9, 10, 11, 12, 13, 14, 15, 22, 23, 24, 25, 26, 27, 28, 29, 30, 16, 17, 31, 32, 18, 19, 33, 34, 20, 21, 35, 36] rfl
  have hDn : va_D (fun q => h0 ≤ q) (cAll (gx Γ 2 [(803, h0), (206, q7), (207, q22), (518, q16), (519, q31), (520, q18), (521, q33), (522, q20), (523, q35)] [(80300, q1), (80304, q2), (80305, q3), (80306, q4), (80307, q5), (80308, q6), (20603, q8), (20604, q9), (20605, q10), (20606, q11), (20607, q12), (20608, q13), (20609, q14), (20610, q15), (20703, q23), (20704, q24), (20705, q25), (20706, q26), (20707, q27), (20708, q28), (20709, q29), (20710, q30), (51801, q17), (51901, q32), (52001, q19), (52101, q34), (52201, q21), (52301, q36)]) (nT g 2) (nwL 2)) := hD.sub [0, 1, 2, 3, 4, 5, 6, 7, 8, 9, 10, 11, 12, 13, 14, 15, 22, 23, 24, 25, 26, 27, 28, 29, 30, 16, 17, 31, 32, 18, 19, 33, 34, 20, 21, 35, 36] (by decide +kernel) rfl
  have hlt := wo_lt hw
  rw [hH] at hlt
  have hap : Ap (gx Γ 2 [(803, h0), (206, q7), (207, q22), (518, q16), (519, q31), (520, q18), (521, q33), (522, q20), (523, q35)] [(80300, q1), (80304, q2), (80305, q3), (80306, q4), (80307, q5), (80308, q6), (20603, q8), (20604, q9), (20605, q10), (20606, q11), (20607, q12), (20608, q13), (20609, q14), (20610, q15), (20703, q23), (20704, q24), (20705, q25), (20706, q26), (20707, q27), (20708, q28), (20709, q29), (20710, q30), (51801, q17), (51901, q32), (52001, q19), (52101, q34), (52201, q21), (52301, q36)]) A := ap_ext (G := nT g 2) (A' := fun q => h0 ≤ q) hE.2.1 (fun o ci h => (hkd o ci h).imp id (fun x => ⟨x.1, gx_adr x.2⟩)) hDn (fun _ h => h) (fun q h => hA q h) hlt
  have k901 : nwI 2 901 = false := by decide
  have hwo : Wo (gx Γ 2 [(803, h0), (206, q7), (207, q22), (518, q16), (519, q31), (520, q18), (521, q33), (522, q20), (523, q35)] [(80300, q1), (80304, q2), (80305, q3), (80306, q4), (80307, q5), (80308, q6), (20603, q8), (20604, q9), (20605, q10), (20606, q11), (20607, q12), (20608, q13), (20609, q14), (20610, q15), (20703, q23), (20704, q24), (20705, q25), (20706, q26), (20707, q27), (20708, q28), (20709, q29), (20710, q30), (51801, q17), (51901, q32), (52001, q19), (52101, q34), (52201, q21), (52301, q36)]) (nT g 2) H2 := by
    intro o ci h
    rcases hkd o ci h with h1 | ⟨h1, hn⟩
    · exact cAll_P hPn (o, ci) h1
    · have e1 : nT g 2 o = g o := by unfold nT; rw [hn]; rfl
      have hh : va_P (dd Γ) vwCl (cellsOf Γ ci o (g o)) H2 := (hw o ci h1).kept (fun j q hq => hold q.1 (hlt o ci j (g o) q h1 hq))
      rw [e1, gx_cells hn (fun e => by subst e; obtain ⟨a1, a2⟩ := hLI.2.1 o h1; exact ⟨a1, a2, fun e2 => by subst e2; exact absurd hn (by decide)⟩) (by decide) (fun e => by subst e; rw [hLI.2.2.1 o h1]; exact hz) (fun e => by
        subst e
        rw [hLI.2.2.2.1 o h1]
        have hm := hLI.2.2.2.2
        simp only [isHm, Bool.or_eq_true, beq_iff_eq] at hm
        rcases hm with (hm | hm) | hm <;> rw [hm] <;> decide)]
      exact hh
  have kt : ∀ t, kd (gx Γ 2 [(803, h0), (206, q7), (207, q22), (518, q16), (519, q31), (520, q18), (521, q33), (522, q20), (523, q35)] [(80300, q1), (80304, q2), (80305, q3), (80306, q4), (80307, q5), (80308, q6), (20603, q8), (20604, q9), (20605, q10), (20606, q11), (20607, q12), (20608, q13), (20609, q14), (20610, q15), (20703, q23), (20704, q24), (20705, q25), (20706, q26), (20707, q27), (20708, q28), (20709, q29), (20710, q30), (51801, q17), (51901, q32), (52001, q19), (52101, q34), (52201, q21), (52301, q36)]) t = some 8 → 800 ≤ t ∧ t ≤ 803 := by
    intro t h
    rcases hkd t 8 h with h1 | ⟨h1, hn⟩
    · simp [nwL] at h1
      omega
    · exact hLI.2.1 t h1
  have hWF : WF (gx Γ 2 [(803, h0), (206, q7), (207, q22), (518, q16), (519, q31), (520, q18), (521, q33), (522, q20), (523, q35)] [(80300, q1), (80304, q2), (80305, q3), (80306, q4), (80307, q5), (80308, q6), (20603, q8), (20604, q9), (20605, q10), (20606, q11), (20607, q12), (20608, q13), (20609, q14), (20610, q15), (20703, q23), (20704, q24), (20705, q25), (20706, q26), (20707, q27), (20708, q28), (20709, q29), (20710, q30), (51801, q17), (51901, q32), (52001, q19), (52101, q34), (52201, q21), (52301, q36)]) := by
    obtain ⟨w1, w2, w3, w4, w5, w6, w7, w8, w9, w10, w11⟩ := hE.2.2.2.1
    refine ⟨(gx_kd (by decide)).trans w1, (gx_kd (by decide)).trans w2, (gx_kd (by decide)).trans w3, (gx_kd (by decide)).trans w4, (gx_kd (by decide)).trans w5, (gx_kd (by decide)).trans w6, (gx_kd (by decide)).trans w7, (gx_kd (by decide)).trans w8, (gx_kd (by decide)).trans w9, (gx_kd (by decide)).trans w10, ?_⟩
    intro t h i hi
    rcases hkd t 8 h with h1 | ⟨h1, hn⟩
    · have e1 : t = 803 := by
        simp [nwL] at h1
        omega
      subst e1
      have hi2 : i = 0 ∨ i = 1 := by omega
      rcases hi2 with rfl | rfl
      · exact ⟨rfl, rfl, rfl, rfl⟩
      · exact ⟨rfl, rfl, rfl, rfl⟩
    · obtain ⟨a1, a2⟩ := hLI.2.1 t h1
      have a3 : t ≠ 803 := fun e2 => by subst e2; exact absurd hn (by decide)
      obtain ⟨b1, b2, b3, b4⟩ := w11 t h1 i hi
      exact ⟨(gx_kd (nwI_f (by omega) (by omega) (by omega))).trans b1, (gx_kd (nwI_f (by omega) (by omega) (by omega))).trans b2, (gx_kd (nwI_f (by omega) (by omega) (by omega))).trans b3, (gx_kd (nwI_f (by omega) (by omega) (by omega))).trans b4⟩
  refine ⟨gx Γ 2 [(803, h0), (206, q7), (207, q22), (518, q16), (519, q31), (520, q18), (521, q33), (522, q20), (523, q35)] [(80300, q1), (80304, q2), (80305, q3), (80306, q4), (80307, q5), (80308, q6), (20603, q8), (20604, q9), (20605, q10), (20606, q11), (20607, q12), (20608, q13), (20609, q14), (20610, q15), (20703, q23), (20704, q24), (20705, q25), (20706, q26), (20707, q27), (20708, q28), (20709, q29), (20710, q30), (51801, q17), (51901, q32), (52001, q19), (52101, q34), (52201, q21), (52301, q36)], rfl, rfl, rfl, gx_ad k901, gx_ad (by decide), gx_ad (by decide), gx_aa k901, rfl, rfl, ⟨hE.1, hap, hE.2.2.1, hWF, hE.2.2.2.2⟩, hwo, ?_⟩
  refine ⟨fun i hi h => ?_, kt, fun o h => ?_, fun o h => ?_, ?_⟩
  · rw [ug_same] at h
    by_cases hik : i = 2
    · subst hik
      rfl
    · have h2 : gr (sr (g 901) 2 803) i = gr (g 901) i := by simp [gr, sr, hik]
      rw [h2] at h
      rw [gx_kd (nwI_f (by omega) (by omega) (by omega))]
      exact hLI.1 i hi h
  · rcases hkd o 9 h with h1 | ⟨h1, hn⟩
    · simp [nwL] at h1
    · exact hLI.2.2.1 o h1
  · rcases hkd o 0 h with h1 | ⟨h1, hn⟩
    · simp [nwL] at h1
    · exact hLI.2.2.2.1 o h1
  · rw [ug_ne (by decide)]
    have e1 : nT g 2 1 = g 1 := rfl
    rw [e1]
    exact hLI.2.2.2.2
