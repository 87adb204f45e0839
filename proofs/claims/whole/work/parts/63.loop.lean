set_option maxRecDepth 100000 in
set_option maxHeartbeats 8000000 in
theorem law_loop {p : Program} {l : Launch} {e : Env} {s : State} {m : MethodId} {below : List Frame} {meth : Method} {c : Code} {b L : Nat} {xs : Nat → Int32} {Inv : Gs → Prop} (hO : ObAll Inv) (hL : L ≤ 3072) (C0 : lw_At p s m meth c b L xs) :
    ∀ (n i j : Nat), i = 6 * j → i ≤ L → L < i + 6 * n + 6 → ∀ (Γ : Gm) (g : Gs) (H : Heap) (locs : List Loc) (ls : Array Slot), Ev Γ (fun q => s.heap.size ≤ q) s → Ek (dd Γ) (ac Γ) s → LI Γ g → Inv g → Wo Γ g H → va_S (fun q => s.heap.size ≤ q) s.heap H locs → lv_has ls 4 [(0, .ref b), (1, .ref (ad Γ 901)), (2, .ref (ad Γ 1001)), (3, .int (nI i))] → W p l e room_1 s m #[Value.ref b] below meth c H locs (98 + 37 * j) (30523 + 1245 * j) (lw_Z below #[Value.ref b] s) (F0 m 18 ls []) := by
  obtain ⟨hx, hb, hr, hml, hown, hts, hX, hbl, hlocks, hgv⟩ := id C0
  have hbA : ¬ (fun q => s.heap.size ≤ q) b := Nat.not_le.mpr hbl
  obtain ⟨o0, o1, o2, o3, o4, o5, o6, o7, o8, o9, o10, o11, o12, o13, o14, o15, o16, o17, o18, o19, o20, o21, o22, o23, o24, o25, o26, o27, o28, o29, o30, o31, o32, o33, o34, o35, o36⟩ := hO
  intro n
  induction n with
  | zero =>
    intro i j hij hi hn Γ g H locs ls hE hEk hLI hI hw hS hl
    refine lv_iload_n hx hb dL_law_18 rfl (lv_at hl 3 rfl) ?_
    refine lv_aload_n hx hb dL_law_19 rfl (lv_at hl 0 rfl) ?_
    refine va_slen hx hb hX hbl hbA hS dL_law_20 ?_
    refine lv_bipush (v := 6) hx hb dL_law_21 (by decide) ?_
    refine lv_isub hx hb dL_law_23 ?_
    refine lv_icmp_gt (tgt := 1815) hx hb dL_law_24 (by decide) (fun c1 => ?_) (fun c1 => ?_)
    · have c2 := (law_gt hi hL).mp c1
      refine lv_iconst (v := 1) hx hb dL_law_1815 (by decide) ?_
      refine va_forget (fun q hq => hS.2.2 q hq) ?_
      refine W.widen (k := 600000) (n := 7302250) (by omega) (by omega) ?_
      exact lw_ret hx hb hr hlocks dL_law_1816
    · exact absurd ((law_gt hi hL).mpr (by omega)) c1
  | succ n ih =>
    intro i j hij hi hn Γ g H locs ls hE hEk hLI hI hw hS hl
    refine lv_iload_n hx hb dL_law_18 rfl (lv_at hl 3 rfl) ?_
    refine lv_aload_n hx hb dL_law_19 rfl (lv_at hl 0 rfl) ?_
    refine va_slen hx hb hX hbl hbA hS dL_law_20 ?_
    refine lv_bipush (v := 6) hx hb dL_law_21 (by decide) ?_
    refine lv_isub hx hb dL_law_23 ?_
    refine lv_icmp_gt (tgt := 1815) hx hb dL_law_24 (by decide) (fun c1 => ?_) (fun c1 => ?_)
    · have c2 := (law_gt hi hL).mp c1
      refine lv_iconst (v := 1) hx hb dL_law_1815 (by decide) ?_
      refine va_forget (fun q hq => hS.2.2 q hq) ?_
      refine W.widen (k := 600000) (n := 7302250) (by omega) (by omega) ?_
      exact lw_ret hx hb hr hlocks dL_law_1816
    · have c2 : i + 6 ≤ L := by
        rcases Nat.lt_or_ge L (i + 6) with q | q
        · exact absurd ((law_gt hi hL).mpr q) c1
        · exact q
      have next : ∀ (Γ' : Gm) (g' : Gs) (H : Heap) (locs : List Loc), Ev Γ' (fun q => s.heap.size ≤ q) s → Ek (dd Γ') (ac Γ') s → LI Γ' g' → Inv g' → Wo Γ' g' H → va_S (fun q => s.heap.size ≤ q) s.heap H locs → ad Γ' 901 = ad Γ 901 → ad Γ' 1001 = ad Γ 1001 → W p l e room_1 s m #[Value.ref b] below meth c H locs (98 + 37 * j + 37) (30523 + 1245 * j + 1245) (lw_Z below #[Value.ref b] s) (F0 m 1809 ls []) := by
        intro Γ' g' H locs hE hEk hLI hI hw hS a1 a2
        refine lv_iinc (v := nI (i + 6)) (lv' := [(3, .int (nI (i + 6))), (0, .ref b), (1, .ref (ad Γ 901)), (2, .ref (ad Γ 1001))]) hx hb dL_law_1809 hl (k := 3) rfl (nI_add i 6) (by decide) rfl (fun ls hl => ?_)
        refine lv_goto (tgt := 18) hx hb dL_law_1812 (by decide) ?_
        rw [← a1, ← a2] at hl
        have := ih (i + 6) (j + 1) (by omega) (by omega) (by omega) Γ' g' H locs ls hE hEk hLI hI hw hS (lv_sub hl [1, 2, 3, 0] rfl)
        exact this
      have hcs : (98 + 37 * j) + 37 ≤ 600000 ∧ (30523 + 1245 * j) + 1245 ≤ 7302250 := by omega
      refine lv_aload_n hx hb dL_law_27 rfl (lv_at hl 0 rfl) ?_
      refine lv_iload_n hx hb dL_law_28 rfl (lv_at hl 3 rfl) ?_
      refine va_sld hx hb hX hbl hbA hS (vp_in_nI (n := i) (by omega) (by omega)) dL_law_29 ?_
      refine lv_bipush (v := 63) hx hb dL_law_30 (by decide) ?_
      refine lv_iand hx hb dL_law_32 ?_
      generalize xs (nI i).toNatClampNeg &&& 63 = x
      by_cases z0 : x = 0
      · rw [z0]
        refine lv_tableIn (off := 163) (tgt := 196) hx hb dL_law_33 (by decide) (by decide) (by rfl) (by decide) ?_
        exact lc_feed o0 hL C0 c2 hE hEk hLI hI hw hS hl hcs next
      by_cases z1 : x = 1
      · rw [z1]
        refine lv_tableIn (off := 226) (tgt := 259) hx hb dL_law_33 (by decide) (by decide) (by rfl) (by decide) ?_
        exact lc_end o1 hL C0 c2 hE hEk hLI hI hw hS hl hcs next
      by_cases z2 : x = 2
      · rw [z2]
        refine lv_tableIn (off := 249) (tgt := 282) hx hb dL_law_33 (by decide) (by decide) (by rfl) (by decide) ?_
        exact lc_text o2 hL C0 c2 hE hEk hLI hI hw hS hl hcs next
      by_cases z3 : x = 3
      · rw [z3]
        refine lv_tableIn (off := 282) (tgt := 315) hx hb dL_law_33 (by decide) (by decide) (by rfl) (by decide) ?_
        exact lc_fault o3 hL C0 c2 hE hEk hLI hI hw hS hl hcs next
      by_cases z4 : x = 4
      · rw [z4]
        refine lv_tableIn (off := 305) (tgt := 338) hx hb dL_law_33 (by decide) (by decide) (by rfl) (by decide) ?_
        exact lc_house o4 hL C0 c2 hE hEk hLI hI hw hS hl hcs next
      by_cases z5 : x = 5
      · rw [z5]
        refine lv_tableIn (off := 338) (tgt := 371) hx hb dL_law_33 (by decide) (by decide) (by rfl) (by decide) ?_
        exact lc_worth o5 hL C0 c2 hE hEk hLI hI hw hS hl hcs next
      by_cases z6 : x = 6
      · rw [z6]
        refine lv_tableIn (off := 381) (tgt := 414) hx hb dL_law_33 (by decide) (by decide) (by rfl) (by decide) ?_
        exact lc_deed o6 hL C0 c2 hE hEk hLI hI hw hS hl hcs next
      by_cases z7 : x = 7
      · rw [z7]
        refine lv_tableIn (off := 424) (tgt := 457) hx hb dL_law_33 (by decide) (by decide) (by rfl) (by decide) ?_
        exact lc_till o7 hL C0 c2 hE hEk hLI hI hw hS hl hcs next
      by_cases z8 : x = 8
      · rw [z8]
        refine lv_tableIn (off := 457) (tgt := 490) hx hb dL_law_33 (by decide) (by decide) (by rfl) (by decide) ?_
        exact lc_state o8 hL C0 c2 hE hEk hLI hI hw hS hl hcs next
      by_cases z9 : x = 9
      · rw [z9]
        refine lv_tableIn (off := 510) (tgt := 543) hx hb dL_law_33 (by decide) (by decide) (by rfl) (by decide) ?_
        exact lc_dinner o9 hL C0 c2 hE hEk hLI hI hw hS hl hcs next
      by_cases z10 : x = 10
      · rw [z10]
        refine lv_tableIn (off := 553) (tgt := 586) hx hb dL_law_33 (by decide) (by decide) (by rfl) (by decide) ?_
        exact lc_served o10 hL C0 c2 hE hEk hLI hI hw hS hl hcs next
      by_cases z11 : x = 11
      · rw [z11]
        refine lv_tableIn (off := 596) (tgt := 629) hx hb dL_law_33 (by decide) (by decide) (by rfl) (by decide) ?_
        exact lc_comes o11 hL C0 c2 hE hEk hLI hI hw hS hl hcs next
      by_cases z12 : x = 12
      · rw [z12]
        refine lv_tableIn (off := 629) (tgt := 662) hx hb dL_law_33 (by decide) (by decide) (by rfl) (by decide) ?_
        exact lc_keep o12 hL C0 c2 hE hEk hLI hI hw hS hl hcs next
      by_cases z13 : x = 13
      · rw [z13]
        refine lv_tableIn (off := 688) (tgt := 721) hx hb dL_law_33 (by decide) (by decide) (by rfl) (by decide) ?_
        exact lc_theft o13 hL C0 c2 hE hEk hLI hI hw hS hl hcs next
      by_cases z14 : x = 14
      · rw [z14]
        refine lv_tableIn (off := 747) (tgt := 780) hx hb dL_law_33 (by decide) (by decide) (by rfl) (by decide) ?_
        exact lc_evenings o14 hL C0 c2 hE hEk hLI hI hw hS hl hcs next
      by_cases z15 : x = 15
      · rw [z15]
        refine lv_tableIn (off := 780) (tgt := 813) hx hb dL_law_33 (by decide) (by decide) (by rfl) (by decide) ?_
        exact lc_hidden o15 hL C0 c2 hE hEk hLI hI hw hS hl hcs next
      by_cases z16 : x = 16
      · rw [z16]
        refine lv_tableIn (off := 850) (tgt := 883) hx hb dL_law_33 (by decide) (by decide) (by rfl) (by decide) ?_
        exact lc_heirs o16 hL C0 c2 hE hEk hLI hI hw hS hl hcs next
      by_cases z17 : x = 17
      · rw [z17]
        refine lv_tableIn (off := 899) (tgt := 932) hx hb dL_law_33 (by decide) (by decide) (by rfl) (by decide) ?_
        exact lc_fact o17 hL C0 c2 hE hEk hLI hI hw hS hl hcs next
      by_cases z18 : x = 18
      · rw [z18]
        refine lv_tableIn (off := 942) (tgt := 975) hx hb dL_law_33 (by decide) (by decide) (by rfl) (by decide) ?_
        exact lc_fits o18 hL C0 c2 hE hEk hLI hI hw hS hl hcs next
      by_cases z19 : x = 19
      · rw [z19]
        refine lv_tableIn (off := 985) (tgt := 1018) hx hb dL_law_33 (by decide) (by decide) (by rfl) (by decide) ?_
        exact lc_drawn o19 hL C0 c2 hE hEk hLI hI hw hS hl hcs next
      by_cases z20 : x = 20
      · rw [z20]
        refine lv_tableIn (off := 1038) (tgt := 1071) hx hb dL_law_33 (by decide) (by decide) (by rfl) (by decide) ?_
        exact lc_lasting o20 hL C0 c2 hE hEk hLI hI hw hS hl hcs next
      by_cases z21 : x = 21
      · rw [z21]
        refine lv_tableIn (off := 1107) (tgt := 1140) hx hb dL_law_33 (by decide) (by decide) (by rfl) (by decide) ?_
        exact lc_lit o21 hL C0 c2 hE hEk hLI hI hw hS hl hcs next
      by_cases z22 : x = 22
      · rw [z22]
        refine lv_tableIn (off := 1140) (tgt := 1173) hx hb dL_law_33 (by decide) (by decide) (by rfl) (by decide) ?_
        exact lc_dusky o22 hL C0 c2 hE hEk hLI hI hw hS hl hcs next
      by_cases z23 : x = 23
      · rw [z23]
        refine lv_tableIn (off := 1199) (tgt := 1232) hx hb dL_law_33 (by decide) (by decide) (by rfl) (by decide) ?_
        exact lc_fitter o23 hL C0 c2 hE hEk hLI hI hw hS hl hcs next
      by_cases z24 : x = 24
      · rw [z24]
        refine lv_tableIn (off := 1248) (tgt := 1281) hx hb dL_law_33 (by decide) (by decide) (by rfl) (by decide) ?_
        exact lc_unlike o24 hL C0 c2 hE hEk hLI hI hw hS hl hcs next
      by_cases z25 : x = 25
      · rw [z25]
        refine lv_tableIn (off := 1281) (tgt := 1314) hx hb dL_law_33 (by decide) (by decide) (by rfl) (by decide) ?_
        exact lc_spread o25 hL C0 c2 hE hEk hLI hI hw hS hl hcs next
      by_cases z26 : x = 26
      · rw [z26]
        refine lv_tableIn (off := 1314) (tgt := 1347) hx hb dL_law_33 (by decide) (by decide) (by rfl) (by decide) ?_
        exact lc_depth o26 hL C0 c2 hE hEk hLI hI hw hS hl hcs next
      by_cases z27 : x = 27
      · rw [z27]
        refine lv_tableIn (off := 1357) (tgt := 1390) hx hb dL_law_33 (by decide) (by decide) (by rfl) (by decide) ?_
        exact lc_spare o27 hL C0 c2 hE hEk hLI hI hw hS hl hcs next
      by_cases z28 : x = 28
      · rw [z28]
        refine lv_tableIn (off := 1380) (tgt := 1413) hx hb dL_law_33 (by decide) (by decide) (by rfl) (by decide) ?_
        exact lc_guarded o28 hL C0 c2 hE hEk hLI hI hw hS hl hcs next
      by_cases z29 : x = 29
      · rw [z29]
        refine lv_tableIn (off := 1449) (tgt := 1482) hx hb dL_law_33 (by decide) (by decide) (by rfl) (by decide) ?_
        exact lc_evening o29 hL C0 c2 hE hEk hLI hI hw hS hl hcs next
      by_cases z30 : x = 30
      · rw [z30]
        refine lv_tableIn (off := 1492) (tgt := 1525) hx hb dL_law_33 (by decide) (by decide) (by rfl) (by decide) ?_
        exact lc_leaks o30 hL C0 c2 hE hEk hLI hI hw hS hl hcs next
      by_cases z31 : x = 31
      · rw [z31]
        refine lv_tableIn (off := 1552) (tgt := 1585) hx hb dL_law_33 (by decide) (by decide) (by rfl) (by decide) ?_
        exact lc_cut o31 hL C0 c2 hE hEk hLI hI hw hS hl hcs next
      by_cases z32 : x = 32
      · rw [z32]
        refine lv_tableIn (off := 1611) (tgt := 1644) hx hb dL_law_33 (by decide) (by decide) (by rfl) (by decide) ?_
        exact lc_after o32 hL C0 c2 hE hEk hLI hI hw hS hl hcs next
      by_cases z33 : x = 33
      · rw [z33]
        refine lv_tableIn (off := 1654) (tgt := 1687) hx hb dL_law_33 (by decide) (by decide) (by rfl) (by decide) ?_
        exact lc_would o33 hL C0 c2 hE hEk hLI hI hw hS hl hcs next
      by_cases z34 : x = 34
      · rw [z34]
        refine lv_tableIn (off := 1707) (tgt := 1740) hx hb dL_law_33 (by decide) (by decide) (by rfl) (by decide) ?_
        exact lc_count o34 hL C0 c2 hE hEk hLI hI hw hS hl hcs next
      by_cases z35 : x = 35
      · rw [z35]
        refine lv_tableIn (off := 1730) (tgt := 1763) hx hb dL_law_33 (by decide) (by decide) (by rfl) (by decide) ?_
        exact lc_image o35 hL C0 c2 hE hEk hLI hI hw hS hl hcs next
      by_cases z36 : x = 36
      · rw [z36]
        refine lv_tableIn (off := 1753) (tgt := 1786) hx hb dL_law_33 (by decide) (by decide) (by rfl) (by decide) ?_
        exact lc_again o36 hL C0 c2 hE hEk hLI hI hw hS hl hcs next
      refine lv_tableOut (tgt := 1809) hx hb dL_law_33 (by have := And.intro (ts_ne (k := 0) (by decide) z0) (And.intro (ts_ne (k := 1) (by decide) z1) (And.intro (ts_ne (k := 2) (by decide) z2) (And.intro (ts_ne (k := 3) (by decide) z3) (And.intro (ts_ne (k := 4) (by decide) z4) (And.intro (ts_ne (k := 5) (by decide) z5) (And.intro (ts_ne (k := 6) (by decide) z6) (And.intro (ts_ne (k := 7) (by decide) z7) (And.intro (ts_ne (k := 8) (by decide) z8) (And.intro (ts_ne (k := 9) (by decide) z9) (And.intro (ts_ne (k := 10) (by decide) z10) (And.intro (ts_ne (k := 11) (by decide) z11) (And.intro (ts_ne (k := 12) (by decide) z12) (And.intro (ts_ne (k := 13) (by decide) z13) (And.intro (ts_ne (k := 14) (by decide) z14) (And.intro (ts_ne (k := 15) (by decide) z15) (And.intro (ts_ne (k := 16) (by decide) z16) (And.intro (ts_ne (k := 17) (by decide) z17) (And.intro (ts_ne (k := 18) (by decide) z18) (And.intro (ts_ne (k := 19) (by decide) z19) (And.intro (ts_ne (k := 20) (by decide) z20) (And.intro (ts_ne (k := 21) (by decide) z21) (And.intro (ts_ne (k := 22) (by decide) z22) (And.intro (ts_ne (k := 23) (by decide) z23) (And.intro (ts_ne (k := 24) (by decide) z24) (And.intro (ts_ne (k := 25) (by decide) z25) (And.intro (ts_ne (k := 26) (by decide) z26) (And.intro (ts_ne (k := 27) (by decide) z27) (And.intro (ts_ne (k := 28) (by decide) z28) (And.intro (ts_ne (k := 29) (by decide) z29) (And.intro (ts_ne (k := 30) (by decide) z30) (And.intro (ts_ne (k := 31) (by decide) z31) (And.intro (ts_ne (k := 32) (by decide) z32) (And.intro (ts_ne (k := 33) (by decide) z33) (And.intro (ts_ne (k := 34) (by decide) z34) (And.intro (ts_ne (k := 35) (by decide) z35) (And.intro (ts_ne (k := 36) (by decide) z36) (True.intro))))))))))))))))))))))))))))))))))))); omega) (by decide) ?_
      refine W.widen (k := 98 + 37 * j + 37) (n := 30523 + 1245 * j + 1245) (by omega) (by omega) ?_
      exact next Γ g H locs hE hEk hLI hI hw hS rfl rfl
