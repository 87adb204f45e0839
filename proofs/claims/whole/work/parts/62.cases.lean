set_option maxRecDepth 100000 in
set_option maxHeartbeats 8000000 in
theorem lc_fits {p : Program} {l : Launch} {e : Env} {s : State} {m : MethodId} {below : List Frame} {meth : Method} {c : Code} {b L : Nat} {xs : Nat → Int32} {Inv : Gs → Prop} (hOb : Ob_fits Inv) (hL : L ≤ 3072) (C0 : lw_At p s m meth c b L xs) {i : Nat} (hi : i + 6 ≤ L) {Γ : Gm} {g : Gs} {H : Heap} {locs : List Loc} {ls : Array Slot} {cells slots : Nat} {Q : State → Prop} (hE : Ev Γ (fun q => s.heap.size ≤ q) s) (hEk : Ek (dd Γ) (ac Γ) s) (hLI : LI Γ g) (hI : Inv g) (hw : Wo Γ g H) (hS : va_S (fun q => s.heap.size ≤ q) s.heap H locs) (hl : lv_has ls 4 [(0, .ref b), (1, .ref (ad Γ 901)), (2, .ref (ad Γ 1001)), (3, .int (nI i))]) (hcs : cells + 37 ≤ 600000 ∧ slots + 1245 ≤ 7302250)
    (kk : ∀ (Γ' : Gm) (g' : Gs) (H : Heap) (locs : List Loc), Ev Γ' (fun q => s.heap.size ≤ q) s → Ek (dd Γ') (ac Γ') s → LI Γ' g' → Inv g' → Wo Γ' g' H → va_S (fun q => s.heap.size ≤ q) s.heap H locs → ad Γ' 901 = ad Γ 901 → ad Γ' 1001 = ad Γ 1001 → W p l e room_1 s m #[Value.ref b] below meth c H locs (cells + 37) (slots + 1245) Q (F0 m 1809 ls [])) : W p l e room_1 s m #[Value.ref b] below meth c H locs cells slots Q (F0 m 975 ls []) := by
  obtain ⟨hx, hb, hr, hml, hown, hts, hX, hbl, hlocks, hgv⟩ := id C0
  have hown : s.vm.findClass RL = some m.cls := hown
  have htw : ∀ w ∈ WS, w.before #[Value.ref b] s = true := fun w h => hts w (List.mem_filter.mp h).1
  have hbA : ¬ (fun q => s.heap.size ≤ q) b := Nat.not_le.mpr hbl
  obtain ⟨g1, v, r, h1, h2, h3, h4, h5⟩ := hOb g (xs (i + 1)) (xs (i + 2)) (xs (i + 3)) hI
  refine lv_aload_n hx hb dL_law_975 rfl (lv_at hl 1 rfl) ?_
  refine lv_aload_n hx hb dL_law_976 rfl (lv_at hl 0 rfl) ?_
  refine lv_iload_n hx hb dL_law_977 rfl (lv_at hl 3 rfl) ?_
  refine lv_iconst (v := 1) hx hb dL_law_978 (by decide) ?_
  refine lv_iadd hx hb dL_law_979 ?_
  refine va_sld hx hb hX hbl hbA hS (sl_in (k := 1) rfl (by omega) hL) dL_law_980 ?_
  refine tp1i (y := xs (i + 1)) (congrArg xs (sl_ix (i := i) (k := 1) (kv := 1) rfl (by omega) hL)) ?_
  refine lv_aload_n hx hb dL_law_981 rfl (lv_at hl 0 rfl) ?_
  refine lv_iload_n hx hb dL_law_982 rfl (lv_at hl 3 rfl) ?_
  refine lv_iconst (v := 2) hx hb dL_law_983 (by decide) ?_
  refine lv_iadd hx hb dL_law_984 ?_
  refine va_sld hx hb hX hbl hbA hS (sl_in (k := 2) rfl (by omega) hL) dL_law_985 ?_
  refine tp1i (y := xs (i + 2)) (congrArg xs (sl_ix (i := i) (k := 2) (kv := 2) rfl (by omega) hL)) ?_
  refine lv_aload_n hx hb dL_law_986 rfl (lv_at hl 0 rfl) ?_
  refine lv_iload_n hx hb dL_law_987 rfl (lv_at hl 3 rfl) ?_
  refine lv_iconst (v := 3) hx hb dL_law_988 (by decide) ?_
  refine lv_iadd hx hb dL_law_989 ?_
  refine va_sld hx hb hX hbl hbA hS (sl_in (k := 3) rfl (by omega) hL) dL_law_990 ?_
  refine tp1i (y := xs (i + 3)) (congrArg xs (sl_ix (i := i) (k := 3) (kv := 3) rfl (by omega) hL)) ?_
  refine cl_VL (rest := []) (kX9_fits (l := l) (Γ := Γ) (A := fun q => s.heap.size ≤ q) h1) ⟨hx, hb, hml, hown, htw⟩ hE hw hS (hw _ _ (wf_901 hE)) (q0 := 0) rfl rfl (htw _ mw1001) mw1002 mw1003 mw118 mw1004 pdX9_fits ⟨Nat.le_of_ble_eq_true rfl, Nat.le_of_ble_eq_true rfl⟩ rfl rfl hl.1 (Nat.le_of_ble_eq_true rfl) dL_law_991 ⟨by show _ ≤ 600000; omega, by show _ ≤ 7302250; omega⟩ (fun H locs hw hS => ?_)
  refine W.eq (g2 := F0 m 994 ls [.int v]) rfl ?_
  refine lv_aload_n hx hb dL_law_994 rfl (lv_at hl 2 rfl) ?_
  refine lv_aload_n hx hb dL_law_995 rfl (lv_at hl 0 rfl) ?_
  refine lv_iload_n hx hb dL_law_996 rfl (lv_at hl 3 rfl) ?_
  refine lv_iconst (v := 1) hx hb dL_law_997 (by decide) ?_
  refine lv_iadd hx hb dL_law_998 ?_
  refine va_sld hx hb hX hbl hbA hS (sl_in (k := 1) rfl (by omega) hL) dL_law_999 ?_
  refine tp1i (y := xs (i + 1)) (congrArg xs (sl_ix (i := i) (k := 1) (kv := 1) rfl (by omega) hL)) ?_
  refine lv_aload_n hx hb dL_law_1000 rfl (lv_at hl 0 rfl) ?_
  refine lv_iload_n hx hb dL_law_1001 rfl (lv_at hl 3 rfl) ?_
  refine lv_iconst (v := 2) hx hb dL_law_1002 (by decide) ?_
  refine lv_iadd hx hb dL_law_1003 ?_
  refine va_sld hx hb hX hbl hbA hS (sl_in (k := 2) rfl (by omega) hL) dL_law_1004 ?_
  refine tp1i (y := xs (i + 2)) (congrArg xs (sl_ix (i := i) (k := 2) (kv := 2) rfl (by omega) hL)) ?_
  refine lv_aload_n hx hb dL_law_1005 rfl (lv_at hl 0 rfl) ?_
  refine lv_iload_n hx hb dL_law_1006 rfl (lv_at hl 3 rfl) ?_
  refine lv_iconst (v := 3) hx hb dL_law_1007 (by decide) ?_
  refine lv_iadd hx hb dL_law_1008 ?_
  refine va_sld hx hb hX hbl hbA hS (sl_in (k := 3) rfl (by omega) hL) dL_law_1009 ?_
  refine tp1i (y := xs (i + 3)) (congrArg xs (sl_ix (i := i) (k := 3) (kv := 3) rfl (by omega) hL)) ?_
  refine cl_VL (rest := [.int v]) (kgX10_fits (l := l) (Γ := Γ) (A := fun q => s.heap.size ≤ q) (G := g1) (o := 1001) (wf_1001 hE) h2) ⟨hx, hb, hml, hown, htw⟩ hE hw hS (hw _ _ (wf_1001 hE)) (q0 := 0) rfl rfl (htw _ mw1774) mw1775 mw1776 mw129 mw1777 pdX10_fits ⟨Nat.le_of_ble_eq_true rfl, Nat.le_of_ble_eq_true rfl⟩ rfl rfl hl.1 (Nat.le_of_ble_eq_true rfl) dL_law_1010 ⟨by show _ ≤ 600000; omega, by show _ ≤ 7302250; omega⟩ (fun H locs hw hS => ?_)
  refine W.eq (g2 := F0 m 1013 ls [.int v, .int v]) rfl ?_
  refine lv_icmp_eq (tgt := 1809) hx hb dL_law_1013 (by decide) (fun _ => ?_) (fun c1 => absurd rfl c1)
  refine W.widen (k := cells + 37) (n := slots + 1245) (by omega) (by omega) ?_
  exact kk Γ _ H locs hE hEk (LI.move hLI (by rw [ug_ne (by decide)]; exact h3) (by rw [ug_ne (by decide)]; exact h4)) h5 hw hS rfl rfl
set_option maxRecDepth 100000 in
set_option maxHeartbeats 8000000 in
theorem lc_drawn {p : Program} {l : Launch} {e : Env} {s : State} {m : MethodId} {below : List Frame} {meth : Method} {c : Code} {b L : Nat} {xs : Nat → Int32} {Inv : Gs → Prop} (hOb : Ob_drawn Inv) (hL : L ≤ 3072) (C0 : lw_At p s m meth c b L xs) {i : Nat} (hi : i + 6 ≤ L) {Γ : Gm} {g : Gs} {H : Heap} {locs : List Loc} {ls : Array Slot} {cells slots : Nat} {Q : State → Prop} (hE : Ev Γ (fun q => s.heap.size ≤ q) s) (hEk : Ek (dd Γ) (ac Γ) s) (hLI : LI Γ g) (hI : Inv g) (hw : Wo Γ g H) (hS : va_S (fun q => s.heap.size ≤ q) s.heap H locs) (hl : lv_has ls 4 [(0, .ref b), (1, .ref (ad Γ 901)), (2, .ref (ad Γ 1001)), (3, .int (nI i))]) (hcs : cells + 37 ≤ 600000 ∧ slots + 1245 ≤ 7302250)
    (kk : ∀ (Γ' : Gm) (g' : Gs) (H : Heap) (locs : List Loc), Ev Γ' (fun q => s.heap.size ≤ q) s → Ek (dd Γ') (ac Γ') s → LI Γ' g' → Inv g' → Wo Γ' g' H → va_S (fun q => s.heap.size ≤ q) s.heap H locs → ad Γ' 901 = ad Γ 901 → ad Γ' 1001 = ad Γ 1001 → W p l e room_1 s m #[Value.ref b] below meth c H locs (cells + 37) (slots + 1245) Q (F0 m 1809 ls [])) : W p l e room_1 s m #[Value.ref b] below meth c H locs cells slots Q (F0 m 1018 ls []) := by
  obtain ⟨hx, hb, hr, hml, hown, hts, hX, hbl, hlocks, hgv⟩ := id C0
  have hown : s.vm.findClass RL = some m.cls := hown
  have htw : ∀ w ∈ WS, w.before #[Value.ref b] s = true := fun w h => hts w (List.mem_filter.mp h).1
  have hbA : ¬ (fun q => s.heap.size ≤ q) b := Nat.not_le.mpr hbl
  obtain ⟨g1, v, r, h1, h2, h3, h4, h5⟩ := hOb g (xs (i + 1)) (xs (i + 2)) (xs (i + 3)) (xs (i + 4)) hI
  refine lv_aload_n hx hb dL_law_1018 rfl (lv_at hl 1 rfl) ?_
  refine lv_aload_n hx hb dL_law_1019 rfl (lv_at hl 0 rfl) ?_
  refine lv_iload_n hx hb dL_law_1020 rfl (lv_at hl 3 rfl) ?_
  refine lv_iconst (v := 1) hx hb dL_law_1021 (by decide) ?_
  refine lv_iadd hx hb dL_law_1022 ?_
  refine va_sld hx hb hX hbl hbA hS (sl_in (k := 1) rfl (by omega) hL) dL_law_1023 ?_
  refine tp1i (y := xs (i + 1)) (congrArg xs (sl_ix (i := i) (k := 1) (kv := 1) rfl (by omega) hL)) ?_
  refine lv_aload_n hx hb dL_law_1024 rfl (lv_at hl 0 rfl) ?_
  refine lv_iload_n hx hb dL_law_1025 rfl (lv_at hl 3 rfl) ?_
  refine lv_iconst (v := 2) hx hb dL_law_1026 (by decide) ?_
  refine lv_iadd hx hb dL_law_1027 ?_
  refine va_sld hx hb hX hbl hbA hS (sl_in (k := 2) rfl (by omega) hL) dL_law_1028 ?_
  refine tp1i (y := xs (i + 2)) (congrArg xs (sl_ix (i := i) (k := 2) (kv := 2) rfl (by omega) hL)) ?_
  refine lv_aload_n hx hb dL_law_1029 rfl (lv_at hl 0 rfl) ?_
  refine lv_iload_n hx hb dL_law_1030 rfl (lv_at hl 3 rfl) ?_
  refine lv_iconst (v := 3) hx hb dL_law_1031 (by decide) ?_
  refine lv_iadd hx hb dL_law_1032 ?_
  refine va_sld hx hb hX hbl hbA hS (sl_in (k := 3) rfl (by omega) hL) dL_law_1033 ?_
  refine tp1i (y := xs (i + 3)) (congrArg xs (sl_ix (i := i) (k := 3) (kv := 3) rfl (by omega) hL)) ?_
  refine lv_aload_n hx hb dL_law_1034 rfl (lv_at hl 0 rfl) ?_
  refine lv_iload_n hx hb dL_law_1035 rfl (lv_at hl 3 rfl) ?_
  refine lv_iconst (v := 4) hx hb dL_law_1036 (by decide) ?_
  refine lv_iadd hx hb dL_law_1037 ?_
  refine va_sld hx hb hX hbl hbA hS (sl_in (k := 4) rfl (by omega) hL) dL_law_1038 ?_
  refine tp1i (y := xs (i + 4)) (congrArg xs (sl_ix (i := i) (k := 4) (kv := 4) rfl (by omega) hL)) ?_
  refine cl_VL (rest := []) (kX9_drawn (l := l) (Γ := Γ) (A := fun q => s.heap.size ≤ q) h1) ⟨hx, hb, hml, hown, htw⟩ hE hw hS (hw _ _ (wf_901 hE)) (q0 := 0) rfl rfl (htw _ mw1055) mw1056 mw1057 mw118 mw1058 pdX9_drawn ⟨Nat.le_of_ble_eq_true rfl, Nat.le_of_ble_eq_true rfl⟩ rfl rfl hl.1 (Nat.le_of_ble_eq_true rfl) dL_law_1039 ⟨by show _ ≤ 600000; omega, by show _ ≤ 7302250; omega⟩ (fun H locs hw hS => ?_)
  refine W.eq (g2 := F0 m 1042 ls [.int v]) rfl ?_
  refine lv_aload_n hx hb dL_law_1042 rfl (lv_at hl 2 rfl) ?_
  refine lv_aload_n hx hb dL_law_1043 rfl (lv_at hl 0 rfl) ?_
  refine lv_iload_n hx hb dL_law_1044 rfl (lv_at hl 3 rfl) ?_
  refine lv_iconst (v := 1) hx hb dL_law_1045 (by decide) ?_
  refine lv_iadd hx hb dL_law_1046 ?_
  refine va_sld hx hb hX hbl hbA hS (sl_in (k := 1) rfl (by omega) hL) dL_law_1047 ?_
  refine tp1i (y := xs (i + 1)) (congrArg xs (sl_ix (i := i) (k := 1) (kv := 1) rfl (by omega) hL)) ?_
  refine lv_aload_n hx hb dL_law_1048 rfl (lv_at hl 0 rfl) ?_
  refine lv_iload_n hx hb dL_law_1049 rfl (lv_at hl 3 rfl) ?_
  refine lv_iconst (v := 2) hx hb dL_law_1050 (by decide) ?_
  refine lv_iadd hx hb dL_law_1051 ?_
  refine va_sld hx hb hX hbl hbA hS (sl_in (k := 2) rfl (by omega) hL) dL_law_1052 ?_
  refine tp1i (y := xs (i + 2)) (congrArg xs (sl_ix (i := i) (k := 2) (kv := 2) rfl (by omega) hL)) ?_
  refine lv_aload_n hx hb dL_law_1053 rfl (lv_at hl 0 rfl) ?_
  refine lv_iload_n hx hb dL_law_1054 rfl (lv_at hl 3 rfl) ?_
  refine lv_iconst (v := 3) hx hb dL_law_1055 (by decide) ?_
  refine lv_iadd hx hb dL_law_1056 ?_
  refine va_sld hx hb hX hbl hbA hS (sl_in (k := 3) rfl (by omega) hL) dL_law_1057 ?_
  refine tp1i (y := xs (i + 3)) (congrArg xs (sl_ix (i := i) (k := 3) (kv := 3) rfl (by omega) hL)) ?_
  refine lv_aload_n hx hb dL_law_1058 rfl (lv_at hl 0 rfl) ?_
  refine lv_iload_n hx hb dL_law_1059 rfl (lv_at hl 3 rfl) ?_
  refine lv_iconst (v := 4) hx hb dL_law_1060 (by decide) ?_
  refine lv_iadd hx hb dL_law_1061 ?_
  refine va_sld hx hb hX hbl hbA hS (sl_in (k := 4) rfl (by omega) hL) dL_law_1062 ?_
  refine tp1i (y := xs (i + 4)) (congrArg xs (sl_ix (i := i) (k := 4) (kv := 4) rfl (by omega) hL)) ?_
  refine cl_VL (rest := [.int v]) (kgX10_drawn (l := l) (Γ := Γ) (A := fun q => s.heap.size ≤ q) (G := g1) (o := 1001) (wf_1001 hE) h2) ⟨hx, hb, hml, hown, htw⟩ hE hw hS (hw _ _ (wf_1001 hE)) (q0 := 0) rfl rfl (htw _ mw1802) mw1803 mw1804 mw129 mw1805 pdX10_drawn ⟨Nat.le_of_ble_eq_true rfl, Nat.le_of_ble_eq_true rfl⟩ rfl rfl hl.1 (Nat.le_of_ble_eq_true rfl) dL_law_1063 ⟨by show _ ≤ 600000; omega, by show _ ≤ 7302250; omega⟩ (fun H locs hw hS => ?_)
  refine W.eq (g2 := F0 m 1066 ls [.int v, .int v]) rfl ?_
  refine lv_icmp_eq (tgt := 1809) hx hb dL_law_1066 (by decide) (fun _ => ?_) (fun c1 => absurd rfl c1)
  refine W.widen (k := cells + 37) (n := slots + 1245) (by omega) (by omega) ?_
  exact kk Γ _ H locs hE hEk (LI.move hLI (by rw [ug_ne (by decide)]; exact h3) (by rw [ug_ne (by decide)]; exact h4)) h5 hw hS rfl rfl
set_option maxRecDepth 100000 in
set_option maxHeartbeats 8000000 in
theorem lc_lasting {p : Program} {l : Launch} {e : Env} {s : State} {m : MethodId} {below : List Frame} {meth : Method} {c : Code} {b L : Nat} {xs : Nat → Int32} {Inv : Gs → Prop} (hOb : Ob_lasting Inv) (hL : L ≤ 3072) (C0 : lw_At p s m meth c b L xs) {i : Nat} (hi : i + 6 ≤ L) {Γ : Gm} {g : Gs} {H : Heap} {locs : List Loc} {ls : Array Slot} {cells slots : Nat} {Q : State → Prop} (hE : Ev Γ (fun q => s.heap.size ≤ q) s) (hEk : Ek (dd Γ) (ac Γ) s) (hLI : LI Γ g) (hI : Inv g) (hw : Wo Γ g H) (hS : va_S (fun q => s.heap.size ≤ q) s.heap H locs) (hl : lv_has ls 4 [(0, .ref b), (1, .ref (ad Γ 901)), (2, .ref (ad Γ 1001)), (3, .int (nI i))]) (hcs : cells + 37 ≤ 600000 ∧ slots + 1245 ≤ 7302250)
    (kk : ∀ (Γ' : Gm) (g' : Gs) (H : Heap) (locs : List Loc), Ev Γ' (fun q => s.heap.size ≤ q) s → Ek (dd Γ') (ac Γ') s → LI Γ' g' → Inv g' → Wo Γ' g' H → va_S (fun q => s.heap.size ≤ q) s.heap H locs → ad Γ' 901 = ad Γ 901 → ad Γ' 1001 = ad Γ 1001 → W p l e room_1 s m #[Value.ref b] below meth c H locs (cells + 37) (slots + 1245) Q (F0 m 1809 ls [])) : W p l e room_1 s m #[Value.ref b] below meth c H locs cells slots Q (F0 m 1071 ls []) := by
  obtain ⟨hx, hb, hr, hml, hown, hts, hX, hbl, hlocks, hgv⟩ := id C0
  have hown : s.vm.findClass RL = some m.cls := hown
  have htw : ∀ w ∈ WS, w.before #[Value.ref b] s = true := fun w h => hts w (List.mem_filter.mp h).1
  have hbA : ¬ (fun q => s.heap.size ≤ q) b := Nat.not_le.mpr hbl
  obtain ⟨v, r, h1, h2, h5⟩ := hOb g (xs (i + 1)) (xs (i + 2)) (xs (i + 3)) (bz (xs (i + 4))) hI (bz_or _)
  refine lv_aload_n hx hb dL_law_1071 rfl (lv_at hl 1 rfl) ?_
  refine lv_aload_n hx hb dL_law_1072 rfl (lv_at hl 0 rfl) ?_
  refine lv_iload_n hx hb dL_law_1073 rfl (lv_at hl 3 rfl) ?_
  refine lv_iconst (v := 1) hx hb dL_law_1074 (by decide) ?_
  refine lv_iadd hx hb dL_law_1075 ?_
  refine va_sld hx hb hX hbl hbA hS (sl_in (k := 1) rfl (by omega) hL) dL_law_1076 ?_
  refine tp1i (y := xs (i + 1)) (congrArg xs (sl_ix (i := i) (k := 1) (kv := 1) rfl (by omega) hL)) ?_
  refine lv_aload_n hx hb dL_law_1077 rfl (lv_at hl 0 rfl) ?_
  refine lv_iload_n hx hb dL_law_1078 rfl (lv_at hl 3 rfl) ?_
  refine lv_iconst (v := 2) hx hb dL_law_1079 (by decide) ?_
  refine lv_iadd hx hb dL_law_1080 ?_
  refine va_sld hx hb hX hbl hbA hS (sl_in (k := 2) rfl (by omega) hL) dL_law_1081 ?_
  refine tp1i (y := xs (i + 2)) (congrArg xs (sl_ix (i := i) (k := 2) (kv := 2) rfl (by omega) hL)) ?_
  refine lv_aload_n hx hb dL_law_1082 rfl (lv_at hl 0 rfl) ?_
  refine lv_iload_n hx hb dL_law_1083 rfl (lv_at hl 3 rfl) ?_
  refine lv_iconst (v := 3) hx hb dL_law_1084 (by decide) ?_
  refine lv_iadd hx hb dL_law_1085 ?_
  refine va_sld hx hb hX hbl hbA hS (sl_in (k := 3) rfl (by omega) hL) dL_law_1086 ?_
  refine tp1i (y := xs (i + 3)) (congrArg xs (sl_ix (i := i) (k := 3) (kv := 3) rfl (by omega) hL)) ?_
  refine lv_aload_n hx hb dL_law_1087 rfl (lv_at hl 0 rfl) ?_
  refine lv_iload_n hx hb dL_law_1088 rfl (lv_at hl 3 rfl) ?_
  refine lv_iconst (v := 4) hx hb dL_law_1089 (by decide) ?_
  refine lv_iadd hx hb dL_law_1090 ?_
  refine va_sld hx hb hX hbl hbA hS (sl_in (k := 4) rfl (by omega) hL) dL_law_1091 ?_
  refine tp1i (y := xs (i + 4)) (congrArg xs (sl_ix (i := i) (k := 4) (kv := 4) rfl (by omega) hL)) ?_
  suffices key : W p l e room_1 s m #[Value.ref b] below meth c H locs cells slots Q (F0 m 1100 ls [.int (bz (xs (i + 4))), .int (xs (i + 3)), .int (xs (i + 2)), .int (xs (i + 1)), .ref (ad Γ 901)]) by
    refine lv_if_eq (tgt := 1099) hx hb dL_law_1092 (by decide) (fun c1 => ?_) (fun c1 => ?_)
    · refine lv_iconst (v := 0) hx hb dL_law_1099 (by decide) ?_
      exact tp1i (if_pos c1).symm key
    · refine lv_iconst (v := 1) hx hb dL_law_1095 (by decide) ?_
      refine lv_goto (tgt := 1100) hx hb dL_law_1096 (by decide) ?_
      exact tp1i (if_neg c1).symm key
  refine cl_VL (rest := []) (kX9_lasting (l := l) (Γ := Γ) (A := fun q => s.heap.size ≤ q) h1) ⟨hx, hb, hml, hown, htw⟩ hE hw hS (hw _ _ (wf_901 hE)) (q0 := 0) rfl rfl (htw _ mw1076) mw1077 mw1078 mw118 mw1079 pdX9_lasting ⟨Nat.le_of_ble_eq_true rfl, Nat.le_of_ble_eq_true rfl⟩ rfl rfl hl.1 (Nat.le_of_ble_eq_true rfl) dL_law_1100 ⟨by show _ ≤ 600000; omega, by show _ ≤ 7302250; omega⟩ (fun H locs hw hS => ?_)
  refine W.eq (g2 := F0 m 1103 ls [.int v]) rfl ?_
  refine lv_aload_n hx hb dL_law_1103 rfl (lv_at hl 2 rfl) ?_
  refine lv_aload_n hx hb dL_law_1104 rfl (lv_at hl 0 rfl) ?_
  refine lv_iload_n hx hb dL_law_1105 rfl (lv_at hl 3 rfl) ?_
  refine lv_iconst (v := 1) hx hb dL_law_1106 (by decide) ?_
  refine lv_iadd hx hb dL_law_1107 ?_
  refine va_sld hx hb hX hbl hbA hS (sl_in (k := 1) rfl (by omega) hL) dL_law_1108 ?_
  refine tp1i (y := xs (i + 1)) (congrArg xs (sl_ix (i := i) (k := 1) (kv := 1) rfl (by omega) hL)) ?_
  refine lv_aload_n hx hb dL_law_1109 rfl (lv_at hl 0 rfl) ?_
  refine lv_iload_n hx hb dL_law_1110 rfl (lv_at hl 3 rfl) ?_
  refine lv_iconst (v := 2) hx hb dL_law_1111 (by decide) ?_
  refine lv_iadd hx hb dL_law_1112 ?_
  refine va_sld hx hb hX hbl hbA hS (sl_in (k := 2) rfl (by omega) hL) dL_law_1113 ?_
  refine tp1i (y := xs (i + 2)) (congrArg xs (sl_ix (i := i) (k := 2) (kv := 2) rfl (by omega) hL)) ?_
  refine lv_aload_n hx hb dL_law_1114 rfl (lv_at hl 0 rfl) ?_
  refine lv_iload_n hx hb dL_law_1115 rfl (lv_at hl 3 rfl) ?_
  refine lv_iconst (v := 3) hx hb dL_law_1116 (by decide) ?_
  refine lv_iadd hx hb dL_law_1117 ?_
  refine va_sld hx hb hX hbl hbA hS (sl_in (k := 3) rfl (by omega) hL) dL_law_1118 ?_
  refine tp1i (y := xs (i + 3)) (congrArg xs (sl_ix (i := i) (k := 3) (kv := 3) rfl (by omega) hL)) ?_
  refine lv_aload_n hx hb dL_law_1119 rfl (lv_at hl 0 rfl) ?_
  refine lv_iload_n hx hb dL_law_1120 rfl (lv_at hl 3 rfl) ?_
  refine lv_iconst (v := 4) hx hb dL_law_1121 (by decide) ?_
  refine lv_iadd hx hb dL_law_1122 ?_
  refine va_sld hx hb hX hbl hbA hS (sl_in (k := 4) rfl (by omega) hL) dL_law_1123 ?_
  refine tp1i (y := xs (i + 4)) (congrArg xs (sl_ix (i := i) (k := 4) (kv := 4) rfl (by omega) hL)) ?_
  suffices key : W p l e room_1 s m #[Value.ref b] below meth c H locs cells slots Q (F0 m 1132 ls [.int (bz (xs (i + 4))), .int (xs (i + 3)), .int (xs (i + 2)), .int (xs (i + 1)), .ref (ad Γ 1001), .int v]) by
    refine lv_if_eq (tgt := 1131) hx hb dL_law_1124 (by decide) (fun c1 => ?_) (fun c1 => ?_)
    · refine lv_iconst (v := 0) hx hb dL_law_1131 (by decide) ?_
      exact tp1i (if_pos c1).symm key
    · refine lv_iconst (v := 1) hx hb dL_law_1127 (by decide) ?_
      refine lv_goto (tgt := 1132) hx hb dL_law_1128 (by decide) ?_
      exact tp1i (if_neg c1).symm key
  refine cl_VL (rest := [.int v]) (kgX10_lasting (l := l) (Γ := Γ) (A := fun q => s.heap.size ≤ q) (G := g) (o := 1001) (wf_1001 hE) h2) ⟨hx, hb, hml, hown, htw⟩ hE hw hS (hw _ _ (wf_1001 hE)) (q0 := 0) rfl rfl (htw _ mw1815) mw1816 mw1817 mw129 mw1818 pdX10_lasting ⟨Nat.le_of_ble_eq_true rfl, Nat.le_of_ble_eq_true rfl⟩ rfl rfl hl.1 (Nat.le_of_ble_eq_true rfl) dL_law_1132 ⟨by show _ ≤ 600000; omega, by show _ ≤ 7302250; omega⟩ (fun H locs hw hS => ?_)
  refine W.eq (g2 := F0 m 1135 ls [.int v, .int v]) rfl ?_
  refine lv_icmp_eq (tgt := 1809) hx hb dL_law_1135 (by decide) (fun _ => ?_) (fun c1 => absurd rfl c1)
  refine W.widen (k := cells + 37) (n := slots + 1245) (by omega) (by omega) ?_
  exact kk Γ _ H locs hE hEk (LI.move hLI (by rw [ug_ne (by decide)]) (by rw [ug_ne (by decide)]; exact hLI.2.2.2.2)) h5 hw hS rfl rfl
set_option maxRecDepth 100000 in
set_option maxHeartbeats 8000000 in
theorem lc_lit {p : Program} {l : Launch} {e : Env} {s : State} {m : MethodId} {below : List Frame} {meth : Method} {c : Code} {b L : Nat} {xs : Nat → Int32} {Inv : Gs → Prop} (hOb : Ob_lit Inv) (hL : L ≤ 3072) (C0 : lw_At p s m meth c b L xs) {i : Nat} (hi : i + 6 ≤ L) {Γ : Gm} {g : Gs} {H : Heap} {locs : List Loc} {ls : Array Slot} {cells slots : Nat} {Q : State → Prop} (hE : Ev Γ (fun q => s.heap.size ≤ q) s) (hEk : Ek (dd Γ) (ac Γ) s) (hLI : LI Γ g) (hI : Inv g) (hw : Wo Γ g H) (hS : va_S (fun q => s.heap.size ≤ q) s.heap H locs) (hl : lv_has ls 4 [(0, .ref b), (1, .ref (ad Γ 901)), (2, .ref (ad Γ 1001)), (3, .int (nI i))]) (hcs : cells + 37 ≤ 600000 ∧ slots + 1245 ≤ 7302250)
    (kk : ∀ (Γ' : Gm) (g' : Gs) (H : Heap) (locs : List Loc), Ev Γ' (fun q => s.heap.size ≤ q) s → Ek (dd Γ') (ac Γ') s → LI Γ' g' → Inv g' → Wo Γ' g' H → va_S (fun q => s.heap.size ≤ q) s.heap H locs → ad Γ' 901 = ad Γ 901 → ad Γ' 1001 = ad Γ 1001 → W p l e room_1 s m #[Value.ref b] below meth c H locs (cells + 37) (slots + 1245) Q (F0 m 1809 ls [])) : W p l e room_1 s m #[Value.ref b] below meth c H locs cells slots Q (F0 m 1140 ls []) := by
  obtain ⟨hx, hb, hr, hml, hown, hts, hX, hbl, hlocks, hgv⟩ := id C0
  have hown : s.vm.findClass RL = some m.cls := hown
  have htw : ∀ w ∈ WS, w.before #[Value.ref b] s = true := fun w h => hts w (List.mem_filter.mp h).1
  have hbA : ¬ (fun q => s.heap.size ≤ q) b := Nat.not_le.mpr hbl
  obtain ⟨v, r, h1, h2, h5⟩ := hOb g (xs (i + 1)) (xs (i + 2)) hI
  refine lv_aload_n hx hb dL_law_1140 rfl (lv_at hl 1 rfl) ?_
  refine lv_aload_n hx hb dL_law_1141 rfl (lv_at hl 0 rfl) ?_
  refine lv_iload_n hx hb dL_law_1142 rfl (lv_at hl 3 rfl) ?_
  refine lv_iconst (v := 1) hx hb dL_law_1143 (by decide) ?_
  refine lv_iadd hx hb dL_law_1144 ?_
  refine va_sld hx hb hX hbl hbA hS (sl_in (k := 1) rfl (by omega) hL) dL_law_1145 ?_
  refine tp1i (y := xs (i + 1)) (congrArg xs (sl_ix (i := i) (k := 1) (kv := 1) rfl (by omega) hL)) ?_
  refine lv_aload_n hx hb dL_law_1146 rfl (lv_at hl 0 rfl) ?_
  refine lv_iload_n hx hb dL_law_1147 rfl (lv_at hl 3 rfl) ?_
  refine lv_iconst (v := 2) hx hb dL_law_1148 (by decide) ?_
  refine lv_iadd hx hb dL_law_1149 ?_
  refine va_sld hx hb hX hbl hbA hS (sl_in (k := 2) rfl (by omega) hL) dL_law_1150 ?_
  refine tp1i (y := xs (i + 2)) (congrArg xs (sl_ix (i := i) (k := 2) (kv := 2) rfl (by omega) hL)) ?_
  refine cl_VL (rest := []) (kX9_lit (l := l) (Γ := Γ) (A := fun q => s.heap.size ≤ q) h1) ⟨hx, hb, hml, hown, htw⟩ hE hw hS (hw _ _ (wf_901 hE)) (q0 := 0) rfl rfl (htw _ mw1091) mw1092 mw1093 mw118 mw1094 pdX9_lit ⟨Nat.le_of_ble_eq_true rfl, Nat.le_of_ble_eq_true rfl⟩ rfl rfl hl.1 (Nat.le_of_ble_eq_true rfl) dL_law_1151 ⟨by show _ ≤ 600000; omega, by show _ ≤ 7302250; omega⟩ (fun H locs hw hS => ?_)
  refine W.eq (g2 := F0 m 1154 ls [.int v]) rfl ?_
  refine lv_aload_n hx hb dL_law_1154 rfl (lv_at hl 2 rfl) ?_
  refine lv_aload_n hx hb dL_law_1155 rfl (lv_at hl 0 rfl) ?_
  refine lv_iload_n hx hb dL_law_1156 rfl (lv_at hl 3 rfl) ?_
  refine lv_iconst (v := 1) hx hb dL_law_1157 (by decide) ?_
  refine lv_iadd hx hb dL_law_1158 ?_
  refine va_sld hx hb hX hbl hbA hS (sl_in (k := 1) rfl (by omega) hL) dL_law_1159 ?_
  refine tp1i (y := xs (i + 1)) (congrArg xs (sl_ix (i := i) (k := 1) (kv := 1) rfl (by omega) hL)) ?_
  refine lv_aload_n hx hb dL_law_1160 rfl (lv_at hl 0 rfl) ?_
  refine lv_iload_n hx hb dL_law_1161 rfl (lv_at hl 3 rfl) ?_
  refine lv_iconst (v := 2) hx hb dL_law_1162 (by decide) ?_
  refine lv_iadd hx hb dL_law_1163 ?_
  refine va_sld hx hb hX hbl hbA hS (sl_in (k := 2) rfl (by omega) hL) dL_law_1164 ?_
  refine tp1i (y := xs (i + 2)) (congrArg xs (sl_ix (i := i) (k := 2) (kv := 2) rfl (by omega) hL)) ?_
  refine cl_VL (rest := [.int v]) (kgX10_lit (l := l) (Γ := Γ) (A := fun q => s.heap.size ≤ q) (G := g) (o := 1001) (wf_1001 hE) h2) ⟨hx, hb, hml, hown, htw⟩ hE hw hS (hw _ _ (wf_1001 hE)) (q0 := 0) rfl rfl (htw _ mw1819) mw1820 mw1821 mw129 mw1822 pdX10_lit ⟨Nat.le_of_ble_eq_true rfl, Nat.le_of_ble_eq_true rfl⟩ rfl rfl hl.1 (Nat.le_of_ble_eq_true rfl) dL_law_1165 ⟨by show _ ≤ 600000; omega, by show _ ≤ 7302250; omega⟩ (fun H locs hw hS => ?_)
  refine W.eq (g2 := F0 m 1168 ls [.int v, .int v]) rfl ?_
  refine lv_icmp_eq (tgt := 1809) hx hb dL_law_1168 (by decide) (fun _ => ?_) (fun c1 => absurd rfl c1)
  refine W.widen (k := cells + 37) (n := slots + 1245) (by omega) (by omega) ?_
  exact kk Γ _ H locs hE hEk (LI.move hLI (by rw [ug_ne (by decide)]) (by rw [ug_ne (by decide)]; exact hLI.2.2.2.2)) h5 hw hS rfl rfl
set_option maxRecDepth 100000 in
set_option maxHeartbeats 8000000 in
theorem lc_dusky {p : Program} {l : Launch} {e : Env} {s : State} {m : MethodId} {below : List Frame} {meth : Method} {c : Code} {b L : Nat} {xs : Nat → Int32} {Inv : Gs → Prop} (hOb : Ob_dusky Inv) (hL : L ≤ 3072) (C0 : lw_At p s m meth c b L xs) {i : Nat} (hi : i + 6 ≤ L) {Γ : Gm} {g : Gs} {H : Heap} {locs : List Loc} {ls : Array Slot} {cells slots : Nat} {Q : State → Prop} (hE : Ev Γ (fun q => s.heap.size ≤ q) s) (hEk : Ek (dd Γ) (ac Γ) s) (hLI : LI Γ g) (hI : Inv g) (hw : Wo Γ g H) (hS : va_S (fun q => s.heap.size ≤ q) s.heap H locs) (hl : lv_has ls 4 [(0, .ref b), (1, .ref (ad Γ 901)), (2, .ref (ad Γ 1001)), (3, .int (nI i))]) (hcs : cells + 37 ≤ 600000 ∧ slots + 1245 ≤ 7302250)
    (kk : ∀ (Γ' : Gm) (g' : Gs) (H : Heap) (locs : List Loc), Ev Γ' (fun q => s.heap.size ≤ q) s → Ek (dd Γ') (ac Γ') s → LI Γ' g' → Inv g' → Wo Γ' g' H → va_S (fun q => s.heap.size ≤ q) s.heap H locs → ad Γ' 901 = ad Γ 901 → ad Γ' 1001 = ad Γ 1001 → W p l e room_1 s m #[Value.ref b] below meth c H locs (cells + 37) (slots + 1245) Q (F0 m 1809 ls [])) : W p l e room_1 s m #[Value.ref b] below meth c H locs cells slots Q (F0 m 1173 ls []) := by
  obtain ⟨hx, hb, hr, hml, hown, hts, hX, hbl, hlocks, hgv⟩ := id C0
  have hown : s.vm.findClass RL = some m.cls := hown
  have htw : ∀ w ∈ WS, w.before #[Value.ref b] s = true := fun w h => hts w (List.mem_filter.mp h).1
  have hbA : ¬ (fun q => s.heap.size ≤ q) b := Nat.not_le.mpr hbl
  obtain ⟨v, r, h1, h2, h5⟩ := hOb g (xs (i + 1)) (xs (i + 2)) (bz (xs (i + 3))) hI (bz_or _)
  refine lv_aload_n hx hb dL_law_1173 rfl (lv_at hl 1 rfl) ?_
  refine lv_aload_n hx hb dL_law_1174 rfl (lv_at hl 0 rfl) ?_
  refine lv_iload_n hx hb dL_law_1175 rfl (lv_at hl 3 rfl) ?_
  refine lv_iconst (v := 1) hx hb dL_law_1176 (by decide) ?_
  refine lv_iadd hx hb dL_law_1177 ?_
  refine va_sld hx hb hX hbl hbA hS (sl_in (k := 1) rfl (by omega) hL) dL_law_1178 ?_
  refine tp1i (y := xs (i + 1)) (congrArg xs (sl_ix (i := i) (k := 1) (kv := 1) rfl (by omega) hL)) ?_
  refine lv_aload_n hx hb dL_law_1179 rfl (lv_at hl 0 rfl) ?_
  refine lv_iload_n hx hb dL_law_1180 rfl (lv_at hl 3 rfl) ?_
  refine lv_iconst (v := 2) hx hb dL_law_1181 (by decide) ?_
  refine lv_iadd hx hb dL_law_1182 ?_
  refine va_sld hx hb hX hbl hbA hS (sl_in (k := 2) rfl (by omega) hL) dL_law_1183 ?_
  refine tp1i (y := xs (i + 2)) (congrArg xs (sl_ix (i := i) (k := 2) (kv := 2) rfl (by omega) hL)) ?_
  refine lv_aload_n hx hb dL_law_1184 rfl (lv_at hl 0 rfl) ?_
  refine lv_iload_n hx hb dL_law_1185 rfl (lv_at hl 3 rfl) ?_
  refine lv_iconst (v := 3) hx hb dL_law_1186 (by decide) ?_
  refine lv_iadd hx hb dL_law_1187 ?_
  refine va_sld hx hb hX hbl hbA hS (sl_in (k := 3) rfl (by omega) hL) dL_law_1188 ?_
  refine tp1i (y := xs (i + 3)) (congrArg xs (sl_ix (i := i) (k := 3) (kv := 3) rfl (by omega) hL)) ?_
  suffices key : W p l e room_1 s m #[Value.ref b] below meth c H locs cells slots Q (F0 m 1197 ls [.int (bz (xs (i + 3))), .int (xs (i + 2)), .int (xs (i + 1)), .ref (ad Γ 901)]) by
    refine lv_if_eq (tgt := 1196) hx hb dL_law_1189 (by decide) (fun c1 => ?_) (fun c1 => ?_)
    · refine lv_iconst (v := 0) hx hb dL_law_1196 (by decide) ?_
      exact tp1i (if_pos c1).symm key
    · refine lv_iconst (v := 1) hx hb dL_law_1192 (by decide) ?_
      refine lv_goto (tgt := 1197) hx hb dL_law_1193 (by decide) ?_
      exact tp1i (if_neg c1).symm key
  refine cl_VL (rest := []) (kX9_dusky (l := l) (Γ := Γ) (A := fun q => s.heap.size ≤ q) h1) ⟨hx, hb, hml, hown, htw⟩ hE hw hS (hw _ _ (wf_901 hE)) (q0 := 0) rfl rfl (htw _ mw1099) mw1100 mw1101 mw118 mw1102 pdX9_dusky ⟨Nat.le_of_ble_eq_true rfl, Nat.le_of_ble_eq_true rfl⟩ rfl rfl hl.1 (Nat.le_of_ble_eq_true rfl) dL_law_1197 ⟨by show _ ≤ 600000; omega, by show _ ≤ 7302250; omega⟩ (fun H locs hw hS => ?_)
  refine W.eq (g2 := F0 m 1200 ls [.int v]) rfl ?_
  refine lv_aload_n hx hb dL_law_1200 rfl (lv_at hl 2 rfl) ?_
  refine lv_aload_n hx hb dL_law_1201 rfl (lv_at hl 0 rfl) ?_
  refine lv_iload_n hx hb dL_law_1202 rfl (lv_at hl 3 rfl) ?_
  refine lv_iconst (v := 1) hx hb dL_law_1203 (by decide) ?_
  refine lv_iadd hx hb dL_law_1204 ?_
  refine va_sld hx hb hX hbl hbA hS (sl_in (k := 1) rfl (by omega) hL) dL_law_1205 ?_
  refine tp1i (y := xs (i + 1)) (congrArg xs (sl_ix (i := i) (k := 1) (kv := 1) rfl (by omega) hL)) ?_
  refine lv_aload_n hx hb dL_law_1206 rfl (lv_at hl 0 rfl) ?_
  refine lv_iload_n hx hb dL_law_1207 rfl (lv_at hl 3 rfl) ?_
  refine lv_iconst (v := 2) hx hb dL_law_1208 (by decide) ?_
  refine lv_iadd hx hb dL_law_1209 ?_
  refine va_sld hx hb hX hbl hbA hS (sl_in (k := 2) rfl (by omega) hL) dL_law_1210 ?_
  refine tp1i (y := xs (i + 2)) (congrArg xs (sl_ix (i := i) (k := 2) (kv := 2) rfl (by omega) hL)) ?_
  refine lv_aload_n hx hb dL_law_1211 rfl (lv_at hl 0 rfl) ?_
  refine lv_iload_n hx hb dL_law_1212 rfl (lv_at hl 3 rfl) ?_
  refine lv_iconst (v := 3) hx hb dL_law_1213 (by decide) ?_
  refine lv_iadd hx hb dL_law_1214 ?_
  refine va_sld hx hb hX hbl hbA hS (sl_in (k := 3) rfl (by omega) hL) dL_law_1215 ?_
  refine tp1i (y := xs (i + 3)) (congrArg xs (sl_ix (i := i) (k := 3) (kv := 3) rfl (by omega) hL)) ?_
  suffices key : W p l e room_1 s m #[Value.ref b] below meth c H locs cells slots Q (F0 m 1224 ls [.int (bz (xs (i + 3))), .int (xs (i + 2)), .int (xs (i + 1)), .ref (ad Γ 1001), .int v]) by
    refine lv_if_eq (tgt := 1223) hx hb dL_law_1216 (by decide) (fun c1 => ?_) (fun c1 => ?_)
    · refine lv_iconst (v := 0) hx hb dL_law_1223 (by decide) ?_
      exact tp1i (if_pos c1).symm key
    · refine lv_iconst (v := 1) hx hb dL_law_1219 (by decide) ?_
      refine lv_goto (tgt := 1224) hx hb dL_law_1220 (by decide) ?_
      exact tp1i (if_neg c1).symm key
  refine cl_VL (rest := [.int v]) (kgX10_dusky (l := l) (Γ := Γ) (A := fun q => s.heap.size ≤ q) (G := g) (o := 1001) (wf_1001 hE) h2) ⟨hx, hb, hml, hown, htw⟩ hE hw hS (hw _ _ (wf_1001 hE)) (q0 := 0) rfl rfl (htw _ mw1823) mw1824 mw1825 mw129 mw1826 pdX10_dusky ⟨Nat.le_of_ble_eq_true rfl, Nat.le_of_ble_eq_true rfl⟩ rfl rfl hl.1 (Nat.le_of_ble_eq_true rfl) dL_law_1224 ⟨by show _ ≤ 600000; omega, by show _ ≤ 7302250; omega⟩ (fun H locs hw hS => ?_)
  refine W.eq (g2 := F0 m 1227 ls [.int v, .int v]) rfl ?_
  refine lv_icmp_eq (tgt := 1809) hx hb dL_law_1227 (by decide) (fun _ => ?_) (fun c1 => absurd rfl c1)
  refine W.widen (k := cells + 37) (n := slots + 1245) (by omega) (by omega) ?_
  exact kk Γ _ H locs hE hEk (LI.move hLI (by rw [ug_ne (by decide)]) (by rw [ug_ne (by decide)]; exact hLI.2.2.2.2)) h5 hw hS rfl rfl
set_option maxRecDepth 100000 in
set_option maxHeartbeats 8000000 in
theorem lc_fitter {p : Program} {l : Launch} {e : Env} {s : State} {m : MethodId} {below : List Frame} {meth : Method} {c : Code} {b L : Nat} {xs : Nat → Int32} {Inv : Gs → Prop} (hOb : Ob_fitter Inv) (hL : L ≤ 3072) (C0 : lw_At p s m meth c b L xs) {i : Nat} (hi : i + 6 ≤ L) {Γ : Gm} {g : Gs} {H : Heap} {locs : List Loc} {ls : Array Slot} {cells slots : Nat} {Q : State → Prop} (hE : Ev Γ (fun q => s.heap.size ≤ q) s) (hEk : Ek (dd Γ) (ac Γ) s) (hLI : LI Γ g) (hI : Inv g) (hw : Wo Γ g H) (hS : va_S (fun q => s.heap.size ≤ q) s.heap H locs) (hl : lv_has ls 4 [(0, .ref b), (1, .ref (ad Γ 901)), (2, .ref (ad Γ 1001)), (3, .int (nI i))]) (hcs : cells + 37 ≤ 600000 ∧ slots + 1245 ≤ 7302250)
    (kk : ∀ (Γ' : Gm) (g' : Gs) (H : Heap) (locs : List Loc), Ev Γ' (fun q => s.heap.size ≤ q) s → Ek (dd Γ') (ac Γ') s → LI Γ' g' → Inv g' → Wo Γ' g' H → va_S (fun q => s.heap.size ≤ q) s.heap H locs → ad Γ' 901 = ad Γ 901 → ad Γ' 1001 = ad Γ 1001 → W p l e room_1 s m #[Value.ref b] below meth c H locs (cells + 37) (slots + 1245) Q (F0 m 1809 ls [])) : W p l e room_1 s m #[Value.ref b] below meth c H locs cells slots Q (F0 m 1232 ls []) := by
  obtain ⟨hx, hb, hr, hml, hown, hts, hX, hbl, hlocks, hgv⟩ := id C0
  have hown : s.vm.findClass RL = some m.cls := hown
  have htw : ∀ w ∈ WS, w.before #[Value.ref b] s = true := fun w h => hts w (List.mem_filter.mp h).1
  have hbA : ¬ (fun q => s.heap.size ≤ q) b := Nat.not_le.mpr hbl
  obtain ⟨v, r, h1, h2, h5⟩ := hOb g (xs (i + 1)) (bz (xs (i + 2))) hI (bz_or _)
  refine lv_aload_n hx hb dL_law_1232 rfl (lv_at hl 1 rfl) ?_
  refine lv_aload_n hx hb dL_law_1233 rfl (lv_at hl 0 rfl) ?_
  refine lv_iload_n hx hb dL_law_1234 rfl (lv_at hl 3 rfl) ?_
  refine lv_iconst (v := 1) hx hb dL_law_1235 (by decide) ?_
  refine lv_iadd hx hb dL_law_1236 ?_
  refine va_sld hx hb hX hbl hbA hS (sl_in (k := 1) rfl (by omega) hL) dL_law_1237 ?_
  refine tp1i (y := xs (i + 1)) (congrArg xs (sl_ix (i := i) (k := 1) (kv := 1) rfl (by omega) hL)) ?_
  refine lv_aload_n hx hb dL_law_1238 rfl (lv_at hl 0 rfl) ?_
  refine lv_iload_n hx hb dL_law_1239 rfl (lv_at hl 3 rfl) ?_
  refine lv_iconst (v := 2) hx hb dL_law_1240 (by decide) ?_
  refine lv_iadd hx hb dL_law_1241 ?_
  refine va_sld hx hb hX hbl hbA hS (sl_in (k := 2) rfl (by omega) hL) dL_law_1242 ?_
  refine tp1i (y := xs (i + 2)) (congrArg xs (sl_ix (i := i) (k := 2) (kv := 2) rfl (by omega) hL)) ?_
  suffices key : W p l e room_1 s m #[Value.ref b] below meth c H locs cells slots Q (F0 m 1251 ls [.int (bz (xs (i + 2))), .int (xs (i + 1)), .ref (ad Γ 901)]) by
    refine lv_if_eq (tgt := 1250) hx hb dL_law_1243 (by decide) (fun c1 => ?_) (fun c1 => ?_)
    · refine lv_iconst (v := 0) hx hb dL_law_1250 (by decide) ?_
      exact tp1i (if_pos c1).symm key
    · refine lv_iconst (v := 1) hx hb dL_law_1246 (by decide) ?_
      refine lv_goto (tgt := 1251) hx hb dL_law_1247 (by decide) ?_
      exact tp1i (if_neg c1).symm key
  refine cl_VL (rest := []) (kX9_fitter (l := l) (Γ := Γ) (A := fun q => s.heap.size ≤ q) h1) ⟨hx, hb, hml, hown, htw⟩ hE hw hS (hw _ _ (wf_901 hE)) (q0 := 0) rfl rfl (htw _ mw1113) mw1114 mw1115 mw118 mw1116 pdX9_fitter ⟨Nat.le_of_ble_eq_true rfl, Nat.le_of_ble_eq_true rfl⟩ rfl rfl hl.1 (Nat.le_of_ble_eq_true rfl) dL_law_1251 ⟨by show _ ≤ 600000; omega, by show _ ≤ 7302250; omega⟩ (fun H locs hw hS => ?_)
  refine W.eq (g2 := F0 m 1254 ls [.int v]) rfl ?_
  refine lv_aload_n hx hb dL_law_1254 rfl (lv_at hl 2 rfl) ?_
  refine lv_aload_n hx hb dL_law_1255 rfl (lv_at hl 0 rfl) ?_
  refine lv_iload_n hx hb dL_law_1256 rfl (lv_at hl 3 rfl) ?_
  refine lv_iconst (v := 1) hx hb dL_law_1257 (by decide) ?_
  refine lv_iadd hx hb dL_law_1258 ?_
  refine va_sld hx hb hX hbl hbA hS (sl_in (k := 1) rfl (by omega) hL) dL_law_1259 ?_
  refine tp1i (y := xs (i + 1)) (congrArg xs (sl_ix (i := i) (k := 1) (kv := 1) rfl (by omega) hL)) ?_
  refine lv_aload_n hx hb dL_law_1260 rfl (lv_at hl 0 rfl) ?_
  refine lv_iload_n hx hb dL_law_1261 rfl (lv_at hl 3 rfl) ?_
  refine lv_iconst (v := 2) hx hb dL_law_1262 (by decide) ?_
  refine lv_iadd hx hb dL_law_1263 ?_
  refine va_sld hx hb hX hbl hbA hS (sl_in (k := 2) rfl (by omega) hL) dL_law_1264 ?_
  refine tp1i (y := xs (i + 2)) (congrArg xs (sl_ix (i := i) (k := 2) (kv := 2) rfl (by omega) hL)) ?_
  suffices key : W p l e room_1 s m #[Value.ref b] below meth c H locs cells slots Q (F0 m 1273 ls [.int (bz (xs (i + 2))), .int (xs (i + 1)), .ref (ad Γ 1001), .int v]) by
    refine lv_if_eq (tgt := 1272) hx hb dL_law_1265 (by decide) (fun c1 => ?_) (fun c1 => ?_)
    · refine lv_iconst (v := 0) hx hb dL_law_1272 (by decide) ?_
      exact tp1i (if_pos c1).symm key
    · refine lv_iconst (v := 1) hx hb dL_law_1268 (by decide) ?_
      refine lv_goto (tgt := 1273) hx hb dL_law_1269 (by decide) ?_
      exact tp1i (if_neg c1).symm key
  refine cl_VL (rest := [.int v]) (kgX10_fitter (l := l) (Γ := Γ) (A := fun q => s.heap.size ≤ q) (G := g) (o := 1001) (wf_1001 hE) h2) ⟨hx, hb, hml, hown, htw⟩ hE hw hS (hw _ _ (wf_1001 hE)) (q0 := 0) rfl rfl (htw _ mw1827) mw1828 mw1829 mw129 mw1830 pdX10_fitter ⟨Nat.le_of_ble_eq_true rfl, Nat.le_of_ble_eq_true rfl⟩ rfl rfl hl.1 (Nat.le_of_ble_eq_true rfl) dL_law_1273 ⟨by show _ ≤ 600000; omega, by show _ ≤ 7302250; omega⟩ (fun H locs hw hS => ?_)
  refine W.eq (g2 := F0 m 1276 ls [.int v, .int v]) rfl ?_
  refine lv_icmp_eq (tgt := 1809) hx hb dL_law_1276 (by decide) (fun _ => ?_) (fun c1 => absurd rfl c1)
  refine W.widen (k := cells + 37) (n := slots + 1245) (by omega) (by omega) ?_
  exact kk Γ _ H locs hE hEk (LI.move hLI (by rw [ug_ne (by decide)]) (by rw [ug_ne (by decide)]; exact hLI.2.2.2.2)) h5 hw hS rfl rfl
set_option maxRecDepth 100000 in
set_option maxHeartbeats 8000000 in
theorem lc_unlike {p : Program} {l : Launch} {e : Env} {s : State} {m : MethodId} {below : List Frame} {meth : Method} {c : Code} {b L : Nat} {xs : Nat → Int32} {Inv : Gs → Prop} (hOb : Ob_unlike Inv) (hL : L ≤ 3072) (C0 : lw_At p s m meth c b L xs) {i : Nat} (hi : i + 6 ≤ L) {Γ : Gm} {g : Gs} {H : Heap} {locs : List Loc} {ls : Array Slot} {cells slots : Nat} {Q : State → Prop} (hE : Ev Γ (fun q => s.heap.size ≤ q) s) (hEk : Ek (dd Γ) (ac Γ) s) (hLI : LI Γ g) (hI : Inv g) (hw : Wo Γ g H) (hS : va_S (fun q => s.heap.size ≤ q) s.heap H locs) (hl : lv_has ls 4 [(0, .ref b), (1, .ref (ad Γ 901)), (2, .ref (ad Γ 1001)), (3, .int (nI i))]) (hcs : cells + 37 ≤ 600000 ∧ slots + 1245 ≤ 7302250)
    (kk : ∀ (Γ' : Gm) (g' : Gs) (H : Heap) (locs : List Loc), Ev Γ' (fun q => s.heap.size ≤ q) s → Ek (dd Γ') (ac Γ') s → LI Γ' g' → Inv g' → Wo Γ' g' H → va_S (fun q => s.heap.size ≤ q) s.heap H locs → ad Γ' 901 = ad Γ 901 → ad Γ' 1001 = ad Γ 1001 → W p l e room_1 s m #[Value.ref b] below meth c H locs (cells + 37) (slots + 1245) Q (F0 m 1809 ls [])) : W p l e room_1 s m #[Value.ref b] below meth c H locs cells slots Q (F0 m 1281 ls []) := by
  obtain ⟨hx, hb, hr, hml, hown, hts, hX, hbl, hlocks, hgv⟩ := id C0
  have hown : s.vm.findClass RL = some m.cls := hown
  have htw : ∀ w ∈ WS, w.before #[Value.ref b] s = true := fun w h => hts w (List.mem_filter.mp h).1
  have hbA : ¬ (fun q => s.heap.size ≤ q) b := Nat.not_le.mpr hbl
  obtain ⟨v, r, h1, h2, h5⟩ := hOb g (xs (i + 1)) (xs (i + 2)) hI
  refine lv_aload_n hx hb dL_law_1281 rfl (lv_at hl 1 rfl) ?_
  refine lv_aload_n hx hb dL_law_1282 rfl (lv_at hl 0 rfl) ?_
  refine lv_iload_n hx hb dL_law_1283 rfl (lv_at hl 3 rfl) ?_
  refine lv_iconst (v := 1) hx hb dL_law_1284 (by decide) ?_
  refine lv_iadd hx hb dL_law_1285 ?_
  refine va_sld hx hb hX hbl hbA hS (sl_in (k := 1) rfl (by omega) hL) dL_law_1286 ?_
  refine tp1i (y := xs (i + 1)) (congrArg xs (sl_ix (i := i) (k := 1) (kv := 1) rfl (by omega) hL)) ?_
  refine lv_aload_n hx hb dL_law_1287 rfl (lv_at hl 0 rfl) ?_
  refine lv_iload_n hx hb dL_law_1288 rfl (lv_at hl 3 rfl) ?_
  refine lv_iconst (v := 2) hx hb dL_law_1289 (by decide) ?_
  refine lv_iadd hx hb dL_law_1290 ?_
  refine va_sld hx hb hX hbl hbA hS (sl_in (k := 2) rfl (by omega) hL) dL_law_1291 ?_
  refine tp1i (y := xs (i + 2)) (congrArg xs (sl_ix (i := i) (k := 2) (kv := 2) rfl (by omega) hL)) ?_
  refine cl_VL (rest := []) (kX9_unlike (l := l) (Γ := Γ) (A := fun q => s.heap.size ≤ q) h1) ⟨hx, hb, hml, hown, htw⟩ hE hw hS (hw _ _ (wf_901 hE)) (q0 := 0) rfl rfl (htw _ mw1126) mw1127 mw1128 mw118 mw1129 pdX9_unlike ⟨Nat.le_of_ble_eq_true rfl, Nat.le_of_ble_eq_true rfl⟩ rfl rfl hl.1 (Nat.le_of_ble_eq_true rfl) dL_law_1292 ⟨by show _ ≤ 600000; omega, by show _ ≤ 7302250; omega⟩ (fun H locs hw hS => ?_)
  refine W.eq (g2 := F0 m 1295 ls [.int v]) rfl ?_
  refine lv_aload_n hx hb dL_law_1295 rfl (lv_at hl 2 rfl) ?_
  refine lv_aload_n hx hb dL_law_1296 rfl (lv_at hl 0 rfl) ?_
  refine lv_iload_n hx hb dL_law_1297 rfl (lv_at hl 3 rfl) ?_
  refine lv_iconst (v := 1) hx hb dL_law_1298 (by decide) ?_
  refine lv_iadd hx hb dL_law_1299 ?_
  refine va_sld hx hb hX hbl hbA hS (sl_in (k := 1) rfl (by omega) hL) dL_law_1300 ?_
  refine tp1i (y := xs (i + 1)) (congrArg xs (sl_ix (i := i) (k := 1) (kv := 1) rfl (by omega) hL)) ?_
  refine lv_aload_n hx hb dL_law_1301 rfl (lv_at hl 0 rfl) ?_
  refine lv_iload_n hx hb dL_law_1302 rfl (lv_at hl 3 rfl) ?_
  refine lv_iconst (v := 2) hx hb dL_law_1303 (by decide) ?_
  refine lv_iadd hx hb dL_law_1304 ?_
  refine va_sld hx hb hX hbl hbA hS (sl_in (k := 2) rfl (by omega) hL) dL_law_1305 ?_
  refine tp1i (y := xs (i + 2)) (congrArg xs (sl_ix (i := i) (k := 2) (kv := 2) rfl (by omega) hL)) ?_
  refine cl_VL (rest := [.int v]) (kgX10_unlike (l := l) (Γ := Γ) (A := fun q => s.heap.size ≤ q) (G := g) (o := 1001) (wf_1001 hE) h2) ⟨hx, hb, hml, hown, htw⟩ hE hw hS (hw _ _ (wf_1001 hE)) (q0 := 0) rfl rfl (htw _ mw1835) mw1836 mw1837 mw129 mw1838 pdX10_unlike ⟨Nat.le_of_ble_eq_true rfl, Nat.le_of_ble_eq_true rfl⟩ rfl rfl hl.1 (Nat.le_of_ble_eq_true rfl) dL_law_1306 ⟨by show _ ≤ 600000; omega, by show _ ≤ 7302250; omega⟩ (fun H locs hw hS => ?_)
  refine W.eq (g2 := F0 m 1309 ls [.int v, .int v]) rfl ?_
  refine lv_icmp_eq (tgt := 1809) hx hb dL_law_1309 (by decide) (fun _ => ?_) (fun c1 => absurd rfl c1)
  refine W.widen (k := cells + 37) (n := slots + 1245) (by omega) (by omega) ?_
  exact kk Γ _ H locs hE hEk (LI.move hLI (by rw [ug_ne (by decide)]) (by rw [ug_ne (by decide)]; exact hLI.2.2.2.2)) h5 hw hS rfl rfl
set_option maxRecDepth 100000 in
set_option maxHeartbeats 8000000 in
theorem lc_spread {p : Program} {l : Launch} {e : Env} {s : State} {m : MethodId} {below : List Frame} {meth : Method} {c : Code} {b L : Nat} {xs : Nat → Int32} {Inv : Gs → Prop} (hOb : Ob_spread Inv) (hL : L ≤ 3072) (C0 : lw_At p s m meth c b L xs) {i : Nat} (hi : i + 6 ≤ L) {Γ : Gm} {g : Gs} {H : Heap} {locs : List Loc} {ls : Array Slot} {cells slots : Nat} {Q : State → Prop} (hE : Ev Γ (fun q => s.heap.size ≤ q) s) (hEk : Ek (dd Γ) (ac Γ) s) (hLI : LI Γ g) (hI : Inv g) (hw : Wo Γ g H) (hS : va_S (fun q => s.heap.size ≤ q) s.heap H locs) (hl : lv_has ls 4 [(0, .ref b), (1, .ref (ad Γ 901)), (2, .ref (ad Γ 1001)), (3, .int (nI i))]) (hcs : cells + 37 ≤ 600000 ∧ slots + 1245 ≤ 7302250)
    (kk : ∀ (Γ' : Gm) (g' : Gs) (H : Heap) (locs : List Loc), Ev Γ' (fun q => s.heap.size ≤ q) s → Ek (dd Γ') (ac Γ') s → LI Γ' g' → Inv g' → Wo Γ' g' H → va_S (fun q => s.heap.size ≤ q) s.heap H locs → ad Γ' 901 = ad Γ 901 → ad Γ' 1001 = ad Γ 1001 → W p l e room_1 s m #[Value.ref b] below meth c H locs (cells + 37) (slots + 1245) Q (F0 m 1809 ls [])) : W p l e room_1 s m #[Value.ref b] below meth c H locs cells slots Q (F0 m 1314 ls []) := by
  obtain ⟨hx, hb, hr, hml, hown, hts, hX, hbl, hlocks, hgv⟩ := id C0
  have hown : s.vm.findClass RL = some m.cls := hown
  have htw : ∀ w ∈ WS, w.before #[Value.ref b] s = true := fun w h => hts w (List.mem_filter.mp h).1
  have hbA : ¬ (fun q => s.heap.size ≤ q) b := Nat.not_le.mpr hbl
  obtain ⟨v, r, h1, h2, h5⟩ := hOb g (xs (i + 1)) (xs (i + 2)) hI
  refine lv_aload_n hx hb dL_law_1314 rfl (lv_at hl 1 rfl) ?_
  refine lv_aload_n hx hb dL_law_1315 rfl (lv_at hl 0 rfl) ?_
  refine lv_iload_n hx hb dL_law_1316 rfl (lv_at hl 3 rfl) ?_
  refine lv_iconst (v := 1) hx hb dL_law_1317 (by decide) ?_
  refine lv_iadd hx hb dL_law_1318 ?_
  refine va_sld hx hb hX hbl hbA hS (sl_in (k := 1) rfl (by omega) hL) dL_law_1319 ?_
  refine tp1i (y := xs (i + 1)) (congrArg xs (sl_ix (i := i) (k := 1) (kv := 1) rfl (by omega) hL)) ?_
  refine lv_aload_n hx hb dL_law_1320 rfl (lv_at hl 0 rfl) ?_
  refine lv_iload_n hx hb dL_law_1321 rfl (lv_at hl 3 rfl) ?_
  refine lv_iconst (v := 2) hx hb dL_law_1322 (by decide) ?_
  refine lv_iadd hx hb dL_law_1323 ?_
  refine va_sld hx hb hX hbl hbA hS (sl_in (k := 2) rfl (by omega) hL) dL_law_1324 ?_
  refine tp1i (y := xs (i + 2)) (congrArg xs (sl_ix (i := i) (k := 2) (kv := 2) rfl (by omega) hL)) ?_
  refine cl_VL (rest := []) (kX9_spread (l := l) (Γ := Γ) (A := fun q => s.heap.size ≤ q) h1) ⟨hx, hb, hml, hown, htw⟩ hE hw hS (hw _ _ (wf_901 hE)) (q0 := 0) rfl rfl (htw _ mw1130) mw1131 mw1132 mw118 mw1133 pdX9_spread ⟨Nat.le_of_ble_eq_true rfl, Nat.le_of_ble_eq_true rfl⟩ rfl rfl hl.1 (Nat.le_of_ble_eq_true rfl) dL_law_1325 ⟨by show _ ≤ 600000; omega, by show _ ≤ 7302250; omega⟩ (fun H locs hw hS => ?_)
  refine W.eq (g2 := F0 m 1328 ls [.int v]) rfl ?_
  refine lv_aload_n hx hb dL_law_1328 rfl (lv_at hl 2 rfl) ?_
  refine lv_aload_n hx hb dL_law_1329 rfl (lv_at hl 0 rfl) ?_
  refine lv_iload_n hx hb dL_law_1330 rfl (lv_at hl 3 rfl) ?_
  refine lv_iconst (v := 1) hx hb dL_law_1331 (by decide) ?_
  refine lv_iadd hx hb dL_law_1332 ?_
  refine va_sld hx hb hX hbl hbA hS (sl_in (k := 1) rfl (by omega) hL) dL_law_1333 ?_
  refine tp1i (y := xs (i + 1)) (congrArg xs (sl_ix (i := i) (k := 1) (kv := 1) rfl (by omega) hL)) ?_
  refine lv_aload_n hx hb dL_law_1334 rfl (lv_at hl 0 rfl) ?_
  refine lv_iload_n hx hb dL_law_1335 rfl (lv_at hl 3 rfl) ?_
  refine lv_iconst (v := 2) hx hb dL_law_1336 (by decide) ?_
  refine lv_iadd hx hb dL_law_1337 ?_
  refine va_sld hx hb hX hbl hbA hS (sl_in (k := 2) rfl (by omega) hL) dL_law_1338 ?_
  refine tp1i (y := xs (i + 2)) (congrArg xs (sl_ix (i := i) (k := 2) (kv := 2) rfl (by omega) hL)) ?_
  refine cl_VL (rest := [.int v]) (kgX10_spread (l := l) (Γ := Γ) (A := fun q => s.heap.size ≤ q) (G := g) (o := 1001) (wf_1001 hE) h2) ⟨hx, hb, hml, hown, htw⟩ hE hw hS (hw _ _ (wf_1001 hE)) (q0 := 0) rfl rfl (htw _ mw1839) mw1840 mw1841 mw129 mw1842 pdX10_spread ⟨Nat.le_of_ble_eq_true rfl, Nat.le_of_ble_eq_true rfl⟩ rfl rfl hl.1 (Nat.le_of_ble_eq_true rfl) dL_law_1339 ⟨by show _ ≤ 600000; omega, by show _ ≤ 7302250; omega⟩ (fun H locs hw hS => ?_)
  refine W.eq (g2 := F0 m 1342 ls [.int v, .int v]) rfl ?_
  refine lv_icmp_eq (tgt := 1809) hx hb dL_law_1342 (by decide) (fun _ => ?_) (fun c1 => absurd rfl c1)
  refine W.widen (k := cells + 37) (n := slots + 1245) (by omega) (by omega) ?_
  exact kk Γ _ H locs hE hEk (LI.move hLI (by rw [ug_ne (by decide)]) (by rw [ug_ne (by decide)]; exact hLI.2.2.2.2)) h5 hw hS rfl rfl
set_option maxRecDepth 100000 in
set_option maxHeartbeats 8000000 in
theorem lc_depth {p : Program} {l : Launch} {e : Env} {s : State} {m : MethodId} {below : List Frame} {meth : Method} {c : Code} {b L : Nat} {xs : Nat → Int32} {Inv : Gs → Prop} (hOb : Ob_depth Inv) (hL : L ≤ 3072) (C0 : lw_At p s m meth c b L xs) {i : Nat} (hi : i + 6 ≤ L) {Γ : Gm} {g : Gs} {H : Heap} {locs : List Loc} {ls : Array Slot} {cells slots : Nat} {Q : State → Prop} (hE : Ev Γ (fun q => s.heap.size ≤ q) s) (hEk : Ek (dd Γ) (ac Γ) s) (hLI : LI Γ g) (hI : Inv g) (hw : Wo Γ g H) (hS : va_S (fun q => s.heap.size ≤ q) s.heap H locs) (hl : lv_has ls 4 [(0, .ref b), (1, .ref (ad Γ 901)), (2, .ref (ad Γ 1001)), (3, .int (nI i))]) (hcs : cells + 37 ≤ 600000 ∧ slots + 1245 ≤ 7302250)
    (kk : ∀ (Γ' : Gm) (g' : Gs) (H : Heap) (locs : List Loc), Ev Γ' (fun q => s.heap.size ≤ q) s → Ek (dd Γ') (ac Γ') s → LI Γ' g' → Inv g' → Wo Γ' g' H → va_S (fun q => s.heap.size ≤ q) s.heap H locs → ad Γ' 901 = ad Γ 901 → ad Γ' 1001 = ad Γ 1001 → W p l e room_1 s m #[Value.ref b] below meth c H locs (cells + 37) (slots + 1245) Q (F0 m 1809 ls [])) : W p l e room_1 s m #[Value.ref b] below meth c H locs cells slots Q (F0 m 1347 ls []) := by
  obtain ⟨hx, hb, hr, hml, hown, hts, hX, hbl, hlocks, hgv⟩ := id C0
  have hown : s.vm.findClass RL = some m.cls := hown
  have htw : ∀ w ∈ WS, w.before #[Value.ref b] s = true := fun w h => hts w (List.mem_filter.mp h).1
  have hbA : ¬ (fun q => s.heap.size ≤ q) b := Nat.not_le.mpr hbl
  obtain ⟨v, r, h1, h2, h5⟩ := hOb g (xs (i + 1)) (xs (i + 2)) (xs (i + 3)) hI
  refine lv_aload_n hx hb dL_law_1347 rfl (lv_at hl 1 rfl) ?_
  refine lv_aload_n hx hb dL_law_1348 rfl (lv_at hl 0 rfl) ?_
  refine lv_iload_n hx hb dL_law_1349 rfl (lv_at hl 3 rfl) ?_
  refine lv_iconst (v := 1) hx hb dL_law_1350 (by decide) ?_
  refine lv_iadd hx hb dL_law_1351 ?_
  refine va_sld hx hb hX hbl hbA hS (sl_in (k := 1) rfl (by omega) hL) dL_law_1352 ?_
  refine tp1i (y := xs (i + 1)) (congrArg xs (sl_ix (i := i) (k := 1) (kv := 1) rfl (by omega) hL)) ?_
  refine lv_aload_n hx hb dL_law_1353 rfl (lv_at hl 0 rfl) ?_
  refine lv_iload_n hx hb dL_law_1354 rfl (lv_at hl 3 rfl) ?_
  refine lv_iconst (v := 2) hx hb dL_law_1355 (by decide) ?_
  refine lv_iadd hx hb dL_law_1356 ?_
  refine va_sld hx hb hX hbl hbA hS (sl_in (k := 2) rfl (by omega) hL) dL_law_1357 ?_
  refine tp1i (y := xs (i + 2)) (congrArg xs (sl_ix (i := i) (k := 2) (kv := 2) rfl (by omega) hL)) ?_
  refine lv_aload_n hx hb dL_law_1358 rfl (lv_at hl 0 rfl) ?_
  refine lv_iload_n hx hb dL_law_1359 rfl (lv_at hl 3 rfl) ?_
  refine lv_iconst (v := 3) hx hb dL_law_1360 (by decide) ?_
  refine lv_iadd hx hb dL_law_1361 ?_
  refine va_sld hx hb hX hbl hbA hS (sl_in (k := 3) rfl (by omega) hL) dL_law_1362 ?_
  refine tp1i (y := xs (i + 3)) (congrArg xs (sl_ix (i := i) (k := 3) (kv := 3) rfl (by omega) hL)) ?_
  refine cl_VL (rest := []) (kX9_depth (l := l) (Γ := Γ) (A := fun q => s.heap.size ≤ q) h1) ⟨hx, hb, hml, hown, htw⟩ hE hw hS (hw _ _ (wf_901 hE)) (q0 := 0) rfl rfl (htw _ mw1138) mw1139 mw1140 mw118 mw1141 pdX9_depth ⟨Nat.le_of_ble_eq_true rfl, Nat.le_of_ble_eq_true rfl⟩ rfl rfl hl.1 (Nat.le_of_ble_eq_true rfl) dL_law_1363 ⟨by show _ ≤ 600000; omega, by show _ ≤ 7302250; omega⟩ (fun H locs hw hS => ?_)
  refine W.eq (g2 := F0 m 1366 ls [.int v]) rfl ?_
  refine lv_aload_n hx hb dL_law_1366 rfl (lv_at hl 2 rfl) ?_
  refine lv_aload_n hx hb dL_law_1367 rfl (lv_at hl 0 rfl) ?_
  refine lv_iload_n hx hb dL_law_1368 rfl (lv_at hl 3 rfl) ?_
  refine lv_iconst (v := 1) hx hb dL_law_1369 (by decide) ?_
  refine lv_iadd hx hb dL_law_1370 ?_
  refine va_sld hx hb hX hbl hbA hS (sl_in (k := 1) rfl (by omega) hL) dL_law_1371 ?_
  refine tp1i (y := xs (i + 1)) (congrArg xs (sl_ix (i := i) (k := 1) (kv := 1) rfl (by omega) hL)) ?_
  refine lv_aload_n hx hb dL_law_1372 rfl (lv_at hl 0 rfl) ?_
  refine lv_iload_n hx hb dL_law_1373 rfl (lv_at hl 3 rfl) ?_
  refine lv_iconst (v := 2) hx hb dL_law_1374 (by decide) ?_
  refine lv_iadd hx hb dL_law_1375 ?_
  refine va_sld hx hb hX hbl hbA hS (sl_in (k := 2) rfl (by omega) hL) dL_law_1376 ?_
  refine tp1i (y := xs (i + 2)) (congrArg xs (sl_ix (i := i) (k := 2) (kv := 2) rfl (by omega) hL)) ?_
  refine lv_aload_n hx hb dL_law_1377 rfl (lv_at hl 0 rfl) ?_
  refine lv_iload_n hx hb dL_law_1378 rfl (lv_at hl 3 rfl) ?_
  refine lv_iconst (v := 3) hx hb dL_law_1379 (by decide) ?_
  refine lv_iadd hx hb dL_law_1380 ?_
  refine va_sld hx hb hX hbl hbA hS (sl_in (k := 3) rfl (by omega) hL) dL_law_1381 ?_
  refine tp1i (y := xs (i + 3)) (congrArg xs (sl_ix (i := i) (k := 3) (kv := 3) rfl (by omega) hL)) ?_
  refine cl_VL (rest := [.int v]) (kgX10_depth (l := l) (Γ := Γ) (A := fun q => s.heap.size ≤ q) (G := g) (o := 1001) (wf_1001 hE) h2) ⟨hx, hb, hml, hown, htw⟩ hE hw hS (hw _ _ (wf_1001 hE)) (q0 := 0) rfl rfl (htw _ mw1843) mw1844 mw1845 mw129 mw1846 pdX10_depth ⟨Nat.le_of_ble_eq_true rfl, Nat.le_of_ble_eq_true rfl⟩ rfl rfl hl.1 (Nat.le_of_ble_eq_true rfl) dL_law_1382 ⟨by show _ ≤ 600000; omega, by show _ ≤ 7302250; omega⟩ (fun H locs hw hS => ?_)
  refine W.eq (g2 := F0 m 1385 ls [.int v, .int v]) rfl ?_
  refine lv_icmp_eq (tgt := 1809) hx hb dL_law_1385 (by decide) (fun _ => ?_) (fun c1 => absurd rfl c1)
  refine W.widen (k := cells + 37) (n := slots + 1245) (by omega) (by omega) ?_
  exact kk Γ _ H locs hE hEk (LI.move hLI (by rw [ug_ne (by decide)]) (by rw [ug_ne (by decide)]; exact hLI.2.2.2.2)) h5 hw hS rfl rfl
set_option maxRecDepth 100000 in
set_option maxHeartbeats 8000000 in
theorem lc_spare {p : Program} {l : Launch} {e : Env} {s : State} {m : MethodId} {below : List Frame} {meth : Method} {c : Code} {b L : Nat} {xs : Nat → Int32} {Inv : Gs → Prop} (hOb : Ob_spare Inv) (hL : L ≤ 3072) (C0 : lw_At p s m meth c b L xs) {i : Nat} (hi : i + 6 ≤ L) {Γ : Gm} {g : Gs} {H : Heap} {locs : List Loc} {ls : Array Slot} {cells slots : Nat} {Q : State → Prop} (hE : Ev Γ (fun q => s.heap.size ≤ q) s) (hEk : Ek (dd Γ) (ac Γ) s) (hLI : LI Γ g) (hI : Inv g) (hw : Wo Γ g H) (hS : va_S (fun q => s.heap.size ≤ q) s.heap H locs) (hl : lv_has ls 4 [(0, .ref b), (1, .ref (ad Γ 901)), (2, .ref (ad Γ 1001)), (3, .int (nI i))]) (hcs : cells + 37 ≤ 600000 ∧ slots + 1245 ≤ 7302250)
    (kk : ∀ (Γ' : Gm) (g' : Gs) (H : Heap) (locs : List Loc), Ev Γ' (fun q => s.heap.size ≤ q) s → Ek (dd Γ') (ac Γ') s → LI Γ' g' → Inv g' → Wo Γ' g' H → va_S (fun q => s.heap.size ≤ q) s.heap H locs → ad Γ' 901 = ad Γ 901 → ad Γ' 1001 = ad Γ 1001 → W p l e room_1 s m #[Value.ref b] below meth c H locs (cells + 37) (slots + 1245) Q (F0 m 1809 ls [])) : W p l e room_1 s m #[Value.ref b] below meth c H locs cells slots Q (F0 m 1390 ls []) := by
  obtain ⟨hx, hb, hr, hml, hown, hts, hX, hbl, hlocks, hgv⟩ := id C0
  have hown : s.vm.findClass RL = some m.cls := hown
  have htw : ∀ w ∈ WS, w.before #[Value.ref b] s = true := fun w h => hts w (List.mem_filter.mp h).1
  have hbA : ¬ (fun q => s.heap.size ≤ q) b := Nat.not_le.mpr hbl
  obtain ⟨v, r, h1, h2, h5⟩ := hOb g (xs (i + 1)) hI
  refine lv_aload_n hx hb dL_law_1390 rfl (lv_at hl 1 rfl) ?_
  refine lv_aload_n hx hb dL_law_1391 rfl (lv_at hl 0 rfl) ?_
  refine lv_iload_n hx hb dL_law_1392 rfl (lv_at hl 3 rfl) ?_
  refine lv_iconst (v := 1) hx hb dL_law_1393 (by decide) ?_
  refine lv_iadd hx hb dL_law_1394 ?_
  refine va_sld hx hb hX hbl hbA hS (sl_in (k := 1) rfl (by omega) hL) dL_law_1395 ?_
  refine tp1i (y := xs (i + 1)) (congrArg xs (sl_ix (i := i) (k := 1) (kv := 1) rfl (by omega) hL)) ?_
  refine cl_VL (rest := []) (kX9_spare (l := l) (Γ := Γ) (A := fun q => s.heap.size ≤ q) h1) ⟨hx, hb, hml, hown, htw⟩ hE hw hS (hw _ _ (wf_901 hE)) (q0 := 0) rfl rfl (htw _ mw1146) mw1147 mw1148 mw118 mw1149 pdX9_spare ⟨Nat.le_of_ble_eq_true rfl, Nat.le_of_ble_eq_true rfl⟩ rfl rfl hl.1 (Nat.le_of_ble_eq_true rfl) dL_law_1396 ⟨by show _ ≤ 600000; omega, by show _ ≤ 7302250; omega⟩ (fun H locs hw hS => ?_)
  refine W.eq (g2 := F0 m 1399 ls [.int v]) rfl ?_
  refine lv_aload_n hx hb dL_law_1399 rfl (lv_at hl 2 rfl) ?_
  refine lv_aload_n hx hb dL_law_1400 rfl (lv_at hl 0 rfl) ?_
  refine lv_iload_n hx hb dL_law_1401 rfl (lv_at hl 3 rfl) ?_
  refine lv_iconst (v := 1) hx hb dL_law_1402 (by decide) ?_
  refine lv_iadd hx hb dL_law_1403 ?_
  refine va_sld hx hb hX hbl hbA hS (sl_in (k := 1) rfl (by omega) hL) dL_law_1404 ?_
  refine tp1i (y := xs (i + 1)) (congrArg xs (sl_ix (i := i) (k := 1) (kv := 1) rfl (by omega) hL)) ?_
  refine cl_VL (rest := [.int v]) (kgX10_spare (l := l) (Γ := Γ) (A := fun q => s.heap.size ≤ q) (G := g) (o := 1001) (wf_1001 hE) h2) ⟨hx, hb, hml, hown, htw⟩ hE hw hS (hw _ _ (wf_1001 hE)) (q0 := 0) rfl rfl (htw _ mw1847) mw1848 mw1849 mw129 mw1850 pdX10_spare ⟨Nat.le_of_ble_eq_true rfl, Nat.le_of_ble_eq_true rfl⟩ rfl rfl hl.1 (Nat.le_of_ble_eq_true rfl) dL_law_1405 ⟨by show _ ≤ 600000; omega, by show _ ≤ 7302250; omega⟩ (fun H locs hw hS => ?_)
  refine W.eq (g2 := F0 m 1408 ls [.int v, .int v]) rfl ?_
  refine lv_icmp_eq (tgt := 1809) hx hb dL_law_1408 (by decide) (fun _ => ?_) (fun c1 => absurd rfl c1)
  refine W.widen (k := cells + 37) (n := slots + 1245) (by omega) (by omega) ?_
  exact kk Γ _ H locs hE hEk (LI.move hLI (by rw [ug_ne (by decide)]) (by rw [ug_ne (by decide)]; exact hLI.2.2.2.2)) h5 hw hS rfl rfl
set_option maxRecDepth 100000 in
set_option maxHeartbeats 8000000 in
theorem lc_guarded {p : Program} {l : Launch} {e : Env} {s : State} {m : MethodId} {below : List Frame} {meth : Method} {c : Code} {b L : Nat} {xs : Nat → Int32} {Inv : Gs → Prop} (hOb : Ob_guarded Inv) (hL : L ≤ 3072) (C0 : lw_At p s m meth c b L xs) {i : Nat} (hi : i + 6 ≤ L) {Γ : Gm} {g : Gs} {H : Heap} {locs : List Loc} {ls : Array Slot} {cells slots : Nat} {Q : State → Prop} (hE : Ev Γ (fun q => s.heap.size ≤ q) s) (hEk : Ek (dd Γ) (ac Γ) s) (hLI : LI Γ g) (hI : Inv g) (hw : Wo Γ g H) (hS : va_S (fun q => s.heap.size ≤ q) s.heap H locs) (hl : lv_has ls 4 [(0, .ref b), (1, .ref (ad Γ 901)), (2, .ref (ad Γ 1001)), (3, .int (nI i))]) (hcs : cells + 37 ≤ 600000 ∧ slots + 1245 ≤ 7302250)
    (kk : ∀ (Γ' : Gm) (g' : Gs) (H : Heap) (locs : List Loc), Ev Γ' (fun q => s.heap.size ≤ q) s → Ek (dd Γ') (ac Γ') s → LI Γ' g' → Inv g' → Wo Γ' g' H → va_S (fun q => s.heap.size ≤ q) s.heap H locs → ad Γ' 901 = ad Γ 901 → ad Γ' 1001 = ad Γ 1001 → W p l e room_1 s m #[Value.ref b] below meth c H locs (cells + 37) (slots + 1245) Q (F0 m 1809 ls [])) : W p l e room_1 s m #[Value.ref b] below meth c H locs cells slots Q (F0 m 1413 ls []) := by
  obtain ⟨hx, hb, hr, hml, hown, hts, hX, hbl, hlocks, hgv⟩ := id C0
  have hown : s.vm.findClass RL = some m.cls := hown
  have htw : ∀ w ∈ WS, w.before #[Value.ref b] s = true := fun w h => hts w (List.mem_filter.mp h).1
  have hbA : ¬ (fun q => s.heap.size ≤ q) b := Nat.not_le.mpr hbl
  obtain ⟨g1, v, r, h1, h2, h3, h4, h5⟩ := hOb g (xs (i + 1)) (xs (i + 2)) (xs (i + 3)) (bz (xs (i + 4))) hI (bz_or _)
  refine lv_aload_n hx hb dL_law_1413 rfl (lv_at hl 1 rfl) ?_
  refine lv_aload_n hx hb dL_law_1414 rfl (lv_at hl 0 rfl) ?_
  refine lv_iload_n hx hb dL_law_1415 rfl (lv_at hl 3 rfl) ?_
  refine lv_iconst (v := 1) hx hb dL_law_1416 (by decide) ?_
  refine lv_iadd hx hb dL_law_1417 ?_
  refine va_sld hx hb hX hbl hbA hS (sl_in (k := 1) rfl (by omega) hL) dL_law_1418 ?_
  refine tp1i (y := xs (i + 1)) (congrArg xs (sl_ix (i := i) (k := 1) (kv := 1) rfl (by omega) hL)) ?_
  refine lv_aload_n hx hb dL_law_1419 rfl (lv_at hl 0 rfl) ?_
  refine lv_iload_n hx hb dL_law_1420 rfl (lv_at hl 3 rfl) ?_
  refine lv_iconst (v := 2) hx hb dL_law_1421 (by decide) ?_
  refine lv_iadd hx hb dL_law_1422 ?_
  refine va_sld hx hb hX hbl hbA hS (sl_in (k := 2) rfl (by omega) hL) dL_law_1423 ?_
  refine tp1i (y := xs (i + 2)) (congrArg xs (sl_ix (i := i) (k := 2) (kv := 2) rfl (by omega) hL)) ?_
  refine lv_aload_n hx hb dL_law_1424 rfl (lv_at hl 0 rfl) ?_
  refine lv_iload_n hx hb dL_law_1425 rfl (lv_at hl 3 rfl) ?_
  refine lv_iconst (v := 3) hx hb dL_law_1426 (by decide) ?_
  refine lv_iadd hx hb dL_law_1427 ?_
  refine va_sld hx hb hX hbl hbA hS (sl_in (k := 3) rfl (by omega) hL) dL_law_1428 ?_
  refine tp1i (y := xs (i + 3)) (congrArg xs (sl_ix (i := i) (k := 3) (kv := 3) rfl (by omega) hL)) ?_
  refine lv_aload_n hx hb dL_law_1429 rfl (lv_at hl 0 rfl) ?_
  refine lv_iload_n hx hb dL_law_1430 rfl (lv_at hl 3 rfl) ?_
  refine lv_iconst (v := 4) hx hb dL_law_1431 (by decide) ?_
  refine lv_iadd hx hb dL_law_1432 ?_
  refine va_sld hx hb hX hbl hbA hS (sl_in (k := 4) rfl (by omega) hL) dL_law_1433 ?_
  refine tp1i (y := xs (i + 4)) (congrArg xs (sl_ix (i := i) (k := 4) (kv := 4) rfl (by omega) hL)) ?_
  suffices key : W p l e room_1 s m #[Value.ref b] below meth c H locs cells slots Q (F0 m 1442 ls [.int (bz (xs (i + 4))), .int (xs (i + 3)), .int (xs (i + 2)), .int (xs (i + 1)), .ref (ad Γ 901)]) by
    refine lv_if_eq (tgt := 1441) hx hb dL_law_1434 (by decide) (fun c1 => ?_) (fun c1 => ?_)
    · refine lv_iconst (v := 0) hx hb dL_law_1441 (by decide) ?_
      exact tp1i (if_pos c1).symm key
    · refine lv_iconst (v := 1) hx hb dL_law_1437 (by decide) ?_
      refine lv_goto (tgt := 1442) hx hb dL_law_1438 (by decide) ?_
      exact tp1i (if_neg c1).symm key
  refine cl_VL (rest := []) (kX9_guarded (l := l) (Γ := Γ) (A := fun q => s.heap.size ≤ q) h1) ⟨hx, hb, hml, hown, htw⟩ hE hw hS (hw _ _ (wf_901 hE)) (q0 := 0) rfl rfl (htw _ mw1154) mw1155 mw1156 mw118 mw1157 pdX9_guarded ⟨Nat.le_of_ble_eq_true rfl, Nat.le_of_ble_eq_true rfl⟩ rfl rfl hl.1 (Nat.le_of_ble_eq_true rfl) dL_law_1442 ⟨by show _ ≤ 600000; omega, by show _ ≤ 7302250; omega⟩ (fun H locs hw hS => ?_)
  refine W.eq (g2 := F0 m 1445 ls [.int v]) rfl ?_
  refine lv_aload_n hx hb dL_law_1445 rfl (lv_at hl 2 rfl) ?_
  refine lv_aload_n hx hb dL_law_1446 rfl (lv_at hl 0 rfl) ?_
  refine lv_iload_n hx hb dL_law_1447 rfl (lv_at hl 3 rfl) ?_
  refine lv_iconst (v := 1) hx hb dL_law_1448 (by decide) ?_
  refine lv_iadd hx hb dL_law_1449 ?_
  refine va_sld hx hb hX hbl hbA hS (sl_in (k := 1) rfl (by omega) hL) dL_law_1450 ?_
  refine tp1i (y := xs (i + 1)) (congrArg xs (sl_ix (i := i) (k := 1) (kv := 1) rfl (by omega) hL)) ?_
  refine lv_aload_n hx hb dL_law_1451 rfl (lv_at hl 0 rfl) ?_
  refine lv_iload_n hx hb dL_law_1452 rfl (lv_at hl 3 rfl) ?_
  refine lv_iconst (v := 2) hx hb dL_law_1453 (by decide) ?_
  refine lv_iadd hx hb dL_law_1454 ?_
  refine va_sld hx hb hX hbl hbA hS (sl_in (k := 2) rfl (by omega) hL) dL_law_1455 ?_
  refine tp1i (y := xs (i + 2)) (congrArg xs (sl_ix (i := i) (k := 2) (kv := 2) rfl (by omega) hL)) ?_
  refine lv_aload_n hx hb dL_law_1456 rfl (lv_at hl 0 rfl) ?_
  refine lv_iload_n hx hb dL_law_1457 rfl (lv_at hl 3 rfl) ?_
  refine lv_iconst (v := 3) hx hb dL_law_1458 (by decide) ?_
  refine lv_iadd hx hb dL_law_1459 ?_
  refine va_sld hx hb hX hbl hbA hS (sl_in (k := 3) rfl (by omega) hL) dL_law_1460 ?_
  refine tp1i (y := xs (i + 3)) (congrArg xs (sl_ix (i := i) (k := 3) (kv := 3) rfl (by omega) hL)) ?_
  refine lv_aload_n hx hb dL_law_1461 rfl (lv_at hl 0 rfl) ?_
  refine lv_iload_n hx hb dL_law_1462 rfl (lv_at hl 3 rfl) ?_
  refine lv_iconst (v := 4) hx hb dL_law_1463 (by decide) ?_
  refine lv_iadd hx hb dL_law_1464 ?_
  refine va_sld hx hb hX hbl hbA hS (sl_in (k := 4) rfl (by omega) hL) dL_law_1465 ?_
  refine tp1i (y := xs (i + 4)) (congrArg xs (sl_ix (i := i) (k := 4) (kv := 4) rfl (by omega) hL)) ?_
  suffices key : W p l e room_1 s m #[Value.ref b] below meth c H locs cells slots Q (F0 m 1474 ls [.int (bz (xs (i + 4))), .int (xs (i + 3)), .int (xs (i + 2)), .int (xs (i + 1)), .ref (ad Γ 1001), .int v]) by
    refine lv_if_eq (tgt := 1473) hx hb dL_law_1466 (by decide) (fun c1 => ?_) (fun c1 => ?_)
    · refine lv_iconst (v := 0) hx hb dL_law_1473 (by decide) ?_
      exact tp1i (if_pos c1).symm key
    · refine lv_iconst (v := 1) hx hb dL_law_1469 (by decide) ?_
      refine lv_goto (tgt := 1474) hx hb dL_law_1470 (by decide) ?_
      exact tp1i (if_neg c1).symm key
  refine cl_VL (rest := [.int v]) (kgX10_guarded (l := l) (Γ := Γ) (A := fun q => s.heap.size ≤ q) (G := g1) (o := 1001) (wf_1001 hE) h2) ⟨hx, hb, hml, hown, htw⟩ hE hw hS (hw _ _ (wf_1001 hE)) (q0 := 0) rfl rfl (htw _ mw1851) mw1852 mw1853 mw129 mw1854 pdX10_guarded ⟨Nat.le_of_ble_eq_true rfl, Nat.le_of_ble_eq_true rfl⟩ rfl rfl hl.1 (Nat.le_of_ble_eq_true rfl) dL_law_1474 ⟨by show _ ≤ 600000; omega, by show _ ≤ 7302250; omega⟩ (fun H locs hw hS => ?_)
  refine W.eq (g2 := F0 m 1477 ls [.int v, .int v]) rfl ?_
  refine lv_icmp_eq (tgt := 1809) hx hb dL_law_1477 (by decide) (fun _ => ?_) (fun c1 => absurd rfl c1)
  refine W.widen (k := cells + 37) (n := slots + 1245) (by omega) (by omega) ?_
  exact kk Γ _ H locs hE hEk (LI.move hLI (by rw [ug_ne (by decide)]; exact h3) (by rw [ug_ne (by decide)]; exact h4)) h5 hw hS rfl rfl
set_option maxRecDepth 100000 in
set_option maxHeartbeats 8000000 in
theorem lc_evening {p : Program} {l : Launch} {e : Env} {s : State} {m : MethodId} {below : List Frame} {meth : Method} {c : Code} {b L : Nat} {xs : Nat → Int32} {Inv : Gs → Prop} (hOb : Ob_evening Inv) (hL : L ≤ 3072) (C0 : lw_At p s m meth c b L xs) {i : Nat} (hi : i + 6 ≤ L) {Γ : Gm} {g : Gs} {H : Heap} {locs : List Loc} {ls : Array Slot} {cells slots : Nat} {Q : State → Prop} (hE : Ev Γ (fun q => s.heap.size ≤ q) s) (hEk : Ek (dd Γ) (ac Γ) s) (hLI : LI Γ g) (hI : Inv g) (hw : Wo Γ g H) (hS : va_S (fun q => s.heap.size ≤ q) s.heap H locs) (hl : lv_has ls 4 [(0, .ref b), (1, .ref (ad Γ 901)), (2, .ref (ad Γ 1001)), (3, .int (nI i))]) (hcs : cells + 37 ≤ 600000 ∧ slots + 1245 ≤ 7302250)
    (kk : ∀ (Γ' : Gm) (g' : Gs) (H : Heap) (locs : List Loc), Ev Γ' (fun q => s.heap.size ≤ q) s → Ek (dd Γ') (ac Γ') s → LI Γ' g' → Inv g' → Wo Γ' g' H → va_S (fun q => s.heap.size ≤ q) s.heap H locs → ad Γ' 901 = ad Γ 901 → ad Γ' 1001 = ad Γ 1001 → W p l e room_1 s m #[Value.ref b] below meth c H locs (cells + 37) (slots + 1245) Q (F0 m 1809 ls [])) : W p l e room_1 s m #[Value.ref b] below meth c H locs cells slots Q (F0 m 1482 ls []) := by
  obtain ⟨hx, hb, hr, hml, hown, hts, hX, hbl, hlocks, hgv⟩ := id C0
  have hown : s.vm.findClass RL = some m.cls := hown
  have htw : ∀ w ∈ WS, w.before #[Value.ref b] s = true := fun w h => hts w (List.mem_filter.mp h).1
  have hbA : ¬ (fun q => s.heap.size ≤ q) b := Nat.not_le.mpr hbl
  obtain ⟨g1, v, r, h1, h2, h3, h4, h5⟩ := hOb g (xs (i + 1)) (xs (i + 2)) (xs (i + 3)) hI
  refine lv_aload_n hx hb dL_law_1482 rfl (lv_at hl 1 rfl) ?_
  refine lv_aload_n hx hb dL_law_1483 rfl (lv_at hl 0 rfl) ?_
  refine lv_iload_n hx hb dL_law_1484 rfl (lv_at hl 3 rfl) ?_
  refine lv_iconst (v := 1) hx hb dL_law_1485 (by decide) ?_
  refine lv_iadd hx hb dL_law_1486 ?_
  refine va_sld hx hb hX hbl hbA hS (sl_in (k := 1) rfl (by omega) hL) dL_law_1487 ?_
  refine tp1i (y := xs (i + 1)) (congrArg xs (sl_ix (i := i) (k := 1) (kv := 1) rfl (by omega) hL)) ?_
  refine lv_aload_n hx hb dL_law_1488 rfl (lv_at hl 0 rfl) ?_
  refine lv_iload_n hx hb dL_law_1489 rfl (lv_at hl 3 rfl) ?_
  refine lv_iconst (v := 2) hx hb dL_law_1490 (by decide) ?_
  refine lv_iadd hx hb dL_law_1491 ?_
  refine va_sld hx hb hX hbl hbA hS (sl_in (k := 2) rfl (by omega) hL) dL_law_1492 ?_
  refine tp1i (y := xs (i + 2)) (congrArg xs (sl_ix (i := i) (k := 2) (kv := 2) rfl (by omega) hL)) ?_
  refine lv_aload_n hx hb dL_law_1493 rfl (lv_at hl 0 rfl) ?_
  refine lv_iload_n hx hb dL_law_1494 rfl (lv_at hl 3 rfl) ?_
  refine lv_iconst (v := 3) hx hb dL_law_1495 (by decide) ?_
  refine lv_iadd hx hb dL_law_1496 ?_
  refine va_sld hx hb hX hbl hbA hS (sl_in (k := 3) rfl (by omega) hL) dL_law_1497 ?_
  refine tp1i (y := xs (i + 3)) (congrArg xs (sl_ix (i := i) (k := 3) (kv := 3) rfl (by omega) hL)) ?_
  refine cl_VL (rest := []) (kX9_evening (l := l) (Γ := Γ) (A := fun q => s.heap.size ≤ q) h1) ⟨hx, hb, hml, hown, htw⟩ hE hw hS (hw _ _ (wf_901 hE)) (q0 := 0) rfl rfl (htw _ mw1163) mw1164 mw1165 mw118 mw1166 pdX9_evening ⟨Nat.le_of_ble_eq_true rfl, Nat.le_of_ble_eq_true rfl⟩ rfl rfl hl.1 (Nat.le_of_ble_eq_true rfl) dL_law_1498 ⟨by show _ ≤ 600000; omega, by show _ ≤ 7302250; omega⟩ (fun H locs hw hS => ?_)
  refine W.eq (g2 := F0 m 1501 ls [.int v]) rfl ?_
  refine lv_aload_n hx hb dL_law_1501 rfl (lv_at hl 2 rfl) ?_
  refine lv_aload_n hx hb dL_law_1502 rfl (lv_at hl 0 rfl) ?_
  refine lv_iload_n hx hb dL_law_1503 rfl (lv_at hl 3 rfl) ?_
  refine lv_iconst (v := 1) hx hb dL_law_1504 (by decide) ?_
  refine lv_iadd hx hb dL_law_1505 ?_
  refine va_sld hx hb hX hbl hbA hS (sl_in (k := 1) rfl (by omega) hL) dL_law_1506 ?_
  refine tp1i (y := xs (i + 1)) (congrArg xs (sl_ix (i := i) (k := 1) (kv := 1) rfl (by omega) hL)) ?_
  refine lv_aload_n hx hb dL_law_1507 rfl (lv_at hl 0 rfl) ?_
  refine lv_iload_n hx hb dL_law_1508 rfl (lv_at hl 3 rfl) ?_
  refine lv_iconst (v := 2) hx hb dL_law_1509 (by decide) ?_
  refine lv_iadd hx hb dL_law_1510 ?_
  refine va_sld hx hb hX hbl hbA hS (sl_in (k := 2) rfl (by omega) hL) dL_law_1511 ?_
  refine tp1i (y := xs (i + 2)) (congrArg xs (sl_ix (i := i) (k := 2) (kv := 2) rfl (by omega) hL)) ?_
  refine lv_aload_n hx hb dL_law_1512 rfl (lv_at hl 0 rfl) ?_
  refine lv_iload_n hx hb dL_law_1513 rfl (lv_at hl 3 rfl) ?_
  refine lv_iconst (v := 3) hx hb dL_law_1514 (by decide) ?_
  refine lv_iadd hx hb dL_law_1515 ?_
  refine va_sld hx hb hX hbl hbA hS (sl_in (k := 3) rfl (by omega) hL) dL_law_1516 ?_
  refine tp1i (y := xs (i + 3)) (congrArg xs (sl_ix (i := i) (k := 3) (kv := 3) rfl (by omega) hL)) ?_
  refine cl_VL (rest := [.int v]) (kgX10_evening (l := l) (Γ := Γ) (A := fun q => s.heap.size ≤ q) (G := g1) (o := 1001) (wf_1001 hE) h2) ⟨hx, hb, hml, hown, htw⟩ hE hw hS (hw _ _ (wf_1001 hE)) (q0 := 0) rfl rfl (htw _ mw1855) mw1856 mw1857 mw129 mw1858 pdX10_evening ⟨Nat.le_of_ble_eq_true rfl, Nat.le_of_ble_eq_true rfl⟩ rfl rfl hl.1 (Nat.le_of_ble_eq_true rfl) dL_law_1517 ⟨by show _ ≤ 600000; omega, by show _ ≤ 7302250; omega⟩ (fun H locs hw hS => ?_)
  refine W.eq (g2 := F0 m 1520 ls [.int v, .int v]) rfl ?_
  refine lv_icmp_eq (tgt := 1809) hx hb dL_law_1520 (by decide) (fun _ => ?_) (fun c1 => absurd rfl c1)
  refine W.widen (k := cells + 37) (n := slots + 1245) (by omega) (by omega) ?_
  exact kk Γ _ H locs hE hEk (LI.move hLI (by rw [ug_ne (by decide)]; exact h3) (by rw [ug_ne (by decide)]; exact h4)) h5 hw hS rfl rfl
set_option maxRecDepth 100000 in
set_option maxHeartbeats 8000000 in
theorem lc_leaks {p : Program} {l : Launch} {e : Env} {s : State} {m : MethodId} {below : List Frame} {meth : Method} {c : Code} {b L : Nat} {xs : Nat → Int32} {Inv : Gs → Prop} (hOb : Ob_leaks Inv) (hL : L ≤ 3072) (C0 : lw_At p s m meth c b L xs) {i : Nat} (hi : i + 6 ≤ L) {Γ : Gm} {g : Gs} {H : Heap} {locs : List Loc} {ls : Array Slot} {cells slots : Nat} {Q : State → Prop} (hE : Ev Γ (fun q => s.heap.size ≤ q) s) (hEk : Ek (dd Γ) (ac Γ) s) (hLI : LI Γ g) (hI : Inv g) (hw : Wo Γ g H) (hS : va_S (fun q => s.heap.size ≤ q) s.heap H locs) (hl : lv_has ls 4 [(0, .ref b), (1, .ref (ad Γ 901)), (2, .ref (ad Γ 1001)), (3, .int (nI i))]) (hcs : cells + 37 ≤ 600000 ∧ slots + 1245 ≤ 7302250)
    (kk : ∀ (Γ' : Gm) (g' : Gs) (H : Heap) (locs : List Loc), Ev Γ' (fun q => s.heap.size ≤ q) s → Ek (dd Γ') (ac Γ') s → LI Γ' g' → Inv g' → Wo Γ' g' H → va_S (fun q => s.heap.size ≤ q) s.heap H locs → ad Γ' 901 = ad Γ 901 → ad Γ' 1001 = ad Γ 1001 → W p l e room_1 s m #[Value.ref b] below meth c H locs (cells + 37) (slots + 1245) Q (F0 m 1809 ls [])) : W p l e room_1 s m #[Value.ref b] below meth c H locs cells slots Q (F0 m 1525 ls []) := by
  obtain ⟨hx, hb, hr, hml, hown, hts, hX, hbl, hlocks, hgv⟩ := id C0
  have hown : s.vm.findClass RL = some m.cls := hown
  have htw : ∀ w ∈ WS, w.before #[Value.ref b] s = true := fun w h => hts w (List.mem_filter.mp h).1
  have hbA : ¬ (fun q => s.heap.size ≤ q) b := Nat.not_le.mpr hbl
  obtain ⟨v, r, h1, h2, h5⟩ := hOb g (xs (i + 1)) (xs (i + 2)) (bz (xs (i + 3))) hI (bz_or _)
  refine lv_aload_n hx hb dL_law_1525 rfl (lv_at hl 1 rfl) ?_
  refine lv_aload_n hx hb dL_law_1526 rfl (lv_at hl 0 rfl) ?_
  refine lv_iload_n hx hb dL_law_1527 rfl (lv_at hl 3 rfl) ?_
  refine lv_iconst (v := 1) hx hb dL_law_1528 (by decide) ?_
  refine lv_iadd hx hb dL_law_1529 ?_
  refine va_sld hx hb hX hbl hbA hS (sl_in (k := 1) rfl (by omega) hL) dL_law_1530 ?_
  refine tp1i (y := xs (i + 1)) (congrArg xs (sl_ix (i := i) (k := 1) (kv := 1) rfl (by omega) hL)) ?_
  refine lv_aload_n hx hb dL_law_1531 rfl (lv_at hl 0 rfl) ?_
  refine lv_iload_n hx hb dL_law_1532 rfl (lv_at hl 3 rfl) ?_
  refine lv_iconst (v := 2) hx hb dL_law_1533 (by decide) ?_
  refine lv_iadd hx hb dL_law_1534 ?_
  refine va_sld hx hb hX hbl hbA hS (sl_in (k := 2) rfl (by omega) hL) dL_law_1535 ?_
  refine tp1i (y := xs (i + 2)) (congrArg xs (sl_ix (i := i) (k := 2) (kv := 2) rfl (by omega) hL)) ?_
  refine lv_aload_n hx hb dL_law_1536 rfl (lv_at hl 0 rfl) ?_
  refine lv_iload_n hx hb dL_law_1537 rfl (lv_at hl 3 rfl) ?_
  refine lv_iconst (v := 3) hx hb dL_law_1538 (by decide) ?_
  refine lv_iadd hx hb dL_law_1539 ?_
  refine va_sld hx hb hX hbl hbA hS (sl_in (k := 3) rfl (by omega) hL) dL_law_1540 ?_
  refine tp1i (y := xs (i + 3)) (congrArg xs (sl_ix (i := i) (k := 3) (kv := 3) rfl (by omega) hL)) ?_
  suffices key : W p l e room_1 s m #[Value.ref b] below meth c H locs cells slots Q (F0 m 1549 ls [.int (bz (xs (i + 3))), .int (xs (i + 2)), .int (xs (i + 1)), .ref (ad Γ 901)]) by
    refine lv_if_eq (tgt := 1548) hx hb dL_law_1541 (by decide) (fun c1 => ?_) (fun c1 => ?_)
    · refine lv_iconst (v := 0) hx hb dL_law_1548 (by decide) ?_
      exact tp1i (if_pos c1).symm key
    · refine lv_iconst (v := 1) hx hb dL_law_1544 (by decide) ?_
      refine lv_goto (tgt := 1549) hx hb dL_law_1545 (by decide) ?_
      exact tp1i (if_neg c1).symm key
  refine cl_VL (rest := []) (kX9_leaks (l := l) (Γ := Γ) (A := fun q => s.heap.size ≤ q) h1) ⟨hx, hb, hml, hown, htw⟩ hE hw hS (hw _ _ (wf_901 hE)) (q0 := 0) rfl rfl (htw _ mw1176) mw1177 mw1178 mw118 mw1179 pdX9_leaks ⟨Nat.le_of_ble_eq_true rfl, Nat.le_of_ble_eq_true rfl⟩ rfl rfl hl.1 (Nat.le_of_ble_eq_true rfl) dL_law_1549 ⟨by show _ ≤ 600000; omega, by show _ ≤ 7302250; omega⟩ (fun H locs hw hS => ?_)
  refine W.eq (g2 := F0 m 1552 ls [.long v]) rfl ?_
  refine lv_aload_n hx hb dL_law_1552 rfl (lv_at hl 2 rfl) ?_
  refine lv_aload_n hx hb dL_law_1553 rfl (lv_at hl 0 rfl) ?_
  refine lv_iload_n hx hb dL_law_1554 rfl (lv_at hl 3 rfl) ?_
  refine lv_iconst (v := 1) hx hb dL_law_1555 (by decide) ?_
  refine lv_iadd hx hb dL_law_1556 ?_
  refine va_sld hx hb hX hbl hbA hS (sl_in (k := 1) rfl (by omega) hL) dL_law_1557 ?_
  refine tp1i (y := xs (i + 1)) (congrArg xs (sl_ix (i := i) (k := 1) (kv := 1) rfl (by omega) hL)) ?_
  refine lv_aload_n hx hb dL_law_1558 rfl (lv_at hl 0 rfl) ?_
  refine lv_iload_n hx hb dL_law_1559 rfl (lv_at hl 3 rfl) ?_
  refine lv_iconst (v := 2) hx hb dL_law_1560 (by decide) ?_
  refine lv_iadd hx hb dL_law_1561 ?_
  refine va_sld hx hb hX hbl hbA hS (sl_in (k := 2) rfl (by omega) hL) dL_law_1562 ?_
  refine tp1i (y := xs (i + 2)) (congrArg xs (sl_ix (i := i) (k := 2) (kv := 2) rfl (by omega) hL)) ?_
  refine lv_aload_n hx hb dL_law_1563 rfl (lv_at hl 0 rfl) ?_
  refine lv_iload_n hx hb dL_law_1564 rfl (lv_at hl 3 rfl) ?_
  refine lv_iconst (v := 3) hx hb dL_law_1565 (by decide) ?_
  refine lv_iadd hx hb dL_law_1566 ?_
  refine va_sld hx hb hX hbl hbA hS (sl_in (k := 3) rfl (by omega) hL) dL_law_1567 ?_
  refine tp1i (y := xs (i + 3)) (congrArg xs (sl_ix (i := i) (k := 3) (kv := 3) rfl (by omega) hL)) ?_
  suffices key : W p l e room_1 s m #[Value.ref b] below meth c H locs cells slots Q (F0 m 1576 ls [.int (bz (xs (i + 3))), .int (xs (i + 2)), .int (xs (i + 1)), .ref (ad Γ 1001), .long v]) by
    refine lv_if_eq (tgt := 1575) hx hb dL_law_1568 (by decide) (fun c1 => ?_) (fun c1 => ?_)
    · refine lv_iconst (v := 0) hx hb dL_law_1575 (by decide) ?_
      exact tp1i (if_pos c1).symm key
    · refine lv_iconst (v := 1) hx hb dL_law_1571 (by decide) ?_
      refine lv_goto (tgt := 1576) hx hb dL_law_1572 (by decide) ?_
      exact tp1i (if_neg c1).symm key
  refine cl_VL (rest := [.long v]) (kgX10_leaks (l := l) (Γ := Γ) (A := fun q => s.heap.size ≤ q) (G := g) (o := 1001) (wf_1001 hE) h2) ⟨hx, hb, hml, hown, htw⟩ hE hw hS (hw _ _ (wf_1001 hE)) (q0 := 0) rfl rfl (htw _ mw1859) mw1860 mw1861 mw129 mw1862 pdX10_leaks ⟨Nat.le_of_ble_eq_true rfl, Nat.le_of_ble_eq_true rfl⟩ rfl rfl hl.1 (Nat.le_of_ble_eq_true rfl) dL_law_1576 ⟨by show _ ≤ 600000; omega, by show _ ≤ 7302250; omega⟩ (fun H locs hw hS => ?_)
  refine W.eq (g2 := F0 m 1579 ls [.long v, .long v]) rfl ?_
  refine W.lcmp hx hb dL_law_1579 ?_
  refine lv_if_eq (tgt := 1809) hx hb dL_law_1580 (by decide) (fun _ => ?_) (fun c1 => absurd (by simp [lg_cmp]) c1)
  refine W.widen (k := cells + 37) (n := slots + 1245) (by omega) (by omega) ?_
  exact kk Γ _ H locs hE hEk (LI.move hLI (by rw [ug_ne (by decide)]) (by rw [ug_ne (by decide)]; exact hLI.2.2.2.2)) h5 hw hS rfl rfl
set_option maxRecDepth 100000 in
set_option maxHeartbeats 8000000 in
theorem lc_cut {p : Program} {l : Launch} {e : Env} {s : State} {m : MethodId} {below : List Frame} {meth : Method} {c : Code} {b L : Nat} {xs : Nat → Int32} {Inv : Gs → Prop} (hOb : Ob_cut Inv) (hL : L ≤ 3072) (C0 : lw_At p s m meth c b L xs) {i : Nat} (hi : i + 6 ≤ L) {Γ : Gm} {g : Gs} {H : Heap} {locs : List Loc} {ls : Array Slot} {cells slots : Nat} {Q : State → Prop} (hE : Ev Γ (fun q => s.heap.size ≤ q) s) (hEk : Ek (dd Γ) (ac Γ) s) (hLI : LI Γ g) (hI : Inv g) (hw : Wo Γ g H) (hS : va_S (fun q => s.heap.size ≤ q) s.heap H locs) (hl : lv_has ls 4 [(0, .ref b), (1, .ref (ad Γ 901)), (2, .ref (ad Γ 1001)), (3, .int (nI i))]) (hcs : cells + 37 ≤ 600000 ∧ slots + 1245 ≤ 7302250)
    (kk : ∀ (Γ' : Gm) (g' : Gs) (H : Heap) (locs : List Loc), Ev Γ' (fun q => s.heap.size ≤ q) s → Ek (dd Γ') (ac Γ') s → LI Γ' g' → Inv g' → Wo Γ' g' H → va_S (fun q => s.heap.size ≤ q) s.heap H locs → ad Γ' 901 = ad Γ 901 → ad Γ' 1001 = ad Γ 1001 → W p l e room_1 s m #[Value.ref b] below meth c H locs (cells + 37) (slots + 1245) Q (F0 m 1809 ls [])) : W p l e room_1 s m #[Value.ref b] below meth c H locs cells slots Q (F0 m 1585 ls []) := by
  obtain ⟨hx, hb, hr, hml, hown, hts, hX, hbl, hlocks, hgv⟩ := id C0
  have hown : s.vm.findClass RL = some m.cls := hown
  have htw : ∀ w ∈ WS, w.before #[Value.ref b] s = true := fun w h => hts w (List.mem_filter.mp h).1
  have hbA : ¬ (fun q => s.heap.size ≤ q) b := Nat.not_le.mpr hbl
  obtain ⟨v, r, h1, h2, h5⟩ := hOb g (xs (i + 1)) (xs (i + 2)) (bz (xs (i + 3))) hI (bz_or _)
  refine lv_aload_n hx hb dL_law_1585 rfl (lv_at hl 1 rfl) ?_
  refine lv_aload_n hx hb dL_law_1586 rfl (lv_at hl 0 rfl) ?_
  refine lv_iload_n hx hb dL_law_1587 rfl (lv_at hl 3 rfl) ?_
  refine lv_iconst (v := 1) hx hb dL_law_1588 (by decide) ?_
  refine lv_iadd hx hb dL_law_1589 ?_
  refine va_sld hx hb hX hbl hbA hS (sl_in (k := 1) rfl (by omega) hL) dL_law_1590 ?_
  refine tp1i (y := xs (i + 1)) (congrArg xs (sl_ix (i := i) (k := 1) (kv := 1) rfl (by omega) hL)) ?_
  refine lv_aload_n hx hb dL_law_1591 rfl (lv_at hl 0 rfl) ?_
  refine lv_iload_n hx hb dL_law_1592 rfl (lv_at hl 3 rfl) ?_
  refine lv_iconst (v := 2) hx hb dL_law_1593 (by decide) ?_
  refine lv_iadd hx hb dL_law_1594 ?_
  refine va_sld hx hb hX hbl hbA hS (sl_in (k := 2) rfl (by omega) hL) dL_law_1595 ?_
  refine tp1i (y := xs (i + 2)) (congrArg xs (sl_ix (i := i) (k := 2) (kv := 2) rfl (by omega) hL)) ?_
  refine lv_aload_n hx hb dL_law_1596 rfl (lv_at hl 0 rfl) ?_
  refine lv_iload_n hx hb dL_law_1597 rfl (lv_at hl 3 rfl) ?_
  refine lv_iconst (v := 3) hx hb dL_law_1598 (by decide) ?_
  refine lv_iadd hx hb dL_law_1599 ?_
  refine va_sld hx hb hX hbl hbA hS (sl_in (k := 3) rfl (by omega) hL) dL_law_1600 ?_
  refine tp1i (y := xs (i + 3)) (congrArg xs (sl_ix (i := i) (k := 3) (kv := 3) rfl (by omega) hL)) ?_
  suffices key : W p l e room_1 s m #[Value.ref b] below meth c H locs cells slots Q (F0 m 1609 ls [.int (bz (xs (i + 3))), .int (xs (i + 2)), .int (xs (i + 1)), .ref (ad Γ 901)]) by
    refine lv_if_eq (tgt := 1608) hx hb dL_law_1601 (by decide) (fun c1 => ?_) (fun c1 => ?_)
    · refine lv_iconst (v := 0) hx hb dL_law_1608 (by decide) ?_
      exact tp1i (if_pos c1).symm key
    · refine lv_iconst (v := 1) hx hb dL_law_1604 (by decide) ?_
      refine lv_goto (tgt := 1609) hx hb dL_law_1605 (by decide) ?_
      exact tp1i (if_neg c1).symm key
  refine cl_VL (rest := []) (kX9_cut (l := l) (Γ := Γ) (A := fun q => s.heap.size ≤ q) h1) ⟨hx, hb, hml, hown, htw⟩ hE hw hS (hw _ _ (wf_901 hE)) (q0 := 0) rfl rfl (htw _ mw1184) mw1185 mw1186 mw118 mw1187 pdX9_cut ⟨Nat.le_of_ble_eq_true rfl, Nat.le_of_ble_eq_true rfl⟩ rfl rfl hl.1 (Nat.le_of_ble_eq_true rfl) dL_law_1609 ⟨by show _ ≤ 600000; omega, by show _ ≤ 7302250; omega⟩ (fun H locs hw hS => ?_)
  refine W.eq (g2 := F0 m 1612 ls [.int v]) rfl ?_
  refine lv_aload_n hx hb dL_law_1612 rfl (lv_at hl 2 rfl) ?_
  refine lv_aload_n hx hb dL_law_1613 rfl (lv_at hl 0 rfl) ?_
  refine lv_iload_n hx hb dL_law_1614 rfl (lv_at hl 3 rfl) ?_
  refine lv_iconst (v := 1) hx hb dL_law_1615 (by decide) ?_
  refine lv_iadd hx hb dL_law_1616 ?_
  refine va_sld hx hb hX hbl hbA hS (sl_in (k := 1) rfl (by omega) hL) dL_law_1617 ?_
  refine tp1i (y := xs (i + 1)) (congrArg xs (sl_ix (i := i) (k := 1) (kv := 1) rfl (by omega) hL)) ?_
  refine lv_aload_n hx hb dL_law_1618 rfl (lv_at hl 0 rfl) ?_
  refine lv_iload_n hx hb dL_law_1619 rfl (lv_at hl 3 rfl) ?_
  refine lv_iconst (v := 2) hx hb dL_law_1620 (by decide) ?_
  refine lv_iadd hx hb dL_law_1621 ?_
  refine va_sld hx hb hX hbl hbA hS (sl_in (k := 2) rfl (by omega) hL) dL_law_1622 ?_
  refine tp1i (y := xs (i + 2)) (congrArg xs (sl_ix (i := i) (k := 2) (kv := 2) rfl (by omega) hL)) ?_
  refine lv_aload_n hx hb dL_law_1623 rfl (lv_at hl 0 rfl) ?_
  refine lv_iload_n hx hb dL_law_1624 rfl (lv_at hl 3 rfl) ?_
  refine lv_iconst (v := 3) hx hb dL_law_1625 (by decide) ?_
  refine lv_iadd hx hb dL_law_1626 ?_
  refine va_sld hx hb hX hbl hbA hS (sl_in (k := 3) rfl (by omega) hL) dL_law_1627 ?_
  refine tp1i (y := xs (i + 3)) (congrArg xs (sl_ix (i := i) (k := 3) (kv := 3) rfl (by omega) hL)) ?_
  suffices key : W p l e room_1 s m #[Value.ref b] below meth c H locs cells slots Q (F0 m 1636 ls [.int (bz (xs (i + 3))), .int (xs (i + 2)), .int (xs (i + 1)), .ref (ad Γ 1001), .int v]) by
    refine lv_if_eq (tgt := 1635) hx hb dL_law_1628 (by decide) (fun c1 => ?_) (fun c1 => ?_)
    · refine lv_iconst (v := 0) hx hb dL_law_1635 (by decide) ?_
      exact tp1i (if_pos c1).symm key
    · refine lv_iconst (v := 1) hx hb dL_law_1631 (by decide) ?_
      refine lv_goto (tgt := 1636) hx hb dL_law_1632 (by decide) ?_
      exact tp1i (if_neg c1).symm key
  refine cl_VL (rest := [.int v]) (kgX10_cut (l := l) (Γ := Γ) (A := fun q => s.heap.size ≤ q) (G := g) (o := 1001) (wf_1001 hE) h2) ⟨hx, hb, hml, hown, htw⟩ hE hw hS (hw _ _ (wf_1001 hE)) (q0 := 0) rfl rfl (htw _ mw1863) mw1864 mw1865 mw129 mw1866 pdX10_cut ⟨Nat.le_of_ble_eq_true rfl, Nat.le_of_ble_eq_true rfl⟩ rfl rfl hl.1 (Nat.le_of_ble_eq_true rfl) dL_law_1636 ⟨by show _ ≤ 600000; omega, by show _ ≤ 7302250; omega⟩ (fun H locs hw hS => ?_)
  refine W.eq (g2 := F0 m 1639 ls [.int v, .int v]) rfl ?_
  refine lv_icmp_eq (tgt := 1809) hx hb dL_law_1639 (by decide) (fun _ => ?_) (fun c1 => absurd rfl c1)
  refine W.widen (k := cells + 37) (n := slots + 1245) (by omega) (by omega) ?_
  exact kk Γ _ H locs hE hEk (LI.move hLI (by rw [ug_ne (by decide)]) (by rw [ug_ne (by decide)]; exact hLI.2.2.2.2)) h5 hw hS rfl rfl
set_option maxRecDepth 100000 in
set_option maxHeartbeats 8000000 in
theorem lc_after {p : Program} {l : Launch} {e : Env} {s : State} {m : MethodId} {below : List Frame} {meth : Method} {c : Code} {b L : Nat} {xs : Nat → Int32} {Inv : Gs → Prop} (hOb : Ob_after Inv) (hL : L ≤ 3072) (C0 : lw_At p s m meth c b L xs) {i : Nat} (hi : i + 6 ≤ L) {Γ : Gm} {g : Gs} {H : Heap} {locs : List Loc} {ls : Array Slot} {cells slots : Nat} {Q : State → Prop} (hE : Ev Γ (fun q => s.heap.size ≤ q) s) (hEk : Ek (dd Γ) (ac Γ) s) (hLI : LI Γ g) (hI : Inv g) (hw : Wo Γ g H) (hS : va_S (fun q => s.heap.size ≤ q) s.heap H locs) (hl : lv_has ls 4 [(0, .ref b), (1, .ref (ad Γ 901)), (2, .ref (ad Γ 1001)), (3, .int (nI i))]) (hcs : cells + 37 ≤ 600000 ∧ slots + 1245 ≤ 7302250)
    (kk : ∀ (Γ' : Gm) (g' : Gs) (H : Heap) (locs : List Loc), Ev Γ' (fun q => s.heap.size ≤ q) s → Ek (dd Γ') (ac Γ') s → LI Γ' g' → Inv g' → Wo Γ' g' H → va_S (fun q => s.heap.size ≤ q) s.heap H locs → ad Γ' 901 = ad Γ 901 → ad Γ' 1001 = ad Γ 1001 → W p l e room_1 s m #[Value.ref b] below meth c H locs (cells + 37) (slots + 1245) Q (F0 m 1809 ls [])) : W p l e room_1 s m #[Value.ref b] below meth c H locs cells slots Q (F0 m 1644 ls []) := by
  obtain ⟨hx, hb, hr, hml, hown, hts, hX, hbl, hlocks, hgv⟩ := id C0
  have hown : s.vm.findClass RL = some m.cls := hown
  have htw : ∀ w ∈ WS, w.before #[Value.ref b] s = true := fun w h => hts w (List.mem_filter.mp h).1
  have hbA : ¬ (fun q => s.heap.size ≤ q) b := Nat.not_le.mpr hbl
  obtain ⟨g1, v, r, h1, h2, h3, h4, h5⟩ := hOb g (xs (i + 1)) (xs (i + 2)) (xs (i + 3)) hI
  refine lv_aload_n hx hb dL_law_1644 rfl (lv_at hl 1 rfl) ?_
  refine lv_aload_n hx hb dL_law_1645 rfl (lv_at hl 0 rfl) ?_
  refine lv_iload_n hx hb dL_law_1646 rfl (lv_at hl 3 rfl) ?_
  refine lv_iconst (v := 1) hx hb dL_law_1647 (by decide) ?_
  refine lv_iadd hx hb dL_law_1648 ?_
  refine va_sld hx hb hX hbl hbA hS (sl_in (k := 1) rfl (by omega) hL) dL_law_1649 ?_
  refine tp1i (y := xs (i + 1)) (congrArg xs (sl_ix (i := i) (k := 1) (kv := 1) rfl (by omega) hL)) ?_
  refine lv_aload_n hx hb dL_law_1650 rfl (lv_at hl 0 rfl) ?_
  refine lv_iload_n hx hb dL_law_1651 rfl (lv_at hl 3 rfl) ?_
  refine lv_iconst (v := 2) hx hb dL_law_1652 (by decide) ?_
  refine lv_iadd hx hb dL_law_1653 ?_
  refine va_sld hx hb hX hbl hbA hS (sl_in (k := 2) rfl (by omega) hL) dL_law_1654 ?_
  refine tp1i (y := xs (i + 2)) (congrArg xs (sl_ix (i := i) (k := 2) (kv := 2) rfl (by omega) hL)) ?_
  refine lv_aload_n hx hb dL_law_1655 rfl (lv_at hl 0 rfl) ?_
  refine lv_iload_n hx hb dL_law_1656 rfl (lv_at hl 3 rfl) ?_
  refine lv_iconst (v := 3) hx hb dL_law_1657 (by decide) ?_
  refine lv_iadd hx hb dL_law_1658 ?_
  refine va_sld hx hb hX hbl hbA hS (sl_in (k := 3) rfl (by omega) hL) dL_law_1659 ?_
  refine tp1i (y := xs (i + 3)) (congrArg xs (sl_ix (i := i) (k := 3) (kv := 3) rfl (by omega) hL)) ?_
  refine cl_VL (rest := []) (kX9_after (l := l) (Γ := Γ) (A := fun q => s.heap.size ≤ q) h1) ⟨hx, hb, hml, hown, htw⟩ hE hw hS (hw _ _ (wf_901 hE)) (q0 := 0) rfl rfl (htw _ mw1197) mw1198 mw1199 mw118 mw1200 pdX9_after ⟨Nat.le_of_ble_eq_true rfl, Nat.le_of_ble_eq_true rfl⟩ rfl rfl hl.1 (Nat.le_of_ble_eq_true rfl) dL_law_1660 ⟨by show _ ≤ 600000; omega, by show _ ≤ 7302250; omega⟩ (fun H locs hw hS => ?_)
  refine W.eq (g2 := F0 m 1663 ls [.int v]) rfl ?_
  refine lv_aload_n hx hb dL_law_1663 rfl (lv_at hl 2 rfl) ?_
  refine lv_aload_n hx hb dL_law_1664 rfl (lv_at hl 0 rfl) ?_
  refine lv_iload_n hx hb dL_law_1665 rfl (lv_at hl 3 rfl) ?_
  refine lv_iconst (v := 1) hx hb dL_law_1666 (by decide) ?_
  refine lv_iadd hx hb dL_law_1667 ?_
  refine va_sld hx hb hX hbl hbA hS (sl_in (k := 1) rfl (by omega) hL) dL_law_1668 ?_
  refine tp1i (y := xs (i + 1)) (congrArg xs (sl_ix (i := i) (k := 1) (kv := 1) rfl (by omega) hL)) ?_
  refine lv_aload_n hx hb dL_law_1669 rfl (lv_at hl 0 rfl) ?_
  refine lv_iload_n hx hb dL_law_1670 rfl (lv_at hl 3 rfl) ?_
  refine lv_iconst (v := 2) hx hb dL_law_1671 (by decide) ?_
  refine lv_iadd hx hb dL_law_1672 ?_
  refine va_sld hx hb hX hbl hbA hS (sl_in (k := 2) rfl (by omega) hL) dL_law_1673 ?_
  refine tp1i (y := xs (i + 2)) (congrArg xs (sl_ix (i := i) (k := 2) (kv := 2) rfl (by omega) hL)) ?_
  refine lv_aload_n hx hb dL_law_1674 rfl (lv_at hl 0 rfl) ?_
  refine lv_iload_n hx hb dL_law_1675 rfl (lv_at hl 3 rfl) ?_
  refine lv_iconst (v := 3) hx hb dL_law_1676 (by decide) ?_
  refine lv_iadd hx hb dL_law_1677 ?_
  refine va_sld hx hb hX hbl hbA hS (sl_in (k := 3) rfl (by omega) hL) dL_law_1678 ?_
  refine tp1i (y := xs (i + 3)) (congrArg xs (sl_ix (i := i) (k := 3) (kv := 3) rfl (by omega) hL)) ?_
  refine cl_VL (rest := [.int v]) (kgX10_after (l := l) (Γ := Γ) (A := fun q => s.heap.size ≤ q) (G := g1) (o := 1001) (wf_1001 hE) h2) ⟨hx, hb, hml, hown, htw⟩ hE hw hS (hw _ _ (wf_1001 hE)) (q0 := 0) rfl rfl (htw _ mw1867) mw1868 mw1869 mw129 mw1870 pdX10_after ⟨Nat.le_of_ble_eq_true rfl, Nat.le_of_ble_eq_true rfl⟩ rfl rfl hl.1 (Nat.le_of_ble_eq_true rfl) dL_law_1679 ⟨by show _ ≤ 600000; omega, by show _ ≤ 7302250; omega⟩ (fun H locs hw hS => ?_)
  refine W.eq (g2 := F0 m 1682 ls [.int v, .int v]) rfl ?_
  refine lv_icmp_eq (tgt := 1809) hx hb dL_law_1682 (by decide) (fun _ => ?_) (fun c1 => absurd rfl c1)
  refine W.widen (k := cells + 37) (n := slots + 1245) (by omega) (by omega) ?_
  exact kk Γ _ H locs hE hEk (LI.move hLI (by rw [ug_ne (by decide)]; exact h3) (by rw [ug_ne (by decide)]; exact h4)) h5 hw hS rfl rfl
set_option maxRecDepth 100000 in
set_option maxHeartbeats 8000000 in
theorem lc_would {p : Program} {l : Launch} {e : Env} {s : State} {m : MethodId} {below : List Frame} {meth : Method} {c : Code} {b L : Nat} {xs : Nat → Int32} {Inv : Gs → Prop} (hOb : Ob_would Inv) (hL : L ≤ 3072) (C0 : lw_At p s m meth c b L xs) {i : Nat} (hi : i + 6 ≤ L) {Γ : Gm} {g : Gs} {H : Heap} {locs : List Loc} {ls : Array Slot} {cells slots : Nat} {Q : State → Prop} (hE : Ev Γ (fun q => s.heap.size ≤ q) s) (hEk : Ek (dd Γ) (ac Γ) s) (hLI : LI Γ g) (hI : Inv g) (hw : Wo Γ g H) (hS : va_S (fun q => s.heap.size ≤ q) s.heap H locs) (hl : lv_has ls 4 [(0, .ref b), (1, .ref (ad Γ 901)), (2, .ref (ad Γ 1001)), (3, .int (nI i))]) (hcs : cells + 37 ≤ 600000 ∧ slots + 1245 ≤ 7302250)
    (kk : ∀ (Γ' : Gm) (g' : Gs) (H : Heap) (locs : List Loc), Ev Γ' (fun q => s.heap.size ≤ q) s → Ek (dd Γ') (ac Γ') s → LI Γ' g' → Inv g' → Wo Γ' g' H → va_S (fun q => s.heap.size ≤ q) s.heap H locs → ad Γ' 901 = ad Γ 901 → ad Γ' 1001 = ad Γ 1001 → W p l e room_1 s m #[Value.ref b] below meth c H locs (cells + 37) (slots + 1245) Q (F0 m 1809 ls [])) : W p l e room_1 s m #[Value.ref b] below meth c H locs cells slots Q (F0 m 1687 ls []) := by
  obtain ⟨hx, hb, hr, hml, hown, hts, hX, hbl, hlocks, hgv⟩ := id C0
  have hown : s.vm.findClass RL = some m.cls := hown
  have htw : ∀ w ∈ WS, w.before #[Value.ref b] s = true := fun w h => hts w (List.mem_filter.mp h).1
  have hbA : ¬ (fun q => s.heap.size ≤ q) b := Nat.not_le.mpr hbl
  obtain ⟨g1, v, r, h1, h2, h3, h4, h5⟩ := hOb g (xs (i + 1)) (xs (i + 2)) (xs (i + 3)) (xs (i + 4)) hI
  refine lv_aload_n hx hb dL_law_1687 rfl (lv_at hl 1 rfl) ?_
  refine lv_aload_n hx hb dL_law_1688 rfl (lv_at hl 0 rfl) ?_
  refine lv_iload_n hx hb dL_law_1689 rfl (lv_at hl 3 rfl) ?_
  refine lv_iconst (v := 1) hx hb dL_law_1690 (by decide) ?_
  refine lv_iadd hx hb dL_law_1691 ?_
  refine va_sld hx hb hX hbl hbA hS (sl_in (k := 1) rfl (by omega) hL) dL_law_1692 ?_
  refine tp1i (y := xs (i + 1)) (congrArg xs (sl_ix (i := i) (k := 1) (kv := 1) rfl (by omega) hL)) ?_
  refine lv_aload_n hx hb dL_law_1693 rfl (lv_at hl 0 rfl) ?_
  refine lv_iload_n hx hb dL_law_1694 rfl (lv_at hl 3 rfl) ?_
  refine lv_iconst (v := 2) hx hb dL_law_1695 (by decide) ?_
  refine lv_iadd hx hb dL_law_1696 ?_
  refine va_sld hx hb hX hbl hbA hS (sl_in (k := 2) rfl (by omega) hL) dL_law_1697 ?_
  refine tp1i (y := xs (i + 2)) (congrArg xs (sl_ix (i := i) (k := 2) (kv := 2) rfl (by omega) hL)) ?_
  refine lv_aload_n hx hb dL_law_1698 rfl (lv_at hl 0 rfl) ?_
  refine lv_iload_n hx hb dL_law_1699 rfl (lv_at hl 3 rfl) ?_
  refine lv_iconst (v := 3) hx hb dL_law_1700 (by decide) ?_
  refine lv_iadd hx hb dL_law_1701 ?_
  refine va_sld hx hb hX hbl hbA hS (sl_in (k := 3) rfl (by omega) hL) dL_law_1702 ?_
  refine tp1i (y := xs (i + 3)) (congrArg xs (sl_ix (i := i) (k := 3) (kv := 3) rfl (by omega) hL)) ?_
  refine lv_aload_n hx hb dL_law_1703 rfl (lv_at hl 0 rfl) ?_
  refine lv_iload_n hx hb dL_law_1704 rfl (lv_at hl 3 rfl) ?_
  refine lv_iconst (v := 4) hx hb dL_law_1705 (by decide) ?_
  refine lv_iadd hx hb dL_law_1706 ?_
  refine va_sld hx hb hX hbl hbA hS (sl_in (k := 4) rfl (by omega) hL) dL_law_1707 ?_
  refine tp1i (y := xs (i + 4)) (congrArg xs (sl_ix (i := i) (k := 4) (kv := 4) rfl (by omega) hL)) ?_
  refine cl_VL (rest := []) (kX9_would (l := l) (Γ := Γ) (A := fun q => s.heap.size ≤ q) h1) ⟨hx, hb, hml, hown, htw⟩ hE hw hS (hw _ _ (wf_901 hE)) (q0 := 0) rfl rfl (htw _ mw1205) mw1206 mw1207 mw118 mw1208 pdX9_would ⟨Nat.le_of_ble_eq_true rfl, Nat.le_of_ble_eq_true rfl⟩ rfl rfl hl.1 (Nat.le_of_ble_eq_true rfl) dL_law_1708 ⟨by show _ ≤ 600000; omega, by show _ ≤ 7302250; omega⟩ (fun H locs hw hS => ?_)
  refine W.eq (g2 := F0 m 1711 ls [.int v]) rfl ?_
  refine lv_aload_n hx hb dL_law_1711 rfl (lv_at hl 2 rfl) ?_
  refine lv_aload_n hx hb dL_law_1712 rfl (lv_at hl 0 rfl) ?_
  refine lv_iload_n hx hb dL_law_1713 rfl (lv_at hl 3 rfl) ?_
  refine lv_iconst (v := 1) hx hb dL_law_1714 (by decide) ?_
  refine lv_iadd hx hb dL_law_1715 ?_
  refine va_sld hx hb hX hbl hbA hS (sl_in (k := 1) rfl (by omega) hL) dL_law_1716 ?_
  refine tp1i (y := xs (i + 1)) (congrArg xs (sl_ix (i := i) (k := 1) (kv := 1) rfl (by omega) hL)) ?_
  refine lv_aload_n hx hb dL_law_1717 rfl (lv_at hl 0 rfl) ?_
  refine lv_iload_n hx hb dL_law_1718 rfl (lv_at hl 3 rfl) ?_
  refine lv_iconst (v := 2) hx hb dL_law_1719 (by decide) ?_
  refine lv_iadd hx hb dL_law_1720 ?_
  refine va_sld hx hb hX hbl hbA hS (sl_in (k := 2) rfl (by omega) hL) dL_law_1721 ?_
  refine tp1i (y := xs (i + 2)) (congrArg xs (sl_ix (i := i) (k := 2) (kv := 2) rfl (by omega) hL)) ?_
  refine lv_aload_n hx hb dL_law_1722 rfl (lv_at hl 0 rfl) ?_
  refine lv_iload_n hx hb dL_law_1723 rfl (lv_at hl 3 rfl) ?_
  refine lv_iconst (v := 3) hx hb dL_law_1724 (by decide) ?_
  refine lv_iadd hx hb dL_law_1725 ?_
  refine va_sld hx hb hX hbl hbA hS (sl_in (k := 3) rfl (by omega) hL) dL_law_1726 ?_
  refine tp1i (y := xs (i + 3)) (congrArg xs (sl_ix (i := i) (k := 3) (kv := 3) rfl (by omega) hL)) ?_
  refine lv_aload_n hx hb dL_law_1727 rfl (lv_at hl 0 rfl) ?_
  refine lv_iload_n hx hb dL_law_1728 rfl (lv_at hl 3 rfl) ?_
  refine lv_iconst (v := 4) hx hb dL_law_1729 (by decide) ?_
  refine lv_iadd hx hb dL_law_1730 ?_
  refine va_sld hx hb hX hbl hbA hS (sl_in (k := 4) rfl (by omega) hL) dL_law_1731 ?_
  refine tp1i (y := xs (i + 4)) (congrArg xs (sl_ix (i := i) (k := 4) (kv := 4) rfl (by omega) hL)) ?_
  refine cl_VL (rest := [.int v]) (kgX10_would (l := l) (Γ := Γ) (A := fun q => s.heap.size ≤ q) (G := g1) (o := 1001) (wf_1001 hE) h2) ⟨hx, hb, hml, hown, htw⟩ hE hw hS (hw _ _ (wf_1001 hE)) (q0 := 0) rfl rfl (htw _ mw1871) mw1872 mw1873 mw129 mw1874 pdX10_would ⟨Nat.le_of_ble_eq_true rfl, Nat.le_of_ble_eq_true rfl⟩ rfl rfl hl.1 (Nat.le_of_ble_eq_true rfl) dL_law_1732 ⟨by show _ ≤ 600000; omega, by show _ ≤ 7302250; omega⟩ (fun H locs hw hS => ?_)
  refine W.eq (g2 := F0 m 1735 ls [.int v, .int v]) rfl ?_
  refine lv_icmp_eq (tgt := 1809) hx hb dL_law_1735 (by decide) (fun _ => ?_) (fun c1 => absurd rfl c1)
  refine W.widen (k := cells + 37) (n := slots + 1245) (by omega) (by omega) ?_
  exact kk Γ _ H locs hE hEk (LI.move hLI (by rw [ug_ne (by decide)]; exact h3) (by rw [ug_ne (by decide)]; exact h4)) h5 hw hS rfl rfl
set_option maxRecDepth 100000 in
set_option maxHeartbeats 8000000 in
theorem lc_count {p : Program} {l : Launch} {e : Env} {s : State} {m : MethodId} {below : List Frame} {meth : Method} {c : Code} {b L : Nat} {xs : Nat → Int32} {Inv : Gs → Prop} (hOb : Ob_count Inv) (hL : L ≤ 3072) (C0 : lw_At p s m meth c b L xs) {i : Nat} (hi : i + 6 ≤ L) {Γ : Gm} {g : Gs} {H : Heap} {locs : List Loc} {ls : Array Slot} {cells slots : Nat} {Q : State → Prop} (hE : Ev Γ (fun q => s.heap.size ≤ q) s) (hEk : Ek (dd Γ) (ac Γ) s) (hLI : LI Γ g) (hI : Inv g) (hw : Wo Γ g H) (hS : va_S (fun q => s.heap.size ≤ q) s.heap H locs) (hl : lv_has ls 4 [(0, .ref b), (1, .ref (ad Γ 901)), (2, .ref (ad Γ 1001)), (3, .int (nI i))]) (hcs : cells + 37 ≤ 600000 ∧ slots + 1245 ≤ 7302250)
    (kk : ∀ (Γ' : Gm) (g' : Gs) (H : Heap) (locs : List Loc), Ev Γ' (fun q => s.heap.size ≤ q) s → Ek (dd Γ') (ac Γ') s → LI Γ' g' → Inv g' → Wo Γ' g' H → va_S (fun q => s.heap.size ≤ q) s.heap H locs → ad Γ' 901 = ad Γ 901 → ad Γ' 1001 = ad Γ 1001 → W p l e room_1 s m #[Value.ref b] below meth c H locs (cells + 37) (slots + 1245) Q (F0 m 1809 ls [])) : W p l e room_1 s m #[Value.ref b] below meth c H locs cells slots Q (F0 m 1740 ls []) := by
  obtain ⟨hx, hb, hr, hml, hown, hts, hX, hbl, hlocks, hgv⟩ := id C0
  have hown : s.vm.findClass RL = some m.cls := hown
  have htw : ∀ w ∈ WS, w.before #[Value.ref b] s = true := fun w h => hts w (List.mem_filter.mp h).1
  have hbA : ¬ (fun q => s.heap.size ≤ q) b := Nat.not_le.mpr hbl
  obtain ⟨v, r, h1, h2, h5⟩ := hOb g (xs (i + 1)) hI
  refine lv_aload_n hx hb dL_law_1740 rfl (lv_at hl 1 rfl) ?_
  refine lv_aload_n hx hb dL_law_1741 rfl (lv_at hl 0 rfl) ?_
  refine lv_iload_n hx hb dL_law_1742 rfl (lv_at hl 3 rfl) ?_
  refine lv_iconst (v := 1) hx hb dL_law_1743 (by decide) ?_
  refine lv_iadd hx hb dL_law_1744 ?_
  refine va_sld hx hb hX hbl hbA hS (sl_in (k := 1) rfl (by omega) hL) dL_law_1745 ?_
  refine tp1i (y := xs (i + 1)) (congrArg xs (sl_ix (i := i) (k := 1) (kv := 1) rfl (by omega) hL)) ?_
  refine cl_VL (rest := []) (kX9_count (l := l) (Γ := Γ) (A := fun q => s.heap.size ≤ q) h1) ⟨hx, hb, hml, hown, htw⟩ hE hw hS (hw _ _ (wf_901 hE)) (q0 := 0) rfl rfl (htw _ mw1210) mw1211 mw1212 mw118 mw1213 pdX9_count ⟨Nat.le_of_ble_eq_true rfl, Nat.le_of_ble_eq_true rfl⟩ rfl rfl hl.1 (Nat.le_of_ble_eq_true rfl) dL_law_1746 ⟨by show _ ≤ 600000; omega, by show _ ≤ 7302250; omega⟩ (fun H locs hw hS => ?_)
  refine W.eq (g2 := F0 m 1749 ls [.int v]) rfl ?_
  refine lv_aload_n hx hb dL_law_1749 rfl (lv_at hl 2 rfl) ?_
  refine lv_aload_n hx hb dL_law_1750 rfl (lv_at hl 0 rfl) ?_
  refine lv_iload_n hx hb dL_law_1751 rfl (lv_at hl 3 rfl) ?_
  refine lv_iconst (v := 1) hx hb dL_law_1752 (by decide) ?_
  refine lv_iadd hx hb dL_law_1753 ?_
  refine va_sld hx hb hX hbl hbA hS (sl_in (k := 1) rfl (by omega) hL) dL_law_1754 ?_
  refine tp1i (y := xs (i + 1)) (congrArg xs (sl_ix (i := i) (k := 1) (kv := 1) rfl (by omega) hL)) ?_
  refine cl_VL (rest := [.int v]) (kgX10_count (l := l) (Γ := Γ) (A := fun q => s.heap.size ≤ q) (G := g) (o := 1001) (wf_1001 hE) h2) ⟨hx, hb, hml, hown, htw⟩ hE hw hS (hw _ _ (wf_1001 hE)) (q0 := 0) rfl rfl (htw _ mw1875) mw1876 mw1877 mw129 mw1878 pdX10_count ⟨Nat.le_of_ble_eq_true rfl, Nat.le_of_ble_eq_true rfl⟩ rfl rfl hl.1 (Nat.le_of_ble_eq_true rfl) dL_law_1755 ⟨by show _ ≤ 600000; omega, by show _ ≤ 7302250; omega⟩ (fun H locs hw hS => ?_)
  refine W.eq (g2 := F0 m 1758 ls [.int v, .int v]) rfl ?_
  refine lv_icmp_eq (tgt := 1809) hx hb dL_law_1758 (by decide) (fun _ => ?_) (fun c1 => absurd rfl c1)
  refine W.widen (k := cells + 37) (n := slots + 1245) (by omega) (by omega) ?_
  exact kk Γ _ H locs hE hEk (LI.move hLI (by rw [ug_ne (by decide)]) (by rw [ug_ne (by decide)]; exact hLI.2.2.2.2)) h5 hw hS rfl rfl
set_option maxRecDepth 100000 in
set_option maxHeartbeats 8000000 in
theorem lc_image {p : Program} {l : Launch} {e : Env} {s : State} {m : MethodId} {below : List Frame} {meth : Method} {c : Code} {b L : Nat} {xs : Nat → Int32} {Inv : Gs → Prop} (hOb : Ob_image Inv) (hL : L ≤ 3072) (C0 : lw_At p s m meth c b L xs) {i : Nat} (hi : i + 6 ≤ L) {Γ : Gm} {g : Gs} {H : Heap} {locs : List Loc} {ls : Array Slot} {cells slots : Nat} {Q : State → Prop} (hE : Ev Γ (fun q => s.heap.size ≤ q) s) (hEk : Ek (dd Γ) (ac Γ) s) (hLI : LI Γ g) (hI : Inv g) (hw : Wo Γ g H) (hS : va_S (fun q => s.heap.size ≤ q) s.heap H locs) (hl : lv_has ls 4 [(0, .ref b), (1, .ref (ad Γ 901)), (2, .ref (ad Γ 1001)), (3, .int (nI i))]) (hcs : cells + 37 ≤ 600000 ∧ slots + 1245 ≤ 7302250)
    (kk : ∀ (Γ' : Gm) (g' : Gs) (H : Heap) (locs : List Loc), Ev Γ' (fun q => s.heap.size ≤ q) s → Ek (dd Γ') (ac Γ') s → LI Γ' g' → Inv g' → Wo Γ' g' H → va_S (fun q => s.heap.size ≤ q) s.heap H locs → ad Γ' 901 = ad Γ 901 → ad Γ' 1001 = ad Γ 1001 → W p l e room_1 s m #[Value.ref b] below meth c H locs (cells + 37) (slots + 1245) Q (F0 m 1809 ls [])) : W p l e room_1 s m #[Value.ref b] below meth c H locs cells slots Q (F0 m 1763 ls []) := by
  obtain ⟨hx, hb, hr, hml, hown, hts, hX, hbl, hlocks, hgv⟩ := id C0
  have hown : s.vm.findClass RL = some m.cls := hown
  have htw : ∀ w ∈ WS, w.before #[Value.ref b] s = true := fun w h => hts w (List.mem_filter.mp h).1
  have hbA : ¬ (fun q => s.heap.size ≤ q) b := Nat.not_le.mpr hbl
  obtain ⟨g1, v, r, h1, h2, h3, h4, h5⟩ := hOb g (xs (i + 1)) hI
  refine lv_aload_n hx hb dL_law_1763 rfl (lv_at hl 1 rfl) ?_
  refine lv_aload_n hx hb dL_law_1764 rfl (lv_at hl 0 rfl) ?_
  refine lv_iload_n hx hb dL_law_1765 rfl (lv_at hl 3 rfl) ?_
  refine lv_iconst (v := 1) hx hb dL_law_1766 (by decide) ?_
  refine lv_iadd hx hb dL_law_1767 ?_
  refine va_sld hx hb hX hbl hbA hS (sl_in (k := 1) rfl (by omega) hL) dL_law_1768 ?_
  refine tp1i (y := xs (i + 1)) (congrArg xs (sl_ix (i := i) (k := 1) (kv := 1) rfl (by omega) hL)) ?_
  refine cl_img (fin := (g1, v)) (rest := []) hLI h1 ⟨hx, hb, hml, hown, htw⟩ hE hEk hw hS (htw _ mw1214) mw1215 mw1216 mw118 mw1217 rfl hl.1 (Nat.le_of_ble_eq_true rfl) dL_law_1769 hcs (fun Γ1 H locs x1 x2 x3 hLI hw hS => ?_)
  have hE := hE.xt x1 x2 x3
  obtain ⟨y1, y2, y3, y4, y5⟩ := id x1
  have hEk : Ek (dd Γ1) (ac Γ1) s := by rw [y1, y2]; exact hEk
  rw [← y4, ← y5] at hl
  rw [← y4, ← y5] at kk
  clear x1 y1 y2 y3 y4 y5
  generalize Γ1 = Γ at *
  refine lv_aload_n hx hb dL_law_1772 rfl (lv_at hl 2 rfl) ?_
  refine lv_aload_n hx hb dL_law_1773 rfl (lv_at hl 0 rfl) ?_
  refine lv_iload_n hx hb dL_law_1774 rfl (lv_at hl 3 rfl) ?_
  refine lv_iconst (v := 1) hx hb dL_law_1775 (by decide) ?_
  refine lv_iadd hx hb dL_law_1776 ?_
  refine va_sld hx hb hX hbl hbA hS (sl_in (k := 1) rfl (by omega) hL) dL_law_1777 ?_
  refine tp1i (y := xs (i + 1)) (congrArg xs (sl_ix (i := i) (k := 1) (kv := 1) rfl (by omega) hL)) ?_
  refine cl_VL (rest := [.int v]) (kgX10_image (l := l) (Γ := Γ) (A := fun q => s.heap.size ≤ q) (G := g1) (o := 1001) (wf_1001 hE) h2) ⟨hx, hb, hml, hown, htw⟩ hE hw hS (hw _ _ (wf_1001 hE)) (q0 := 0) rfl rfl (htw _ mw1879) mw1880 mw1881 mw129 mw1882 pdX10_image ⟨Nat.le_of_ble_eq_true rfl, Nat.le_of_ble_eq_true rfl⟩ rfl rfl hl.1 (Nat.le_of_ble_eq_true rfl) dL_law_1778 ⟨by show _ ≤ 600000; omega, by show _ ≤ 7302250; omega⟩ (fun H locs hw hS => ?_)
  refine W.eq (g2 := F0 m 1781 ls [.int v, .int v]) rfl ?_
  refine lv_icmp_eq (tgt := 1809) hx hb dL_law_1781 (by decide) (fun _ => ?_) (fun c1 => absurd rfl c1)
  exact kk Γ _ H locs hE hEk (LI.move hLI (by rw [ug_ne (by decide)]; exact h3) (by rw [ug_ne (by decide)]; exact h4)) h5 hw hS rfl rfl
set_option maxRecDepth 100000 in
set_option maxHeartbeats 8000000 in
theorem lc_again {p : Program} {l : Launch} {e : Env} {s : State} {m : MethodId} {below : List Frame} {meth : Method} {c : Code} {b L : Nat} {xs : Nat → Int32} {Inv : Gs → Prop} (hOb : Ob_again Inv) (hL : L ≤ 3072) (C0 : lw_At p s m meth c b L xs) {i : Nat} (hi : i + 6 ≤ L) {Γ : Gm} {g : Gs} {H : Heap} {locs : List Loc} {ls : Array Slot} {cells slots : Nat} {Q : State → Prop} (hE : Ev Γ (fun q => s.heap.size ≤ q) s) (hEk : Ek (dd Γ) (ac Γ) s) (hLI : LI Γ g) (hI : Inv g) (hw : Wo Γ g H) (hS : va_S (fun q => s.heap.size ≤ q) s.heap H locs) (hl : lv_has ls 4 [(0, .ref b), (1, .ref (ad Γ 901)), (2, .ref (ad Γ 1001)), (3, .int (nI i))]) (hcs : cells + 37 ≤ 600000 ∧ slots + 1245 ≤ 7302250)
    (kk : ∀ (Γ' : Gm) (g' : Gs) (H : Heap) (locs : List Loc), Ev Γ' (fun q => s.heap.size ≤ q) s → Ek (dd Γ') (ac Γ') s → LI Γ' g' → Inv g' → Wo Γ' g' H → va_S (fun q => s.heap.size ≤ q) s.heap H locs → ad Γ' 901 = ad Γ 901 → ad Γ' 1001 = ad Γ 1001 → W p l e room_1 s m #[Value.ref b] below meth c H locs (cells + 37) (slots + 1245) Q (F0 m 1809 ls [])) : W p l e room_1 s m #[Value.ref b] below meth c H locs cells slots Q (F0 m 1786 ls []) := by
  obtain ⟨hx, hb, hr, hml, hown, hts, hX, hbl, hlocks, hgv⟩ := id C0
  have hown : s.vm.findClass RL = some m.cls := hown
  have htw : ∀ w ∈ WS, w.before #[Value.ref b] s = true := fun w h => hts w (List.mem_filter.mp h).1
  have hbA : ¬ (fun q => s.heap.size ≤ q) b := Nat.not_le.mpr hbl
  obtain ⟨g1, v, r, h1, h2, h3, h4, h5⟩ := hOb g (xs (i + 1)) hI
  refine lv_aload_n hx hb dL_law_1786 rfl (lv_at hl 1 rfl) ?_
  refine lv_aload_n hx hb dL_law_1787 rfl (lv_at hl 0 rfl) ?_
  refine lv_iload_n hx hb dL_law_1788 rfl (lv_at hl 3 rfl) ?_
  refine lv_iconst (v := 1) hx hb dL_law_1789 (by decide) ?_
  refine lv_iadd hx hb dL_law_1790 ?_
  refine va_sld hx hb hX hbl hbA hS (sl_in (k := 1) rfl (by omega) hL) dL_law_1791 ?_
  refine tp1i (y := xs (i + 1)) (congrArg xs (sl_ix (i := i) (k := 1) (kv := 1) rfl (by omega) hL)) ?_
  refine cl_VL (rest := []) (kX9_again (l := l) (Γ := Γ) (A := fun q => s.heap.size ≤ q) hLI h1) ⟨hx, hb, hml, hown, htw⟩ hE hw hS (hw _ _ (wf_901 hE)) (q0 := 0) rfl rfl (htw _ mw1233) mw1234 mw1235 mw118 mw1236 pdX9_again ⟨Nat.le_of_ble_eq_true rfl, Nat.le_of_ble_eq_true rfl⟩ rfl rfl hl.1 (Nat.le_of_ble_eq_true rfl) dL_law_1792 ⟨by show _ ≤ 600000; omega, by show _ ≤ 7302250; omega⟩ (fun H locs hw hS => ?_)
  refine W.eq (g2 := F0 m 1795 ls [.int v]) rfl ?_
  refine lv_aload_n hx hb dL_law_1795 rfl (lv_at hl 2 rfl) ?_
  refine lv_aload_n hx hb dL_law_1796 rfl (lv_at hl 0 rfl) ?_
  refine lv_iload_n hx hb dL_law_1797 rfl (lv_at hl 3 rfl) ?_
  refine lv_iconst (v := 1) hx hb dL_law_1798 (by decide) ?_
  refine lv_iadd hx hb dL_law_1799 ?_
  refine va_sld hx hb hX hbl hbA hS (sl_in (k := 1) rfl (by omega) hL) dL_law_1800 ?_
  refine tp1i (y := xs (i + 1)) (congrArg xs (sl_ix (i := i) (k := 1) (kv := 1) rfl (by omega) hL)) ?_
  refine cl_VL (rest := [.int v]) (kgX10_again (l := l) (Γ := Γ) (A := fun q => s.heap.size ≤ q) (G := g1) (o := 1001) (wf_1001 hE) h2) ⟨hx, hb, hml, hown, htw⟩ hE hw hS (hw _ _ (wf_1001 hE)) (q0 := 0) rfl rfl (htw _ mw1890) mw1891 mw1892 mw129 mw1893 pdX10_again ⟨Nat.le_of_ble_eq_true rfl, Nat.le_of_ble_eq_true rfl⟩ rfl rfl hl.1 (Nat.le_of_ble_eq_true rfl) dL_law_1801 ⟨by show _ ≤ 600000; omega, by show _ ≤ 7302250; omega⟩ (fun H locs hw hS => ?_)
  refine W.eq (g2 := F0 m 1804 ls [.int v, .int v]) rfl ?_
  refine lv_icmp_eq (tgt := 1809) hx hb dL_law_1804 (by decide) (fun _ => ?_) (fun c1 => absurd rfl c1)
  refine W.widen (k := cells + 37) (n := slots + 1245) (by omega) (by omega) ?_
  exact kk Γ _ H locs hE hEk (LI.move hLI (by rw [ug_ne (by decide)]; exact h3) (by rw [ug_ne (by decide)]; exact h4)) h5 hw hS rfl rfl
