set_option maxRecDepth 100000 in
set_option maxHeartbeats 8000000 in
theorem lc_feed {p : Program} {l : Launch} {e : Env} {s : State} {m : MethodId} {below : List Frame} {meth : Method} {c : Code} {b L : Nat} {xs : Nat → Int32} {Inv : Gs → Prop} (hOb : Ob_feed Inv) (hL : L ≤ 3072) (C0 : lw_At p s m meth c b L xs) {i : Nat} (hi : i + 6 ≤ L) {Γ : Gm} {g : Gs} {H : Heap} {locs : List Loc} {ls : Array Slot} {cells slots : Nat} {Q : State → Prop} (hE : Ev Γ (fun q => s.heap.size ≤ q) s) (hEk : Ek (dd Γ) (ac Γ) s) (hLI : LI Γ g) (hI : Inv g) (hw : Wo Γ g H) (hS : va_S (fun q => s.heap.size ≤ q) s.heap H locs) (hl : lv_has ls 4 [(0, .ref b), (1, .ref (ad Γ 901)), (2, .ref (ad Γ 1001)), (3, .int (nI i))]) (hcs : cells + 37 ≤ 600000 ∧ slots + 1245 ≤ 7302250)
    (kk : ∀ (Γ' : Gm) (g' : Gs) (H : Heap) (locs : List Loc), Ev Γ' (fun q => s.heap.size ≤ q) s → Ek (dd Γ') (ac Γ') s → LI Γ' g' → Inv g' → Wo Γ' g' H → va_S (fun q => s.heap.size ≤ q) s.heap H locs → ad Γ' 901 = ad Γ 901 → ad Γ' 1001 = ad Γ 1001 → W p l e room_1 s m #[Value.ref b] below meth c H locs (cells + 37) (slots + 1245) Q (F0 m 1809 ls [])) : W p l e room_1 s m #[Value.ref b] below meth c H locs cells slots Q (F0 m 196 ls []) := by
  obtain ⟨hx, hb, hr, hml, hown, hts, hX, hbl, hlocks, hgv⟩ := id C0
  have hown : s.vm.findClass RL = some m.cls := hown
  have htw : ∀ w ∈ WS, w.before #[Value.ref b] s = true := fun w h => hts w (List.mem_filter.mp h).1
  have hbA : ¬ (fun q => s.heap.size ≤ q) b := Nat.not_le.mpr hbl
  obtain ⟨g1, v, r, h1, h2, h3, h4, h5⟩ := hOb g (xs (i + 1)) (xs (i + 2)) (xs (i + 3)) (xs (i + 4)) (xs (i + 5)) hI
  refine lv_aload_n hx hb dL_law_196 rfl (lv_at hl 1 rfl) ?_
  refine lv_aload_n hx hb dL_law_197 rfl (lv_at hl 0 rfl) ?_
  refine lv_iload_n hx hb dL_law_198 rfl (lv_at hl 3 rfl) ?_
  refine lv_iconst (v := 1) hx hb dL_law_199 (by decide) ?_
  refine lv_iadd hx hb dL_law_200 ?_
  refine va_sld hx hb hX hbl hbA hS (sl_in (k := 1) rfl (by omega) hL) dL_law_201 ?_
  refine tp1i (y := xs (i + 1)) (congrArg xs (sl_ix (i := i) (k := 1) (kv := 1) rfl (by omega) hL)) ?_
  refine lv_aload_n hx hb dL_law_202 rfl (lv_at hl 0 rfl) ?_
  refine lv_iload_n hx hb dL_law_203 rfl (lv_at hl 3 rfl) ?_
  refine lv_iconst (v := 2) hx hb dL_law_204 (by decide) ?_
  refine lv_iadd hx hb dL_law_205 ?_
  refine va_sld hx hb hX hbl hbA hS (sl_in (k := 2) rfl (by omega) hL) dL_law_206 ?_
  refine tp1i (y := xs (i + 2)) (congrArg xs (sl_ix (i := i) (k := 2) (kv := 2) rfl (by omega) hL)) ?_
  refine lv_aload_n hx hb dL_law_207 rfl (lv_at hl 0 rfl) ?_
  refine lv_iload_n hx hb dL_law_208 rfl (lv_at hl 3 rfl) ?_
  refine lv_iconst (v := 3) hx hb dL_law_209 (by decide) ?_
  refine lv_iadd hx hb dL_law_210 ?_
  refine va_sld hx hb hX hbl hbA hS (sl_in (k := 3) rfl (by omega) hL) dL_law_211 ?_
  refine tp1i (y := xs (i + 3)) (congrArg xs (sl_ix (i := i) (k := 3) (kv := 3) rfl (by omega) hL)) ?_
  refine lv_aload_n hx hb dL_law_212 rfl (lv_at hl 0 rfl) ?_
  refine lv_iload_n hx hb dL_law_213 rfl (lv_at hl 3 rfl) ?_
  refine lv_iconst (v := 4) hx hb dL_law_214 (by decide) ?_
  refine lv_iadd hx hb dL_law_215 ?_
  refine va_sld hx hb hX hbl hbA hS (sl_in (k := 4) rfl (by omega) hL) dL_law_216 ?_
  refine tp1i (y := xs (i + 4)) (congrArg xs (sl_ix (i := i) (k := 4) (kv := 4) rfl (by omega) hL)) ?_
  refine lv_aload_n hx hb dL_law_217 rfl (lv_at hl 0 rfl) ?_
  refine lv_iload_n hx hb dL_law_218 rfl (lv_at hl 3 rfl) ?_
  refine lv_iconst (v := 5) hx hb dL_law_219 (by decide) ?_
  refine lv_iadd hx hb dL_law_220 ?_
  refine va_sld hx hb hX hbl hbA hS (sl_in (k := 5) rfl (by omega) hL) dL_law_221 ?_
  refine tp1i (y := xs (i + 5)) (congrArg xs (sl_ix (i := i) (k := 5) (kv := 5) rfl (by omega) hL)) ?_
  refine cl_VL (rest := []) (kX9_feed (l := l) (Γ := Γ) (A := fun q => s.heap.size ≤ q) h1) ⟨hx, hb, hml, hown, htw⟩ hE hw hS (hw _ _ (wf_901 hE)) (q0 := 0) rfl rfl (htw _ mw458) mw459 mw460 mw118 mw461 pdX9_feed ⟨Nat.le_of_ble_eq_true rfl, Nat.le_of_ble_eq_true rfl⟩ rfl rfl hl.1 (Nat.le_of_ble_eq_true rfl) dL_law_222 ⟨by show _ ≤ 600000; omega, by show _ ≤ 7302250; omega⟩ (fun H locs hw hS => ?_)
  refine W.eq (g2 := F0 m 225 ls [.int v]) rfl ?_
  refine lv_aload_n hx hb dL_law_225 rfl (lv_at hl 2 rfl) ?_
  refine lv_aload_n hx hb dL_law_226 rfl (lv_at hl 0 rfl) ?_
  refine lv_iload_n hx hb dL_law_227 rfl (lv_at hl 3 rfl) ?_
  refine lv_iconst (v := 1) hx hb dL_law_228 (by decide) ?_
  refine lv_iadd hx hb dL_law_229 ?_
  refine va_sld hx hb hX hbl hbA hS (sl_in (k := 1) rfl (by omega) hL) dL_law_230 ?_
  refine tp1i (y := xs (i + 1)) (congrArg xs (sl_ix (i := i) (k := 1) (kv := 1) rfl (by omega) hL)) ?_
  refine lv_aload_n hx hb dL_law_231 rfl (lv_at hl 0 rfl) ?_
  refine lv_iload_n hx hb dL_law_232 rfl (lv_at hl 3 rfl) ?_
  refine lv_iconst (v := 2) hx hb dL_law_233 (by decide) ?_
  refine lv_iadd hx hb dL_law_234 ?_
  refine va_sld hx hb hX hbl hbA hS (sl_in (k := 2) rfl (by omega) hL) dL_law_235 ?_
  refine tp1i (y := xs (i + 2)) (congrArg xs (sl_ix (i := i) (k := 2) (kv := 2) rfl (by omega) hL)) ?_
  refine lv_aload_n hx hb dL_law_236 rfl (lv_at hl 0 rfl) ?_
  refine lv_iload_n hx hb dL_law_237 rfl (lv_at hl 3 rfl) ?_
  refine lv_iconst (v := 3) hx hb dL_law_238 (by decide) ?_
  refine lv_iadd hx hb dL_law_239 ?_
  refine va_sld hx hb hX hbl hbA hS (sl_in (k := 3) rfl (by omega) hL) dL_law_240 ?_
  refine tp1i (y := xs (i + 3)) (congrArg xs (sl_ix (i := i) (k := 3) (kv := 3) rfl (by omega) hL)) ?_
  refine lv_aload_n hx hb dL_law_241 rfl (lv_at hl 0 rfl) ?_
  refine lv_iload_n hx hb dL_law_242 rfl (lv_at hl 3 rfl) ?_
  refine lv_iconst (v := 4) hx hb dL_law_243 (by decide) ?_
  refine lv_iadd hx hb dL_law_244 ?_
  refine va_sld hx hb hX hbl hbA hS (sl_in (k := 4) rfl (by omega) hL) dL_law_245 ?_
  refine tp1i (y := xs (i + 4)) (congrArg xs (sl_ix (i := i) (k := 4) (kv := 4) rfl (by omega) hL)) ?_
  refine lv_aload_n hx hb dL_law_246 rfl (lv_at hl 0 rfl) ?_
  refine lv_iload_n hx hb dL_law_247 rfl (lv_at hl 3 rfl) ?_
  refine lv_iconst (v := 5) hx hb dL_law_248 (by decide) ?_
  refine lv_iadd hx hb dL_law_249 ?_
  refine va_sld hx hb hX hbl hbA hS (sl_in (k := 5) rfl (by omega) hL) dL_law_250 ?_
  refine tp1i (y := xs (i + 5)) (congrArg xs (sl_ix (i := i) (k := 5) (kv := 5) rfl (by omega) hL)) ?_
  refine cl_VL (rest := [.int v]) (kgX10_feed (l := l) (Γ := Γ) (A := fun q => s.heap.size ≤ q) (G := g1) (o := 1001) (wf_1001 hE) h2) ⟨hx, hb, hml, hown, htw⟩ hE hw hS (hw _ _ (wf_1001 hE)) (q0 := 0) rfl rfl (htw _ mw1392) mw1393 mw1394 mw129 mw1395 pdX10_feed ⟨Nat.le_of_ble_eq_true rfl, Nat.le_of_ble_eq_true rfl⟩ rfl rfl hl.1 (Nat.le_of_ble_eq_true rfl) dL_law_251 ⟨by show _ ≤ 600000; omega, by show _ ≤ 7302250; omega⟩ (fun H locs hw hS => ?_)
  refine W.eq (g2 := F0 m 254 ls [.int v, .int v]) rfl ?_
  refine lv_icmp_eq (tgt := 1809) hx hb dL_law_254 (by decide) (fun _ => ?_) (fun c1 => absurd rfl c1)
  refine W.widen (k := cells + 37) (n := slots + 1245) (by omega) (by omega) ?_
  exact kk Γ _ H locs hE hEk (LI.move hLI (by rw [ug_ne (by decide)]; exact h3) (by rw [ug_ne (by decide)]; exact h4)) h5 hw hS rfl rfl
set_option maxRecDepth 100000 in
set_option maxHeartbeats 8000000 in
theorem lc_end {p : Program} {l : Launch} {e : Env} {s : State} {m : MethodId} {below : List Frame} {meth : Method} {c : Code} {b L : Nat} {xs : Nat → Int32} {Inv : Gs → Prop} (hOb : Ob_end Inv) (hL : L ≤ 3072) (C0 : lw_At p s m meth c b L xs) {i : Nat} (hi : i + 6 ≤ L) {Γ : Gm} {g : Gs} {H : Heap} {locs : List Loc} {ls : Array Slot} {cells slots : Nat} {Q : State → Prop} (hE : Ev Γ (fun q => s.heap.size ≤ q) s) (hEk : Ek (dd Γ) (ac Γ) s) (hLI : LI Γ g) (hI : Inv g) (hw : Wo Γ g H) (hS : va_S (fun q => s.heap.size ≤ q) s.heap H locs) (hl : lv_has ls 4 [(0, .ref b), (1, .ref (ad Γ 901)), (2, .ref (ad Γ 1001)), (3, .int (nI i))]) (hcs : cells + 37 ≤ 600000 ∧ slots + 1245 ≤ 7302250)
    (kk : ∀ (Γ' : Gm) (g' : Gs) (H : Heap) (locs : List Loc), Ev Γ' (fun q => s.heap.size ≤ q) s → Ek (dd Γ') (ac Γ') s → LI Γ' g' → Inv g' → Wo Γ' g' H → va_S (fun q => s.heap.size ≤ q) s.heap H locs → ad Γ' 901 = ad Γ 901 → ad Γ' 1001 = ad Γ 1001 → W p l e room_1 s m #[Value.ref b] below meth c H locs (cells + 37) (slots + 1245) Q (F0 m 1809 ls [])) : W p l e room_1 s m #[Value.ref b] below meth c H locs cells slots Q (F0 m 259 ls []) := by
  obtain ⟨hx, hb, hr, hml, hown, hts, hX, hbl, hlocks, hgv⟩ := id C0
  have hown : s.vm.findClass RL = some m.cls := hown
  have htw : ∀ w ∈ WS, w.before #[Value.ref b] s = true := fun w h => hts w (List.mem_filter.mp h).1
  have hbA : ¬ (fun q => s.heap.size ≤ q) b := Nat.not_le.mpr hbl
  obtain ⟨g1, v, r, h1, h2, h3, h4, h5⟩ := hOb g (xs (i + 1)) hI
  refine lv_aload_n hx hb dL_law_259 rfl (lv_at hl 1 rfl) ?_
  refine lv_aload_n hx hb dL_law_260 rfl (lv_at hl 0 rfl) ?_
  refine lv_iload_n hx hb dL_law_261 rfl (lv_at hl 3 rfl) ?_
  refine lv_iconst (v := 1) hx hb dL_law_262 (by decide) ?_
  refine lv_iadd hx hb dL_law_263 ?_
  refine va_sld hx hb hX hbl hbA hS (sl_in (k := 1) rfl (by omega) hL) dL_law_264 ?_
  refine tp1i (y := xs (i + 1)) (congrArg xs (sl_ix (i := i) (k := 1) (kv := 1) rfl (by omega) hL)) ?_
  refine cl_VL (rest := []) (kX9_end (l := l) (Γ := Γ) (A := fun q => s.heap.size ≤ q) h1) ⟨hx, hb, hml, hown, htw⟩ hE hw hS (hw _ _ (wf_901 hE)) (q0 := 0) rfl rfl (htw _ mw466) mw467 mw468 mw118 mw469 pdX9_end ⟨Nat.le_of_ble_eq_true rfl, Nat.le_of_ble_eq_true rfl⟩ rfl rfl hl.1 (Nat.le_of_ble_eq_true rfl) dL_law_265 ⟨by show _ ≤ 600000; omega, by show _ ≤ 7302250; omega⟩ (fun H locs hw hS => ?_)
  refine W.eq (g2 := F0 m 268 ls [.int v]) rfl ?_
  refine lv_aload_n hx hb dL_law_268 rfl (lv_at hl 2 rfl) ?_
  refine lv_aload_n hx hb dL_law_269 rfl (lv_at hl 0 rfl) ?_
  refine lv_iload_n hx hb dL_law_270 rfl (lv_at hl 3 rfl) ?_
  refine lv_iconst (v := 1) hx hb dL_law_271 (by decide) ?_
  refine lv_iadd hx hb dL_law_272 ?_
  refine va_sld hx hb hX hbl hbA hS (sl_in (k := 1) rfl (by omega) hL) dL_law_273 ?_
  refine tp1i (y := xs (i + 1)) (congrArg xs (sl_ix (i := i) (k := 1) (kv := 1) rfl (by omega) hL)) ?_
  refine cl_VL (rest := [.int v]) (kgX10_end (l := l) (Γ := Γ) (A := fun q => s.heap.size ≤ q) (G := g1) (o := 1001) (wf_1001 hE) h2) ⟨hx, hb, hml, hown, htw⟩ hE hw hS (hw _ _ (wf_1001 hE)) (q0 := 0) rfl rfl (htw _ mw1400) mw1401 mw1402 mw129 mw1403 pdX10_end ⟨Nat.le_of_ble_eq_true rfl, Nat.le_of_ble_eq_true rfl⟩ rfl rfl hl.1 (Nat.le_of_ble_eq_true rfl) dL_law_274 ⟨by show _ ≤ 600000; omega, by show _ ≤ 7302250; omega⟩ (fun H locs hw hS => ?_)
  refine W.eq (g2 := F0 m 277 ls [.int v, .int v]) rfl ?_
  refine lv_icmp_eq (tgt := 1809) hx hb dL_law_277 (by decide) (fun _ => ?_) (fun c1 => absurd rfl c1)
  refine W.widen (k := cells + 37) (n := slots + 1245) (by omega) (by omega) ?_
  exact kk Γ _ H locs hE hEk (LI.move hLI (by rw [ug_ne (by decide)]; exact h3) (by rw [ug_ne (by decide)]; exact h4)) h5 hw hS rfl rfl
set_option maxRecDepth 100000 in
set_option maxHeartbeats 8000000 in
theorem lc_text {p : Program} {l : Launch} {e : Env} {s : State} {m : MethodId} {below : List Frame} {meth : Method} {c : Code} {b L : Nat} {xs : Nat → Int32} {Inv : Gs → Prop} (hOb : Ob_text Inv) (hL : L ≤ 3072) (C0 : lw_At p s m meth c b L xs) {i : Nat} (hi : i + 6 ≤ L) {Γ : Gm} {g : Gs} {H : Heap} {locs : List Loc} {ls : Array Slot} {cells slots : Nat} {Q : State → Prop} (hE : Ev Γ (fun q => s.heap.size ≤ q) s) (hEk : Ek (dd Γ) (ac Γ) s) (hLI : LI Γ g) (hI : Inv g) (hw : Wo Γ g H) (hS : va_S (fun q => s.heap.size ≤ q) s.heap H locs) (hl : lv_has ls 4 [(0, .ref b), (1, .ref (ad Γ 901)), (2, .ref (ad Γ 1001)), (3, .int (nI i))]) (hcs : cells + 37 ≤ 600000 ∧ slots + 1245 ≤ 7302250)
    (kk : ∀ (Γ' : Gm) (g' : Gs) (H : Heap) (locs : List Loc), Ev Γ' (fun q => s.heap.size ≤ q) s → Ek (dd Γ') (ac Γ') s → LI Γ' g' → Inv g' → Wo Γ' g' H → va_S (fun q => s.heap.size ≤ q) s.heap H locs → ad Γ' 901 = ad Γ 901 → ad Γ' 1001 = ad Γ 1001 → W p l e room_1 s m #[Value.ref b] below meth c H locs (cells + 37) (slots + 1245) Q (F0 m 1809 ls [])) : W p l e room_1 s m #[Value.ref b] below meth c H locs cells slots Q (F0 m 282 ls []) := by
  obtain ⟨hx, hb, hr, hml, hown, hts, hX, hbl, hlocks, hgv⟩ := id C0
  have hown : s.vm.findClass RL = some m.cls := hown
  have htw : ∀ w ∈ WS, w.before #[Value.ref b] s = true := fun w h => hts w (List.mem_filter.mp h).1
  have hbA : ¬ (fun q => s.heap.size ≤ q) b := Nat.not_le.mpr hbl
  obtain ⟨g1, v, r, h1, h2, h3, h4, h5⟩ := hOb g (xs (i + 1)) (xs (i + 2)) hI
  refine lv_aload_n hx hb dL_law_282 rfl (lv_at hl 1 rfl) ?_
  refine lv_aload_n hx hb dL_law_283 rfl (lv_at hl 0 rfl) ?_
  refine lv_iload_n hx hb dL_law_284 rfl (lv_at hl 3 rfl) ?_
  refine lv_iconst (v := 1) hx hb dL_law_285 (by decide) ?_
  refine lv_iadd hx hb dL_law_286 ?_
  refine va_sld hx hb hX hbl hbA hS (sl_in (k := 1) rfl (by omega) hL) dL_law_287 ?_
  refine tp1i (y := xs (i + 1)) (congrArg xs (sl_ix (i := i) (k := 1) (kv := 1) rfl (by omega) hL)) ?_
  refine lv_aload_n hx hb dL_law_288 rfl (lv_at hl 0 rfl) ?_
  refine lv_iload_n hx hb dL_law_289 rfl (lv_at hl 3 rfl) ?_
  refine lv_iconst (v := 2) hx hb dL_law_290 (by decide) ?_
  refine lv_iadd hx hb dL_law_291 ?_
  refine va_sld hx hb hX hbl hbA hS (sl_in (k := 2) rfl (by omega) hL) dL_law_292 ?_
  refine tp1i (y := xs (i + 2)) (congrArg xs (sl_ix (i := i) (k := 2) (kv := 2) rfl (by omega) hL)) ?_
  refine cl_VL (rest := []) (kX9_text (l := l) (Γ := Γ) (A := fun q => s.heap.size ≤ q) h1) ⟨hx, hb, hml, hown, htw⟩ hE hw hS (hw _ _ (wf_901 hE)) (q0 := 0) rfl rfl (htw _ mw470) mw471 mw472 mw118 mw473 pdX9_text ⟨Nat.le_of_ble_eq_true rfl, Nat.le_of_ble_eq_true rfl⟩ rfl rfl hl.1 (Nat.le_of_ble_eq_true rfl) dL_law_293 ⟨by show _ ≤ 600000; omega, by show _ ≤ 7302250; omega⟩ (fun H locs hw hS => ?_)
  refine W.eq (g2 := F0 m 296 ls [.int v]) rfl ?_
  refine lv_aload_n hx hb dL_law_296 rfl (lv_at hl 2 rfl) ?_
  refine lv_aload_n hx hb dL_law_297 rfl (lv_at hl 0 rfl) ?_
  refine lv_iload_n hx hb dL_law_298 rfl (lv_at hl 3 rfl) ?_
  refine lv_iconst (v := 1) hx hb dL_law_299 (by decide) ?_
  refine lv_iadd hx hb dL_law_300 ?_
  refine va_sld hx hb hX hbl hbA hS (sl_in (k := 1) rfl (by omega) hL) dL_law_301 ?_
  refine tp1i (y := xs (i + 1)) (congrArg xs (sl_ix (i := i) (k := 1) (kv := 1) rfl (by omega) hL)) ?_
  refine lv_aload_n hx hb dL_law_302 rfl (lv_at hl 0 rfl) ?_
  refine lv_iload_n hx hb dL_law_303 rfl (lv_at hl 3 rfl) ?_
  refine lv_iconst (v := 2) hx hb dL_law_304 (by decide) ?_
  refine lv_iadd hx hb dL_law_305 ?_
  refine va_sld hx hb hX hbl hbA hS (sl_in (k := 2) rfl (by omega) hL) dL_law_306 ?_
  refine tp1i (y := xs (i + 2)) (congrArg xs (sl_ix (i := i) (k := 2) (kv := 2) rfl (by omega) hL)) ?_
  refine cl_VL (rest := [.int v]) (kgX10_text (l := l) (Γ := Γ) (A := fun q => s.heap.size ≤ q) (G := g1) (o := 1001) (wf_1001 hE) h2) ⟨hx, hb, hml, hown, htw⟩ hE hw hS (hw _ _ (wf_1001 hE)) (q0 := 0) rfl rfl (htw _ mw1407) mw1408 mw1409 mw129 mw1410 pdX10_text ⟨Nat.le_of_ble_eq_true rfl, Nat.le_of_ble_eq_true rfl⟩ rfl rfl hl.1 (Nat.le_of_ble_eq_true rfl) dL_law_307 ⟨by show _ ≤ 600000; omega, by show _ ≤ 7302250; omega⟩ (fun H locs hw hS => ?_)
  refine W.eq (g2 := F0 m 310 ls [.int v, .int v]) rfl ?_
  refine lv_icmp_eq (tgt := 1809) hx hb dL_law_310 (by decide) (fun _ => ?_) (fun c1 => absurd rfl c1)
  refine W.widen (k := cells + 37) (n := slots + 1245) (by omega) (by omega) ?_
  exact kk Γ _ H locs hE hEk (LI.move hLI (by rw [ug_ne (by decide)]; exact h3) (by rw [ug_ne (by decide)]; exact h4)) h5 hw hS rfl rfl
set_option maxRecDepth 100000 in
set_option maxHeartbeats 8000000 in
theorem lc_fault {p : Program} {l : Launch} {e : Env} {s : State} {m : MethodId} {below : List Frame} {meth : Method} {c : Code} {b L : Nat} {xs : Nat → Int32} {Inv : Gs → Prop} (hOb : Ob_fault Inv) (hL : L ≤ 3072) (C0 : lw_At p s m meth c b L xs) {i : Nat} (hi : i + 6 ≤ L) {Γ : Gm} {g : Gs} {H : Heap} {locs : List Loc} {ls : Array Slot} {cells slots : Nat} {Q : State → Prop} (hE : Ev Γ (fun q => s.heap.size ≤ q) s) (hEk : Ek (dd Γ) (ac Γ) s) (hLI : LI Γ g) (hI : Inv g) (hw : Wo Γ g H) (hS : va_S (fun q => s.heap.size ≤ q) s.heap H locs) (hl : lv_has ls 4 [(0, .ref b), (1, .ref (ad Γ 901)), (2, .ref (ad Γ 1001)), (3, .int (nI i))]) (hcs : cells + 37 ≤ 600000 ∧ slots + 1245 ≤ 7302250)
    (kk : ∀ (Γ' : Gm) (g' : Gs) (H : Heap) (locs : List Loc), Ev Γ' (fun q => s.heap.size ≤ q) s → Ek (dd Γ') (ac Γ') s → LI Γ' g' → Inv g' → Wo Γ' g' H → va_S (fun q => s.heap.size ≤ q) s.heap H locs → ad Γ' 901 = ad Γ 901 → ad Γ' 1001 = ad Γ 1001 → W p l e room_1 s m #[Value.ref b] below meth c H locs (cells + 37) (slots + 1245) Q (F0 m 1809 ls [])) : W p l e room_1 s m #[Value.ref b] below meth c H locs cells slots Q (F0 m 315 ls []) := by
  obtain ⟨hx, hb, hr, hml, hown, hts, hX, hbl, hlocks, hgv⟩ := id C0
  have hown : s.vm.findClass RL = some m.cls := hown
  have htw : ∀ w ∈ WS, w.before #[Value.ref b] s = true := fun w h => hts w (List.mem_filter.mp h).1
  have hbA : ¬ (fun q => s.heap.size ≤ q) b := Nat.not_le.mpr hbl
  obtain ⟨v, r, h1, h2, h5⟩ := hOb g (xs (i + 1)) hI
  refine lv_aload_n hx hb dL_law_315 rfl (lv_at hl 1 rfl) ?_
  refine lv_aload_n hx hb dL_law_316 rfl (lv_at hl 0 rfl) ?_
  refine lv_iload_n hx hb dL_law_317 rfl (lv_at hl 3 rfl) ?_
  refine lv_iconst (v := 1) hx hb dL_law_318 (by decide) ?_
  refine lv_iadd hx hb dL_law_319 ?_
  refine va_sld hx hb hX hbl hbA hS (sl_in (k := 1) rfl (by omega) hL) dL_law_320 ?_
  refine tp1i (y := xs (i + 1)) (congrArg xs (sl_ix (i := i) (k := 1) (kv := 1) rfl (by omega) hL)) ?_
  refine cl_VL (rest := []) (kX9_fault (l := l) (Γ := Γ) (A := fun q => s.heap.size ≤ q) h1) ⟨hx, hb, hml, hown, htw⟩ hE hw hS (hw _ _ (wf_901 hE)) (q0 := 0) rfl rfl (htw _ mw670) mw671 mw672 mw118 mw673 pdX9_fault ⟨Nat.le_of_ble_eq_true rfl, Nat.le_of_ble_eq_true rfl⟩ rfl rfl hl.1 (Nat.le_of_ble_eq_true rfl) dL_law_321 ⟨by show _ ≤ 600000; omega, by show _ ≤ 7302250; omega⟩ (fun H locs hw hS => ?_)
  refine W.eq (g2 := F0 m 324 ls [.int v]) rfl ?_
  refine lv_aload_n hx hb dL_law_324 rfl (lv_at hl 2 rfl) ?_
  refine lv_aload_n hx hb dL_law_325 rfl (lv_at hl 0 rfl) ?_
  refine lv_iload_n hx hb dL_law_326 rfl (lv_at hl 3 rfl) ?_
  refine lv_iconst (v := 1) hx hb dL_law_327 (by decide) ?_
  refine lv_iadd hx hb dL_law_328 ?_
  refine va_sld hx hb hX hbl hbA hS (sl_in (k := 1) rfl (by omega) hL) dL_law_329 ?_
  refine tp1i (y := xs (i + 1)) (congrArg xs (sl_ix (i := i) (k := 1) (kv := 1) rfl (by omega) hL)) ?_
  refine cl_VL (rest := [.int v]) (kgX10_fault (l := l) (Γ := Γ) (A := fun q => s.heap.size ≤ q) (G := g) (o := 1001) (wf_1001 hE) h2) ⟨hx, hb, hml, hown, htw⟩ hE hw hS (hw _ _ (wf_1001 hE)) (q0 := 0) rfl rfl (htw _ mw1529) mw1530 mw1531 mw129 mw1532 pdX10_fault ⟨Nat.le_of_ble_eq_true rfl, Nat.le_of_ble_eq_true rfl⟩ rfl rfl hl.1 (Nat.le_of_ble_eq_true rfl) dL_law_330 ⟨by show _ ≤ 600000; omega, by show _ ≤ 7302250; omega⟩ (fun H locs hw hS => ?_)
  refine W.eq (g2 := F0 m 333 ls [.int v, .int v]) rfl ?_
  refine lv_icmp_eq (tgt := 1809) hx hb dL_law_333 (by decide) (fun _ => ?_) (fun c1 => absurd rfl c1)
  refine W.widen (k := cells + 37) (n := slots + 1245) (by omega) (by omega) ?_
  exact kk Γ _ H locs hE hEk (LI.move hLI (by rw [ug_ne (by decide)]) (by rw [ug_ne (by decide)]; exact hLI.2.2.2.2)) h5 hw hS rfl rfl
set_option maxRecDepth 100000 in
set_option maxHeartbeats 8000000 in
theorem lc_house {p : Program} {l : Launch} {e : Env} {s : State} {m : MethodId} {below : List Frame} {meth : Method} {c : Code} {b L : Nat} {xs : Nat → Int32} {Inv : Gs → Prop} (hOb : Ob_house Inv) (hL : L ≤ 3072) (C0 : lw_At p s m meth c b L xs) {i : Nat} (hi : i + 6 ≤ L) {Γ : Gm} {g : Gs} {H : Heap} {locs : List Loc} {ls : Array Slot} {cells slots : Nat} {Q : State → Prop} (hE : Ev Γ (fun q => s.heap.size ≤ q) s) (hEk : Ek (dd Γ) (ac Γ) s) (hLI : LI Γ g) (hI : Inv g) (hw : Wo Γ g H) (hS : va_S (fun q => s.heap.size ≤ q) s.heap H locs) (hl : lv_has ls 4 [(0, .ref b), (1, .ref (ad Γ 901)), (2, .ref (ad Γ 1001)), (3, .int (nI i))]) (hcs : cells + 37 ≤ 600000 ∧ slots + 1245 ≤ 7302250)
    (kk : ∀ (Γ' : Gm) (g' : Gs) (H : Heap) (locs : List Loc), Ev Γ' (fun q => s.heap.size ≤ q) s → Ek (dd Γ') (ac Γ') s → LI Γ' g' → Inv g' → Wo Γ' g' H → va_S (fun q => s.heap.size ≤ q) s.heap H locs → ad Γ' 901 = ad Γ 901 → ad Γ' 1001 = ad Γ 1001 → W p l e room_1 s m #[Value.ref b] below meth c H locs (cells + 37) (slots + 1245) Q (F0 m 1809 ls [])) : W p l e room_1 s m #[Value.ref b] below meth c H locs cells slots Q (F0 m 338 ls []) := by
  obtain ⟨hx, hb, hr, hml, hown, hts, hX, hbl, hlocks, hgv⟩ := id C0
  have hown : s.vm.findClass RL = some m.cls := hown
  have htw : ∀ w ∈ WS, w.before #[Value.ref b] s = true := fun w h => hts w (List.mem_filter.mp h).1
  have hbA : ¬ (fun q => s.heap.size ≤ q) b := Nat.not_le.mpr hbl
  obtain ⟨v, r, h1, h2, h5⟩ := hOb g (xs (i + 1)) (xs (i + 2)) hI
  refine lv_aload_n hx hb dL_law_338 rfl (lv_at hl 1 rfl) ?_
  refine lv_aload_n hx hb dL_law_339 rfl (lv_at hl 0 rfl) ?_
  refine lv_iload_n hx hb dL_law_340 rfl (lv_at hl 3 rfl) ?_
  refine lv_iconst (v := 1) hx hb dL_law_341 (by decide) ?_
  refine lv_iadd hx hb dL_law_342 ?_
  refine va_sld hx hb hX hbl hbA hS (sl_in (k := 1) rfl (by omega) hL) dL_law_343 ?_
  refine tp1i (y := xs (i + 1)) (congrArg xs (sl_ix (i := i) (k := 1) (kv := 1) rfl (by omega) hL)) ?_
  refine lv_aload_n hx hb dL_law_344 rfl (lv_at hl 0 rfl) ?_
  refine lv_iload_n hx hb dL_law_345 rfl (lv_at hl 3 rfl) ?_
  refine lv_iconst (v := 2) hx hb dL_law_346 (by decide) ?_
  refine lv_iadd hx hb dL_law_347 ?_
  refine va_sld hx hb hX hbl hbA hS (sl_in (k := 2) rfl (by omega) hL) dL_law_348 ?_
  refine tp1i (y := xs (i + 2)) (congrArg xs (sl_ix (i := i) (k := 2) (kv := 2) rfl (by omega) hL)) ?_
  refine cl_VL (rest := []) (kX9_house (l := l) (Γ := Γ) (A := fun q => s.heap.size ≤ q) h1) ⟨hx, hb, hml, hown, htw⟩ hE hw hS (hw _ _ (wf_901 hE)) (q0 := 0) rfl rfl (htw _ mw674) mw675 mw676 mw118 mw677 pdX9_house ⟨Nat.le_of_ble_eq_true rfl, Nat.le_of_ble_eq_true rfl⟩ rfl rfl hl.1 (Nat.le_of_ble_eq_true rfl) dL_law_349 ⟨by show _ ≤ 600000; omega, by show _ ≤ 7302250; omega⟩ (fun H locs hw hS => ?_)
  refine W.eq (g2 := F0 m 352 ls [.int v]) rfl ?_
  refine lv_aload_n hx hb dL_law_352 rfl (lv_at hl 2 rfl) ?_
  refine lv_aload_n hx hb dL_law_353 rfl (lv_at hl 0 rfl) ?_
  refine lv_iload_n hx hb dL_law_354 rfl (lv_at hl 3 rfl) ?_
  refine lv_iconst (v := 1) hx hb dL_law_355 (by decide) ?_
  refine lv_iadd hx hb dL_law_356 ?_
  refine va_sld hx hb hX hbl hbA hS (sl_in (k := 1) rfl (by omega) hL) dL_law_357 ?_
  refine tp1i (y := xs (i + 1)) (congrArg xs (sl_ix (i := i) (k := 1) (kv := 1) rfl (by omega) hL)) ?_
  refine lv_aload_n hx hb dL_law_358 rfl (lv_at hl 0 rfl) ?_
  refine lv_iload_n hx hb dL_law_359 rfl (lv_at hl 3 rfl) ?_
  refine lv_iconst (v := 2) hx hb dL_law_360 (by decide) ?_
  refine lv_iadd hx hb dL_law_361 ?_
  refine va_sld hx hb hX hbl hbA hS (sl_in (k := 2) rfl (by omega) hL) dL_law_362 ?_
  refine tp1i (y := xs (i + 2)) (congrArg xs (sl_ix (i := i) (k := 2) (kv := 2) rfl (by omega) hL)) ?_
  refine cl_VL (rest := [.int v]) (kgX10_house (l := l) (Γ := Γ) (A := fun q => s.heap.size ≤ q) (G := g) (o := 1001) (wf_1001 hE) h2) ⟨hx, hb, hml, hown, htw⟩ hE hw hS (hw _ _ (wf_1001 hE)) (q0 := 0) rfl rfl (htw _ mw1533) mw1534 mw1535 mw129 mw1536 pdX10_house ⟨Nat.le_of_ble_eq_true rfl, Nat.le_of_ble_eq_true rfl⟩ rfl rfl hl.1 (Nat.le_of_ble_eq_true rfl) dL_law_363 ⟨by show _ ≤ 600000; omega, by show _ ≤ 7302250; omega⟩ (fun H locs hw hS => ?_)
  refine W.eq (g2 := F0 m 366 ls [.int v, .int v]) rfl ?_
  refine lv_icmp_eq (tgt := 1809) hx hb dL_law_366 (by decide) (fun _ => ?_) (fun c1 => absurd rfl c1)
  refine W.widen (k := cells + 37) (n := slots + 1245) (by omega) (by omega) ?_
  exact kk Γ _ H locs hE hEk (LI.move hLI (by rw [ug_ne (by decide)]) (by rw [ug_ne (by decide)]; exact hLI.2.2.2.2)) h5 hw hS rfl rfl
set_option maxRecDepth 100000 in
set_option maxHeartbeats 8000000 in
theorem lc_worth {p : Program} {l : Launch} {e : Env} {s : State} {m : MethodId} {below : List Frame} {meth : Method} {c : Code} {b L : Nat} {xs : Nat → Int32} {Inv : Gs → Prop} (hOb : Ob_worth Inv) (hL : L ≤ 3072) (C0 : lw_At p s m meth c b L xs) {i : Nat} (hi : i + 6 ≤ L) {Γ : Gm} {g : Gs} {H : Heap} {locs : List Loc} {ls : Array Slot} {cells slots : Nat} {Q : State → Prop} (hE : Ev Γ (fun q => s.heap.size ≤ q) s) (hEk : Ek (dd Γ) (ac Γ) s) (hLI : LI Γ g) (hI : Inv g) (hw : Wo Γ g H) (hS : va_S (fun q => s.heap.size ≤ q) s.heap H locs) (hl : lv_has ls 4 [(0, .ref b), (1, .ref (ad Γ 901)), (2, .ref (ad Γ 1001)), (3, .int (nI i))]) (hcs : cells + 37 ≤ 600000 ∧ slots + 1245 ≤ 7302250)
    (kk : ∀ (Γ' : Gm) (g' : Gs) (H : Heap) (locs : List Loc), Ev Γ' (fun q => s.heap.size ≤ q) s → Ek (dd Γ') (ac Γ') s → LI Γ' g' → Inv g' → Wo Γ' g' H → va_S (fun q => s.heap.size ≤ q) s.heap H locs → ad Γ' 901 = ad Γ 901 → ad Γ' 1001 = ad Γ 1001 → W p l e room_1 s m #[Value.ref b] below meth c H locs (cells + 37) (slots + 1245) Q (F0 m 1809 ls [])) : W p l e room_1 s m #[Value.ref b] below meth c H locs cells slots Q (F0 m 371 ls []) := by
  obtain ⟨hx, hb, hr, hml, hown, hts, hX, hbl, hlocks, hgv⟩ := id C0
  have hown : s.vm.findClass RL = some m.cls := hown
  have htw : ∀ w ∈ WS, w.before #[Value.ref b] s = true := fun w h => hts w (List.mem_filter.mp h).1
  have hbA : ¬ (fun q => s.heap.size ≤ q) b := Nat.not_le.mpr hbl
  obtain ⟨v, r, h1, h2, h5⟩ := hOb g (xs (i + 1)) (xs (i + 2)) (xs (i + 3)) hI
  refine lv_aload_n hx hb dL_law_371 rfl (lv_at hl 1 rfl) ?_
  refine lv_aload_n hx hb dL_law_372 rfl (lv_at hl 0 rfl) ?_
  refine lv_iload_n hx hb dL_law_373 rfl (lv_at hl 3 rfl) ?_
  refine lv_iconst (v := 1) hx hb dL_law_374 (by decide) ?_
  refine lv_iadd hx hb dL_law_375 ?_
  refine va_sld hx hb hX hbl hbA hS (sl_in (k := 1) rfl (by omega) hL) dL_law_376 ?_
  refine tp1i (y := xs (i + 1)) (congrArg xs (sl_ix (i := i) (k := 1) (kv := 1) rfl (by omega) hL)) ?_
  refine lv_aload_n hx hb dL_law_377 rfl (lv_at hl 0 rfl) ?_
  refine lv_iload_n hx hb dL_law_378 rfl (lv_at hl 3 rfl) ?_
  refine lv_iconst (v := 2) hx hb dL_law_379 (by decide) ?_
  refine lv_iadd hx hb dL_law_380 ?_
  refine va_sld hx hb hX hbl hbA hS (sl_in (k := 2) rfl (by omega) hL) dL_law_381 ?_
  refine tp1i (y := xs (i + 2)) (congrArg xs (sl_ix (i := i) (k := 2) (kv := 2) rfl (by omega) hL)) ?_
  refine lv_aload_n hx hb dL_law_382 rfl (lv_at hl 0 rfl) ?_
  refine lv_iload_n hx hb dL_law_383 rfl (lv_at hl 3 rfl) ?_
  refine lv_iconst (v := 3) hx hb dL_law_384 (by decide) ?_
  refine lv_iadd hx hb dL_law_385 ?_
  refine va_sld hx hb hX hbl hbA hS (sl_in (k := 3) rfl (by omega) hL) dL_law_386 ?_
  refine tp1i (y := xs (i + 3)) (congrArg xs (sl_ix (i := i) (k := 3) (kv := 3) rfl (by omega) hL)) ?_
  refine cl_VL (rest := []) (kX9_worth (l := l) (Γ := Γ) (A := fun q => s.heap.size ≤ q) h1) ⟨hx, hb, hml, hown, htw⟩ hE hw hS (hw _ _ (wf_901 hE)) (q0 := 0) rfl rfl (htw _ mw702) mw703 mw704 mw118 mw705 pdX9_worth ⟨Nat.le_of_ble_eq_true rfl, Nat.le_of_ble_eq_true rfl⟩ rfl rfl hl.1 (Nat.le_of_ble_eq_true rfl) dL_law_387 ⟨by show _ ≤ 600000; omega, by show _ ≤ 7302250; omega⟩ (fun H locs hw hS => ?_)
  refine W.eq (g2 := F0 m 390 ls [.int v]) rfl ?_
  refine lv_aload_n hx hb dL_law_390 rfl (lv_at hl 2 rfl) ?_
  refine lv_aload_n hx hb dL_law_391 rfl (lv_at hl 0 rfl) ?_
  refine lv_iload_n hx hb dL_law_392 rfl (lv_at hl 3 rfl) ?_
  refine lv_iconst (v := 1) hx hb dL_law_393 (by decide) ?_
  refine lv_iadd hx hb dL_law_394 ?_
  refine va_sld hx hb hX hbl hbA hS (sl_in (k := 1) rfl (by omega) hL) dL_law_395 ?_
  refine tp1i (y := xs (i + 1)) (congrArg xs (sl_ix (i := i) (k := 1) (kv := 1) rfl (by omega) hL)) ?_
  refine lv_aload_n hx hb dL_law_396 rfl (lv_at hl 0 rfl) ?_
  refine lv_iload_n hx hb dL_law_397 rfl (lv_at hl 3 rfl) ?_
  refine lv_iconst (v := 2) hx hb dL_law_398 (by decide) ?_
  refine lv_iadd hx hb dL_law_399 ?_
  refine va_sld hx hb hX hbl hbA hS (sl_in (k := 2) rfl (by omega) hL) dL_law_400 ?_
  refine tp1i (y := xs (i + 2)) (congrArg xs (sl_ix (i := i) (k := 2) (kv := 2) rfl (by omega) hL)) ?_
  refine lv_aload_n hx hb dL_law_401 rfl (lv_at hl 0 rfl) ?_
  refine lv_iload_n hx hb dL_law_402 rfl (lv_at hl 3 rfl) ?_
  refine lv_iconst (v := 3) hx hb dL_law_403 (by decide) ?_
  refine lv_iadd hx hb dL_law_404 ?_
  refine va_sld hx hb hX hbl hbA hS (sl_in (k := 3) rfl (by omega) hL) dL_law_405 ?_
  refine tp1i (y := xs (i + 3)) (congrArg xs (sl_ix (i := i) (k := 3) (kv := 3) rfl (by omega) hL)) ?_
  refine cl_VL (rest := [.int v]) (kgX10_worth (l := l) (Γ := Γ) (A := fun q => s.heap.size ≤ q) (G := g) (o := 1001) (wf_1001 hE) h2) ⟨hx, hb, hml, hown, htw⟩ hE hw hS (hw _ _ (wf_1001 hE)) (q0 := 0) rfl rfl (htw _ mw1545) mw1546 mw1547 mw129 mw1548 pdX10_worth ⟨Nat.le_of_ble_eq_true rfl, Nat.le_of_ble_eq_true rfl⟩ rfl rfl hl.1 (Nat.le_of_ble_eq_true rfl) dL_law_406 ⟨by show _ ≤ 600000; omega, by show _ ≤ 7302250; omega⟩ (fun H locs hw hS => ?_)
  refine W.eq (g2 := F0 m 409 ls [.int v, .int v]) rfl ?_
  refine lv_icmp_eq (tgt := 1809) hx hb dL_law_409 (by decide) (fun _ => ?_) (fun c1 => absurd rfl c1)
  refine W.widen (k := cells + 37) (n := slots + 1245) (by omega) (by omega) ?_
  exact kk Γ _ H locs hE hEk (LI.move hLI (by rw [ug_ne (by decide)]) (by rw [ug_ne (by decide)]; exact hLI.2.2.2.2)) h5 hw hS rfl rfl
set_option maxRecDepth 100000 in
set_option maxHeartbeats 8000000 in
theorem lc_deed {p : Program} {l : Launch} {e : Env} {s : State} {m : MethodId} {below : List Frame} {meth : Method} {c : Code} {b L : Nat} {xs : Nat → Int32} {Inv : Gs → Prop} (hOb : Ob_deed Inv) (hL : L ≤ 3072) (C0 : lw_At p s m meth c b L xs) {i : Nat} (hi : i + 6 ≤ L) {Γ : Gm} {g : Gs} {H : Heap} {locs : List Loc} {ls : Array Slot} {cells slots : Nat} {Q : State → Prop} (hE : Ev Γ (fun q => s.heap.size ≤ q) s) (hEk : Ek (dd Γ) (ac Γ) s) (hLI : LI Γ g) (hI : Inv g) (hw : Wo Γ g H) (hS : va_S (fun q => s.heap.size ≤ q) s.heap H locs) (hl : lv_has ls 4 [(0, .ref b), (1, .ref (ad Γ 901)), (2, .ref (ad Γ 1001)), (3, .int (nI i))]) (hcs : cells + 37 ≤ 600000 ∧ slots + 1245 ≤ 7302250)
    (kk : ∀ (Γ' : Gm) (g' : Gs) (H : Heap) (locs : List Loc), Ev Γ' (fun q => s.heap.size ≤ q) s → Ek (dd Γ') (ac Γ') s → LI Γ' g' → Inv g' → Wo Γ' g' H → va_S (fun q => s.heap.size ≤ q) s.heap H locs → ad Γ' 901 = ad Γ 901 → ad Γ' 1001 = ad Γ 1001 → W p l e room_1 s m #[Value.ref b] below meth c H locs (cells + 37) (slots + 1245) Q (F0 m 1809 ls [])) : W p l e room_1 s m #[Value.ref b] below meth c H locs cells slots Q (F0 m 414 ls []) := by
  obtain ⟨hx, hb, hr, hml, hown, hts, hX, hbl, hlocks, hgv⟩ := id C0
  have hown : s.vm.findClass RL = some m.cls := hown
  have htw : ∀ w ∈ WS, w.before #[Value.ref b] s = true := fun w h => hts w (List.mem_filter.mp h).1
  have hbA : ¬ (fun q => s.heap.size ≤ q) b := Nat.not_le.mpr hbl
  obtain ⟨v, r, h1, h2, h5⟩ := hOb g (xs (i + 1)) (xs (i + 2)) (xs (i + 3)) hI
  refine lv_aload_n hx hb dL_law_414 rfl (lv_at hl 1 rfl) ?_
  refine lv_aload_n hx hb dL_law_415 rfl (lv_at hl 0 rfl) ?_
  refine lv_iload_n hx hb dL_law_416 rfl (lv_at hl 3 rfl) ?_
  refine lv_iconst (v := 1) hx hb dL_law_417 (by decide) ?_
  refine lv_iadd hx hb dL_law_418 ?_
  refine va_sld hx hb hX hbl hbA hS (sl_in (k := 1) rfl (by omega) hL) dL_law_419 ?_
  refine tp1i (y := xs (i + 1)) (congrArg xs (sl_ix (i := i) (k := 1) (kv := 1) rfl (by omega) hL)) ?_
  refine lv_aload_n hx hb dL_law_420 rfl (lv_at hl 0 rfl) ?_
  refine lv_iload_n hx hb dL_law_421 rfl (lv_at hl 3 rfl) ?_
  refine lv_iconst (v := 2) hx hb dL_law_422 (by decide) ?_
  refine lv_iadd hx hb dL_law_423 ?_
  refine va_sld hx hb hX hbl hbA hS (sl_in (k := 2) rfl (by omega) hL) dL_law_424 ?_
  refine tp1i (y := xs (i + 2)) (congrArg xs (sl_ix (i := i) (k := 2) (kv := 2) rfl (by omega) hL)) ?_
  refine lv_aload_n hx hb dL_law_425 rfl (lv_at hl 0 rfl) ?_
  refine lv_iload_n hx hb dL_law_426 rfl (lv_at hl 3 rfl) ?_
  refine lv_iconst (v := 3) hx hb dL_law_427 (by decide) ?_
  refine lv_iadd hx hb dL_law_428 ?_
  refine va_sld hx hb hX hbl hbA hS (sl_in (k := 3) rfl (by omega) hL) dL_law_429 ?_
  refine tp1i (y := xs (i + 3)) (congrArg xs (sl_ix (i := i) (k := 3) (kv := 3) rfl (by omega) hL)) ?_
  refine cl_VL (rest := []) (kX9_deed (l := l) (Γ := Γ) (A := fun q => s.heap.size ≤ q) h1) ⟨hx, hb, hml, hown, htw⟩ hE hw hS (hw _ _ (wf_901 hE)) (q0 := 0) rfl rfl (htw _ mw722) mw723 mw724 mw118 mw725 pdX9_deed ⟨Nat.le_of_ble_eq_true rfl, Nat.le_of_ble_eq_true rfl⟩ rfl rfl hl.1 (Nat.le_of_ble_eq_true rfl) dL_law_430 ⟨by show _ ≤ 600000; omega, by show _ ≤ 7302250; omega⟩ (fun H locs hw hS => ?_)
  refine W.eq (g2 := F0 m 433 ls [.int v]) rfl ?_
  refine lv_aload_n hx hb dL_law_433 rfl (lv_at hl 2 rfl) ?_
  refine lv_aload_n hx hb dL_law_434 rfl (lv_at hl 0 rfl) ?_
  refine lv_iload_n hx hb dL_law_435 rfl (lv_at hl 3 rfl) ?_
  refine lv_iconst (v := 1) hx hb dL_law_436 (by decide) ?_
  refine lv_iadd hx hb dL_law_437 ?_
  refine va_sld hx hb hX hbl hbA hS (sl_in (k := 1) rfl (by omega) hL) dL_law_438 ?_
  refine tp1i (y := xs (i + 1)) (congrArg xs (sl_ix (i := i) (k := 1) (kv := 1) rfl (by omega) hL)) ?_
  refine lv_aload_n hx hb dL_law_439 rfl (lv_at hl 0 rfl) ?_
  refine lv_iload_n hx hb dL_law_440 rfl (lv_at hl 3 rfl) ?_
  refine lv_iconst (v := 2) hx hb dL_law_441 (by decide) ?_
  refine lv_iadd hx hb dL_law_442 ?_
  refine va_sld hx hb hX hbl hbA hS (sl_in (k := 2) rfl (by omega) hL) dL_law_443 ?_
  refine tp1i (y := xs (i + 2)) (congrArg xs (sl_ix (i := i) (k := 2) (kv := 2) rfl (by omega) hL)) ?_
  refine lv_aload_n hx hb dL_law_444 rfl (lv_at hl 0 rfl) ?_
  refine lv_iload_n hx hb dL_law_445 rfl (lv_at hl 3 rfl) ?_
  refine lv_iconst (v := 3) hx hb dL_law_446 (by decide) ?_
  refine lv_iadd hx hb dL_law_447 ?_
  refine va_sld hx hb hX hbl hbA hS (sl_in (k := 3) rfl (by omega) hL) dL_law_448 ?_
  refine tp1i (y := xs (i + 3)) (congrArg xs (sl_ix (i := i) (k := 3) (kv := 3) rfl (by omega) hL)) ?_
  refine cl_VL (rest := [.int v]) (kgX10_deed (l := l) (Γ := Γ) (A := fun q => s.heap.size ≤ q) (G := g) (o := 1001) (wf_1001 hE) h2) ⟨hx, hb, hml, hown, htw⟩ hE hw hS (hw _ _ (wf_1001 hE)) (q0 := 0) rfl rfl (htw _ mw1568) mw1569 mw1570 mw129 mw1571 pdX10_deed ⟨Nat.le_of_ble_eq_true rfl, Nat.le_of_ble_eq_true rfl⟩ rfl rfl hl.1 (Nat.le_of_ble_eq_true rfl) dL_law_449 ⟨by show _ ≤ 600000; omega, by show _ ≤ 7302250; omega⟩ (fun H locs hw hS => ?_)
  refine W.eq (g2 := F0 m 452 ls [.int v, .int v]) rfl ?_
  refine lv_icmp_eq (tgt := 1809) hx hb dL_law_452 (by decide) (fun _ => ?_) (fun c1 => absurd rfl c1)
  refine W.widen (k := cells + 37) (n := slots + 1245) (by omega) (by omega) ?_
  exact kk Γ _ H locs hE hEk (LI.move hLI (by rw [ug_ne (by decide)]) (by rw [ug_ne (by decide)]; exact hLI.2.2.2.2)) h5 hw hS rfl rfl
set_option maxRecDepth 100000 in
set_option maxHeartbeats 8000000 in
theorem lc_till {p : Program} {l : Launch} {e : Env} {s : State} {m : MethodId} {below : List Frame} {meth : Method} {c : Code} {b L : Nat} {xs : Nat → Int32} {Inv : Gs → Prop} (hOb : Ob_till Inv) (hL : L ≤ 3072) (C0 : lw_At p s m meth c b L xs) {i : Nat} (hi : i + 6 ≤ L) {Γ : Gm} {g : Gs} {H : Heap} {locs : List Loc} {ls : Array Slot} {cells slots : Nat} {Q : State → Prop} (hE : Ev Γ (fun q => s.heap.size ≤ q) s) (hEk : Ek (dd Γ) (ac Γ) s) (hLI : LI Γ g) (hI : Inv g) (hw : Wo Γ g H) (hS : va_S (fun q => s.heap.size ≤ q) s.heap H locs) (hl : lv_has ls 4 [(0, .ref b), (1, .ref (ad Γ 901)), (2, .ref (ad Γ 1001)), (3, .int (nI i))]) (hcs : cells + 37 ≤ 600000 ∧ slots + 1245 ≤ 7302250)
    (kk : ∀ (Γ' : Gm) (g' : Gs) (H : Heap) (locs : List Loc), Ev Γ' (fun q => s.heap.size ≤ q) s → Ek (dd Γ') (ac Γ') s → LI Γ' g' → Inv g' → Wo Γ' g' H → va_S (fun q => s.heap.size ≤ q) s.heap H locs → ad Γ' 901 = ad Γ 901 → ad Γ' 1001 = ad Γ 1001 → W p l e room_1 s m #[Value.ref b] below meth c H locs (cells + 37) (slots + 1245) Q (F0 m 1809 ls [])) : W p l e room_1 s m #[Value.ref b] below meth c H locs cells slots Q (F0 m 457 ls []) := by
  obtain ⟨hx, hb, hr, hml, hown, hts, hX, hbl, hlocks, hgv⟩ := id C0
  have hown : s.vm.findClass RL = some m.cls := hown
  have htw : ∀ w ∈ WS, w.before #[Value.ref b] s = true := fun w h => hts w (List.mem_filter.mp h).1
  have hbA : ¬ (fun q => s.heap.size ≤ q) b := Nat.not_le.mpr hbl
  obtain ⟨g1, v, r, h1, h2, h3, h4, h5⟩ := hOb g (xs (i + 1)) (xs (i + 2)) hI
  refine lv_aload_n hx hb dL_law_457 rfl (lv_at hl 1 rfl) ?_
  refine lv_aload_n hx hb dL_law_458 rfl (lv_at hl 0 rfl) ?_
  refine lv_iload_n hx hb dL_law_459 rfl (lv_at hl 3 rfl) ?_
  refine lv_iconst (v := 1) hx hb dL_law_460 (by decide) ?_
  refine lv_iadd hx hb dL_law_461 ?_
  refine va_sld hx hb hX hbl hbA hS (sl_in (k := 1) rfl (by omega) hL) dL_law_462 ?_
  refine tp1i (y := xs (i + 1)) (congrArg xs (sl_ix (i := i) (k := 1) (kv := 1) rfl (by omega) hL)) ?_
  refine lv_aload_n hx hb dL_law_463 rfl (lv_at hl 0 rfl) ?_
  refine lv_iload_n hx hb dL_law_464 rfl (lv_at hl 3 rfl) ?_
  refine lv_iconst (v := 2) hx hb dL_law_465 (by decide) ?_
  refine lv_iadd hx hb dL_law_466 ?_
  refine va_sld hx hb hX hbl hbA hS (sl_in (k := 2) rfl (by omega) hL) dL_law_467 ?_
  refine tp1i (y := xs (i + 2)) (congrArg xs (sl_ix (i := i) (k := 2) (kv := 2) rfl (by omega) hL)) ?_
  refine cl_VL (rest := []) (kX9_till (l := l) (Γ := Γ) (A := fun q => s.heap.size ≤ q) h1) ⟨hx, hb, hml, hown, htw⟩ hE hw hS (hw _ _ (wf_901 hE)) (q0 := 0) rfl rfl (htw _ mw735) mw736 mw737 mw118 mw738 pdX9_till ⟨Nat.le_of_ble_eq_true rfl, Nat.le_of_ble_eq_true rfl⟩ rfl rfl hl.1 (Nat.le_of_ble_eq_true rfl) dL_law_468 ⟨by show _ ≤ 600000; omega, by show _ ≤ 7302250; omega⟩ (fun H locs hw hS => ?_)
  refine W.eq (g2 := F0 m 471 ls [.int v]) rfl ?_
  refine lv_aload_n hx hb dL_law_471 rfl (lv_at hl 2 rfl) ?_
  refine lv_aload_n hx hb dL_law_472 rfl (lv_at hl 0 rfl) ?_
  refine lv_iload_n hx hb dL_law_473 rfl (lv_at hl 3 rfl) ?_
  refine lv_iconst (v := 1) hx hb dL_law_474 (by decide) ?_
  refine lv_iadd hx hb dL_law_475 ?_
  refine va_sld hx hb hX hbl hbA hS (sl_in (k := 1) rfl (by omega) hL) dL_law_476 ?_
  refine tp1i (y := xs (i + 1)) (congrArg xs (sl_ix (i := i) (k := 1) (kv := 1) rfl (by omega) hL)) ?_
  refine lv_aload_n hx hb dL_law_477 rfl (lv_at hl 0 rfl) ?_
  refine lv_iload_n hx hb dL_law_478 rfl (lv_at hl 3 rfl) ?_
  refine lv_iconst (v := 2) hx hb dL_law_479 (by decide) ?_
  refine lv_iadd hx hb dL_law_480 ?_
  refine va_sld hx hb hX hbl hbA hS (sl_in (k := 2) rfl (by omega) hL) dL_law_481 ?_
  refine tp1i (y := xs (i + 2)) (congrArg xs (sl_ix (i := i) (k := 2) (kv := 2) rfl (by omega) hL)) ?_
  refine cl_VL (rest := [.int v]) (kgX10_till (l := l) (Γ := Γ) (A := fun q => s.heap.size ≤ q) (G := g1) (o := 1001) (wf_1001 hE) h2) ⟨hx, hb, hml, hown, htw⟩ hE hw hS (hw _ _ (wf_1001 hE)) (q0 := 0) rfl rfl (htw _ mw1584) mw1585 mw1586 mw129 mw1587 pdX10_till ⟨Nat.le_of_ble_eq_true rfl, Nat.le_of_ble_eq_true rfl⟩ rfl rfl hl.1 (Nat.le_of_ble_eq_true rfl) dL_law_482 ⟨by show _ ≤ 600000; omega, by show _ ≤ 7302250; omega⟩ (fun H locs hw hS => ?_)
  refine W.eq (g2 := F0 m 485 ls [.int v, .int v]) rfl ?_
  refine lv_icmp_eq (tgt := 1809) hx hb dL_law_485 (by decide) (fun _ => ?_) (fun c1 => absurd rfl c1)
  refine W.widen (k := cells + 37) (n := slots + 1245) (by omega) (by omega) ?_
  exact kk Γ _ H locs hE hEk (LI.move hLI (by rw [ug_ne (by decide)]; exact h3) (by rw [ug_ne (by decide)]; exact h4)) h5 hw hS rfl rfl
set_option maxRecDepth 100000 in
set_option maxHeartbeats 8000000 in
theorem lc_state {p : Program} {l : Launch} {e : Env} {s : State} {m : MethodId} {below : List Frame} {meth : Method} {c : Code} {b L : Nat} {xs : Nat → Int32} {Inv : Gs → Prop} (hOb : Ob_state Inv) (hL : L ≤ 3072) (C0 : lw_At p s m meth c b L xs) {i : Nat} (hi : i + 6 ≤ L) {Γ : Gm} {g : Gs} {H : Heap} {locs : List Loc} {ls : Array Slot} {cells slots : Nat} {Q : State → Prop} (hE : Ev Γ (fun q => s.heap.size ≤ q) s) (hEk : Ek (dd Γ) (ac Γ) s) (hLI : LI Γ g) (hI : Inv g) (hw : Wo Γ g H) (hS : va_S (fun q => s.heap.size ≤ q) s.heap H locs) (hl : lv_has ls 4 [(0, .ref b), (1, .ref (ad Γ 901)), (2, .ref (ad Γ 1001)), (3, .int (nI i))]) (hcs : cells + 37 ≤ 600000 ∧ slots + 1245 ≤ 7302250)
    (kk : ∀ (Γ' : Gm) (g' : Gs) (H : Heap) (locs : List Loc), Ev Γ' (fun q => s.heap.size ≤ q) s → Ek (dd Γ') (ac Γ') s → LI Γ' g' → Inv g' → Wo Γ' g' H → va_S (fun q => s.heap.size ≤ q) s.heap H locs → ad Γ' 901 = ad Γ 901 → ad Γ' 1001 = ad Γ 1001 → W p l e room_1 s m #[Value.ref b] below meth c H locs (cells + 37) (slots + 1245) Q (F0 m 1809 ls [])) : W p l e room_1 s m #[Value.ref b] below meth c H locs cells slots Q (F0 m 490 ls []) := by
  obtain ⟨hx, hb, hr, hml, hown, hts, hX, hbl, hlocks, hgv⟩ := id C0
  have hown : s.vm.findClass RL = some m.cls := hown
  have htw : ∀ w ∈ WS, w.before #[Value.ref b] s = true := fun w h => hts w (List.mem_filter.mp h).1
  have hbA : ¬ (fun q => s.heap.size ≤ q) b := Nat.not_le.mpr hbl
  obtain ⟨g1, v, r, h1, h2, h3, h4, h5⟩ := hOb g (xs (i + 1)) (xs (i + 2)) (xs (i + 3)) (xs (i + 4)) hI
  refine lv_aload_n hx hb dL_law_490 rfl (lv_at hl 1 rfl) ?_
  refine lv_aload_n hx hb dL_law_491 rfl (lv_at hl 0 rfl) ?_
  refine lv_iload_n hx hb dL_law_492 rfl (lv_at hl 3 rfl) ?_
  refine lv_iconst (v := 1) hx hb dL_law_493 (by decide) ?_
  refine lv_iadd hx hb dL_law_494 ?_
  refine va_sld hx hb hX hbl hbA hS (sl_in (k := 1) rfl (by omega) hL) dL_law_495 ?_
  refine tp1i (y := xs (i + 1)) (congrArg xs (sl_ix (i := i) (k := 1) (kv := 1) rfl (by omega) hL)) ?_
  refine lv_aload_n hx hb dL_law_496 rfl (lv_at hl 0 rfl) ?_
  refine lv_iload_n hx hb dL_law_497 rfl (lv_at hl 3 rfl) ?_
  refine lv_iconst (v := 2) hx hb dL_law_498 (by decide) ?_
  refine lv_iadd hx hb dL_law_499 ?_
  refine va_sld hx hb hX hbl hbA hS (sl_in (k := 2) rfl (by omega) hL) dL_law_500 ?_
  refine tp1i (y := xs (i + 2)) (congrArg xs (sl_ix (i := i) (k := 2) (kv := 2) rfl (by omega) hL)) ?_
  refine lv_aload_n hx hb dL_law_501 rfl (lv_at hl 0 rfl) ?_
  refine lv_iload_n hx hb dL_law_502 rfl (lv_at hl 3 rfl) ?_
  refine lv_iconst (v := 3) hx hb dL_law_503 (by decide) ?_
  refine lv_iadd hx hb dL_law_504 ?_
  refine va_sld hx hb hX hbl hbA hS (sl_in (k := 3) rfl (by omega) hL) dL_law_505 ?_
  refine tp1i (y := xs (i + 3)) (congrArg xs (sl_ix (i := i) (k := 3) (kv := 3) rfl (by omega) hL)) ?_
  refine lv_aload_n hx hb dL_law_506 rfl (lv_at hl 0 rfl) ?_
  refine lv_iload_n hx hb dL_law_507 rfl (lv_at hl 3 rfl) ?_
  refine lv_iconst (v := 4) hx hb dL_law_508 (by decide) ?_
  refine lv_iadd hx hb dL_law_509 ?_
  refine va_sld hx hb hX hbl hbA hS (sl_in (k := 4) rfl (by omega) hL) dL_law_510 ?_
  refine tp1i (y := xs (i + 4)) (congrArg xs (sl_ix (i := i) (k := 4) (kv := 4) rfl (by omega) hL)) ?_
  refine cl_VL (rest := []) (kX9_state (l := l) (Γ := Γ) (A := fun q => s.heap.size ≤ q) h1) ⟨hx, hb, hml, hown, htw⟩ hE hw hS (hw _ _ (wf_901 hE)) (q0 := 0) rfl rfl (htw _ mw808) mw809 mw810 mw118 mw811 pdX9_state ⟨Nat.le_of_ble_eq_true rfl, Nat.le_of_ble_eq_true rfl⟩ rfl rfl hl.1 (Nat.le_of_ble_eq_true rfl) dL_law_511 ⟨by show _ ≤ 600000; omega, by show _ ≤ 7302250; omega⟩ (fun H locs hw hS => ?_)
  refine W.eq (g2 := F0 m 514 ls [.int v]) rfl ?_
  refine lv_aload_n hx hb dL_law_514 rfl (lv_at hl 2 rfl) ?_
  refine lv_aload_n hx hb dL_law_515 rfl (lv_at hl 0 rfl) ?_
  refine lv_iload_n hx hb dL_law_516 rfl (lv_at hl 3 rfl) ?_
  refine lv_iconst (v := 1) hx hb dL_law_517 (by decide) ?_
  refine lv_iadd hx hb dL_law_518 ?_
  refine va_sld hx hb hX hbl hbA hS (sl_in (k := 1) rfl (by omega) hL) dL_law_519 ?_
  refine tp1i (y := xs (i + 1)) (congrArg xs (sl_ix (i := i) (k := 1) (kv := 1) rfl (by omega) hL)) ?_
  refine lv_aload_n hx hb dL_law_520 rfl (lv_at hl 0 rfl) ?_
  refine lv_iload_n hx hb dL_law_521 rfl (lv_at hl 3 rfl) ?_
  refine lv_iconst (v := 2) hx hb dL_law_522 (by decide) ?_
  refine lv_iadd hx hb dL_law_523 ?_
  refine va_sld hx hb hX hbl hbA hS (sl_in (k := 2) rfl (by omega) hL) dL_law_524 ?_
  refine tp1i (y := xs (i + 2)) (congrArg xs (sl_ix (i := i) (k := 2) (kv := 2) rfl (by omega) hL)) ?_
  refine lv_aload_n hx hb dL_law_525 rfl (lv_at hl 0 rfl) ?_
  refine lv_iload_n hx hb dL_law_526 rfl (lv_at hl 3 rfl) ?_
  refine lv_iconst (v := 3) hx hb dL_law_527 (by decide) ?_
  refine lv_iadd hx hb dL_law_528 ?_
  refine va_sld hx hb hX hbl hbA hS (sl_in (k := 3) rfl (by omega) hL) dL_law_529 ?_
  refine tp1i (y := xs (i + 3)) (congrArg xs (sl_ix (i := i) (k := 3) (kv := 3) rfl (by omega) hL)) ?_
  refine lv_aload_n hx hb dL_law_530 rfl (lv_at hl 0 rfl) ?_
  refine lv_iload_n hx hb dL_law_531 rfl (lv_at hl 3 rfl) ?_
  refine lv_iconst (v := 4) hx hb dL_law_532 (by decide) ?_
  refine lv_iadd hx hb dL_law_533 ?_
  refine va_sld hx hb hX hbl hbA hS (sl_in (k := 4) rfl (by omega) hL) dL_law_534 ?_
  refine tp1i (y := xs (i + 4)) (congrArg xs (sl_ix (i := i) (k := 4) (kv := 4) rfl (by omega) hL)) ?_
  refine cl_VL (rest := [.int v]) (kgX10_state (l := l) (Γ := Γ) (A := fun q => s.heap.size ≤ q) (G := g1) (o := 1001) (wf_1001 hE) h2) ⟨hx, hb, hml, hown, htw⟩ hE hw hS (hw _ _ (wf_1001 hE)) (q0 := 0) rfl rfl (htw _ mw1636) mw1637 mw1638 mw129 mw1639 pdX10_state ⟨Nat.le_of_ble_eq_true rfl, Nat.le_of_ble_eq_true rfl⟩ rfl rfl hl.1 (Nat.le_of_ble_eq_true rfl) dL_law_535 ⟨by show _ ≤ 600000; omega, by show _ ≤ 7302250; omega⟩ (fun H locs hw hS => ?_)
  refine W.eq (g2 := F0 m 538 ls [.int v, .int v]) rfl ?_
  refine lv_icmp_eq (tgt := 1809) hx hb dL_law_538 (by decide) (fun _ => ?_) (fun c1 => absurd rfl c1)
  refine W.widen (k := cells + 37) (n := slots + 1245) (by omega) (by omega) ?_
  exact kk Γ _ H locs hE hEk (LI.move hLI (by rw [ug_ne (by decide)]; exact h3) (by rw [ug_ne (by decide)]; exact h4)) h5 hw hS rfl rfl
set_option maxRecDepth 100000 in
set_option maxHeartbeats 8000000 in
theorem lc_dinner {p : Program} {l : Launch} {e : Env} {s : State} {m : MethodId} {below : List Frame} {meth : Method} {c : Code} {b L : Nat} {xs : Nat → Int32} {Inv : Gs → Prop} (hOb : Ob_dinner Inv) (hL : L ≤ 3072) (C0 : lw_At p s m meth c b L xs) {i : Nat} (hi : i + 6 ≤ L) {Γ : Gm} {g : Gs} {H : Heap} {locs : List Loc} {ls : Array Slot} {cells slots : Nat} {Q : State → Prop} (hE : Ev Γ (fun q => s.heap.size ≤ q) s) (hEk : Ek (dd Γ) (ac Γ) s) (hLI : LI Γ g) (hI : Inv g) (hw : Wo Γ g H) (hS : va_S (fun q => s.heap.size ≤ q) s.heap H locs) (hl : lv_has ls 4 [(0, .ref b), (1, .ref (ad Γ 901)), (2, .ref (ad Γ 1001)), (3, .int (nI i))]) (hcs : cells + 37 ≤ 600000 ∧ slots + 1245 ≤ 7302250)
    (kk : ∀ (Γ' : Gm) (g' : Gs) (H : Heap) (locs : List Loc), Ev Γ' (fun q => s.heap.size ≤ q) s → Ek (dd Γ') (ac Γ') s → LI Γ' g' → Inv g' → Wo Γ' g' H → va_S (fun q => s.heap.size ≤ q) s.heap H locs → ad Γ' 901 = ad Γ 901 → ad Γ' 1001 = ad Γ 1001 → W p l e room_1 s m #[Value.ref b] below meth c H locs (cells + 37) (slots + 1245) Q (F0 m 1809 ls [])) : W p l e room_1 s m #[Value.ref b] below meth c H locs cells slots Q (F0 m 543 ls []) := by
  obtain ⟨hx, hb, hr, hml, hown, hts, hX, hbl, hlocks, hgv⟩ := id C0
  have hown : s.vm.findClass RL = some m.cls := hown
  have htw : ∀ w ∈ WS, w.before #[Value.ref b] s = true := fun w h => hts w (List.mem_filter.mp h).1
  have hbA : ¬ (fun q => s.heap.size ≤ q) b := Nat.not_le.mpr hbl
  obtain ⟨v, r, h1, h2, h5⟩ := hOb g (xs (i + 1)) (xs (i + 2)) (xs (i + 3)) hI
  refine lv_aload_n hx hb dL_law_543 rfl (lv_at hl 1 rfl) ?_
  refine lv_aload_n hx hb dL_law_544 rfl (lv_at hl 0 rfl) ?_
  refine lv_iload_n hx hb dL_law_545 rfl (lv_at hl 3 rfl) ?_
  refine lv_iconst (v := 1) hx hb dL_law_546 (by decide) ?_
  refine lv_iadd hx hb dL_law_547 ?_
  refine va_sld hx hb hX hbl hbA hS (sl_in (k := 1) rfl (by omega) hL) dL_law_548 ?_
  refine tp1i (y := xs (i + 1)) (congrArg xs (sl_ix (i := i) (k := 1) (kv := 1) rfl (by omega) hL)) ?_
  refine lv_aload_n hx hb dL_law_549 rfl (lv_at hl 0 rfl) ?_
  refine lv_iload_n hx hb dL_law_550 rfl (lv_at hl 3 rfl) ?_
  refine lv_iconst (v := 2) hx hb dL_law_551 (by decide) ?_
  refine lv_iadd hx hb dL_law_552 ?_
  refine va_sld hx hb hX hbl hbA hS (sl_in (k := 2) rfl (by omega) hL) dL_law_553 ?_
  refine tp1i (y := xs (i + 2)) (congrArg xs (sl_ix (i := i) (k := 2) (kv := 2) rfl (by omega) hL)) ?_
  refine lv_aload_n hx hb dL_law_554 rfl (lv_at hl 0 rfl) ?_
  refine lv_iload_n hx hb dL_law_555 rfl (lv_at hl 3 rfl) ?_
  refine lv_iconst (v := 3) hx hb dL_law_556 (by decide) ?_
  refine lv_iadd hx hb dL_law_557 ?_
  refine va_sld hx hb hX hbl hbA hS (sl_in (k := 3) rfl (by omega) hL) dL_law_558 ?_
  refine tp1i (y := xs (i + 3)) (congrArg xs (sl_ix (i := i) (k := 3) (kv := 3) rfl (by omega) hL)) ?_
  refine cl_VL (rest := []) (kX9_dinner (l := l) (Γ := Γ) (A := fun q => s.heap.size ≤ q) h1) ⟨hx, hb, hml, hown, htw⟩ hE hw hS (hw _ _ (wf_901 hE)) (q0 := 0) rfl rfl (htw _ mw820) mw821 mw822 mw118 mw823 pdX9_dinner ⟨Nat.le_of_ble_eq_true rfl, Nat.le_of_ble_eq_true rfl⟩ rfl rfl hl.1 (Nat.le_of_ble_eq_true rfl) dL_law_559 ⟨by show _ ≤ 600000; omega, by show _ ≤ 7302250; omega⟩ (fun H locs hw hS => ?_)
  refine W.eq (g2 := F0 m 562 ls [.int v]) rfl ?_
  refine lv_aload_n hx hb dL_law_562 rfl (lv_at hl 2 rfl) ?_
  refine lv_aload_n hx hb dL_law_563 rfl (lv_at hl 0 rfl) ?_
  refine lv_iload_n hx hb dL_law_564 rfl (lv_at hl 3 rfl) ?_
  refine lv_iconst (v := 1) hx hb dL_law_565 (by decide) ?_
  refine lv_iadd hx hb dL_law_566 ?_
  refine va_sld hx hb hX hbl hbA hS (sl_in (k := 1) rfl (by omega) hL) dL_law_567 ?_
  refine tp1i (y := xs (i + 1)) (congrArg xs (sl_ix (i := i) (k := 1) (kv := 1) rfl (by omega) hL)) ?_
  refine lv_aload_n hx hb dL_law_568 rfl (lv_at hl 0 rfl) ?_
  refine lv_iload_n hx hb dL_law_569 rfl (lv_at hl 3 rfl) ?_
  refine lv_iconst (v := 2) hx hb dL_law_570 (by decide) ?_
  refine lv_iadd hx hb dL_law_571 ?_
  refine va_sld hx hb hX hbl hbA hS (sl_in (k := 2) rfl (by omega) hL) dL_law_572 ?_
  refine tp1i (y := xs (i + 2)) (congrArg xs (sl_ix (i := i) (k := 2) (kv := 2) rfl (by omega) hL)) ?_
  refine lv_aload_n hx hb dL_law_573 rfl (lv_at hl 0 rfl) ?_
  refine lv_iload_n hx hb dL_law_574 rfl (lv_at hl 3 rfl) ?_
  refine lv_iconst (v := 3) hx hb dL_law_575 (by decide) ?_
  refine lv_iadd hx hb dL_law_576 ?_
  refine va_sld hx hb hX hbl hbA hS (sl_in (k := 3) rfl (by omega) hL) dL_law_577 ?_
  refine tp1i (y := xs (i + 3)) (congrArg xs (sl_ix (i := i) (k := 3) (kv := 3) rfl (by omega) hL)) ?_
  refine cl_VL (rest := [.int v]) (kgX10_dinner (l := l) (Γ := Γ) (A := fun q => s.heap.size ≤ q) (G := g) (o := 1001) (wf_1001 hE) h2) ⟨hx, hb, hml, hown, htw⟩ hE hw hS (hw _ _ (wf_1001 hE)) (q0 := 0) rfl rfl (htw _ mw1652) mw1653 mw1654 mw129 mw1655 pdX10_dinner ⟨Nat.le_of_ble_eq_true rfl, Nat.le_of_ble_eq_true rfl⟩ rfl rfl hl.1 (Nat.le_of_ble_eq_true rfl) dL_law_578 ⟨by show _ ≤ 600000; omega, by show _ ≤ 7302250; omega⟩ (fun H locs hw hS => ?_)
  refine W.eq (g2 := F0 m 581 ls [.int v, .int v]) rfl ?_
  refine lv_icmp_eq (tgt := 1809) hx hb dL_law_581 (by decide) (fun _ => ?_) (fun c1 => absurd rfl c1)
  refine W.widen (k := cells + 37) (n := slots + 1245) (by omega) (by omega) ?_
  exact kk Γ _ H locs hE hEk (LI.move hLI (by rw [ug_ne (by decide)]) (by rw [ug_ne (by decide)]; exact hLI.2.2.2.2)) h5 hw hS rfl rfl
set_option maxRecDepth 100000 in
set_option maxHeartbeats 8000000 in
theorem lc_served {p : Program} {l : Launch} {e : Env} {s : State} {m : MethodId} {below : List Frame} {meth : Method} {c : Code} {b L : Nat} {xs : Nat → Int32} {Inv : Gs → Prop} (hOb : Ob_served Inv) (hL : L ≤ 3072) (C0 : lw_At p s m meth c b L xs) {i : Nat} (hi : i + 6 ≤ L) {Γ : Gm} {g : Gs} {H : Heap} {locs : List Loc} {ls : Array Slot} {cells slots : Nat} {Q : State → Prop} (hE : Ev Γ (fun q => s.heap.size ≤ q) s) (hEk : Ek (dd Γ) (ac Γ) s) (hLI : LI Γ g) (hI : Inv g) (hw : Wo Γ g H) (hS : va_S (fun q => s.heap.size ≤ q) s.heap H locs) (hl : lv_has ls 4 [(0, .ref b), (1, .ref (ad Γ 901)), (2, .ref (ad Γ 1001)), (3, .int (nI i))]) (hcs : cells + 37 ≤ 600000 ∧ slots + 1245 ≤ 7302250)
    (kk : ∀ (Γ' : Gm) (g' : Gs) (H : Heap) (locs : List Loc), Ev Γ' (fun q => s.heap.size ≤ q) s → Ek (dd Γ') (ac Γ') s → LI Γ' g' → Inv g' → Wo Γ' g' H → va_S (fun q => s.heap.size ≤ q) s.heap H locs → ad Γ' 901 = ad Γ 901 → ad Γ' 1001 = ad Γ 1001 → W p l e room_1 s m #[Value.ref b] below meth c H locs (cells + 37) (slots + 1245) Q (F0 m 1809 ls [])) : W p l e room_1 s m #[Value.ref b] below meth c H locs cells slots Q (F0 m 586 ls []) := by
  obtain ⟨hx, hb, hr, hml, hown, hts, hX, hbl, hlocks, hgv⟩ := id C0
  have hown : s.vm.findClass RL = some m.cls := hown
  have htw : ∀ w ∈ WS, w.before #[Value.ref b] s = true := fun w h => hts w (List.mem_filter.mp h).1
  have hbA : ¬ (fun q => s.heap.size ≤ q) b := Nat.not_le.mpr hbl
  obtain ⟨g1, v, r, h1, h2, h3, h4, h5⟩ := hOb g (xs (i + 1)) (xs (i + 2)) (xs (i + 3)) hI
  refine lv_aload_n hx hb dL_law_586 rfl (lv_at hl 1 rfl) ?_
  refine lv_aload_n hx hb dL_law_587 rfl (lv_at hl 0 rfl) ?_
  refine lv_iload_n hx hb dL_law_588 rfl (lv_at hl 3 rfl) ?_
  refine lv_iconst (v := 1) hx hb dL_law_589 (by decide) ?_
  refine lv_iadd hx hb dL_law_590 ?_
  refine va_sld hx hb hX hbl hbA hS (sl_in (k := 1) rfl (by omega) hL) dL_law_591 ?_
  refine tp1i (y := xs (i + 1)) (congrArg xs (sl_ix (i := i) (k := 1) (kv := 1) rfl (by omega) hL)) ?_
  refine lv_aload_n hx hb dL_law_592 rfl (lv_at hl 0 rfl) ?_
  refine lv_iload_n hx hb dL_law_593 rfl (lv_at hl 3 rfl) ?_
  refine lv_iconst (v := 2) hx hb dL_law_594 (by decide) ?_
  refine lv_iadd hx hb dL_law_595 ?_
  refine va_sld hx hb hX hbl hbA hS (sl_in (k := 2) rfl (by omega) hL) dL_law_596 ?_
  refine tp1i (y := xs (i + 2)) (congrArg xs (sl_ix (i := i) (k := 2) (kv := 2) rfl (by omega) hL)) ?_
  refine lv_aload_n hx hb dL_law_597 rfl (lv_at hl 0 rfl) ?_
  refine lv_iload_n hx hb dL_law_598 rfl (lv_at hl 3 rfl) ?_
  refine lv_iconst (v := 3) hx hb dL_law_599 (by decide) ?_
  refine lv_iadd hx hb dL_law_600 ?_
  refine va_sld hx hb hX hbl hbA hS (sl_in (k := 3) rfl (by omega) hL) dL_law_601 ?_
  refine tp1i (y := xs (i + 3)) (congrArg xs (sl_ix (i := i) (k := 3) (kv := 3) rfl (by omega) hL)) ?_
  refine cl_VL (rest := []) (kX9_served (l := l) (Γ := Γ) (A := fun q => s.heap.size ≤ q) h1) ⟨hx, hb, hml, hown, htw⟩ hE hw hS (hw _ _ (wf_901 hE)) (q0 := 0) rfl rfl (htw _ mw827) mw828 mw829 mw118 mw830 pdX9_served ⟨Nat.le_of_ble_eq_true rfl, Nat.le_of_ble_eq_true rfl⟩ rfl rfl hl.1 (Nat.le_of_ble_eq_true rfl) dL_law_602 ⟨by show _ ≤ 600000; omega, by show _ ≤ 7302250; omega⟩ (fun H locs hw hS => ?_)
  refine W.eq (g2 := F0 m 605 ls [.int v]) rfl ?_
  refine lv_aload_n hx hb dL_law_605 rfl (lv_at hl 2 rfl) ?_
  refine lv_aload_n hx hb dL_law_606 rfl (lv_at hl 0 rfl) ?_
  refine lv_iload_n hx hb dL_law_607 rfl (lv_at hl 3 rfl) ?_
  refine lv_iconst (v := 1) hx hb dL_law_608 (by decide) ?_
  refine lv_iadd hx hb dL_law_609 ?_
  refine va_sld hx hb hX hbl hbA hS (sl_in (k := 1) rfl (by omega) hL) dL_law_610 ?_
  refine tp1i (y := xs (i + 1)) (congrArg xs (sl_ix (i := i) (k := 1) (kv := 1) rfl (by omega) hL)) ?_
  refine lv_aload_n hx hb dL_law_611 rfl (lv_at hl 0 rfl) ?_
  refine lv_iload_n hx hb dL_law_612 rfl (lv_at hl 3 rfl) ?_
  refine lv_iconst (v := 2) hx hb dL_law_613 (by decide) ?_
  refine lv_iadd hx hb dL_law_614 ?_
  refine va_sld hx hb hX hbl hbA hS (sl_in (k := 2) rfl (by omega) hL) dL_law_615 ?_
  refine tp1i (y := xs (i + 2)) (congrArg xs (sl_ix (i := i) (k := 2) (kv := 2) rfl (by omega) hL)) ?_
  refine lv_aload_n hx hb dL_law_616 rfl (lv_at hl 0 rfl) ?_
  refine lv_iload_n hx hb dL_law_617 rfl (lv_at hl 3 rfl) ?_
  refine lv_iconst (v := 3) hx hb dL_law_618 (by decide) ?_
  refine lv_iadd hx hb dL_law_619 ?_
  refine va_sld hx hb hX hbl hbA hS (sl_in (k := 3) rfl (by omega) hL) dL_law_620 ?_
  refine tp1i (y := xs (i + 3)) (congrArg xs (sl_ix (i := i) (k := 3) (kv := 3) rfl (by omega) hL)) ?_
  refine cl_VL (rest := [.int v]) (kgX10_served (l := l) (Γ := Γ) (A := fun q => s.heap.size ≤ q) (G := g1) (o := 1001) (wf_1001 hE) h2) ⟨hx, hb, hml, hown, htw⟩ hE hw hS (hw _ _ (wf_1001 hE)) (q0 := 0) rfl rfl (htw _ mw1668) mw1669 mw1670 mw129 mw1671 pdX10_served ⟨Nat.le_of_ble_eq_true rfl, Nat.le_of_ble_eq_true rfl⟩ rfl rfl hl.1 (Nat.le_of_ble_eq_true rfl) dL_law_621 ⟨by show _ ≤ 600000; omega, by show _ ≤ 7302250; omega⟩ (fun H locs hw hS => ?_)
  refine W.eq (g2 := F0 m 624 ls [.int v, .int v]) rfl ?_
  refine lv_icmp_eq (tgt := 1809) hx hb dL_law_624 (by decide) (fun _ => ?_) (fun c1 => absurd rfl c1)
  refine W.widen (k := cells + 37) (n := slots + 1245) (by omega) (by omega) ?_
  exact kk Γ _ H locs hE hEk (LI.move hLI (by rw [ug_ne (by decide)]; exact h3) (by rw [ug_ne (by decide)]; exact h4)) h5 hw hS rfl rfl
set_option maxRecDepth 100000 in
set_option maxHeartbeats 8000000 in
theorem lc_comes {p : Program} {l : Launch} {e : Env} {s : State} {m : MethodId} {below : List Frame} {meth : Method} {c : Code} {b L : Nat} {xs : Nat → Int32} {Inv : Gs → Prop} (hOb : Ob_comes Inv) (hL : L ≤ 3072) (C0 : lw_At p s m meth c b L xs) {i : Nat} (hi : i + 6 ≤ L) {Γ : Gm} {g : Gs} {H : Heap} {locs : List Loc} {ls : Array Slot} {cells slots : Nat} {Q : State → Prop} (hE : Ev Γ (fun q => s.heap.size ≤ q) s) (hEk : Ek (dd Γ) (ac Γ) s) (hLI : LI Γ g) (hI : Inv g) (hw : Wo Γ g H) (hS : va_S (fun q => s.heap.size ≤ q) s.heap H locs) (hl : lv_has ls 4 [(0, .ref b), (1, .ref (ad Γ 901)), (2, .ref (ad Γ 1001)), (3, .int (nI i))]) (hcs : cells + 37 ≤ 600000 ∧ slots + 1245 ≤ 7302250)
    (kk : ∀ (Γ' : Gm) (g' : Gs) (H : Heap) (locs : List Loc), Ev Γ' (fun q => s.heap.size ≤ q) s → Ek (dd Γ') (ac Γ') s → LI Γ' g' → Inv g' → Wo Γ' g' H → va_S (fun q => s.heap.size ≤ q) s.heap H locs → ad Γ' 901 = ad Γ 901 → ad Γ' 1001 = ad Γ 1001 → W p l e room_1 s m #[Value.ref b] below meth c H locs (cells + 37) (slots + 1245) Q (F0 m 1809 ls [])) : W p l e room_1 s m #[Value.ref b] below meth c H locs cells slots Q (F0 m 629 ls []) := by
  obtain ⟨hx, hb, hr, hml, hown, hts, hX, hbl, hlocks, hgv⟩ := id C0
  have hown : s.vm.findClass RL = some m.cls := hown
  have htw : ∀ w ∈ WS, w.before #[Value.ref b] s = true := fun w h => hts w (List.mem_filter.mp h).1
  have hbA : ¬ (fun q => s.heap.size ≤ q) b := Nat.not_le.mpr hbl
  obtain ⟨v, r, h1, h2, h5⟩ := hOb g (xs (i + 1)) (xs (i + 2)) hI
  refine lv_aload_n hx hb dL_law_629 rfl (lv_at hl 1 rfl) ?_
  refine lv_aload_n hx hb dL_law_630 rfl (lv_at hl 0 rfl) ?_
  refine lv_iload_n hx hb dL_law_631 rfl (lv_at hl 3 rfl) ?_
  refine lv_iconst (v := 1) hx hb dL_law_632 (by decide) ?_
  refine lv_iadd hx hb dL_law_633 ?_
  refine va_sld hx hb hX hbl hbA hS (sl_in (k := 1) rfl (by omega) hL) dL_law_634 ?_
  refine tp1i (y := xs (i + 1)) (congrArg xs (sl_ix (i := i) (k := 1) (kv := 1) rfl (by omega) hL)) ?_
  refine lv_aload_n hx hb dL_law_635 rfl (lv_at hl 0 rfl) ?_
  refine lv_iload_n hx hb dL_law_636 rfl (lv_at hl 3 rfl) ?_
  refine lv_iconst (v := 2) hx hb dL_law_637 (by decide) ?_
  refine lv_iadd hx hb dL_law_638 ?_
  refine va_sld hx hb hX hbl hbA hS (sl_in (k := 2) rfl (by omega) hL) dL_law_639 ?_
  refine tp1i (y := xs (i + 2)) (congrArg xs (sl_ix (i := i) (k := 2) (kv := 2) rfl (by omega) hL)) ?_
  refine cl_VL (rest := []) (kX9_comes (l := l) (Γ := Γ) (A := fun q => s.heap.size ≤ q) h1) ⟨hx, hb, hml, hown, htw⟩ hE hw hS (hw _ _ (wf_901 hE)) (q0 := 0) rfl rfl (htw _ mw884) mw885 mw886 mw118 mw887 pdX9_comes ⟨Nat.le_of_ble_eq_true rfl, Nat.le_of_ble_eq_true rfl⟩ rfl rfl hl.1 (Nat.le_of_ble_eq_true rfl) dL_law_640 ⟨by show _ ≤ 600000; omega, by show _ ≤ 7302250; omega⟩ (fun H locs hw hS => ?_)
  refine W.eq (g2 := F0 m 643 ls [.int v]) rfl ?_
  refine lv_aload_n hx hb dL_law_643 rfl (lv_at hl 2 rfl) ?_
  refine lv_aload_n hx hb dL_law_644 rfl (lv_at hl 0 rfl) ?_
  refine lv_iload_n hx hb dL_law_645 rfl (lv_at hl 3 rfl) ?_
  refine lv_iconst (v := 1) hx hb dL_law_646 (by decide) ?_
  refine lv_iadd hx hb dL_law_647 ?_
  refine va_sld hx hb hX hbl hbA hS (sl_in (k := 1) rfl (by omega) hL) dL_law_648 ?_
  refine tp1i (y := xs (i + 1)) (congrArg xs (sl_ix (i := i) (k := 1) (kv := 1) rfl (by omega) hL)) ?_
  refine lv_aload_n hx hb dL_law_649 rfl (lv_at hl 0 rfl) ?_
  refine lv_iload_n hx hb dL_law_650 rfl (lv_at hl 3 rfl) ?_
  refine lv_iconst (v := 2) hx hb dL_law_651 (by decide) ?_
  refine lv_iadd hx hb dL_law_652 ?_
  refine va_sld hx hb hX hbl hbA hS (sl_in (k := 2) rfl (by omega) hL) dL_law_653 ?_
  refine tp1i (y := xs (i + 2)) (congrArg xs (sl_ix (i := i) (k := 2) (kv := 2) rfl (by omega) hL)) ?_
  refine cl_VL (rest := [.int v]) (kgX10_comes (l := l) (Γ := Γ) (A := fun q => s.heap.size ≤ q) (G := g) (o := 1001) (wf_1001 hE) h2) ⟨hx, hb, hml, hown, htw⟩ hE hw hS (hw _ _ (wf_1001 hE)) (q0 := 0) rfl rfl (htw _ mw1688) mw1689 mw1690 mw129 mw1691 pdX10_comes ⟨Nat.le_of_ble_eq_true rfl, Nat.le_of_ble_eq_true rfl⟩ rfl rfl hl.1 (Nat.le_of_ble_eq_true rfl) dL_law_654 ⟨by show _ ≤ 600000; omega, by show _ ≤ 7302250; omega⟩ (fun H locs hw hS => ?_)
  refine W.eq (g2 := F0 m 657 ls [.int v, .int v]) rfl ?_
  refine lv_icmp_eq (tgt := 1809) hx hb dL_law_657 (by decide) (fun _ => ?_) (fun c1 => absurd rfl c1)
  refine W.widen (k := cells + 37) (n := slots + 1245) (by omega) (by omega) ?_
  exact kk Γ _ H locs hE hEk (LI.move hLI (by rw [ug_ne (by decide)]) (by rw [ug_ne (by decide)]; exact hLI.2.2.2.2)) h5 hw hS rfl rfl
set_option maxRecDepth 100000 in
set_option maxHeartbeats 8000000 in
theorem lc_keep {p : Program} {l : Launch} {e : Env} {s : State} {m : MethodId} {below : List Frame} {meth : Method} {c : Code} {b L : Nat} {xs : Nat → Int32} {Inv : Gs → Prop} (hOb : Ob_keep Inv) (hL : L ≤ 3072) (C0 : lw_At p s m meth c b L xs) {i : Nat} (hi : i + 6 ≤ L) {Γ : Gm} {g : Gs} {H : Heap} {locs : List Loc} {ls : Array Slot} {cells slots : Nat} {Q : State → Prop} (hE : Ev Γ (fun q => s.heap.size ≤ q) s) (hEk : Ek (dd Γ) (ac Γ) s) (hLI : LI Γ g) (hI : Inv g) (hw : Wo Γ g H) (hS : va_S (fun q => s.heap.size ≤ q) s.heap H locs) (hl : lv_has ls 4 [(0, .ref b), (1, .ref (ad Γ 901)), (2, .ref (ad Γ 1001)), (3, .int (nI i))]) (hcs : cells + 37 ≤ 600000 ∧ slots + 1245 ≤ 7302250)
    (kk : ∀ (Γ' : Gm) (g' : Gs) (H : Heap) (locs : List Loc), Ev Γ' (fun q => s.heap.size ≤ q) s → Ek (dd Γ') (ac Γ') s → LI Γ' g' → Inv g' → Wo Γ' g' H → va_S (fun q => s.heap.size ≤ q) s.heap H locs → ad Γ' 901 = ad Γ 901 → ad Γ' 1001 = ad Γ 1001 → W p l e room_1 s m #[Value.ref b] below meth c H locs (cells + 37) (slots + 1245) Q (F0 m 1809 ls [])) : W p l e room_1 s m #[Value.ref b] below meth c H locs cells slots Q (F0 m 662 ls []) := by
  obtain ⟨hx, hb, hr, hml, hown, hts, hX, hbl, hlocks, hgv⟩ := id C0
  have hown : s.vm.findClass RL = some m.cls := hown
  have htw : ∀ w ∈ WS, w.before #[Value.ref b] s = true := fun w h => hts w (List.mem_filter.mp h).1
  have hbA : ¬ (fun q => s.heap.size ≤ q) b := Nat.not_le.mpr hbl
  obtain ⟨v, r, h1, h2, h5⟩ := hOb g (xs (i + 1)) (xs (i + 2)) (bz (xs (i + 3))) hI (bz_or _)
  refine lv_aload_n hx hb dL_law_662 rfl (lv_at hl 1 rfl) ?_
  refine lv_aload_n hx hb dL_law_663 rfl (lv_at hl 0 rfl) ?_
  refine lv_iload_n hx hb dL_law_664 rfl (lv_at hl 3 rfl) ?_
  refine lv_iconst (v := 1) hx hb dL_law_665 (by decide) ?_
  refine lv_iadd hx hb dL_law_666 ?_
  refine va_sld hx hb hX hbl hbA hS (sl_in (k := 1) rfl (by omega) hL) dL_law_667 ?_
  refine tp1i (y := xs (i + 1)) (congrArg xs (sl_ix (i := i) (k := 1) (kv := 1) rfl (by omega) hL)) ?_
  refine lv_aload_n hx hb dL_law_668 rfl (lv_at hl 0 rfl) ?_
  refine lv_iload_n hx hb dL_law_669 rfl (lv_at hl 3 rfl) ?_
  refine lv_iconst (v := 2) hx hb dL_law_670 (by decide) ?_
  refine lv_iadd hx hb dL_law_671 ?_
  refine va_sld hx hb hX hbl hbA hS (sl_in (k := 2) rfl (by omega) hL) dL_law_672 ?_
  refine tp1i (y := xs (i + 2)) (congrArg xs (sl_ix (i := i) (k := 2) (kv := 2) rfl (by omega) hL)) ?_
  refine lv_aload_n hx hb dL_law_673 rfl (lv_at hl 0 rfl) ?_
  refine lv_iload_n hx hb dL_law_674 rfl (lv_at hl 3 rfl) ?_
  refine lv_iconst (v := 3) hx hb dL_law_675 (by decide) ?_
  refine lv_iadd hx hb dL_law_676 ?_
  refine va_sld hx hb hX hbl hbA hS (sl_in (k := 3) rfl (by omega) hL) dL_law_677 ?_
  refine tp1i (y := xs (i + 3)) (congrArg xs (sl_ix (i := i) (k := 3) (kv := 3) rfl (by omega) hL)) ?_
  suffices key : W p l e room_1 s m #[Value.ref b] below meth c H locs cells slots Q (F0 m 686 ls [.int (bz (xs (i + 3))), .int (xs (i + 2)), .int (xs (i + 1)), .ref (ad Γ 901)]) by
    refine lv_if_eq (tgt := 685) hx hb dL_law_678 (by decide) (fun c1 => ?_) (fun c1 => ?_)
    · refine lv_iconst (v := 0) hx hb dL_law_685 (by decide) ?_
      exact tp1i (if_pos c1).symm key
    · refine lv_iconst (v := 1) hx hb dL_law_681 (by decide) ?_
      refine lv_goto (tgt := 686) hx hb dL_law_682 (by decide) ?_
      exact tp1i (if_neg c1).symm key
  refine cl_VL (rest := []) (kX9_keep (l := l) (Γ := Γ) (A := fun q => s.heap.size ≤ q) h1) ⟨hx, hb, hml, hown, htw⟩ hE hw hS (hw _ _ (wf_901 hE)) (q0 := 0) rfl rfl (htw _ mw900) mw901 mw902 mw118 mw903 pdX9_keep ⟨Nat.le_of_ble_eq_true rfl, Nat.le_of_ble_eq_true rfl⟩ rfl rfl hl.1 (Nat.le_of_ble_eq_true rfl) dL_law_686 ⟨by show _ ≤ 600000; omega, by show _ ≤ 7302250; omega⟩ (fun H locs hw hS => ?_)
  refine W.eq (g2 := F0 m 689 ls [.int v]) rfl ?_
  refine lv_aload_n hx hb dL_law_689 rfl (lv_at hl 2 rfl) ?_
  refine lv_aload_n hx hb dL_law_690 rfl (lv_at hl 0 rfl) ?_
  refine lv_iload_n hx hb dL_law_691 rfl (lv_at hl 3 rfl) ?_
  refine lv_iconst (v := 1) hx hb dL_law_692 (by decide) ?_
  refine lv_iadd hx hb dL_law_693 ?_
  refine va_sld hx hb hX hbl hbA hS (sl_in (k := 1) rfl (by omega) hL) dL_law_694 ?_
  refine tp1i (y := xs (i + 1)) (congrArg xs (sl_ix (i := i) (k := 1) (kv := 1) rfl (by omega) hL)) ?_
  refine lv_aload_n hx hb dL_law_695 rfl (lv_at hl 0 rfl) ?_
  refine lv_iload_n hx hb dL_law_696 rfl (lv_at hl 3 rfl) ?_
  refine lv_iconst (v := 2) hx hb dL_law_697 (by decide) ?_
  refine lv_iadd hx hb dL_law_698 ?_
  refine va_sld hx hb hX hbl hbA hS (sl_in (k := 2) rfl (by omega) hL) dL_law_699 ?_
  refine tp1i (y := xs (i + 2)) (congrArg xs (sl_ix (i := i) (k := 2) (kv := 2) rfl (by omega) hL)) ?_
  refine lv_aload_n hx hb dL_law_700 rfl (lv_at hl 0 rfl) ?_
  refine lv_iload_n hx hb dL_law_701 rfl (lv_at hl 3 rfl) ?_
  refine lv_iconst (v := 3) hx hb dL_law_702 (by decide) ?_
  refine lv_iadd hx hb dL_law_703 ?_
  refine va_sld hx hb hX hbl hbA hS (sl_in (k := 3) rfl (by omega) hL) dL_law_704 ?_
  refine tp1i (y := xs (i + 3)) (congrArg xs (sl_ix (i := i) (k := 3) (kv := 3) rfl (by omega) hL)) ?_
  suffices key : W p l e room_1 s m #[Value.ref b] below meth c H locs cells slots Q (F0 m 713 ls [.int (bz (xs (i + 3))), .int (xs (i + 2)), .int (xs (i + 1)), .ref (ad Γ 1001), .int v]) by
    refine lv_if_eq (tgt := 712) hx hb dL_law_705 (by decide) (fun c1 => ?_) (fun c1 => ?_)
    · refine lv_iconst (v := 0) hx hb dL_law_712 (by decide) ?_
      exact tp1i (if_pos c1).symm key
    · refine lv_iconst (v := 1) hx hb dL_law_708 (by decide) ?_
      refine lv_goto (tgt := 713) hx hb dL_law_709 (by decide) ?_
      exact tp1i (if_neg c1).symm key
  refine cl_VL (rest := [.int v]) (kgX10_keep_ (l := l) (Γ := Γ) (A := fun q => s.heap.size ≤ q) (G := g) (o := 1001) (wf_1001 hE) h2) ⟨hx, hb, hml, hown, htw⟩ hE hw hS (hw _ _ (wf_1001 hE)) (q0 := 0) rfl rfl (htw _ mw1712) mw1713 mw1714 mw129 mw1715 pdX10_keep_ ⟨Nat.le_of_ble_eq_true rfl, Nat.le_of_ble_eq_true rfl⟩ rfl rfl hl.1 (Nat.le_of_ble_eq_true rfl) dL_law_713 ⟨by show _ ≤ 600000; omega, by show _ ≤ 7302250; omega⟩ (fun H locs hw hS => ?_)
  refine W.eq (g2 := F0 m 716 ls [.int v, .int v]) rfl ?_
  refine lv_icmp_eq (tgt := 1809) hx hb dL_law_716 (by decide) (fun _ => ?_) (fun c1 => absurd rfl c1)
  refine W.widen (k := cells + 37) (n := slots + 1245) (by omega) (by omega) ?_
  exact kk Γ _ H locs hE hEk (LI.move hLI (by rw [ug_ne (by decide)]) (by rw [ug_ne (by decide)]; exact hLI.2.2.2.2)) h5 hw hS rfl rfl
set_option maxRecDepth 100000 in
set_option maxHeartbeats 8000000 in
theorem lc_theft {p : Program} {l : Launch} {e : Env} {s : State} {m : MethodId} {below : List Frame} {meth : Method} {c : Code} {b L : Nat} {xs : Nat → Int32} {Inv : Gs → Prop} (hOb : Ob_theft Inv) (hL : L ≤ 3072) (C0 : lw_At p s m meth c b L xs) {i : Nat} (hi : i + 6 ≤ L) {Γ : Gm} {g : Gs} {H : Heap} {locs : List Loc} {ls : Array Slot} {cells slots : Nat} {Q : State → Prop} (hE : Ev Γ (fun q => s.heap.size ≤ q) s) (hEk : Ek (dd Γ) (ac Γ) s) (hLI : LI Γ g) (hI : Inv g) (hw : Wo Γ g H) (hS : va_S (fun q => s.heap.size ≤ q) s.heap H locs) (hl : lv_has ls 4 [(0, .ref b), (1, .ref (ad Γ 901)), (2, .ref (ad Γ 1001)), (3, .int (nI i))]) (hcs : cells + 37 ≤ 600000 ∧ slots + 1245 ≤ 7302250)
    (kk : ∀ (Γ' : Gm) (g' : Gs) (H : Heap) (locs : List Loc), Ev Γ' (fun q => s.heap.size ≤ q) s → Ek (dd Γ') (ac Γ') s → LI Γ' g' → Inv g' → Wo Γ' g' H → va_S (fun q => s.heap.size ≤ q) s.heap H locs → ad Γ' 901 = ad Γ 901 → ad Γ' 1001 = ad Γ 1001 → W p l e room_1 s m #[Value.ref b] below meth c H locs (cells + 37) (slots + 1245) Q (F0 m 1809 ls [])) : W p l e room_1 s m #[Value.ref b] below meth c H locs cells slots Q (F0 m 721 ls []) := by
  obtain ⟨hx, hb, hr, hml, hown, hts, hX, hbl, hlocks, hgv⟩ := id C0
  have hown : s.vm.findClass RL = some m.cls := hown
  have htw : ∀ w ∈ WS, w.before #[Value.ref b] s = true := fun w h => hts w (List.mem_filter.mp h).1
  have hbA : ¬ (fun q => s.heap.size ≤ q) b := Nat.not_le.mpr hbl
  obtain ⟨g1, v, r, h1, h2, h3, h4, h5⟩ := hOb g (xs (i + 1)) (xs (i + 2)) (bz (xs (i + 3))) hI (bz_or _)
  refine lv_aload_n hx hb dL_law_721 rfl (lv_at hl 1 rfl) ?_
  refine lv_aload_n hx hb dL_law_722 rfl (lv_at hl 0 rfl) ?_
  refine lv_iload_n hx hb dL_law_723 rfl (lv_at hl 3 rfl) ?_
  refine lv_iconst (v := 1) hx hb dL_law_724 (by decide) ?_
  refine lv_iadd hx hb dL_law_725 ?_
  refine va_sld hx hb hX hbl hbA hS (sl_in (k := 1) rfl (by omega) hL) dL_law_726 ?_
  refine tp1i (y := xs (i + 1)) (congrArg xs (sl_ix (i := i) (k := 1) (kv := 1) rfl (by omega) hL)) ?_
  refine lv_aload_n hx hb dL_law_727 rfl (lv_at hl 0 rfl) ?_
  refine lv_iload_n hx hb dL_law_728 rfl (lv_at hl 3 rfl) ?_
  refine lv_iconst (v := 2) hx hb dL_law_729 (by decide) ?_
  refine lv_iadd hx hb dL_law_730 ?_
  refine va_sld hx hb hX hbl hbA hS (sl_in (k := 2) rfl (by omega) hL) dL_law_731 ?_
  refine tp1i (y := xs (i + 2)) (congrArg xs (sl_ix (i := i) (k := 2) (kv := 2) rfl (by omega) hL)) ?_
  refine lv_aload_n hx hb dL_law_732 rfl (lv_at hl 0 rfl) ?_
  refine lv_iload_n hx hb dL_law_733 rfl (lv_at hl 3 rfl) ?_
  refine lv_iconst (v := 3) hx hb dL_law_734 (by decide) ?_
  refine lv_iadd hx hb dL_law_735 ?_
  refine va_sld hx hb hX hbl hbA hS (sl_in (k := 3) rfl (by omega) hL) dL_law_736 ?_
  refine tp1i (y := xs (i + 3)) (congrArg xs (sl_ix (i := i) (k := 3) (kv := 3) rfl (by omega) hL)) ?_
  suffices key : W p l e room_1 s m #[Value.ref b] below meth c H locs cells slots Q (F0 m 745 ls [.int (bz (xs (i + 3))), .int (xs (i + 2)), .int (xs (i + 1)), .ref (ad Γ 901)]) by
    refine lv_if_eq (tgt := 744) hx hb dL_law_737 (by decide) (fun c1 => ?_) (fun c1 => ?_)
    · refine lv_iconst (v := 0) hx hb dL_law_744 (by decide) ?_
      exact tp1i (if_pos c1).symm key
    · refine lv_iconst (v := 1) hx hb dL_law_740 (by decide) ?_
      refine lv_goto (tgt := 745) hx hb dL_law_741 (by decide) ?_
      exact tp1i (if_neg c1).symm key
  refine cl_VL (rest := []) (kX9_theft (l := l) (Γ := Γ) (A := fun q => s.heap.size ≤ q) h1) ⟨hx, hb, hml, hown, htw⟩ hE hw hS (hw _ _ (wf_901 hE)) (q0 := 0) rfl rfl (htw _ mw915) mw916 mw917 mw118 mw918 pdX9_theft ⟨Nat.le_of_ble_eq_true rfl, Nat.le_of_ble_eq_true rfl⟩ rfl rfl hl.1 (Nat.le_of_ble_eq_true rfl) dL_law_745 ⟨by show _ ≤ 600000; omega, by show _ ≤ 7302250; omega⟩ (fun H locs hw hS => ?_)
  refine W.eq (g2 := F0 m 748 ls [.int v]) rfl ?_
  refine lv_aload_n hx hb dL_law_748 rfl (lv_at hl 2 rfl) ?_
  refine lv_aload_n hx hb dL_law_749 rfl (lv_at hl 0 rfl) ?_
  refine lv_iload_n hx hb dL_law_750 rfl (lv_at hl 3 rfl) ?_
  refine lv_iconst (v := 1) hx hb dL_law_751 (by decide) ?_
  refine lv_iadd hx hb dL_law_752 ?_
  refine va_sld hx hb hX hbl hbA hS (sl_in (k := 1) rfl (by omega) hL) dL_law_753 ?_
  refine tp1i (y := xs (i + 1)) (congrArg xs (sl_ix (i := i) (k := 1) (kv := 1) rfl (by omega) hL)) ?_
  refine lv_aload_n hx hb dL_law_754 rfl (lv_at hl 0 rfl) ?_
  refine lv_iload_n hx hb dL_law_755 rfl (lv_at hl 3 rfl) ?_
  refine lv_iconst (v := 2) hx hb dL_law_756 (by decide) ?_
  refine lv_iadd hx hb dL_law_757 ?_
  refine va_sld hx hb hX hbl hbA hS (sl_in (k := 2) rfl (by omega) hL) dL_law_758 ?_
  refine tp1i (y := xs (i + 2)) (congrArg xs (sl_ix (i := i) (k := 2) (kv := 2) rfl (by omega) hL)) ?_
  refine lv_aload_n hx hb dL_law_759 rfl (lv_at hl 0 rfl) ?_
  refine lv_iload_n hx hb dL_law_760 rfl (lv_at hl 3 rfl) ?_
  refine lv_iconst (v := 3) hx hb dL_law_761 (by decide) ?_
  refine lv_iadd hx hb dL_law_762 ?_
  refine va_sld hx hb hX hbl hbA hS (sl_in (k := 3) rfl (by omega) hL) dL_law_763 ?_
  refine tp1i (y := xs (i + 3)) (congrArg xs (sl_ix (i := i) (k := 3) (kv := 3) rfl (by omega) hL)) ?_
  suffices key : W p l e room_1 s m #[Value.ref b] below meth c H locs cells slots Q (F0 m 772 ls [.int (bz (xs (i + 3))), .int (xs (i + 2)), .int (xs (i + 1)), .ref (ad Γ 1001), .int v]) by
    refine lv_if_eq (tgt := 771) hx hb dL_law_764 (by decide) (fun c1 => ?_) (fun c1 => ?_)
    · refine lv_iconst (v := 0) hx hb dL_law_771 (by decide) ?_
      exact tp1i (if_pos c1).symm key
    · refine lv_iconst (v := 1) hx hb dL_law_767 (by decide) ?_
      refine lv_goto (tgt := 772) hx hb dL_law_768 (by decide) ?_
      exact tp1i (if_neg c1).symm key
  refine cl_VL (rest := [.int v]) (kgX10_theft (l := l) (Γ := Γ) (A := fun q => s.heap.size ≤ q) (G := g1) (o := 1001) (wf_1001 hE) h2) ⟨hx, hb, hml, hown, htw⟩ hE hw hS (hw _ _ (wf_1001 hE)) (q0 := 0) rfl rfl (htw _ mw1719) mw1720 mw1721 mw129 mw1722 pdX10_theft ⟨Nat.le_of_ble_eq_true rfl, Nat.le_of_ble_eq_true rfl⟩ rfl rfl hl.1 (Nat.le_of_ble_eq_true rfl) dL_law_772 ⟨by show _ ≤ 600000; omega, by show _ ≤ 7302250; omega⟩ (fun H locs hw hS => ?_)
  refine W.eq (g2 := F0 m 775 ls [.int v, .int v]) rfl ?_
  refine lv_icmp_eq (tgt := 1809) hx hb dL_law_775 (by decide) (fun _ => ?_) (fun c1 => absurd rfl c1)
  refine W.widen (k := cells + 37) (n := slots + 1245) (by omega) (by omega) ?_
  exact kk Γ _ H locs hE hEk (LI.move hLI (by rw [ug_ne (by decide)]; exact h3) (by rw [ug_ne (by decide)]; exact h4)) h5 hw hS rfl rfl
set_option maxRecDepth 100000 in
set_option maxHeartbeats 8000000 in
theorem lc_evenings {p : Program} {l : Launch} {e : Env} {s : State} {m : MethodId} {below : List Frame} {meth : Method} {c : Code} {b L : Nat} {xs : Nat → Int32} {Inv : Gs → Prop} (hOb : Ob_evenings Inv) (hL : L ≤ 3072) (C0 : lw_At p s m meth c b L xs) {i : Nat} (hi : i + 6 ≤ L) {Γ : Gm} {g : Gs} {H : Heap} {locs : List Loc} {ls : Array Slot} {cells slots : Nat} {Q : State → Prop} (hE : Ev Γ (fun q => s.heap.size ≤ q) s) (hEk : Ek (dd Γ) (ac Γ) s) (hLI : LI Γ g) (hI : Inv g) (hw : Wo Γ g H) (hS : va_S (fun q => s.heap.size ≤ q) s.heap H locs) (hl : lv_has ls 4 [(0, .ref b), (1, .ref (ad Γ 901)), (2, .ref (ad Γ 1001)), (3, .int (nI i))]) (hcs : cells + 37 ≤ 600000 ∧ slots + 1245 ≤ 7302250)
    (kk : ∀ (Γ' : Gm) (g' : Gs) (H : Heap) (locs : List Loc), Ev Γ' (fun q => s.heap.size ≤ q) s → Ek (dd Γ') (ac Γ') s → LI Γ' g' → Inv g' → Wo Γ' g' H → va_S (fun q => s.heap.size ≤ q) s.heap H locs → ad Γ' 901 = ad Γ 901 → ad Γ' 1001 = ad Γ 1001 → W p l e room_1 s m #[Value.ref b] below meth c H locs (cells + 37) (slots + 1245) Q (F0 m 1809 ls [])) : W p l e room_1 s m #[Value.ref b] below meth c H locs cells slots Q (F0 m 780 ls []) := by
  obtain ⟨hx, hb, hr, hml, hown, hts, hX, hbl, hlocks, hgv⟩ := id C0
  have hown : s.vm.findClass RL = some m.cls := hown
  have htw : ∀ w ∈ WS, w.before #[Value.ref b] s = true := fun w h => hts w (List.mem_filter.mp h).1
  have hbA : ¬ (fun q => s.heap.size ≤ q) b := Nat.not_le.mpr hbl
  obtain ⟨g1, v, r, h1, h2, h3, h4, h5⟩ := hOb g (xs (i + 1)) (xs (i + 2)) hI
  refine lv_aload_n hx hb dL_law_780 rfl (lv_at hl 1 rfl) ?_
  refine lv_aload_n hx hb dL_law_781 rfl (lv_at hl 0 rfl) ?_
  refine lv_iload_n hx hb dL_law_782 rfl (lv_at hl 3 rfl) ?_
  refine lv_iconst (v := 1) hx hb dL_law_783 (by decide) ?_
  refine lv_iadd hx hb dL_law_784 ?_
  refine va_sld hx hb hX hbl hbA hS (sl_in (k := 1) rfl (by omega) hL) dL_law_785 ?_
  refine tp1i (y := xs (i + 1)) (congrArg xs (sl_ix (i := i) (k := 1) (kv := 1) rfl (by omega) hL)) ?_
  refine lv_aload_n hx hb dL_law_786 rfl (lv_at hl 0 rfl) ?_
  refine lv_iload_n hx hb dL_law_787 rfl (lv_at hl 3 rfl) ?_
  refine lv_iconst (v := 2) hx hb dL_law_788 (by decide) ?_
  refine lv_iadd hx hb dL_law_789 ?_
  refine va_sld hx hb hX hbl hbA hS (sl_in (k := 2) rfl (by omega) hL) dL_law_790 ?_
  refine tp1i (y := xs (i + 2)) (congrArg xs (sl_ix (i := i) (k := 2) (kv := 2) rfl (by omega) hL)) ?_
  refine cl_VL (rest := []) (kX9_evenings (l := l) (Γ := Γ) (A := fun q => s.heap.size ≤ q) h1) ⟨hx, hb, hml, hown, htw⟩ hE hw hS (hw _ _ (wf_901 hE)) (q0 := 0) rfl rfl (htw _ mw944) mw945 mw946 mw118 mw947 pdX9_evenings ⟨Nat.le_of_ble_eq_true rfl, Nat.le_of_ble_eq_true rfl⟩ rfl rfl hl.1 (Nat.le_of_ble_eq_true rfl) dL_law_791 ⟨by show _ ≤ 600000; omega, by show _ ≤ 7302250; omega⟩ (fun H locs hw hS => ?_)
  refine W.eq (g2 := F0 m 794 ls [.int v]) rfl ?_
  refine lv_aload_n hx hb dL_law_794 rfl (lv_at hl 2 rfl) ?_
  refine lv_aload_n hx hb dL_law_795 rfl (lv_at hl 0 rfl) ?_
  refine lv_iload_n hx hb dL_law_796 rfl (lv_at hl 3 rfl) ?_
  refine lv_iconst (v := 1) hx hb dL_law_797 (by decide) ?_
  refine lv_iadd hx hb dL_law_798 ?_
  refine va_sld hx hb hX hbl hbA hS (sl_in (k := 1) rfl (by omega) hL) dL_law_799 ?_
  refine tp1i (y := xs (i + 1)) (congrArg xs (sl_ix (i := i) (k := 1) (kv := 1) rfl (by omega) hL)) ?_
  refine lv_aload_n hx hb dL_law_800 rfl (lv_at hl 0 rfl) ?_
  refine lv_iload_n hx hb dL_law_801 rfl (lv_at hl 3 rfl) ?_
  refine lv_iconst (v := 2) hx hb dL_law_802 (by decide) ?_
  refine lv_iadd hx hb dL_law_803 ?_
  refine va_sld hx hb hX hbl hbA hS (sl_in (k := 2) rfl (by omega) hL) dL_law_804 ?_
  refine tp1i (y := xs (i + 2)) (congrArg xs (sl_ix (i := i) (k := 2) (kv := 2) rfl (by omega) hL)) ?_
  refine cl_VL (rest := [.int v]) (kgX10_evenings (l := l) (Γ := Γ) (A := fun q => s.heap.size ≤ q) (G := g1) (o := 1001) (wf_1001 hE) h2) ⟨hx, hb, hml, hown, htw⟩ hE hw hS (hw _ _ (wf_1001 hE)) (q0 := 0) rfl rfl (htw _ mw1735) mw1736 mw1737 mw129 mw1738 pdX10_evenings ⟨Nat.le_of_ble_eq_true rfl, Nat.le_of_ble_eq_true rfl⟩ rfl rfl hl.1 (Nat.le_of_ble_eq_true rfl) dL_law_805 ⟨by show _ ≤ 600000; omega, by show _ ≤ 7302250; omega⟩ (fun H locs hw hS => ?_)
  refine W.eq (g2 := F0 m 808 ls [.int v, .int v]) rfl ?_
  refine lv_icmp_eq (tgt := 1809) hx hb dL_law_808 (by decide) (fun _ => ?_) (fun c1 => absurd rfl c1)
  refine W.widen (k := cells + 37) (n := slots + 1245) (by omega) (by omega) ?_
  exact kk Γ _ H locs hE hEk (LI.move hLI (by rw [ug_ne (by decide)]; exact h3) (by rw [ug_ne (by decide)]; exact h4)) h5 hw hS rfl rfl
set_option maxRecDepth 100000 in
set_option maxHeartbeats 8000000 in
theorem lc_hidden {p : Program} {l : Launch} {e : Env} {s : State} {m : MethodId} {below : List Frame} {meth : Method} {c : Code} {b L : Nat} {xs : Nat → Int32} {Inv : Gs → Prop} (hOb : Ob_hidden Inv) (hL : L ≤ 3072) (C0 : lw_At p s m meth c b L xs) {i : Nat} (hi : i + 6 ≤ L) {Γ : Gm} {g : Gs} {H : Heap} {locs : List Loc} {ls : Array Slot} {cells slots : Nat} {Q : State → Prop} (hE : Ev Γ (fun q => s.heap.size ≤ q) s) (hEk : Ek (dd Γ) (ac Γ) s) (hLI : LI Γ g) (hI : Inv g) (hw : Wo Γ g H) (hS : va_S (fun q => s.heap.size ≤ q) s.heap H locs) (hl : lv_has ls 4 [(0, .ref b), (1, .ref (ad Γ 901)), (2, .ref (ad Γ 1001)), (3, .int (nI i))]) (hcs : cells + 37 ≤ 600000 ∧ slots + 1245 ≤ 7302250)
    (kk : ∀ (Γ' : Gm) (g' : Gs) (H : Heap) (locs : List Loc), Ev Γ' (fun q => s.heap.size ≤ q) s → Ek (dd Γ') (ac Γ') s → LI Γ' g' → Inv g' → Wo Γ' g' H → va_S (fun q => s.heap.size ≤ q) s.heap H locs → ad Γ' 901 = ad Γ 901 → ad Γ' 1001 = ad Γ 1001 → W p l e room_1 s m #[Value.ref b] below meth c H locs (cells + 37) (slots + 1245) Q (F0 m 1809 ls [])) : W p l e room_1 s m #[Value.ref b] below meth c H locs cells slots Q (F0 m 813 ls []) := by
  obtain ⟨hx, hb, hr, hml, hown, hts, hX, hbl, hlocks, hgv⟩ := id C0
  have hown : s.vm.findClass RL = some m.cls := hown
  have htw : ∀ w ∈ WS, w.before #[Value.ref b] s = true := fun w h => hts w (List.mem_filter.mp h).1
  have hbA : ¬ (fun q => s.heap.size ≤ q) b := Nat.not_le.mpr hbl
  obtain ⟨v, r, h1, h2, h5⟩ := hOb g (xs (i + 1)) (xs (i + 2)) (xs (i + 3)) (bz (xs (i + 4))) hI (bz_or _)
  refine lv_aload_n hx hb dL_law_813 rfl (lv_at hl 1 rfl) ?_
  refine lv_aload_n hx hb dL_law_814 rfl (lv_at hl 0 rfl) ?_
  refine lv_iload_n hx hb dL_law_815 rfl (lv_at hl 3 rfl) ?_
  refine lv_iconst (v := 1) hx hb dL_law_816 (by decide) ?_
  refine lv_iadd hx hb dL_law_817 ?_
  refine va_sld hx hb hX hbl hbA hS (sl_in (k := 1) rfl (by omega) hL) dL_law_818 ?_
  refine tp1i (y := xs (i + 1)) (congrArg xs (sl_ix (i := i) (k := 1) (kv := 1) rfl (by omega) hL)) ?_
  refine lv_aload_n hx hb dL_law_819 rfl (lv_at hl 0 rfl) ?_
  refine lv_iload_n hx hb dL_law_820 rfl (lv_at hl 3 rfl) ?_
  refine lv_iconst (v := 2) hx hb dL_law_821 (by decide) ?_
  refine lv_iadd hx hb dL_law_822 ?_
  refine va_sld hx hb hX hbl hbA hS (sl_in (k := 2) rfl (by omega) hL) dL_law_823 ?_
  refine tp1i (y := xs (i + 2)) (congrArg xs (sl_ix (i := i) (k := 2) (kv := 2) rfl (by omega) hL)) ?_
  refine lv_aload_n hx hb dL_law_824 rfl (lv_at hl 0 rfl) ?_
  refine lv_iload_n hx hb dL_law_825 rfl (lv_at hl 3 rfl) ?_
  refine lv_iconst (v := 3) hx hb dL_law_826 (by decide) ?_
  refine lv_iadd hx hb dL_law_827 ?_
  refine va_sld hx hb hX hbl hbA hS (sl_in (k := 3) rfl (by omega) hL) dL_law_828 ?_
  refine tp1i (y := xs (i + 3)) (congrArg xs (sl_ix (i := i) (k := 3) (kv := 3) rfl (by omega) hL)) ?_
  refine lv_aload_n hx hb dL_law_829 rfl (lv_at hl 0 rfl) ?_
  refine lv_iload_n hx hb dL_law_830 rfl (lv_at hl 3 rfl) ?_
  refine lv_iconst (v := 4) hx hb dL_law_831 (by decide) ?_
  refine lv_iadd hx hb dL_law_832 ?_
  refine va_sld hx hb hX hbl hbA hS (sl_in (k := 4) rfl (by omega) hL) dL_law_833 ?_
  refine tp1i (y := xs (i + 4)) (congrArg xs (sl_ix (i := i) (k := 4) (kv := 4) rfl (by omega) hL)) ?_
  suffices key : W p l e room_1 s m #[Value.ref b] below meth c H locs cells slots Q (F0 m 842 ls [.int (bz (xs (i + 4))), .int (xs (i + 3)), .int (xs (i + 2)), .int (xs (i + 1)), .ref (ad Γ 901)]) by
    refine lv_if_eq (tgt := 841) hx hb dL_law_834 (by decide) (fun c1 => ?_) (fun c1 => ?_)
    · refine lv_iconst (v := 0) hx hb dL_law_841 (by decide) ?_
      exact tp1i (if_pos c1).symm key
    · refine lv_iconst (v := 1) hx hb dL_law_837 (by decide) ?_
      refine lv_goto (tgt := 842) hx hb dL_law_838 (by decide) ?_
      exact tp1i (if_neg c1).symm key
  refine cl_VL (rest := []) (kX9_hidden (l := l) (Γ := Γ) (A := fun q => s.heap.size ≤ q) h1) ⟨hx, hb, hml, hown, htw⟩ hE hw hS (hw _ _ (wf_901 hE)) (q0 := 0) rfl rfl (htw _ mw963) mw964 mw965 mw118 mw966 pdX9_hidden ⟨Nat.le_of_ble_eq_true rfl, Nat.le_of_ble_eq_true rfl⟩ rfl rfl hl.1 (Nat.le_of_ble_eq_true rfl) dL_law_842 ⟨by show _ ≤ 600000; omega, by show _ ≤ 7302250; omega⟩ (fun H locs hw hS => ?_)
  refine W.eq (g2 := F0 m 845 ls [.long v]) rfl ?_
  refine lv_aload_n hx hb dL_law_845 rfl (lv_at hl 2 rfl) ?_
  refine lv_aload_n hx hb dL_law_846 rfl (lv_at hl 0 rfl) ?_
  refine lv_iload_n hx hb dL_law_847 rfl (lv_at hl 3 rfl) ?_
  refine lv_iconst (v := 1) hx hb dL_law_848 (by decide) ?_
  refine lv_iadd hx hb dL_law_849 ?_
  refine va_sld hx hb hX hbl hbA hS (sl_in (k := 1) rfl (by omega) hL) dL_law_850 ?_
  refine tp1i (y := xs (i + 1)) (congrArg xs (sl_ix (i := i) (k := 1) (kv := 1) rfl (by omega) hL)) ?_
  refine lv_aload_n hx hb dL_law_851 rfl (lv_at hl 0 rfl) ?_
  refine lv_iload_n hx hb dL_law_852 rfl (lv_at hl 3 rfl) ?_
  refine lv_iconst (v := 2) hx hb dL_law_853 (by decide) ?_
  refine lv_iadd hx hb dL_law_854 ?_
  refine va_sld hx hb hX hbl hbA hS (sl_in (k := 2) rfl (by omega) hL) dL_law_855 ?_
  refine tp1i (y := xs (i + 2)) (congrArg xs (sl_ix (i := i) (k := 2) (kv := 2) rfl (by omega) hL)) ?_
  refine lv_aload_n hx hb dL_law_856 rfl (lv_at hl 0 rfl) ?_
  refine lv_iload_n hx hb dL_law_857 rfl (lv_at hl 3 rfl) ?_
  refine lv_iconst (v := 3) hx hb dL_law_858 (by decide) ?_
  refine lv_iadd hx hb dL_law_859 ?_
  refine va_sld hx hb hX hbl hbA hS (sl_in (k := 3) rfl (by omega) hL) dL_law_860 ?_
  refine tp1i (y := xs (i + 3)) (congrArg xs (sl_ix (i := i) (k := 3) (kv := 3) rfl (by omega) hL)) ?_
  refine lv_aload_n hx hb dL_law_861 rfl (lv_at hl 0 rfl) ?_
  refine lv_iload_n hx hb dL_law_862 rfl (lv_at hl 3 rfl) ?_
  refine lv_iconst (v := 4) hx hb dL_law_863 (by decide) ?_
  refine lv_iadd hx hb dL_law_864 ?_
  refine va_sld hx hb hX hbl hbA hS (sl_in (k := 4) rfl (by omega) hL) dL_law_865 ?_
  refine tp1i (y := xs (i + 4)) (congrArg xs (sl_ix (i := i) (k := 4) (kv := 4) rfl (by omega) hL)) ?_
  suffices key : W p l e room_1 s m #[Value.ref b] below meth c H locs cells slots Q (F0 m 874 ls [.int (bz (xs (i + 4))), .int (xs (i + 3)), .int (xs (i + 2)), .int (xs (i + 1)), .ref (ad Γ 1001), .long v]) by
    refine lv_if_eq (tgt := 873) hx hb dL_law_866 (by decide) (fun c1 => ?_) (fun c1 => ?_)
    · refine lv_iconst (v := 0) hx hb dL_law_873 (by decide) ?_
      exact tp1i (if_pos c1).symm key
    · refine lv_iconst (v := 1) hx hb dL_law_869 (by decide) ?_
      refine lv_goto (tgt := 874) hx hb dL_law_870 (by decide) ?_
      exact tp1i (if_neg c1).symm key
  refine cl_VL (rest := [.long v]) (kgX10_hidden (l := l) (Γ := Γ) (A := fun q => s.heap.size ≤ q) (G := g) (o := 1001) (wf_1001 hE) h2) ⟨hx, hb, hml, hown, htw⟩ hE hw hS (hw _ _ (wf_1001 hE)) (q0 := 0) rfl rfl (htw _ mw1747) mw1748 mw1749 mw129 mw1750 pdX10_hidden ⟨Nat.le_of_ble_eq_true rfl, Nat.le_of_ble_eq_true rfl⟩ rfl rfl hl.1 (Nat.le_of_ble_eq_true rfl) dL_law_874 ⟨by show _ ≤ 600000; omega, by show _ ≤ 7302250; omega⟩ (fun H locs hw hS => ?_)
  refine W.eq (g2 := F0 m 877 ls [.long v, .long v]) rfl ?_
  refine W.lcmp hx hb dL_law_877 ?_
  refine lv_if_eq (tgt := 1809) hx hb dL_law_878 (by decide) (fun _ => ?_) (fun c1 => absurd (by simp [lg_cmp]) c1)
  refine W.widen (k := cells + 37) (n := slots + 1245) (by omega) (by omega) ?_
  exact kk Γ _ H locs hE hEk (LI.move hLI (by rw [ug_ne (by decide)]) (by rw [ug_ne (by decide)]; exact hLI.2.2.2.2)) h5 hw hS rfl rfl
set_option maxRecDepth 100000 in
set_option maxHeartbeats 8000000 in
theorem lc_heirs {p : Program} {l : Launch} {e : Env} {s : State} {m : MethodId} {below : List Frame} {meth : Method} {c : Code} {b L : Nat} {xs : Nat → Int32} {Inv : Gs → Prop} (hOb : Ob_heirs Inv) (hL : L ≤ 3072) (C0 : lw_At p s m meth c b L xs) {i : Nat} (hi : i + 6 ≤ L) {Γ : Gm} {g : Gs} {H : Heap} {locs : List Loc} {ls : Array Slot} {cells slots : Nat} {Q : State → Prop} (hE : Ev Γ (fun q => s.heap.size ≤ q) s) (hEk : Ek (dd Γ) (ac Γ) s) (hLI : LI Γ g) (hI : Inv g) (hw : Wo Γ g H) (hS : va_S (fun q => s.heap.size ≤ q) s.heap H locs) (hl : lv_has ls 4 [(0, .ref b), (1, .ref (ad Γ 901)), (2, .ref (ad Γ 1001)), (3, .int (nI i))]) (hcs : cells + 37 ≤ 600000 ∧ slots + 1245 ≤ 7302250)
    (kk : ∀ (Γ' : Gm) (g' : Gs) (H : Heap) (locs : List Loc), Ev Γ' (fun q => s.heap.size ≤ q) s → Ek (dd Γ') (ac Γ') s → LI Γ' g' → Inv g' → Wo Γ' g' H → va_S (fun q => s.heap.size ≤ q) s.heap H locs → ad Γ' 901 = ad Γ 901 → ad Γ' 1001 = ad Γ 1001 → W p l e room_1 s m #[Value.ref b] below meth c H locs (cells + 37) (slots + 1245) Q (F0 m 1809 ls [])) : W p l e room_1 s m #[Value.ref b] below meth c H locs cells slots Q (F0 m 883 ls []) := by
  obtain ⟨hx, hb, hr, hml, hown, hts, hX, hbl, hlocks, hgv⟩ := id C0
  have hown : s.vm.findClass RL = some m.cls := hown
  have htw : ∀ w ∈ WS, w.before #[Value.ref b] s = true := fun w h => hts w (List.mem_filter.mp h).1
  have hbA : ¬ (fun q => s.heap.size ≤ q) b := Nat.not_le.mpr hbl
  obtain ⟨v, r, h1, h2, h5⟩ := hOb g (xs (i + 1)) (bz (xs (i + 2))) hI (bz_or _)
  refine lv_aload_n hx hb dL_law_883 rfl (lv_at hl 1 rfl) ?_
  refine lv_aload_n hx hb dL_law_884 rfl (lv_at hl 0 rfl) ?_
  refine lv_iload_n hx hb dL_law_885 rfl (lv_at hl 3 rfl) ?_
  refine lv_iconst (v := 1) hx hb dL_law_886 (by decide) ?_
  refine lv_iadd hx hb dL_law_887 ?_
  refine va_sld hx hb hX hbl hbA hS (sl_in (k := 1) rfl (by omega) hL) dL_law_888 ?_
  refine tp1i (y := xs (i + 1)) (congrArg xs (sl_ix (i := i) (k := 1) (kv := 1) rfl (by omega) hL)) ?_
  refine lv_aload_n hx hb dL_law_889 rfl (lv_at hl 0 rfl) ?_
  refine lv_iload_n hx hb dL_law_890 rfl (lv_at hl 3 rfl) ?_
  refine lv_iconst (v := 2) hx hb dL_law_891 (by decide) ?_
  refine lv_iadd hx hb dL_law_892 ?_
  refine va_sld hx hb hX hbl hbA hS (sl_in (k := 2) rfl (by omega) hL) dL_law_893 ?_
  refine tp1i (y := xs (i + 2)) (congrArg xs (sl_ix (i := i) (k := 2) (kv := 2) rfl (by omega) hL)) ?_
  suffices key : W p l e room_1 s m #[Value.ref b] below meth c H locs cells slots Q (F0 m 902 ls [.int (bz (xs (i + 2))), .int (xs (i + 1)), .ref (ad Γ 901)]) by
    refine lv_if_eq (tgt := 901) hx hb dL_law_894 (by decide) (fun c1 => ?_) (fun c1 => ?_)
    · refine lv_iconst (v := 0) hx hb dL_law_901 (by decide) ?_
      exact tp1i (if_pos c1).symm key
    · refine lv_iconst (v := 1) hx hb dL_law_897 (by decide) ?_
      refine lv_goto (tgt := 902) hx hb dL_law_898 (by decide) ?_
      exact tp1i (if_neg c1).symm key
  refine cl_VL (rest := []) (kX9_heirs (l := l) (Γ := Γ) (A := fun q => s.heap.size ≤ q) h1) ⟨hx, hb, hml, hown, htw⟩ hE hw hS (hw _ _ (wf_901 hE)) (q0 := 0) rfl rfl (htw _ mw979) mw980 mw981 mw118 mw982 pdX9_heirs ⟨Nat.le_of_ble_eq_true rfl, Nat.le_of_ble_eq_true rfl⟩ rfl rfl hl.1 (Nat.le_of_ble_eq_true rfl) dL_law_902 ⟨by show _ ≤ 600000; omega, by show _ ≤ 7302250; omega⟩ (fun H locs hw hS => ?_)
  refine W.eq (g2 := F0 m 905 ls [.int v]) rfl ?_
  refine lv_aload_n hx hb dL_law_905 rfl (lv_at hl 2 rfl) ?_
  refine lv_aload_n hx hb dL_law_906 rfl (lv_at hl 0 rfl) ?_
  refine lv_iload_n hx hb dL_law_907 rfl (lv_at hl 3 rfl) ?_
  refine lv_iconst (v := 1) hx hb dL_law_908 (by decide) ?_
  refine lv_iadd hx hb dL_law_909 ?_
  refine va_sld hx hb hX hbl hbA hS (sl_in (k := 1) rfl (by omega) hL) dL_law_910 ?_
  refine tp1i (y := xs (i + 1)) (congrArg xs (sl_ix (i := i) (k := 1) (kv := 1) rfl (by omega) hL)) ?_
  refine lv_aload_n hx hb dL_law_911 rfl (lv_at hl 0 rfl) ?_
  refine lv_iload_n hx hb dL_law_912 rfl (lv_at hl 3 rfl) ?_
  refine lv_iconst (v := 2) hx hb dL_law_913 (by decide) ?_
  refine lv_iadd hx hb dL_law_914 ?_
  refine va_sld hx hb hX hbl hbA hS (sl_in (k := 2) rfl (by omega) hL) dL_law_915 ?_
  refine tp1i (y := xs (i + 2)) (congrArg xs (sl_ix (i := i) (k := 2) (kv := 2) rfl (by omega) hL)) ?_
  suffices key : W p l e room_1 s m #[Value.ref b] below meth c H locs cells slots Q (F0 m 924 ls [.int (bz (xs (i + 2))), .int (xs (i + 1)), .ref (ad Γ 1001), .int v]) by
    refine lv_if_eq (tgt := 923) hx hb dL_law_916 (by decide) (fun c1 => ?_) (fun c1 => ?_)
    · refine lv_iconst (v := 0) hx hb dL_law_923 (by decide) ?_
      exact tp1i (if_pos c1).symm key
    · refine lv_iconst (v := 1) hx hb dL_law_919 (by decide) ?_
      refine lv_goto (tgt := 924) hx hb dL_law_920 (by decide) ?_
      exact tp1i (if_neg c1).symm key
  refine cl_VL (rest := [.int v]) (kgX10_heirs (l := l) (Γ := Γ) (A := fun q => s.heap.size ≤ q) (G := g) (o := 1001) (wf_1001 hE) h2) ⟨hx, hb, hml, hown, htw⟩ hE hw hS (hw _ _ (wf_1001 hE)) (q0 := 0) rfl rfl (htw _ mw1758) mw1759 mw1760 mw129 mw1761 pdX10_heirs ⟨Nat.le_of_ble_eq_true rfl, Nat.le_of_ble_eq_true rfl⟩ rfl rfl hl.1 (Nat.le_of_ble_eq_true rfl) dL_law_924 ⟨by show _ ≤ 600000; omega, by show _ ≤ 7302250; omega⟩ (fun H locs hw hS => ?_)
  refine W.eq (g2 := F0 m 927 ls [.int v, .int v]) rfl ?_
  refine lv_icmp_eq (tgt := 1809) hx hb dL_law_927 (by decide) (fun _ => ?_) (fun c1 => absurd rfl c1)
  refine W.widen (k := cells + 37) (n := slots + 1245) (by omega) (by omega) ?_
  exact kk Γ _ H locs hE hEk (LI.move hLI (by rw [ug_ne (by decide)]) (by rw [ug_ne (by decide)]; exact hLI.2.2.2.2)) h5 hw hS rfl rfl
set_option maxRecDepth 100000 in
set_option maxHeartbeats 8000000 in
theorem lc_fact {p : Program} {l : Launch} {e : Env} {s : State} {m : MethodId} {below : List Frame} {meth : Method} {c : Code} {b L : Nat} {xs : Nat → Int32} {Inv : Gs → Prop} (hOb : Ob_fact Inv) (hL : L ≤ 3072) (C0 : lw_At p s m meth c b L xs) {i : Nat} (hi : i + 6 ≤ L) {Γ : Gm} {g : Gs} {H : Heap} {locs : List Loc} {ls : Array Slot} {cells slots : Nat} {Q : State → Prop} (hE : Ev Γ (fun q => s.heap.size ≤ q) s) (hEk : Ek (dd Γ) (ac Γ) s) (hLI : LI Γ g) (hI : Inv g) (hw : Wo Γ g H) (hS : va_S (fun q => s.heap.size ≤ q) s.heap H locs) (hl : lv_has ls 4 [(0, .ref b), (1, .ref (ad Γ 901)), (2, .ref (ad Γ 1001)), (3, .int (nI i))]) (hcs : cells + 37 ≤ 600000 ∧ slots + 1245 ≤ 7302250)
    (kk : ∀ (Γ' : Gm) (g' : Gs) (H : Heap) (locs : List Loc), Ev Γ' (fun q => s.heap.size ≤ q) s → Ek (dd Γ') (ac Γ') s → LI Γ' g' → Inv g' → Wo Γ' g' H → va_S (fun q => s.heap.size ≤ q) s.heap H locs → ad Γ' 901 = ad Γ 901 → ad Γ' 1001 = ad Γ 1001 → W p l e room_1 s m #[Value.ref b] below meth c H locs (cells + 37) (slots + 1245) Q (F0 m 1809 ls [])) : W p l e room_1 s m #[Value.ref b] below meth c H locs cells slots Q (F0 m 932 ls []) := by
  obtain ⟨hx, hb, hr, hml, hown, hts, hX, hbl, hlocks, hgv⟩ := id C0
  have hown : s.vm.findClass RL = some m.cls := hown
  have htw : ∀ w ∈ WS, w.before #[Value.ref b] s = true := fun w h => hts w (List.mem_filter.mp h).1
  have hbA : ¬ (fun q => s.heap.size ≤ q) b := Nat.not_le.mpr hbl
  obtain ⟨v, r, h1, h2, h5⟩ := hOb g (xs (i + 1)) (xs (i + 2)) (xs (i + 3)) hI
  refine lv_aload_n hx hb dL_law_932 rfl (lv_at hl 1 rfl) ?_
  refine lv_aload_n hx hb dL_law_933 rfl (lv_at hl 0 rfl) ?_
  refine lv_iload_n hx hb dL_law_934 rfl (lv_at hl 3 rfl) ?_
  refine lv_iconst (v := 1) hx hb dL_law_935 (by decide) ?_
  refine lv_iadd hx hb dL_law_936 ?_
  refine va_sld hx hb hX hbl hbA hS (sl_in (k := 1) rfl (by omega) hL) dL_law_937 ?_
  refine tp1i (y := xs (i + 1)) (congrArg xs (sl_ix (i := i) (k := 1) (kv := 1) rfl (by omega) hL)) ?_
  refine lv_aload_n hx hb dL_law_938 rfl (lv_at hl 0 rfl) ?_
  refine lv_iload_n hx hb dL_law_939 rfl (lv_at hl 3 rfl) ?_
  refine lv_iconst (v := 2) hx hb dL_law_940 (by decide) ?_
  refine lv_iadd hx hb dL_law_941 ?_
  refine va_sld hx hb hX hbl hbA hS (sl_in (k := 2) rfl (by omega) hL) dL_law_942 ?_
  refine tp1i (y := xs (i + 2)) (congrArg xs (sl_ix (i := i) (k := 2) (kv := 2) rfl (by omega) hL)) ?_
  refine lv_aload_n hx hb dL_law_943 rfl (lv_at hl 0 rfl) ?_
  refine lv_iload_n hx hb dL_law_944 rfl (lv_at hl 3 rfl) ?_
  refine lv_iconst (v := 3) hx hb dL_law_945 (by decide) ?_
  refine lv_iadd hx hb dL_law_946 ?_
  refine va_sld hx hb hX hbl hbA hS (sl_in (k := 3) rfl (by omega) hL) dL_law_947 ?_
  refine tp1i (y := xs (i + 3)) (congrArg xs (sl_ix (i := i) (k := 3) (kv := 3) rfl (by omega) hL)) ?_
  refine cl_VL (rest := []) (kX9_fact (l := l) (Γ := Γ) (A := fun q => s.heap.size ≤ q) h1) ⟨hx, hb, hml, hown, htw⟩ hE hw hS (hw _ _ (wf_901 hE)) (q0 := 0) rfl rfl (htw _ mw997) mw998 mw999 mw118 mw1000 pdX9_fact ⟨Nat.le_of_ble_eq_true rfl, Nat.le_of_ble_eq_true rfl⟩ rfl rfl hl.1 (Nat.le_of_ble_eq_true rfl) dL_law_948 ⟨by show _ ≤ 600000; omega, by show _ ≤ 7302250; omega⟩ (fun H locs hw hS => ?_)
  refine W.eq (g2 := F0 m 951 ls [.int v]) rfl ?_
  refine lv_aload_n hx hb dL_law_951 rfl (lv_at hl 2 rfl) ?_
  refine lv_aload_n hx hb dL_law_952 rfl (lv_at hl 0 rfl) ?_
  refine lv_iload_n hx hb dL_law_953 rfl (lv_at hl 3 rfl) ?_
  refine lv_iconst (v := 1) hx hb dL_law_954 (by decide) ?_
  refine lv_iadd hx hb dL_law_955 ?_
  refine va_sld hx hb hX hbl hbA hS (sl_in (k := 1) rfl (by omega) hL) dL_law_956 ?_
  refine tp1i (y := xs (i + 1)) (congrArg xs (sl_ix (i := i) (k := 1) (kv := 1) rfl (by omega) hL)) ?_
  refine lv_aload_n hx hb dL_law_957 rfl (lv_at hl 0 rfl) ?_
  refine lv_iload_n hx hb dL_law_958 rfl (lv_at hl 3 rfl) ?_
  refine lv_iconst (v := 2) hx hb dL_law_959 (by decide) ?_
  refine lv_iadd hx hb dL_law_960 ?_
  refine va_sld hx hb hX hbl hbA hS (sl_in (k := 2) rfl (by omega) hL) dL_law_961 ?_
  refine tp1i (y := xs (i + 2)) (congrArg xs (sl_ix (i := i) (k := 2) (kv := 2) rfl (by omega) hL)) ?_
  refine lv_aload_n hx hb dL_law_962 rfl (lv_at hl 0 rfl) ?_
  refine lv_iload_n hx hb dL_law_963 rfl (lv_at hl 3 rfl) ?_
  refine lv_iconst (v := 3) hx hb dL_law_964 (by decide) ?_
  refine lv_iadd hx hb dL_law_965 ?_
  refine va_sld hx hb hX hbl hbA hS (sl_in (k := 3) rfl (by omega) hL) dL_law_966 ?_
  refine tp1i (y := xs (i + 3)) (congrArg xs (sl_ix (i := i) (k := 3) (kv := 3) rfl (by omega) hL)) ?_
  refine cl_VL (rest := [.int v]) (kgX10_fact (l := l) (Γ := Γ) (A := fun q => s.heap.size ≤ q) (G := g) (o := 1001) (wf_1001 hE) h2) ⟨hx, hb, hml, hown, htw⟩ hE hw hS (hw _ _ (wf_1001 hE)) (q0 := 0) rfl rfl (htw _ mw1762) mw1763 mw1764 mw129 mw1765 pdX10_fact ⟨Nat.le_of_ble_eq_true rfl, Nat.le_of_ble_eq_true rfl⟩ rfl rfl hl.1 (Nat.le_of_ble_eq_true rfl) dL_law_967 ⟨by show _ ≤ 600000; omega, by show _ ≤ 7302250; omega⟩ (fun H locs hw hS => ?_)
  refine W.eq (g2 := F0 m 970 ls [.int v, .int v]) rfl ?_
  refine lv_icmp_eq (tgt := 1809) hx hb dL_law_970 (by decide) (fun _ => ?_) (fun c1 => absurd rfl c1)
  refine W.widen (k := cells + 37) (n := slots + 1245) (by omega) (by omega) ?_
  exact kk Γ _ H locs hE hEk (LI.move hLI (by rw [ug_ne (by decide)]) (by rw [ug_ne (by decide)]; exact hLI.2.2.2.2)) h5 hw hS rfl rfl
