/-! laid by wip/gen -/
set_option maxHeartbeats 8000000 in
set_option maxRecDepth 100000 in
theorem law_c16 {p : Program} {e : Env} {s : State} {m : MethodId} {below : List Frame} {meth : Method} {c : Code} (l : Launch) (hst : l.stackTraces = false) {b : Nat} {xs : Nat → Int32} (C0 : lw_At p s m meth c b 5 xs) (g : gE) (L : Nat → Nat) (ro : Nat → va_E) (f : Nat → Int64) (ho : ro 123 = .inl (g.2 4, 1, .inr (.inl f))) (hJ : wj 125 L (fun q : Nat => s.heap.size ≤ q)) (hK : va_K g.1 vwCl (tysC g) s) (hE : EE SS (fun q : Nat => s.heap.size ≤ q) s) {H : Heap} {locs : List Loc} (hP : va_P g.1 vwCl (wl 125 L (cw g L x0 (mw g L y0 0 ro))) H) (hS : va_S (fun q : Nat => s.heap.size ≤ q) s.heap H locs) {ls : Array Slot} (hl : lv_has ls 9 [(0, .ref b), (1, .ref (L 0)), (2, .ref (L 106)), (3, .ref (L 123)), (4, .ref (L 124)), (5, .int 0)]) : W p l e room_1 s m #[Value.ref b] below meth c H locs 200 100000 (lw_Z below #[Value.ref b] s) (F0 m 1273 ls []) := by
  obtain ⟨hx, hb, hr, hml, hown, hts0, hX, hbl, hlocks, hgv⟩ := id C0
  have hown : s.vm.findClass RL = some m.cls := hown
  have hts : ∀ w ∈ wsL_law, w.before #[Value.ref b] s = true := fun w h => hts0 w (wsL_law_in w h)
  have hbA : ¬ (fun q : Nat => s.heap.size ≤ q) b := Nat.not_le.mpr hbl
  have hx0 : x0 0 0 0 = nI 0 := rfl
  have hx1 : x0 1 0 0 = nI 0 := rfl
  have hx2 : x0 2 0 0 = 2 := rfl
  have hx3 : x0 3 0 0 = nI 0 := rfl
  have hy1 : y0 1 0 0 = nI 0 := rfl
  have hy2 : y0 2 0 0 = 2 := rfl
  have hy3 : y0 3 0 0 = nI 0 := rfl
  have hy4 : y0 4 0 0 = nI 0 := rfl
  have hn : 125 ≤ 125 := Nat.le_refl _
  refine lv_aload_n hx hb dL_law_1273 rfl (lv_at hl 1 rfl) ?_
  refine lv_aload_n hx hb dL_law_1274 rfl (lv_at hl 0 rfl) ?_
  refine lv_iload hx hb dL_law_1275 (lv_at hl 5 rfl) ?_
  refine lv_iconst (v := 1) hx hb dL_law_1277 (by decide) ?_
  refine lv_iadd hx hb dL_law_1278 ?_
  refine va_sld hx hb hX hbl hbA hS (i := 0 + 1) (by unfold vp_in; decide) dL_law_1279 ?_
  refine lv_aload_n hx hb dL_law_1280 rfl (lv_at hl 0 rfl) ?_
  refine lv_iload hx hb dL_law_1281 (lv_at hl 5 rfl) ?_
  refine lv_iconst (v := 2) hx hb dL_law_1283 (by decide) ?_
  refine lv_iadd hx hb dL_law_1284 ?_
  refine va_sld hx hb hX hbl hbA hS (i := 0 + 2) (by unfold vp_in; decide) dL_law_1285 ?_
  refine lv_aload_n hx hb dL_law_1286 rfl (lv_at hl 3 rfl) ?_
  refine wx_calli (vx_runSW (As := [.ref (L 0), .int (xs (0 + 1 : Int32).toNatClampNeg), .int (xs (0 + 2 : Int32).toNatClampNeg), .ref (L 123)]) (rest := []) ⟨hx, hb, hml, hown, hts⟩ (kl_pass l hst g s.heap.size 125 L (by omega) x0 (mw g L y0 0 ro) hx0 hx1 hx2 hx3 f (mw_ge (by decide) |>.trans ho) (xs (0 + 1 : Int32).toNatClampNeg) (xs (0 + 2 : Int32).toNatClampNeg)) (vx_cwSW 4 hts gL_law_L_pass rfl rfl rfl (by decide +kernel) ⟨Nat.le_of_ble_eq_true rfl, Nat.le_of_ble_eq_true rfl⟩) (PW.preS3 (Nat.le_refl _) hJ hK hE hP hS) rfl rfl hl.1 rfl (lv_room (Nat.le_of_ble_eq_true rfl)) dL_law_1287 ⟨Nat.le_of_ble_eq_true rfl, Nat.le_of_ble_eq_true rfl⟩) hS (fun r1287 u1287 H locs h1287 hP hS => ?_)
  obtain ⟨v1287, t1287⟩ := u1287
  dsimp only at h1287 hP
  obtain ⟨rfl, rfl⟩ := h1287
  have hP : va_P g.1 vwCl (wl 125 L (mw g L y0 0 (cw g L v1287 ro))) H := by rw [← cw_mw]; exact hP
  refine lv_istore (lv' := [(6, .int 1), (0, .ref b), (1, .ref (L 0)), (2, .ref (L 106)), (3, .ref (L 123)), (4, .ref (L 124)), (5, .int 0)]) hx hb dL_law_1290 hl (by decide) rfl (fun ls hl => ?_)
  refine lv_aload_n hx hb dL_law_1292 rfl (lv_at hl 3 rfl) ?_
  refine lv_aload_n hx hb dL_law_1293 rfl (lv_at hl 1 rfl) ?_
  refine lv_iload hx hb dL_law_1294 (lv_at hl 6 rfl) ?_
  refine lv_iconst (v := 1) hx hb dL_law_1296 (by decide) ?_
  refine lv_iadd hx hb dL_law_1297 ?_
  refine va_sld hx hb hX hbl hbA hS (i := 0 + 1) (by unfold vp_in; decide) dL_law_1298 ?_
  refine lv_aload_n hx hb dL_law_1299 rfl (lv_at hl 1 rfl) ?_
  refine lv_iload hx hb dL_law_1300 (lv_at hl 6 rfl) ?_
  refine lv_iconst (v := 2) hx hb dL_law_1302 (by decide) ?_
  refine lv_iadd hx hb dL_law_1303 ?_
  refine va_sld hx hb hX hbl hbA hS (i := 0 + 2) (by unfold vp_in; decide) dL_law_1304 ?_
  refine wx_calli (va_runV (As := [.int (xs (0 + 1 : Int32).toNatClampNeg), .int (xs (0 + 2 : Int32).toNatClampNeg)]) (rest := []) ⟨hx, hb, hml, hown, hts⟩ (km_pass l hst g s.heap.size 125 L (by omega) y0 0 (cw g L v1287 ro) hy1 hy2 hy3 hy4 (xs (0 + 1 : Int32).toNatClampNeg) (xs (0 + 2 : Int32).toNatClampNeg)) (cwV 2 hts gL_law_X4_pass rfl rfl rfl (by decide +kernel) ⟨Nat.le_of_ble_eq_true rfl, Nat.le_of_ble_eq_true rfl⟩) (PW.preV3 (Nat.le_refl _) hJ hK hE hP hS (ci := 6) rfl (by omega) mw_o) rfl rfl hl.1 rfl (lv_room (Nat.le_of_ble_eq_true rfl)) dL_law_1305 ⟨Nat.le_of_ble_eq_true rfl, Nat.le_of_ble_eq_true rfl⟩) hS (fun r1305 u1305 H locs h1305 hP hS => ?_)
  have ht9 : u1305 0 0 0 = 1 := h1305
  refine lv_istore (lv' := [(7, .int r1305), (6, .int 1), (0, .ref b), (1, .ref (L 0)), (2, .ref (L 106)), (3, .ref (L 123)), (4, .ref (L 124)), (5, .int 0)]) hx hb dL_law_1308 hl (by decide) rfl (fun ls hl => ?_)
  refine lv_aload_n hx hb dL_law_1310 rfl (lv_at hl 4 rfl) ?_
  refine wx_calli (va_runV (As := []) (rest := []) ⟨hx, hb, hml, hown, hts⟩ (km_thrown l hst g s.heap.size 125 L (by omega) u1305 0 (cw g L v1287 ro)) (cwV 0 hts gL_law_X4_thrown rfl rfl rfl (by decide +kernel) ⟨Nat.le_of_ble_eq_true rfl, Nat.le_of_ble_eq_true rfl⟩) (PW.preV3 (Nat.le_refl _) hJ hK hE hP hS (ci := 6) rfl (by omega) mw_o) rfl rfl hl.1 rfl (lv_room (Nat.le_of_ble_eq_true rfl)) dL_law_1311 ⟨Nat.le_of_ble_eq_true rfl, Nat.le_of_ble_eq_true rfl⟩) hS (fun r1311 u1311 H locs h1311 hP hS => ?_)
  obtain ⟨rfl, e9⟩ := h1311
  have e9 := e9.symm
  subst e9
  refine lv_iload hx hb dL_law_1314 (lv_at hl 1 rfl) ?_
  refine lv_icmp_eq (tgt := 1321) hx hb dL_law_1316 (by decide) (fun c1316 => ?_) (fun c1316 => absurd (ht9) c1316)
  refine lv_iload hx hb dL_law_1321 (lv_at hl 1 rfl) ?_
  refine lv_if_ne (tgt := 1338) hx hb dL_law_1323 (by decide) (fun c1323 => ?_) (fun c1323 => absurd c1323 (by decide))
  refine lv_goto (tgt := 2028) hx hb dL_law_1338 (by decide) ?_
  exact law_end C0 (Nat.le_of_ble_eq_true rfl) (Nat.le_of_ble_eq_true rfl) hS (lv_sub hl [7, 2] rfl)

set_option maxHeartbeats 8000000 in
set_option maxRecDepth 100000 in
theorem law_c17 {p : Program} {e : Env} {s : State} {m : MethodId} {below : List Frame} {meth : Method} {c : Code} (l : Launch) (hst : l.stackTraces = false) {b : Nat} {xs : Nat → Int32} (C0 : lw_At p s m meth c b 5 xs) (g : gE) (L : Nat → Nat) (ro : Nat → va_E) (f : Nat → Int64) (ho : ro 123 = .inl (g.2 4, 1, .inr (.inl f))) (hJ : wj 125 L (fun q : Nat => s.heap.size ≤ q)) (hK : va_K g.1 vwCl (tysC g) s) (hE : EE SS (fun q : Nat => s.heap.size ≤ q) s) {H : Heap} {locs : List Loc} (hP : va_P g.1 vwCl (wl 125 L (cw g L x0 (mw g L y0 0 ro))) H) (hS : va_S (fun q : Nat => s.heap.size ≤ q) s.heap H locs) {ls : Array Slot} (hl : lv_has ls 9 [(0, .ref b), (1, .ref (L 0)), (2, .ref (L 106)), (3, .ref (L 123)), (4, .ref (L 124)), (5, .int 0)]) : W p l e room_1 s m #[Value.ref b] below meth c H locs 200 100000 (lw_Z below #[Value.ref b] s) (F0 m 1341 ls []) := by
  obtain ⟨hx, hb, hr, hml, hown, hts0, hX, hbl, hlocks, hgv⟩ := id C0
  have hown : s.vm.findClass RL = some m.cls := hown
  have hts : ∀ w ∈ wsL_law, w.before #[Value.ref b] s = true := fun w h => hts0 w (wsL_law_in w h)
  have hbA : ¬ (fun q : Nat => s.heap.size ≤ q) b := Nat.not_le.mpr hbl
  have hx0 : x0 0 0 0 = nI 0 := rfl
  have hx1 : x0 1 0 0 = nI 0 := rfl
  have hx2 : x0 2 0 0 = 2 := rfl
  have hx3 : x0 3 0 0 = nI 0 := rfl
  have hy1 : y0 1 0 0 = nI 0 := rfl
  have hy2 : y0 2 0 0 = 2 := rfl
  have hy3 : y0 3 0 0 = nI 0 := rfl
  have hy4 : y0 4 0 0 = nI 0 := rfl
  have hn : 125 ≤ 125 := Nat.le_refl _
  refine lv_aload_n hx hb dL_law_1341 rfl (lv_at hl 1 rfl) ?_
  refine lv_aload_n hx hb dL_law_1342 rfl (lv_at hl 0 rfl) ?_
  refine lv_iload hx hb dL_law_1343 (lv_at hl 5 rfl) ?_
  refine lv_iconst (v := 1) hx hb dL_law_1345 (by decide) ?_
  refine lv_iadd hx hb dL_law_1346 ?_
  refine va_sld hx hb hX hbl hbA hS (i := 0 + 1) (by unfold vp_in; decide) dL_law_1347 ?_
  refine lv_aload_n hx hb dL_law_1348 rfl (lv_at hl 0 rfl) ?_
  refine lv_iload hx hb dL_law_1349 (lv_at hl 5 rfl) ?_
  refine lv_iconst (v := 2) hx hb dL_law_1351 (by decide) ?_
  refine lv_iadd hx hb dL_law_1352 ?_
  refine va_sld hx hb hX hbl hbA hS (i := 0 + 2) (by unfold vp_in; decide) dL_law_1353 ?_
  refine lv_aload_n hx hb dL_law_1354 rfl (lv_at hl 3 rfl) ?_
  refine wx_calli (vx_runSW (As := [.ref (L 0), .int (xs (0 + 1 : Int32).toNatClampNeg), .int (xs (0 + 2 : Int32).toNatClampNeg), .ref (L 123)]) (rest := []) ⟨hx, hb, hml, hown, hts⟩ (kl_readers l hst g s.heap.size 125 L (by omega) x0 (mw g L y0 0 ro) hx0 hx1 hx2 hx3 f (mw_ge (by decide) |>.trans ho) (xs (0 + 1 : Int32).toNatClampNeg) (xs (0 + 2 : Int32).toNatClampNeg)) (vx_cwSW 4 hts gL_law_L_readers rfl rfl rfl (by decide +kernel) ⟨Nat.le_of_ble_eq_true rfl, Nat.le_of_ble_eq_true rfl⟩) (PW.preS3 (Nat.le_refl _) hJ hK hE hP hS) rfl rfl hl.1 rfl (lv_room (Nat.le_of_ble_eq_true rfl)) dL_law_1355 ⟨Nat.le_of_ble_eq_true rfl, Nat.le_of_ble_eq_true rfl⟩) hS (fun r1355 u1355 H locs h1355 hP hS => ?_)
  obtain ⟨v1355, t1355⟩ := u1355
  dsimp only at h1355 hP
  obtain ⟨rfl, rfl⟩ := h1355
  have hP : va_P g.1 vwCl (wl 125 L (mw g L y0 0 (cw g L v1355 ro))) H := by rw [← cw_mw]; exact hP
  refine lv_istore (lv' := [(6, .int 1), (0, .ref b), (1, .ref (L 0)), (2, .ref (L 106)), (3, .ref (L 123)), (4, .ref (L 124)), (5, .int 0)]) hx hb dL_law_1358 hl (by decide) rfl (fun ls hl => ?_)
  refine lv_aload_n hx hb dL_law_1360 rfl (lv_at hl 3 rfl) ?_
  refine lv_aload_n hx hb dL_law_1361 rfl (lv_at hl 1 rfl) ?_
  refine lv_iload hx hb dL_law_1362 (lv_at hl 6 rfl) ?_
  refine lv_iconst (v := 1) hx hb dL_law_1364 (by decide) ?_
  refine lv_iadd hx hb dL_law_1365 ?_
  refine va_sld hx hb hX hbl hbA hS (i := 0 + 1) (by unfold vp_in; decide) dL_law_1366 ?_
  refine lv_aload_n hx hb dL_law_1367 rfl (lv_at hl 1 rfl) ?_
  refine lv_iload hx hb dL_law_1368 (lv_at hl 6 rfl) ?_
  refine lv_iconst (v := 2) hx hb dL_law_1370 (by decide) ?_
  refine lv_iadd hx hb dL_law_1371 ?_
  refine va_sld hx hb hX hbl hbA hS (i := 0 + 2) (by unfold vp_in; decide) dL_law_1372 ?_
  refine wx_calli (va_runV (As := [.int (xs (0 + 1 : Int32).toNatClampNeg), .int (xs (0 + 2 : Int32).toNatClampNeg)]) (rest := []) ⟨hx, hb, hml, hown, hts⟩ (km_readers l hst g s.heap.size 125 L (by omega) y0 0 (cw g L v1355 ro) hy1 hy2 hy3 hy4 (xs (0 + 1 : Int32).toNatClampNeg) (xs (0 + 2 : Int32).toNatClampNeg)) (cwV 2 hts gL_law_X4_readers rfl rfl rfl (by decide +kernel) ⟨Nat.le_of_ble_eq_true rfl, Nat.le_of_ble_eq_true rfl⟩) (PW.preV3 (Nat.le_refl _) hJ hK hE hP hS (ci := 6) rfl (by omega) mw_o) rfl rfl hl.1 rfl (lv_room (Nat.le_of_ble_eq_true rfl)) dL_law_1373 ⟨Nat.le_of_ble_eq_true rfl, Nat.le_of_ble_eq_true rfl⟩) hS (fun r1373 u1373 H locs h1373 hP hS => ?_)
  have ht9 : u1373 0 0 0 = 1 := h1373
  refine lv_istore (lv' := [(7, .int r1373), (6, .int 1), (0, .ref b), (1, .ref (L 0)), (2, .ref (L 106)), (3, .ref (L 123)), (4, .ref (L 124)), (5, .int 0)]) hx hb dL_law_1376 hl (by decide) rfl (fun ls hl => ?_)
  refine lv_aload_n hx hb dL_law_1378 rfl (lv_at hl 4 rfl) ?_
  refine wx_calli (va_runV (As := []) (rest := []) ⟨hx, hb, hml, hown, hts⟩ (km_thrown l hst g s.heap.size 125 L (by omega) u1373 0 (cw g L v1355 ro)) (cwV 0 hts gL_law_X4_thrown rfl rfl rfl (by decide +kernel) ⟨Nat.le_of_ble_eq_true rfl, Nat.le_of_ble_eq_true rfl⟩) (PW.preV3 (Nat.le_refl _) hJ hK hE hP hS (ci := 6) rfl (by omega) mw_o) rfl rfl hl.1 rfl (lv_room (Nat.le_of_ble_eq_true rfl)) dL_law_1379 ⟨Nat.le_of_ble_eq_true rfl, Nat.le_of_ble_eq_true rfl⟩) hS (fun r1379 u1379 H locs h1379 hP hS => ?_)
  obtain ⟨rfl, e9⟩ := h1379
  have e9 := e9.symm
  subst e9
  refine lv_iload hx hb dL_law_1382 (lv_at hl 1 rfl) ?_
  refine lv_icmp_eq (tgt := 1389) hx hb dL_law_1384 (by decide) (fun c1384 => ?_) (fun c1384 => absurd (ht9) c1384)
  refine lv_iload hx hb dL_law_1389 (lv_at hl 1 rfl) ?_
  refine lv_if_ne (tgt := 1406) hx hb dL_law_1391 (by decide) (fun c1391 => ?_) (fun c1391 => absurd c1391 (by decide))
  refine lv_goto (tgt := 2028) hx hb dL_law_1406 (by decide) ?_
  exact law_end C0 (Nat.le_of_ble_eq_true rfl) (Nat.le_of_ble_eq_true rfl) hS (lv_sub hl [7, 2] rfl)

set_option maxHeartbeats 8000000 in
set_option maxRecDepth 100000 in
theorem law_c18 {p : Program} {e : Env} {s : State} {m : MethodId} {below : List Frame} {meth : Method} {c : Code} (l : Launch) (hst : l.stackTraces = false) {b : Nat} {xs : Nat → Int32} (C0 : lw_At p s m meth c b 5 xs) (g : gE) (L : Nat → Nat) (ro : Nat → va_E) (f : Nat → Int64) (ho : ro 123 = .inl (g.2 4, 1, .inr (.inl f))) (hJ : wj 125 L (fun q : Nat => s.heap.size ≤ q)) (hK : va_K g.1 vwCl (tysC g) s) (hE : EE SS (fun q : Nat => s.heap.size ≤ q) s) {H : Heap} {locs : List Loc} (hP : va_P g.1 vwCl (wl 125 L (cw g L x0 (mw g L y0 0 ro))) H) (hS : va_S (fun q : Nat => s.heap.size ≤ q) s.heap H locs) {ls : Array Slot} (hl : lv_has ls 9 [(0, .ref b), (1, .ref (L 0)), (2, .ref (L 106)), (3, .ref (L 123)), (4, .ref (L 124)), (5, .int 0)]) : W p l e room_1 s m #[Value.ref b] below meth c H locs 200 100000 (lw_Z below #[Value.ref b] s) (F0 m 1409 ls []) := by
  obtain ⟨hx, hb, hr, hml, hown, hts0, hX, hbl, hlocks, hgv⟩ := id C0
  have hown : s.vm.findClass RL = some m.cls := hown
  have hts : ∀ w ∈ wsL_law, w.before #[Value.ref b] s = true := fun w h => hts0 w (wsL_law_in w h)
  have hbA : ¬ (fun q : Nat => s.heap.size ≤ q) b := Nat.not_le.mpr hbl
  have hx0 : x0 0 0 0 = nI 0 := rfl
  have hx1 : x0 1 0 0 = nI 0 := rfl
  have hx2 : x0 2 0 0 = 2 := rfl
  have hx3 : x0 3 0 0 = nI 0 := rfl
  have hy1 : y0 1 0 0 = nI 0 := rfl
  have hy2 : y0 2 0 0 = 2 := rfl
  have hy3 : y0 3 0 0 = nI 0 := rfl
  have hy4 : y0 4 0 0 = nI 0 := rfl
  have hn : 125 ≤ 125 := Nat.le_refl _
  refine lv_aload_n hx hb dL_law_1409 rfl (lv_at hl 1 rfl) ?_
  refine lv_aload_n hx hb dL_law_1410 rfl (lv_at hl 0 rfl) ?_
  refine lv_iload hx hb dL_law_1411 (lv_at hl 5 rfl) ?_
  refine lv_iconst (v := 1) hx hb dL_law_1413 (by decide) ?_
  refine lv_iadd hx hb dL_law_1414 ?_
  refine va_sld hx hb hX hbl hbA hS (i := 0 + 1) (by unfold vp_in; decide) dL_law_1415 ?_
  refine lv_aload_n hx hb dL_law_1416 rfl (lv_at hl 0 rfl) ?_
  refine lv_iload hx hb dL_law_1417 (lv_at hl 5 rfl) ?_
  refine lv_iconst (v := 2) hx hb dL_law_1419 (by decide) ?_
  refine lv_iadd hx hb dL_law_1420 ?_
  refine va_sld hx hb hX hbl hbA hS (i := 0 + 2) (by unfold vp_in; decide) dL_law_1421 ?_
  refine lv_aload_n hx hb dL_law_1422 rfl (lv_at hl 3 rfl) ?_
  refine wx_calli (vx_runSW (As := [.ref (L 0), .int (xs (0 + 1 : Int32).toNatClampNeg), .int (xs (0 + 2 : Int32).toNatClampNeg), .ref (L 123)]) (rest := []) ⟨hx, hb, hml, hown, hts⟩ (kl_readIn l hst g s.heap.size 125 L (by omega) x0 (mw g L y0 0 ro) hx0 hx1 hx2 hx3 f (mw_ge (by decide) |>.trans ho) (xs (0 + 1 : Int32).toNatClampNeg) (xs (0 + 2 : Int32).toNatClampNeg)) (vx_cwSW 4 hts gL_law_L_readIn rfl rfl rfl (by decide +kernel) ⟨Nat.le_of_ble_eq_true rfl, Nat.le_of_ble_eq_true rfl⟩) (PW.preS3 (Nat.le_refl _) hJ hK hE hP hS) rfl rfl hl.1 rfl (lv_room (Nat.le_of_ble_eq_true rfl)) dL_law_1423 ⟨Nat.le_of_ble_eq_true rfl, Nat.le_of_ble_eq_true rfl⟩) hS (fun r1423 u1423 H locs h1423 hP hS => ?_)
  obtain ⟨v1423, t1423⟩ := u1423
  dsimp only at h1423 hP
  obtain ⟨rfl, rfl⟩ := h1423
  have hP : va_P g.1 vwCl (wl 125 L (mw g L y0 0 (cw g L v1423 ro))) H := by rw [← cw_mw]; exact hP
  refine lv_istore (lv' := [(6, .int 1), (0, .ref b), (1, .ref (L 0)), (2, .ref (L 106)), (3, .ref (L 123)), (4, .ref (L 124)), (5, .int 0)]) hx hb dL_law_1426 hl (by decide) rfl (fun ls hl => ?_)
  refine lv_aload_n hx hb dL_law_1428 rfl (lv_at hl 3 rfl) ?_
  refine lv_aload_n hx hb dL_law_1429 rfl (lv_at hl 1 rfl) ?_
  refine lv_iload hx hb dL_law_1430 (lv_at hl 6 rfl) ?_
  refine lv_iconst (v := 1) hx hb dL_law_1432 (by decide) ?_
  refine lv_iadd hx hb dL_law_1433 ?_
  refine va_sld hx hb hX hbl hbA hS (i := 0 + 1) (by unfold vp_in; decide) dL_law_1434 ?_
  refine lv_aload_n hx hb dL_law_1435 rfl (lv_at hl 1 rfl) ?_
  refine lv_iload hx hb dL_law_1436 (lv_at hl 6 rfl) ?_
  refine lv_iconst (v := 2) hx hb dL_law_1438 (by decide) ?_
  refine lv_iadd hx hb dL_law_1439 ?_
  refine va_sld hx hb hX hbl hbA hS (i := 0 + 2) (by unfold vp_in; decide) dL_law_1440 ?_
  refine wx_calli (va_runV (As := [.int (xs (0 + 1 : Int32).toNatClampNeg), .int (xs (0 + 2 : Int32).toNatClampNeg)]) (rest := []) ⟨hx, hb, hml, hown, hts⟩ (km_readIn l hst g s.heap.size 125 L (by omega) y0 0 (cw g L v1423 ro) hy1 hy2 hy3 hy4 (xs (0 + 1 : Int32).toNatClampNeg) (xs (0 + 2 : Int32).toNatClampNeg)) (cwV 2 hts gL_law_X4_readIn rfl rfl rfl (by decide +kernel) ⟨Nat.le_of_ble_eq_true rfl, Nat.le_of_ble_eq_true rfl⟩) (PW.preV3 (Nat.le_refl _) hJ hK hE hP hS (ci := 6) rfl (by omega) mw_o) rfl rfl hl.1 rfl (lv_room (Nat.le_of_ble_eq_true rfl)) dL_law_1441 ⟨Nat.le_of_ble_eq_true rfl, Nat.le_of_ble_eq_true rfl⟩) hS (fun r1441 u1441 H locs h1441 hP hS => ?_)
  have ht9 : u1441 0 0 0 = 1 := h1441
  refine lv_istore (lv' := [(7, .int r1441), (6, .int 1), (0, .ref b), (1, .ref (L 0)), (2, .ref (L 106)), (3, .ref (L 123)), (4, .ref (L 124)), (5, .int 0)]) hx hb dL_law_1444 hl (by decide) rfl (fun ls hl => ?_)
  refine lv_aload_n hx hb dL_law_1446 rfl (lv_at hl 4 rfl) ?_
  refine wx_calli (va_runV (As := []) (rest := []) ⟨hx, hb, hml, hown, hts⟩ (km_thrown l hst g s.heap.size 125 L (by omega) u1441 0 (cw g L v1423 ro)) (cwV 0 hts gL_law_X4_thrown rfl rfl rfl (by decide +kernel) ⟨Nat.le_of_ble_eq_true rfl, Nat.le_of_ble_eq_true rfl⟩) (PW.preV3 (Nat.le_refl _) hJ hK hE hP hS (ci := 6) rfl (by omega) mw_o) rfl rfl hl.1 rfl (lv_room (Nat.le_of_ble_eq_true rfl)) dL_law_1447 ⟨Nat.le_of_ble_eq_true rfl, Nat.le_of_ble_eq_true rfl⟩) hS (fun r1447 u1447 H locs h1447 hP hS => ?_)
  obtain ⟨rfl, e9⟩ := h1447
  have e9 := e9.symm
  subst e9
  refine lv_iload hx hb dL_law_1450 (lv_at hl 1 rfl) ?_
  refine lv_icmp_eq (tgt := 1457) hx hb dL_law_1452 (by decide) (fun c1452 => ?_) (fun c1452 => absurd (ht9) c1452)
  refine lv_iload hx hb dL_law_1457 (lv_at hl 1 rfl) ?_
  refine lv_if_ne (tgt := 1474) hx hb dL_law_1459 (by decide) (fun c1459 => ?_) (fun c1459 => absurd c1459 (by decide))
  refine lv_goto (tgt := 2028) hx hb dL_law_1474 (by decide) ?_
  exact law_end C0 (Nat.le_of_ble_eq_true rfl) (Nat.le_of_ble_eq_true rfl) hS (lv_sub hl [7, 2] rfl)

set_option maxHeartbeats 8000000 in
set_option maxRecDepth 100000 in
theorem law_c19 {p : Program} {e : Env} {s : State} {m : MethodId} {below : List Frame} {meth : Method} {c : Code} (l : Launch) (hst : l.stackTraces = false) {b : Nat} {xs : Nat → Int32} (C0 : lw_At p s m meth c b 5 xs) (g : gE) (L : Nat → Nat) (ro : Nat → va_E) (f : Nat → Int64) (ho : ro 123 = .inl (g.2 4, 1, .inr (.inl f))) (hJ : wj 125 L (fun q : Nat => s.heap.size ≤ q)) (hK : va_K g.1 vwCl (tysC g) s) (hE : EE SS (fun q : Nat => s.heap.size ≤ q) s) {H : Heap} {locs : List Loc} (hP : va_P g.1 vwCl (wl 125 L (cw g L x0 (mw g L y0 0 ro))) H) (hS : va_S (fun q : Nat => s.heap.size ≤ q) s.heap H locs) {ls : Array Slot} (hl : lv_has ls 9 [(0, .ref b), (1, .ref (L 0)), (2, .ref (L 106)), (3, .ref (L 123)), (4, .ref (L 124)), (5, .int 0)]) : W p l e room_1 s m #[Value.ref b] below meth c H locs 200 100000 (lw_Z below #[Value.ref b] s) (F0 m 1477 ls []) := by
  obtain ⟨hx, hb, hr, hml, hown, hts0, hX, hbl, hlocks, hgv⟩ := id C0
  have hown : s.vm.findClass RL = some m.cls := hown
  have hts : ∀ w ∈ wsL_law, w.before #[Value.ref b] s = true := fun w h => hts0 w (wsL_law_in w h)
  have hbA : ¬ (fun q : Nat => s.heap.size ≤ q) b := Nat.not_le.mpr hbl
  have hx0 : x0 0 0 0 = nI 0 := rfl
  have hx1 : x0 1 0 0 = nI 0 := rfl
  have hx2 : x0 2 0 0 = 2 := rfl
  have hx3 : x0 3 0 0 = nI 0 := rfl
  have hy1 : y0 1 0 0 = nI 0 := rfl
  have hy2 : y0 2 0 0 = 2 := rfl
  have hy3 : y0 3 0 0 = nI 0 := rfl
  have hy4 : y0 4 0 0 = nI 0 := rfl
  have hn : 125 ≤ 125 := Nat.le_refl _
  refine lv_aload_n hx hb dL_law_1477 rfl (lv_at hl 1 rfl) ?_
  refine lv_aload_n hx hb dL_law_1478 rfl (lv_at hl 0 rfl) ?_
  refine lv_iload hx hb dL_law_1479 (lv_at hl 5 rfl) ?_
  refine lv_iconst (v := 1) hx hb dL_law_1481 (by decide) ?_
  refine lv_iadd hx hb dL_law_1482 ?_
  refine va_sld hx hb hX hbl hbA hS (i := 0 + 1) (by unfold vp_in; decide) dL_law_1483 ?_
  refine lv_aload_n hx hb dL_law_1484 rfl (lv_at hl 0 rfl) ?_
  refine lv_iload hx hb dL_law_1485 (lv_at hl 5 rfl) ?_
  refine lv_iconst (v := 2) hx hb dL_law_1487 (by decide) ?_
  refine lv_iadd hx hb dL_law_1488 ?_
  refine va_sld hx hb hX hbl hbA hS (i := 0 + 2) (by unfold vp_in; decide) dL_law_1489 ?_
  refine lv_aload_n hx hb dL_law_1490 rfl (lv_at hl 3 rfl) ?_
  refine wx_calli (vx_runSW (As := [.ref (L 0), .int (xs (0 + 1 : Int32).toNatClampNeg), .int (xs (0 + 2 : Int32).toNatClampNeg), .ref (L 123)]) (rest := []) ⟨hx, hb, hml, hown, hts⟩ (kl_suspects l hst g s.heap.size 125 L (by omega) x0 (mw g L y0 0 ro) hx0 hx1 hx2 hx3 f (mw_ge (by decide) |>.trans ho) (xs (0 + 1 : Int32).toNatClampNeg) (xs (0 + 2 : Int32).toNatClampNeg)) (vx_cwSW 4 hts gL_law_L_suspects rfl rfl rfl (by decide +kernel) ⟨Nat.le_of_ble_eq_true rfl, Nat.le_of_ble_eq_true rfl⟩) (PW.preS3 (Nat.le_refl _) hJ hK hE hP hS) rfl rfl hl.1 rfl (lv_room (Nat.le_of_ble_eq_true rfl)) dL_law_1491 ⟨Nat.le_of_ble_eq_true rfl, Nat.le_of_ble_eq_true rfl⟩) hS (fun r1491 u1491 H locs h1491 hP hS => ?_)
  obtain ⟨v1491, t1491⟩ := u1491
  dsimp only at h1491 hP
  rcases h1491 with ⟨hb9, rfl, rfl⟩ | ⟨hb9, rfl, rfl⟩
  · have hP : va_P g.1 vwCl (wl 125 L (mw g L y0 0 (cw g L v1491 ro))) H := by rw [← cw_mw]; exact hP
    refine lv_istore (lv' := [(6, .int 1), (0, .ref b), (1, .ref (L 0)), (2, .ref (L 106)), (3, .ref (L 123)), (4, .ref (L 124)), (5, .int 0)]) hx hb dL_law_1494 hl (by decide) rfl (fun ls hl => ?_)
    refine lv_aload_n hx hb dL_law_1496 rfl (lv_at hl 3 rfl) ?_
    refine lv_aload_n hx hb dL_law_1497 rfl (lv_at hl 1 rfl) ?_
    refine lv_iload hx hb dL_law_1498 (lv_at hl 6 rfl) ?_
    refine lv_iconst (v := 1) hx hb dL_law_1500 (by decide) ?_
    refine lv_iadd hx hb dL_law_1501 ?_
    refine va_sld hx hb hX hbl hbA hS (i := 0 + 1) (by unfold vp_in; decide) dL_law_1502 ?_
    refine lv_aload_n hx hb dL_law_1503 rfl (lv_at hl 1 rfl) ?_
    refine lv_iload hx hb dL_law_1504 (lv_at hl 6 rfl) ?_
    refine lv_iconst (v := 2) hx hb dL_law_1506 (by decide) ?_
    refine lv_iadd hx hb dL_law_1507 ?_
    refine va_sld hx hb hX hbl hbA hS (i := 0 + 2) (by unfold vp_in; decide) dL_law_1508 ?_
    refine wx_calli (va_runV (As := [.int (xs (0 + 1 : Int32).toNatClampNeg), .int (xs (0 + 2 : Int32).toNatClampNeg)]) (rest := []) ⟨hx, hb, hml, hown, hts⟩ (km_suspects l hst g s.heap.size 125 L (by omega) y0 0 (cw g L v1491 ro) hy1 hy2 hy3 hy4 (xs (0 + 1 : Int32).toNatClampNeg) (xs (0 + 2 : Int32).toNatClampNeg)) (cwV 2 hts gL_law_X4_suspects rfl rfl rfl (by decide +kernel) ⟨Nat.le_of_ble_eq_true rfl, Nat.le_of_ble_eq_true rfl⟩) (PW.preV3 (Nat.le_refl _) hJ hK hE hP hS (ci := 6) rfl (by omega) mw_o) rfl rfl hl.1 rfl (lv_room (Nat.le_of_ble_eq_true rfl)) dL_law_1509 ⟨Nat.le_of_ble_eq_true rfl, Nat.le_of_ble_eq_true rfl⟩) hS (fun r1509 u1509 H locs h1509 hP hS => ?_)
    have ht9 : u1509 0 0 0 = 1 := h1509.elim (fun z => z.2) (fun z => absurd hb9 z.1)
    refine lv_istore (lv' := [(7, .int r1509), (6, .int 1), (0, .ref b), (1, .ref (L 0)), (2, .ref (L 106)), (3, .ref (L 123)), (4, .ref (L 124)), (5, .int 0)]) hx hb dL_law_1512 hl (by decide) rfl (fun ls hl => ?_)
    refine lv_aload_n hx hb dL_law_1514 rfl (lv_at hl 4 rfl) ?_
    refine wx_calli (va_runV (As := []) (rest := []) ⟨hx, hb, hml, hown, hts⟩ (km_thrown l hst g s.heap.size 125 L (by omega) u1509 0 (cw g L v1491 ro)) (cwV 0 hts gL_law_X4_thrown rfl rfl rfl (by decide +kernel) ⟨Nat.le_of_ble_eq_true rfl, Nat.le_of_ble_eq_true rfl⟩) (PW.preV3 (Nat.le_refl _) hJ hK hE hP hS (ci := 6) rfl (by omega) mw_o) rfl rfl hl.1 rfl (lv_room (Nat.le_of_ble_eq_true rfl)) dL_law_1515 ⟨Nat.le_of_ble_eq_true rfl, Nat.le_of_ble_eq_true rfl⟩) hS (fun r1515 u1515 H locs h1515 hP hS => ?_)
    obtain ⟨rfl, e9⟩ := h1515
    have e9 := e9.symm
    subst e9
    refine lv_iload hx hb dL_law_1518 (lv_at hl 1 rfl) ?_
    refine lv_icmp_eq (tgt := 1525) hx hb dL_law_1520 (by decide) (fun c1520 => ?_) (fun c1520 => absurd (ht9) c1520)
    refine lv_iload hx hb dL_law_1525 (lv_at hl 1 rfl) ?_
    refine lv_if_ne (tgt := 1542) hx hb dL_law_1527 (by decide) (fun c1527 => ?_) (fun c1527 => absurd c1527 (by decide))
    refine lv_goto (tgt := 2028) hx hb dL_law_1542 (by decide) ?_
    exact law_end C0 (Nat.le_of_ble_eq_true rfl) (Nat.le_of_ble_eq_true rfl) hS (lv_sub hl [7, 2] rfl)
  · have hP : va_P g.1 vwCl (wl 125 L (mw g L y0 0 (cw g L v1491 (va_up ro 123 (oL g f ((0 : Int32).toInt64)))))) H := by rw [← cw_mw, ← mw_rest (by decide)]; exact hP
    refine lv_istore (lv' := [(6, .int 0), (0, .ref b), (1, .ref (L 0)), (2, .ref (L 106)), (3, .ref (L 123)), (4, .ref (L 124)), (5, .int 0)]) hx hb dL_law_1494 hl (by decide) rfl (fun ls hl => ?_)
    refine lv_aload_n hx hb dL_law_1496 rfl (lv_at hl 3 rfl) ?_
    refine lv_aload_n hx hb dL_law_1497 rfl (lv_at hl 1 rfl) ?_
    refine lv_iload hx hb dL_law_1498 (lv_at hl 6 rfl) ?_
    refine lv_iconst (v := 1) hx hb dL_law_1500 (by decide) ?_
    refine lv_iadd hx hb dL_law_1501 ?_
    refine va_sld hx hb hX hbl hbA hS (i := 0 + 1) (by unfold vp_in; decide) dL_law_1502 ?_
    refine lv_aload_n hx hb dL_law_1503 rfl (lv_at hl 1 rfl) ?_
    refine lv_iload hx hb dL_law_1504 (lv_at hl 6 rfl) ?_
    refine lv_iconst (v := 2) hx hb dL_law_1506 (by decide) ?_
    refine lv_iadd hx hb dL_law_1507 ?_
    refine va_sld hx hb hX hbl hbA hS (i := 0 + 2) (by unfold vp_in; decide) dL_law_1508 ?_
    refine wx_calli (va_runV (As := [.int (xs (0 + 1 : Int32).toNatClampNeg), .int (xs (0 + 2 : Int32).toNatClampNeg)]) (rest := []) ⟨hx, hb, hml, hown, hts⟩ (km_suspects l hst g s.heap.size 125 L (by omega) y0 0 (cw g L v1491 (va_up ro 123 (oL g f ((0 : Int32).toInt64)))) hy1 hy2 hy3 hy4 (xs (0 + 1 : Int32).toNatClampNeg) (xs (0 + 2 : Int32).toNatClampNeg)) (cwV 2 hts gL_law_X4_suspects rfl rfl rfl (by decide +kernel) ⟨Nat.le_of_ble_eq_true rfl, Nat.le_of_ble_eq_true rfl⟩) (PW.preV3 (Nat.le_refl _) hJ hK hE hP hS (ci := 6) rfl (by omega) mw_o) rfl rfl hl.1 rfl (lv_room (Nat.le_of_ble_eq_true rfl)) dL_law_1509 ⟨Nat.le_of_ble_eq_true rfl, Nat.le_of_ble_eq_true rfl⟩) hS (fun r1509 u1509 H locs h1509 hP hS => ?_)
    obtain ⟨ht9, er9⟩ : u1509 0 0 0 = 0 ∧ r1509 = 0 := h1509.elim (fun z => absurd z.1 hb9) (fun z => z.2)
    refine lv_istore (lv' := [(7, .int r1509), (6, .int 0), (0, .ref b), (1, .ref (L 0)), (2, .ref (L 106)), (3, .ref (L 123)), (4, .ref (L 124)), (5, .int 0)]) hx hb dL_law_1512 hl (by decide) rfl (fun ls hl => ?_)
    refine lv_aload_n hx hb dL_law_1514 rfl (lv_at hl 4 rfl) ?_
    refine wx_calli (va_runV (As := []) (rest := []) ⟨hx, hb, hml, hown, hts⟩ (km_thrown l hst g s.heap.size 125 L (by omega) u1509 0 (cw g L v1491 (va_up ro 123 (oL g f ((0 : Int32).toInt64))))) (cwV 0 hts gL_law_X4_thrown rfl rfl rfl (by decide +kernel) ⟨Nat.le_of_ble_eq_true rfl, Nat.le_of_ble_eq_true rfl⟩) (PW.preV3 (Nat.le_refl _) hJ hK hE hP hS (ci := 6) rfl (by omega) mw_o) rfl rfl hl.1 rfl (lv_room (Nat.le_of_ble_eq_true rfl)) dL_law_1515 ⟨Nat.le_of_ble_eq_true rfl, Nat.le_of_ble_eq_true rfl⟩) hS (fun r1515 u1515 H locs h1515 hP hS => ?_)
    obtain ⟨rfl, e9⟩ := h1515
    have e9 := e9.symm
    subst e9
    refine lv_iload hx hb dL_law_1518 (lv_at hl 1 rfl) ?_
    refine lv_icmp_eq (tgt := 1525) hx hb dL_law_1520 (by decide) (fun c1520 => ?_) (fun c1520 => absurd (ht9) c1520)
    refine lv_iload hx hb dL_law_1525 (lv_at hl 1 rfl) ?_
    refine lv_if_ne (tgt := 1542) hx hb dL_law_1527 (by decide) (fun c1527 => absurd c1527 (by decide)) (fun c1527 => ?_)
    refine lv_aload_n hx hb dL_law_1530 rfl (lv_at hl 5 rfl) ?_
    refine lv_iconst (v := 0) hx hb dL_law_1531 (by decide) ?_
    refine wx_lald (D := g.1) (cl := vwCl) (f := vp_updL f (0 : Int32).toNatClampNeg ((0 : Int32).toInt64)) hx hb hK hP (123) 4 (by omega) ((mw_ge (by decide)).trans ((cw_ge (by decide)).trans (va_up_self _ _ _))) rfl (i := 0) (vp_in_nI (n := 0) (by decide) (by decide)) dL_law_1532 ?_
    refine lv_iload hx hb dL_law_1533 (lv_at hl 0 rfl) ?_
    refine lv_i2l hx hb dL_law_1535 rfl ?_
    refine W.lcmp hx hb dL_law_1536 ?_
    refine lv_if_eq (tgt := 1542) hx hb dL_law_1537 (by decide) (fun c1537 => ?_) (fun c1537 => absurd (by rw [er9, pk_uLs, lgc]) c1537)
    refine lv_goto (tgt := 2028) hx hb dL_law_1542 (by decide) ?_
    exact law_end C0 (Nat.le_of_ble_eq_true rfl) (Nat.le_of_ble_eq_true rfl) hS (lv_sub hl [7, 2] rfl)

set_option maxHeartbeats 8000000 in
set_option maxRecDepth 100000 in
theorem law_c20 {p : Program} {e : Env} {s : State} {m : MethodId} {below : List Frame} {meth : Method} {c : Code} (l : Launch) (hst : l.stackTraces = false) {b : Nat} {xs : Nat → Int32} (C0 : lw_At p s m meth c b 5 xs) (g : gE) (L : Nat → Nat) (ro : Nat → va_E) (f : Nat → Int64) (ho : ro 123 = .inl (g.2 4, 1, .inr (.inl f))) (hJ : wj 125 L (fun q : Nat => s.heap.size ≤ q)) (hK : va_K g.1 vwCl (tysC g) s) (hE : EE SS (fun q : Nat => s.heap.size ≤ q) s) {H : Heap} {locs : List Loc} (hP : va_P g.1 vwCl (wl 125 L (cw g L x0 (mw g L y0 0 ro))) H) (hS : va_S (fun q : Nat => s.heap.size ≤ q) s.heap H locs) {ls : Array Slot} (hl : lv_has ls 9 [(0, .ref b), (1, .ref (L 0)), (2, .ref (L 106)), (3, .ref (L 123)), (4, .ref (L 124)), (5, .int 0)]) : W p l e room_1 s m #[Value.ref b] below meth c H locs 200 100000 (lw_Z below #[Value.ref b] s) (F0 m 1545 ls []) := by
  obtain ⟨hx, hb, hr, hml, hown, hts0, hX, hbl, hlocks, hgv⟩ := id C0
  have hown : s.vm.findClass RL = some m.cls := hown
  have hts : ∀ w ∈ wsL_law, w.before #[Value.ref b] s = true := fun w h => hts0 w (wsL_law_in w h)
  have hbA : ¬ (fun q : Nat => s.heap.size ≤ q) b := Nat.not_le.mpr hbl
  have hx0 : x0 0 0 0 = nI 0 := rfl
  have hx1 : x0 1 0 0 = nI 0 := rfl
  have hx2 : x0 2 0 0 = 2 := rfl
  have hx3 : x0 3 0 0 = nI 0 := rfl
  have hy1 : y0 1 0 0 = nI 0 := rfl
  have hy2 : y0 2 0 0 = 2 := rfl
  have hy3 : y0 3 0 0 = nI 0 := rfl
  have hy4 : y0 4 0 0 = nI 0 := rfl
  have hn : 125 ≤ 125 := Nat.le_refl _
  refine lv_aload_n hx hb dL_law_1545 rfl (lv_at hl 1 rfl) ?_
  refine lv_aload_n hx hb dL_law_1546 rfl (lv_at hl 0 rfl) ?_
  refine lv_iload hx hb dL_law_1547 (lv_at hl 5 rfl) ?_
  refine lv_iconst (v := 1) hx hb dL_law_1549 (by decide) ?_
  refine lv_iadd hx hb dL_law_1550 ?_
  refine va_sld hx hb hX hbl hbA hS (i := 0 + 1) (by unfold vp_in; decide) dL_law_1551 ?_
  refine lv_aload_n hx hb dL_law_1552 rfl (lv_at hl 0 rfl) ?_
  refine lv_iload hx hb dL_law_1553 (lv_at hl 5 rfl) ?_
  refine lv_iconst (v := 2) hx hb dL_law_1555 (by decide) ?_
  refine lv_iadd hx hb dL_law_1556 ?_
  refine va_sld hx hb hX hbl hbA hS (i := 0 + 2) (by unfold vp_in; decide) dL_law_1557 ?_
  refine lv_aload_n hx hb dL_law_1558 rfl (lv_at hl 0 rfl) ?_
  refine lv_iload hx hb dL_law_1559 (lv_at hl 5 rfl) ?_
  refine lv_iconst (v := 3) hx hb dL_law_1561 (by decide) ?_
  refine lv_iadd hx hb dL_law_1562 ?_
  refine va_sld hx hb hX hbl hbA hS (i := 0 + 3) (by unfold vp_in; decide) dL_law_1563 ?_
  refine lv_aload_n hx hb dL_law_1564 rfl (lv_at hl 3 rfl) ?_
  refine wx_calli (vx_runSW (As := [.ref (L 0), .int (xs (0 + 1 : Int32).toNatClampNeg), .int (xs (0 + 2 : Int32).toNatClampNeg), .int (xs (0 + 3 : Int32).toNatClampNeg), .ref (L 123)]) (rest := []) ⟨hx, hb, hml, hown, hts⟩ (kl_suspectAt l hst g s.heap.size 125 L (by omega) x0 (mw g L y0 0 ro) hx0 hx1 hx2 hx3 f (mw_ge (by decide) |>.trans ho) (xs (0 + 1 : Int32).toNatClampNeg) (xs (0 + 2 : Int32).toNatClampNeg) (xs (0 + 3 : Int32).toNatClampNeg)) (vx_cwSW 5 hts gL_law_L_suspectAt rfl rfl rfl (by decide +kernel) ⟨Nat.le_of_ble_eq_true rfl, Nat.le_of_ble_eq_true rfl⟩) (PW.preS3 (Nat.le_refl _) hJ hK hE hP hS) rfl rfl hl.1 rfl (lv_room (Nat.le_of_ble_eq_true rfl)) dL_law_1565 ⟨Nat.le_of_ble_eq_true rfl, Nat.le_of_ble_eq_true rfl⟩) hS (fun r1565 u1565 H locs h1565 hP hS => ?_)
  obtain ⟨v1565, t1565⟩ := u1565
  dsimp only at h1565 hP
  rcases h1565 with ⟨hb9, rfl, rfl⟩ | ⟨hb9, rfl, rfl⟩
  · have hP : va_P g.1 vwCl (wl 125 L (mw g L y0 0 (cw g L v1565 ro))) H := by rw [← cw_mw]; exact hP
    refine lv_istore (lv' := [(6, .int 1), (0, .ref b), (1, .ref (L 0)), (2, .ref (L 106)), (3, .ref (L 123)), (4, .ref (L 124)), (5, .int 0)]) hx hb dL_law_1568 hl (by decide) rfl (fun ls hl => ?_)
    refine lv_aload_n hx hb dL_law_1570 rfl (lv_at hl 3 rfl) ?_
    refine lv_aload_n hx hb dL_law_1571 rfl (lv_at hl 1 rfl) ?_
    refine lv_iload hx hb dL_law_1572 (lv_at hl 6 rfl) ?_
    refine lv_iconst (v := 1) hx hb dL_law_1574 (by decide) ?_
    refine lv_iadd hx hb dL_law_1575 ?_
    refine va_sld hx hb hX hbl hbA hS (i := 0 + 1) (by unfold vp_in; decide) dL_law_1576 ?_
    refine lv_aload_n hx hb dL_law_1577 rfl (lv_at hl 1 rfl) ?_
    refine lv_iload hx hb dL_law_1578 (lv_at hl 6 rfl) ?_
    refine lv_iconst (v := 2) hx hb dL_law_1580 (by decide) ?_
    refine lv_iadd hx hb dL_law_1581 ?_
    refine va_sld hx hb hX hbl hbA hS (i := 0 + 2) (by unfold vp_in; decide) dL_law_1582 ?_
    refine lv_aload_n hx hb dL_law_1583 rfl (lv_at hl 1 rfl) ?_
    refine lv_iload hx hb dL_law_1584 (lv_at hl 6 rfl) ?_
    refine lv_iconst (v := 3) hx hb dL_law_1586 (by decide) ?_
    refine lv_iadd hx hb dL_law_1587 ?_
    refine va_sld hx hb hX hbl hbA hS (i := 0 + 3) (by unfold vp_in; decide) dL_law_1588 ?_
    refine wx_calli (va_runV (As := [.int (xs (0 + 1 : Int32).toNatClampNeg), .int (xs (0 + 2 : Int32).toNatClampNeg), .int (xs (0 + 3 : Int32).toNatClampNeg)]) (rest := []) ⟨hx, hb, hml, hown, hts⟩ (km_suspectAt l hst g s.heap.size 125 L (by omega) y0 0 (cw g L v1565 ro) hy1 hy2 hy3 hy4 (xs (0 + 1 : Int32).toNatClampNeg) (xs (0 + 2 : Int32).toNatClampNeg) (xs (0 + 3 : Int32).toNatClampNeg)) (cwV 3 hts gL_law_X4_suspectAt rfl rfl rfl (by decide +kernel) ⟨Nat.le_of_ble_eq_true rfl, Nat.le_of_ble_eq_true rfl⟩) (PW.preV3 (Nat.le_refl _) hJ hK hE hP hS (ci := 6) rfl (by omega) mw_o) rfl rfl hl.1 rfl (lv_room (Nat.le_of_ble_eq_true rfl)) dL_law_1589 ⟨Nat.le_of_ble_eq_true rfl, Nat.le_of_ble_eq_true rfl⟩) hS (fun r1589 u1589 H locs h1589 hP hS => ?_)
    have ht9 : u1589 0 0 0 = 1 := h1589.elim (fun z => z.2) (fun z => absurd hb9 z.1)
    refine lv_istore (lv' := [(7, .int r1589), (6, .int 1), (0, .ref b), (1, .ref (L 0)), (2, .ref (L 106)), (3, .ref (L 123)), (4, .ref (L 124)), (5, .int 0)]) hx hb dL_law_1592 hl (by decide) rfl (fun ls hl => ?_)
    refine lv_aload_n hx hb dL_law_1594 rfl (lv_at hl 4 rfl) ?_
    refine wx_calli (va_runV (As := []) (rest := []) ⟨hx, hb, hml, hown, hts⟩ (km_thrown l hst g s.heap.size 125 L (by omega) u1589 0 (cw g L v1565 ro)) (cwV 0 hts gL_law_X4_thrown rfl rfl rfl (by decide +kernel) ⟨Nat.le_of_ble_eq_true rfl, Nat.le_of_ble_eq_true rfl⟩) (PW.preV3 (Nat.le_refl _) hJ hK hE hP hS (ci := 6) rfl (by omega) mw_o) rfl rfl hl.1 rfl (lv_room (Nat.le_of_ble_eq_true rfl)) dL_law_1595 ⟨Nat.le_of_ble_eq_true rfl, Nat.le_of_ble_eq_true rfl⟩) hS (fun r1595 u1595 H locs h1595 hP hS => ?_)
    obtain ⟨rfl, e9⟩ := h1595
    have e9 := e9.symm
    subst e9
    refine lv_iload hx hb dL_law_1598 (lv_at hl 1 rfl) ?_
    refine lv_icmp_eq (tgt := 1605) hx hb dL_law_1600 (by decide) (fun c1600 => ?_) (fun c1600 => absurd (ht9) c1600)
    refine lv_iload hx hb dL_law_1605 (lv_at hl 1 rfl) ?_
    refine lv_if_ne (tgt := 1622) hx hb dL_law_1607 (by decide) (fun c1607 => ?_) (fun c1607 => absurd c1607 (by decide))
    refine lv_goto (tgt := 2028) hx hb dL_law_1622 (by decide) ?_
    exact law_end C0 (Nat.le_of_ble_eq_true rfl) (Nat.le_of_ble_eq_true rfl) hS (lv_sub hl [7, 2] rfl)
  · have hP : va_P g.1 vwCl (wl 125 L (mw g L y0 0 (cw g L v1565 ro))) H := by rw [← cw_mw]; exact hP
    refine lv_istore (lv' := [(6, .int 2), (0, .ref b), (1, .ref (L 0)), (2, .ref (L 106)), (3, .ref (L 123)), (4, .ref (L 124)), (5, .int 0)]) hx hb dL_law_1568 hl (by decide) rfl (fun ls hl => ?_)
    refine lv_aload_n hx hb dL_law_1570 rfl (lv_at hl 3 rfl) ?_
    refine lv_aload_n hx hb dL_law_1571 rfl (lv_at hl 1 rfl) ?_
    refine lv_iload hx hb dL_law_1572 (lv_at hl 6 rfl) ?_
    refine lv_iconst (v := 1) hx hb dL_law_1574 (by decide) ?_
    refine lv_iadd hx hb dL_law_1575 ?_
    refine va_sld hx hb hX hbl hbA hS (i := 0 + 1) (by unfold vp_in; decide) dL_law_1576 ?_
    refine lv_aload_n hx hb dL_law_1577 rfl (lv_at hl 1 rfl) ?_
    refine lv_iload hx hb dL_law_1578 (lv_at hl 6 rfl) ?_
    refine lv_iconst (v := 2) hx hb dL_law_1580 (by decide) ?_
    refine lv_iadd hx hb dL_law_1581 ?_
    refine va_sld hx hb hX hbl hbA hS (i := 0 + 2) (by unfold vp_in; decide) dL_law_1582 ?_
    refine lv_aload_n hx hb dL_law_1583 rfl (lv_at hl 1 rfl) ?_
    refine lv_iload hx hb dL_law_1584 (lv_at hl 6 rfl) ?_
    refine lv_iconst (v := 3) hx hb dL_law_1586 (by decide) ?_
    refine lv_iadd hx hb dL_law_1587 ?_
    refine va_sld hx hb hX hbl hbA hS (i := 0 + 3) (by unfold vp_in; decide) dL_law_1588 ?_
    refine wx_calli (va_runV (As := [.int (xs (0 + 1 : Int32).toNatClampNeg), .int (xs (0 + 2 : Int32).toNatClampNeg), .int (xs (0 + 3 : Int32).toNatClampNeg)]) (rest := []) ⟨hx, hb, hml, hown, hts⟩ (km_suspectAt l hst g s.heap.size 125 L (by omega) y0 0 (cw g L v1565 ro) hy1 hy2 hy3 hy4 (xs (0 + 1 : Int32).toNatClampNeg) (xs (0 + 2 : Int32).toNatClampNeg) (xs (0 + 3 : Int32).toNatClampNeg)) (cwV 3 hts gL_law_X4_suspectAt rfl rfl rfl (by decide +kernel) ⟨Nat.le_of_ble_eq_true rfl, Nat.le_of_ble_eq_true rfl⟩) (PW.preV3 (Nat.le_refl _) hJ hK hE hP hS (ci := 6) rfl (by omega) mw_o) rfl rfl hl.1 rfl (lv_room (Nat.le_of_ble_eq_true rfl)) dL_law_1589 ⟨Nat.le_of_ble_eq_true rfl, Nat.le_of_ble_eq_true rfl⟩) hS (fun r1589 u1589 H locs h1589 hP hS => ?_)
    have ht9 : u1589 0 0 0 = 2 := h1589.elim (fun z => absurd z.1 hb9) (fun z => z.2)
    refine lv_istore (lv' := [(7, .int r1589), (6, .int 2), (0, .ref b), (1, .ref (L 0)), (2, .ref (L 106)), (3, .ref (L 123)), (4, .ref (L 124)), (5, .int 0)]) hx hb dL_law_1592 hl (by decide) rfl (fun ls hl => ?_)
    refine lv_aload_n hx hb dL_law_1594 rfl (lv_at hl 4 rfl) ?_
    refine wx_calli (va_runV (As := []) (rest := []) ⟨hx, hb, hml, hown, hts⟩ (km_thrown l hst g s.heap.size 125 L (by omega) u1589 0 (cw g L v1565 ro)) (cwV 0 hts gL_law_X4_thrown rfl rfl rfl (by decide +kernel) ⟨Nat.le_of_ble_eq_true rfl, Nat.le_of_ble_eq_true rfl⟩) (PW.preV3 (Nat.le_refl _) hJ hK hE hP hS (ci := 6) rfl (by omega) mw_o) rfl rfl hl.1 rfl (lv_room (Nat.le_of_ble_eq_true rfl)) dL_law_1595 ⟨Nat.le_of_ble_eq_true rfl, Nat.le_of_ble_eq_true rfl⟩) hS (fun r1595 u1595 H locs h1595 hP hS => ?_)
    obtain ⟨rfl, e9⟩ := h1595
    have e9 := e9.symm
    subst e9
    refine lv_iload hx hb dL_law_1598 (lv_at hl 1 rfl) ?_
    refine lv_icmp_eq (tgt := 1605) hx hb dL_law_1600 (by decide) (fun c1600 => ?_) (fun c1600 => absurd (ht9) c1600)
    refine lv_iload hx hb dL_law_1605 (lv_at hl 1 rfl) ?_
    refine lv_if_ne (tgt := 1622) hx hb dL_law_1607 (by decide) (fun c1607 => ?_) (fun c1607 => absurd c1607 (by decide))
    refine lv_goto (tgt := 2028) hx hb dL_law_1622 (by decide) ?_
    exact law_end C0 (Nat.le_of_ble_eq_true rfl) (Nat.le_of_ble_eq_true rfl) hS (lv_sub hl [7, 2] rfl)

set_option maxHeartbeats 8000000 in
set_option maxRecDepth 100000 in
theorem law_c21 {p : Program} {e : Env} {s : State} {m : MethodId} {below : List Frame} {meth : Method} {c : Code} (l : Launch) (hst : l.stackTraces = false) {b : Nat} {xs : Nat → Int32} (C0 : lw_At p s m meth c b 5 xs) (g : gE) (L : Nat → Nat) (ro : Nat → va_E) (f : Nat → Int64) (ho : ro 123 = .inl (g.2 4, 1, .inr (.inl f))) (hJ : wj 125 L (fun q : Nat => s.heap.size ≤ q)) (hK : va_K g.1 vwCl (tysC g) s) (hE : EE SS (fun q : Nat => s.heap.size ≤ q) s) {H : Heap} {locs : List Loc} (hP : va_P g.1 vwCl (wl 125 L (cw g L x0 (mw g L y0 0 ro))) H) (hS : va_S (fun q : Nat => s.heap.size ≤ q) s.heap H locs) {ls : Array Slot} (hl : lv_has ls 9 [(0, .ref b), (1, .ref (L 0)), (2, .ref (L 106)), (3, .ref (L 123)), (4, .ref (L 124)), (5, .int 0)]) : W p l e room_1 s m #[Value.ref b] below meth c H locs 200 100000 (lw_Z below #[Value.ref b] s) (F0 m 1625 ls []) := by
  obtain ⟨hx, hb, hr, hml, hown, hts0, hX, hbl, hlocks, hgv⟩ := id C0
  have hown : s.vm.findClass RL = some m.cls := hown
  have hts : ∀ w ∈ wsL_law, w.before #[Value.ref b] s = true := fun w h => hts0 w (wsL_law_in w h)
  have hbA : ¬ (fun q : Nat => s.heap.size ≤ q) b := Nat.not_le.mpr hbl
  have hx0 : x0 0 0 0 = nI 0 := rfl
  have hx1 : x0 1 0 0 = nI 0 := rfl
  have hx2 : x0 2 0 0 = 2 := rfl
  have hx3 : x0 3 0 0 = nI 0 := rfl
  have hy1 : y0 1 0 0 = nI 0 := rfl
  have hy2 : y0 2 0 0 = 2 := rfl
  have hy3 : y0 3 0 0 = nI 0 := rfl
  have hy4 : y0 4 0 0 = nI 0 := rfl
  have hn : 125 ≤ 125 := Nat.le_refl _
  refine lv_aload_n hx hb dL_law_1625 rfl (lv_at hl 1 rfl) ?_
  refine lv_aload_n hx hb dL_law_1626 rfl (lv_at hl 0 rfl) ?_
  refine lv_iload hx hb dL_law_1627 (lv_at hl 5 rfl) ?_
  refine lv_iconst (v := 1) hx hb dL_law_1629 (by decide) ?_
  refine lv_iadd hx hb dL_law_1630 ?_
  refine va_sld hx hb hX hbl hbA hS (i := 0 + 1) (by unfold vp_in; decide) dL_law_1631 ?_
  refine lv_aload_n hx hb dL_law_1632 rfl (lv_at hl 3 rfl) ?_
  refine wx_calli (vx_runSW (As := [.ref (L 0), .int (xs (0 + 1 : Int32).toNatClampNeg), .ref (L 123)]) (rest := []) ⟨hx, hb, hml, hown, hts⟩ (kl_go l hst g s.heap.size 125 L (by omega) x0 (mw g L y0 0 ro) hx0 hx1 hx2 hx3 f (mw_ge (by decide) |>.trans ho) (xs (0 + 1 : Int32).toNatClampNeg)) (vx_cwSW 3 hts gL_law_L_go rfl rfl rfl (by decide +kernel) ⟨Nat.le_of_ble_eq_true rfl, Nat.le_of_ble_eq_true rfl⟩) (PW.preS3 (Nat.le_refl _) hJ hK hE hP hS) rfl rfl hl.1 rfl (lv_room (Nat.le_of_ble_eq_true rfl)) dL_law_1633 ⟨Nat.le_of_ble_eq_true rfl, Nat.le_of_ble_eq_true rfl⟩) hS (fun r1633 u1633 H locs h1633 hP hS => ?_)
  obtain ⟨v1633, t1633⟩ := u1633
  dsimp only at h1633 hP
  rcases h1633 with ⟨hb9, rfl, rfl⟩ | ⟨hb9, rfl, rfl⟩
  · have hP : va_P g.1 vwCl (wl 125 L (mw g L y0 0 (cw g L v1633 ro))) H := by rw [← cw_mw]; exact hP
    refine lv_istore (lv' := [(6, .int 1), (0, .ref b), (1, .ref (L 0)), (2, .ref (L 106)), (3, .ref (L 123)), (4, .ref (L 124)), (5, .int 0)]) hx hb dL_law_1636 hl (by decide) rfl (fun ls hl => ?_)
    refine lv_aload_n hx hb dL_law_1638 rfl (lv_at hl 3 rfl) ?_
    refine lv_aload_n hx hb dL_law_1639 rfl (lv_at hl 1 rfl) ?_
    refine lv_iload hx hb dL_law_1640 (lv_at hl 6 rfl) ?_
    refine lv_iconst (v := 1) hx hb dL_law_1642 (by decide) ?_
    refine lv_iadd hx hb dL_law_1643 ?_
    refine va_sld hx hb hX hbl hbA hS (i := 0 + 1) (by unfold vp_in; decide) dL_law_1644 ?_
    refine wx_calli (va_runV (As := [.int (xs (0 + 1 : Int32).toNatClampNeg)]) (rest := []) ⟨hx, hb, hml, hown, hts⟩ (km_go l hst g s.heap.size 125 L (by omega) y0 0 (cw g L v1633 ro) hy1 hy2 hy3 hy4 (xs (0 + 1 : Int32).toNatClampNeg)) (cwV 1 hts gL_law_X4_go rfl rfl rfl (by decide +kernel) ⟨Nat.le_of_ble_eq_true rfl, Nat.le_of_ble_eq_true rfl⟩) (PW.preV3 (Nat.le_refl _) hJ hK hE hP hS (ci := 6) rfl (by omega) mw_o) rfl rfl hl.1 rfl (lv_room (Nat.le_of_ble_eq_true rfl)) dL_law_1645 ⟨Nat.le_of_ble_eq_true rfl, Nat.le_of_ble_eq_true rfl⟩) hS (fun r1645 u1645 H locs h1645 hP hS => ?_)
    have ht9 : u1645 0 0 0 = 1 := h1645.elim (fun z => z.2) (fun z => absurd hb9 z.1)
    refine lv_istore (lv' := [(7, .int r1645), (6, .int 1), (0, .ref b), (1, .ref (L 0)), (2, .ref (L 106)), (3, .ref (L 123)), (4, .ref (L 124)), (5, .int 0)]) hx hb dL_law_1648 hl (by decide) rfl (fun ls hl => ?_)
    refine lv_aload_n hx hb dL_law_1650 rfl (lv_at hl 4 rfl) ?_
    refine wx_calli (va_runV (As := []) (rest := []) ⟨hx, hb, hml, hown, hts⟩ (km_thrown l hst g s.heap.size 125 L (by omega) u1645 0 (cw g L v1633 ro)) (cwV 0 hts gL_law_X4_thrown rfl rfl rfl (by decide +kernel) ⟨Nat.le_of_ble_eq_true rfl, Nat.le_of_ble_eq_true rfl⟩) (PW.preV3 (Nat.le_refl _) hJ hK hE hP hS (ci := 6) rfl (by omega) mw_o) rfl rfl hl.1 rfl (lv_room (Nat.le_of_ble_eq_true rfl)) dL_law_1651 ⟨Nat.le_of_ble_eq_true rfl, Nat.le_of_ble_eq_true rfl⟩) hS (fun r1651 u1651 H locs h1651 hP hS => ?_)
    obtain ⟨rfl, e9⟩ := h1651
    have e9 := e9.symm
    subst e9
    refine lv_iload hx hb dL_law_1654 (lv_at hl 1 rfl) ?_
    refine lv_icmp_eq (tgt := 1661) hx hb dL_law_1656 (by decide) (fun c1656 => ?_) (fun c1656 => absurd (ht9) c1656)
    refine lv_iload hx hb dL_law_1661 (lv_at hl 1 rfl) ?_
    refine lv_if_ne (tgt := 1678) hx hb dL_law_1663 (by decide) (fun c1663 => ?_) (fun c1663 => absurd c1663 (by decide))
    refine lv_goto (tgt := 2028) hx hb dL_law_1678 (by decide) ?_
    exact law_end C0 (Nat.le_of_ble_eq_true rfl) (Nat.le_of_ble_eq_true rfl) hS (lv_sub hl [7, 2] rfl)
  · have hP : va_P g.1 vwCl (wl 125 L (mw g L y0 0 (cw g L v1633 (va_up ro 123 (oL g f (((xs (0 + 1 : Int32).toNatClampNeg) : Int32).toInt64)))))) H := by rw [← cw_mw, ← mw_rest (by decide)]; exact hP
    refine lv_istore (lv' := [(6, .int 0), (0, .ref b), (1, .ref (L 0)), (2, .ref (L 106)), (3, .ref (L 123)), (4, .ref (L 124)), (5, .int 0)]) hx hb dL_law_1636 hl (by decide) rfl (fun ls hl => ?_)
    refine lv_aload_n hx hb dL_law_1638 rfl (lv_at hl 3 rfl) ?_
    refine lv_aload_n hx hb dL_law_1639 rfl (lv_at hl 1 rfl) ?_
    refine lv_iload hx hb dL_law_1640 (lv_at hl 6 rfl) ?_
    refine lv_iconst (v := 1) hx hb dL_law_1642 (by decide) ?_
    refine lv_iadd hx hb dL_law_1643 ?_
    refine va_sld hx hb hX hbl hbA hS (i := 0 + 1) (by unfold vp_in; decide) dL_law_1644 ?_
    refine wx_calli (va_runV (As := [.int (xs (0 + 1 : Int32).toNatClampNeg)]) (rest := []) ⟨hx, hb, hml, hown, hts⟩ (km_go l hst g s.heap.size 125 L (by omega) y0 0 (cw g L v1633 (va_up ro 123 (oL g f (((xs (0 + 1 : Int32).toNatClampNeg) : Int32).toInt64)))) hy1 hy2 hy3 hy4 (xs (0 + 1 : Int32).toNatClampNeg)) (cwV 1 hts gL_law_X4_go rfl rfl rfl (by decide +kernel) ⟨Nat.le_of_ble_eq_true rfl, Nat.le_of_ble_eq_true rfl⟩) (PW.preV3 (Nat.le_refl _) hJ hK hE hP hS (ci := 6) rfl (by omega) mw_o) rfl rfl hl.1 rfl (lv_room (Nat.le_of_ble_eq_true rfl)) dL_law_1645 ⟨Nat.le_of_ble_eq_true rfl, Nat.le_of_ble_eq_true rfl⟩) hS (fun r1645 u1645 H locs h1645 hP hS => ?_)
    obtain ⟨ht9, er9⟩ : u1645 0 0 0 = 0 ∧ r1645 = (xs (0 + 1 : Int32).toNatClampNeg) := h1645.elim (fun z => absurd z.1 hb9) (fun z => z.2)
    refine lv_istore (lv' := [(7, .int r1645), (6, .int 0), (0, .ref b), (1, .ref (L 0)), (2, .ref (L 106)), (3, .ref (L 123)), (4, .ref (L 124)), (5, .int 0)]) hx hb dL_law_1648 hl (by decide) rfl (fun ls hl => ?_)
    refine lv_aload_n hx hb dL_law_1650 rfl (lv_at hl 4 rfl) ?_
    refine wx_calli (va_runV (As := []) (rest := []) ⟨hx, hb, hml, hown, hts⟩ (km_thrown l hst g s.heap.size 125 L (by omega) u1645 0 (cw g L v1633 (va_up ro 123 (oL g f (((xs (0 + 1 : Int32).toNatClampNeg) : Int32).toInt64))))) (cwV 0 hts gL_law_X4_thrown rfl rfl rfl (by decide +kernel) ⟨Nat.le_of_ble_eq_true rfl, Nat.le_of_ble_eq_true rfl⟩) (PW.preV3 (Nat.le_refl _) hJ hK hE hP hS (ci := 6) rfl (by omega) mw_o) rfl rfl hl.1 rfl (lv_room (Nat.le_of_ble_eq_true rfl)) dL_law_1651 ⟨Nat.le_of_ble_eq_true rfl, Nat.le_of_ble_eq_true rfl⟩) hS (fun r1651 u1651 H locs h1651 hP hS => ?_)
    obtain ⟨rfl, e9⟩ := h1651
    have e9 := e9.symm
    subst e9
    refine lv_iload hx hb dL_law_1654 (lv_at hl 1 rfl) ?_
    refine lv_icmp_eq (tgt := 1661) hx hb dL_law_1656 (by decide) (fun c1656 => ?_) (fun c1656 => absurd (ht9) c1656)
    refine lv_iload hx hb dL_law_1661 (lv_at hl 1 rfl) ?_
    refine lv_if_ne (tgt := 1678) hx hb dL_law_1663 (by decide) (fun c1663 => absurd c1663 (by decide)) (fun c1663 => ?_)
    refine lv_aload_n hx hb dL_law_1666 rfl (lv_at hl 5 rfl) ?_
    refine lv_iconst (v := 0) hx hb dL_law_1667 (by decide) ?_
    refine wx_lald (D := g.1) (cl := vwCl) (f := vp_updL f (0 : Int32).toNatClampNeg (((xs (0 + 1 : Int32).toNatClampNeg) : Int32).toInt64)) hx hb hK hP (123) 4 (by omega) ((mw_ge (by decide)).trans ((cw_ge (by decide)).trans (va_up_self _ _ _))) rfl (i := 0) (vp_in_nI (n := 0) (by decide) (by decide)) dL_law_1668 ?_
    refine lv_iload hx hb dL_law_1669 (lv_at hl 0 rfl) ?_
    refine lv_i2l hx hb dL_law_1671 rfl ?_
    refine W.lcmp hx hb dL_law_1672 ?_
    refine lv_if_eq (tgt := 1678) hx hb dL_law_1673 (by decide) (fun c1673 => ?_) (fun c1673 => absurd (by rw [er9, pk_uLs, lgc]) c1673)
    refine lv_goto (tgt := 2028) hx hb dL_law_1678 (by decide) ?_
    exact law_end C0 (Nat.le_of_ble_eq_true rfl) (Nat.le_of_ble_eq_true rfl) hS (lv_sub hl [7, 2] rfl)

set_option maxHeartbeats 8000000 in
set_option maxRecDepth 100000 in
theorem law_c22 {p : Program} {e : Env} {s : State} {m : MethodId} {below : List Frame} {meth : Method} {c : Code} (l : Launch) (hst : l.stackTraces = false) {b : Nat} {xs : Nat → Int32} (C0 : lw_At p s m meth c b 5 xs) (g : gE) (L : Nat → Nat) (ro : Nat → va_E) (f : Nat → Int64) (ho : ro 123 = .inl (g.2 4, 1, .inr (.inl f))) (hJ : wj 125 L (fun q : Nat => s.heap.size ≤ q)) (hK : va_K g.1 vwCl (tysC g) s) (hE : EE SS (fun q : Nat => s.heap.size ≤ q) s) {H : Heap} {locs : List Loc} (hP : va_P g.1 vwCl (wl 125 L (cw g L x0 (mw g L y0 0 ro))) H) (hS : va_S (fun q : Nat => s.heap.size ≤ q) s.heap H locs) {ls : Array Slot} (hl : lv_has ls 9 [(0, .ref b), (1, .ref (L 0)), (2, .ref (L 106)), (3, .ref (L 123)), (4, .ref (L 124)), (5, .int 0)]) : W p l e room_1 s m #[Value.ref b] below meth c H locs 200 100000 (lw_Z below #[Value.ref b] s) (F0 m 1681 ls []) := by
  obtain ⟨hx, hb, hr, hml, hown, hts0, hX, hbl, hlocks, hgv⟩ := id C0
  have hown : s.vm.findClass RL = some m.cls := hown
  have hts : ∀ w ∈ wsL_law, w.before #[Value.ref b] s = true := fun w h => hts0 w (wsL_law_in w h)
  have hbA : ¬ (fun q : Nat => s.heap.size ≤ q) b := Nat.not_le.mpr hbl
  have hx0 : x0 0 0 0 = nI 0 := rfl
  have hx1 : x0 1 0 0 = nI 0 := rfl
  have hx2 : x0 2 0 0 = 2 := rfl
  have hx3 : x0 3 0 0 = nI 0 := rfl
  have hy1 : y0 1 0 0 = nI 0 := rfl
  have hy2 : y0 2 0 0 = 2 := rfl
  have hy3 : y0 3 0 0 = nI 0 := rfl
  have hy4 : y0 4 0 0 = nI 0 := rfl
  have hn : 125 ≤ 125 := Nat.le_refl _
  refine lv_aload_n hx hb dL_law_1681 rfl (lv_at hl 1 rfl) ?_
  refine wx_calli (va_runV (As := []) (rest := []) ⟨hx, hb, hml, hown, hts⟩ (kp_hour l hst g s.heap.size 125 L (by omega) x0 (mw g L y0 0 ro) hx0 hx1 hx2 hx3 ) (cwV 0 hts gL_law_X3_hour rfl rfl rfl (by decide +kernel) ⟨Nat.le_of_ble_eq_true rfl, Nat.le_of_ble_eq_true rfl⟩) (PW.preV3 (Nat.le_refl _) hJ hK hE hP hS (ci := 5) rfl (by omega) cw_d) rfl rfl hl.1 rfl (lv_room (Nat.le_of_ble_eq_true rfl)) dL_law_1682 ⟨Nat.le_of_ble_eq_true rfl, Nat.le_of_ble_eq_true rfl⟩) hS (fun r1682 u1682 H locs h1682 hP hS => ?_)
  have hP : va_P g.1 vwCl (wl 125 L (mw g L y0 0 (cw g L u1682 ro))) H := by rw [← cw_mw]; exact hP
  refine lv_aload_n hx hb dL_law_1685 rfl (lv_at hl 2 rfl) ?_
  refine wx_calli (va_runV (As := []) (rest := [.int r1682]) ⟨hx, hb, hml, hown, hts⟩ (km_hour l hst g s.heap.size 125 L (by omega) y0 0 (cw g L u1682 ro) hy1 hy2 hy3 hy4 ) (cwV 0 hts gL_law_X4_hour rfl rfl rfl (by decide +kernel) ⟨Nat.le_of_ble_eq_true rfl, Nat.le_of_ble_eq_true rfl⟩) (PW.preV3 (Nat.le_refl _) hJ hK hE hP hS (ci := 6) rfl (by omega) mw_o) rfl rfl hl.1 rfl (lv_room (Nat.le_of_ble_eq_true rfl)) dL_law_1686 ⟨Nat.le_of_ble_eq_true rfl, Nat.le_of_ble_eq_true rfl⟩) hS (fun r1686 u1686 H locs h1686 hP hS => ?_)
  refine lv_icmp_eq (tgt := 2028) hx hb dL_law_1689 (by decide) (fun c1689 => ?_) (fun c1689 => absurd (by rw [h1682, h1686]) c1689)
  exact law_end C0 (Nat.le_of_ble_eq_true rfl) (Nat.le_of_ble_eq_true rfl) hS (lv_sub hl [5, 0] rfl)

set_option maxHeartbeats 8000000 in
set_option maxRecDepth 100000 in
theorem law_c23 {p : Program} {e : Env} {s : State} {m : MethodId} {below : List Frame} {meth : Method} {c : Code} (l : Launch) (hst : l.stackTraces = false) {b : Nat} {xs : Nat → Int32} (C0 : lw_At p s m meth c b 5 xs) (g : gE) (L : Nat → Nat) (ro : Nat → va_E) (f : Nat → Int64) (ho : ro 123 = .inl (g.2 4, 1, .inr (.inl f))) (hJ : wj 125 L (fun q : Nat => s.heap.size ≤ q)) (hK : va_K g.1 vwCl (tysC g) s) (hE : EE SS (fun q : Nat => s.heap.size ≤ q) s) {H : Heap} {locs : List Loc} (hP : va_P g.1 vwCl (wl 125 L (cw g L x0 (mw g L y0 0 ro))) H) (hS : va_S (fun q : Nat => s.heap.size ≤ q) s.heap H locs) {ls : Array Slot} (hl : lv_has ls 9 [(0, .ref b), (1, .ref (L 0)), (2, .ref (L 106)), (3, .ref (L 123)), (4, .ref (L 124)), (5, .int 0)]) : W p l e room_1 s m #[Value.ref b] below meth c H locs 200 100000 (lw_Z below #[Value.ref b] s) (F0 m 1694 ls []) := by
  obtain ⟨hx, hb, hr, hml, hown, hts0, hX, hbl, hlocks, hgv⟩ := id C0
  have hown : s.vm.findClass RL = some m.cls := hown
  have hts : ∀ w ∈ wsL_law, w.before #[Value.ref b] s = true := fun w h => hts0 w (wsL_law_in w h)
  have hbA : ¬ (fun q : Nat => s.heap.size ≤ q) b := Nat.not_le.mpr hbl
  have hx0 : x0 0 0 0 = nI 0 := rfl
  have hx1 : x0 1 0 0 = nI 0 := rfl
  have hx2 : x0 2 0 0 = 2 := rfl
  have hx3 : x0 3 0 0 = nI 0 := rfl
  have hy1 : y0 1 0 0 = nI 0 := rfl
  have hy2 : y0 2 0 0 = 2 := rfl
  have hy3 : y0 3 0 0 = nI 0 := rfl
  have hy4 : y0 4 0 0 = nI 0 := rfl
  have hn : 125 ≤ 125 := Nat.le_refl _
  refine lv_aload_n hx hb dL_law_1694 rfl (lv_at hl 1 rfl) ?_
  refine wx_calli (va_runV (As := []) (rest := []) ⟨hx, hb, hml, hown, hts⟩ (kp_boards l hst g s.heap.size 125 L (by omega) x0 (mw g L y0 0 ro) hx0 hx1 hx2 hx3 ) (cwV 0 hts gL_law_X3_boards rfl rfl rfl (by decide +kernel) ⟨Nat.le_of_ble_eq_true rfl, Nat.le_of_ble_eq_true rfl⟩) (PW.preV3 (Nat.le_refl _) hJ hK hE hP hS (ci := 5) rfl (by omega) cw_d) rfl rfl hl.1 rfl (lv_room (Nat.le_of_ble_eq_true rfl)) dL_law_1695 ⟨Nat.le_of_ble_eq_true rfl, Nat.le_of_ble_eq_true rfl⟩) hS (fun r1695 u1695 H locs h1695 hP hS => ?_)
  have hP : va_P g.1 vwCl (wl 125 L (mw g L y0 0 (cw g L u1695 ro))) H := by rw [← cw_mw]; exact hP
  refine lv_aload_n hx hb dL_law_1698 rfl (lv_at hl 2 rfl) ?_
  refine wx_calli (va_runV (As := []) (rest := [.int r1695]) ⟨hx, hb, hml, hown, hts⟩ (km_boards l hst g s.heap.size 125 L (by omega) y0 0 (cw g L u1695 ro) hy1 hy2 hy3 hy4 ) (cwV 0 hts gL_law_X4_boards rfl rfl rfl (by decide +kernel) ⟨Nat.le_of_ble_eq_true rfl, Nat.le_of_ble_eq_true rfl⟩) (PW.preV3 (Nat.le_refl _) hJ hK hE hP hS (ci := 6) rfl (by omega) mw_o) rfl rfl hl.1 rfl (lv_room (Nat.le_of_ble_eq_true rfl)) dL_law_1699 ⟨Nat.le_of_ble_eq_true rfl, Nat.le_of_ble_eq_true rfl⟩) hS (fun r1699 u1699 H locs h1699 hP hS => ?_)
  refine lv_icmp_eq (tgt := 2028) hx hb dL_law_1702 (by decide) (fun c1702 => ?_) (fun c1702 => absurd (by rw [h1695, h1699]) c1702)
  exact law_end C0 (Nat.le_of_ble_eq_true rfl) (Nat.le_of_ble_eq_true rfl) hS (lv_sub hl [5, 0] rfl)

set_option maxHeartbeats 8000000 in
set_option maxRecDepth 100000 in
theorem law_c24 {p : Program} {e : Env} {s : State} {m : MethodId} {below : List Frame} {meth : Method} {c : Code} (l : Launch) (hst : l.stackTraces = false) {b : Nat} {xs : Nat → Int32} (C0 : lw_At p s m meth c b 5 xs) (g : gE) (L : Nat → Nat) (ro : Nat → va_E) (f : Nat → Int64) (ho : ro 123 = .inl (g.2 4, 1, .inr (.inl f))) (hJ : wj 125 L (fun q : Nat => s.heap.size ≤ q)) (hK : va_K g.1 vwCl (tysC g) s) (hE : EE SS (fun q : Nat => s.heap.size ≤ q) s) {H : Heap} {locs : List Loc} (hP : va_P g.1 vwCl (wl 125 L (cw g L x0 (mw g L y0 0 ro))) H) (hS : va_S (fun q : Nat => s.heap.size ≤ q) s.heap H locs) {ls : Array Slot} (hl : lv_has ls 9 [(0, .ref b), (1, .ref (L 0)), (2, .ref (L 106)), (3, .ref (L 123)), (4, .ref (L 124)), (5, .int 0)]) : W p l e room_1 s m #[Value.ref b] below meth c H locs 200 100000 (lw_Z below #[Value.ref b] s) (F0 m 1707 ls []) := by
  obtain ⟨hx, hb, hr, hml, hown, hts0, hX, hbl, hlocks, hgv⟩ := id C0
  have hown : s.vm.findClass RL = some m.cls := hown
  have hts : ∀ w ∈ wsL_law, w.before #[Value.ref b] s = true := fun w h => hts0 w (wsL_law_in w h)
  have hbA : ¬ (fun q : Nat => s.heap.size ≤ q) b := Nat.not_le.mpr hbl
  have hx0 : x0 0 0 0 = nI 0 := rfl
  have hx1 : x0 1 0 0 = nI 0 := rfl
  have hx2 : x0 2 0 0 = 2 := rfl
  have hx3 : x0 3 0 0 = nI 0 := rfl
  have hy1 : y0 1 0 0 = nI 0 := rfl
  have hy2 : y0 2 0 0 = 2 := rfl
  have hy3 : y0 3 0 0 = nI 0 := rfl
  have hy4 : y0 4 0 0 = nI 0 := rfl
  have hn : 125 ≤ 125 := Nat.le_refl _
  refine lv_aload_n hx hb dL_law_1707 rfl (lv_at hl 1 rfl) ?_
  refine wx_calli (va_runV (As := []) (rest := []) ⟨hx, hb, hml, hown, hts⟩ (kp_notices l hst g s.heap.size 125 L (by omega) x0 (mw g L y0 0 ro) hx0 hx1 hx2 hx3 ) (cwV 0 hts gL_law_X3_notices rfl rfl rfl (by decide +kernel) ⟨Nat.le_of_ble_eq_true rfl, Nat.le_of_ble_eq_true rfl⟩) (PW.preV3 (Nat.le_refl _) hJ hK hE hP hS (ci := 5) rfl (by omega) cw_d) rfl rfl hl.1 rfl (lv_room (Nat.le_of_ble_eq_true rfl)) dL_law_1708 ⟨Nat.le_of_ble_eq_true rfl, Nat.le_of_ble_eq_true rfl⟩) hS (fun r1708 u1708 H locs h1708 hP hS => ?_)
  have hP : va_P g.1 vwCl (wl 125 L (mw g L y0 0 (cw g L u1708 ro))) H := by rw [← cw_mw]; exact hP
  refine lv_aload_n hx hb dL_law_1711 rfl (lv_at hl 2 rfl) ?_
  refine wx_calli (va_runV (As := []) (rest := [.int r1708]) ⟨hx, hb, hml, hown, hts⟩ (km_notices l hst g s.heap.size 125 L (by omega) y0 0 (cw g L u1708 ro) hy1 hy2 hy3 hy4 ) (cwV 0 hts gL_law_X4_notices rfl rfl rfl (by decide +kernel) ⟨Nat.le_of_ble_eq_true rfl, Nat.le_of_ble_eq_true rfl⟩) (PW.preV3 (Nat.le_refl _) hJ hK hE hP hS (ci := 6) rfl (by omega) mw_o) rfl rfl hl.1 rfl (lv_room (Nat.le_of_ble_eq_true rfl)) dL_law_1712 ⟨Nat.le_of_ble_eq_true rfl, Nat.le_of_ble_eq_true rfl⟩) hS (fun r1712 u1712 H locs h1712 hP hS => ?_)
  refine lv_icmp_eq (tgt := 2028) hx hb dL_law_1715 (by decide) (fun c1715 => ?_) (fun c1715 => absurd (by rw [h1708, h1712]) c1715)
  exact law_end C0 (Nat.le_of_ble_eq_true rfl) (Nat.le_of_ble_eq_true rfl) hS (lv_sub hl [5, 0] rfl)

set_option maxHeartbeats 8000000 in
set_option maxRecDepth 100000 in
theorem law_c25 {p : Program} {e : Env} {s : State} {m : MethodId} {below : List Frame} {meth : Method} {c : Code} (l : Launch) (hst : l.stackTraces = false) {b : Nat} {xs : Nat → Int32} (C0 : lw_At p s m meth c b 5 xs) (g : gE) (L : Nat → Nat) (ro : Nat → va_E) (f : Nat → Int64) (ho : ro 123 = .inl (g.2 4, 1, .inr (.inl f))) (hJ : wj 125 L (fun q : Nat => s.heap.size ≤ q)) (hK : va_K g.1 vwCl (tysC g) s) (hE : EE SS (fun q : Nat => s.heap.size ≤ q) s) {H : Heap} {locs : List Loc} (hP : va_P g.1 vwCl (wl 125 L (cw g L x0 (mw g L y0 0 ro))) H) (hS : va_S (fun q : Nat => s.heap.size ≤ q) s.heap H locs) {ls : Array Slot} (hl : lv_has ls 9 [(0, .ref b), (1, .ref (L 0)), (2, .ref (L 106)), (3, .ref (L 123)), (4, .ref (L 124)), (5, .int 0)]) : W p l e room_1 s m #[Value.ref b] below meth c H locs 200 100000 (lw_Z below #[Value.ref b] s) (F0 m 1720 ls []) := by
  obtain ⟨hx, hb, hr, hml, hown, hts0, hX, hbl, hlocks, hgv⟩ := id C0
  have hown : s.vm.findClass RL = some m.cls := hown
  have hts : ∀ w ∈ wsL_law, w.before #[Value.ref b] s = true := fun w h => hts0 w (wsL_law_in w h)
  have hbA : ¬ (fun q : Nat => s.heap.size ≤ q) b := Nat.not_le.mpr hbl
  have hx0 : x0 0 0 0 = nI 0 := rfl
  have hx1 : x0 1 0 0 = nI 0 := rfl
  have hx2 : x0 2 0 0 = 2 := rfl
  have hx3 : x0 3 0 0 = nI 0 := rfl
  have hy1 : y0 1 0 0 = nI 0 := rfl
  have hy2 : y0 2 0 0 = 2 := rfl
  have hy3 : y0 3 0 0 = nI 0 := rfl
  have hy4 : y0 4 0 0 = nI 0 := rfl
  have hn : 125 ≤ 125 := Nat.le_refl _
  refine lv_aload_n hx hb dL_law_1720 rfl (lv_at hl 1 rfl) ?_
  refine lv_aload_n hx hb dL_law_1721 rfl (lv_at hl 0 rfl) ?_
  refine lv_iload hx hb dL_law_1722 (lv_at hl 5 rfl) ?_
  refine lv_iconst (v := 1) hx hb dL_law_1724 (by decide) ?_
  refine lv_iadd hx hb dL_law_1725 ?_
  refine va_sld hx hb hX hbl hbA hS (i := 0 + 1) (by unfold vp_in; decide) dL_law_1726 ?_
  refine lv_aload_n hx hb dL_law_1727 rfl (lv_at hl 0 rfl) ?_
  refine lv_iload hx hb dL_law_1728 (lv_at hl 5 rfl) ?_
  refine lv_iconst (v := 2) hx hb dL_law_1730 (by decide) ?_
  refine lv_iadd hx hb dL_law_1731 ?_
  refine va_sld hx hb hX hbl hbA hS (i := 0 + 2) (by unfold vp_in; decide) dL_law_1732 ?_
  refine lv_aload_n hx hb dL_law_1733 rfl (lv_at hl 0 rfl) ?_
  refine lv_iload hx hb dL_law_1734 (lv_at hl 5 rfl) ?_
  refine lv_iconst (v := 3) hx hb dL_law_1736 (by decide) ?_
  refine lv_iadd hx hb dL_law_1737 ?_
  refine va_sld hx hb hX hbl hbA hS (i := 0 + 3) (by unfold vp_in; decide) dL_law_1738 ?_
  refine lv_aload_n hx hb dL_law_1739 rfl (lv_at hl 3 rfl) ?_
  refine wx_calli (vx_runSW (As := [.ref (L 0), .int (xs (0 + 1 : Int32).toNatClampNeg), .int (xs (0 + 2 : Int32).toNatClampNeg), .int (xs (0 + 3 : Int32).toNatClampNeg), .ref (L 123)]) (rest := []) ⟨hx, hb, hml, hown, hts⟩ (kl_cellAnew l hst g s.heap.size 125 L (by omega) x0 (mw g L y0 0 ro) hx0 hx1 hx2 hx3 f (mw_ge (by decide) |>.trans ho) (xs (0 + 1 : Int32).toNatClampNeg) (xs (0 + 2 : Int32).toNatClampNeg) (xs (0 + 3 : Int32).toNatClampNeg)) (vx_cwSW 5 hts gL_law_L_cellAnew rfl rfl rfl (by decide +kernel) ⟨Nat.le_of_ble_eq_true rfl, Nat.le_of_ble_eq_true rfl⟩) (PW.preS3 (Nat.le_refl _) hJ hK hE hP hS) rfl rfl hl.1 rfl (lv_room (Nat.le_of_ble_eq_true rfl)) dL_law_1740 ⟨Nat.le_of_ble_eq_true rfl, Nat.le_of_ble_eq_true rfl⟩) hS (fun r1740 u1740 H locs h1740 hP hS => ?_)
  obtain ⟨v1740, t1740⟩ := u1740
  dsimp only at h1740 hP
  obtain ⟨rfl, rfl⟩ := h1740
  have hP : va_P g.1 vwCl (wl 125 L (mw g L y0 0 (cw g L v1740 ro))) H := by rw [← cw_mw]; exact hP
  refine lv_istore (lv' := [(6, .int 1), (0, .ref b), (1, .ref (L 0)), (2, .ref (L 106)), (3, .ref (L 123)), (4, .ref (L 124)), (5, .int 0)]) hx hb dL_law_1743 hl (by decide) rfl (fun ls hl => ?_)
  refine lv_aload_n hx hb dL_law_1745 rfl (lv_at hl 3 rfl) ?_
  refine lv_aload_n hx hb dL_law_1746 rfl (lv_at hl 1 rfl) ?_
  refine lv_iload hx hb dL_law_1747 (lv_at hl 6 rfl) ?_
  refine lv_iconst (v := 1) hx hb dL_law_1749 (by decide) ?_
  refine lv_iadd hx hb dL_law_1750 ?_
  refine va_sld hx hb hX hbl hbA hS (i := 0 + 1) (by unfold vp_in; decide) dL_law_1751 ?_
  refine lv_aload_n hx hb dL_law_1752 rfl (lv_at hl 1 rfl) ?_
  refine lv_iload hx hb dL_law_1753 (lv_at hl 6 rfl) ?_
  refine lv_iconst (v := 2) hx hb dL_law_1755 (by decide) ?_
  refine lv_iadd hx hb dL_law_1756 ?_
  refine va_sld hx hb hX hbl hbA hS (i := 0 + 2) (by unfold vp_in; decide) dL_law_1757 ?_
  refine lv_aload_n hx hb dL_law_1758 rfl (lv_at hl 1 rfl) ?_
  refine lv_iload hx hb dL_law_1759 (lv_at hl 6 rfl) ?_
  refine lv_iconst (v := 3) hx hb dL_law_1761 (by decide) ?_
  refine lv_iadd hx hb dL_law_1762 ?_
  refine va_sld hx hb hX hbl hbA hS (i := 0 + 3) (by unfold vp_in; decide) dL_law_1763 ?_
  refine wx_calli (va_runV (As := [.int (xs (0 + 1 : Int32).toNatClampNeg), .int (xs (0 + 2 : Int32).toNatClampNeg), .int (xs (0 + 3 : Int32).toNatClampNeg)]) (rest := []) ⟨hx, hb, hml, hown, hts⟩ (km_cellAnew l hst g s.heap.size 125 L (by omega) y0 0 (cw g L v1740 ro) hy1 hy2 hy3 hy4 (xs (0 + 1 : Int32).toNatClampNeg) (xs (0 + 2 : Int32).toNatClampNeg) (xs (0 + 3 : Int32).toNatClampNeg)) (cwV 3 hts gL_law_X4_cellAnew rfl rfl rfl (by decide +kernel) ⟨Nat.le_of_ble_eq_true rfl, Nat.le_of_ble_eq_true rfl⟩) (PW.preV3 (Nat.le_refl _) hJ hK hE hP hS (ci := 6) rfl (by omega) mw_o) rfl rfl hl.1 rfl (lv_room (Nat.le_of_ble_eq_true rfl)) dL_law_1764 ⟨Nat.le_of_ble_eq_true rfl, Nat.le_of_ble_eq_true rfl⟩) hS (fun r1764 u1764 H locs h1764 hP hS => ?_)
  have ht9 : u1764 0 0 0 = 1 := h1764
  refine lv_istore (lv' := [(7, .int r1764), (6, .int 1), (0, .ref b), (1, .ref (L 0)), (2, .ref (L 106)), (3, .ref (L 123)), (4, .ref (L 124)), (5, .int 0)]) hx hb dL_law_1767 hl (by decide) rfl (fun ls hl => ?_)
  refine lv_aload_n hx hb dL_law_1769 rfl (lv_at hl 4 rfl) ?_
  refine wx_calli (va_runV (As := []) (rest := []) ⟨hx, hb, hml, hown, hts⟩ (km_thrown l hst g s.heap.size 125 L (by omega) u1764 0 (cw g L v1740 ro)) (cwV 0 hts gL_law_X4_thrown rfl rfl rfl (by decide +kernel) ⟨Nat.le_of_ble_eq_true rfl, Nat.le_of_ble_eq_true rfl⟩) (PW.preV3 (Nat.le_refl _) hJ hK hE hP hS (ci := 6) rfl (by omega) mw_o) rfl rfl hl.1 rfl (lv_room (Nat.le_of_ble_eq_true rfl)) dL_law_1770 ⟨Nat.le_of_ble_eq_true rfl, Nat.le_of_ble_eq_true rfl⟩) hS (fun r1770 u1770 H locs h1770 hP hS => ?_)
  obtain ⟨rfl, e9⟩ := h1770
  have e9 := e9.symm
  subst e9
  refine lv_iload hx hb dL_law_1773 (lv_at hl 1 rfl) ?_
  refine lv_icmp_eq (tgt := 1780) hx hb dL_law_1775 (by decide) (fun c1775 => ?_) (fun c1775 => absurd (ht9) c1775)
  refine lv_iload hx hb dL_law_1780 (lv_at hl 1 rfl) ?_
  refine lv_if_ne (tgt := 1797) hx hb dL_law_1782 (by decide) (fun c1782 => ?_) (fun c1782 => absurd c1782 (by decide))
  refine lv_goto (tgt := 2028) hx hb dL_law_1797 (by decide) ?_
  exact law_end C0 (Nat.le_of_ble_eq_true rfl) (Nat.le_of_ble_eq_true rfl) hS (lv_sub hl [7, 2] rfl)

set_option maxHeartbeats 8000000 in
set_option maxRecDepth 100000 in
theorem law_c26 {p : Program} {e : Env} {s : State} {m : MethodId} {below : List Frame} {meth : Method} {c : Code} (l : Launch) (hst : l.stackTraces = false) {b : Nat} {xs : Nat → Int32} (C0 : lw_At p s m meth c b 5 xs) (g : gE) (L : Nat → Nat) (ro : Nat → va_E) (f : Nat → Int64) (ho : ro 123 = .inl (g.2 4, 1, .inr (.inl f))) (hJ : wj 125 L (fun q : Nat => s.heap.size ≤ q)) (hK : va_K g.1 vwCl (tysC g) s) (hE : EE SS (fun q : Nat => s.heap.size ≤ q) s) {H : Heap} {locs : List Loc} (hP : va_P g.1 vwCl (wl 125 L (cw g L x0 (mw g L y0 0 ro))) H) (hS : va_S (fun q : Nat => s.heap.size ≤ q) s.heap H locs) {ls : Array Slot} (hl : lv_has ls 9 [(0, .ref b), (1, .ref (L 0)), (2, .ref (L 106)), (3, .ref (L 123)), (4, .ref (L 124)), (5, .int 0)]) : W p l e room_1 s m #[Value.ref b] below meth c H locs 200 100000 (lw_Z below #[Value.ref b] s) (F0 m 1800 ls []) := by
  obtain ⟨hx, hb, hr, hml, hown, hts0, hX, hbl, hlocks, hgv⟩ := id C0
  have hown : s.vm.findClass RL = some m.cls := hown
  have hts : ∀ w ∈ wsL_law, w.before #[Value.ref b] s = true := fun w h => hts0 w (wsL_law_in w h)
  have hbA : ¬ (fun q : Nat => s.heap.size ≤ q) b := Nat.not_le.mpr hbl
  have hx0 : x0 0 0 0 = nI 0 := rfl
  have hx1 : x0 1 0 0 = nI 0 := rfl
  have hx2 : x0 2 0 0 = 2 := rfl
  have hx3 : x0 3 0 0 = nI 0 := rfl
  have hy1 : y0 1 0 0 = nI 0 := rfl
  have hy2 : y0 2 0 0 = 2 := rfl
  have hy3 : y0 3 0 0 = nI 0 := rfl
  have hy4 : y0 4 0 0 = nI 0 := rfl
  have hn : 125 ≤ 125 := Nat.le_refl _
  refine lv_aload_n hx hb dL_law_1800 rfl (lv_at hl 1 rfl) ?_
  refine wx_calll (va_runV (As := []) (rest := []) ⟨hx, hb, hml, hown, hts⟩ (kp_changes l hst g s.heap.size 125 L (by omega) x0 (mw g L y0 0 ro) hx0 hx1 hx2 hx3 ) (cwV 0 hts gL_law_X3_changes rfl rfl rfl (by decide +kernel) ⟨Nat.le_of_ble_eq_true rfl, Nat.le_of_ble_eq_true rfl⟩) (PW.preV3 (Nat.le_refl _) hJ hK hE hP hS (ci := 5) rfl (by omega) cw_d) rfl rfl hl.1 rfl (lv_room (Nat.le_of_ble_eq_true rfl)) dL_law_1801 ⟨Nat.le_of_ble_eq_true rfl, Nat.le_of_ble_eq_true rfl⟩) hS (fun r1801 u1801 H locs h1801 hP hS => ?_)
  have hP : va_P g.1 vwCl (wl 125 L (mw g L y0 0 (cw g L u1801 ro))) H := by rw [← cw_mw]; exact hP
  refine lv_aload_n hx hb dL_law_1804 rfl (lv_at hl 2 rfl) ?_
  refine wx_calll (va_runV (As := []) (rest := [.long r1801]) ⟨hx, hb, hml, hown, hts⟩ (km_changes l hst g s.heap.size 125 L (by omega) y0 0 (cw g L u1801 ro) hy1 hy2 hy3 hy4 ) (cwV 0 hts gL_law_X4_changes rfl rfl rfl (by decide +kernel) ⟨Nat.le_of_ble_eq_true rfl, Nat.le_of_ble_eq_true rfl⟩) (PW.preV3 (Nat.le_refl _) hJ hK hE hP hS (ci := 6) rfl (by omega) mw_o) rfl rfl hl.1 rfl (lv_room (Nat.le_of_ble_eq_true rfl)) dL_law_1805 ⟨Nat.le_of_ble_eq_true rfl, Nat.le_of_ble_eq_true rfl⟩) hS (fun r1805 u1805 H locs h1805 hP hS => ?_)
  refine W.lcmp hx hb dL_law_1808 ?_
  refine lv_if_eq (tgt := 2028) hx hb dL_law_1809 (by decide) (fun c1809 => ?_) (fun c1809 => absurd (by rw [h1801, h1805, lgc]) c1809)
  exact law_end C0 (Nat.le_of_ble_eq_true rfl) (Nat.le_of_ble_eq_true rfl) hS (lv_sub hl [5, 0] rfl)

set_option maxHeartbeats 8000000 in
set_option maxRecDepth 100000 in
theorem law_c27 {p : Program} {e : Env} {s : State} {m : MethodId} {below : List Frame} {meth : Method} {c : Code} (l : Launch) (hst : l.stackTraces = false) {b : Nat} {xs : Nat → Int32} (C0 : lw_At p s m meth c b 5 xs) (g : gE) (L : Nat → Nat) (ro : Nat → va_E) (f : Nat → Int64) (ho : ro 123 = .inl (g.2 4, 1, .inr (.inl f))) (hJ : wj 125 L (fun q : Nat => s.heap.size ≤ q)) (hK : va_K g.1 vwCl (tysC g) s) (hE : EE SS (fun q : Nat => s.heap.size ≤ q) s) {H : Heap} {locs : List Loc} (hP : va_P g.1 vwCl (wl 125 L (cw g L x0 (mw g L y0 0 ro))) H) (hS : va_S (fun q : Nat => s.heap.size ≤ q) s.heap H locs) {ls : Array Slot} (hl : lv_has ls 9 [(0, .ref b), (1, .ref (L 0)), (2, .ref (L 106)), (3, .ref (L 123)), (4, .ref (L 124)), (5, .int 0)]) : W p l e room_1 s m #[Value.ref b] below meth c H locs 200 100000 (lw_Z below #[Value.ref b] s) (F0 m 1814 ls []) := by
  obtain ⟨hx, hb, hr, hml, hown, hts0, hX, hbl, hlocks, hgv⟩ := id C0
  have hown : s.vm.findClass RL = some m.cls := hown
  have hts : ∀ w ∈ wsL_law, w.before #[Value.ref b] s = true := fun w h => hts0 w (wsL_law_in w h)
  have hbA : ¬ (fun q : Nat => s.heap.size ≤ q) b := Nat.not_le.mpr hbl
  have hx0 : x0 0 0 0 = nI 0 := rfl
  have hx1 : x0 1 0 0 = nI 0 := rfl
  have hx2 : x0 2 0 0 = 2 := rfl
  have hx3 : x0 3 0 0 = nI 0 := rfl
  have hy1 : y0 1 0 0 = nI 0 := rfl
  have hy2 : y0 2 0 0 = 2 := rfl
  have hy3 : y0 3 0 0 = nI 0 := rfl
  have hy4 : y0 4 0 0 = nI 0 := rfl
  have hn : 125 ≤ 125 := Nat.le_refl _
  refine lv_aload_n hx hb dL_law_1814 rfl (lv_at hl 1 rfl) ?_
  refine lv_aload_n hx hb dL_law_1815 rfl (lv_at hl 0 rfl) ?_
  refine lv_iload hx hb dL_law_1816 (lv_at hl 5 rfl) ?_
  refine lv_iconst (v := 1) hx hb dL_law_1818 (by decide) ?_
  refine lv_iadd hx hb dL_law_1819 ?_
  refine va_sld hx hb hX hbl hbA hS (i := 0 + 1) (by unfold vp_in; decide) dL_law_1820 ?_
  refine lv_aload_n hx hb dL_law_1821 rfl (lv_at hl 3 rfl) ?_
  refine wx_calli (vx_runSW (As := [.ref (L 0), .int (xs (0 + 1 : Int32).toNatClampNeg), .ref (L 123)]) (rest := []) ⟨hx, hb, hml, hown, hts⟩ (kl_worst l hst g s.heap.size 125 L (by omega) x0 (mw g L y0 0 ro) hx0 hx1 hx2 hx3 f (mw_ge (by decide) |>.trans ho) (xs (0 + 1 : Int32).toNatClampNeg)) (vx_cwSW 3 hts gL_law_L_worst rfl rfl rfl (by decide +kernel) ⟨Nat.le_of_ble_eq_true rfl, Nat.le_of_ble_eq_true rfl⟩) (PW.preS3 (Nat.le_refl _) hJ hK hE hP hS) rfl rfl hl.1 rfl (lv_room (Nat.le_of_ble_eq_true rfl)) dL_law_1822 ⟨Nat.le_of_ble_eq_true rfl, Nat.le_of_ble_eq_true rfl⟩) hS (fun r1822 u1822 H locs h1822 hP hS => ?_)
  obtain ⟨v1822, t1822⟩ := u1822
  dsimp only at h1822 hP
  obtain ⟨rfl, rfl⟩ := h1822
  have hP : va_P g.1 vwCl (wl 125 L (mw g L y0 0 (cw g L v1822 ro))) H := by rw [← cw_mw]; exact hP
  refine lv_istore (lv' := [(6, .int 1), (0, .ref b), (1, .ref (L 0)), (2, .ref (L 106)), (3, .ref (L 123)), (4, .ref (L 124)), (5, .int 0)]) hx hb dL_law_1825 hl (by decide) rfl (fun ls hl => ?_)
  refine lv_aload_n hx hb dL_law_1827 rfl (lv_at hl 3 rfl) ?_
  refine lv_aload_n hx hb dL_law_1828 rfl (lv_at hl 1 rfl) ?_
  refine lv_iload hx hb dL_law_1829 (lv_at hl 6 rfl) ?_
  refine lv_iconst (v := 1) hx hb dL_law_1831 (by decide) ?_
  refine lv_iadd hx hb dL_law_1832 ?_
  refine va_sld hx hb hX hbl hbA hS (i := 0 + 1) (by unfold vp_in; decide) dL_law_1833 ?_
  refine wx_calli (va_runV (As := [.int (xs (0 + 1 : Int32).toNatClampNeg)]) (rest := []) ⟨hx, hb, hml, hown, hts⟩ (km_worst l hst g s.heap.size 125 L (by omega) y0 0 (cw g L v1822 ro) hy1 hy2 hy3 hy4 (xs (0 + 1 : Int32).toNatClampNeg)) (cwV 1 hts gL_law_X4_worst rfl rfl rfl (by decide +kernel) ⟨Nat.le_of_ble_eq_true rfl, Nat.le_of_ble_eq_true rfl⟩) (PW.preV3 (Nat.le_refl _) hJ hK hE hP hS (ci := 6) rfl (by omega) mw_o) rfl rfl hl.1 rfl (lv_room (Nat.le_of_ble_eq_true rfl)) dL_law_1834 ⟨Nat.le_of_ble_eq_true rfl, Nat.le_of_ble_eq_true rfl⟩) hS (fun r1834 u1834 H locs h1834 hP hS => ?_)
  have ht9 : u1834 0 0 0 = 1 := h1834
  refine lv_istore (lv' := [(7, .int r1834), (6, .int 1), (0, .ref b), (1, .ref (L 0)), (2, .ref (L 106)), (3, .ref (L 123)), (4, .ref (L 124)), (5, .int 0)]) hx hb dL_law_1837 hl (by decide) rfl (fun ls hl => ?_)
  refine lv_aload_n hx hb dL_law_1839 rfl (lv_at hl 4 rfl) ?_
  refine wx_calli (va_runV (As := []) (rest := []) ⟨hx, hb, hml, hown, hts⟩ (km_thrown l hst g s.heap.size 125 L (by omega) u1834 0 (cw g L v1822 ro)) (cwV 0 hts gL_law_X4_thrown rfl rfl rfl (by decide +kernel) ⟨Nat.le_of_ble_eq_true rfl, Nat.le_of_ble_eq_true rfl⟩) (PW.preV3 (Nat.le_refl _) hJ hK hE hP hS (ci := 6) rfl (by omega) mw_o) rfl rfl hl.1 rfl (lv_room (Nat.le_of_ble_eq_true rfl)) dL_law_1840 ⟨Nat.le_of_ble_eq_true rfl, Nat.le_of_ble_eq_true rfl⟩) hS (fun r1840 u1840 H locs h1840 hP hS => ?_)
  obtain ⟨rfl, e9⟩ := h1840
  have e9 := e9.symm
  subst e9
  refine lv_iload hx hb dL_law_1843 (lv_at hl 1 rfl) ?_
  refine lv_icmp_eq (tgt := 1850) hx hb dL_law_1845 (by decide) (fun c1845 => ?_) (fun c1845 => absurd (ht9) c1845)
  refine lv_iload hx hb dL_law_1850 (lv_at hl 1 rfl) ?_
  refine lv_if_ne (tgt := 1867) hx hb dL_law_1852 (by decide) (fun c1852 => ?_) (fun c1852 => absurd c1852 (by decide))
  refine lv_goto (tgt := 2028) hx hb dL_law_1867 (by decide) ?_
  exact law_end C0 (Nat.le_of_ble_eq_true rfl) (Nat.le_of_ble_eq_true rfl) hS (lv_sub hl [7, 2] rfl)

set_option maxHeartbeats 8000000 in
set_option maxRecDepth 100000 in
theorem law_c28 {p : Program} {e : Env} {s : State} {m : MethodId} {below : List Frame} {meth : Method} {c : Code} (l : Launch) (hst : l.stackTraces = false) {b : Nat} {xs : Nat → Int32} (C0 : lw_At p s m meth c b 5 xs) (g : gE) (L : Nat → Nat) (ro : Nat → va_E) (f : Nat → Int64) (ho : ro 123 = .inl (g.2 4, 1, .inr (.inl f))) (hJ : wj 125 L (fun q : Nat => s.heap.size ≤ q)) (hK : va_K g.1 vwCl (tysC g) s) (hE : EE SS (fun q : Nat => s.heap.size ≤ q) s) {H : Heap} {locs : List Loc} (hP : va_P g.1 vwCl (wl 125 L (cw g L x0 (mw g L y0 0 ro))) H) (hS : va_S (fun q : Nat => s.heap.size ≤ q) s.heap H locs) {ls : Array Slot} (hl : lv_has ls 9 [(0, .ref b), (1, .ref (L 0)), (2, .ref (L 106)), (3, .ref (L 123)), (4, .ref (L 124)), (5, .int 0)]) : W p l e room_1 s m #[Value.ref b] below meth c H locs 200 100000 (lw_Z below #[Value.ref b] s) (F0 m 1870 ls []) := by
  obtain ⟨hx, hb, hr, hml, hown, hts0, hX, hbl, hlocks, hgv⟩ := id C0
  have hown : s.vm.findClass RL = some m.cls := hown
  have hts : ∀ w ∈ wsL_law, w.before #[Value.ref b] s = true := fun w h => hts0 w (wsL_law_in w h)
  have hbA : ¬ (fun q : Nat => s.heap.size ≤ q) b := Nat.not_le.mpr hbl
  have hx0 : x0 0 0 0 = nI 0 := rfl
  have hx1 : x0 1 0 0 = nI 0 := rfl
  have hx2 : x0 2 0 0 = 2 := rfl
  have hx3 : x0 3 0 0 = nI 0 := rfl
  have hy1 : y0 1 0 0 = nI 0 := rfl
  have hy2 : y0 2 0 0 = 2 := rfl
  have hy3 : y0 3 0 0 = nI 0 := rfl
  have hy4 : y0 4 0 0 = nI 0 := rfl
  have hn : 125 ≤ 125 := Nat.le_refl _
  refine lv_aload_n hx hb dL_law_1870 rfl (lv_at hl 1 rfl) ?_
  refine wx_calll (va_runV (As := []) (rest := []) ⟨hx, hb, hml, hown, hts⟩ (kp_checksum l hst g s.heap.size 125 L (by omega) x0 (mw g L y0 0 ro) hx0 hx1 hx2 hx3 ) (cwV 0 hts gL_law_X3_checksum rfl rfl rfl (by decide +kernel) ⟨Nat.le_of_ble_eq_true rfl, Nat.le_of_ble_eq_true rfl⟩) (PW.preV3 (Nat.le_refl _) hJ hK hE hP hS (ci := 5) rfl (by omega) cw_d) rfl rfl hl.1 rfl (lv_room (Nat.le_of_ble_eq_true rfl)) dL_law_1871 ⟨Nat.le_of_ble_eq_true rfl, Nat.le_of_ble_eq_true rfl⟩) hS (fun r1871 u1871 H locs h1871 hP hS => ?_)
  have hP : va_P g.1 vwCl (wl 125 L (mw g L y0 0 (cw g L u1871 ro))) H := by rw [← cw_mw]; exact hP
  refine lv_aload_n hx hb dL_law_1874 rfl (lv_at hl 2 rfl) ?_
  refine wx_calll (va_runV (As := []) (rest := [.long r1871]) ⟨hx, hb, hml, hown, hts⟩ (km_checksum l hst g s.heap.size 125 L (by omega) y0 0 (cw g L u1871 ro) hy1 hy2 hy3 hy4 ) (cwV 0 hts gL_law_X4_checksum rfl rfl rfl (by decide +kernel) ⟨Nat.le_of_ble_eq_true rfl, Nat.le_of_ble_eq_true rfl⟩) (PW.preV3 (Nat.le_refl _) hJ hK hE hP hS (ci := 6) rfl (by omega) mw_o) rfl rfl hl.1 rfl (lv_room (Nat.le_of_ble_eq_true rfl)) dL_law_1875 ⟨Nat.le_of_ble_eq_true rfl, Nat.le_of_ble_eq_true rfl⟩) hS (fun r1875 u1875 H locs h1875 hP hS => ?_)
  refine W.lcmp hx hb dL_law_1878 ?_
  refine lv_if_eq (tgt := 2028) hx hb dL_law_1879 (by decide) (fun c1879 => ?_) (fun c1879 => absurd (by rw [h1871, h1875, lgc]) c1879)
  exact law_end C0 (Nat.le_of_ble_eq_true rfl) (Nat.le_of_ble_eq_true rfl) hS (lv_sub hl [5, 0] rfl)

set_option maxHeartbeats 8000000 in
set_option maxRecDepth 100000 in
theorem law_c29 {p : Program} {e : Env} {s : State} {m : MethodId} {below : List Frame} {meth : Method} {c : Code} (l : Launch) (hst : l.stackTraces = false) {b : Nat} {xs : Nat → Int32} (C0 : lw_At p s m meth c b 5 xs) (g : gE) (L : Nat → Nat) (ro : Nat → va_E) (f : Nat → Int64) (ho : ro 123 = .inl (g.2 4, 1, .inr (.inl f))) (hJ : wj 125 L (fun q : Nat => s.heap.size ≤ q)) (hK : va_K g.1 vwCl (tysC g) s) (hE : EE SS (fun q : Nat => s.heap.size ≤ q) s) {H : Heap} {locs : List Loc} (hP : va_P g.1 vwCl (wl 125 L (cw g L x0 (mw g L y0 0 ro))) H) (hS : va_S (fun q : Nat => s.heap.size ≤ q) s.heap H locs) {ls : Array Slot} (hl : lv_has ls 9 [(0, .ref b), (1, .ref (L 0)), (2, .ref (L 106)), (3, .ref (L 123)), (4, .ref (L 124)), (5, .int 0)]) : W p l e room_1 s m #[Value.ref b] below meth c H locs 200 100000 (lw_Z below #[Value.ref b] s) (F0 m 1884 ls []) := by
  obtain ⟨hx, hb, hr, hml, hown, hts0, hX, hbl, hlocks, hgv⟩ := id C0
  have hown : s.vm.findClass RL = some m.cls := hown
  have hts : ∀ w ∈ wsL_law, w.before #[Value.ref b] s = true := fun w h => hts0 w (wsL_law_in w h)
  have hbA : ¬ (fun q : Nat => s.heap.size ≤ q) b := Nat.not_le.mpr hbl
  have hx0 : x0 0 0 0 = nI 0 := rfl
  have hx1 : x0 1 0 0 = nI 0 := rfl
  have hx2 : x0 2 0 0 = 2 := rfl
  have hx3 : x0 3 0 0 = nI 0 := rfl
  have hy1 : y0 1 0 0 = nI 0 := rfl
  have hy2 : y0 2 0 0 = 2 := rfl
  have hy3 : y0 3 0 0 = nI 0 := rfl
  have hy4 : y0 4 0 0 = nI 0 := rfl
  have hn : 125 ≤ 125 := Nat.le_refl _
  refine lv_aload_n hx hb dL_law_1884 rfl (lv_at hl 1 rfl) ?_
  refine lv_aload hx hb dL_law_1885 (lv_at hl 4 rfl) ?_
  refine wx_calli (vx_runSW (As := [.ref (L 0), .ref (L 124)]) (rest := []) ⟨hx, hb, hml, hown, hts⟩ (kl_shownShare l hst g s.heap.size 125 L (by omega) x0 (mw g L y0 0 ro) hx0 hx1 hx2 hx3 f (mw_ge (by decide) |>.trans ho) ) (vx_cwSW 2 hts gL_law_L_shownShare rfl rfl rfl (by decide +kernel) ⟨Nat.le_of_ble_eq_true rfl, Nat.le_of_ble_eq_true rfl⟩) (PW.preS3 (Nat.le_refl _) hJ hK hE hP hS) rfl rfl hl.1 rfl (lv_room (Nat.le_of_ble_eq_true rfl)) dL_law_1887 ⟨Nat.le_of_ble_eq_true rfl, Nat.le_of_ble_eq_true rfl⟩) hS (fun r1887 u1887 H locs h1887 hP hS => ?_)
  obtain ⟨v1887, t1887⟩ := u1887
  dsimp only at h1887 hP
  obtain ⟨rfl, rfl⟩ := h1887
  have hP : va_P g.1 vwCl (wl 125 L (mw g L y0 0 (cw g L v1887 ro))) H := by rw [← cw_mw]; exact hP
  refine lv_istore (lv' := [(6, .int 1), (0, .ref b), (1, .ref (L 0)), (2, .ref (L 106)), (3, .ref (L 123)), (4, .ref (L 124)), (5, .int 0)]) hx hb dL_law_1890 hl (by decide) rfl (fun ls hl => ?_)
  refine lv_aload_n hx hb dL_law_1892 rfl (lv_at hl 3 rfl) ?_
  refine wx_callf (va_runV (As := []) (rest := []) ⟨hx, hb, hml, hown, hts⟩ (km_shownShare l hst g s.heap.size 125 L (by omega) y0 0 (cw g L v1887 ro) hy1 hy2 hy3 hy4 ) (cwV 0 hts gL_law_X4_shownShare rfl rfl rfl (by decide +kernel) ⟨Nat.le_of_ble_eq_true rfl, Nat.le_of_ble_eq_true rfl⟩) (PW.preV3 (Nat.le_refl _) hJ hK hE hP hS (ci := 6) rfl (by omega) mw_o) rfl rfl hl.1 rfl (lv_room (Nat.le_of_ble_eq_true rfl)) dL_law_1893 ⟨Nat.le_of_ble_eq_true rfl, Nat.le_of_ble_eq_true rfl⟩) hS (fun r1893 u1893 H locs h1893 hP hS => ?_)
  have ht9 : u1893 0 0 0 = 1 := h1893
  refine lv_fstore (lv' := [(7, .float r1893), (6, .int 1), (0, .ref b), (1, .ref (L 0)), (2, .ref (L 106)), (3, .ref (L 123)), (4, .ref (L 124)), (5, .int 0)]) hx hb dL_law_1896 hl (by decide) rfl (fun ls hl => ?_)
  refine lv_aload_n hx hb dL_law_1898 rfl (lv_at hl 4 rfl) ?_
  refine wx_calli (va_runV (As := []) (rest := []) ⟨hx, hb, hml, hown, hts⟩ (km_thrown l hst g s.heap.size 125 L (by omega) u1893 0 (cw g L v1887 ro)) (cwV 0 hts gL_law_X4_thrown rfl rfl rfl (by decide +kernel) ⟨Nat.le_of_ble_eq_true rfl, Nat.le_of_ble_eq_true rfl⟩) (PW.preV3 (Nat.le_refl _) hJ hK hE hP hS (ci := 6) rfl (by omega) mw_o) rfl rfl hl.1 rfl (lv_room (Nat.le_of_ble_eq_true rfl)) dL_law_1899 ⟨Nat.le_of_ble_eq_true rfl, Nat.le_of_ble_eq_true rfl⟩) hS (fun r1899 u1899 H locs h1899 hP hS => ?_)
  obtain ⟨rfl, e9⟩ := h1899
  have e9 := e9.symm
  subst e9
  refine lv_iload hx hb dL_law_1902 (lv_at hl 1 rfl) ?_
  refine lv_icmp_eq (tgt := 1909) hx hb dL_law_1904 (by decide) (fun c1904 => ?_) (fun c1904 => absurd (ht9) c1904)
  refine lv_iload hx hb dL_law_1909 (lv_at hl 1 rfl) ?_
  refine lv_if_ne (tgt := 1947) hx hb dL_law_1911 (by decide) (fun c1911 => ?_) (fun c1911 => absurd c1911 (by decide))
  refine lv_goto (tgt := 2028) hx hb dL_law_1947 (by decide) ?_
  exact law_end C0 (Nat.le_of_ble_eq_true rfl) (Nat.le_of_ble_eq_true rfl) hS (lv_sub hl [7, 2] rfl)

set_option maxHeartbeats 8000000 in
set_option maxRecDepth 100000 in
theorem law_c30 {p : Program} {e : Env} {s : State} {m : MethodId} {below : List Frame} {meth : Method} {c : Code} (l : Launch) (hst : l.stackTraces = false) {b : Nat} {xs : Nat → Int32} (C0 : lw_At p s m meth c b 5 xs) (g : gE) (L : Nat → Nat) (ro : Nat → va_E) (f : Nat → Int64) (ho : ro 123 = .inl (g.2 4, 1, .inr (.inl f))) (hJ : wj 125 L (fun q : Nat => s.heap.size ≤ q)) (hK : va_K g.1 vwCl (tysC g) s) (hE : EE SS (fun q : Nat => s.heap.size ≤ q) s) {H : Heap} {locs : List Loc} (hP : va_P g.1 vwCl (wl 125 L (cw g L x0 (mw g L y0 0 ro))) H) (hS : va_S (fun q : Nat => s.heap.size ≤ q) s.heap H locs) {ls : Array Slot} (hl : lv_has ls 9 [(0, .ref b), (1, .ref (L 0)), (2, .ref (L 106)), (3, .ref (L 123)), (4, .ref (L 124)), (5, .int 0)]) : W p l e room_1 s m #[Value.ref b] below meth c H locs 200 100000 (lw_Z below #[Value.ref b] s) (F0 m 1950 ls []) := by
  obtain ⟨hx, hb, hr, hml, hown, hts0, hX, hbl, hlocks, hgv⟩ := id C0
  have hown : s.vm.findClass RL = some m.cls := hown
  have hts : ∀ w ∈ wsL_law, w.before #[Value.ref b] s = true := fun w h => hts0 w (wsL_law_in w h)
  have hbA : ¬ (fun q : Nat => s.heap.size ≤ q) b := Nat.not_le.mpr hbl
  have hx0 : x0 0 0 0 = nI 0 := rfl
  have hx1 : x0 1 0 0 = nI 0 := rfl
  have hx2 : x0 2 0 0 = 2 := rfl
  have hx3 : x0 3 0 0 = nI 0 := rfl
  have hy1 : y0 1 0 0 = nI 0 := rfl
  have hy2 : y0 2 0 0 = 2 := rfl
  have hy3 : y0 3 0 0 = nI 0 := rfl
  have hy4 : y0 4 0 0 = nI 0 := rfl
  have hn : 125 ≤ 125 := Nat.le_refl _
  refine lv_aload_n hx hb dL_law_1950 rfl (lv_at hl 1 rfl) ?_
  refine lv_aload hx hb dL_law_1951 (lv_at hl 4 rfl) ?_
  refine wx_calli (vx_runSW (As := [.ref (L 0), .ref (L 124)]) (rest := []) ⟨hx, hb, hml, hown, hts⟩ (kl_meanWear l hst g s.heap.size 125 L (by omega) x0 (mw g L y0 0 ro) hx0 hx1 hx2 hx3 f (mw_ge (by decide) |>.trans ho) ) (vx_cwSW 2 hts gL_law_L_meanWear rfl rfl rfl (by decide +kernel) ⟨Nat.le_of_ble_eq_true rfl, Nat.le_of_ble_eq_true rfl⟩) (PW.preS3 (Nat.le_refl _) hJ hK hE hP hS) rfl rfl hl.1 rfl (lv_room (Nat.le_of_ble_eq_true rfl)) dL_law_1953 ⟨Nat.le_of_ble_eq_true rfl, Nat.le_of_ble_eq_true rfl⟩) hS (fun r1953 u1953 H locs h1953 hP hS => ?_)
  obtain ⟨v1953, t1953⟩ := u1953
  dsimp only at h1953 hP
  obtain ⟨rfl, rfl⟩ := h1953
  have hP : va_P g.1 vwCl (wl 125 L (mw g L y0 0 (cw g L v1953 ro))) H := by rw [← cw_mw]; exact hP
  refine lv_istore (lv' := [(6, .int 1), (0, .ref b), (1, .ref (L 0)), (2, .ref (L 106)), (3, .ref (L 123)), (4, .ref (L 124)), (5, .int 0)]) hx hb dL_law_1956 hl (by decide) rfl (fun ls hl => ?_)
  refine lv_aload_n hx hb dL_law_1958 rfl (lv_at hl 3 rfl) ?_
  refine wx_calld (va_runV (As := []) (rest := []) ⟨hx, hb, hml, hown, hts⟩ (km_meanWear l hst g s.heap.size 125 L (by omega) y0 0 (cw g L v1953 ro) hy1 hy2 hy3 hy4 ) (cwV 0 hts gL_law_X4_meanWear rfl rfl rfl (by decide +kernel) ⟨Nat.le_of_ble_eq_true rfl, Nat.le_of_ble_eq_true rfl⟩) (PW.preV3 (Nat.le_refl _) hJ hK hE hP hS (ci := 6) rfl (by omega) mw_o) rfl rfl hl.1 rfl (lv_room (Nat.le_of_ble_eq_true rfl)) dL_law_1959 ⟨Nat.le_of_ble_eq_true rfl, Nat.le_of_ble_eq_true rfl⟩) hS (fun r1959 u1959 H locs h1959 hP hS => ?_)
  have ht9 : u1959 0 0 0 = 1 := h1959
  refine lv_dstore (lv' := [(7, .double r1959), (6, .int 1), (0, .ref b), (1, .ref (L 0)), (2, .ref (L 106)), (3, .ref (L 123)), (4, .ref (L 124)), (5, .int 0)]) hx hb dL_law_1962 hl (by decide) rfl (fun ls hl => ?_)
  refine lv_aload_n hx hb dL_law_1964 rfl (lv_at hl 4 rfl) ?_
  refine wx_calli (va_runV (As := []) (rest := []) ⟨hx, hb, hml, hown, hts⟩ (km_thrown l hst g s.heap.size 125 L (by omega) u1959 0 (cw g L v1953 ro)) (cwV 0 hts gL_law_X4_thrown rfl rfl rfl (by decide +kernel) ⟨Nat.le_of_ble_eq_true rfl, Nat.le_of_ble_eq_true rfl⟩) (PW.preV3 (Nat.le_refl _) hJ hK hE hP hS (ci := 6) rfl (by omega) mw_o) rfl rfl hl.1 rfl (lv_room (Nat.le_of_ble_eq_true rfl)) dL_law_1965 ⟨Nat.le_of_ble_eq_true rfl, Nat.le_of_ble_eq_true rfl⟩) hS (fun r1965 u1965 H locs h1965 hP hS => ?_)
  obtain ⟨rfl, e9⟩ := h1965
  have e9 := e9.symm
  subst e9
  refine lv_iload hx hb dL_law_1968 (lv_at hl 1 rfl) ?_
  refine lv_icmp_eq (tgt := 1975) hx hb dL_law_1970 (by decide) (fun c1970 => ?_) (fun c1970 => absurd (ht9) c1970)
  refine lv_iload hx hb dL_law_1975 (lv_at hl 1 rfl) ?_
  refine lv_if_ne (tgt := 2012) hx hb dL_law_1977 (by decide) (fun c1977 => ?_) (fun c1977 => absurd c1977 (by decide))
  refine lv_goto (tgt := 2028) hx hb dL_law_2012 (by decide) ?_
  exact law_end C0 (Nat.le_of_ble_eq_true rfl) (Nat.le_of_ble_eq_true rfl) hS (lv_sub hl [7, 2] rfl)

set_option maxHeartbeats 8000000 in
set_option maxRecDepth 100000 in
theorem law_c31 {p : Program} {e : Env} {s : State} {m : MethodId} {below : List Frame} {meth : Method} {c : Code} (l : Launch) (hst : l.stackTraces = false) {b : Nat} {xs : Nat → Int32} (C0 : lw_At p s m meth c b 5 xs) (g : gE) (L : Nat → Nat) (ro : Nat → va_E) (f : Nat → Int64) (ho : ro 123 = .inl (g.2 4, 1, .inr (.inl f))) (hJ : wj 125 L (fun q : Nat => s.heap.size ≤ q)) (hK : va_K g.1 vwCl (tysC g) s) (hE : EE SS (fun q : Nat => s.heap.size ≤ q) s) {H : Heap} {locs : List Loc} (hP : va_P g.1 vwCl (wl 125 L (cw g L x0 (mw g L y0 0 ro))) H) (hS : va_S (fun q : Nat => s.heap.size ≤ q) s.heap H locs) {ls : Array Slot} (hl : lv_has ls 9 [(0, .ref b), (1, .ref (L 0)), (2, .ref (L 106)), (3, .ref (L 123)), (4, .ref (L 124)), (5, .int 0)]) : W p l e room_1 s m #[Value.ref b] below meth c H locs 200 100000 (lw_Z below #[Value.ref b] s) (F0 m 2015 ls []) := by
  obtain ⟨hx, hb, hr, hml, hown, hts0, hX, hbl, hlocks, hgv⟩ := id C0
  have hown : s.vm.findClass RL = some m.cls := hown
  have hts : ∀ w ∈ wsL_law, w.before #[Value.ref b] s = true := fun w h => hts0 w (wsL_law_in w h)
  have hbA : ¬ (fun q : Nat => s.heap.size ≤ q) b := Nat.not_le.mpr hbl
  have hx0 : x0 0 0 0 = nI 0 := rfl
  have hx1 : x0 1 0 0 = nI 0 := rfl
  have hx2 : x0 2 0 0 = 2 := rfl
  have hx3 : x0 3 0 0 = nI 0 := rfl
  have hy1 : y0 1 0 0 = nI 0 := rfl
  have hy2 : y0 2 0 0 = 2 := rfl
  have hy3 : y0 3 0 0 = nI 0 := rfl
  have hy4 : y0 4 0 0 = nI 0 := rfl
  have hn : 125 ≤ 125 := Nat.le_refl _
  refine lv_aload_n hx hb dL_law_2015 rfl (lv_at hl 1 rfl) ?_
  refine wx_calli (va_runV (As := []) (rest := []) ⟨hx, hb, hml, hown, hts⟩ (kp_isSound l hst g s.heap.size 125 L (by omega) x0 (mw g L y0 0 ro) hx0 hx1 hx2 hx3 ) (cwV 0 hts gL_law_X3_isSound rfl rfl rfl (by decide +kernel) ⟨Nat.le_of_ble_eq_true rfl, Nat.le_of_ble_eq_true rfl⟩) (PW.preV3 (Nat.le_refl _) hJ hK hE hP hS (ci := 5) rfl (by omega) cw_d) rfl rfl hl.1 rfl (lv_room (Nat.le_of_ble_eq_true rfl)) dL_law_2016 ⟨Nat.le_of_ble_eq_true rfl, Nat.le_of_ble_eq_true rfl⟩) hS (fun r2016 u2016 H locs h2016 hP hS => ?_)
  have hP : va_P g.1 vwCl (wl 125 L (mw g L y0 0 (cw g L u2016 ro))) H := by rw [← cw_mw]; exact hP
  refine lv_aload_n hx hb dL_law_2019 rfl (lv_at hl 2 rfl) ?_
  refine wx_calli (va_runV (As := []) (rest := [.int r2016]) ⟨hx, hb, hml, hown, hts⟩ (km_isSound l hst g s.heap.size 125 L (by omega) y0 0 (cw g L u2016 ro) hy1 hy2 hy3 hy4 ) (cwV 0 hts gL_law_X4_isSound rfl rfl rfl (by decide +kernel) ⟨Nat.le_of_ble_eq_true rfl, Nat.le_of_ble_eq_true rfl⟩) (PW.preV3 (Nat.le_refl _) hJ hK hE hP hS (ci := 6) rfl (by omega) mw_o) rfl rfl hl.1 rfl (lv_room (Nat.le_of_ble_eq_true rfl)) dL_law_2020 ⟨Nat.le_of_ble_eq_true rfl, Nat.le_of_ble_eq_true rfl⟩) hS (fun r2020 u2020 H locs h2020 hP hS => ?_)
  refine lv_icmp_eq (tgt := 2028) hx hb dL_law_2023 (by decide) (fun c2023 => ?_) (fun c2023 => absurd (by rw [h2016, h2020]) c2023)
  exact law_end C0 (Nat.le_of_ble_eq_true rfl) (Nat.le_of_ble_eq_true rfl) hS (lv_sub hl [5, 0] rfl)
