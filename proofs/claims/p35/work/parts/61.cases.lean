set_option maxHeartbeats 8000000 in
set_option maxRecDepth 100000 in
theorem law_q0 {p : Program} {e : Env} {s : State} {m : MethodId} {below : List Frame} {meth : Method} {c : Code} (l : Launch) (hst : l.stackTraces = false) {sb sN : Nat} {sx : Nat → Int32} (hsN : sN ≤ 1000) (C0 : lw_At p s m meth c sb sN sx) (g : gE) (L : Nat → Nat) (hJ : wj 108 L (fun q : Nat => s.heap.size ≤ q)) (hK : va_K g.1 vwCl (tysC g) s) (hE : EE SS (fun q : Nat => s.heap.size ≤ q) s) {D : Nat → Int32} {k : Nat} (hk : k < 26) {x : St} {P : Nat → Int32} {nn : Nat} (hJ5 : J35 x D P nn k) {r0 : Nat → va_E} (h106 : r0 106 = .inl (g.2 0, 4, .inl D)) (h107 : r0 107 = .inl (g.2 0, 40, .inl P)) {cl sl : Nat} (hcl : cl + 5000 ≤ 600312) (hsl : sl + 30000 ≤ 7293410) {H : Heap} {locs : List Loc} (hP : va_P g.1 vwCl (wl 108 L (cw g L x r0)) H) (hS : va_S (fun q : Nat => s.heap.size ≤ q) s.heap H locs) {j9 : Nat} (hj9 : j9 ≤ nn) {ls : Array Slot} (hl : lv_has ls 22 [(0, .ref sb), (1, .ref (L 0)), (2, .ref (L 106)), (3, .ref (L 107)), (5, .int (nI k)), (6, .int (nI (20 + 14 * k))), (7, .int (nI nn)), (8, .int (nI j9))]) (hnext : ∀ (x2 : St) (P2 : Nat → Int32) (nn2 : Nat) (r2 : Nat → va_E) (cl2 sl2 : Nat) (H : Heap) (locs : List Loc) (ls : Array Slot), J35 x2 D P2 nn2 (k + 1) → r2 106 = .inl (g.2 0, 4, .inl D) → r2 107 = .inl (g.2 0, 40, .inl P2) → cl2 ≤ cl + 700 → sl2 ≤ sl + 4200 → va_P g.1 vwCl (wl 108 L (cw g L x2 r2)) H → va_S (fun q : Nat => s.heap.size ≤ q) s.heap H locs → lv_has ls 22 [(4, .int 1), (0, .ref sb), (1, .ref (L 0)), (2, .ref (L 106)), (3, .ref (L 107)), (5, .int (nI k))] → W p l e room_1 s m #[Value.ref sb] below meth c H locs cl2 sl2 (lw_Z below #[Value.ref sb] s) (F0 m 694 ls [])) : W p l e room_1 s m #[Value.ref sb] below meth c H locs cl sl (lw_Z below #[Value.ref sb] s) (F0 m 184 ls []) := by
  obtain ⟨hx, hb, hr, hml, hown, hts0, hX, hbl, hlocks, hgv⟩ := id C0
  have hown : s.vm.findClass RL = some m.cls := hown
  have hts : ∀ w ∈ wsL_law, w.before #[Value.ref sb] s = true := fun w h => hts0 w (wsL_law_in w h)
  have hbA : ¬ (fun q : Nat => s.heap.size ≤ q) sb := Nat.not_le.mpr hbl
  have hn : 108 ≤ 108 := Nat.le_refl _
  have hnk := hJ5.nk
  have hnn := hJ5.gi.nn40
  obtain ⟨hq9, hhr, e3⟩ := hJ5.x3
  obtain ⟨cnt, hcn, hx4⟩ := hJ5.cnt
  refine lv_aload_n hx hb dL_law_184 rfl (lv_at hl 0 rfl) ?_
  refine lv_iload hx hb dL_law_185 (lv_at hl 5 rfl) ?_
  refine lv_iconst (v := 2) hx hb dL_law_187 (by decide) ?_
  refine lv_iadd hx hb dL_law_188 ?_
  refine wx_calli (va_runS (As := [.ref sb, .int ((nI (20 + 14 * k)) + 2)]) (rest := []) ⟨hx, hb, hml, hown, hts⟩ (k_word l hst g s.heap.size 108 L (cw g L x r0) sb sN hsN sx ((nI (20 + 14 * k)) + 2) ((add_n (c := 2) rfl (by omega))) ((add_n2 (c := 2) rfl (by omega)))) (va_cwS 2 hts gL_law_L_word rfl rfl rfl (by decide +kernel) ⟨Nat.le_of_ble_eq_true rfl, Nat.le_of_ble_eq_true rfl⟩) (PWs.preS3 (Nat.le_refl _) hJ hK hE hP hS hX hbl) rfl rfl hl.1 rfl (lv_room (Nat.le_of_ble_eq_true rfl)) dL_law_189 ⟨(by show _ ≤ 600312; omega), (by show _ ≤ 7293410; omega)⟩) hS (fun r189 u189 H locs h189 hP hS => ?_)
  refine lv_istore (lv' := [(9, .int r189), (0, .ref sb), (1, .ref (L 0)), (2, .ref (L 106)), (3, .ref (L 107)), (5, .int (nI k)), (6, .int (nI (20 + 14 * k))), (7, .int (nI nn)), (8, .int (nI j9))]) hx hb dL_law_192 hl (by decide) rfl (fun ls hl => ?_)
  refine lv_aload_n hx hb dL_law_194 rfl (lv_at hl 2 rfl) ?_
  refine wx_calli (va_runV (As := []) (rest := []) ⟨hx, hb, hml, hown, hts⟩ (k_hour l hst g s.heap.size 108 L (by omega) x r0) (cwV 0 hts gL_law_X3_hour rfl rfl rfl (by decide +kernel) ⟨Nat.le_of_ble_eq_true rfl, Nat.le_of_ble_eq_true rfl⟩) (PW.preV3 (Nat.le_refl _) hJ hK hE hP hS (ci := 5) rfl (by omega) cw_d) rfl rfl hl.1 rfl (lv_room (Nat.le_of_ble_eq_true rfl)) dL_law_195 ⟨(by show _ ≤ 600312; omega), (by show _ ≤ 7293410; omega)⟩) hS (fun r195 u195 H locs h195 hP hS => ?_)
  obtain rfl := h195.trans e3
  refine lv_aload_n hx hb dL_law_198 rfl (lv_at hl 1 rfl) ?_
  refine lv_iload hx hb dL_law_199 (lv_at hl 6 rfl) ?_
  refine lv_bipush (v := 6) hx hb dL_law_201 (by decide) ?_
  refine lv_iadd hx hb dL_law_203 ?_
  refine lv_iconst (v := 4) hx hb dL_law_204 (by decide) ?_
  refine wx_calli (va_runS (As := [.ref sb, .int ((nI (20 + 14 * k)) + 6), .int 4]) (rest := [.int (nI hq9)]) ⟨hx, hb, hml, hown, hts⟩ (k_pick l hst g s.heap.size 108 L (cw g L x r0) sb sN hsN sx ((nI (20 + 14 * k)) + 6) 4 ((add_n (c := 6) rfl (by omega))) (by decide)) (va_cwS 3 hts gL_law_L_pick rfl rfl rfl (by decide +kernel) ⟨Nat.le_of_ble_eq_true rfl, Nat.le_of_ble_eq_true rfl⟩) (PWs.preS3 (Nat.le_refl _) hJ hK hE hP hS hX hbl) rfl rfl hl.1 rfl (lv_room (Nat.le_of_ble_eq_true rfl)) dL_law_205 ⟨(by show _ ≤ 600312; omega), (by show _ ≤ 7293410; omega)⟩) hS (fun r205 u205 H locs h205 hP hS => ?_)
  obtain ⟨a205, ha205, e9⟩ := pk_nat (n := 4) h205 (by decide) (by decide)
  subst e9
  refine lv_iadd hx hb dL_law_208 ?_
  refine lv_topi (fun z9 ez9 => ?_)
  obtain rfl : z9 = nI (hq9 + a205) := ez9.trans (nI_add _ _)
  refine lv_istore (lv' := [(10, .int (nI (hq9 + a205))), (9, .int r189), (0, .ref sb), (1, .ref (L 0)), (2, .ref (L 106)), (3, .ref (L 107)), (5, .int (nI k)), (6, .int (nI (20 + 14 * k))), (7, .int (nI nn)), (8, .int (nI j9))]) hx hb dL_law_209 hl (by decide) rfl (fun ls hl => ?_)
  refine lv_aload_n hx hb dL_law_211 rfl (lv_at hl 3 rfl) ?_
  refine lv_bipush (v := 8) hx hb dL_law_212 (by decide) ?_
  refine lv_aload_n hx hb dL_law_214 rfl (lv_at hl 2 rfl) ?_
  refine lv_iload hx hb dL_law_215 (lv_at hl 7 rfl) ?_
  refine lv_bipush (v := 7) hx hb dL_law_217 (by decide) ?_
  refine lv_iadd hx hb dL_law_219 ?_
  refine lv_bipush (v := 10) hx hb dL_law_220 (by decide) ?_
  refine wx_calli (va_runS (As := [.ref sb, .int ((nI (20 + 14 * k)) + 7), .int 10]) (rest := [.int 8, .ref (L 0)]) ⟨hx, hb, hml, hown, hts⟩ (k_pick l hst g s.heap.size 108 L (cw g L x r0) sb sN hsN sx ((nI (20 + 14 * k)) + 7) 10 ((add_n (c := 7) rfl (by omega))) (by decide)) (va_cwS 3 hts gL_law_L_pick rfl rfl rfl (by decide +kernel) ⟨Nat.le_of_ble_eq_true rfl, Nat.le_of_ble_eq_true rfl⟩) (PWs.preS3 (Nat.le_refl _) hJ hK hE hP hS hX hbl) rfl rfl hl.1 rfl (lv_room (Nat.le_of_ble_eq_true rfl)) dL_law_222 ⟨(by show _ ≤ 600312; omega), (by show _ ≤ 7293410; omega)⟩) hS (fun r222 u222 H locs h222 hP hS => ?_)
  obtain ⟨a222, ha222, e9⟩ := pk_nat (n := 10) h222 (by decide) (by decide)
  subst e9
  refine lv_iload hx hb dL_law_225 (lv_at hl 1 rfl) ?_
  refine lv_iload hx hb dL_law_227 (lv_at hl 0 rfl) ?_
  refine lv_iload hx hb dL_law_229 (lv_at hl 0 rfl) ?_
  refine lv_iconst (v := 1) hx hb dL_law_231 (by decide) ?_
  refine lv_iadd hx hb dL_law_232 ?_
  refine lv_aload_n hx hb dL_law_233 rfl (lv_at hl 2 rfl) ?_
  refine lv_iload hx hb dL_law_234 (lv_at hl 7 rfl) ?_
  refine lv_bipush (v := 8) hx hb dL_law_236 (by decide) ?_
  refine lv_iadd hx hb dL_law_238 ?_
  refine lv_bipush (v := 30) hx hb dL_law_239 (by decide) ?_
  refine wx_calli (va_runS (As := [.ref sb, .int ((nI (20 + 14 * k)) + 8), .int 30]) (rest := [.int ((nI (hq9 + a205)) + 1), .int (nI (hq9 + a205)), .int r189, .int (nI a222), .int 8, .ref (L 0)]) ⟨hx, hb, hml, hown, hts⟩ (k_pick l hst g s.heap.size 108 L (cw g L x r0) sb sN hsN sx ((nI (20 + 14 * k)) + 8) 30 ((add_n (c := 8) rfl (by omega))) (by decide)) (va_cwS 3 hts gL_law_L_pick rfl rfl rfl (by decide +kernel) ⟨Nat.le_of_ble_eq_true rfl, Nat.le_of_ble_eq_true rfl⟩) (PWs.preS3 (Nat.le_refl _) hJ hK hE hP hS hX hbl) rfl rfl hl.1 rfl (lv_room (Nat.le_of_ble_eq_true rfl)) dL_law_241 ⟨(by show _ ≤ 600312; omega), (by show _ ≤ 7293410; omega)⟩) hS (fun r241 u241 H locs h241 hP hS => ?_)
  obtain ⟨a241, ha241, e9⟩ := pk_nat (n := 30) h241 (by decide) (by decide)
  subst e9
  refine lv_iadd hx hb dL_law_244 ?_
  refine wx_calli (vx_runSW (As := [.ref (L 0), .int 8, .int (nI a222), .int r189, .int (nI (hq9 + a205)), .int (((nI (hq9 + a205)) + 1) + (nI a241))]) (rest := []) ⟨hx, hb, hml, hown, hts⟩ (dd_8 l hst g s.heap.size 108 L (by omega) x r0 nn hJ5.gi.nn40 hJ5.gi.x1 hJ5.gi.rk (nI a222) r189 (nI (hq9 + a205)) (((nI (hq9 + a205)) + 1) + (nI a241))) (vx_cwSW 6 hts gL_law_L_deed rfl rfl rfl (by decide +kernel) ⟨Nat.le_of_ble_eq_true rfl, Nat.le_of_ble_eq_true rfl⟩) (PW.preS3 (Nat.le_refl _) hJ hK hE hP hS) rfl rfl hl.1 rfl (lv_room (Nat.le_of_ble_eq_true rfl)) dL_law_245 ⟨(by show _ ≤ 600312; omega), (by show _ ≤ 7293410; omega)⟩) hS (fun r245 u245 H locs h245 hP hS => ?_)
  obtain ⟨rfl, hJ6⟩ := A8 (f := hq9 + a205) (t := hq9 + a205 + 1 + a241) hJ5 (by omega) ha222 rfl h189 rfl (by rw [nI_1, nI_add]) (by omega) (by omega) h245
  refine lv_istore (lv' := [(11, .int (nI nn)), (10, .int (nI (hq9 + a205))), (9, .int r189), (0, .ref sb), (1, .ref (L 0)), (2, .ref (L 106)), (3, .ref (L 107)), (5, .int (nI k)), (6, .int (nI (20 + 14 * k))), (7, .int (nI nn)), (8, .int (nI j9))]) hx hb dL_law_248 hl (by decide) rfl (fun ls hl => ?_)
  refine lv_iload hx hb dL_law_250 (lv_at hl 0 rfl) ?_
  refine lv_iload hx hb dL_law_252 (lv_at hl 9 rfl) ?_
  refine lv_icmp_ne (tgt := 261) hx hb dL_law_254 (by decide) (fun c254 => absurd c254 (fun h => h rfl)) (fun c254 => ?_)
  refine lv_iconst (v := 1) hx hb dL_law_257 (by decide) ?_
  refine lv_goto (tgt := 262) hx hb dL_law_258 (by decide) ?_
  refine lv_istore (lv' := [(4, .int 1), (11, .int (nI nn)), (10, .int (nI (hq9 + a205))), (9, .int r189), (0, .ref sb), (1, .ref (L 0)), (2, .ref (L 106)), (3, .ref (L 107)), (5, .int (nI k)), (6, .int (nI (20 + 14 * k))), (7, .int (nI nn)), (8, .int (nI j9))]) hx hb dL_law_262 hl (by decide) rfl (fun ls hl => ?_)
  refine lv_aload_n hx hb dL_law_264 rfl (lv_at hl 7 rfl) ?_
  refine lv_iload hx hb dL_law_265 (lv_at hl 10 rfl) ?_
  refine lv_iload hx hb dL_law_267 (lv_at hl 3 rfl) ?_
  refine wx_iast (D := g.1) (cl := vwCl) (N := 40) (f := P) (w' := cw g L u245 (va_up r0 107 (.inl (g.2 0, 40, .inl (upd P nn r189))))) hx hb hK hP hJ hS (107) 0 (by omega) ((cw_ge (by decide)).trans h107) rfl (i := nI nn) (vp_in_nI (by omega) (by decide)) dL_law_269 (by rw [nI_clamp (by omega)]; exact cw_rest (by decide)) (fun H locs hP hS => ?_)
  refine lv_aload_n hx hb dL_law_270 rfl (lv_at hl 5 rfl) ?_
  refine lv_bipush (v := 9) hx hb dL_law_271 (by decide) ?_
  refine lv_iload hx hb dL_law_273 (lv_at hl 1 rfl) ?_
  refine lv_aload_n hx hb dL_law_275 rfl (lv_at hl 4 rfl) ?_
  refine lv_iload hx hb dL_law_276 (lv_at hl 9 rfl) ?_
  refine lv_bipush (v := 9) hx hb dL_law_278 (by decide) ?_
  refine lv_iadd hx hb dL_law_280 ?_
  refine lv_iconst (v := 3) hx hb dL_law_281 (by decide) ?_
  refine wx_calli (va_runS (As := [.ref sb, .int ((nI (20 + 14 * k)) + 9), .int 3]) (rest := [.int (nI nn), .int 9, .ref (L 0)]) ⟨hx, hb, hml, hown, hts⟩ (k_pick l hst g s.heap.size 108 L (cw g L u245 (va_up r0 107 (.inl (g.2 0, 40, .inl (upd P nn r189))))) sb sN hsN sx ((nI (20 + 14 * k)) + 9) 3 ((add_n (c := 9) rfl (by omega))) (by decide)) (va_cwS 3 hts gL_law_L_pick rfl rfl rfl (by decide +kernel) ⟨Nat.le_of_ble_eq_true rfl, Nat.le_of_ble_eq_true rfl⟩) (PWs.preS3 (Nat.le_refl _) hJ hK hE hP hS hX hbl) rfl rfl hl.1 rfl (lv_room (Nat.le_of_ble_eq_true rfl)) dL_law_282 ⟨(by show _ ≤ 600312; omega), (by show _ ≤ 7293410; omega)⟩) hS (fun r282 u282 H locs h282 hP hS => ?_)
  obtain ⟨a282, ha282, e9⟩ := pk_nat (n := 3) h282 (by decide) (by decide)
  subst e9
  refine lv_iconst (v := 0) hx hb dL_law_285 (by decide) ?_
  refine lv_iconst (v := 0) hx hb dL_law_286 (by decide) ?_
  refine wx_calli (vx_runSW (As := [.ref (L 0), .int 9, .int (nI nn), .int (nI a282), .int 0, .int 0]) (rest := []) ⟨hx, hb, hml, hown, hts⟩ (dd_9 l hst g s.heap.size 108 L (by omega) u245 (va_up r0 107 (.inl (g.2 0, 40, .inl (upd P nn r189)))) (nn + 1) hJ6.gi.nn40 hJ6.gi.x1 (nI nn) (nI a282) 0 0) (vx_cwSW 6 hts gL_law_L_deed rfl rfl rfl (by decide +kernel) ⟨Nat.le_of_ble_eq_true rfl, Nat.le_of_ble_eq_true rfl⟩) (PW.preS3 (Nat.le_refl _) hJ hK hE hP hS) rfl rfl hl.1 rfl (lv_room (Nat.le_of_ble_eq_true rfl)) dL_law_287 ⟨(by show _ ≤ 600312; omega), (by show _ ≤ 7293410; omega)⟩) hS (fun r287 u287 H locs h287 hP hS => ?_)
  have hJ7 : J35 u287 D (upd P nn r189) (nn + 1) (k + 1) := A9 (d := a282) hJ6 (by omega) rfl h287
  refine lv_pop hx hb dL_law_290 rfl ?_
  refine lv_aload_n hx hb dL_law_291 rfl (lv_at hl 5 rfl) ?_
  refine lv_bipush (v := 9) hx hb dL_law_292 (by decide) ?_
  refine lv_iload hx hb dL_law_294 (lv_at hl 1 rfl) ?_
  refine lv_aload_n hx hb dL_law_296 rfl (lv_at hl 4 rfl) ?_
  refine lv_iload hx hb dL_law_297 (lv_at hl 9 rfl) ?_
  refine lv_bipush (v := 10) hx hb dL_law_299 (by decide) ?_
  refine lv_iadd hx hb dL_law_301 ?_
  refine lv_iconst (v := 3) hx hb dL_law_302 (by decide) ?_
  refine wx_calli (va_runS (As := [.ref sb, .int ((nI (20 + 14 * k)) + 10), .int 3]) (rest := [.int (nI nn), .int 9, .ref (L 0)]) ⟨hx, hb, hml, hown, hts⟩ (k_pick l hst g s.heap.size 108 L (cw g L u287 (va_up r0 107 (.inl (g.2 0, 40, .inl (upd P nn r189))))) sb sN hsN sx ((nI (20 + 14 * k)) + 10) 3 ((add_n (c := 10) rfl (by omega))) (by decide)) (va_cwS 3 hts gL_law_L_pick rfl rfl rfl (by decide +kernel) ⟨Nat.le_of_ble_eq_true rfl, Nat.le_of_ble_eq_true rfl⟩) (PWs.preS3 (Nat.le_refl _) hJ hK hE hP hS hX hbl) rfl rfl hl.1 rfl (lv_room (Nat.le_of_ble_eq_true rfl)) dL_law_303 ⟨(by show _ ≤ 600312; omega), (by show _ ≤ 7293410; omega)⟩) hS (fun r303 u303 H locs h303 hP hS => ?_)
  obtain ⟨a303, ha303, e9⟩ := pk_nat (n := 3) h303 (by decide) (by decide)
  subst e9
  refine lv_iconst (v := 0) hx hb dL_law_306 (by decide) ?_
  refine lv_iconst (v := 0) hx hb dL_law_307 (by decide) ?_
  refine wx_calli (vx_runSW (As := [.ref (L 0), .int 9, .int (nI nn), .int (nI a303), .int 0, .int 0]) (rest := []) ⟨hx, hb, hml, hown, hts⟩ (dd_9 l hst g s.heap.size 108 L (by omega) u287 (va_up r0 107 (.inl (g.2 0, 40, .inl (upd P nn r189)))) (nn + 1) hJ7.gi.nn40 hJ7.gi.x1 (nI nn) (nI a303) 0 0) (vx_cwSW 6 hts gL_law_L_deed rfl rfl rfl (by decide +kernel) ⟨Nat.le_of_ble_eq_true rfl, Nat.le_of_ble_eq_true rfl⟩) (PW.preS3 (Nat.le_refl _) hJ hK hE hP hS) rfl rfl hl.1 rfl (lv_room (Nat.le_of_ble_eq_true rfl)) dL_law_308 ⟨(by show _ ≤ 600312; omega), (by show _ ≤ 7293410; omega)⟩) hS (fun r308 u308 H locs h308 hP hS => ?_)
  have hJ8 : J35 u308 D (upd P nn r189) (nn + 1) (k + 1) := A9 (d := a303) hJ7 (by omega) rfl h308
  refine lv_pop hx hb dL_law_311 rfl ?_
  refine lv_goto (tgt := 694) hx hb dL_law_312 (by decide) ?_
  exact hnext _ _ _ _ _ _ _ _ _ hJ8 ((va_up_ne _ _ (by decide)).trans h106) (va_up_self _ _ _) (by omega) (by omega) hP hS (lv_sub hl [0, 4, 5, 6, 7, 8] rfl)

set_option maxHeartbeats 8000000 in
set_option maxRecDepth 100000 in
theorem law_q2 {p : Program} {e : Env} {s : State} {m : MethodId} {below : List Frame} {meth : Method} {c : Code} (l : Launch) (hst : l.stackTraces = false) {sb sN : Nat} {sx : Nat → Int32} (hsN : sN ≤ 1000) (C0 : lw_At p s m meth c sb sN sx) (g : gE) (L : Nat → Nat) (hJ : wj 108 L (fun q : Nat => s.heap.size ≤ q)) (hK : va_K g.1 vwCl (tysC g) s) (hE : EE SS (fun q : Nat => s.heap.size ≤ q) s) {D : Nat → Int32} {k : Nat} (hk : k < 26) {x : St} {P : Nat → Int32} {nn : Nat} (hJ5 : J35 x D P nn k) {r0 : Nat → va_E} (h106 : r0 106 = .inl (g.2 0, 4, .inl D)) (h107 : r0 107 = .inl (g.2 0, 40, .inl P)) {cl sl : Nat} (hcl : cl + 5000 ≤ 600312) (hsl : sl + 30000 ≤ 7293410) {H : Heap} {locs : List Loc} (hP : va_P g.1 vwCl (wl 108 L (cw g L x r0)) H) (hS : va_S (fun q : Nat => s.heap.size ≤ q) s.heap H locs) {j9 : Nat} (hj9 : j9 ≤ nn) {ls : Array Slot} (hl : lv_has ls 22 [(0, .ref sb), (1, .ref (L 0)), (2, .ref (L 106)), (3, .ref (L 107)), (5, .int (nI k)), (6, .int (nI (20 + 14 * k))), (7, .int (nI nn)), (8, .int (nI j9))]) (hnext : ∀ (x2 : St) (P2 : Nat → Int32) (nn2 : Nat) (r2 : Nat → va_E) (cl2 sl2 : Nat) (H : Heap) (locs : List Loc) (ls : Array Slot), J35 x2 D P2 nn2 (k + 1) → r2 106 = .inl (g.2 0, 4, .inl D) → r2 107 = .inl (g.2 0, 40, .inl P2) → cl2 ≤ cl + 700 → sl2 ≤ sl + 4200 → va_P g.1 vwCl (wl 108 L (cw g L x2 r2)) H → va_S (fun q : Nat => s.heap.size ≤ q) s.heap H locs → lv_has ls 22 [(4, .int 1), (0, .ref sb), (1, .ref (L 0)), (2, .ref (L 106)), (3, .ref (L 107)), (5, .int (nI k))] → W p l e room_1 s m #[Value.ref sb] below meth c H locs cl2 sl2 (lw_Z below #[Value.ref sb] s) (F0 m 694 ls [])) : W p l e room_1 s m #[Value.ref sb] below meth c H locs cl sl (lw_Z below #[Value.ref sb] s) (F0 m 315 ls []) := by
  obtain ⟨hx, hb, hr, hml, hown, hts0, hX, hbl, hlocks, hgv⟩ := id C0
  have hown : s.vm.findClass RL = some m.cls := hown
  have hts : ∀ w ∈ wsL_law, w.before #[Value.ref sb] s = true := fun w h => hts0 w (wsL_law_in w h)
  have hbA : ¬ (fun q : Nat => s.heap.size ≤ q) sb := Nat.not_le.mpr hbl
  have hn : 108 ≤ 108 := Nat.le_refl _
  have hnk := hJ5.nk
  have hnn := hJ5.gi.nn40
  obtain ⟨hq9, hhr, e3⟩ := hJ5.x3
  obtain ⟨cnt, hcn, hx4⟩ := hJ5.cnt
  refine lv_aload_n hx hb dL_law_315 rfl (lv_at hl 0 rfl) ?_
  refine lv_iload hx hb dL_law_316 (lv_at hl 5 rfl) ?_
  refine lv_iconst (v := 1) hx hb dL_law_318 (by decide) ?_
  refine lv_iadd hx hb dL_law_319 ?_
  refine lv_iconst (v := 4) hx hb dL_law_320 (by decide) ?_
  refine wx_calli (va_runS (As := [.ref sb, .int ((nI (20 + 14 * k)) + 1), .int 4]) (rest := []) ⟨hx, hb, hml, hown, hts⟩ (k_pick l hst g s.heap.size 108 L (cw g L x r0) sb sN hsN sx ((nI (20 + 14 * k)) + 1) 4 ((add_n (c := 1) rfl (by omega))) (by decide)) (va_cwS 3 hts gL_law_L_pick rfl rfl rfl (by decide +kernel) ⟨Nat.le_of_ble_eq_true rfl, Nat.le_of_ble_eq_true rfl⟩) (PWs.preS3 (Nat.le_refl _) hJ hK hE hP hS hX hbl) rfl rfl hl.1 rfl (lv_room (Nat.le_of_ble_eq_true rfl)) dL_law_321 ⟨(by show _ ≤ 600312; omega), (by show _ ≤ 7293410; omega)⟩) hS (fun r321 u321 H locs h321 hP hS => ?_)
  obtain ⟨a321, ha321, e9⟩ := pk_nat (n := 4) h321 (by decide) (by decide)
  subst e9
  refine lv_istore (lv' := [(12, .int (nI a321)), (0, .ref sb), (1, .ref (L 0)), (2, .ref (L 106)), (3, .ref (L 107)), (5, .int (nI k)), (6, .int (nI (20 + 14 * k))), (7, .int (nI nn)), (8, .int (nI j9))]) hx hb dL_law_324 hl (by decide) rfl (fun ls hl => ?_)
  obtain ⟨d9, hd9, eD9, e10⟩ := hJ5.db ha321
  refine lv_aload_n hx hb dL_law_326 rfl (lv_at hl 2 rfl) ?_
  refine lv_iconst (v := 5) hx hb dL_law_327 (by decide) ?_
  refine lv_iload hx hb dL_law_328 (lv_at hl 0 rfl) ?_
  refine wx_calli (va_runS (As := [.ref (L 0), .int 5, .int (nI a321)]) (rest := []) ⟨hx, hb, hml, hown, hts⟩ (ak_5 l hst g s.heap.size 108 L (by omega) x r0 4 (by omega) hJ5.gi.x0 hJ5.gi.sh (nI a321)) (va_cwS 3 hts gL_law_L_ask rfl rfl rfl (by decide +kernel) ⟨Nat.le_of_ble_eq_true rfl, Nat.le_of_ble_eq_true rfl⟩) (PW.preS3 (Nat.le_refl _) hJ hK hE hP hS) rfl rfl hl.1 rfl (lv_room (Nat.le_of_ble_eq_true rfl)) dL_law_330 ⟨(by show _ ≤ 600312; omega), (by show _ ≤ 7293410; omega)⟩) hS (fun r330 u330 H locs h330 hP hS => ?_)
  obtain rfl := od1 (f := fun j => x 12 j 0) (by omega) (by omega) h330
  refine lv_istore (lv' := [(13, .int (x 12 a321 0)), (12, .int (nI a321)), (0, .ref sb), (1, .ref (L 0)), (2, .ref (L 106)), (3, .ref (L 107)), (5, .int (nI k)), (6, .int (nI (20 + 14 * k))), (7, .int (nI nn)), (8, .int (nI j9))]) hx hb dL_law_333 hl (by decide) rfl (fun ls hl => ?_)
  refine lv_iconst (v := 1) hx hb dL_law_335 (by decide) ?_
  refine lv_aload_n hx hb dL_law_336 rfl (lv_at hl 2 rfl) ?_
  refine lv_iload hx hb dL_law_337 (lv_at hl 7 rfl) ?_
  refine lv_iconst (v := 2) hx hb dL_law_339 (by decide) ?_
  refine lv_iadd hx hb dL_law_340 ?_
  refine lv_bipush (v := 99) hx hb dL_law_341 (by decide) ?_
  refine wx_calli (va_runS (As := [.ref sb, .int ((nI (20 + 14 * k)) + 2), .int 99]) (rest := [.int 1]) ⟨hx, hb, hml, hown, hts⟩ (k_pick l hst g s.heap.size 108 L (cw g L x r0) sb sN hsN sx ((nI (20 + 14 * k)) + 2) 99 ((add_n (c := 2) rfl (by omega))) (by decide)) (va_cwS 3 hts gL_law_L_pick rfl rfl rfl (by decide +kernel) ⟨Nat.le_of_ble_eq_true rfl, Nat.le_of_ble_eq_true rfl⟩) (PWs.preS3 (Nat.le_refl _) hJ hK hE hP hS hX hbl) rfl rfl hl.1 rfl (lv_room (Nat.le_of_ble_eq_true rfl)) dL_law_343 ⟨(by show _ ≤ 600312; omega), (by show _ ≤ 7293410; omega)⟩) hS (fun r343 u343 H locs h343 hP hS => ?_)
  obtain ⟨a343, ha343, e9⟩ := pk_nat (n := 99) h343 (by decide) (by decide)
  subst e9
  refine lv_iadd hx hb dL_law_346 ?_
  refine lv_topi (fun z9 ez9 => ?_)
  obtain rfl : z9 = nI (1 + a343) := ez9.trans (nI_add 1 _)
  refine lv_istore (lv' := [(14, .int (nI (1 + a343))), (13, .int (x 12 a321 0)), (12, .int (nI a321)), (0, .ref sb), (1, .ref (L 0)), (2, .ref (L 106)), (3, .ref (L 107)), (5, .int (nI k)), (6, .int (nI (20 + 14 * k))), (7, .int (nI nn)), (8, .int (nI j9))]) hx hb dL_law_347 hl (by decide) rfl (fun ls hl => ?_)
  rcases hJ5.sh9 ha321 with e12 | ⟨n9, hn9, e12⟩
  · rw [e12] at hl
    refine lv_iload hx hb dL_law_349 (lv_at hl 1 rfl) ?_
    refine lv_iconst (v := (-1)) hx hb dL_law_351 (by decide) ?_
    refine lv_icmp_ne (tgt := 359) hx hb dL_law_352 (by decide) (fun c352 => absurd c352 (by decide)) (fun c352 => ?_)
    refine lv_iconst (v := 0) hx hb dL_law_355 (by decide) ?_
    refine lv_goto (tgt := 373) hx hb dL_law_356 (by decide) ?_
    refine lv_istore (lv' := [(15, .int 0), (14, .int (nI (1 + a343))), (13, .int (-1)), (12, .int (nI a321)), (0, .ref sb), (1, .ref (L 0)), (2, .ref (L 106)), (3, .ref (L 107)), (5, .int (nI k)), (6, .int (nI (20 + 14 * k))), (7, .int (nI nn)), (8, .int (nI j9))]) hx hb dL_law_373 hl (by decide) rfl (fun ls hl => ?_)
    refine lv_aload_n hx hb dL_law_375 rfl (lv_at hl 5 rfl) ?_
    refine lv_bipush (v := 16) hx hb dL_law_376 (by decide) ?_
    refine lv_iload hx hb dL_law_378 (lv_at hl 3 rfl) ?_
    refine lv_iload hx hb dL_law_380 (lv_at hl 1 rfl) ?_
    refine wx_calli (va_runS (As := [.ref (L 0), .int 16, .int (nI a321), .int (nI (1 + a343))]) (rest := []) ⟨hx, hb, hml, hown, hts⟩ (at_16 l hst g s.heap.size 108 L (by omega) x r0 4 (by omega) hJ5.gi.x0 hJ5.gi.sh cnt hcn hx4 (nI a321) (nI (1 + a343))) (va_cwS 4 hts gL_law_L_ask2 rfl rfl rfl (by decide +kernel) ⟨Nat.le_of_ble_eq_true rfl, Nat.le_of_ble_eq_true rfl⟩) (PW.preS3 (Nat.le_refl _) hJ hK hE hP hS) rfl rfl hl.1 rfl (lv_room (Nat.le_of_ble_eq_true rfl)) dL_law_382 ⟨(by show _ ≤ 600312; omega), (by show _ ≤ 7293410; omega)⟩) hS (fun r382 u382 H locs h382 hP hS => ?_)
    obtain ⟨rfl, eu⟩ := A16n (q := 1 + a343) ha321 e12 ⟨by omega, by omega⟩ rfl h382
    have eu := eu.symm
    subst eu
    refine lv_istore (lv' := [(16, .int 0), (15, .int 0), (14, .int (nI (1 + a343))), (13, .int (-1)), (12, .int (nI a321)), (0, .ref sb), (1, .ref (L 0)), (2, .ref (L 106)), (3, .ref (L 107)), (5, .int (nI k)), (6, .int (nI (20 + 14 * k))), (7, .int (nI nn)), (8, .int (nI j9))]) hx hb dL_law_385 hl (by decide) rfl (fun ls hl => ?_)
    refine lv_iload hx hb dL_law_387 (lv_at hl 3 rfl) ?_
    refine lv_iconst (v := (-1)) hx hb dL_law_389 (by decide) ?_
    refine lv_icmp_ne (tgt := 406) hx hb dL_law_390 (by decide) (fun c390 => absurd c390 (by decide)) (fun c390 => ?_)
    refine lv_iload hx hb dL_law_393 (lv_at hl 0 rfl) ?_
    refine lv_if_ne (tgt := 402) hx hb dL_law_395 (by decide) (fun c395 => absurd c395 (by decide)) (fun c395 => ?_)
    refine lv_iconst (v := 1) hx hb dL_law_398 (by decide) ?_
    refine lv_goto (tgt := 440) hx hb dL_law_399 (by decide) ?_
    refine lv_istore (lv' := [(4, .int 1), (16, .int 0), (15, .int 0), (14, .int (nI (1 + a343))), (13, .int (-1)), (12, .int (nI a321)), (0, .ref sb), (1, .ref (L 0)), (2, .ref (L 106)), (3, .ref (L 107)), (5, .int (nI k)), (6, .int (nI (20 + 14 * k))), (7, .int (nI nn)), (8, .int (nI j9))]) hx hb dL_law_440 hl (by decide) rfl (fun ls hl => ?_)
    refine lv_goto (tgt := 694) hx hb dL_law_442 (by decide) ?_
    exact hnext _ _ _ _ _ _ _ _ _ (hJ5.up (by omega)) h106 h107 (by omega) (by omega) hP hS (lv_sub hl [0, 6, 7, 8, 9, 10] rfl)
  · rw [e12] at hl
    refine lv_iload hx hb dL_law_349 (lv_at hl 1 rfl) ?_
    refine lv_iconst (v := (-1)) hx hb dL_law_351 (by decide) ?_
    refine lv_icmp_ne (tgt := 359) hx hb dL_law_352 (by decide) (fun c352 => ?_) (fun c352 => absurd c352 (nI_ne (by omega)))
    refine lv_aload_n hx hb dL_law_359 rfl (lv_at hl 4 rfl) ?_
    refine lv_bipush (v := 17) hx hb dL_law_360 (by decide) ?_
    refine lv_iload hx hb dL_law_362 (lv_at hl 1 rfl) ?_
    refine lv_aload_n hx hb dL_law_364 rfl (lv_at hl 5 rfl) ?_
    refine lv_iload hx hb dL_law_365 (lv_at hl 2 rfl) ?_
    refine wx_ialdv (D := g.1) (cl := vwCl) (f := D) (v := nI d9) hx hb hK hP (106) 0 (by omega) ((cw_ge (by decide)).trans h106) rfl (i := nI a321) (vp_in_nI (by omega) (by decide)) (by rw [nI_clamp (by omega)]; exact eD9) dL_law_367 ?_
    refine lv_iconst (v := 0) hx hb dL_law_368 (by decide) ?_
    refine lv_iconst (v := 0) hx hb dL_law_369 (by decide) ?_
    refine wx_calli (vx_runSW (As := [.ref (L 0), .int 17, .int (nI n9), .int (nI d9), .int 0, .int 0]) (rest := []) ⟨hx, hb, hml, hown, hts⟩ (dd_17 l hst g s.heap.size 108 L (by omega) x r0 4 (by omega) hJ5.gi.x0 nn hJ5.gi.nn40 hJ5.gi.x1 (nI n9) (nI d9) 0 0) (vx_cwSW 6 hts gL_law_L_deed rfl rfl rfl (by decide +kernel) ⟨Nat.le_of_ble_eq_true rfl, Nat.le_of_ble_eq_true rfl⟩) (PW.preS3 (Nat.le_refl _) hJ hK hE hP hS) rfl rfl hl.1 rfl (lv_room (Nat.le_of_ble_eq_true rfl)) dL_law_370 ⟨(by show _ ≤ 600312; omega), (by show _ ≤ 7293410; omega)⟩) hS (fun r370 u370 H locs h370 hP hS => ?_)
    obtain rfl := od17 (by omega) (by omega) (by omega) h370
    refine lv_istore (lv' := [(15, .int (riF x n9 (nI d9) 4)), (14, .int (nI (1 + a343))), (13, .int (nI n9)), (12, .int (nI a321)), (0, .ref sb), (1, .ref (L 0)), (2, .ref (L 106)), (3, .ref (L 107)), (5, .int (nI k)), (6, .int (nI (20 + 14 * k))), (7, .int (nI nn)), (8, .int (nI j9))]) hx hb dL_law_373 hl (by decide) rfl (fun ls hl => ?_)
    refine lv_aload_n hx hb dL_law_375 rfl (lv_at hl 5 rfl) ?_
    refine lv_bipush (v := 16) hx hb dL_law_376 (by decide) ?_
    refine lv_iload hx hb dL_law_378 (lv_at hl 3 rfl) ?_
    refine lv_iload hx hb dL_law_380 (lv_at hl 1 rfl) ?_
    refine wx_calli (va_runS (As := [.ref (L 0), .int 16, .int (nI a321), .int (nI (1 + a343))]) (rest := []) ⟨hx, hb, hml, hown, hts⟩ (at_16 l hst g s.heap.size 108 L (by omega) x r0 4 (by omega) hJ5.gi.x0 hJ5.gi.sh cnt hcn hx4 (nI a321) (nI (1 + a343))) (va_cwS 4 hts gL_law_L_ask2 rfl rfl rfl (by decide +kernel) ⟨Nat.le_of_ble_eq_true rfl, Nat.le_of_ble_eq_true rfl⟩) (PW.preS3 (Nat.le_refl _) hJ hK hE hP hS) rfl rfl hl.1 rfl (lv_room (Nat.le_of_ble_eq_true rfl)) dL_law_382 ⟨(by show _ ≤ 600312; omega), (by show _ ≤ 7293410; omega)⟩) hS (fun r382 u382 H locs h382 hP hS => ?_)
    obtain ⟨hJ6, hge, hri⟩ := A16s (q := 1 + a343) hJ5 (by omega) hn9 ha321 e12 e10 hcn hx4 ⟨by omega, by omega⟩ rfl h382
    refine lv_istore (lv' := [(16, .int r382), (15, .int (riF x n9 (nI d9) 4)), (14, .int (nI (1 + a343))), (13, .int (nI n9)), (12, .int (nI a321)), (0, .ref sb), (1, .ref (L 0)), (2, .ref (L 106)), (3, .ref (L 107)), (5, .int (nI k)), (6, .int (nI (20 + 14 * k))), (7, .int (nI nn)), (8, .int (nI j9))]) hx hb dL_law_385 hl (by decide) rfl (fun ls hl => ?_)
    refine lv_iload hx hb dL_law_387 (lv_at hl 3 rfl) ?_
    refine lv_iconst (v := (-1)) hx hb dL_law_389 (by decide) ?_
    refine lv_icmp_ne (tgt := 406) hx hb dL_law_390 (by decide) (fun c390 => ?_) (fun c390 => absurd c390 (nI_ne (by omega)))
    refine lv_iload hx hb dL_law_406 (lv_at hl 0 rfl) ?_
    refine lv_iload hx hb dL_law_408 (lv_at hl 2 rfl) ?_
    refine lv_icmp_lt (tgt := 439) hx hb dL_law_410 (by decide) (fun c410 => absurd c410 (hge)) (fun c410 => ?_)
    refine lv_aload_n hx hb dL_law_413 rfl (lv_at hl 6 rfl) ?_
    refine lv_bipush (v := 17) hx hb dL_law_414 (by decide) ?_
    refine lv_iload hx hb dL_law_416 (lv_at hl 3 rfl) ?_
    refine lv_aload_n hx hb dL_law_418 rfl (lv_at hl 7 rfl) ?_
    refine lv_iload hx hb dL_law_419 (lv_at hl 4 rfl) ?_
    refine wx_ialdv (D := g.1) (cl := vwCl) (f := D) (v := nI d9) hx hb hK hP (106) 0 (by omega) ((cw_ge (by decide)).trans h106) rfl (i := nI a321) (vp_in_nI (by omega) (by decide)) (by rw [nI_clamp (by omega)]; exact eD9) dL_law_421 ?_
    refine lv_iconst (v := 0) hx hb dL_law_422 (by decide) ?_
    refine lv_iconst (v := 0) hx hb dL_law_423 (by decide) ?_
    refine wx_calli (vx_runSW (As := [.ref (L 0), .int 17, .int (nI n9), .int (nI d9), .int 0, .int 0]) (rest := []) ⟨hx, hb, hml, hown, hts⟩ (dd_17 l hst g s.heap.size 108 L (by omega) u382 r0 4 (by omega) hJ6.gi.x0 nn hJ6.gi.nn40 hJ6.gi.x1 (nI n9) (nI d9) 0 0) (vx_cwSW 6 hts gL_law_L_deed rfl rfl rfl (by decide +kernel) ⟨Nat.le_of_ble_eq_true rfl, Nat.le_of_ble_eq_true rfl⟩) (PW.preS3 (Nat.le_refl _) hJ hK hE hP hS) rfl rfl hl.1 rfl (lv_room (Nat.le_of_ble_eq_true rfl)) dL_law_424 ⟨(by show _ ≤ 600312; omega), (by show _ ≤ 7293410; omega)⟩) hS (fun r424 u424 H locs h424 hP hS => ?_)
    obtain rfl := od17 (by omega) (by omega) (by omega) h424
    refine lv_iload hx hb dL_law_427 (lv_at hl 1 rfl) ?_
    refine lv_iload hx hb dL_law_429 (lv_at hl 2 rfl) ?_
    refine lv_iadd hx hb dL_law_431 ?_
    refine lv_icmp_ne (tgt := 439) hx hb dL_law_432 (by decide) (fun c432 => absurd c432 (fun h => h hri)) (fun c432 => ?_)
    refine lv_iconst (v := 1) hx hb dL_law_435 (by decide) ?_
    refine lv_goto (tgt := 440) hx hb dL_law_436 (by decide) ?_
    refine lv_istore (lv' := [(4, .int 1), (16, .int r382), (15, .int (riF x n9 (nI d9) 4)), (14, .int (nI (1 + a343))), (13, .int (nI n9)), (12, .int (nI a321)), (0, .ref sb), (1, .ref (L 0)), (2, .ref (L 106)), (3, .ref (L 107)), (5, .int (nI k)), (6, .int (nI (20 + 14 * k))), (7, .int (nI nn)), (8, .int (nI j9))]) hx hb dL_law_440 hl (by decide) rfl (fun ls hl => ?_)
    refine lv_goto (tgt := 694) hx hb dL_law_442 (by decide) ?_
    exact hnext _ _ _ _ _ _ _ _ _ hJ6 h106 h107 (by omega) (by omega) hP hS (lv_sub hl [0, 6, 7, 8, 9, 10] rfl)

set_option maxHeartbeats 8000000 in
set_option maxRecDepth 100000 in
theorem law_q3 {p : Program} {e : Env} {s : State} {m : MethodId} {below : List Frame} {meth : Method} {c : Code} (l : Launch) (hst : l.stackTraces = false) {sb sN : Nat} {sx : Nat → Int32} (hsN : sN ≤ 1000) (C0 : lw_At p s m meth c sb sN sx) (g : gE) (L : Nat → Nat) (hJ : wj 108 L (fun q : Nat => s.heap.size ≤ q)) (hK : va_K g.1 vwCl (tysC g) s) (hE : EE SS (fun q : Nat => s.heap.size ≤ q) s) {D : Nat → Int32} {k : Nat} (hk : k < 26) {x : St} {P : Nat → Int32} {nn : Nat} (hJ5 : J35 x D P nn k) {r0 : Nat → va_E} (h106 : r0 106 = .inl (g.2 0, 4, .inl D)) (h107 : r0 107 = .inl (g.2 0, 40, .inl P)) {cl sl : Nat} (hcl : cl + 5000 ≤ 600312) (hsl : sl + 30000 ≤ 7293410) {H : Heap} {locs : List Loc} (hP : va_P g.1 vwCl (wl 108 L (cw g L x r0)) H) (hS : va_S (fun q : Nat => s.heap.size ≤ q) s.heap H locs) {j9 : Nat} (hj9 : j9 ≤ nn) {ls : Array Slot} (hl : lv_has ls 22 [(0, .ref sb), (1, .ref (L 0)), (2, .ref (L 106)), (3, .ref (L 107)), (5, .int (nI k)), (6, .int (nI (20 + 14 * k))), (7, .int (nI nn)), (8, .int (nI j9))]) (hnext : ∀ (x2 : St) (P2 : Nat → Int32) (nn2 : Nat) (r2 : Nat → va_E) (cl2 sl2 : Nat) (H : Heap) (locs : List Loc) (ls : Array Slot), J35 x2 D P2 nn2 (k + 1) → r2 106 = .inl (g.2 0, 4, .inl D) → r2 107 = .inl (g.2 0, 40, .inl P2) → cl2 ≤ cl + 700 → sl2 ≤ sl + 4200 → va_P g.1 vwCl (wl 108 L (cw g L x2 r2)) H → va_S (fun q : Nat => s.heap.size ≤ q) s.heap H locs → lv_has ls 22 [(4, .int 1), (0, .ref sb), (1, .ref (L 0)), (2, .ref (L 106)), (3, .ref (L 107)), (5, .int (nI k))] → W p l e room_1 s m #[Value.ref sb] below meth c H locs cl2 sl2 (lw_Z below #[Value.ref sb] s) (F0 m 694 ls [])) : W p l e room_1 s m #[Value.ref sb] below meth c H locs cl sl (lw_Z below #[Value.ref sb] s) (F0 m 445 ls []) := by
  obtain ⟨hx, hb, hr, hml, hown, hts0, hX, hbl, hlocks, hgv⟩ := id C0
  have hown : s.vm.findClass RL = some m.cls := hown
  have hts : ∀ w ∈ wsL_law, w.before #[Value.ref sb] s = true := fun w h => hts0 w (wsL_law_in w h)
  have hbA : ¬ (fun q : Nat => s.heap.size ≤ q) sb := Nat.not_le.mpr hbl
  have hn : 108 ≤ 108 := Nat.le_refl _
  have hnk := hJ5.nk
  have hnn := hJ5.gi.nn40
  obtain ⟨hq9, hhr, e3⟩ := hJ5.x3
  obtain ⟨cnt, hcn, hx4⟩ := hJ5.cnt
  rcases Nat.lt_or_ge j9 nn with hj | hj
  · refine lv_aload_n hx hb dL_law_445 rfl (lv_at hl 1 rfl) ?_
    refine lv_bipush (v := 10) hx hb dL_law_446 (by decide) ?_
    refine lv_iload hx hb dL_law_448 (lv_at hl 7 rfl) ?_
    refine lv_aload_n hx hb dL_law_450 rfl (lv_at hl 1 rfl) ?_
    refine wx_calli (va_runV (As := []) (rest := [.int (nI j9), .int 10, .ref (L 0)]) ⟨hx, hb, hml, hown, hts⟩ (k_hour l hst g s.heap.size 108 L (by omega) x r0) (cwV 0 hts gL_law_X3_hour rfl rfl rfl (by decide +kernel) ⟨Nat.le_of_ble_eq_true rfl, Nat.le_of_ble_eq_true rfl⟩) (PW.preV3 (Nat.le_refl _) hJ hK hE hP hS (ci := 5) rfl (by omega) cw_d) rfl rfl hl.1 rfl (lv_room (Nat.le_of_ble_eq_true rfl)) dL_law_451 ⟨(by show _ ≤ 600312; omega), (by show _ ≤ 7293410; omega)⟩) hS (fun r451 u451 H locs h451 hP hS => ?_)
    obtain rfl := h451.trans e3
    refine lv_iconst (v := 1) hx hb dL_law_454 (by decide) ?_
    refine lv_iadd hx hb dL_law_455 ?_
    refine lv_aload_n hx hb dL_law_456 rfl (lv_at hl 0 rfl) ?_
    refine lv_iload hx hb dL_law_457 (lv_at hl 5 rfl) ?_
    refine lv_iconst (v := 2) hx hb dL_law_459 (by decide) ?_
    refine lv_iadd hx hb dL_law_460 ?_
    refine lv_bipush (v := 9) hx hb dL_law_461 (by decide) ?_
    refine wx_calli (va_runS (As := [.ref sb, .int ((nI (20 + 14 * k)) + 2), .int 9]) (rest := [.int ((nI hq9) + 1), .int (nI j9), .int 10, .ref (L 0)]) ⟨hx, hb, hml, hown, hts⟩ (k_pick l hst g s.heap.size 108 L (cw g L x r0) sb sN hsN sx ((nI (20 + 14 * k)) + 2) 9 ((add_n (c := 2) rfl (by omega))) (by decide)) (va_cwS 3 hts gL_law_L_pick rfl rfl rfl (by decide +kernel) ⟨Nat.le_of_ble_eq_true rfl, Nat.le_of_ble_eq_true rfl⟩) (PWs.preS3 (Nat.le_refl _) hJ hK hE hP hS hX hbl) rfl rfl hl.1 rfl (lv_room (Nat.le_of_ble_eq_true rfl)) dL_law_463 ⟨(by show _ ≤ 600312; omega), (by show _ ≤ 7293410; omega)⟩) hS (fun r463 u463 H locs h463 hP hS => ?_)
    obtain ⟨a463, ha463, e9⟩ := pk_nat (n := 9) h463 (by decide) (by decide)
    subst e9
    refine lv_iadd hx hb dL_law_466 ?_
    refine wx_calli (va_runS (As := [.ref (L 0), .int 10, .int (nI j9), .int (((nI hq9) + 1) + (nI a463))]) (rest := []) ⟨hx, hb, hml, hown, hts⟩ (at_10 l hst g s.heap.size 108 L (by omega) x r0 4 (by omega) hJ5.gi.x0 nn hJ5.gi.nn40 hJ5.gi.x1 hJ5.gi.sh (nI j9) (((nI hq9) + 1) + (nI a463))) (va_cwS 4 hts gL_law_L_ask2 rfl rfl rfl (by decide +kernel) ⟨Nat.le_of_ble_eq_true rfl, Nat.le_of_ble_eq_true rfl⟩) (PW.preS3 (Nat.le_refl _) hJ hK hE hP hS) rfl rfl hl.1 rfl (lv_room (Nat.le_of_ble_eq_true rfl)) dL_law_467 ⟨(by show _ ≤ 600312; omega), (by show _ ≤ 7293410; omega)⟩) hS (fun r467 u467 H locs h467 hP hS => ?_)
    rcases A10s hJ5 hj h467 with ⟨hJ6, e35, c9, hc9, rfl⟩ | ⟨rfl, eu⟩ | ⟨rfl, eu⟩
    · refine lv_istore (lv' := [(17, .int (nI c9)), (0, .ref sb), (1, .ref (L 0)), (2, .ref (L 106)), (3, .ref (L 107)), (5, .int (nI k)), (6, .int (nI (20 + 14 * k))), (7, .int (nI nn)), (8, .int (nI j9))]) hx hb dL_law_470 hl (by decide) rfl (fun ls hl => ?_)
      refine lv_iload hx hb dL_law_472 (lv_at hl 8 rfl) ?_
      refine lv_iload hx hb dL_law_474 (lv_at hl 7 rfl) ?_
      refine lv_icmp_ne (tgt := 495) hx hb dL_law_476 (by decide) (fun c476 => ?_) (fun c476 => absurd c476 ((fun h => no_at (by omega) hj h.symm)))
      refine lv_iload hx hb dL_law_495 (lv_at hl 0 rfl) ?_
      refine lv_if_lt (tgt := 515) hx hb dL_law_497 (by decide) (fun c497 => absurd c497 (nI_pos hc9)) (fun c497 => ?_)
      refine lv_aload_n hx hb dL_law_500 rfl (lv_at hl 2 rfl) ?_
      refine lv_bipush (v := 9) hx hb dL_law_501 (by decide) ?_
      refine lv_iload hx hb dL_law_503 (lv_at hl 8 rfl) ?_
      refine lv_iconst (v := 0) hx hb dL_law_505 (by decide) ?_
      refine wx_calli (va_runS (As := [.ref (L 0), .int 9, .int (nI j9), .int 0]) (rest := []) ⟨hx, hb, hml, hown, hts⟩ (at_9 l hst g s.heap.size 108 L (by omega) u467 r0 nn hJ6.gi.nn40 hJ6.gi.x1 (nI j9) 0) (va_cwS 4 hts gL_law_L_ask2 rfl rfl rfl (by decide +kernel) ⟨Nat.le_of_ble_eq_true rfl, Nat.le_of_ble_eq_true rfl⟩) (PW.preS3 (Nat.le_refl _) hJ hK hE hP hS) rfl rfl hl.1 rfl (lv_room (Nat.le_of_ble_eq_true rfl)) dL_law_506 ⟨(by show _ ≤ 600312; omega), (by show _ ≤ 7293410; omega)⟩) hS (fun r506 u506 H locs h506 hP hS => ?_)
      obtain ⟨rfl, eu⟩ := A9r (by omega) hj e35 h506
      have eu := eu.symm
      subst eu
      refine lv_sipush (v := (-2004)) hx hb dL_law_509 (by decide) ?_
      refine lv_icmp_eq (tgt := 531) hx hb dL_law_512 (by decide) (fun c512 => ?_) (fun c512 => absurd (by decide) c512)
      refine lv_iconst (v := 1) hx hb dL_law_531 (by decide) ?_
      refine lv_goto (tgt := 536) hx hb dL_law_532 (by decide) ?_
      refine lv_istore (lv' := [(4, .int 1), (17, .int (nI c9)), (0, .ref sb), (1, .ref (L 0)), (2, .ref (L 106)), (3, .ref (L 107)), (5, .int (nI k)), (6, .int (nI (20 + 14 * k))), (7, .int (nI nn)), (8, .int (nI j9))]) hx hb dL_law_536 hl (by decide) rfl (fun ls hl => ?_)
      refine lv_goto (tgt := 694) hx hb dL_law_538 (by decide) ?_
      exact hnext _ _ _ _ _ _ _ _ _ (hJ6.up (by omega)) h106 h107 (by omega) (by omega) hP hS (lv_sub hl [0, 2, 3, 4, 5, 6] rfl)
    · have eu := eu.symm
      subst eu
      refine lv_istore (lv' := [(17, .int (-2002)), (0, .ref sb), (1, .ref (L 0)), (2, .ref (L 106)), (3, .ref (L 107)), (5, .int (nI k)), (6, .int (nI (20 + 14 * k))), (7, .int (nI nn)), (8, .int (nI j9))]) hx hb dL_law_470 hl (by decide) rfl (fun ls hl => ?_)
      refine lv_iload hx hb dL_law_472 (lv_at hl 8 rfl) ?_
      refine lv_iload hx hb dL_law_474 (lv_at hl 7 rfl) ?_
      refine lv_icmp_ne (tgt := 495) hx hb dL_law_476 (by decide) (fun c476 => ?_) (fun c476 => absurd c476 ((fun h => no_at (by omega) hj h.symm)))
      refine lv_iload hx hb dL_law_495 (lv_at hl 0 rfl) ?_
      refine lv_if_lt (tgt := 515) hx hb dL_law_497 (by decide) (fun c497 => ?_) (fun c497 => absurd (by decide) c497)
      refine lv_iload hx hb dL_law_515 (lv_at hl 0 rfl) ?_
      refine lv_sipush (v := (-2002)) hx hb dL_law_517 (by decide) ?_
      refine lv_icmp_eq (tgt := 531) hx hb dL_law_520 (by decide) (fun c520 => ?_) (fun c520 => absurd (by decide) c520)
      refine lv_iconst (v := 1) hx hb dL_law_531 (by decide) ?_
      refine lv_goto (tgt := 536) hx hb dL_law_532 (by decide) ?_
      refine lv_istore (lv' := [(4, .int 1), (17, .int (-2002)), (0, .ref sb), (1, .ref (L 0)), (2, .ref (L 106)), (3, .ref (L 107)), (5, .int (nI k)), (6, .int (nI (20 + 14 * k))), (7, .int (nI nn)), (8, .int (nI j9))]) hx hb dL_law_536 hl (by decide) rfl (fun ls hl => ?_)
      refine lv_goto (tgt := 694) hx hb dL_law_538 (by decide) ?_
      exact hnext _ _ _ _ _ _ _ _ _ (hJ5.up (by omega)) h106 h107 (by omega) (by omega) hP hS (lv_sub hl [0, 2, 3, 4, 5, 6] rfl)
    · have eu := eu.symm
      subst eu
      refine lv_istore (lv' := [(17, .int (-2004)), (0, .ref sb), (1, .ref (L 0)), (2, .ref (L 106)), (3, .ref (L 107)), (5, .int (nI k)), (6, .int (nI (20 + 14 * k))), (7, .int (nI nn)), (8, .int (nI j9))]) hx hb dL_law_470 hl (by decide) rfl (fun ls hl => ?_)
      refine lv_iload hx hb dL_law_472 (lv_at hl 8 rfl) ?_
      refine lv_iload hx hb dL_law_474 (lv_at hl 7 rfl) ?_
      refine lv_icmp_ne (tgt := 495) hx hb dL_law_476 (by decide) (fun c476 => ?_) (fun c476 => absurd c476 ((fun h => no_at (by omega) hj h.symm)))
      refine lv_iload hx hb dL_law_495 (lv_at hl 0 rfl) ?_
      refine lv_if_lt (tgt := 515) hx hb dL_law_497 (by decide) (fun c497 => ?_) (fun c497 => absurd (by decide) c497)
      refine lv_iload hx hb dL_law_515 (lv_at hl 0 rfl) ?_
      refine lv_sipush (v := (-2002)) hx hb dL_law_517 (by decide) ?_
      refine lv_icmp_eq (tgt := 531) hx hb dL_law_520 (by decide) (fun c520 => absurd c520 (by decide)) (fun c520 => ?_)
      refine lv_iload hx hb dL_law_523 (lv_at hl 0 rfl) ?_
      refine lv_sipush (v := (-2004)) hx hb dL_law_525 (by decide) ?_
      refine lv_icmp_ne (tgt := 535) hx hb dL_law_528 (by decide) (fun c528 => absurd c528 (by decide)) (fun c528 => ?_)
      refine lv_iconst (v := 1) hx hb dL_law_531 (by decide) ?_
      refine lv_goto (tgt := 536) hx hb dL_law_532 (by decide) ?_
      refine lv_istore (lv' := [(4, .int 1), (17, .int (-2004)), (0, .ref sb), (1, .ref (L 0)), (2, .ref (L 106)), (3, .ref (L 107)), (5, .int (nI k)), (6, .int (nI (20 + 14 * k))), (7, .int (nI nn)), (8, .int (nI j9))]) hx hb dL_law_536 hl (by decide) rfl (fun ls hl => ?_)
      refine lv_goto (tgt := 694) hx hb dL_law_538 (by decide) ?_
      exact hnext _ _ _ _ _ _ _ _ _ (hJ5.up (by omega)) h106 h107 (by omega) (by omega) hP hS (lv_sub hl [0, 2, 3, 4, 5, 6] rfl)
  · obtain rfl : nn = j9 := by omega
    refine lv_aload_n hx hb dL_law_445 rfl (lv_at hl 1 rfl) ?_
    refine lv_bipush (v := 10) hx hb dL_law_446 (by decide) ?_
    refine lv_iload hx hb dL_law_448 (lv_at hl 7 rfl) ?_
    refine lv_aload_n hx hb dL_law_450 rfl (lv_at hl 1 rfl) ?_
    refine wx_calli (va_runV (As := []) (rest := [.int (nI nn), .int 10, .ref (L 0)]) ⟨hx, hb, hml, hown, hts⟩ (k_hour l hst g s.heap.size 108 L (by omega) x r0) (cwV 0 hts gL_law_X3_hour rfl rfl rfl (by decide +kernel) ⟨Nat.le_of_ble_eq_true rfl, Nat.le_of_ble_eq_true rfl⟩) (PW.preV3 (Nat.le_refl _) hJ hK hE hP hS (ci := 5) rfl (by omega) cw_d) rfl rfl hl.1 rfl (lv_room (Nat.le_of_ble_eq_true rfl)) dL_law_451 ⟨(by show _ ≤ 600312; omega), (by show _ ≤ 7293410; omega)⟩) hS (fun r451 u451 H locs h451 hP hS => ?_)
    obtain rfl := h451.trans e3
    refine lv_iconst (v := 1) hx hb dL_law_454 (by decide) ?_
    refine lv_iadd hx hb dL_law_455 ?_
    refine lv_aload_n hx hb dL_law_456 rfl (lv_at hl 0 rfl) ?_
    refine lv_iload hx hb dL_law_457 (lv_at hl 5 rfl) ?_
    refine lv_iconst (v := 2) hx hb dL_law_459 (by decide) ?_
    refine lv_iadd hx hb dL_law_460 ?_
    refine lv_bipush (v := 9) hx hb dL_law_461 (by decide) ?_
    refine wx_calli (va_runS (As := [.ref sb, .int ((nI (20 + 14 * k)) + 2), .int 9]) (rest := [.int ((nI hq9) + 1), .int (nI nn), .int 10, .ref (L 0)]) ⟨hx, hb, hml, hown, hts⟩ (k_pick l hst g s.heap.size 108 L (cw g L x r0) sb sN hsN sx ((nI (20 + 14 * k)) + 2) 9 ((add_n (c := 2) rfl (by omega))) (by decide)) (va_cwS 3 hts gL_law_L_pick rfl rfl rfl (by decide +kernel) ⟨Nat.le_of_ble_eq_true rfl, Nat.le_of_ble_eq_true rfl⟩) (PWs.preS3 (Nat.le_refl _) hJ hK hE hP hS hX hbl) rfl rfl hl.1 rfl (lv_room (Nat.le_of_ble_eq_true rfl)) dL_law_463 ⟨(by show _ ≤ 600312; omega), (by show _ ≤ 7293410; omega)⟩) hS (fun r463 u463 H locs h463 hP hS => ?_)
    obtain ⟨a463, ha463, e9⟩ := pk_nat (n := 9) h463 (by decide) (by decide)
    subst e9
    refine lv_iadd hx hb dL_law_466 ?_
    refine wx_calli (va_runS (As := [.ref (L 0), .int 10, .int (nI nn), .int (((nI hq9) + 1) + (nI a463))]) (rest := []) ⟨hx, hb, hml, hown, hts⟩ (at_10 l hst g s.heap.size 108 L (by omega) x r0 4 (by omega) hJ5.gi.x0 nn hJ5.gi.nn40 hJ5.gi.x1 hJ5.gi.sh (nI nn) (((nI hq9) + 1) + (nI a463))) (va_cwS 4 hts gL_law_L_ask2 rfl rfl rfl (by decide +kernel) ⟨Nat.le_of_ble_eq_true rfl, Nat.le_of_ble_eq_true rfl⟩) (PW.preS3 (Nat.le_refl _) hJ hK hE hP hS) rfl rfl hl.1 rfl (lv_room (Nat.le_of_ble_eq_true rfl)) dL_law_467 ⟨(by show _ ≤ 600312; omega), (by show _ ≤ 7293410; omega)⟩) hS (fun r467 u467 H locs h467 hP hS => ?_)
    obtain ⟨rfl, eu⟩ := A10n hJ5.gi.nn40 h467
    have eu := eu.symm
    subst eu
    refine lv_istore (lv' := [(17, .int (-2001)), (0, .ref sb), (1, .ref (L 0)), (2, .ref (L 106)), (3, .ref (L 107)), (5, .int (nI k)), (6, .int (nI (20 + 14 * k))), (7, .int (nI nn)), (8, .int (nI nn))]) hx hb dL_law_470 hl (by decide) rfl (fun ls hl => ?_)
    refine lv_iload hx hb dL_law_472 (lv_at hl 8 rfl) ?_
    refine lv_iload hx hb dL_law_474 (lv_at hl 7 rfl) ?_
    refine lv_icmp_ne (tgt := 495) hx hb dL_law_476 (by decide) (fun c476 => absurd c476 (fun h => h rfl)) (fun c476 => ?_)
    refine lv_iload hx hb dL_law_479 (lv_at hl 0 rfl) ?_
    refine lv_sipush (v := (-2001)) hx hb dL_law_481 (by decide) ?_
    refine lv_icmp_ne (tgt := 491) hx hb dL_law_484 (by decide) (fun c484 => absurd c484 (by decide)) (fun c484 => ?_)
    refine lv_iconst (v := 1) hx hb dL_law_487 (by decide) ?_
    refine lv_goto (tgt := 536) hx hb dL_law_488 (by decide) ?_
    refine lv_istore (lv' := [(4, .int 1), (17, .int (-2001)), (0, .ref sb), (1, .ref (L 0)), (2, .ref (L 106)), (3, .ref (L 107)), (5, .int (nI k)), (6, .int (nI (20 + 14 * k))), (7, .int (nI nn)), (8, .int (nI nn))]) hx hb dL_law_536 hl (by decide) rfl (fun ls hl => ?_)
    refine lv_goto (tgt := 694) hx hb dL_law_538 (by decide) ?_
    exact hnext _ _ _ _ _ _ _ _ _ (hJ5.up (by omega)) h106 h107 (by omega) (by omega) hP hS (lv_sub hl [0, 2, 3, 4, 5, 6] rfl)

set_option maxHeartbeats 8000000 in
set_option maxRecDepth 100000 in
theorem law_q4 {p : Program} {e : Env} {s : State} {m : MethodId} {below : List Frame} {meth : Method} {c : Code} (l : Launch) (hst : l.stackTraces = false) {sb sN : Nat} {sx : Nat → Int32} (hsN : sN ≤ 1000) (C0 : lw_At p s m meth c sb sN sx) (g : gE) (L : Nat → Nat) (hJ : wj 108 L (fun q : Nat => s.heap.size ≤ q)) (hK : va_K g.1 vwCl (tysC g) s) (hE : EE SS (fun q : Nat => s.heap.size ≤ q) s) {D : Nat → Int32} {k : Nat} (hk : k < 26) {x : St} {P : Nat → Int32} {nn : Nat} (hJ5 : J35 x D P nn k) {r0 : Nat → va_E} (h106 : r0 106 = .inl (g.2 0, 4, .inl D)) (h107 : r0 107 = .inl (g.2 0, 40, .inl P)) {cl sl : Nat} (hcl : cl + 5000 ≤ 600312) (hsl : sl + 30000 ≤ 7293410) {H : Heap} {locs : List Loc} (hP : va_P g.1 vwCl (wl 108 L (cw g L x r0)) H) (hS : va_S (fun q : Nat => s.heap.size ≤ q) s.heap H locs) {j9 : Nat} (hj9 : j9 ≤ nn) {ls : Array Slot} (hl : lv_has ls 22 [(0, .ref sb), (1, .ref (L 0)), (2, .ref (L 106)), (3, .ref (L 107)), (5, .int (nI k)), (6, .int (nI (20 + 14 * k))), (7, .int (nI nn)), (8, .int (nI j9))]) (hnext : ∀ (x2 : St) (P2 : Nat → Int32) (nn2 : Nat) (r2 : Nat → va_E) (cl2 sl2 : Nat) (H : Heap) (locs : List Loc) (ls : Array Slot), J35 x2 D P2 nn2 (k + 1) → r2 106 = .inl (g.2 0, 4, .inl D) → r2 107 = .inl (g.2 0, 40, .inl P2) → cl2 ≤ cl + 700 → sl2 ≤ sl + 4200 → va_P g.1 vwCl (wl 108 L (cw g L x2 r2)) H → va_S (fun q : Nat => s.heap.size ≤ q) s.heap H locs → lv_has ls 22 [(4, .int 1), (0, .ref sb), (1, .ref (L 0)), (2, .ref (L 106)), (3, .ref (L 107)), (5, .int (nI k))] → W p l e room_1 s m #[Value.ref sb] below meth c H locs cl2 sl2 (lw_Z below #[Value.ref sb] s) (F0 m 694 ls [])) : W p l e room_1 s m #[Value.ref sb] below meth c H locs cl sl (lw_Z below #[Value.ref sb] s) (F0 m 541 ls []) := by
  obtain ⟨hx, hb, hr, hml, hown, hts0, hX, hbl, hlocks, hgv⟩ := id C0
  have hown : s.vm.findClass RL = some m.cls := hown
  have hts : ∀ w ∈ wsL_law, w.before #[Value.ref sb] s = true := fun w h => hts0 w (wsL_law_in w h)
  have hbA : ¬ (fun q : Nat => s.heap.size ≤ q) sb := Nat.not_le.mpr hbl
  have hn : 108 ≤ 108 := Nat.le_refl _
  have hnk := hJ5.nk
  have hnn := hJ5.gi.nn40
  obtain ⟨hq9, hhr, e3⟩ := hJ5.x3
  obtain ⟨cnt, hcn, hx4⟩ := hJ5.cnt
  rcases Nat.lt_or_ge j9 nn with hj | hj
  · refine lv_aload_n hx hb dL_law_541 rfl (lv_at hl 0 rfl) ?_
    refine lv_iload hx hb dL_law_542 (lv_at hl 5 rfl) ?_
    refine lv_iconst (v := 2) hx hb dL_law_544 (by decide) ?_
    refine lv_iadd hx hb dL_law_545 ?_
    refine wx_calli (va_runS (As := [.ref sb, .int ((nI (20 + 14 * k)) + 2)]) (rest := []) ⟨hx, hb, hml, hown, hts⟩ (k_word l hst g s.heap.size 108 L (cw g L x r0) sb sN hsN sx ((nI (20 + 14 * k)) + 2) ((add_n (c := 2) rfl (by omega))) ((add_n2 (c := 2) rfl (by omega)))) (va_cwS 2 hts gL_law_L_word rfl rfl rfl (by decide +kernel) ⟨Nat.le_of_ble_eq_true rfl, Nat.le_of_ble_eq_true rfl⟩) (PWs.preS3 (Nat.le_refl _) hJ hK hE hP hS hX hbl) rfl rfl hl.1 rfl (lv_room (Nat.le_of_ble_eq_true rfl)) dL_law_546 ⟨(by show _ ≤ 600312; omega), (by show _ ≤ 7293410; omega)⟩) hS (fun r546 u546 H locs h546 hP hS => ?_)
    refine lv_istore (lv' := [(18, .int r546), (0, .ref sb), (1, .ref (L 0)), (2, .ref (L 106)), (3, .ref (L 107)), (5, .int (nI k)), (6, .int (nI (20 + 14 * k))), (7, .int (nI nn)), (8, .int (nI j9))]) hx hb dL_law_549 hl (by decide) rfl (fun ls hl => ?_)
    refine lv_aload_n hx hb dL_law_551 rfl (lv_at hl 2 rfl) ?_
    refine lv_bipush (v := 11) hx hb dL_law_552 (by decide) ?_
    refine lv_iload hx hb dL_law_554 (lv_at hl 8 rfl) ?_
    refine lv_iload hx hb dL_law_556 (lv_at hl 0 rfl) ?_
    refine wx_calli (va_runS (As := [.ref (L 0), .int 11, .int (nI j9), .int r546]) (rest := []) ⟨hx, hb, hml, hown, hts⟩ (at_11 l hst g s.heap.size 108 L (by omega) x r0 4 (by omega) hJ5.gi.x0 nn hJ5.gi.nn40 hJ5.gi.x1 hJ5.gi.rk (nI j9) r546) (va_cwS 4 hts gL_law_L_ask2 rfl rfl rfl (by decide +kernel) ⟨Nat.le_of_ble_eq_true rfl, Nat.le_of_ble_eq_true rfl⟩) (PW.preS3 (Nat.le_refl _) hJ hK hE hP hS) rfl rfl hl.1 rfl (lv_room (Nat.le_of_ble_eq_true rfl)) dL_law_558 ⟨(by show _ ≤ 600312; omega), (by show _ ≤ 7293410; omega)⟩) hS (fun r558 u558 H locs h558 hP hS => ?_)
    rcases A11s hJ5 (by omega) hj h558 with ⟨rfl, hJ6⟩ | ⟨rfl, eu⟩ | ⟨rfl, eu⟩
    · refine lv_istore (lv' := [(19, .int (nI nn)), (18, .int r546), (0, .ref sb), (1, .ref (L 0)), (2, .ref (L 106)), (3, .ref (L 107)), (5, .int (nI k)), (6, .int (nI (20 + 14 * k))), (7, .int (nI nn)), (8, .int (nI j9))]) hx hb dL_law_561 hl (by decide) rfl (fun ls hl => ?_)
      refine lv_iload hx hb dL_law_563 (lv_at hl 9 rfl) ?_
      refine lv_iload hx hb dL_law_565 (lv_at hl 8 rfl) ?_
      refine lv_icmp_ne (tgt := 586) hx hb dL_law_567 (by decide) (fun c567 => ?_) (fun c567 => absurd c567 ((fun h => no_at (by omega) hj h.symm)))
      refine lv_iload hx hb dL_law_586 (lv_at hl 0 rfl) ?_
      refine lv_iload hx hb dL_law_588 (lv_at hl 8 rfl) ?_
      refine lv_icmp_eq (tgt := 609) hx hb dL_law_590 (by decide) (fun c590 => ?_) (fun c590 => absurd (rfl) c590)
      refine lv_iconst (v := 1) hx hb dL_law_609 (by decide) ?_
      refine lv_goto (tgt := 614) hx hb dL_law_610 (by decide) ?_
      refine lv_istore (lv' := [(4, .int 1), (19, .int (nI nn)), (18, .int r546), (0, .ref sb), (1, .ref (L 0)), (2, .ref (L 106)), (3, .ref (L 107)), (5, .int (nI k)), (6, .int (nI (20 + 14 * k))), (7, .int (nI nn)), (8, .int (nI j9))]) hx hb dL_law_614 hl (by decide) rfl (fun ls hl => ?_)
      refine lv_aload_n hx hb dL_law_616 rfl (lv_at hl 6 rfl) ?_
      refine lv_iload hx hb dL_law_617 (lv_at hl 9 rfl) ?_
      refine lv_iload hx hb dL_law_619 (lv_at hl 1 rfl) ?_
      refine lv_iload hx hb dL_law_621 (lv_at hl 9 rfl) ?_
      refine lv_icmp_ne (tgt := 631) hx hb dL_law_623 (by decide) (fun c623 => absurd c623 (fun h => h rfl)) (fun c623 => ?_)
      refine lv_iload hx hb dL_law_626 (lv_at hl 2 rfl) ?_
      refine lv_goto (tgt := 632) hx hb dL_law_628 (by decide) ?_
      refine wx_iast (D := g.1) (cl := vwCl) (N := 40) (f := P) (w' := cw g L u558 (va_up r0 107 (.inl (g.2 0, 40, .inl (upd P nn r546))))) hx hb hK hP hJ hS (107) 0 (by omega) ((cw_ge (by decide)).trans h107) rfl (i := nI nn) (vp_in_nI (by omega) (by decide)) dL_law_632 (by rw [nI_clamp (by omega)]; exact cw_rest (by decide)) (fun H locs hP hS => ?_)
      refine lv_goto (tgt := 694) hx hb dL_law_633 (by decide) ?_
      exact hnext _ _ _ _ _ _ _ _ _ hJ6 ((va_up_ne _ _ (by decide)).trans h106) (va_up_self _ _ _) (by omega) (by omega) hP hS (lv_sub hl [0, 3, 4, 5, 6, 7] rfl)
    · have eu := eu.symm
      subst eu
      refine lv_istore (lv' := [(19, .int (-2002)), (18, .int r546), (0, .ref sb), (1, .ref (L 0)), (2, .ref (L 106)), (3, .ref (L 107)), (5, .int (nI k)), (6, .int (nI (20 + 14 * k))), (7, .int (nI nn)), (8, .int (nI j9))]) hx hb dL_law_561 hl (by decide) rfl (fun ls hl => ?_)
      refine lv_iload hx hb dL_law_563 (lv_at hl 9 rfl) ?_
      refine lv_iload hx hb dL_law_565 (lv_at hl 8 rfl) ?_
      refine lv_icmp_ne (tgt := 586) hx hb dL_law_567 (by decide) (fun c567 => ?_) (fun c567 => absurd c567 ((fun h => no_at (by omega) hj h.symm)))
      refine lv_iload hx hb dL_law_586 (lv_at hl 0 rfl) ?_
      refine lv_iload hx hb dL_law_588 (lv_at hl 8 rfl) ?_
      refine lv_icmp_eq (tgt := 609) hx hb dL_law_590 (by decide) (fun c590 => absurd c590 (ng_ne (by decide) (by omega))) (fun c590 => ?_)
      refine lv_iload hx hb dL_law_593 (lv_at hl 0 rfl) ?_
      refine lv_sipush (v := (-2002)) hx hb dL_law_595 (by decide) ?_
      refine lv_icmp_eq (tgt := 609) hx hb dL_law_598 (by decide) (fun c598 => ?_) (fun c598 => absurd (by decide) c598)
      refine lv_iconst (v := 1) hx hb dL_law_609 (by decide) ?_
      refine lv_goto (tgt := 614) hx hb dL_law_610 (by decide) ?_
      refine lv_istore (lv' := [(4, .int 1), (19, .int (-2002)), (18, .int r546), (0, .ref sb), (1, .ref (L 0)), (2, .ref (L 106)), (3, .ref (L 107)), (5, .int (nI k)), (6, .int (nI (20 + 14 * k))), (7, .int (nI nn)), (8, .int (nI j9))]) hx hb dL_law_614 hl (by decide) rfl (fun ls hl => ?_)
      refine lv_aload_n hx hb dL_law_616 rfl (lv_at hl 6 rfl) ?_
      refine lv_iload hx hb dL_law_617 (lv_at hl 9 rfl) ?_
      refine lv_iload hx hb dL_law_619 (lv_at hl 1 rfl) ?_
      refine lv_iload hx hb dL_law_621 (lv_at hl 9 rfl) ?_
      refine lv_icmp_ne (tgt := 631) hx hb dL_law_623 (by decide) (fun c623 => ?_) (fun c623 => absurd c623 (ng_ne (by decide) (by omega)))
      refine lv_iconst (v := 0) hx hb dL_law_631 (by decide) ?_
      refine wx_iast (D := g.1) (cl := vwCl) (N := 40) (f := P) (w' := cw g L x (va_up r0 107 (.inl (g.2 0, 40, .inl (upd P nn 0))))) hx hb hK hP hJ hS (107) 0 (by omega) ((cw_ge (by decide)).trans h107) rfl (i := nI nn) (vp_in_nI (by omega) (by decide)) dL_law_632 (by rw [nI_clamp (by omega)]; exact cw_rest (by decide)) (fun H locs hP hS => ?_)
      refine lv_goto (tgt := 694) hx hb dL_law_633 (by decide) ?_
      exact hnext _ _ _ _ _ _ _ _ _ ((J35.row (v := 0) hJ5).up (by omega)) ((va_up_ne _ _ (by decide)).trans h106) (va_up_self _ _ _) (by omega) (by omega) hP hS (lv_sub hl [0, 3, 4, 5, 6, 7] rfl)
    · have eu := eu.symm
      subst eu
      refine lv_istore (lv' := [(19, .int (-2004)), (18, .int r546), (0, .ref sb), (1, .ref (L 0)), (2, .ref (L 106)), (3, .ref (L 107)), (5, .int (nI k)), (6, .int (nI (20 + 14 * k))), (7, .int (nI nn)), (8, .int (nI j9))]) hx hb dL_law_561 hl (by decide) rfl (fun ls hl => ?_)
      refine lv_iload hx hb dL_law_563 (lv_at hl 9 rfl) ?_
      refine lv_iload hx hb dL_law_565 (lv_at hl 8 rfl) ?_
      refine lv_icmp_ne (tgt := 586) hx hb dL_law_567 (by decide) (fun c567 => ?_) (fun c567 => absurd c567 ((fun h => no_at (by omega) hj h.symm)))
      refine lv_iload hx hb dL_law_586 (lv_at hl 0 rfl) ?_
      refine lv_iload hx hb dL_law_588 (lv_at hl 8 rfl) ?_
      refine lv_icmp_eq (tgt := 609) hx hb dL_law_590 (by decide) (fun c590 => absurd c590 (ng_ne (by decide) (by omega))) (fun c590 => ?_)
      refine lv_iload hx hb dL_law_593 (lv_at hl 0 rfl) ?_
      refine lv_sipush (v := (-2002)) hx hb dL_law_595 (by decide) ?_
      refine lv_icmp_eq (tgt := 609) hx hb dL_law_598 (by decide) (fun c598 => absurd c598 (by decide)) (fun c598 => ?_)
      refine lv_iload hx hb dL_law_601 (lv_at hl 0 rfl) ?_
      refine lv_sipush (v := (-2004)) hx hb dL_law_603 (by decide) ?_
      refine lv_icmp_ne (tgt := 613) hx hb dL_law_606 (by decide) (fun c606 => absurd c606 (by decide)) (fun c606 => ?_)
      refine lv_iconst (v := 1) hx hb dL_law_609 (by decide) ?_
      refine lv_goto (tgt := 614) hx hb dL_law_610 (by decide) ?_
      refine lv_istore (lv' := [(4, .int 1), (19, .int (-2004)), (18, .int r546), (0, .ref sb), (1, .ref (L 0)), (2, .ref (L 106)), (3, .ref (L 107)), (5, .int (nI k)), (6, .int (nI (20 + 14 * k))), (7, .int (nI nn)), (8, .int (nI j9))]) hx hb dL_law_614 hl (by decide) rfl (fun ls hl => ?_)
      refine lv_aload_n hx hb dL_law_616 rfl (lv_at hl 6 rfl) ?_
      refine lv_iload hx hb dL_law_617 (lv_at hl 9 rfl) ?_
      refine lv_iload hx hb dL_law_619 (lv_at hl 1 rfl) ?_
      refine lv_iload hx hb dL_law_621 (lv_at hl 9 rfl) ?_
      refine lv_icmp_ne (tgt := 631) hx hb dL_law_623 (by decide) (fun c623 => ?_) (fun c623 => absurd c623 (ng_ne (by decide) (by omega)))
      refine lv_iconst (v := 0) hx hb dL_law_631 (by decide) ?_
      refine wx_iast (D := g.1) (cl := vwCl) (N := 40) (f := P) (w' := cw g L x (va_up r0 107 (.inl (g.2 0, 40, .inl (upd P nn 0))))) hx hb hK hP hJ hS (107) 0 (by omega) ((cw_ge (by decide)).trans h107) rfl (i := nI nn) (vp_in_nI (by omega) (by decide)) dL_law_632 (by rw [nI_clamp (by omega)]; exact cw_rest (by decide)) (fun H locs hP hS => ?_)
      refine lv_goto (tgt := 694) hx hb dL_law_633 (by decide) ?_
      exact hnext _ _ _ _ _ _ _ _ _ ((J35.row (v := 0) hJ5).up (by omega)) ((va_up_ne _ _ (by decide)).trans h106) (va_up_self _ _ _) (by omega) (by omega) hP hS (lv_sub hl [0, 3, 4, 5, 6, 7] rfl)
  · obtain rfl : nn = j9 := by omega
    refine lv_aload_n hx hb dL_law_541 rfl (lv_at hl 0 rfl) ?_
    refine lv_iload hx hb dL_law_542 (lv_at hl 5 rfl) ?_
    refine lv_iconst (v := 2) hx hb dL_law_544 (by decide) ?_
    refine lv_iadd hx hb dL_law_545 ?_
    refine wx_calli (va_runS (As := [.ref sb, .int ((nI (20 + 14 * k)) + 2)]) (rest := []) ⟨hx, hb, hml, hown, hts⟩ (k_word l hst g s.heap.size 108 L (cw g L x r0) sb sN hsN sx ((nI (20 + 14 * k)) + 2) ((add_n (c := 2) rfl (by omega))) ((add_n2 (c := 2) rfl (by omega)))) (va_cwS 2 hts gL_law_L_word rfl rfl rfl (by decide +kernel) ⟨Nat.le_of_ble_eq_true rfl, Nat.le_of_ble_eq_true rfl⟩) (PWs.preS3 (Nat.le_refl _) hJ hK hE hP hS hX hbl) rfl rfl hl.1 rfl (lv_room (Nat.le_of_ble_eq_true rfl)) dL_law_546 ⟨(by show _ ≤ 600312; omega), (by show _ ≤ 7293410; omega)⟩) hS (fun r546 u546 H locs h546 hP hS => ?_)
    refine lv_istore (lv' := [(18, .int r546), (0, .ref sb), (1, .ref (L 0)), (2, .ref (L 106)), (3, .ref (L 107)), (5, .int (nI k)), (6, .int (nI (20 + 14 * k))), (7, .int (nI nn)), (8, .int (nI nn))]) hx hb dL_law_549 hl (by decide) rfl (fun ls hl => ?_)
    refine lv_aload_n hx hb dL_law_551 rfl (lv_at hl 2 rfl) ?_
    refine lv_bipush (v := 11) hx hb dL_law_552 (by decide) ?_
    refine lv_iload hx hb dL_law_554 (lv_at hl 8 rfl) ?_
    refine lv_iload hx hb dL_law_556 (lv_at hl 0 rfl) ?_
    refine wx_calli (va_runS (As := [.ref (L 0), .int 11, .int (nI nn), .int r546]) (rest := []) ⟨hx, hb, hml, hown, hts⟩ (at_11 l hst g s.heap.size 108 L (by omega) x r0 4 (by omega) hJ5.gi.x0 nn hJ5.gi.nn40 hJ5.gi.x1 hJ5.gi.rk (nI nn) r546) (va_cwS 4 hts gL_law_L_ask2 rfl rfl rfl (by decide +kernel) ⟨Nat.le_of_ble_eq_true rfl, Nat.le_of_ble_eq_true rfl⟩) (PW.preS3 (Nat.le_refl _) hJ hK hE hP hS) rfl rfl hl.1 rfl (lv_room (Nat.le_of_ble_eq_true rfl)) dL_law_558 ⟨(by show _ ≤ 600312; omega), (by show _ ≤ 7293410; omega)⟩) hS (fun r558 u558 H locs h558 hP hS => ?_)
    obtain ⟨rfl, eu⟩ := A11n hJ5.gi.nn40 h558
    have eu := eu.symm
    subst eu
    refine lv_istore (lv' := [(19, .int (-2001)), (18, .int r546), (0, .ref sb), (1, .ref (L 0)), (2, .ref (L 106)), (3, .ref (L 107)), (5, .int (nI k)), (6, .int (nI (20 + 14 * k))), (7, .int (nI nn)), (8, .int (nI nn))]) hx hb dL_law_561 hl (by decide) rfl (fun ls hl => ?_)
    refine lv_iload hx hb dL_law_563 (lv_at hl 9 rfl) ?_
    refine lv_iload hx hb dL_law_565 (lv_at hl 8 rfl) ?_
    refine lv_icmp_ne (tgt := 586) hx hb dL_law_567 (by decide) (fun c567 => absurd c567 (fun h => h rfl)) (fun c567 => ?_)
    refine lv_iload hx hb dL_law_570 (lv_at hl 0 rfl) ?_
    refine lv_sipush (v := (-2001)) hx hb dL_law_572 (by decide) ?_
    refine lv_icmp_ne (tgt := 582) hx hb dL_law_575 (by decide) (fun c575 => absurd c575 (by decide)) (fun c575 => ?_)
    refine lv_iconst (v := 1) hx hb dL_law_578 (by decide) ?_
    refine lv_goto (tgt := 614) hx hb dL_law_579 (by decide) ?_
    refine lv_istore (lv' := [(4, .int 1), (19, .int (-2001)), (18, .int r546), (0, .ref sb), (1, .ref (L 0)), (2, .ref (L 106)), (3, .ref (L 107)), (5, .int (nI k)), (6, .int (nI (20 + 14 * k))), (7, .int (nI nn)), (8, .int (nI nn))]) hx hb dL_law_614 hl (by decide) rfl (fun ls hl => ?_)
    refine lv_aload_n hx hb dL_law_616 rfl (lv_at hl 6 rfl) ?_
    refine lv_iload hx hb dL_law_617 (lv_at hl 9 rfl) ?_
    refine lv_iload hx hb dL_law_619 (lv_at hl 1 rfl) ?_
    refine lv_iload hx hb dL_law_621 (lv_at hl 9 rfl) ?_
    refine lv_icmp_ne (tgt := 631) hx hb dL_law_623 (by decide) (fun c623 => ?_) (fun c623 => absurd c623 (ng_ne (by decide) (by omega)))
    refine lv_iconst (v := 0) hx hb dL_law_631 (by decide) ?_
    refine wx_iast (D := g.1) (cl := vwCl) (N := 40) (f := P) (w' := cw g L x (va_up r0 107 (.inl (g.2 0, 40, .inl (upd P nn 0))))) hx hb hK hP hJ hS (107) 0 (by omega) ((cw_ge (by decide)).trans h107) rfl (i := nI nn) (vp_in_nI (by omega) (by decide)) dL_law_632 (by rw [nI_clamp (by omega)]; exact cw_rest (by decide)) (fun H locs hP hS => ?_)
    refine lv_goto (tgt := 694) hx hb dL_law_633 (by decide) ?_
    exact hnext _ _ _ _ _ _ _ _ _ ((J35.row (v := 0) hJ5).up (by omega)) ((va_up_ne _ _ (by decide)).trans h106) (va_up_self _ _ _) (by omega) (by omega) hP hS (lv_sub hl [0, 3, 4, 5, 6, 7] rfl)

set_option maxHeartbeats 8000000 in
set_option maxRecDepth 100000 in
theorem law_q5 {p : Program} {e : Env} {s : State} {m : MethodId} {below : List Frame} {meth : Method} {c : Code} (l : Launch) (hst : l.stackTraces = false) {sb sN : Nat} {sx : Nat → Int32} (hsN : sN ≤ 1000) (C0 : lw_At p s m meth c sb sN sx) (g : gE) (L : Nat → Nat) (hJ : wj 108 L (fun q : Nat => s.heap.size ≤ q)) (hK : va_K g.1 vwCl (tysC g) s) (hE : EE SS (fun q : Nat => s.heap.size ≤ q) s) {D : Nat → Int32} {k : Nat} (hk : k < 26) {x : St} {P : Nat → Int32} {nn : Nat} (hJ5 : J35 x D P nn k) {r0 : Nat → va_E} (h106 : r0 106 = .inl (g.2 0, 4, .inl D)) (h107 : r0 107 = .inl (g.2 0, 40, .inl P)) {cl sl : Nat} (hcl : cl + 5000 ≤ 600312) (hsl : sl + 30000 ≤ 7293410) {H : Heap} {locs : List Loc} (hP : va_P g.1 vwCl (wl 108 L (cw g L x r0)) H) (hS : va_S (fun q : Nat => s.heap.size ≤ q) s.heap H locs) {j9 : Nat} (hj9 : j9 ≤ nn) {ls : Array Slot} (hl : lv_has ls 22 [(0, .ref sb), (1, .ref (L 0)), (2, .ref (L 106)), (3, .ref (L 107)), (5, .int (nI k)), (6, .int (nI (20 + 14 * k))), (7, .int (nI nn)), (8, .int (nI j9))]) (hnext : ∀ (x2 : St) (P2 : Nat → Int32) (nn2 : Nat) (r2 : Nat → va_E) (cl2 sl2 : Nat) (H : Heap) (locs : List Loc) (ls : Array Slot), J35 x2 D P2 nn2 (k + 1) → r2 106 = .inl (g.2 0, 4, .inl D) → r2 107 = .inl (g.2 0, 40, .inl P2) → cl2 ≤ cl + 700 → sl2 ≤ sl + 4200 → va_P g.1 vwCl (wl 108 L (cw g L x2 r2)) H → va_S (fun q : Nat => s.heap.size ≤ q) s.heap H locs → lv_has ls 22 [(4, .int 1), (0, .ref sb), (1, .ref (L 0)), (2, .ref (L 106)), (3, .ref (L 107)), (5, .int (nI k))] → W p l e room_1 s m #[Value.ref sb] below meth c H locs cl2 sl2 (lw_Z below #[Value.ref sb] s) (F0 m 694 ls [])) : W p l e room_1 s m #[Value.ref sb] below meth c H locs cl sl (lw_Z below #[Value.ref sb] s) (F0 m 636 ls []) := by
  obtain ⟨hx, hb, hr, hml, hown, hts0, hX, hbl, hlocks, hgv⟩ := id C0
  have hown : s.vm.findClass RL = some m.cls := hown
  have hts : ∀ w ∈ wsL_law, w.before #[Value.ref sb] s = true := fun w h => hts0 w (wsL_law_in w h)
  have hbA : ¬ (fun q : Nat => s.heap.size ≤ q) sb := Nat.not_le.mpr hbl
  have hn : 108 ≤ 108 := Nat.le_refl _
  have hnk := hJ5.nk
  have hnn := hJ5.gi.nn40
  obtain ⟨hq9, hhr, e3⟩ := hJ5.x3
  obtain ⟨cnt, hcn, hx4⟩ := hJ5.cnt
  refine lv_aload_n hx hb dL_law_636 rfl (lv_at hl 1 rfl) ?_
  refine lv_aload_n hx hb dL_law_637 rfl (lv_at hl 0 rfl) ?_
  refine lv_iload hx hb dL_law_638 (lv_at hl 5 rfl) ?_
  refine lv_iconst (v := 1) hx hb dL_law_640 (by decide) ?_
  refine lv_iadd hx hb dL_law_641 ?_
  refine lv_aload_n hx hb dL_law_642 rfl (lv_at hl 3 rfl) ?_
  refine wx_calli (va_runS (As := [.ref (L 0), .ref sb, .int ((nI (20 + 14 * k)) + 1), .ref (L 107)]) (rest := []) ⟨hx, hb, hml, hown, hts⟩ (k_areSuspects l hst g s.heap.size 108 L (by omega) x r0 sb sN hsN sx ((nI (20 + 14 * k)) + 1) (add_n (c := 1) rfl (by omega)) (add_n9 (c := 1) rfl (by omega)) P h107 hJ5.gi.x0 nn hJ5.gi.nn40 hJ5.gi.x1 hJ5.pp (hJ5.sr (by omega))) (va_cwS 4 hts gL_law_L_areSuspects rfl rfl rfl (by decide +kernel) ⟨Nat.le_of_ble_eq_true rfl, Nat.le_of_ble_eq_true rfl⟩) (PWs.preS3 (Nat.le_refl _) hJ hK hE hP hS hX hbl) rfl rfl hl.1 rfl (lv_room (Nat.le_of_ble_eq_true rfl)) dL_law_643 ⟨(by show _ ≤ 600312; omega), (by show _ ≤ 7293410; omega)⟩) hS (fun r643 u643 H locs h643 hP hS => ?_)
  obtain rfl := h643
  refine lv_istore (lv' := [(4, .int 1), (0, .ref sb), (1, .ref (L 0)), (2, .ref (L 106)), (3, .ref (L 107)), (5, .int (nI k)), (6, .int (nI (20 + 14 * k))), (7, .int (nI nn)), (8, .int (nI j9))]) hx hb dL_law_646 hl (by decide) rfl (fun ls hl => ?_)
  refine lv_goto (tgt := 694) hx hb dL_law_648 (by decide) ?_
  exact hnext _ _ _ _ _ _ _ _ _ (hJ5.up (by omega)) h106 h107 (by omega) (by omega) hP hS (lv_sub hl [0, 1, 2, 3, 4, 5] rfl)

set_option maxHeartbeats 8000000 in
set_option maxRecDepth 100000 in
theorem law_q6 {p : Program} {e : Env} {s : State} {m : MethodId} {below : List Frame} {meth : Method} {c : Code} (l : Launch) (hst : l.stackTraces = false) {sb sN : Nat} {sx : Nat → Int32} (hsN : sN ≤ 1000) (C0 : lw_At p s m meth c sb sN sx) (g : gE) (L : Nat → Nat) (hJ : wj 108 L (fun q : Nat => s.heap.size ≤ q)) (hK : va_K g.1 vwCl (tysC g) s) (hE : EE SS (fun q : Nat => s.heap.size ≤ q) s) {D : Nat → Int32} {k : Nat} (hk : k < 26) {x : St} {P : Nat → Int32} {nn : Nat} (hJ5 : J35 x D P nn k) {r0 : Nat → va_E} (h106 : r0 106 = .inl (g.2 0, 4, .inl D)) (h107 : r0 107 = .inl (g.2 0, 40, .inl P)) {cl sl : Nat} (hcl : cl + 5000 ≤ 600312) (hsl : sl + 30000 ≤ 7293410) {H : Heap} {locs : List Loc} (hP : va_P g.1 vwCl (wl 108 L (cw g L x r0)) H) (hS : va_S (fun q : Nat => s.heap.size ≤ q) s.heap H locs) {j9 : Nat} (hj9 : j9 ≤ nn) {ls : Array Slot} (hl : lv_has ls 22 [(0, .ref sb), (1, .ref (L 0)), (2, .ref (L 106)), (3, .ref (L 107)), (5, .int (nI k)), (6, .int (nI (20 + 14 * k))), (7, .int (nI nn)), (8, .int (nI j9))]) (hnext : ∀ (x2 : St) (P2 : Nat → Int32) (nn2 : Nat) (r2 : Nat → va_E) (cl2 sl2 : Nat) (H : Heap) (locs : List Loc) (ls : Array Slot), J35 x2 D P2 nn2 (k + 1) → r2 106 = .inl (g.2 0, 4, .inl D) → r2 107 = .inl (g.2 0, 40, .inl P2) → cl2 ≤ cl + 700 → sl2 ≤ sl + 4200 → va_P g.1 vwCl (wl 108 L (cw g L x2 r2)) H → va_S (fun q : Nat => s.heap.size ≤ q) s.heap H locs → lv_has ls 22 [(4, .int 1), (0, .ref sb), (1, .ref (L 0)), (2, .ref (L 106)), (3, .ref (L 107)), (5, .int (nI k))] → W p l e room_1 s m #[Value.ref sb] below meth c H locs cl2 sl2 (lw_Z below #[Value.ref sb] s) (F0 m 694 ls [])) : W p l e room_1 s m #[Value.ref sb] below meth c H locs cl sl (lw_Z below #[Value.ref sb] s) (F0 m 651 ls []) := by
  obtain ⟨hx, hb, hr, hml, hown, hts0, hX, hbl, hlocks, hgv⟩ := id C0
  have hown : s.vm.findClass RL = some m.cls := hown
  have hts : ∀ w ∈ wsL_law, w.before #[Value.ref sb] s = true := fun w h => hts0 w (wsL_law_in w h)
  have hbA : ¬ (fun q : Nat => s.heap.size ≤ q) sb := Nat.not_le.mpr hbl
  have hn : 108 ≤ 108 := Nat.le_refl _
  have hnk := hJ5.nk
  have hnn := hJ5.gi.nn40
  obtain ⟨hq9, hhr, e3⟩ := hJ5.x3
  obtain ⟨cnt, hcn, hx4⟩ := hJ5.cnt
  refine lv_aload_n hx hb dL_law_651 rfl (lv_at hl 1 rfl) ?_
  refine wx_calli (va_runV (As := []) (rest := []) ⟨hx, hb, hml, hown, hts⟩ (k_hour l hst g s.heap.size 108 L (by omega) x r0) (cwV 0 hts gL_law_X3_hour rfl rfl rfl (by decide +kernel) ⟨Nat.le_of_ble_eq_true rfl, Nat.le_of_ble_eq_true rfl⟩) (PW.preV3 (Nat.le_refl _) hJ hK hE hP hS (ci := 5) rfl (by omega) cw_d) rfl rfl hl.1 rfl (lv_room (Nat.le_of_ble_eq_true rfl)) dL_law_652 ⟨(by show _ ≤ 600312; omega), (by show _ ≤ 7293410; omega)⟩) hS (fun r652 u652 H locs h652 hP hS => ?_)
  obtain rfl := h652.trans e3
  refine lv_istore (lv' := [(20, .int (nI hq9)), (0, .ref sb), (1, .ref (L 0)), (2, .ref (L 106)), (3, .ref (L 107)), (5, .int (nI k)), (6, .int (nI (20 + 14 * k))), (7, .int (nI nn)), (8, .int (nI j9))]) hx hb dL_law_655 hl (by decide) rfl (fun ls hl => ?_)
  refine lv_iconst (v := 1) hx hb dL_law_657 (by decide) ?_
  refine lv_aload_n hx hb dL_law_658 rfl (lv_at hl 1 rfl) ?_
  refine lv_iload hx hb dL_law_659 (lv_at hl 6 rfl) ?_
  refine lv_iconst (v := 1) hx hb dL_law_661 (by decide) ?_
  refine lv_iadd hx hb dL_law_662 ?_
  refine lv_bipush (v := 6) hx hb dL_law_663 (by decide) ?_
  refine wx_calli (va_runS (As := [.ref sb, .int ((nI (20 + 14 * k)) + 1), .int 6]) (rest := [.int 1]) ⟨hx, hb, hml, hown, hts⟩ (k_pick l hst g s.heap.size 108 L (cw g L x r0) sb sN hsN sx ((nI (20 + 14 * k)) + 1) 6 ((add_n (c := 1) rfl (by omega))) (by decide)) (va_cwS 3 hts gL_law_L_pick rfl rfl rfl (by decide +kernel) ⟨Nat.le_of_ble_eq_true rfl, Nat.le_of_ble_eq_true rfl⟩) (PWs.preS3 (Nat.le_refl _) hJ hK hE hP hS hX hbl) rfl rfl hl.1 rfl (lv_room (Nat.le_of_ble_eq_true rfl)) dL_law_665 ⟨(by show _ ≤ 600312; omega), (by show _ ≤ 7293410; omega)⟩) hS (fun r665 u665 H locs h665 hP hS => ?_)
  obtain ⟨a665, ha665, e9⟩ := pk_nat (n := 6) h665 (by decide) (by decide)
  subst e9
  refine lv_iadd hx hb dL_law_668 ?_
  refine lv_topi (fun z9 ez9 => ?_)
  obtain rfl : z9 = nI (1 + a665) := ez9.trans (nI_add 1 _)
  refine lv_istore (lv' := [(21, .int (nI (1 + a665))), (20, .int (nI hq9)), (0, .ref sb), (1, .ref (L 0)), (2, .ref (L 106)), (3, .ref (L 107)), (5, .int (nI k)), (6, .int (nI (20 + 14 * k))), (7, .int (nI nn)), (8, .int (nI j9))]) hx hb dL_law_669 hl (by decide) rfl (fun ls hl => ?_)
  refine lv_aload_n hx hb dL_law_671 rfl (lv_at hl 3 rfl) ?_
  refine lv_bipush (v := 21) hx hb dL_law_672 (by decide) ?_
  refine lv_iload hx hb dL_law_674 (lv_at hl 0 rfl) ?_
  refine wx_calli (va_runS (As := [.ref (L 0), .int 21, .int (nI (1 + a665))]) (rest := []) ⟨hx, hb, hml, hown, hts⟩ (ak_21 l hst g s.heap.size 108 L (by omega) x r0 4 nn hJ5.gi (nI (1 + a665))) (va_cwS 3 hts gL_law_L_ask rfl rfl rfl (by decide +kernel) ⟨Nat.le_of_ble_eq_true rfl, Nat.le_of_ble_eq_true rfl⟩) (PW.preS3 (Nat.le_refl _) hJ hK hE hP hS) rfl rfl hl.1 rfl (lv_room (Nat.le_of_ble_eq_true rfl)) dL_law_676 ⟨(by show _ ≤ 600312; omega), (by show _ ≤ 7293410; omega)⟩) hS (fun r676 u676 H locs h676 hP hS => ?_)
  obtain ⟨rfl, hJ6⟩ := A21 (N := 1 + a665) hJ5 (by omega) e3 hhr ⟨by omega, by omega⟩ rfl h676
  refine lv_iload hx hb dL_law_679 (lv_at hl 1 rfl) ?_
  refine lv_iload hx hb dL_law_681 (lv_at hl 0 rfl) ?_
  refine lv_iadd hx hb dL_law_683 ?_
  refine lv_icmp_ne (tgt := 691) hx hb dL_law_684 (by decide) (fun c684 => absurd c684 (fun h => h rfl)) (fun c684 => ?_)
  refine lv_iconst (v := 1) hx hb dL_law_687 (by decide) ?_
  refine lv_goto (tgt := 692) hx hb dL_law_688 (by decide) ?_
  refine lv_istore (lv' := [(4, .int 1), (21, .int (nI (1 + a665))), (20, .int (nI hq9)), (0, .ref sb), (1, .ref (L 0)), (2, .ref (L 106)), (3, .ref (L 107)), (5, .int (nI k)), (6, .int (nI (20 + 14 * k))), (7, .int (nI nn)), (8, .int (nI j9))]) hx hb dL_law_692 hl (by decide) rfl (fun ls hl => ?_)
  exact hnext _ _ _ _ _ _ _ _ _ hJ6 h106 h107 (by omega) (by omega) hP hS (lv_sub hl [0, 3, 4, 5, 6, 7] rfl)
