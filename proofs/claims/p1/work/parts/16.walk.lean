/-! laid by wip/gen -/
set_option maxHeartbeats 8000000 in
set_option maxRecDepth 100000 in
theorem law_c0 {p : Program} {e : Env} {s : State} {m : MethodId} {below : List Frame} {meth : Method} {c : Code} (l : Launch) (hst : l.stackTraces = false) {b : Nat} {xs : Nat → Int32} (C0 : lw_At p s m meth c b 5 xs) (g : gE) (L : Nat → Nat) (ro : Nat → va_E) (f : Nat → Int64) (ho : ro 123 = .inl (g.2 4, 1, .inr (.inl f))) (hJ : wj 125 L (fun q : Nat => s.heap.size ≤ q)) (hK : va_K g.1 vwCl (tysC g) s) (hE : EE SS (fun q : Nat => s.heap.size ≤ q) s) {H : Heap} {locs : List Loc} (hP : va_P g.1 vwCl (wl 125 L (cw g L x0 (mw g L y0 0 ro))) H) (hS : va_S (fun q : Nat => s.heap.size ≤ q) s.heap H locs) {ls : Array Slot} (hl : lv_has ls 9 [(0, .ref b), (1, .ref (L 0)), (2, .ref (L 106)), (3, .ref (L 123)), (4, .ref (L 124)), (5, .int 0)]) : W p l e room_1 s m #[Value.ref b] below meth c H locs 200 100000 (lw_Z below #[Value.ref b] s) (F0 m 188 ls []) := by
  obtain ⟨hx, hb, hr, hml, hown, hts0, hX, hbl, hlocks, hgv⟩ := id C0
  have hown : s.vm.findClass RL = some m.cls := hown
  have hts : ∀ w ∈ wsL_law, w.before #[Value.ref b] s = true := fun w h => hts0 w (wsL_law_in w h)
  have hbA : ¬ (fun q : Nat => s.heap.size ≤ q) b := Nat.not_le.mpr hbl
  have hx0 : x0 0 0 0 = nI 0 := rfl
  have hx1 : x0 1 0 0 = nI 0 := rfl
  have hx2 : x0 2 0 0 = 2 := rfl
  have hx3 : x0 3 0 0 = nI 0 := rfl
  have hy1 : y0 1 0 0 = nI 0 := rfl
  have hy2 : y0 2 0 0 = 2 := rfl
  have hy3 : y0 3 0 0 = nI 0 := rfl
  have hy4 : y0 4 0 0 = nI 0 := rfl
  have hn : 125 ≤ 125 := Nat.le_refl _
  refine lv_aload_n hx hb dL_law_188 rfl (lv_at hl 1 rfl) ?_
  refine lv_aload_n hx hb dL_law_189 rfl (lv_at hl 0 rfl) ?_
  refine lv_iload hx hb dL_law_190 (lv_at hl 5 rfl) ?_
  refine lv_iconst (v := 1) hx hb dL_law_192 (by decide) ?_
  refine lv_iadd hx hb dL_law_193 ?_
  refine va_sld hx hb hX hbl hbA hS (i := 0 + 1) (by unfold vp_in; decide) dL_law_194 ?_
  refine lv_aload_n hx hb dL_law_195 rfl (lv_at hl 0 rfl) ?_
  refine lv_iload hx hb dL_law_196 (lv_at hl 5 rfl) ?_
  refine lv_iconst (v := 2) hx hb dL_law_198 (by decide) ?_
  refine lv_iadd hx hb dL_law_199 ?_
  refine va_sld hx hb hX hbl hbA hS (i := 0 + 2) (by unfold vp_in; decide) dL_law_200 ?_
  refine lv_aload_n hx hb dL_law_201 rfl (lv_at hl 3 rfl) ?_
  refine wx_calli (vx_runSW (As := [.ref (L 0), .int (xs (0 + 1 : Int32).toNatClampNeg), .int (xs (0 + 2 : Int32).toNatClampNeg), .ref (L 123)]) (rest := []) ⟨hx, hb, hml, hown, hts⟩ (kl_addBoard l hst g s.heap.size 125 L (by omega) x0 (mw g L y0 0 ro) hx0 hx1 hx2 hx3 f (mw_ge (by decide) |>.trans ho) (xs (0 + 1 : Int32).toNatClampNeg) (xs (0 + 2 : Int32).toNatClampNeg)) (vx_cwSW 4 hts gL_law_L_addBoard rfl rfl rfl (by decide +kernel) ⟨Nat.le_of_ble_eq_true rfl, Nat.le_of_ble_eq_true rfl⟩) (PW.preS3 (Nat.le_refl _) hJ hK hE hP hS) rfl rfl hl.1 rfl (lv_room (Nat.le_of_ble_eq_true rfl)) dL_law_202 ⟨Nat.le_of_ble_eq_true rfl, Nat.le_of_ble_eq_true rfl⟩) hS (fun r202 u202 H locs h202 hP hS => ?_)
  obtain ⟨v202, t202⟩ := u202
  dsimp only at h202 hP
  rcases h202 with ⟨hb9, rfl, rfl⟩ | ⟨hb9, rfl, rfl⟩
  · have hP : va_P g.1 vwCl (wl 125 L (mw g L y0 0 (cw g L v202 ro))) H := by rw [← cw_mw]; exact hP
    refine lv_istore (lv' := [(6, .int 1), (0, .ref b), (1, .ref (L 0)), (2, .ref (L 106)), (3, .ref (L 123)), (4, .ref (L 124)), (5, .int 0)]) hx hb dL_law_205 hl (by decide) rfl (fun ls hl => ?_)
    refine lv_aload_n hx hb dL_law_207 rfl (lv_at hl 3 rfl) ?_
    refine lv_aload_n hx hb dL_law_208 rfl (lv_at hl 1 rfl) ?_
    refine lv_iload hx hb dL_law_209 (lv_at hl 6 rfl) ?_
    refine lv_iconst (v := 1) hx hb dL_law_211 (by decide) ?_
    refine lv_iadd hx hb dL_law_212 ?_
    refine va_sld hx hb hX hbl hbA hS (i := 0 + 1) (by unfold vp_in; decide) dL_law_213 ?_
    refine lv_aload_n hx hb dL_law_214 rfl (lv_at hl 1 rfl) ?_
    refine lv_iload hx hb dL_law_215 (lv_at hl 6 rfl) ?_
    refine lv_iconst (v := 2) hx hb dL_law_217 (by decide) ?_
    refine lv_iadd hx hb dL_law_218 ?_
    refine va_sld hx hb hX hbl hbA hS (i := 0 + 2) (by unfold vp_in; decide) dL_law_219 ?_
    refine wx_calli (va_runV (As := [.int (xs (0 + 1 : Int32).toNatClampNeg), .int (xs (0 + 2 : Int32).toNatClampNeg)]) (rest := []) ⟨hx, hb, hml, hown, hts⟩ (km_addBoard l hst g s.heap.size 125 L (by omega) y0 0 (cw g L v202 ro) hy1 hy2 hy3 hy4 (xs (0 + 1 : Int32).toNatClampNeg) (xs (0 + 2 : Int32).toNatClampNeg)) (cwV 2 hts gL_law_X4_addBoard rfl rfl rfl (by decide +kernel) ⟨Nat.le_of_ble_eq_true rfl, Nat.le_of_ble_eq_true rfl⟩) (PW.preV3 (Nat.le_refl _) hJ hK hE hP hS (ci := 6) rfl (by omega) mw_o) rfl rfl hl.1 rfl (lv_room (Nat.le_of_ble_eq_true rfl)) dL_law_220 ⟨Nat.le_of_ble_eq_true rfl, Nat.le_of_ble_eq_true rfl⟩) hS (fun r220 u220 H locs h220 hP hS => ?_)
    have ht9 : u220 0 0 0 = 1 := h220.elim (fun z => z.2) (fun z => absurd hb9 z.1)
    refine lv_istore (lv' := [(7, .int r220), (6, .int 1), (0, .ref b), (1, .ref (L 0)), (2, .ref (L 106)), (3, .ref (L 123)), (4, .ref (L 124)), (5, .int 0)]) hx hb dL_law_223 hl (by decide) rfl (fun ls hl => ?_)
    refine lv_aload_n hx hb dL_law_225 rfl (lv_at hl 4 rfl) ?_
    refine wx_calli (va_runV (As := []) (rest := []) ⟨hx, hb, hml, hown, hts⟩ (km_thrown l hst g s.heap.size 125 L (by omega) u220 0 (cw g L v202 ro)) (cwV 0 hts gL_law_X4_thrown rfl rfl rfl (by decide +kernel) ⟨Nat.le_of_ble_eq_true rfl, Nat.le_of_ble_eq_true rfl⟩) (PW.preV3 (Nat.le_refl _) hJ hK hE hP hS (ci := 6) rfl (by omega) mw_o) rfl rfl hl.1 rfl (lv_room (Nat.le_of_ble_eq_true rfl)) dL_law_226 ⟨Nat.le_of_ble_eq_true rfl, Nat.le_of_ble_eq_true rfl⟩) hS (fun r226 u226 H locs h226 hP hS => ?_)
    obtain ⟨rfl, e9⟩ := h226
    have e9 := e9.symm
    subst e9
    refine lv_iload hx hb dL_law_229 (lv_at hl 1 rfl) ?_
    refine lv_icmp_eq (tgt := 236) hx hb dL_law_231 (by decide) (fun c231 => ?_) (fun c231 => absurd (ht9) c231)
    refine lv_iload hx hb dL_law_236 (lv_at hl 1 rfl) ?_
    refine lv_if_ne (tgt := 253) hx hb dL_law_238 (by decide) (fun c238 => ?_) (fun c238 => absurd c238 (by decide))
    refine lv_goto (tgt := 2028) hx hb dL_law_253 (by decide) ?_
    exact law_end C0 (Nat.le_of_ble_eq_true rfl) (Nat.le_of_ble_eq_true rfl) hS (lv_sub hl [7, 2] rfl)
  · have hP : va_P g.1 vwCl (wl 125 L (mw g L y0 0 (cw g L v202 (va_up ro 123 (oL g f ((0 : Int32).toInt64)))))) H := by rw [← cw_mw, ← mw_rest (by decide)]; exact hP
    refine lv_istore (lv' := [(6, .int 0), (0, .ref b), (1, .ref (L 0)), (2, .ref (L 106)), (3, .ref (L 123)), (4, .ref (L 124)), (5, .int 0)]) hx hb dL_law_205 hl (by decide) rfl (fun ls hl => ?_)
    refine lv_aload_n hx hb dL_law_207 rfl (lv_at hl 3 rfl) ?_
    refine lv_aload_n hx hb dL_law_208 rfl (lv_at hl 1 rfl) ?_
    refine lv_iload hx hb dL_law_209 (lv_at hl 6 rfl) ?_
    refine lv_iconst (v := 1) hx hb dL_law_211 (by decide) ?_
    refine lv_iadd hx hb dL_law_212 ?_
    refine va_sld hx hb hX hbl hbA hS (i := 0 + 1) (by unfold vp_in; decide) dL_law_213 ?_
    refine lv_aload_n hx hb dL_law_214 rfl (lv_at hl 1 rfl) ?_
    refine lv_iload hx hb dL_law_215 (lv_at hl 6 rfl) ?_
    refine lv_iconst (v := 2) hx hb dL_law_217 (by decide) ?_
    refine lv_iadd hx hb dL_law_218 ?_
    refine va_sld hx hb hX hbl hbA hS (i := 0 + 2) (by unfold vp_in; decide) dL_law_219 ?_
    refine wx_calli (va_runV (As := [.int (xs (0 + 1 : Int32).toNatClampNeg), .int (xs (0 + 2 : Int32).toNatClampNeg)]) (rest := []) ⟨hx, hb, hml, hown, hts⟩ (km_addBoard l hst g s.heap.size 125 L (by omega) y0 0 (cw g L v202 (va_up ro 123 (oL g f ((0 : Int32).toInt64)))) hy1 hy2 hy3 hy4 (xs (0 + 1 : Int32).toNatClampNeg) (xs (0 + 2 : Int32).toNatClampNeg)) (cwV 2 hts gL_law_X4_addBoard rfl rfl rfl (by decide +kernel) ⟨Nat.le_of_ble_eq_true rfl, Nat.le_of_ble_eq_true rfl⟩) (PW.preV3 (Nat.le_refl _) hJ hK hE hP hS (ci := 6) rfl (by omega) mw_o) rfl rfl hl.1 rfl (lv_room (Nat.le_of_ble_eq_true rfl)) dL_law_220 ⟨Nat.le_of_ble_eq_true rfl, Nat.le_of_ble_eq_true rfl⟩) hS (fun r220 u220 H locs h220 hP hS => ?_)
    obtain ⟨ht9, er9⟩ : u220 0 0 0 = 0 ∧ r220 = 0 := h220.elim (fun z => absurd z.1 hb9) (fun z => z.2)
    refine lv_istore (lv' := [(7, .int r220), (6, .int 0), (0, .ref b), (1, .ref (L 0)), (2, .ref (L 106)), (3, .ref (L 123)), (4, .ref (L 124)), (5, .int 0)]) hx hb dL_law_223 hl (by decide) rfl (fun ls hl => ?_)
    refine lv_aload_n hx hb dL_law_225 rfl (lv_at hl 4 rfl) ?_
    refine wx_calli (va_runV (As := []) (rest := []) ⟨hx, hb, hml, hown, hts⟩ (km_thrown l hst g s.heap.size 125 L (by omega) u220 0 (cw g L v202 (va_up ro 123 (oL g f ((0 : Int32).toInt64))))) (cwV 0 hts gL_law_X4_thrown rfl rfl rfl (by decide +kernel) ⟨Nat.le_of_ble_eq_true rfl, Nat.le_of_ble_eq_true rfl⟩) (PW.preV3 (Nat.le_refl _) hJ hK hE hP hS (ci := 6) rfl (by omega) mw_o) rfl rfl hl.1 rfl (lv_room (Nat.le_of_ble_eq_true rfl)) dL_law_226 ⟨Nat.le_of_ble_eq_true rfl, Nat.le_of_ble_eq_true rfl⟩) hS (fun r226 u226 H locs h226 hP hS => ?_)
    obtain ⟨rfl, e9⟩ := h226
    have e9 := e9.symm
    subst e9
    refine lv_iload hx hb dL_law_229 (lv_at hl 1 rfl) ?_
    refine lv_icmp_eq (tgt := 236) hx hb dL_law_231 (by decide) (fun c231 => ?_) (fun c231 => absurd (ht9) c231)
    refine lv_iload hx hb dL_law_236 (lv_at hl 1 rfl) ?_
    refine lv_if_ne (tgt := 253) hx hb dL_law_238 (by decide) (fun c238 => absurd c238 (by decide)) (fun c238 => ?_)
    refine lv_aload_n hx hb dL_law_241 rfl (lv_at hl 5 rfl) ?_
    refine lv_iconst (v := 0) hx hb dL_law_242 (by decide) ?_
    refine wx_lald (D := g.1) (cl := vwCl) (f := vp_updL f (0 : Int32).toNatClampNeg ((0 : Int32).toInt64)) hx hb hK hP (123) 4 (by omega) ((mw_ge (by decide)).trans ((cw_ge (by decide)).trans (va_up_self _ _ _))) rfl (i := 0) (vp_in_nI (n := 0) (by decide) (by decide)) dL_law_243 ?_
    refine lv_iload hx hb dL_law_244 (lv_at hl 0 rfl) ?_
    refine lv_i2l hx hb dL_law_246 rfl ?_
    refine W.lcmp hx hb dL_law_247 ?_
    refine lv_if_eq (tgt := 253) hx hb dL_law_248 (by decide) (fun c248 => ?_) (fun c248 => absurd (by rw [er9, pk_uLs, lgc]) c248)
    refine lv_goto (tgt := 2028) hx hb dL_law_253 (by decide) ?_
    exact law_end C0 (Nat.le_of_ble_eq_true rfl) (Nat.le_of_ble_eq_true rfl) hS (lv_sub hl [7, 2] rfl)

set_option maxHeartbeats 8000000 in
set_option maxRecDepth 100000 in
theorem law_c1 {p : Program} {e : Env} {s : State} {m : MethodId} {below : List Frame} {meth : Method} {c : Code} (l : Launch) (hst : l.stackTraces = false) {b : Nat} {xs : Nat → Int32} (C0 : lw_At p s m meth c b 5 xs) (g : gE) (L : Nat → Nat) (ro : Nat → va_E) (f : Nat → Int64) (ho : ro 123 = .inl (g.2 4, 1, .inr (.inl f))) (hJ : wj 125 L (fun q : Nat => s.heap.size ≤ q)) (hK : va_K g.1 vwCl (tysC g) s) (hE : EE SS (fun q : Nat => s.heap.size ≤ q) s) {H : Heap} {locs : List Loc} (hP : va_P g.1 vwCl (wl 125 L (cw g L x0 (mw g L y0 0 ro))) H) (hS : va_S (fun q : Nat => s.heap.size ≤ q) s.heap H locs) {ls : Array Slot} (hl : lv_has ls 9 [(0, .ref b), (1, .ref (L 0)), (2, .ref (L 106)), (3, .ref (L 123)), (4, .ref (L 124)), (5, .int 0)]) : W p l e room_1 s m #[Value.ref b] below meth c H locs 200 100000 (lw_Z below #[Value.ref b] s) (F0 m 256 ls []) := by
  obtain ⟨hx, hb, hr, hml, hown, hts0, hX, hbl, hlocks, hgv⟩ := id C0
  have hown : s.vm.findClass RL = some m.cls := hown
  have hts : ∀ w ∈ wsL_law, w.before #[Value.ref b] s = true := fun w h => hts0 w (wsL_law_in w h)
  have hbA : ¬ (fun q : Nat => s.heap.size ≤ q) b := Nat.not_le.mpr hbl
  have hx0 : x0 0 0 0 = nI 0 := rfl
  have hx1 : x0 1 0 0 = nI 0 := rfl
  have hx2 : x0 2 0 0 = 2 := rfl
  have hx3 : x0 3 0 0 = nI 0 := rfl
  have hy1 : y0 1 0 0 = nI 0 := rfl
  have hy2 : y0 2 0 0 = 2 := rfl
  have hy3 : y0 3 0 0 = nI 0 := rfl
  have hy4 : y0 4 0 0 = nI 0 := rfl
  have hn : 125 ≤ 125 := Nat.le_refl _
  refine lv_aload_n hx hb dL_law_256 rfl (lv_at hl 1 rfl) ?_
  refine lv_aload_n hx hb dL_law_257 rfl (lv_at hl 0 rfl) ?_
  refine lv_iload hx hb dL_law_258 (lv_at hl 5 rfl) ?_
  refine lv_iconst (v := 1) hx hb dL_law_260 (by decide) ?_
  refine lv_iadd hx hb dL_law_261 ?_
  refine va_sld hx hb hX hbl hbA hS (i := 0 + 1) (by unfold vp_in; decide) dL_law_262 ?_
  refine lv_aload_n hx hb dL_law_263 rfl (lv_at hl 3 rfl) ?_
  refine wx_calli (vx_runSW (As := [.ref (L 0), .int (xs (0 + 1 : Int32).toNatClampNeg), .ref (L 123)]) (rest := []) ⟨hx, hb, hml, hown, hts⟩ (kl_setSun l hst g s.heap.size 125 L (by omega) x0 (mw g L y0 0 ro) hx0 hx1 hx2 hx3 f (mw_ge (by decide) |>.trans ho) (xs (0 + 1 : Int32).toNatClampNeg)) (vx_cwSW 3 hts gL_law_L_setSun rfl rfl rfl (by decide +kernel) ⟨Nat.le_of_ble_eq_true rfl, Nat.le_of_ble_eq_true rfl⟩) (PW.preS3 (Nat.le_refl _) hJ hK hE hP hS) rfl rfl hl.1 rfl (lv_room (Nat.le_of_ble_eq_true rfl)) dL_law_264 ⟨Nat.le_of_ble_eq_true rfl, Nat.le_of_ble_eq_true rfl⟩) hS (fun r264 u264 H locs h264 hP hS => ?_)
  obtain ⟨v264, t264⟩ := u264
  dsimp only at h264 hP
  rcases h264 with ⟨hb9, rfl, rfl⟩ | ⟨hb9, rfl, rfl⟩
  · have hP : va_P g.1 vwCl (wl 125 L (mw g L y0 0 (cw g L v264 ro))) H := by rw [← cw_mw]; exact hP
    refine lv_istore (lv' := [(6, .int 1), (0, .ref b), (1, .ref (L 0)), (2, .ref (L 106)), (3, .ref (L 123)), (4, .ref (L 124)), (5, .int 0)]) hx hb dL_law_267 hl (by decide) rfl (fun ls hl => ?_)
    refine lv_aload_n hx hb dL_law_269 rfl (lv_at hl 3 rfl) ?_
    refine lv_aload_n hx hb dL_law_270 rfl (lv_at hl 1 rfl) ?_
    refine lv_iload hx hb dL_law_271 (lv_at hl 6 rfl) ?_
    refine lv_iconst (v := 1) hx hb dL_law_273 (by decide) ?_
    refine lv_iadd hx hb dL_law_274 ?_
    refine va_sld hx hb hX hbl hbA hS (i := 0 + 1) (by unfold vp_in; decide) dL_law_275 ?_
    refine wx_calli (va_runV (As := [.int (xs (0 + 1 : Int32).toNatClampNeg)]) (rest := []) ⟨hx, hb, hml, hown, hts⟩ (km_setSun l hst g s.heap.size 125 L (by omega) y0 0 (cw g L v264 ro) hy1 hy2 hy3 hy4 (xs (0 + 1 : Int32).toNatClampNeg)) (cwV 1 hts gL_law_X4_setSun rfl rfl rfl (by decide +kernel) ⟨Nat.le_of_ble_eq_true rfl, Nat.le_of_ble_eq_true rfl⟩) (PW.preV3 (Nat.le_refl _) hJ hK hE hP hS (ci := 6) rfl (by omega) mw_o) rfl rfl hl.1 rfl (lv_room (Nat.le_of_ble_eq_true rfl)) dL_law_276 ⟨Nat.le_of_ble_eq_true rfl, Nat.le_of_ble_eq_true rfl⟩) hS (fun r276 u276 H locs h276 hP hS => ?_)
    have ht9 : u276 0 0 0 = 1 := h276.elim (fun z => z.2) (fun z => absurd hb9 z.1)
    refine lv_istore (lv' := [(7, .int r276), (6, .int 1), (0, .ref b), (1, .ref (L 0)), (2, .ref (L 106)), (3, .ref (L 123)), (4, .ref (L 124)), (5, .int 0)]) hx hb dL_law_279 hl (by decide) rfl (fun ls hl => ?_)
    refine lv_aload_n hx hb dL_law_281 rfl (lv_at hl 4 rfl) ?_
    refine wx_calli (va_runV (As := []) (rest := []) ⟨hx, hb, hml, hown, hts⟩ (km_thrown l hst g s.heap.size 125 L (by omega) u276 0 (cw g L v264 ro)) (cwV 0 hts gL_law_X4_thrown rfl rfl rfl (by decide +kernel) ⟨Nat.le_of_ble_eq_true rfl, Nat.le_of_ble_eq_true rfl⟩) (PW.preV3 (Nat.le_refl _) hJ hK hE hP hS (ci := 6) rfl (by omega) mw_o) rfl rfl hl.1 rfl (lv_room (Nat.le_of_ble_eq_true rfl)) dL_law_282 ⟨Nat.le_of_ble_eq_true rfl, Nat.le_of_ble_eq_true rfl⟩) hS (fun r282 u282 H locs h282 hP hS => ?_)
    obtain ⟨rfl, e9⟩ := h282
    have e9 := e9.symm
    subst e9
    refine lv_iload hx hb dL_law_285 (lv_at hl 1 rfl) ?_
    refine lv_icmp_eq (tgt := 292) hx hb dL_law_287 (by decide) (fun c287 => ?_) (fun c287 => absurd (ht9) c287)
    refine lv_iload hx hb dL_law_292 (lv_at hl 1 rfl) ?_
    refine lv_if_ne (tgt := 309) hx hb dL_law_294 (by decide) (fun c294 => ?_) (fun c294 => absurd c294 (by decide))
    refine lv_goto (tgt := 2028) hx hb dL_law_309 (by decide) ?_
    exact law_end C0 (Nat.le_of_ble_eq_true rfl) (Nat.le_of_ble_eq_true rfl) hS (lv_sub hl [7, 2] rfl)
  · have hP : va_P g.1 vwCl (wl 125 L (mw g L y0 0 (cw g L v264 (va_up ro 123 (oL g f ((2 : Int32).toInt64)))))) H := by rw [← cw_mw, ← mw_rest (by decide)]; exact hP
    refine lv_istore (lv' := [(6, .int 0), (0, .ref b), (1, .ref (L 0)), (2, .ref (L 106)), (3, .ref (L 123)), (4, .ref (L 124)), (5, .int 0)]) hx hb dL_law_267 hl (by decide) rfl (fun ls hl => ?_)
    refine lv_aload_n hx hb dL_law_269 rfl (lv_at hl 3 rfl) ?_
    refine lv_aload_n hx hb dL_law_270 rfl (lv_at hl 1 rfl) ?_
    refine lv_iload hx hb dL_law_271 (lv_at hl 6 rfl) ?_
    refine lv_iconst (v := 1) hx hb dL_law_273 (by decide) ?_
    refine lv_iadd hx hb dL_law_274 ?_
    refine va_sld hx hb hX hbl hbA hS (i := 0 + 1) (by unfold vp_in; decide) dL_law_275 ?_
    refine wx_calli (va_runV (As := [.int (xs (0 + 1 : Int32).toNatClampNeg)]) (rest := []) ⟨hx, hb, hml, hown, hts⟩ (km_setSun l hst g s.heap.size 125 L (by omega) y0 0 (cw g L v264 (va_up ro 123 (oL g f ((2 : Int32).toInt64)))) hy1 hy2 hy3 hy4 (xs (0 + 1 : Int32).toNatClampNeg)) (cwV 1 hts gL_law_X4_setSun rfl rfl rfl (by decide +kernel) ⟨Nat.le_of_ble_eq_true rfl, Nat.le_of_ble_eq_true rfl⟩) (PW.preV3 (Nat.le_refl _) hJ hK hE hP hS (ci := 6) rfl (by omega) mw_o) rfl rfl hl.1 rfl (lv_room (Nat.le_of_ble_eq_true rfl)) dL_law_276 ⟨Nat.le_of_ble_eq_true rfl, Nat.le_of_ble_eq_true rfl⟩) hS (fun r276 u276 H locs h276 hP hS => ?_)
    obtain ⟨ht9, er9⟩ : u276 0 0 0 = 0 ∧ r276 = 2 := h276.elim (fun z => absurd z.1 hb9) (fun z => z.2)
    refine lv_istore (lv' := [(7, .int r276), (6, .int 0), (0, .ref b), (1, .ref (L 0)), (2, .ref (L 106)), (3, .ref (L 123)), (4, .ref (L 124)), (5, .int 0)]) hx hb dL_law_279 hl (by decide) rfl (fun ls hl => ?_)
    refine lv_aload_n hx hb dL_law_281 rfl (lv_at hl 4 rfl) ?_
    refine wx_calli (va_runV (As := []) (rest := []) ⟨hx, hb, hml, hown, hts⟩ (km_thrown l hst g s.heap.size 125 L (by omega) u276 0 (cw g L v264 (va_up ro 123 (oL g f ((2 : Int32).toInt64))))) (cwV 0 hts gL_law_X4_thrown rfl rfl rfl (by decide +kernel) ⟨Nat.le_of_ble_eq_true rfl, Nat.le_of_ble_eq_true rfl⟩) (PW.preV3 (Nat.le_refl _) hJ hK hE hP hS (ci := 6) rfl (by omega) mw_o) rfl rfl hl.1 rfl (lv_room (Nat.le_of_ble_eq_true rfl)) dL_law_282 ⟨Nat.le_of_ble_eq_true rfl, Nat.le_of_ble_eq_true rfl⟩) hS (fun r282 u282 H locs h282 hP hS => ?_)
    obtain ⟨rfl, e9⟩ := h282
    have e9 := e9.symm
    subst e9
    refine lv_iload hx hb dL_law_285 (lv_at hl 1 rfl) ?_
    refine lv_icmp_eq (tgt := 292) hx hb dL_law_287 (by decide) (fun c287 => ?_) (fun c287 => absurd (ht9) c287)
    refine lv_iload hx hb dL_law_292 (lv_at hl 1 rfl) ?_
    refine lv_if_ne (tgt := 309) hx hb dL_law_294 (by decide) (fun c294 => absurd c294 (by decide)) (fun c294 => ?_)
    refine lv_aload_n hx hb dL_law_297 rfl (lv_at hl 5 rfl) ?_
    refine lv_iconst (v := 0) hx hb dL_law_298 (by decide) ?_
    refine wx_lald (D := g.1) (cl := vwCl) (f := vp_updL f (0 : Int32).toNatClampNeg ((2 : Int32).toInt64)) hx hb hK hP (123) 4 (by omega) ((mw_ge (by decide)).trans ((cw_ge (by decide)).trans (va_up_self _ _ _))) rfl (i := 0) (vp_in_nI (n := 0) (by decide) (by decide)) dL_law_299 ?_
    refine lv_iload hx hb dL_law_300 (lv_at hl 0 rfl) ?_
    refine lv_i2l hx hb dL_law_302 rfl ?_
    refine W.lcmp hx hb dL_law_303 ?_
    refine lv_if_eq (tgt := 309) hx hb dL_law_304 (by decide) (fun c304 => ?_) (fun c304 => absurd (by rw [er9, pk_uLs, lgc]) c304)
    refine lv_goto (tgt := 2028) hx hb dL_law_309 (by decide) ?_
    exact law_end C0 (Nat.le_of_ble_eq_true rfl) (Nat.le_of_ble_eq_true rfl) hS (lv_sub hl [7, 2] rfl)

set_option maxHeartbeats 8000000 in
set_option maxRecDepth 100000 in
theorem law_c2 {p : Program} {e : Env} {s : State} {m : MethodId} {below : List Frame} {meth : Method} {c : Code} (l : Launch) (hst : l.stackTraces = false) {b : Nat} {xs : Nat → Int32} (C0 : lw_At p s m meth c b 5 xs) (g : gE) (L : Nat → Nat) (ro : Nat → va_E) (f : Nat → Int64) (ho : ro 123 = .inl (g.2 4, 1, .inr (.inl f))) (hJ : wj 125 L (fun q : Nat => s.heap.size ≤ q)) (hK : va_K g.1 vwCl (tysC g) s) (hE : EE SS (fun q : Nat => s.heap.size ≤ q) s) {H : Heap} {locs : List Loc} (hP : va_P g.1 vwCl (wl 125 L (cw g L x0 (mw g L y0 0 ro))) H) (hS : va_S (fun q : Nat => s.heap.size ≤ q) s.heap H locs) {ls : Array Slot} (hl : lv_has ls 9 [(0, .ref b), (1, .ref (L 0)), (2, .ref (L 106)), (3, .ref (L 123)), (4, .ref (L 124)), (5, .int 0)]) : W p l e room_1 s m #[Value.ref b] below meth c H locs 200 100000 (lw_Z below #[Value.ref b] s) (F0 m 312 ls []) := by
  obtain ⟨hx, hb, hr, hml, hown, hts0, hX, hbl, hlocks, hgv⟩ := id C0
  have hown : s.vm.findClass RL = some m.cls := hown
  have hts : ∀ w ∈ wsL_law, w.before #[Value.ref b] s = true := fun w h => hts0 w (wsL_law_in w h)
  have hbA : ¬ (fun q : Nat => s.heap.size ≤ q) b := Nat.not_le.mpr hbl
  have hx0 : x0 0 0 0 = nI 0 := rfl
  have hx1 : x0 1 0 0 = nI 0 := rfl
  have hx2 : x0 2 0 0 = 2 := rfl
  have hx3 : x0 3 0 0 = nI 0 := rfl
  have hy1 : y0 1 0 0 = nI 0 := rfl
  have hy2 : y0 2 0 0 = 2 := rfl
  have hy3 : y0 3 0 0 = nI 0 := rfl
  have hy4 : y0 4 0 0 = nI 0 := rfl
  have hn : 125 ≤ 125 := Nat.le_refl _
  refine lv_aload_n hx hb dL_law_312 rfl (lv_at hl 1 rfl) ?_
  refine lv_aload_n hx hb dL_law_313 rfl (lv_at hl 0 rfl) ?_
  refine lv_iload hx hb dL_law_314 (lv_at hl 5 rfl) ?_
  refine lv_iconst (v := 1) hx hb dL_law_316 (by decide) ?_
  refine lv_iadd hx hb dL_law_317 ?_
  refine va_sld hx hb hX hbl hbA hS (i := 0 + 1) (by unfold vp_in; decide) dL_law_318 ?_
  refine lv_aload_n hx hb dL_law_319 rfl (lv_at hl 3 rfl) ?_
  refine wx_calli (vx_runSW (As := [.ref (L 0), .int (xs (0 + 1 : Int32).toNatClampNeg), .ref (L 123)]) (rest := []) ⟨hx, hb, hml, hown, hts⟩ (kl_charge l hst g s.heap.size 125 L (by omega) x0 (mw g L y0 0 ro) hx0 hx1 hx2 hx3 f (mw_ge (by decide) |>.trans ho) (xs (0 + 1 : Int32).toNatClampNeg)) (vx_cwSW 3 hts gL_law_L_charge rfl rfl rfl (by decide +kernel) ⟨Nat.le_of_ble_eq_true rfl, Nat.le_of_ble_eq_true rfl⟩) (PW.preS3 (Nat.le_refl _) hJ hK hE hP hS) rfl rfl hl.1 rfl (lv_room (Nat.le_of_ble_eq_true rfl)) dL_law_320 ⟨Nat.le_of_ble_eq_true rfl, Nat.le_of_ble_eq_true rfl⟩) hS (fun r320 u320 H locs h320 hP hS => ?_)
  obtain ⟨v320, t320⟩ := u320
  dsimp only at h320 hP
  obtain ⟨rfl, rfl⟩ := h320
  have hP : va_P g.1 vwCl (wl 125 L (mw g L y0 0 (cw g L v320 ro))) H := by rw [← cw_mw]; exact hP
  refine lv_istore (lv' := [(6, .int 1), (0, .ref b), (1, .ref (L 0)), (2, .ref (L 106)), (3, .ref (L 123)), (4, .ref (L 124)), (5, .int 0)]) hx hb dL_law_323 hl (by decide) rfl (fun ls hl => ?_)
  refine lv_aload_n hx hb dL_law_325 rfl (lv_at hl 3 rfl) ?_
  refine lv_aload_n hx hb dL_law_326 rfl (lv_at hl 1 rfl) ?_
  refine lv_iload hx hb dL_law_327 (lv_at hl 6 rfl) ?_
  refine lv_iconst (v := 1) hx hb dL_law_329 (by decide) ?_
  refine lv_iadd hx hb dL_law_330 ?_
  refine va_sld hx hb hX hbl hbA hS (i := 0 + 1) (by unfold vp_in; decide) dL_law_331 ?_
  refine wx_calli (va_runV (As := [.int (xs (0 + 1 : Int32).toNatClampNeg)]) (rest := []) ⟨hx, hb, hml, hown, hts⟩ (km_charge l hst g s.heap.size 125 L (by omega) y0 0 (cw g L v320 ro) hy1 hy2 hy3 hy4 (xs (0 + 1 : Int32).toNatClampNeg)) (cwV 1 hts gL_law_X4_charge rfl rfl rfl (by decide +kernel) ⟨Nat.le_of_ble_eq_true rfl, Nat.le_of_ble_eq_true rfl⟩) (PW.preV3 (Nat.le_refl _) hJ hK hE hP hS (ci := 6) rfl (by omega) mw_o) rfl rfl hl.1 rfl (lv_room (Nat.le_of_ble_eq_true rfl)) dL_law_332 ⟨Nat.le_of_ble_eq_true rfl, Nat.le_of_ble_eq_true rfl⟩) hS (fun r332 u332 H locs h332 hP hS => ?_)
  have ht9 : u332 0 0 0 = 1 := h332
  refine lv_istore (lv' := [(7, .int r332), (6, .int 1), (0, .ref b), (1, .ref (L 0)), (2, .ref (L 106)), (3, .ref (L 123)), (4, .ref (L 124)), (5, .int 0)]) hx hb dL_law_335 hl (by decide) rfl (fun ls hl => ?_)
  refine lv_aload_n hx hb dL_law_337 rfl (lv_at hl 4 rfl) ?_
  refine wx_calli (va_runV (As := []) (rest := []) ⟨hx, hb, hml, hown, hts⟩ (km_thrown l hst g s.heap.size 125 L (by omega) u332 0 (cw g L v320 ro)) (cwV 0 hts gL_law_X4_thrown rfl rfl rfl (by decide +kernel) ⟨Nat.le_of_ble_eq_true rfl, Nat.le_of_ble_eq_true rfl⟩) (PW.preV3 (Nat.le_refl _) hJ hK hE hP hS (ci := 6) rfl (by omega) mw_o) rfl rfl hl.1 rfl (lv_room (Nat.le_of_ble_eq_true rfl)) dL_law_338 ⟨Nat.le_of_ble_eq_true rfl, Nat.le_of_ble_eq_true rfl⟩) hS (fun r338 u338 H locs h338 hP hS => ?_)
  obtain ⟨rfl, e9⟩ := h338
  have e9 := e9.symm
  subst e9
  refine lv_iload hx hb dL_law_341 (lv_at hl 1 rfl) ?_
  refine lv_icmp_eq (tgt := 348) hx hb dL_law_343 (by decide) (fun c343 => ?_) (fun c343 => absurd (ht9) c343)
  refine lv_iload hx hb dL_law_348 (lv_at hl 1 rfl) ?_
  refine lv_if_ne (tgt := 365) hx hb dL_law_350 (by decide) (fun c350 => ?_) (fun c350 => absurd c350 (by decide))
  refine lv_goto (tgt := 2028) hx hb dL_law_365 (by decide) ?_
  exact law_end C0 (Nat.le_of_ble_eq_true rfl) (Nat.le_of_ble_eq_true rfl) hS (lv_sub hl [7, 2] rfl)

set_option maxHeartbeats 8000000 in
set_option maxRecDepth 100000 in
theorem law_c3 {p : Program} {e : Env} {s : State} {m : MethodId} {below : List Frame} {meth : Method} {c : Code} (l : Launch) (hst : l.stackTraces = false) {b : Nat} {xs : Nat → Int32} (C0 : lw_At p s m meth c b 5 xs) (g : gE) (L : Nat → Nat) (ro : Nat → va_E) (f : Nat → Int64) (ho : ro 123 = .inl (g.2 4, 1, .inr (.inl f))) (hJ : wj 125 L (fun q : Nat => s.heap.size ≤ q)) (hK : va_K g.1 vwCl (tysC g) s) (hE : EE SS (fun q : Nat => s.heap.size ≤ q) s) {H : Heap} {locs : List Loc} (hP : va_P g.1 vwCl (wl 125 L (cw g L x0 (mw g L y0 0 ro))) H) (hS : va_S (fun q : Nat => s.heap.size ≤ q) s.heap H locs) {ls : Array Slot} (hl : lv_has ls 9 [(0, .ref b), (1, .ref (L 0)), (2, .ref (L 106)), (3, .ref (L 123)), (4, .ref (L 124)), (5, .int 0)]) : W p l e room_1 s m #[Value.ref b] below meth c H locs 200 100000 (lw_Z below #[Value.ref b] s) (F0 m 368 ls []) := by
  obtain ⟨hx, hb, hr, hml, hown, hts0, hX, hbl, hlocks, hgv⟩ := id C0
  have hown : s.vm.findClass RL = some m.cls := hown
  have hts : ∀ w ∈ wsL_law, w.before #[Value.ref b] s = true := fun w h => hts0 w (wsL_law_in w h)
  have hbA : ¬ (fun q : Nat => s.heap.size ≤ q) b := Nat.not_le.mpr hbl
  have hx0 : x0 0 0 0 = nI 0 := rfl
  have hx1 : x0 1 0 0 = nI 0 := rfl
  have hx2 : x0 2 0 0 = 2 := rfl
  have hx3 : x0 3 0 0 = nI 0 := rfl
  have hy1 : y0 1 0 0 = nI 0 := rfl
  have hy2 : y0 2 0 0 = 2 := rfl
  have hy3 : y0 3 0 0 = nI 0 := rfl
  have hy4 : y0 4 0 0 = nI 0 := rfl
  have hn : 125 ≤ 125 := Nat.le_refl _
  refine lv_aload_n hx hb dL_law_368 rfl (lv_at hl 1 rfl) ?_
  refine lv_aload_n hx hb dL_law_369 rfl (lv_at hl 0 rfl) ?_
  refine lv_iload hx hb dL_law_370 (lv_at hl 5 rfl) ?_
  refine lv_iconst (v := 1) hx hb dL_law_372 (by decide) ?_
  refine lv_iadd hx hb dL_law_373 ?_
  refine va_sld hx hb hX hbl hbA hS (i := 0 + 1) (by unfold vp_in; decide) dL_law_374 ?_
  refine lv_aload_n hx hb dL_law_375 rfl (lv_at hl 0 rfl) ?_
  refine lv_iload hx hb dL_law_376 (lv_at hl 5 rfl) ?_
  refine lv_iconst (v := 2) hx hb dL_law_378 (by decide) ?_
  refine lv_iadd hx hb dL_law_379 ?_
  refine va_sld hx hb hX hbl hbA hS (i := 0 + 2) (by unfold vp_in; decide) dL_law_380 ?_
  refine lv_aload_n hx hb dL_law_381 rfl (lv_at hl 0 rfl) ?_
  refine lv_iload hx hb dL_law_382 (lv_at hl 5 rfl) ?_
  refine lv_iconst (v := 3) hx hb dL_law_384 (by decide) ?_
  refine lv_iadd hx hb dL_law_385 ?_
  refine va_sld hx hb hX hbl hbA hS (i := 0 + 3) (by unfold vp_in; decide) dL_law_386 ?_
  refine lv_aload_n hx hb dL_law_387 rfl (lv_at hl 3 rfl) ?_
  refine wx_calli (vx_runSW (As := [.ref (L 0), .int (xs (0 + 1 : Int32).toNatClampNeg), .int (xs (0 + 2 : Int32).toNatClampNeg), .int (xs (0 + 3 : Int32).toNatClampNeg), .ref (L 123)]) (rest := []) ⟨hx, hb, hml, hown, hts⟩ (kl_cell l hst g s.heap.size 125 L (by omega) x0 (mw g L y0 0 ro) hx0 hx1 hx2 hx3 f (mw_ge (by decide) |>.trans ho) (xs (0 + 1 : Int32).toNatClampNeg) (xs (0 + 2 : Int32).toNatClampNeg) (xs (0 + 3 : Int32).toNatClampNeg)) (vx_cwSW 5 hts gL_law_L_cell rfl rfl rfl (by decide +kernel) ⟨Nat.le_of_ble_eq_true rfl, Nat.le_of_ble_eq_true rfl⟩) (PW.preS3 (Nat.le_refl _) hJ hK hE hP hS) rfl rfl hl.1 rfl (lv_room (Nat.le_of_ble_eq_true rfl)) dL_law_388 ⟨Nat.le_of_ble_eq_true rfl, Nat.le_of_ble_eq_true rfl⟩) hS (fun r388 u388 H locs h388 hP hS => ?_)
  obtain ⟨v388, t388⟩ := u388
  dsimp only at h388 hP
  obtain ⟨rfl, rfl⟩ := h388
  have hP : va_P g.1 vwCl (wl 125 L (mw g L y0 0 (cw g L v388 ro))) H := by rw [← cw_mw]; exact hP
  refine lv_istore (lv' := [(6, .int 1), (0, .ref b), (1, .ref (L 0)), (2, .ref (L 106)), (3, .ref (L 123)), (4, .ref (L 124)), (5, .int 0)]) hx hb dL_law_391 hl (by decide) rfl (fun ls hl => ?_)
  refine lv_aload_n hx hb dL_law_393 rfl (lv_at hl 3 rfl) ?_
  refine lv_aload_n hx hb dL_law_394 rfl (lv_at hl 1 rfl) ?_
  refine lv_iload hx hb dL_law_395 (lv_at hl 6 rfl) ?_
  refine lv_iconst (v := 1) hx hb dL_law_397 (by decide) ?_
  refine lv_iadd hx hb dL_law_398 ?_
  refine va_sld hx hb hX hbl hbA hS (i := 0 + 1) (by unfold vp_in; decide) dL_law_399 ?_
  refine lv_aload_n hx hb dL_law_400 rfl (lv_at hl 1 rfl) ?_
  refine lv_iload hx hb dL_law_401 (lv_at hl 6 rfl) ?_
  refine lv_iconst (v := 2) hx hb dL_law_403 (by decide) ?_
  refine lv_iadd hx hb dL_law_404 ?_
  refine va_sld hx hb hX hbl hbA hS (i := 0 + 2) (by unfold vp_in; decide) dL_law_405 ?_
  refine lv_aload_n hx hb dL_law_406 rfl (lv_at hl 1 rfl) ?_
  refine lv_iload hx hb dL_law_407 (lv_at hl 6 rfl) ?_
  refine lv_iconst (v := 3) hx hb dL_law_409 (by decide) ?_
  refine lv_iadd hx hb dL_law_410 ?_
  refine va_sld hx hb hX hbl hbA hS (i := 0 + 3) (by unfold vp_in; decide) dL_law_411 ?_
  refine wx_calli (va_runV (As := [.int (xs (0 + 1 : Int32).toNatClampNeg), .int (xs (0 + 2 : Int32).toNatClampNeg), .int (xs (0 + 3 : Int32).toNatClampNeg)]) (rest := []) ⟨hx, hb, hml, hown, hts⟩ (km_cell l hst g s.heap.size 125 L (by omega) y0 0 (cw g L v388 ro) hy1 hy2 hy3 hy4 (xs (0 + 1 : Int32).toNatClampNeg) (xs (0 + 2 : Int32).toNatClampNeg) (xs (0 + 3 : Int32).toNatClampNeg)) (cwV 3 hts gL_law_X4_cell rfl rfl rfl (by decide +kernel) ⟨Nat.le_of_ble_eq_true rfl, Nat.le_of_ble_eq_true rfl⟩) (PW.preV3 (Nat.le_refl _) hJ hK hE hP hS (ci := 6) rfl (by omega) mw_o) rfl rfl hl.1 rfl (lv_room (Nat.le_of_ble_eq_true rfl)) dL_law_412 ⟨Nat.le_of_ble_eq_true rfl, Nat.le_of_ble_eq_true rfl⟩) hS (fun r412 u412 H locs h412 hP hS => ?_)
  have ht9 : u412 0 0 0 = 1 := h412
  refine lv_istore (lv' := [(7, .int r412), (6, .int 1), (0, .ref b), (1, .ref (L 0)), (2, .ref (L 106)), (3, .ref (L 123)), (4, .ref (L 124)), (5, .int 0)]) hx hb dL_law_415 hl (by decide) rfl (fun ls hl => ?_)
  refine lv_aload_n hx hb dL_law_417 rfl (lv_at hl 4 rfl) ?_
  refine wx_calli (va_runV (As := []) (rest := []) ⟨hx, hb, hml, hown, hts⟩ (km_thrown l hst g s.heap.size 125 L (by omega) u412 0 (cw g L v388 ro)) (cwV 0 hts gL_law_X4_thrown rfl rfl rfl (by decide +kernel) ⟨Nat.le_of_ble_eq_true rfl, Nat.le_of_ble_eq_true rfl⟩) (PW.preV3 (Nat.le_refl _) hJ hK hE hP hS (ci := 6) rfl (by omega) mw_o) rfl rfl hl.1 rfl (lv_room (Nat.le_of_ble_eq_true rfl)) dL_law_418 ⟨Nat.le_of_ble_eq_true rfl, Nat.le_of_ble_eq_true rfl⟩) hS (fun r418 u418 H locs h418 hP hS => ?_)
  obtain ⟨rfl, e9⟩ := h418
  have e9 := e9.symm
  subst e9
  refine lv_iload hx hb dL_law_421 (lv_at hl 1 rfl) ?_
  refine lv_icmp_eq (tgt := 428) hx hb dL_law_423 (by decide) (fun c423 => ?_) (fun c423 => absurd (ht9) c423)
  refine lv_iload hx hb dL_law_428 (lv_at hl 1 rfl) ?_
  refine lv_if_ne (tgt := 445) hx hb dL_law_430 (by decide) (fun c430 => ?_) (fun c430 => absurd c430 (by decide))
  refine lv_goto (tgt := 2028) hx hb dL_law_445 (by decide) ?_
  exact law_end C0 (Nat.le_of_ble_eq_true rfl) (Nat.le_of_ble_eq_true rfl) hS (lv_sub hl [7, 2] rfl)

set_option maxHeartbeats 8000000 in
set_option maxRecDepth 100000 in
theorem law_c4 {p : Program} {e : Env} {s : State} {m : MethodId} {below : List Frame} {meth : Method} {c : Code} (l : Launch) (hst : l.stackTraces = false) {b : Nat} {xs : Nat → Int32} (C0 : lw_At p s m meth c b 5 xs) (g : gE) (L : Nat → Nat) (ro : Nat → va_E) (f : Nat → Int64) (ho : ro 123 = .inl (g.2 4, 1, .inr (.inl f))) (hJ : wj 125 L (fun q : Nat => s.heap.size ≤ q)) (hK : va_K g.1 vwCl (tysC g) s) (hE : EE SS (fun q : Nat => s.heap.size ≤ q) s) {H : Heap} {locs : List Loc} (hP : va_P g.1 vwCl (wl 125 L (cw g L x0 (mw g L y0 0 ro))) H) (hS : va_S (fun q : Nat => s.heap.size ≤ q) s.heap H locs) {ls : Array Slot} (hl : lv_has ls 9 [(0, .ref b), (1, .ref (L 0)), (2, .ref (L 106)), (3, .ref (L 123)), (4, .ref (L 124)), (5, .int 0)]) : W p l e room_1 s m #[Value.ref b] below meth c H locs 200 100000 (lw_Z below #[Value.ref b] s) (F0 m 448 ls []) := by
  obtain ⟨hx, hb, hr, hml, hown, hts0, hX, hbl, hlocks, hgv⟩ := id C0
  have hown : s.vm.findClass RL = some m.cls := hown
  have hts : ∀ w ∈ wsL_law, w.before #[Value.ref b] s = true := fun w h => hts0 w (wsL_law_in w h)
  have hbA : ¬ (fun q : Nat => s.heap.size ≤ q) b := Nat.not_le.mpr hbl
  have hx0 : x0 0 0 0 = nI 0 := rfl
  have hx1 : x0 1 0 0 = nI 0 := rfl
  have hx2 : x0 2 0 0 = 2 := rfl
  have hx3 : x0 3 0 0 = nI 0 := rfl
  have hy1 : y0 1 0 0 = nI 0 := rfl
  have hy2 : y0 2 0 0 = 2 := rfl
  have hy3 : y0 3 0 0 = nI 0 := rfl
  have hy4 : y0 4 0 0 = nI 0 := rfl
  have hn : 125 ≤ 125 := Nat.le_refl _
  refine lv_aload_n hx hb dL_law_448 rfl (lv_at hl 1 rfl) ?_
  refine lv_aload_n hx hb dL_law_449 rfl (lv_at hl 0 rfl) ?_
  refine lv_iload hx hb dL_law_450 (lv_at hl 5 rfl) ?_
  refine lv_iconst (v := 1) hx hb dL_law_452 (by decide) ?_
  refine lv_iadd hx hb dL_law_453 ?_
  refine va_sld hx hb hX hbl hbA hS (i := 0 + 1) (by unfold vp_in; decide) dL_law_454 ?_
  refine lv_aload_n hx hb dL_law_455 rfl (lv_at hl 0 rfl) ?_
  refine lv_iload hx hb dL_law_456 (lv_at hl 5 rfl) ?_
  refine lv_iconst (v := 2) hx hb dL_law_458 (by decide) ?_
  refine lv_iadd hx hb dL_law_459 ?_
  refine va_sld hx hb hX hbl hbA hS (i := 0 + 2) (by unfold vp_in; decide) dL_law_460 ?_
  refine lv_aload_n hx hb dL_law_461 rfl (lv_at hl 0 rfl) ?_
  refine lv_iload hx hb dL_law_462 (lv_at hl 5 rfl) ?_
  refine lv_iconst (v := 3) hx hb dL_law_464 (by decide) ?_
  refine lv_iadd hx hb dL_law_465 ?_
  refine va_sld hx hb hX hbl hbA hS (i := 0 + 3) (by unfold vp_in; decide) dL_law_466 ?_
  refine lv_aload_n hx hb dL_law_467 rfl (lv_at hl 3 rfl) ?_
  refine wx_calli (vx_runSW (As := [.ref (L 0), .int (xs (0 + 1 : Int32).toNatClampNeg), .int (xs (0 + 2 : Int32).toNatClampNeg), .int (xs (0 + 3 : Int32).toNatClampNeg), .ref (L 123)]) (rest := []) ⟨hx, hb, hml, hown, hts⟩ (kl_wear l hst g s.heap.size 125 L (by omega) x0 (mw g L y0 0 ro) hx0 hx1 hx2 hx3 f (mw_ge (by decide) |>.trans ho) (xs (0 + 1 : Int32).toNatClampNeg) (xs (0 + 2 : Int32).toNatClampNeg) (xs (0 + 3 : Int32).toNatClampNeg)) (vx_cwSW 5 hts gL_law_L_wear rfl rfl rfl (by decide +kernel) ⟨Nat.le_of_ble_eq_true rfl, Nat.le_of_ble_eq_true rfl⟩) (PW.preS3 (Nat.le_refl _) hJ hK hE hP hS) rfl rfl hl.1 rfl (lv_room (Nat.le_of_ble_eq_true rfl)) dL_law_468 ⟨Nat.le_of_ble_eq_true rfl, Nat.le_of_ble_eq_true rfl⟩) hS (fun r468 u468 H locs h468 hP hS => ?_)
  obtain ⟨v468, t468⟩ := u468
  dsimp only at h468 hP
  obtain ⟨rfl, rfl⟩ := h468
  have hP : va_P g.1 vwCl (wl 125 L (mw g L y0 0 (cw g L v468 ro))) H := by rw [← cw_mw]; exact hP
  refine lv_istore (lv' := [(6, .int 1), (0, .ref b), (1, .ref (L 0)), (2, .ref (L 106)), (3, .ref (L 123)), (4, .ref (L 124)), (5, .int 0)]) hx hb dL_law_471 hl (by decide) rfl (fun ls hl => ?_)
  refine lv_aload_n hx hb dL_law_473 rfl (lv_at hl 3 rfl) ?_
  refine lv_aload_n hx hb dL_law_474 rfl (lv_at hl 1 rfl) ?_
  refine lv_iload hx hb dL_law_475 (lv_at hl 6 rfl) ?_
  refine lv_iconst (v := 1) hx hb dL_law_477 (by decide) ?_
  refine lv_iadd hx hb dL_law_478 ?_
  refine va_sld hx hb hX hbl hbA hS (i := 0 + 1) (by unfold vp_in; decide) dL_law_479 ?_
  refine lv_aload_n hx hb dL_law_480 rfl (lv_at hl 1 rfl) ?_
  refine lv_iload hx hb dL_law_481 (lv_at hl 6 rfl) ?_
  refine lv_iconst (v := 2) hx hb dL_law_483 (by decide) ?_
  refine lv_iadd hx hb dL_law_484 ?_
  refine va_sld hx hb hX hbl hbA hS (i := 0 + 2) (by unfold vp_in; decide) dL_law_485 ?_
  refine lv_aload_n hx hb dL_law_486 rfl (lv_at hl 1 rfl) ?_
  refine lv_iload hx hb dL_law_487 (lv_at hl 6 rfl) ?_
  refine lv_iconst (v := 3) hx hb dL_law_489 (by decide) ?_
  refine lv_iadd hx hb dL_law_490 ?_
  refine va_sld hx hb hX hbl hbA hS (i := 0 + 3) (by unfold vp_in; decide) dL_law_491 ?_
  refine wx_calli (va_runV (As := [.int (xs (0 + 1 : Int32).toNatClampNeg), .int (xs (0 + 2 : Int32).toNatClampNeg), .int (xs (0 + 3 : Int32).toNatClampNeg)]) (rest := []) ⟨hx, hb, hml, hown, hts⟩ (km_wear l hst g s.heap.size 125 L (by omega) y0 0 (cw g L v468 ro) hy1 hy2 hy3 hy4 (xs (0 + 1 : Int32).toNatClampNeg) (xs (0 + 2 : Int32).toNatClampNeg) (xs (0 + 3 : Int32).toNatClampNeg)) (cwV 3 hts gL_law_X4_wear rfl rfl rfl (by decide +kernel) ⟨Nat.le_of_ble_eq_true rfl, Nat.le_of_ble_eq_true rfl⟩) (PW.preV3 (Nat.le_refl _) hJ hK hE hP hS (ci := 6) rfl (by omega) mw_o) rfl rfl hl.1 rfl (lv_room (Nat.le_of_ble_eq_true rfl)) dL_law_492 ⟨Nat.le_of_ble_eq_true rfl, Nat.le_of_ble_eq_true rfl⟩) hS (fun r492 u492 H locs h492 hP hS => ?_)
  have ht9 : u492 0 0 0 = 1 := h492
  refine lv_istore (lv' := [(7, .int r492), (6, .int 1), (0, .ref b), (1, .ref (L 0)), (2, .ref (L 106)), (3, .ref (L 123)), (4, .ref (L 124)), (5, .int 0)]) hx hb dL_law_495 hl (by decide) rfl (fun ls hl => ?_)
  refine lv_aload_n hx hb dL_law_497 rfl (lv_at hl 4 rfl) ?_
  refine wx_calli (va_runV (As := []) (rest := []) ⟨hx, hb, hml, hown, hts⟩ (km_thrown l hst g s.heap.size 125 L (by omega) u492 0 (cw g L v468 ro)) (cwV 0 hts gL_law_X4_thrown rfl rfl rfl (by decide +kernel) ⟨Nat.le_of_ble_eq_true rfl, Nat.le_of_ble_eq_true rfl⟩) (PW.preV3 (Nat.le_refl _) hJ hK hE hP hS (ci := 6) rfl (by omega) mw_o) rfl rfl hl.1 rfl (lv_room (Nat.le_of_ble_eq_true rfl)) dL_law_498 ⟨Nat.le_of_ble_eq_true rfl, Nat.le_of_ble_eq_true rfl⟩) hS (fun r498 u498 H locs h498 hP hS => ?_)
  obtain ⟨rfl, e9⟩ := h498
  have e9 := e9.symm
  subst e9
  refine lv_iload hx hb dL_law_501 (lv_at hl 1 rfl) ?_
  refine lv_icmp_eq (tgt := 508) hx hb dL_law_503 (by decide) (fun c503 => ?_) (fun c503 => absurd (ht9) c503)
  refine lv_iload hx hb dL_law_508 (lv_at hl 1 rfl) ?_
  refine lv_if_ne (tgt := 525) hx hb dL_law_510 (by decide) (fun c510 => ?_) (fun c510 => absurd c510 (by decide))
  refine lv_goto (tgt := 2028) hx hb dL_law_525 (by decide) ?_
  exact law_end C0 (Nat.le_of_ble_eq_true rfl) (Nat.le_of_ble_eq_true rfl) hS (lv_sub hl [7, 2] rfl)

set_option maxHeartbeats 8000000 in
set_option maxRecDepth 100000 in
theorem law_c5 {p : Program} {e : Env} {s : State} {m : MethodId} {below : List Frame} {meth : Method} {c : Code} (l : Launch) (hst : l.stackTraces = false) {b : Nat} {xs : Nat → Int32} (C0 : lw_At p s m meth c b 5 xs) (g : gE) (L : Nat → Nat) (ro : Nat → va_E) (f : Nat → Int64) (ho : ro 123 = .inl (g.2 4, 1, .inr (.inl f))) (hJ : wj 125 L (fun q : Nat => s.heap.size ≤ q)) (hK : va_K g.1 vwCl (tysC g) s) (hE : EE SS (fun q : Nat => s.heap.size ≤ q) s) {H : Heap} {locs : List Loc} (hP : va_P g.1 vwCl (wl 125 L (cw g L x0 (mw g L y0 0 ro))) H) (hS : va_S (fun q : Nat => s.heap.size ≤ q) s.heap H locs) {ls : Array Slot} (hl : lv_has ls 9 [(0, .ref b), (1, .ref (L 0)), (2, .ref (L 106)), (3, .ref (L 123)), (4, .ref (L 124)), (5, .int 0)]) : W p l e room_1 s m #[Value.ref b] below meth c H locs 200 100000 (lw_Z below #[Value.ref b] s) (F0 m 528 ls []) := by
  obtain ⟨hx, hb, hr, hml, hown, hts0, hX, hbl, hlocks, hgv⟩ := id C0
  have hown : s.vm.findClass RL = some m.cls := hown
  have hts : ∀ w ∈ wsL_law, w.before #[Value.ref b] s = true := fun w h => hts0 w (wsL_law_in w h)
  have hbA : ¬ (fun q : Nat => s.heap.size ≤ q) b := Nat.not_le.mpr hbl
  have hx0 : x0 0 0 0 = nI 0 := rfl
  have hx1 : x0 1 0 0 = nI 0 := rfl
  have hx2 : x0 2 0 0 = 2 := rfl
  have hx3 : x0 3 0 0 = nI 0 := rfl
  have hy1 : y0 1 0 0 = nI 0 := rfl
  have hy2 : y0 2 0 0 = 2 := rfl
  have hy3 : y0 3 0 0 = nI 0 := rfl
  have hy4 : y0 4 0 0 = nI 0 := rfl
  have hn : 125 ≤ 125 := Nat.le_refl _
  refine lv_aload_n hx hb dL_law_528 rfl (lv_at hl 1 rfl) ?_
  refine lv_aload_n hx hb dL_law_529 rfl (lv_at hl 0 rfl) ?_
  refine lv_iload hx hb dL_law_530 (lv_at hl 5 rfl) ?_
  refine lv_iconst (v := 1) hx hb dL_law_532 (by decide) ?_
  refine lv_iadd hx hb dL_law_533 ?_
  refine va_sld hx hb hX hbl hbA hS (i := 0 + 1) (by unfold vp_in; decide) dL_law_534 ?_
  refine lv_aload_n hx hb dL_law_535 rfl (lv_at hl 3 rfl) ?_
  refine wx_calli (vx_runSW (As := [.ref (L 0), .int (xs (0 + 1 : Int32).toNatClampNeg), .ref (L 123)]) (rest := []) ⟨hx, hb, hml, hown, hts⟩ (kl_shows l hst g s.heap.size 125 L (by omega) x0 (mw g L y0 0 ro) hx0 hx1 hx2 hx3 f (mw_ge (by decide) |>.trans ho) (xs (0 + 1 : Int32).toNatClampNeg)) (vx_cwSW 3 hts gL_law_L_shows rfl rfl rfl (by decide +kernel) ⟨Nat.le_of_ble_eq_true rfl, Nat.le_of_ble_eq_true rfl⟩) (PW.preS3 (Nat.le_refl _) hJ hK hE hP hS) rfl rfl hl.1 rfl (lv_room (Nat.le_of_ble_eq_true rfl)) dL_law_536 ⟨Nat.le_of_ble_eq_true rfl, Nat.le_of_ble_eq_true rfl⟩) hS (fun r536 u536 H locs h536 hP hS => ?_)
  obtain ⟨v536, t536⟩ := u536
  dsimp only at h536 hP
  obtain ⟨rfl, rfl⟩ := h536
  have hP : va_P g.1 vwCl (wl 125 L (mw g L y0 0 (cw g L v536 ro))) H := by rw [← cw_mw]; exact hP
  refine lv_istore (lv' := [(6, .int 1), (0, .ref b), (1, .ref (L 0)), (2, .ref (L 106)), (3, .ref (L 123)), (4, .ref (L 124)), (5, .int 0)]) hx hb dL_law_539 hl (by decide) rfl (fun ls hl => ?_)
  refine lv_aload_n hx hb dL_law_541 rfl (lv_at hl 3 rfl) ?_
  refine lv_aload_n hx hb dL_law_542 rfl (lv_at hl 1 rfl) ?_
  refine lv_iload hx hb dL_law_543 (lv_at hl 6 rfl) ?_
  refine lv_iconst (v := 1) hx hb dL_law_545 (by decide) ?_
  refine lv_iadd hx hb dL_law_546 ?_
  refine va_sld hx hb hX hbl hbA hS (i := 0 + 1) (by unfold vp_in; decide) dL_law_547 ?_
  refine wx_calli (va_runV (As := [.int (xs (0 + 1 : Int32).toNatClampNeg)]) (rest := []) ⟨hx, hb, hml, hown, hts⟩ (km_shows l hst g s.heap.size 125 L (by omega) y0 0 (cw g L v536 ro) hy1 hy2 hy3 hy4 (xs (0 + 1 : Int32).toNatClampNeg)) (cwV 1 hts gL_law_X4_shows rfl rfl rfl (by decide +kernel) ⟨Nat.le_of_ble_eq_true rfl, Nat.le_of_ble_eq_true rfl⟩) (PW.preV3 (Nat.le_refl _) hJ hK hE hP hS (ci := 6) rfl (by omega) mw_o) rfl rfl hl.1 rfl (lv_room (Nat.le_of_ble_eq_true rfl)) dL_law_548 ⟨Nat.le_of_ble_eq_true rfl, Nat.le_of_ble_eq_true rfl⟩) hS (fun r548 u548 H locs h548 hP hS => ?_)
  have ht9 : u548 0 0 0 = 1 := h548
  refine lv_istore (lv' := [(7, .int r548), (6, .int 1), (0, .ref b), (1, .ref (L 0)), (2, .ref (L 106)), (3, .ref (L 123)), (4, .ref (L 124)), (5, .int 0)]) hx hb dL_law_551 hl (by decide) rfl (fun ls hl => ?_)
  refine lv_aload_n hx hb dL_law_553 rfl (lv_at hl 4 rfl) ?_
  refine wx_calli (va_runV (As := []) (rest := []) ⟨hx, hb, hml, hown, hts⟩ (km_thrown l hst g s.heap.size 125 L (by omega) u548 0 (cw g L v536 ro)) (cwV 0 hts gL_law_X4_thrown rfl rfl rfl (by decide +kernel) ⟨Nat.le_of_ble_eq_true rfl, Nat.le_of_ble_eq_true rfl⟩) (PW.preV3 (Nat.le_refl _) hJ hK hE hP hS (ci := 6) rfl (by omega) mw_o) rfl rfl hl.1 rfl (lv_room (Nat.le_of_ble_eq_true rfl)) dL_law_554 ⟨Nat.le_of_ble_eq_true rfl, Nat.le_of_ble_eq_true rfl⟩) hS (fun r554 u554 H locs h554 hP hS => ?_)
  obtain ⟨rfl, e9⟩ := h554
  have e9 := e9.symm
  subst e9
  refine lv_iload hx hb dL_law_557 (lv_at hl 1 rfl) ?_
  refine lv_icmp_eq (tgt := 564) hx hb dL_law_559 (by decide) (fun c559 => ?_) (fun c559 => absurd (ht9) c559)
  refine lv_iload hx hb dL_law_564 (lv_at hl 1 rfl) ?_
  refine lv_if_ne (tgt := 581) hx hb dL_law_566 (by decide) (fun c566 => ?_) (fun c566 => absurd c566 (by decide))
  refine lv_goto (tgt := 2028) hx hb dL_law_581 (by decide) ?_
  exact law_end C0 (Nat.le_of_ble_eq_true rfl) (Nat.le_of_ble_eq_true rfl) hS (lv_sub hl [7, 2] rfl)

set_option maxHeartbeats 8000000 in
set_option maxRecDepth 100000 in
theorem law_c6 {p : Program} {e : Env} {s : State} {m : MethodId} {below : List Frame} {meth : Method} {c : Code} (l : Launch) (hst : l.stackTraces = false) {b : Nat} {xs : Nat → Int32} (C0 : lw_At p s m meth c b 5 xs) (g : gE) (L : Nat → Nat) (ro : Nat → va_E) (f : Nat → Int64) (ho : ro 123 = .inl (g.2 4, 1, .inr (.inl f))) (hJ : wj 125 L (fun q : Nat => s.heap.size ≤ q)) (hK : va_K g.1 vwCl (tysC g) s) (hE : EE SS (fun q : Nat => s.heap.size ≤ q) s) {H : Heap} {locs : List Loc} (hP : va_P g.1 vwCl (wl 125 L (cw g L x0 (mw g L y0 0 ro))) H) (hS : va_S (fun q : Nat => s.heap.size ≤ q) s.heap H locs) {ls : Array Slot} (hl : lv_has ls 9 [(0, .ref b), (1, .ref (L 0)), (2, .ref (L 106)), (3, .ref (L 123)), (4, .ref (L 124)), (5, .int 0)]) : W p l e room_1 s m #[Value.ref b] below meth c H locs 200 100000 (lw_Z below #[Value.ref b] s) (F0 m 584 ls []) := by
  obtain ⟨hx, hb, hr, hml, hown, hts0, hX, hbl, hlocks, hgv⟩ := id C0
  have hown : s.vm.findClass RL = some m.cls := hown
  have hts : ∀ w ∈ wsL_law, w.before #[Value.ref b] s = true := fun w h => hts0 w (wsL_law_in w h)
  have hbA : ¬ (fun q : Nat => s.heap.size ≤ q) b := Nat.not_le.mpr hbl
  have hx0 : x0 0 0 0 = nI 0 := rfl
  have hx1 : x0 1 0 0 = nI 0 := rfl
  have hx2 : x0 2 0 0 = 2 := rfl
  have hx3 : x0 3 0 0 = nI 0 := rfl
  have hy1 : y0 1 0 0 = nI 0 := rfl
  have hy2 : y0 2 0 0 = 2 := rfl
  have hy3 : y0 3 0 0 = nI 0 := rfl
  have hy4 : y0 4 0 0 = nI 0 := rfl
  have hn : 125 ≤ 125 := Nat.le_refl _
  refine lv_aload_n hx hb dL_law_584 rfl (lv_at hl 1 rfl) ?_
  refine lv_aload_n hx hb dL_law_585 rfl (lv_at hl 0 rfl) ?_
  refine lv_iload hx hb dL_law_586 (lv_at hl 5 rfl) ?_
  refine lv_iconst (v := 1) hx hb dL_law_588 (by decide) ?_
  refine lv_iadd hx hb dL_law_589 ?_
  refine va_sld hx hb hX hbl hbA hS (i := 0 + 1) (by unfold vp_in; decide) dL_law_590 ?_
  refine lv_aload_n hx hb dL_law_591 rfl (lv_at hl 3 rfl) ?_
  refine wx_calli (vx_runSW (As := [.ref (L 0), .int (xs (0 + 1 : Int32).toNatClampNeg), .ref (L 123)]) (rest := []) ⟨hx, hb, hml, hown, hts⟩ (kl_shift l hst g s.heap.size 125 L (by omega) x0 (mw g L y0 0 ro) hx0 hx1 hx2 hx3 f (mw_ge (by decide) |>.trans ho) (xs (0 + 1 : Int32).toNatClampNeg)) (vx_cwSW 3 hts gL_law_L_shift rfl rfl rfl (by decide +kernel) ⟨Nat.le_of_ble_eq_true rfl, Nat.le_of_ble_eq_true rfl⟩) (PW.preS3 (Nat.le_refl _) hJ hK hE hP hS) rfl rfl hl.1 rfl (lv_room (Nat.le_of_ble_eq_true rfl)) dL_law_592 ⟨Nat.le_of_ble_eq_true rfl, Nat.le_of_ble_eq_true rfl⟩) hS (fun r592 u592 H locs h592 hP hS => ?_)
  obtain ⟨v592, t592⟩ := u592
  dsimp only at h592 hP
  obtain ⟨rfl, rfl⟩ := h592
  have hP : va_P g.1 vwCl (wl 125 L (mw g L y0 0 (cw g L v592 ro))) H := by rw [← cw_mw]; exact hP
  refine lv_istore (lv' := [(6, .int 1), (0, .ref b), (1, .ref (L 0)), (2, .ref (L 106)), (3, .ref (L 123)), (4, .ref (L 124)), (5, .int 0)]) hx hb dL_law_595 hl (by decide) rfl (fun ls hl => ?_)
  refine lv_aload_n hx hb dL_law_597 rfl (lv_at hl 3 rfl) ?_
  refine lv_aload_n hx hb dL_law_598 rfl (lv_at hl 1 rfl) ?_
  refine lv_iload hx hb dL_law_599 (lv_at hl 6 rfl) ?_
  refine lv_iconst (v := 1) hx hb dL_law_601 (by decide) ?_
  refine lv_iadd hx hb dL_law_602 ?_
  refine va_sld hx hb hX hbl hbA hS (i := 0 + 1) (by unfold vp_in; decide) dL_law_603 ?_
  refine wx_calli (va_runV (As := [.int (xs (0 + 1 : Int32).toNatClampNeg)]) (rest := []) ⟨hx, hb, hml, hown, hts⟩ (km_shift l hst g s.heap.size 125 L (by omega) y0 0 (cw g L v592 ro) hy1 hy2 hy3 hy4 (xs (0 + 1 : Int32).toNatClampNeg)) (cwV 1 hts gL_law_X4_shift rfl rfl rfl (by decide +kernel) ⟨Nat.le_of_ble_eq_true rfl, Nat.le_of_ble_eq_true rfl⟩) (PW.preV3 (Nat.le_refl _) hJ hK hE hP hS (ci := 6) rfl (by omega) mw_o) rfl rfl hl.1 rfl (lv_room (Nat.le_of_ble_eq_true rfl)) dL_law_604 ⟨Nat.le_of_ble_eq_true rfl, Nat.le_of_ble_eq_true rfl⟩) hS (fun r604 u604 H locs h604 hP hS => ?_)
  have ht9 : u604 0 0 0 = 1 := h604
  refine lv_istore (lv' := [(7, .int r604), (6, .int 1), (0, .ref b), (1, .ref (L 0)), (2, .ref (L 106)), (3, .ref (L 123)), (4, .ref (L 124)), (5, .int 0)]) hx hb dL_law_607 hl (by decide) rfl (fun ls hl => ?_)
  refine lv_aload_n hx hb dL_law_609 rfl (lv_at hl 4 rfl) ?_
  refine wx_calli (va_runV (As := []) (rest := []) ⟨hx, hb, hml, hown, hts⟩ (km_thrown l hst g s.heap.size 125 L (by omega) u604 0 (cw g L v592 ro)) (cwV 0 hts gL_law_X4_thrown rfl rfl rfl (by decide +kernel) ⟨Nat.le_of_ble_eq_true rfl, Nat.le_of_ble_eq_true rfl⟩) (PW.preV3 (Nat.le_refl _) hJ hK hE hP hS (ci := 6) rfl (by omega) mw_o) rfl rfl hl.1 rfl (lv_room (Nat.le_of_ble_eq_true rfl)) dL_law_610 ⟨Nat.le_of_ble_eq_true rfl, Nat.le_of_ble_eq_true rfl⟩) hS (fun r610 u610 H locs h610 hP hS => ?_)
  obtain ⟨rfl, e9⟩ := h610
  have e9 := e9.symm
  subst e9
  refine lv_iload hx hb dL_law_613 (lv_at hl 1 rfl) ?_
  refine lv_icmp_eq (tgt := 620) hx hb dL_law_615 (by decide) (fun c615 => ?_) (fun c615 => absurd (ht9) c615)
  refine lv_iload hx hb dL_law_620 (lv_at hl 1 rfl) ?_
  refine lv_if_ne (tgt := 637) hx hb dL_law_622 (by decide) (fun c622 => ?_) (fun c622 => absurd c622 (by decide))
  refine lv_goto (tgt := 2028) hx hb dL_law_637 (by decide) ?_
  exact law_end C0 (Nat.le_of_ble_eq_true rfl) (Nat.le_of_ble_eq_true rfl) hS (lv_sub hl [7, 2] rfl)

set_option maxHeartbeats 8000000 in
set_option maxRecDepth 100000 in
theorem law_c7 {p : Program} {e : Env} {s : State} {m : MethodId} {below : List Frame} {meth : Method} {c : Code} (l : Launch) (hst : l.stackTraces = false) {b : Nat} {xs : Nat → Int32} (C0 : lw_At p s m meth c b 5 xs) (g : gE) (L : Nat → Nat) (ro : Nat → va_E) (f : Nat → Int64) (ho : ro 123 = .inl (g.2 4, 1, .inr (.inl f))) (hJ : wj 125 L (fun q : Nat => s.heap.size ≤ q)) (hK : va_K g.1 vwCl (tysC g) s) (hE : EE SS (fun q : Nat => s.heap.size ≤ q) s) {H : Heap} {locs : List Loc} (hP : va_P g.1 vwCl (wl 125 L (cw g L x0 (mw g L y0 0 ro))) H) (hS : va_S (fun q : Nat => s.heap.size ≤ q) s.heap H locs) {ls : Array Slot} (hl : lv_has ls 9 [(0, .ref b), (1, .ref (L 0)), (2, .ref (L 106)), (3, .ref (L 123)), (4, .ref (L 124)), (5, .int 0)]) : W p l e room_1 s m #[Value.ref b] below meth c H locs 200 100000 (lw_Z below #[Value.ref b] s) (F0 m 640 ls []) := by
  obtain ⟨hx, hb, hr, hml, hown, hts0, hX, hbl, hlocks, hgv⟩ := id C0
  have hown : s.vm.findClass RL = some m.cls := hown
  have hts : ∀ w ∈ wsL_law, w.before #[Value.ref b] s = true := fun w h => hts0 w (wsL_law_in w h)
  have hbA : ¬ (fun q : Nat => s.heap.size ≤ q) b := Nat.not_le.mpr hbl
  have hx0 : x0 0 0 0 = nI 0 := rfl
  have hx1 : x0 1 0 0 = nI 0 := rfl
  have hx2 : x0 2 0 0 = 2 := rfl
  have hx3 : x0 3 0 0 = nI 0 := rfl
  have hy1 : y0 1 0 0 = nI 0 := rfl
  have hy2 : y0 2 0 0 = 2 := rfl
  have hy3 : y0 3 0 0 = nI 0 := rfl
  have hy4 : y0 4 0 0 = nI 0 := rfl
  have hn : 125 ≤ 125 := Nat.le_refl _
  refine lv_aload_n hx hb dL_law_640 rfl (lv_at hl 1 rfl) ?_
  refine lv_aload_n hx hb dL_law_641 rfl (lv_at hl 0 rfl) ?_
  refine lv_iload hx hb dL_law_642 (lv_at hl 5 rfl) ?_
  refine lv_iconst (v := 1) hx hb dL_law_644 (by decide) ?_
  refine lv_iadd hx hb dL_law_645 ?_
  refine va_sld hx hb hX hbl hbA hS (i := 0 + 1) (by unfold vp_in; decide) dL_law_646 ?_
  refine lv_aload_n hx hb dL_law_647 rfl (lv_at hl 3 rfl) ?_
  refine wx_calli (vx_runSW (As := [.ref (L 0), .int (xs (0 + 1 : Int32).toNatClampNeg), .ref (L 123)]) (rest := []) ⟨hx, hb, hml, hown, hts⟩ (kl_sleeps l hst g s.heap.size 125 L (by omega) x0 (mw g L y0 0 ro) hx0 hx1 hx2 hx3 f (mw_ge (by decide) |>.trans ho) (xs (0 + 1 : Int32).toNatClampNeg)) (vx_cwSW 3 hts gL_law_L_sleeps rfl rfl rfl (by decide +kernel) ⟨Nat.le_of_ble_eq_true rfl, Nat.le_of_ble_eq_true rfl⟩) (PW.preS3 (Nat.le_refl _) hJ hK hE hP hS) rfl rfl hl.1 rfl (lv_room (Nat.le_of_ble_eq_true rfl)) dL_law_648 ⟨Nat.le_of_ble_eq_true rfl, Nat.le_of_ble_eq_true rfl⟩) hS (fun r648 u648 H locs h648 hP hS => ?_)
  obtain ⟨v648, t648⟩ := u648
  dsimp only at h648 hP
  obtain ⟨rfl, rfl⟩ := h648
  have hP : va_P g.1 vwCl (wl 125 L (mw g L y0 0 (cw g L v648 ro))) H := by rw [← cw_mw]; exact hP
  refine lv_istore (lv' := [(6, .int 1), (0, .ref b), (1, .ref (L 0)), (2, .ref (L 106)), (3, .ref (L 123)), (4, .ref (L 124)), (5, .int 0)]) hx hb dL_law_651 hl (by decide) rfl (fun ls hl => ?_)
  refine lv_aload_n hx hb dL_law_653 rfl (lv_at hl 3 rfl) ?_
  refine lv_aload_n hx hb dL_law_654 rfl (lv_at hl 1 rfl) ?_
  refine lv_iload hx hb dL_law_655 (lv_at hl 6 rfl) ?_
  refine lv_iconst (v := 1) hx hb dL_law_657 (by decide) ?_
  refine lv_iadd hx hb dL_law_658 ?_
  refine va_sld hx hb hX hbl hbA hS (i := 0 + 1) (by unfold vp_in; decide) dL_law_659 ?_
  refine wx_calli (va_runV (As := [.int (xs (0 + 1 : Int32).toNatClampNeg)]) (rest := []) ⟨hx, hb, hml, hown, hts⟩ (km_sleeps l hst g s.heap.size 125 L (by omega) y0 0 (cw g L v648 ro) hy1 hy2 hy3 hy4 (xs (0 + 1 : Int32).toNatClampNeg)) (cwV 1 hts gL_law_X4_sleeps rfl rfl rfl (by decide +kernel) ⟨Nat.le_of_ble_eq_true rfl, Nat.le_of_ble_eq_true rfl⟩) (PW.preV3 (Nat.le_refl _) hJ hK hE hP hS (ci := 6) rfl (by omega) mw_o) rfl rfl hl.1 rfl (lv_room (Nat.le_of_ble_eq_true rfl)) dL_law_660 ⟨Nat.le_of_ble_eq_true rfl, Nat.le_of_ble_eq_true rfl⟩) hS (fun r660 u660 H locs h660 hP hS => ?_)
  have ht9 : u660 0 0 0 = 1 := h660
  refine lv_istore (lv' := [(7, .int r660), (6, .int 1), (0, .ref b), (1, .ref (L 0)), (2, .ref (L 106)), (3, .ref (L 123)), (4, .ref (L 124)), (5, .int 0)]) hx hb dL_law_663 hl (by decide) rfl (fun ls hl => ?_)
  refine lv_aload_n hx hb dL_law_665 rfl (lv_at hl 4 rfl) ?_
  refine wx_calli (va_runV (As := []) (rest := []) ⟨hx, hb, hml, hown, hts⟩ (km_thrown l hst g s.heap.size 125 L (by omega) u660 0 (cw g L v648 ro)) (cwV 0 hts gL_law_X4_thrown rfl rfl rfl (by decide +kernel) ⟨Nat.le_of_ble_eq_true rfl, Nat.le_of_ble_eq_true rfl⟩) (PW.preV3 (Nat.le_refl _) hJ hK hE hP hS (ci := 6) rfl (by omega) mw_o) rfl rfl hl.1 rfl (lv_room (Nat.le_of_ble_eq_true rfl)) dL_law_666 ⟨Nat.le_of_ble_eq_true rfl, Nat.le_of_ble_eq_true rfl⟩) hS (fun r666 u666 H locs h666 hP hS => ?_)
  obtain ⟨rfl, e9⟩ := h666
  have e9 := e9.symm
  subst e9
  refine lv_iload hx hb dL_law_669 (lv_at hl 1 rfl) ?_
  refine lv_icmp_eq (tgt := 676) hx hb dL_law_671 (by decide) (fun c671 => ?_) (fun c671 => absurd (ht9) c671)
  refine lv_iload hx hb dL_law_676 (lv_at hl 1 rfl) ?_
  refine lv_if_ne (tgt := 700) hx hb dL_law_678 (by decide) (fun c678 => ?_) (fun c678 => absurd c678 (by decide))
  refine lv_goto (tgt := 2028) hx hb dL_law_700 (by decide) ?_
  exact law_end C0 (Nat.le_of_ble_eq_true rfl) (Nat.le_of_ble_eq_true rfl) hS (lv_sub hl [7, 2] rfl)

set_option maxHeartbeats 8000000 in
set_option maxRecDepth 100000 in
theorem law_c8 {p : Program} {e : Env} {s : State} {m : MethodId} {below : List Frame} {meth : Method} {c : Code} (l : Launch) (hst : l.stackTraces = false) {b : Nat} {xs : Nat → Int32} (C0 : lw_At p s m meth c b 5 xs) (g : gE) (L : Nat → Nat) (ro : Nat → va_E) (f : Nat → Int64) (ho : ro 123 = .inl (g.2 4, 1, .inr (.inl f))) (hJ : wj 125 L (fun q : Nat => s.heap.size ≤ q)) (hK : va_K g.1 vwCl (tysC g) s) (hE : EE SS (fun q : Nat => s.heap.size ≤ q) s) {H : Heap} {locs : List Loc} (hP : va_P g.1 vwCl (wl 125 L (cw g L x0 (mw g L y0 0 ro))) H) (hS : va_S (fun q : Nat => s.heap.size ≤ q) s.heap H locs) {ls : Array Slot} (hl : lv_has ls 9 [(0, .ref b), (1, .ref (L 0)), (2, .ref (L 106)), (3, .ref (L 123)), (4, .ref (L 124)), (5, .int 0)]) : W p l e room_1 s m #[Value.ref b] below meth c H locs 200 100000 (lw_Z below #[Value.ref b] s) (F0 m 703 ls []) := by
  obtain ⟨hx, hb, hr, hml, hown, hts0, hX, hbl, hlocks, hgv⟩ := id C0
  have hown : s.vm.findClass RL = some m.cls := hown
  have hts : ∀ w ∈ wsL_law, w.before #[Value.ref b] s = true := fun w h => hts0 w (wsL_law_in w h)
  have hbA : ¬ (fun q : Nat => s.heap.size ≤ q) b := Nat.not_le.mpr hbl
  have hx0 : x0 0 0 0 = nI 0 := rfl
  have hx1 : x0 1 0 0 = nI 0 := rfl
  have hx2 : x0 2 0 0 = 2 := rfl
  have hx3 : x0 3 0 0 = nI 0 := rfl
  have hy1 : y0 1 0 0 = nI 0 := rfl
  have hy2 : y0 2 0 0 = 2 := rfl
  have hy3 : y0 3 0 0 = nI 0 := rfl
  have hy4 : y0 4 0 0 = nI 0 := rfl
  have hn : 125 ≤ 125 := Nat.le_refl _
  refine lv_aload_n hx hb dL_law_703 rfl (lv_at hl 1 rfl) ?_
  refine lv_aload_n hx hb dL_law_704 rfl (lv_at hl 0 rfl) ?_
  refine lv_iload hx hb dL_law_705 (lv_at hl 5 rfl) ?_
  refine lv_iconst (v := 1) hx hb dL_law_707 (by decide) ?_
  refine lv_iadd hx hb dL_law_708 ?_
  refine va_sld hx hb hX hbl hbA hS (i := 0 + 1) (by unfold vp_in; decide) dL_law_709 ?_
  refine lv_aload_n hx hb dL_law_710 rfl (lv_at hl 0 rfl) ?_
  refine lv_iload hx hb dL_law_711 (lv_at hl 5 rfl) ?_
  refine lv_iconst (v := 2) hx hb dL_law_713 (by decide) ?_
  refine lv_iadd hx hb dL_law_714 ?_
  refine va_sld hx hb hX hbl hbA hS (i := 0 + 2) (by unfold vp_in; decide) dL_law_715 ?_
  refine lv_aload_n hx hb dL_law_716 rfl (lv_at hl 0 rfl) ?_
  refine lv_iload hx hb dL_law_717 (lv_at hl 5 rfl) ?_
  refine lv_iconst (v := 3) hx hb dL_law_719 (by decide) ?_
  refine lv_iadd hx hb dL_law_720 ?_
  refine va_sld hx hb hX hbl hbA hS (i := 0 + 3) (by unfold vp_in; decide) dL_law_721 ?_
  refine lv_aload_n hx hb dL_law_722 rfl (lv_at hl 0 rfl) ?_
  refine lv_iload hx hb dL_law_723 (lv_at hl 5 rfl) ?_
  refine lv_iconst (v := 4) hx hb dL_law_725 (by decide) ?_
  refine lv_iadd hx hb dL_law_726 ?_
  refine va_sld hx hb hX hbl hbA hS (i := 0 + 4) (by unfold vp_in; decide) dL_law_727 ?_
  refine lv_aload_n hx hb dL_law_728 rfl (lv_at hl 3 rfl) ?_
  refine wx_calli (vx_runSW (As := [.ref (L 0), .int (xs (0 + 1 : Int32).toNatClampNeg), .int (xs (0 + 2 : Int32).toNatClampNeg), .int (xs (0 + 3 : Int32).toNatClampNeg), .int (xs (0 + 4 : Int32).toNatClampNeg), .ref (L 123)]) (rest := []) ⟨hx, hb, hml, hown, hts⟩ (kl_post l hst g s.heap.size 125 L (by omega) x0 (mw g L y0 0 ro) hx0 hx1 hx2 hx3 f (mw_ge (by decide) |>.trans ho) (xs (0 + 1 : Int32).toNatClampNeg) (xs (0 + 2 : Int32).toNatClampNeg) (xs (0 + 3 : Int32).toNatClampNeg) (xs (0 + 4 : Int32).toNatClampNeg)) (vx_cwSW 6 hts gL_law_L_post rfl rfl rfl (by decide +kernel) ⟨Nat.le_of_ble_eq_true rfl, Nat.le_of_ble_eq_true rfl⟩) (PW.preS3 (Nat.le_refl _) hJ hK hE hP hS) rfl rfl hl.1 rfl (lv_room (Nat.le_of_ble_eq_true rfl)) dL_law_729 ⟨Nat.le_of_ble_eq_true rfl, Nat.le_of_ble_eq_true rfl⟩) hS (fun r729 u729 H locs h729 hP hS => ?_)
  obtain ⟨v729, t729⟩ := u729
  dsimp only at h729 hP
  rcases h729 with ⟨hb9, rfl, rfl⟩ | ⟨hb9, rfl, rfl⟩
  · have hP : va_P g.1 vwCl (wl 125 L (mw g L y0 0 (cw g L v729 ro))) H := by rw [← cw_mw]; exact hP
    refine lv_istore (lv' := [(6, .int 1), (0, .ref b), (1, .ref (L 0)), (2, .ref (L 106)), (3, .ref (L 123)), (4, .ref (L 124)), (5, .int 0)]) hx hb dL_law_732 hl (by decide) rfl (fun ls hl => ?_)
    refine lv_aload_n hx hb dL_law_734 rfl (lv_at hl 3 rfl) ?_
    refine lv_aload_n hx hb dL_law_735 rfl (lv_at hl 1 rfl) ?_
    refine lv_iload hx hb dL_law_736 (lv_at hl 6 rfl) ?_
    refine lv_iconst (v := 1) hx hb dL_law_738 (by decide) ?_
    refine lv_iadd hx hb dL_law_739 ?_
    refine va_sld hx hb hX hbl hbA hS (i := 0 + 1) (by unfold vp_in; decide) dL_law_740 ?_
    refine lv_aload_n hx hb dL_law_741 rfl (lv_at hl 1 rfl) ?_
    refine lv_iload hx hb dL_law_742 (lv_at hl 6 rfl) ?_
    refine lv_iconst (v := 2) hx hb dL_law_744 (by decide) ?_
    refine lv_iadd hx hb dL_law_745 ?_
    refine va_sld hx hb hX hbl hbA hS (i := 0 + 2) (by unfold vp_in; decide) dL_law_746 ?_
    refine lv_aload_n hx hb dL_law_747 rfl (lv_at hl 1 rfl) ?_
    refine lv_iload hx hb dL_law_748 (lv_at hl 6 rfl) ?_
    refine lv_iconst (v := 3) hx hb dL_law_750 (by decide) ?_
    refine lv_iadd hx hb dL_law_751 ?_
    refine va_sld hx hb hX hbl hbA hS (i := 0 + 3) (by unfold vp_in; decide) dL_law_752 ?_
    refine lv_aload_n hx hb dL_law_753 rfl (lv_at hl 1 rfl) ?_
    refine lv_iload hx hb dL_law_754 (lv_at hl 6 rfl) ?_
    refine lv_iconst (v := 4) hx hb dL_law_756 (by decide) ?_
    refine lv_iadd hx hb dL_law_757 ?_
    refine va_sld hx hb hX hbl hbA hS (i := 0 + 4) (by unfold vp_in; decide) dL_law_758 ?_
    refine wx_calli (va_runV (As := [.int (xs (0 + 1 : Int32).toNatClampNeg), .int (xs (0 + 2 : Int32).toNatClampNeg), .int (xs (0 + 3 : Int32).toNatClampNeg), .int (xs (0 + 4 : Int32).toNatClampNeg)]) (rest := []) ⟨hx, hb, hml, hown, hts⟩ (km_post l hst g s.heap.size 125 L (by omega) y0 0 (cw g L v729 ro) hy1 hy2 hy3 hy4 (xs (0 + 1 : Int32).toNatClampNeg) (xs (0 + 2 : Int32).toNatClampNeg) (xs (0 + 3 : Int32).toNatClampNeg) (xs (0 + 4 : Int32).toNatClampNeg)) (cwV 4 hts gL_law_X4_post rfl rfl rfl (by decide +kernel) ⟨Nat.le_of_ble_eq_true rfl, Nat.le_of_ble_eq_true rfl⟩) (PW.preV3 (Nat.le_refl _) hJ hK hE hP hS (ci := 6) rfl (by omega) mw_o) rfl rfl hl.1 rfl (lv_room (Nat.le_of_ble_eq_true rfl)) dL_law_759 ⟨Nat.le_of_ble_eq_true rfl, Nat.le_of_ble_eq_true rfl⟩) hS (fun r759 u759 H locs h759 hP hS => ?_)
    have ht9 : u759 0 0 0 = 1 := h759.elim (fun z => z.2) (fun z => absurd hb9 z.1)
    refine lv_istore (lv' := [(7, .int r759), (6, .int 1), (0, .ref b), (1, .ref (L 0)), (2, .ref (L 106)), (3, .ref (L 123)), (4, .ref (L 124)), (5, .int 0)]) hx hb dL_law_762 hl (by decide) rfl (fun ls hl => ?_)
    refine lv_aload_n hx hb dL_law_764 rfl (lv_at hl 4 rfl) ?_
    refine wx_calli (va_runV (As := []) (rest := []) ⟨hx, hb, hml, hown, hts⟩ (km_thrown l hst g s.heap.size 125 L (by omega) u759 0 (cw g L v729 ro)) (cwV 0 hts gL_law_X4_thrown rfl rfl rfl (by decide +kernel) ⟨Nat.le_of_ble_eq_true rfl, Nat.le_of_ble_eq_true rfl⟩) (PW.preV3 (Nat.le_refl _) hJ hK hE hP hS (ci := 6) rfl (by omega) mw_o) rfl rfl hl.1 rfl (lv_room (Nat.le_of_ble_eq_true rfl)) dL_law_765 ⟨Nat.le_of_ble_eq_true rfl, Nat.le_of_ble_eq_true rfl⟩) hS (fun r765 u765 H locs h765 hP hS => ?_)
    obtain ⟨rfl, e9⟩ := h765
    have e9 := e9.symm
    subst e9
    refine lv_iload hx hb dL_law_768 (lv_at hl 1 rfl) ?_
    refine lv_icmp_eq (tgt := 775) hx hb dL_law_770 (by decide) (fun c770 => ?_) (fun c770 => absurd (ht9) c770)
    refine lv_iload hx hb dL_law_775 (lv_at hl 1 rfl) ?_
    refine lv_if_ne (tgt := 792) hx hb dL_law_777 (by decide) (fun c777 => ?_) (fun c777 => absurd c777 (by decide))
    refine lv_goto (tgt := 2028) hx hb dL_law_792 (by decide) ?_
    exact law_end C0 (Nat.le_of_ble_eq_true rfl) (Nat.le_of_ble_eq_true rfl) hS (lv_sub hl [7, 2] rfl)
  · have hP : va_P g.1 vwCl (wl 125 L (mw g L y0 0 (cw g L v729 (va_up ro 123 (oL g f ((0 : Int32).toInt64)))))) H := by rw [← cw_mw, ← mw_rest (by decide)]; exact hP
    refine lv_istore (lv' := [(6, .int 0), (0, .ref b), (1, .ref (L 0)), (2, .ref (L 106)), (3, .ref (L 123)), (4, .ref (L 124)), (5, .int 0)]) hx hb dL_law_732 hl (by decide) rfl (fun ls hl => ?_)
    refine lv_aload_n hx hb dL_law_734 rfl (lv_at hl 3 rfl) ?_
    refine lv_aload_n hx hb dL_law_735 rfl (lv_at hl 1 rfl) ?_
    refine lv_iload hx hb dL_law_736 (lv_at hl 6 rfl) ?_
    refine lv_iconst (v := 1) hx hb dL_law_738 (by decide) ?_
    refine lv_iadd hx hb dL_law_739 ?_
    refine va_sld hx hb hX hbl hbA hS (i := 0 + 1) (by unfold vp_in; decide) dL_law_740 ?_
    refine lv_aload_n hx hb dL_law_741 rfl (lv_at hl 1 rfl) ?_
    refine lv_iload hx hb dL_law_742 (lv_at hl 6 rfl) ?_
    refine lv_iconst (v := 2) hx hb dL_law_744 (by decide) ?_
    refine lv_iadd hx hb dL_law_745 ?_
    refine va_sld hx hb hX hbl hbA hS (i := 0 + 2) (by unfold vp_in; decide) dL_law_746 ?_
    refine lv_aload_n hx hb dL_law_747 rfl (lv_at hl 1 rfl) ?_
    refine lv_iload hx hb dL_law_748 (lv_at hl 6 rfl) ?_
    refine lv_iconst (v := 3) hx hb dL_law_750 (by decide) ?_
    refine lv_iadd hx hb dL_law_751 ?_
    refine va_sld hx hb hX hbl hbA hS (i := 0 + 3) (by unfold vp_in; decide) dL_law_752 ?_
    refine lv_aload_n hx hb dL_law_753 rfl (lv_at hl 1 rfl) ?_
    refine lv_iload hx hb dL_law_754 (lv_at hl 6 rfl) ?_
    refine lv_iconst (v := 4) hx hb dL_law_756 (by decide) ?_
    refine lv_iadd hx hb dL_law_757 ?_
    refine va_sld hx hb hX hbl hbA hS (i := 0 + 4) (by unfold vp_in; decide) dL_law_758 ?_
    refine wx_calli (va_runV (As := [.int (xs (0 + 1 : Int32).toNatClampNeg), .int (xs (0 + 2 : Int32).toNatClampNeg), .int (xs (0 + 3 : Int32).toNatClampNeg), .int (xs (0 + 4 : Int32).toNatClampNeg)]) (rest := []) ⟨hx, hb, hml, hown, hts⟩ (km_post l hst g s.heap.size 125 L (by omega) y0 0 (cw g L v729 (va_up ro 123 (oL g f ((0 : Int32).toInt64)))) hy1 hy2 hy3 hy4 (xs (0 + 1 : Int32).toNatClampNeg) (xs (0 + 2 : Int32).toNatClampNeg) (xs (0 + 3 : Int32).toNatClampNeg) (xs (0 + 4 : Int32).toNatClampNeg)) (cwV 4 hts gL_law_X4_post rfl rfl rfl (by decide +kernel) ⟨Nat.le_of_ble_eq_true rfl, Nat.le_of_ble_eq_true rfl⟩) (PW.preV3 (Nat.le_refl _) hJ hK hE hP hS (ci := 6) rfl (by omega) mw_o) rfl rfl hl.1 rfl (lv_room (Nat.le_of_ble_eq_true rfl)) dL_law_759 ⟨Nat.le_of_ble_eq_true rfl, Nat.le_of_ble_eq_true rfl⟩) hS (fun r759 u759 H locs h759 hP hS => ?_)
    obtain ⟨ht9, er9⟩ : u759 0 0 0 = 0 ∧ r759 = 0 := h759.elim (fun z => absurd z.1 hb9) (fun z => z.2)
    refine lv_istore (lv' := [(7, .int r759), (6, .int 0), (0, .ref b), (1, .ref (L 0)), (2, .ref (L 106)), (3, .ref (L 123)), (4, .ref (L 124)), (5, .int 0)]) hx hb dL_law_762 hl (by decide) rfl (fun ls hl => ?_)
    refine lv_aload_n hx hb dL_law_764 rfl (lv_at hl 4 rfl) ?_
    refine wx_calli (va_runV (As := []) (rest := []) ⟨hx, hb, hml, hown, hts⟩ (km_thrown l hst g s.heap.size 125 L (by omega) u759 0 (cw g L v729 (va_up ro 123 (oL g f ((0 : Int32).toInt64))))) (cwV 0 hts gL_law_X4_thrown rfl rfl rfl (by decide +kernel) ⟨Nat.le_of_ble_eq_true rfl, Nat.le_of_ble_eq_true rfl⟩) (PW.preV3 (Nat.le_refl _) hJ hK hE hP hS (ci := 6) rfl (by omega) mw_o) rfl rfl hl.1 rfl (lv_room (Nat.le_of_ble_eq_true rfl)) dL_law_765 ⟨Nat.le_of_ble_eq_true rfl, Nat.le_of_ble_eq_true rfl⟩) hS (fun r765 u765 H locs h765 hP hS => ?_)
    obtain ⟨rfl, e9⟩ := h765
    have e9 := e9.symm
    subst e9
    refine lv_iload hx hb dL_law_768 (lv_at hl 1 rfl) ?_
    refine lv_icmp_eq (tgt := 775) hx hb dL_law_770 (by decide) (fun c770 => ?_) (fun c770 => absurd (ht9) c770)
    refine lv_iload hx hb dL_law_775 (lv_at hl 1 rfl) ?_
    refine lv_if_ne (tgt := 792) hx hb dL_law_777 (by decide) (fun c777 => absurd c777 (by decide)) (fun c777 => ?_)
    refine lv_aload_n hx hb dL_law_780 rfl (lv_at hl 5 rfl) ?_
    refine lv_iconst (v := 0) hx hb dL_law_781 (by decide) ?_
    refine wx_lald (D := g.1) (cl := vwCl) (f := vp_updL f (0 : Int32).toNatClampNeg ((0 : Int32).toInt64)) hx hb hK hP (123) 4 (by omega) ((mw_ge (by decide)).trans ((cw_ge (by decide)).trans (va_up_self _ _ _))) rfl (i := 0) (vp_in_nI (n := 0) (by decide) (by decide)) dL_law_782 ?_
    refine lv_iload hx hb dL_law_783 (lv_at hl 0 rfl) ?_
    refine lv_i2l hx hb dL_law_785 rfl ?_
    refine W.lcmp hx hb dL_law_786 ?_
    refine lv_if_eq (tgt := 792) hx hb dL_law_787 (by decide) (fun c787 => ?_) (fun c787 => absurd (by rw [er9, pk_uLs, lgc]) c787)
    refine lv_goto (tgt := 2028) hx hb dL_law_792 (by decide) ?_
    exact law_end C0 (Nat.le_of_ble_eq_true rfl) (Nat.le_of_ble_eq_true rfl) hS (lv_sub hl [7, 2] rfl)

set_option maxHeartbeats 8000000 in
set_option maxRecDepth 100000 in
theorem law_c9 {p : Program} {e : Env} {s : State} {m : MethodId} {below : List Frame} {meth : Method} {c : Code} (l : Launch) (hst : l.stackTraces = false) {b : Nat} {xs : Nat → Int32} (C0 : lw_At p s m meth c b 5 xs) (g : gE) (L : Nat → Nat) (ro : Nat → va_E) (f : Nat → Int64) (ho : ro 123 = .inl (g.2 4, 1, .inr (.inl f))) (hJ : wj 125 L (fun q : Nat => s.heap.size ≤ q)) (hK : va_K g.1 vwCl (tysC g) s) (hE : EE SS (fun q : Nat => s.heap.size ≤ q) s) {H : Heap} {locs : List Loc} (hP : va_P g.1 vwCl (wl 125 L (cw g L x0 (mw g L y0 0 ro))) H) (hS : va_S (fun q : Nat => s.heap.size ≤ q) s.heap H locs) {ls : Array Slot} (hl : lv_has ls 9 [(0, .ref b), (1, .ref (L 0)), (2, .ref (L 106)), (3, .ref (L 123)), (4, .ref (L 124)), (5, .int 0)]) : W p l e room_1 s m #[Value.ref b] below meth c H locs 200 100000 (lw_Z below #[Value.ref b] s) (F0 m 795 ls []) := by
  obtain ⟨hx, hb, hr, hml, hown, hts0, hX, hbl, hlocks, hgv⟩ := id C0
  have hown : s.vm.findClass RL = some m.cls := hown
  have hts : ∀ w ∈ wsL_law, w.before #[Value.ref b] s = true := fun w h => hts0 w (wsL_law_in w h)
  have hbA : ¬ (fun q : Nat => s.heap.size ≤ q) b := Nat.not_le.mpr hbl
  have hx0 : x0 0 0 0 = nI 0 := rfl
  have hx1 : x0 1 0 0 = nI 0 := rfl
  have hx2 : x0 2 0 0 = 2 := rfl
  have hx3 : x0 3 0 0 = nI 0 := rfl
  have hy1 : y0 1 0 0 = nI 0 := rfl
  have hy2 : y0 2 0 0 = 2 := rfl
  have hy3 : y0 3 0 0 = nI 0 := rfl
  have hy4 : y0 4 0 0 = nI 0 := rfl
  have hn : 125 ≤ 125 := Nat.le_refl _
  refine lv_aload_n hx hb dL_law_795 rfl (lv_at hl 1 rfl) ?_
  refine lv_aload_n hx hb dL_law_796 rfl (lv_at hl 0 rfl) ?_
  refine lv_iload hx hb dL_law_797 (lv_at hl 5 rfl) ?_
  refine lv_iconst (v := 1) hx hb dL_law_799 (by decide) ?_
  refine lv_iadd hx hb dL_law_800 ?_
  refine va_sld hx hb hX hbl hbA hS (i := 0 + 1) (by unfold vp_in; decide) dL_law_801 ?_
  refine lv_aload_n hx hb dL_law_802 rfl (lv_at hl 0 rfl) ?_
  refine lv_iload hx hb dL_law_803 (lv_at hl 5 rfl) ?_
  refine lv_iconst (v := 2) hx hb dL_law_805 (by decide) ?_
  refine lv_iadd hx hb dL_law_806 ?_
  refine va_sld hx hb hX hbl hbA hS (i := 0 + 2) (by unfold vp_in; decide) dL_law_807 ?_
  refine lv_aload_n hx hb dL_law_808 rfl (lv_at hl 3 rfl) ?_
  refine wx_calli (vx_runSW (As := [.ref (L 0), .int (xs (0 + 1 : Int32).toNatClampNeg), .int (xs (0 + 2 : Int32).toNatClampNeg), .ref (L 123)]) (rest := []) ⟨hx, hb, hml, hown, hts⟩ (kl_queue l hst g s.heap.size 125 L (by omega) x0 (mw g L y0 0 ro) hx0 hx1 hx2 hx3 f (mw_ge (by decide) |>.trans ho) (xs (0 + 1 : Int32).toNatClampNeg) (xs (0 + 2 : Int32).toNatClampNeg)) (vx_cwSW 4 hts gL_law_L_queue rfl rfl rfl (by decide +kernel) ⟨Nat.le_of_ble_eq_true rfl, Nat.le_of_ble_eq_true rfl⟩) (PW.preS3 (Nat.le_refl _) hJ hK hE hP hS) rfl rfl hl.1 rfl (lv_room (Nat.le_of_ble_eq_true rfl)) dL_law_809 ⟨Nat.le_of_ble_eq_true rfl, Nat.le_of_ble_eq_true rfl⟩) hS (fun r809 u809 H locs h809 hP hS => ?_)
  obtain ⟨v809, t809⟩ := u809
  dsimp only at h809 hP
  obtain ⟨rfl, rfl⟩ := h809
  have hP : va_P g.1 vwCl (wl 125 L (mw g L y0 0 (cw g L v809 ro))) H := by rw [← cw_mw]; exact hP
  refine lv_istore (lv' := [(6, .int 1), (0, .ref b), (1, .ref (L 0)), (2, .ref (L 106)), (3, .ref (L 123)), (4, .ref (L 124)), (5, .int 0)]) hx hb dL_law_812 hl (by decide) rfl (fun ls hl => ?_)
  refine lv_aload_n hx hb dL_law_814 rfl (lv_at hl 3 rfl) ?_
  refine lv_aload_n hx hb dL_law_815 rfl (lv_at hl 1 rfl) ?_
  refine lv_iload hx hb dL_law_816 (lv_at hl 6 rfl) ?_
  refine lv_iconst (v := 1) hx hb dL_law_818 (by decide) ?_
  refine lv_iadd hx hb dL_law_819 ?_
  refine va_sld hx hb hX hbl hbA hS (i := 0 + 1) (by unfold vp_in; decide) dL_law_820 ?_
  refine lv_aload_n hx hb dL_law_821 rfl (lv_at hl 1 rfl) ?_
  refine lv_iload hx hb dL_law_822 (lv_at hl 6 rfl) ?_
  refine lv_iconst (v := 2) hx hb dL_law_824 (by decide) ?_
  refine lv_iadd hx hb dL_law_825 ?_
  refine va_sld hx hb hX hbl hbA hS (i := 0 + 2) (by unfold vp_in; decide) dL_law_826 ?_
  refine wx_calli (va_runV (As := [.int (xs (0 + 1 : Int32).toNatClampNeg), .int (xs (0 + 2 : Int32).toNatClampNeg)]) (rest := []) ⟨hx, hb, hml, hown, hts⟩ (km_queue l hst g s.heap.size 125 L (by omega) y0 0 (cw g L v809 ro) hy1 hy2 hy3 hy4 (xs (0 + 1 : Int32).toNatClampNeg) (xs (0 + 2 : Int32).toNatClampNeg)) (cwV 2 hts gL_law_X4_queue rfl rfl rfl (by decide +kernel) ⟨Nat.le_of_ble_eq_true rfl, Nat.le_of_ble_eq_true rfl⟩) (PW.preV3 (Nat.le_refl _) hJ hK hE hP hS (ci := 6) rfl (by omega) mw_o) rfl rfl hl.1 rfl (lv_room (Nat.le_of_ble_eq_true rfl)) dL_law_827 ⟨Nat.le_of_ble_eq_true rfl, Nat.le_of_ble_eq_true rfl⟩) hS (fun r827 u827 H locs h827 hP hS => ?_)
  have ht9 : u827 0 0 0 = 1 := h827
  refine lv_istore (lv' := [(7, .int r827), (6, .int 1), (0, .ref b), (1, .ref (L 0)), (2, .ref (L 106)), (3, .ref (L 123)), (4, .ref (L 124)), (5, .int 0)]) hx hb dL_law_830 hl (by decide) rfl (fun ls hl => ?_)
  refine lv_aload_n hx hb dL_law_832 rfl (lv_at hl 4 rfl) ?_
  refine wx_calli (va_runV (As := []) (rest := []) ⟨hx, hb, hml, hown, hts⟩ (km_thrown l hst g s.heap.size 125 L (by omega) u827 0 (cw g L v809 ro)) (cwV 0 hts gL_law_X4_thrown rfl rfl rfl (by decide +kernel) ⟨Nat.le_of_ble_eq_true rfl, Nat.le_of_ble_eq_true rfl⟩) (PW.preV3 (Nat.le_refl _) hJ hK hE hP hS (ci := 6) rfl (by omega) mw_o) rfl rfl hl.1 rfl (lv_room (Nat.le_of_ble_eq_true rfl)) dL_law_833 ⟨Nat.le_of_ble_eq_true rfl, Nat.le_of_ble_eq_true rfl⟩) hS (fun r833 u833 H locs h833 hP hS => ?_)
  obtain ⟨rfl, e9⟩ := h833
  have e9 := e9.symm
  subst e9
  refine lv_iload hx hb dL_law_836 (lv_at hl 1 rfl) ?_
  refine lv_icmp_eq (tgt := 843) hx hb dL_law_838 (by decide) (fun c838 => ?_) (fun c838 => absurd (ht9) c838)
  refine lv_iload hx hb dL_law_843 (lv_at hl 1 rfl) ?_
  refine lv_if_ne (tgt := 867) hx hb dL_law_845 (by decide) (fun c845 => ?_) (fun c845 => absurd c845 (by decide))
  refine lv_goto (tgt := 2028) hx hb dL_law_867 (by decide) ?_
  exact law_end C0 (Nat.le_of_ble_eq_true rfl) (Nat.le_of_ble_eq_true rfl) hS (lv_sub hl [7, 2] rfl)

set_option maxHeartbeats 8000000 in
set_option maxRecDepth 100000 in
theorem law_c10 {p : Program} {e : Env} {s : State} {m : MethodId} {below : List Frame} {meth : Method} {c : Code} (l : Launch) (hst : l.stackTraces = false) {b : Nat} {xs : Nat → Int32} (C0 : lw_At p s m meth c b 5 xs) (g : gE) (L : Nat → Nat) (ro : Nat → va_E) (f : Nat → Int64) (ho : ro 123 = .inl (g.2 4, 1, .inr (.inl f))) (hJ : wj 125 L (fun q : Nat => s.heap.size ≤ q)) (hK : va_K g.1 vwCl (tysC g) s) (hE : EE SS (fun q : Nat => s.heap.size ≤ q) s) {H : Heap} {locs : List Loc} (hP : va_P g.1 vwCl (wl 125 L (cw g L x0 (mw g L y0 0 ro))) H) (hS : va_S (fun q : Nat => s.heap.size ≤ q) s.heap H locs) {ls : Array Slot} (hl : lv_has ls 9 [(0, .ref b), (1, .ref (L 0)), (2, .ref (L 106)), (3, .ref (L 123)), (4, .ref (L 124)), (5, .int 0)]) : W p l e room_1 s m #[Value.ref b] below meth c H locs 200 100000 (lw_Z below #[Value.ref b] s) (F0 m 870 ls []) := by
  obtain ⟨hx, hb, hr, hml, hown, hts0, hX, hbl, hlocks, hgv⟩ := id C0
  have hown : s.vm.findClass RL = some m.cls := hown
  have hts : ∀ w ∈ wsL_law, w.before #[Value.ref b] s = true := fun w h => hts0 w (wsL_law_in w h)
  have hbA : ¬ (fun q : Nat => s.heap.size ≤ q) b := Nat.not_le.mpr hbl
  have hx0 : x0 0 0 0 = nI 0 := rfl
  have hx1 : x0 1 0 0 = nI 0 := rfl
  have hx2 : x0 2 0 0 = 2 := rfl
  have hx3 : x0 3 0 0 = nI 0 := rfl
  have hy1 : y0 1 0 0 = nI 0 := rfl
  have hy2 : y0 2 0 0 = 2 := rfl
  have hy3 : y0 3 0 0 = nI 0 := rfl
  have hy4 : y0 4 0 0 = nI 0 := rfl
  have hn : 125 ≤ 125 := Nat.le_refl _
  refine lv_aload_n hx hb dL_law_870 rfl (lv_at hl 1 rfl) ?_
  refine lv_aload_n hx hb dL_law_871 rfl (lv_at hl 0 rfl) ?_
  refine lv_iload hx hb dL_law_872 (lv_at hl 5 rfl) ?_
  refine lv_iconst (v := 1) hx hb dL_law_874 (by decide) ?_
  refine lv_iadd hx hb dL_law_875 ?_
  refine va_sld hx hb hX hbl hbA hS (i := 0 + 1) (by unfold vp_in; decide) dL_law_876 ?_
  refine lv_aload_n hx hb dL_law_877 rfl (lv_at hl 0 rfl) ?_
  refine lv_iload hx hb dL_law_878 (lv_at hl 5 rfl) ?_
  refine lv_iconst (v := 2) hx hb dL_law_880 (by decide) ?_
  refine lv_iadd hx hb dL_law_881 ?_
  refine va_sld hx hb hX hbl hbA hS (i := 0 + 2) (by unfold vp_in; decide) dL_law_882 ?_
  refine lv_aload_n hx hb dL_law_883 rfl (lv_at hl 3 rfl) ?_
  refine wx_calli (vx_runSW (As := [.ref (L 0), .int (xs (0 + 1 : Int32).toNatClampNeg), .int (xs (0 + 2 : Int32).toNatClampNeg), .ref (L 123)]) (rest := []) ⟨hx, hb, hml, hown, hts⟩ (kl_takeBack l hst g s.heap.size 125 L (by omega) x0 (mw g L y0 0 ro) hx0 hx1 hx2 hx3 f (mw_ge (by decide) |>.trans ho) (xs (0 + 1 : Int32).toNatClampNeg) (xs (0 + 2 : Int32).toNatClampNeg)) (vx_cwSW 4 hts gL_law_L_takeBack rfl rfl rfl (by decide +kernel) ⟨Nat.le_of_ble_eq_true rfl, Nat.le_of_ble_eq_true rfl⟩) (PW.preS3 (Nat.le_refl _) hJ hK hE hP hS) rfl rfl hl.1 rfl (lv_room (Nat.le_of_ble_eq_true rfl)) dL_law_884 ⟨Nat.le_of_ble_eq_true rfl, Nat.le_of_ble_eq_true rfl⟩) hS (fun r884 u884 H locs h884 hP hS => ?_)
  obtain ⟨v884, t884⟩ := u884
  dsimp only at h884 hP
  obtain ⟨rfl, rfl⟩ := h884
  have hP : va_P g.1 vwCl (wl 125 L (mw g L y0 0 (cw g L v884 ro))) H := by rw [← cw_mw]; exact hP
  refine lv_istore (lv' := [(6, .int 1), (0, .ref b), (1, .ref (L 0)), (2, .ref (L 106)), (3, .ref (L 123)), (4, .ref (L 124)), (5, .int 0)]) hx hb dL_law_887 hl (by decide) rfl (fun ls hl => ?_)
  refine lv_aload_n hx hb dL_law_889 rfl (lv_at hl 3 rfl) ?_
  refine lv_aload_n hx hb dL_law_890 rfl (lv_at hl 1 rfl) ?_
  refine lv_iload hx hb dL_law_891 (lv_at hl 6 rfl) ?_
  refine lv_iconst (v := 1) hx hb dL_law_893 (by decide) ?_
  refine lv_iadd hx hb dL_law_894 ?_
  refine va_sld hx hb hX hbl hbA hS (i := 0 + 1) (by unfold vp_in; decide) dL_law_895 ?_
  refine lv_aload_n hx hb dL_law_896 rfl (lv_at hl 1 rfl) ?_
  refine lv_iload hx hb dL_law_897 (lv_at hl 6 rfl) ?_
  refine lv_iconst (v := 2) hx hb dL_law_899 (by decide) ?_
  refine lv_iadd hx hb dL_law_900 ?_
  refine va_sld hx hb hX hbl hbA hS (i := 0 + 2) (by unfold vp_in; decide) dL_law_901 ?_
  refine wx_calli (va_runV (As := [.int (xs (0 + 1 : Int32).toNatClampNeg), .int (xs (0 + 2 : Int32).toNatClampNeg)]) (rest := []) ⟨hx, hb, hml, hown, hts⟩ (km_takeBack l hst g s.heap.size 125 L (by omega) y0 0 (cw g L v884 ro) hy1 hy2 hy3 hy4 (xs (0 + 1 : Int32).toNatClampNeg) (xs (0 + 2 : Int32).toNatClampNeg)) (cwV 2 hts gL_law_X4_takeBack rfl rfl rfl (by decide +kernel) ⟨Nat.le_of_ble_eq_true rfl, Nat.le_of_ble_eq_true rfl⟩) (PW.preV3 (Nat.le_refl _) hJ hK hE hP hS (ci := 6) rfl (by omega) mw_o) rfl rfl hl.1 rfl (lv_room (Nat.le_of_ble_eq_true rfl)) dL_law_902 ⟨Nat.le_of_ble_eq_true rfl, Nat.le_of_ble_eq_true rfl⟩) hS (fun r902 u902 H locs h902 hP hS => ?_)
  have ht9 : u902 0 0 0 = 1 := h902
  refine lv_istore (lv' := [(7, .int r902), (6, .int 1), (0, .ref b), (1, .ref (L 0)), (2, .ref (L 106)), (3, .ref (L 123)), (4, .ref (L 124)), (5, .int 0)]) hx hb dL_law_905 hl (by decide) rfl (fun ls hl => ?_)
  refine lv_aload_n hx hb dL_law_907 rfl (lv_at hl 4 rfl) ?_
  refine wx_calli (va_runV (As := []) (rest := []) ⟨hx, hb, hml, hown, hts⟩ (km_thrown l hst g s.heap.size 125 L (by omega) u902 0 (cw g L v884 ro)) (cwV 0 hts gL_law_X4_thrown rfl rfl rfl (by decide +kernel) ⟨Nat.le_of_ble_eq_true rfl, Nat.le_of_ble_eq_true rfl⟩) (PW.preV3 (Nat.le_refl _) hJ hK hE hP hS (ci := 6) rfl (by omega) mw_o) rfl rfl hl.1 rfl (lv_room (Nat.le_of_ble_eq_true rfl)) dL_law_908 ⟨Nat.le_of_ble_eq_true rfl, Nat.le_of_ble_eq_true rfl⟩) hS (fun r908 u908 H locs h908 hP hS => ?_)
  obtain ⟨rfl, e9⟩ := h908
  have e9 := e9.symm
  subst e9
  refine lv_iload hx hb dL_law_911 (lv_at hl 1 rfl) ?_
  refine lv_icmp_eq (tgt := 918) hx hb dL_law_913 (by decide) (fun c913 => ?_) (fun c913 => absurd (ht9) c913)
  refine lv_iload hx hb dL_law_918 (lv_at hl 1 rfl) ?_
  refine lv_if_ne (tgt := 935) hx hb dL_law_920 (by decide) (fun c920 => ?_) (fun c920 => absurd c920 (by decide))
  refine lv_goto (tgt := 2028) hx hb dL_law_935 (by decide) ?_
  exact law_end C0 (Nat.le_of_ble_eq_true rfl) (Nat.le_of_ble_eq_true rfl) hS (lv_sub hl [7, 2] rfl)

set_option maxHeartbeats 8000000 in
set_option maxRecDepth 100000 in
theorem law_c11 {p : Program} {e : Env} {s : State} {m : MethodId} {below : List Frame} {meth : Method} {c : Code} (l : Launch) (hst : l.stackTraces = false) {b : Nat} {xs : Nat → Int32} (C0 : lw_At p s m meth c b 5 xs) (g : gE) (L : Nat → Nat) (ro : Nat → va_E) (f : Nat → Int64) (ho : ro 123 = .inl (g.2 4, 1, .inr (.inl f))) (hJ : wj 125 L (fun q : Nat => s.heap.size ≤ q)) (hK : va_K g.1 vwCl (tysC g) s) (hE : EE SS (fun q : Nat => s.heap.size ≤ q) s) {H : Heap} {locs : List Loc} (hP : va_P g.1 vwCl (wl 125 L (cw g L x0 (mw g L y0 0 ro))) H) (hS : va_S (fun q : Nat => s.heap.size ≤ q) s.heap H locs) {ls : Array Slot} (hl : lv_has ls 9 [(0, .ref b), (1, .ref (L 0)), (2, .ref (L 106)), (3, .ref (L 123)), (4, .ref (L 124)), (5, .int 0)]) : W p l e room_1 s m #[Value.ref b] below meth c H locs 200 100000 (lw_Z below #[Value.ref b] s) (F0 m 938 ls []) := by
  obtain ⟨hx, hb, hr, hml, hown, hts0, hX, hbl, hlocks, hgv⟩ := id C0
  have hown : s.vm.findClass RL = some m.cls := hown
  have hts : ∀ w ∈ wsL_law, w.before #[Value.ref b] s = true := fun w h => hts0 w (wsL_law_in w h)
  have hbA : ¬ (fun q : Nat => s.heap.size ≤ q) b := Nat.not_le.mpr hbl
  have hx0 : x0 0 0 0 = nI 0 := rfl
  have hx1 : x0 1 0 0 = nI 0 := rfl
  have hx2 : x0 2 0 0 = 2 := rfl
  have hx3 : x0 3 0 0 = nI 0 := rfl
  have hy1 : y0 1 0 0 = nI 0 := rfl
  have hy2 : y0 2 0 0 = 2 := rfl
  have hy3 : y0 3 0 0 = nI 0 := rfl
  have hy4 : y0 4 0 0 = nI 0 := rfl
  have hn : 125 ≤ 125 := Nat.le_refl _
  refine lv_aload_n hx hb dL_law_938 rfl (lv_at hl 1 rfl) ?_
  refine lv_aload_n hx hb dL_law_939 rfl (lv_at hl 0 rfl) ?_
  refine lv_iload hx hb dL_law_940 (lv_at hl 5 rfl) ?_
  refine lv_iconst (v := 1) hx hb dL_law_942 (by decide) ?_
  refine lv_iadd hx hb dL_law_943 ?_
  refine va_sld hx hb hX hbl hbA hS (i := 0 + 1) (by unfold vp_in; decide) dL_law_944 ?_
  refine lv_aload_n hx hb dL_law_945 rfl (lv_at hl 0 rfl) ?_
  refine lv_iload hx hb dL_law_946 (lv_at hl 5 rfl) ?_
  refine lv_iconst (v := 2) hx hb dL_law_948 (by decide) ?_
  refine lv_iadd hx hb dL_law_949 ?_
  refine va_sld hx hb hX hbl hbA hS (i := 0 + 2) (by unfold vp_in; decide) dL_law_950 ?_
  refine lv_aload_n hx hb dL_law_951 rfl (lv_at hl 3 rfl) ?_
  refine wx_calli (vx_runSW (As := [.ref (L 0), .int (xs (0 + 1 : Int32).toNatClampNeg), .int (xs (0 + 2 : Int32).toNatClampNeg), .ref (L 123)]) (rest := []) ⟨hx, hb, hml, hown, hts⟩ (kl_mend l hst g s.heap.size 125 L (by omega) x0 (mw g L y0 0 ro) hx0 hx1 hx2 hx3 f (mw_ge (by decide) |>.trans ho) (xs (0 + 1 : Int32).toNatClampNeg) (xs (0 + 2 : Int32).toNatClampNeg)) (vx_cwSW 4 hts gL_law_L_mend rfl rfl rfl (by decide +kernel) ⟨Nat.le_of_ble_eq_true rfl, Nat.le_of_ble_eq_true rfl⟩) (PW.preS3 (Nat.le_refl _) hJ hK hE hP hS) rfl rfl hl.1 rfl (lv_room (Nat.le_of_ble_eq_true rfl)) dL_law_952 ⟨Nat.le_of_ble_eq_true rfl, Nat.le_of_ble_eq_true rfl⟩) hS (fun r952 u952 H locs h952 hP hS => ?_)
  obtain ⟨v952, t952⟩ := u952
  dsimp only at h952 hP
  obtain ⟨rfl, rfl⟩ := h952
  have hP : va_P g.1 vwCl (wl 125 L (mw g L y0 0 (cw g L v952 ro))) H := by rw [← cw_mw]; exact hP
  refine lv_istore (lv' := [(6, .int 1), (0, .ref b), (1, .ref (L 0)), (2, .ref (L 106)), (3, .ref (L 123)), (4, .ref (L 124)), (5, .int 0)]) hx hb dL_law_955 hl (by decide) rfl (fun ls hl => ?_)
  refine lv_aload_n hx hb dL_law_957 rfl (lv_at hl 3 rfl) ?_
  refine lv_aload_n hx hb dL_law_958 rfl (lv_at hl 1 rfl) ?_
  refine lv_iload hx hb dL_law_959 (lv_at hl 6 rfl) ?_
  refine lv_iconst (v := 1) hx hb dL_law_961 (by decide) ?_
  refine lv_iadd hx hb dL_law_962 ?_
  refine va_sld hx hb hX hbl hbA hS (i := 0 + 1) (by unfold vp_in; decide) dL_law_963 ?_
  refine lv_aload_n hx hb dL_law_964 rfl (lv_at hl 1 rfl) ?_
  refine lv_iload hx hb dL_law_965 (lv_at hl 6 rfl) ?_
  refine lv_iconst (v := 2) hx hb dL_law_967 (by decide) ?_
  refine lv_iadd hx hb dL_law_968 ?_
  refine va_sld hx hb hX hbl hbA hS (i := 0 + 2) (by unfold vp_in; decide) dL_law_969 ?_
  refine wx_calli (va_runV (As := [.int (xs (0 + 1 : Int32).toNatClampNeg), .int (xs (0 + 2 : Int32).toNatClampNeg)]) (rest := []) ⟨hx, hb, hml, hown, hts⟩ (km_mend l hst g s.heap.size 125 L (by omega) y0 0 (cw g L v952 ro) hy1 hy2 hy3 hy4 (xs (0 + 1 : Int32).toNatClampNeg) (xs (0 + 2 : Int32).toNatClampNeg)) (cwV 2 hts gL_law_X4_mend rfl rfl rfl (by decide +kernel) ⟨Nat.le_of_ble_eq_true rfl, Nat.le_of_ble_eq_true rfl⟩) (PW.preV3 (Nat.le_refl _) hJ hK hE hP hS (ci := 6) rfl (by omega) mw_o) rfl rfl hl.1 rfl (lv_room (Nat.le_of_ble_eq_true rfl)) dL_law_970 ⟨Nat.le_of_ble_eq_true rfl, Nat.le_of_ble_eq_true rfl⟩) hS (fun r970 u970 H locs h970 hP hS => ?_)
  have ht9 : u970 0 0 0 = 1 := h970
  refine lv_istore (lv' := [(7, .int r970), (6, .int 1), (0, .ref b), (1, .ref (L 0)), (2, .ref (L 106)), (3, .ref (L 123)), (4, .ref (L 124)), (5, .int 0)]) hx hb dL_law_973 hl (by decide) rfl (fun ls hl => ?_)
  refine lv_aload_n hx hb dL_law_975 rfl (lv_at hl 4 rfl) ?_
  refine wx_calli (va_runV (As := []) (rest := []) ⟨hx, hb, hml, hown, hts⟩ (km_thrown l hst g s.heap.size 125 L (by omega) u970 0 (cw g L v952 ro)) (cwV 0 hts gL_law_X4_thrown rfl rfl rfl (by decide +kernel) ⟨Nat.le_of_ble_eq_true rfl, Nat.le_of_ble_eq_true rfl⟩) (PW.preV3 (Nat.le_refl _) hJ hK hE hP hS (ci := 6) rfl (by omega) mw_o) rfl rfl hl.1 rfl (lv_room (Nat.le_of_ble_eq_true rfl)) dL_law_976 ⟨Nat.le_of_ble_eq_true rfl, Nat.le_of_ble_eq_true rfl⟩) hS (fun r976 u976 H locs h976 hP hS => ?_)
  obtain ⟨rfl, e9⟩ := h976
  have e9 := e9.symm
  subst e9
  refine lv_iload hx hb dL_law_979 (lv_at hl 1 rfl) ?_
  refine lv_icmp_eq (tgt := 986) hx hb dL_law_981 (by decide) (fun c981 => ?_) (fun c981 => absurd (ht9) c981)
  refine lv_iload hx hb dL_law_986 (lv_at hl 1 rfl) ?_
  refine lv_if_ne (tgt := 1003) hx hb dL_law_988 (by decide) (fun c988 => ?_) (fun c988 => absurd c988 (by decide))
  refine lv_goto (tgt := 2028) hx hb dL_law_1003 (by decide) ?_
  exact law_end C0 (Nat.le_of_ble_eq_true rfl) (Nat.le_of_ble_eq_true rfl) hS (lv_sub hl [7, 2] rfl)

set_option maxHeartbeats 8000000 in
set_option maxRecDepth 100000 in
theorem law_c12 {p : Program} {e : Env} {s : State} {m : MethodId} {below : List Frame} {meth : Method} {c : Code} (l : Launch) (hst : l.stackTraces = false) {b : Nat} {xs : Nat → Int32} (C0 : lw_At p s m meth c b 5 xs) (g : gE) (L : Nat → Nat) (ro : Nat → va_E) (f : Nat → Int64) (ho : ro 123 = .inl (g.2 4, 1, .inr (.inl f))) (hJ : wj 125 L (fun q : Nat => s.heap.size ≤ q)) (hK : va_K g.1 vwCl (tysC g) s) (hE : EE SS (fun q : Nat => s.heap.size ≤ q) s) {H : Heap} {locs : List Loc} (hP : va_P g.1 vwCl (wl 125 L (cw g L x0 (mw g L y0 0 ro))) H) (hS : va_S (fun q : Nat => s.heap.size ≤ q) s.heap H locs) {ls : Array Slot} (hl : lv_has ls 9 [(0, .ref b), (1, .ref (L 0)), (2, .ref (L 106)), (3, .ref (L 123)), (4, .ref (L 124)), (5, .int 0)]) : W p l e room_1 s m #[Value.ref b] below meth c H locs 200 100000 (lw_Z below #[Value.ref b] s) (F0 m 1006 ls []) := by
  obtain ⟨hx, hb, hr, hml, hown, hts0, hX, hbl, hlocks, hgv⟩ := id C0
  have hown : s.vm.findClass RL = some m.cls := hown
  have hts : ∀ w ∈ wsL_law, w.before #[Value.ref b] s = true := fun w h => hts0 w (wsL_law_in w h)
  have hbA : ¬ (fun q : Nat => s.heap.size ≤ q) b := Nat.not_le.mpr hbl
  have hx0 : x0 0 0 0 = nI 0 := rfl
  have hx1 : x0 1 0 0 = nI 0 := rfl
  have hx2 : x0 2 0 0 = 2 := rfl
  have hx3 : x0 3 0 0 = nI 0 := rfl
  have hy1 : y0 1 0 0 = nI 0 := rfl
  have hy2 : y0 2 0 0 = 2 := rfl
  have hy3 : y0 3 0 0 = nI 0 := rfl
  have hy4 : y0 4 0 0 = nI 0 := rfl
  have hn : 125 ≤ 125 := Nat.le_refl _
  refine lv_aload_n hx hb dL_law_1006 rfl (lv_at hl 1 rfl) ?_
  refine lv_aload_n hx hb dL_law_1007 rfl (lv_at hl 0 rfl) ?_
  refine lv_iload hx hb dL_law_1008 (lv_at hl 5 rfl) ?_
  refine lv_iconst (v := 1) hx hb dL_law_1010 (by decide) ?_
  refine lv_iadd hx hb dL_law_1011 ?_
  refine va_sld hx hb hX hbl hbA hS (i := 0 + 1) (by unfold vp_in; decide) dL_law_1012 ?_
  refine lv_aload_n hx hb dL_law_1013 rfl (lv_at hl 0 rfl) ?_
  refine lv_iload hx hb dL_law_1014 (lv_at hl 5 rfl) ?_
  refine lv_iconst (v := 2) hx hb dL_law_1016 (by decide) ?_
  refine lv_iadd hx hb dL_law_1017 ?_
  refine va_sld hx hb hX hbl hbA hS (i := 0 + 2) (by unfold vp_in; decide) dL_law_1018 ?_
  refine lv_aload_n hx hb dL_law_1019 rfl (lv_at hl 0 rfl) ?_
  refine lv_iload hx hb dL_law_1020 (lv_at hl 5 rfl) ?_
  refine lv_iconst (v := 3) hx hb dL_law_1022 (by decide) ?_
  refine lv_iadd hx hb dL_law_1023 ?_
  refine va_sld hx hb hX hbl hbA hS (i := 0 + 3) (by unfold vp_in; decide) dL_law_1024 ?_
  refine lv_aload_n hx hb dL_law_1025 rfl (lv_at hl 3 rfl) ?_
  refine wx_calli (vx_runSW (As := [.ref (L 0), .int (xs (0 + 1 : Int32).toNatClampNeg), .int (xs (0 + 2 : Int32).toNatClampNeg), .int (xs (0 + 3 : Int32).toNatClampNeg), .ref (L 123)]) (rest := []) ⟨hx, hb, hml, hown, hts⟩ (kl_deny l hst g s.heap.size 125 L (by omega) x0 (mw g L y0 0 ro) hx0 hx1 hx2 hx3 f (mw_ge (by decide) |>.trans ho) (xs (0 + 1 : Int32).toNatClampNeg) (xs (0 + 2 : Int32).toNatClampNeg) (xs (0 + 3 : Int32).toNatClampNeg)) (vx_cwSW 5 hts gL_law_L_deny rfl rfl rfl (by decide +kernel) ⟨Nat.le_of_ble_eq_true rfl, Nat.le_of_ble_eq_true rfl⟩) (PW.preS3 (Nat.le_refl _) hJ hK hE hP hS) rfl rfl hl.1 rfl (lv_room (Nat.le_of_ble_eq_true rfl)) dL_law_1026 ⟨Nat.le_of_ble_eq_true rfl, Nat.le_of_ble_eq_true rfl⟩) hS (fun r1026 u1026 H locs h1026 hP hS => ?_)
  obtain ⟨v1026, t1026⟩ := u1026
  dsimp only at h1026 hP
  rcases h1026 with ⟨hb9, rfl, rfl⟩ | ⟨hb9, rfl, rfl⟩
  · have hP : va_P g.1 vwCl (wl 125 L (mw g L y0 0 (cw g L v1026 ro))) H := by rw [← cw_mw]; exact hP
    refine lv_istore (lv' := [(6, .int 1), (0, .ref b), (1, .ref (L 0)), (2, .ref (L 106)), (3, .ref (L 123)), (4, .ref (L 124)), (5, .int 0)]) hx hb dL_law_1029 hl (by decide) rfl (fun ls hl => ?_)
    refine lv_aload_n hx hb dL_law_1031 rfl (lv_at hl 3 rfl) ?_
    refine lv_aload_n hx hb dL_law_1032 rfl (lv_at hl 1 rfl) ?_
    refine lv_iload hx hb dL_law_1033 (lv_at hl 6 rfl) ?_
    refine lv_iconst (v := 1) hx hb dL_law_1035 (by decide) ?_
    refine lv_iadd hx hb dL_law_1036 ?_
    refine va_sld hx hb hX hbl hbA hS (i := 0 + 1) (by unfold vp_in; decide) dL_law_1037 ?_
    refine lv_aload_n hx hb dL_law_1038 rfl (lv_at hl 1 rfl) ?_
    refine lv_iload hx hb dL_law_1039 (lv_at hl 6 rfl) ?_
    refine lv_iconst (v := 2) hx hb dL_law_1041 (by decide) ?_
    refine lv_iadd hx hb dL_law_1042 ?_
    refine va_sld hx hb hX hbl hbA hS (i := 0 + 2) (by unfold vp_in; decide) dL_law_1043 ?_
    refine lv_aload_n hx hb dL_law_1044 rfl (lv_at hl 1 rfl) ?_
    refine lv_iload hx hb dL_law_1045 (lv_at hl 6 rfl) ?_
    refine lv_iconst (v := 3) hx hb dL_law_1047 (by decide) ?_
    refine lv_iadd hx hb dL_law_1048 ?_
    refine va_sld hx hb hX hbl hbA hS (i := 0 + 3) (by unfold vp_in; decide) dL_law_1049 ?_
    refine wx_calli (va_runV (As := [.int (xs (0 + 1 : Int32).toNatClampNeg), .int (xs (0 + 2 : Int32).toNatClampNeg), .int (xs (0 + 3 : Int32).toNatClampNeg)]) (rest := []) ⟨hx, hb, hml, hown, hts⟩ (km_deny l hst g s.heap.size 125 L (by omega) y0 0 (cw g L v1026 ro) hy1 hy2 hy3 hy4 (xs (0 + 1 : Int32).toNatClampNeg) (xs (0 + 2 : Int32).toNatClampNeg) (xs (0 + 3 : Int32).toNatClampNeg)) (cwV 3 hts gL_law_X4_deny rfl rfl rfl (by decide +kernel) ⟨Nat.le_of_ble_eq_true rfl, Nat.le_of_ble_eq_true rfl⟩) (PW.preV3 (Nat.le_refl _) hJ hK hE hP hS (ci := 6) rfl (by omega) mw_o) rfl rfl hl.1 rfl (lv_room (Nat.le_of_ble_eq_true rfl)) dL_law_1050 ⟨Nat.le_of_ble_eq_true rfl, Nat.le_of_ble_eq_true rfl⟩) hS (fun r1050 u1050 H locs h1050 hP hS => ?_)
    have ht9 : u1050 0 0 0 = 1 := h1050.elim (fun z => z.2) (fun z => absurd hb9 z.1)
    refine lv_istore (lv' := [(7, .int r1050), (6, .int 1), (0, .ref b), (1, .ref (L 0)), (2, .ref (L 106)), (3, .ref (L 123)), (4, .ref (L 124)), (5, .int 0)]) hx hb dL_law_1053 hl (by decide) rfl (fun ls hl => ?_)
    refine lv_aload_n hx hb dL_law_1055 rfl (lv_at hl 4 rfl) ?_
    refine wx_calli (va_runV (As := []) (rest := []) ⟨hx, hb, hml, hown, hts⟩ (km_thrown l hst g s.heap.size 125 L (by omega) u1050 0 (cw g L v1026 ro)) (cwV 0 hts gL_law_X4_thrown rfl rfl rfl (by decide +kernel) ⟨Nat.le_of_ble_eq_true rfl, Nat.le_of_ble_eq_true rfl⟩) (PW.preV3 (Nat.le_refl _) hJ hK hE hP hS (ci := 6) rfl (by omega) mw_o) rfl rfl hl.1 rfl (lv_room (Nat.le_of_ble_eq_true rfl)) dL_law_1056 ⟨Nat.le_of_ble_eq_true rfl, Nat.le_of_ble_eq_true rfl⟩) hS (fun r1056 u1056 H locs h1056 hP hS => ?_)
    obtain ⟨rfl, e9⟩ := h1056
    have e9 := e9.symm
    subst e9
    refine lv_iload hx hb dL_law_1059 (lv_at hl 1 rfl) ?_
    refine lv_icmp_eq (tgt := 1066) hx hb dL_law_1061 (by decide) (fun c1061 => ?_) (fun c1061 => absurd (ht9) c1061)
    refine lv_iload hx hb dL_law_1066 (lv_at hl 1 rfl) ?_
    refine lv_if_ne (tgt := 1083) hx hb dL_law_1068 (by decide) (fun c1068 => ?_) (fun c1068 => absurd c1068 (by decide))
    refine lv_goto (tgt := 2028) hx hb dL_law_1083 (by decide) ?_
    exact law_end C0 (Nat.le_of_ble_eq_true rfl) (Nat.le_of_ble_eq_true rfl) hS (lv_sub hl [7, 2] rfl)
  · have hP : va_P g.1 vwCl (wl 125 L (mw g L y0 0 (cw g L v1026 (va_up ro 123 (oL g f ((0 : Int32).toInt64)))))) H := by rw [← cw_mw, ← mw_rest (by decide)]; exact hP
    refine lv_istore (lv' := [(6, .int 0), (0, .ref b), (1, .ref (L 0)), (2, .ref (L 106)), (3, .ref (L 123)), (4, .ref (L 124)), (5, .int 0)]) hx hb dL_law_1029 hl (by decide) rfl (fun ls hl => ?_)
    refine lv_aload_n hx hb dL_law_1031 rfl (lv_at hl 3 rfl) ?_
    refine lv_aload_n hx hb dL_law_1032 rfl (lv_at hl 1 rfl) ?_
    refine lv_iload hx hb dL_law_1033 (lv_at hl 6 rfl) ?_
    refine lv_iconst (v := 1) hx hb dL_law_1035 (by decide) ?_
    refine lv_iadd hx hb dL_law_1036 ?_
    refine va_sld hx hb hX hbl hbA hS (i := 0 + 1) (by unfold vp_in; decide) dL_law_1037 ?_
    refine lv_aload_n hx hb dL_law_1038 rfl (lv_at hl 1 rfl) ?_
    refine lv_iload hx hb dL_law_1039 (lv_at hl 6 rfl) ?_
    refine lv_iconst (v := 2) hx hb dL_law_1041 (by decide) ?_
    refine lv_iadd hx hb dL_law_1042 ?_
    refine va_sld hx hb hX hbl hbA hS (i := 0 + 2) (by unfold vp_in; decide) dL_law_1043 ?_
    refine lv_aload_n hx hb dL_law_1044 rfl (lv_at hl 1 rfl) ?_
    refine lv_iload hx hb dL_law_1045 (lv_at hl 6 rfl) ?_
    refine lv_iconst (v := 3) hx hb dL_law_1047 (by decide) ?_
    refine lv_iadd hx hb dL_law_1048 ?_
    refine va_sld hx hb hX hbl hbA hS (i := 0 + 3) (by unfold vp_in; decide) dL_law_1049 ?_
    refine wx_calli (va_runV (As := [.int (xs (0 + 1 : Int32).toNatClampNeg), .int (xs (0 + 2 : Int32).toNatClampNeg), .int (xs (0 + 3 : Int32).toNatClampNeg)]) (rest := []) ⟨hx, hb, hml, hown, hts⟩ (km_deny l hst g s.heap.size 125 L (by omega) y0 0 (cw g L v1026 (va_up ro 123 (oL g f ((0 : Int32).toInt64)))) hy1 hy2 hy3 hy4 (xs (0 + 1 : Int32).toNatClampNeg) (xs (0 + 2 : Int32).toNatClampNeg) (xs (0 + 3 : Int32).toNatClampNeg)) (cwV 3 hts gL_law_X4_deny rfl rfl rfl (by decide +kernel) ⟨Nat.le_of_ble_eq_true rfl, Nat.le_of_ble_eq_true rfl⟩) (PW.preV3 (Nat.le_refl _) hJ hK hE hP hS (ci := 6) rfl (by omega) mw_o) rfl rfl hl.1 rfl (lv_room (Nat.le_of_ble_eq_true rfl)) dL_law_1050 ⟨Nat.le_of_ble_eq_true rfl, Nat.le_of_ble_eq_true rfl⟩) hS (fun r1050 u1050 H locs h1050 hP hS => ?_)
    obtain ⟨ht9, er9⟩ : u1050 0 0 0 = 0 ∧ r1050 = 0 := h1050.elim (fun z => absurd z.1 hb9) (fun z => z.2)
    refine lv_istore (lv' := [(7, .int r1050), (6, .int 0), (0, .ref b), (1, .ref (L 0)), (2, .ref (L 106)), (3, .ref (L 123)), (4, .ref (L 124)), (5, .int 0)]) hx hb dL_law_1053 hl (by decide) rfl (fun ls hl => ?_)
    refine lv_aload_n hx hb dL_law_1055 rfl (lv_at hl 4 rfl) ?_
    refine wx_calli (va_runV (As := []) (rest := []) ⟨hx, hb, hml, hown, hts⟩ (km_thrown l hst g s.heap.size 125 L (by omega) u1050 0 (cw g L v1026 (va_up ro 123 (oL g f ((0 : Int32).toInt64))))) (cwV 0 hts gL_law_X4_thrown rfl rfl rfl (by decide +kernel) ⟨Nat.le_of_ble_eq_true rfl, Nat.le_of_ble_eq_true rfl⟩) (PW.preV3 (Nat.le_refl _) hJ hK hE hP hS (ci := 6) rfl (by omega) mw_o) rfl rfl hl.1 rfl (lv_room (Nat.le_of_ble_eq_true rfl)) dL_law_1056 ⟨Nat.le_of_ble_eq_true rfl, Nat.le_of_ble_eq_true rfl⟩) hS (fun r1056 u1056 H locs h1056 hP hS => ?_)
    obtain ⟨rfl, e9⟩ := h1056
    have e9 := e9.symm
    subst e9
    refine lv_iload hx hb dL_law_1059 (lv_at hl 1 rfl) ?_
    refine lv_icmp_eq (tgt := 1066) hx hb dL_law_1061 (by decide) (fun c1061 => ?_) (fun c1061 => absurd (ht9) c1061)
    refine lv_iload hx hb dL_law_1066 (lv_at hl 1 rfl) ?_
    refine lv_if_ne (tgt := 1083) hx hb dL_law_1068 (by decide) (fun c1068 => absurd c1068 (by decide)) (fun c1068 => ?_)
    refine lv_aload_n hx hb dL_law_1071 rfl (lv_at hl 5 rfl) ?_
    refine lv_iconst (v := 0) hx hb dL_law_1072 (by decide) ?_
    refine wx_lald (D := g.1) (cl := vwCl) (f := vp_updL f (0 : Int32).toNatClampNeg ((0 : Int32).toInt64)) hx hb hK hP (123) 4 (by omega) ((mw_ge (by decide)).trans ((cw_ge (by decide)).trans (va_up_self _ _ _))) rfl (i := 0) (vp_in_nI (n := 0) (by decide) (by decide)) dL_law_1073 ?_
    refine lv_iload hx hb dL_law_1074 (lv_at hl 0 rfl) ?_
    refine lv_i2l hx hb dL_law_1076 rfl ?_
    refine W.lcmp hx hb dL_law_1077 ?_
    refine lv_if_eq (tgt := 1083) hx hb dL_law_1078 (by decide) (fun c1078 => ?_) (fun c1078 => absurd (by rw [er9, pk_uLs, lgc]) c1078)
    refine lv_goto (tgt := 2028) hx hb dL_law_1083 (by decide) ?_
    exact law_end C0 (Nat.le_of_ble_eq_true rfl) (Nat.le_of_ble_eq_true rfl) hS (lv_sub hl [7, 2] rfl)

set_option maxHeartbeats 8000000 in
set_option maxRecDepth 100000 in
theorem law_c13 {p : Program} {e : Env} {s : State} {m : MethodId} {below : List Frame} {meth : Method} {c : Code} (l : Launch) (hst : l.stackTraces = false) {b : Nat} {xs : Nat → Int32} (C0 : lw_At p s m meth c b 5 xs) (g : gE) (L : Nat → Nat) (ro : Nat → va_E) (f : Nat → Int64) (ho : ro 123 = .inl (g.2 4, 1, .inr (.inl f))) (hJ : wj 125 L (fun q : Nat => s.heap.size ≤ q)) (hK : va_K g.1 vwCl (tysC g) s) (hE : EE SS (fun q : Nat => s.heap.size ≤ q) s) {H : Heap} {locs : List Loc} (hP : va_P g.1 vwCl (wl 125 L (cw g L x0 (mw g L y0 0 ro))) H) (hS : va_S (fun q : Nat => s.heap.size ≤ q) s.heap H locs) {ls : Array Slot} (hl : lv_has ls 9 [(0, .ref b), (1, .ref (L 0)), (2, .ref (L 106)), (3, .ref (L 123)), (4, .ref (L 124)), (5, .int 0)]) : W p l e room_1 s m #[Value.ref b] below meth c H locs 200 100000 (lw_Z below #[Value.ref b] s) (F0 m 1086 ls []) := by
  obtain ⟨hx, hb, hr, hml, hown, hts0, hX, hbl, hlocks, hgv⟩ := id C0
  have hown : s.vm.findClass RL = some m.cls := hown
  have hts : ∀ w ∈ wsL_law, w.before #[Value.ref b] s = true := fun w h => hts0 w (wsL_law_in w h)
  have hbA : ¬ (fun q : Nat => s.heap.size ≤ q) b := Nat.not_le.mpr hbl
  have hx0 : x0 0 0 0 = nI 0 := rfl
  have hx1 : x0 1 0 0 = nI 0 := rfl
  have hx2 : x0 2 0 0 = 2 := rfl
  have hx3 : x0 3 0 0 = nI 0 := rfl
  have hy1 : y0 1 0 0 = nI 0 := rfl
  have hy2 : y0 2 0 0 = 2 := rfl
  have hy3 : y0 3 0 0 = nI 0 := rfl
  have hy4 : y0 4 0 0 = nI 0 := rfl
  have hn : 125 ≤ 125 := Nat.le_refl _
  refine lv_aload_n hx hb dL_law_1086 rfl (lv_at hl 1 rfl) ?_
  refine lv_aload_n hx hb dL_law_1087 rfl (lv_at hl 0 rfl) ?_
  refine lv_iload hx hb dL_law_1088 (lv_at hl 5 rfl) ?_
  refine lv_iconst (v := 1) hx hb dL_law_1090 (by decide) ?_
  refine lv_iadd hx hb dL_law_1091 ?_
  refine va_sld hx hb hX hbl hbA hS (i := 0 + 1) (by unfold vp_in; decide) dL_law_1092 ?_
  refine lv_aload_n hx hb dL_law_1093 rfl (lv_at hl 3 rfl) ?_
  refine wx_calli (vx_runSW (As := [.ref (L 0), .int (xs (0 + 1 : Int32).toNatClampNeg), .ref (L 123)]) (rest := []) ⟨hx, hb, hml, hown, hts⟩ (kl_queued l hst g s.heap.size 125 L (by omega) x0 (mw g L y0 0 ro) hx0 hx1 hx2 hx3 f (mw_ge (by decide) |>.trans ho) (xs (0 + 1 : Int32).toNatClampNeg)) (vx_cwSW 3 hts gL_law_L_queued rfl rfl rfl (by decide +kernel) ⟨Nat.le_of_ble_eq_true rfl, Nat.le_of_ble_eq_true rfl⟩) (PW.preS3 (Nat.le_refl _) hJ hK hE hP hS) rfl rfl hl.1 rfl (lv_room (Nat.le_of_ble_eq_true rfl)) dL_law_1094 ⟨Nat.le_of_ble_eq_true rfl, Nat.le_of_ble_eq_true rfl⟩) hS (fun r1094 u1094 H locs h1094 hP hS => ?_)
  obtain ⟨v1094, t1094⟩ := u1094
  dsimp only at h1094 hP
  rcases h1094 with ⟨hb9, rfl, rfl⟩ | ⟨hb9, rfl, rfl⟩
  · have hP : va_P g.1 vwCl (wl 125 L (mw g L y0 0 (cw g L v1094 ro))) H := by rw [← cw_mw]; exact hP
    refine lv_istore (lv' := [(6, .int 1), (0, .ref b), (1, .ref (L 0)), (2, .ref (L 106)), (3, .ref (L 123)), (4, .ref (L 124)), (5, .int 0)]) hx hb dL_law_1097 hl (by decide) rfl (fun ls hl => ?_)
    refine lv_aload_n hx hb dL_law_1099 rfl (lv_at hl 3 rfl) ?_
    refine lv_aload_n hx hb dL_law_1100 rfl (lv_at hl 1 rfl) ?_
    refine lv_iload hx hb dL_law_1101 (lv_at hl 6 rfl) ?_
    refine lv_iconst (v := 1) hx hb dL_law_1103 (by decide) ?_
    refine lv_iadd hx hb dL_law_1104 ?_
    refine va_sld hx hb hX hbl hbA hS (i := 0 + 1) (by unfold vp_in; decide) dL_law_1105 ?_
    refine wx_calli (va_runV (As := [.int (xs (0 + 1 : Int32).toNatClampNeg)]) (rest := []) ⟨hx, hb, hml, hown, hts⟩ (km_queued l hst g s.heap.size 125 L (by omega) y0 0 (cw g L v1094 ro) hy1 hy2 hy3 hy4 (xs (0 + 1 : Int32).toNatClampNeg)) (cwV 1 hts gL_law_X4_queued rfl rfl rfl (by decide +kernel) ⟨Nat.le_of_ble_eq_true rfl, Nat.le_of_ble_eq_true rfl⟩) (PW.preV3 (Nat.le_refl _) hJ hK hE hP hS (ci := 6) rfl (by omega) mw_o) rfl rfl hl.1 rfl (lv_room (Nat.le_of_ble_eq_true rfl)) dL_law_1106 ⟨Nat.le_of_ble_eq_true rfl, Nat.le_of_ble_eq_true rfl⟩) hS (fun r1106 u1106 H locs h1106 hP hS => ?_)
    have ht9 : u1106 0 0 0 = 1 := h1106.elim (fun z => z.2) (fun z => absurd hb9 z.1)
    refine lv_istore (lv' := [(7, .int r1106), (6, .int 1), (0, .ref b), (1, .ref (L 0)), (2, .ref (L 106)), (3, .ref (L 123)), (4, .ref (L 124)), (5, .int 0)]) hx hb dL_law_1109 hl (by decide) rfl (fun ls hl => ?_)
    refine lv_aload_n hx hb dL_law_1111 rfl (lv_at hl 4 rfl) ?_
    refine wx_calli (va_runV (As := []) (rest := []) ⟨hx, hb, hml, hown, hts⟩ (km_thrown l hst g s.heap.size 125 L (by omega) u1106 0 (cw g L v1094 ro)) (cwV 0 hts gL_law_X4_thrown rfl rfl rfl (by decide +kernel) ⟨Nat.le_of_ble_eq_true rfl, Nat.le_of_ble_eq_true rfl⟩) (PW.preV3 (Nat.le_refl _) hJ hK hE hP hS (ci := 6) rfl (by omega) mw_o) rfl rfl hl.1 rfl (lv_room (Nat.le_of_ble_eq_true rfl)) dL_law_1112 ⟨Nat.le_of_ble_eq_true rfl, Nat.le_of_ble_eq_true rfl⟩) hS (fun r1112 u1112 H locs h1112 hP hS => ?_)
    obtain ⟨rfl, e9⟩ := h1112
    have e9 := e9.symm
    subst e9
    refine lv_iload hx hb dL_law_1115 (lv_at hl 1 rfl) ?_
    refine lv_icmp_eq (tgt := 1122) hx hb dL_law_1117 (by decide) (fun c1117 => ?_) (fun c1117 => absurd (ht9) c1117)
    refine lv_iload hx hb dL_law_1122 (lv_at hl 1 rfl) ?_
    refine lv_if_ne (tgt := 1139) hx hb dL_law_1124 (by decide) (fun c1124 => ?_) (fun c1124 => absurd c1124 (by decide))
    refine lv_goto (tgt := 2028) hx hb dL_law_1139 (by decide) ?_
    exact law_end C0 (Nat.le_of_ble_eq_true rfl) (Nat.le_of_ble_eq_true rfl) hS (lv_sub hl [7, 2] rfl)
  · have hP : va_P g.1 vwCl (wl 125 L (mw g L y0 0 (cw g L v1094 (va_up ro 123 (oL g f ((0 : Int32).toInt64)))))) H := by rw [← cw_mw, ← mw_rest (by decide)]; exact hP
    refine lv_istore (lv' := [(6, .int 0), (0, .ref b), (1, .ref (L 0)), (2, .ref (L 106)), (3, .ref (L 123)), (4, .ref (L 124)), (5, .int 0)]) hx hb dL_law_1097 hl (by decide) rfl (fun ls hl => ?_)
    refine lv_aload_n hx hb dL_law_1099 rfl (lv_at hl 3 rfl) ?_
    refine lv_aload_n hx hb dL_law_1100 rfl (lv_at hl 1 rfl) ?_
    refine lv_iload hx hb dL_law_1101 (lv_at hl 6 rfl) ?_
    refine lv_iconst (v := 1) hx hb dL_law_1103 (by decide) ?_
    refine lv_iadd hx hb dL_law_1104 ?_
    refine va_sld hx hb hX hbl hbA hS (i := 0 + 1) (by unfold vp_in; decide) dL_law_1105 ?_
    refine wx_calli (va_runV (As := [.int (xs (0 + 1 : Int32).toNatClampNeg)]) (rest := []) ⟨hx, hb, hml, hown, hts⟩ (km_queued l hst g s.heap.size 125 L (by omega) y0 0 (cw g L v1094 (va_up ro 123 (oL g f ((0 : Int32).toInt64)))) hy1 hy2 hy3 hy4 (xs (0 + 1 : Int32).toNatClampNeg)) (cwV 1 hts gL_law_X4_queued rfl rfl rfl (by decide +kernel) ⟨Nat.le_of_ble_eq_true rfl, Nat.le_of_ble_eq_true rfl⟩) (PW.preV3 (Nat.le_refl _) hJ hK hE hP hS (ci := 6) rfl (by omega) mw_o) rfl rfl hl.1 rfl (lv_room (Nat.le_of_ble_eq_true rfl)) dL_law_1106 ⟨Nat.le_of_ble_eq_true rfl, Nat.le_of_ble_eq_true rfl⟩) hS (fun r1106 u1106 H locs h1106 hP hS => ?_)
    obtain ⟨ht9, er9⟩ : u1106 0 0 0 = 0 ∧ r1106 = 0 := h1106.elim (fun z => absurd z.1 hb9) (fun z => z.2)
    refine lv_istore (lv' := [(7, .int r1106), (6, .int 0), (0, .ref b), (1, .ref (L 0)), (2, .ref (L 106)), (3, .ref (L 123)), (4, .ref (L 124)), (5, .int 0)]) hx hb dL_law_1109 hl (by decide) rfl (fun ls hl => ?_)
    refine lv_aload_n hx hb dL_law_1111 rfl (lv_at hl 4 rfl) ?_
    refine wx_calli (va_runV (As := []) (rest := []) ⟨hx, hb, hml, hown, hts⟩ (km_thrown l hst g s.heap.size 125 L (by omega) u1106 0 (cw g L v1094 (va_up ro 123 (oL g f ((0 : Int32).toInt64))))) (cwV 0 hts gL_law_X4_thrown rfl rfl rfl (by decide +kernel) ⟨Nat.le_of_ble_eq_true rfl, Nat.le_of_ble_eq_true rfl⟩) (PW.preV3 (Nat.le_refl _) hJ hK hE hP hS (ci := 6) rfl (by omega) mw_o) rfl rfl hl.1 rfl (lv_room (Nat.le_of_ble_eq_true rfl)) dL_law_1112 ⟨Nat.le_of_ble_eq_true rfl, Nat.le_of_ble_eq_true rfl⟩) hS (fun r1112 u1112 H locs h1112 hP hS => ?_)
    obtain ⟨rfl, e9⟩ := h1112
    have e9 := e9.symm
    subst e9
    refine lv_iload hx hb dL_law_1115 (lv_at hl 1 rfl) ?_
    refine lv_icmp_eq (tgt := 1122) hx hb dL_law_1117 (by decide) (fun c1117 => ?_) (fun c1117 => absurd (ht9) c1117)
    refine lv_iload hx hb dL_law_1122 (lv_at hl 1 rfl) ?_
    refine lv_if_ne (tgt := 1139) hx hb dL_law_1124 (by decide) (fun c1124 => absurd c1124 (by decide)) (fun c1124 => ?_)
    refine lv_aload_n hx hb dL_law_1127 rfl (lv_at hl 5 rfl) ?_
    refine lv_iconst (v := 0) hx hb dL_law_1128 (by decide) ?_
    refine wx_lald (D := g.1) (cl := vwCl) (f := vp_updL f (0 : Int32).toNatClampNeg ((0 : Int32).toInt64)) hx hb hK hP (123) 4 (by omega) ((mw_ge (by decide)).trans ((cw_ge (by decide)).trans (va_up_self _ _ _))) rfl (i := 0) (vp_in_nI (n := 0) (by decide) (by decide)) dL_law_1129 ?_
    refine lv_iload hx hb dL_law_1130 (lv_at hl 0 rfl) ?_
    refine lv_i2l hx hb dL_law_1132 rfl ?_
    refine W.lcmp hx hb dL_law_1133 ?_
    refine lv_if_eq (tgt := 1139) hx hb dL_law_1134 (by decide) (fun c1134 => ?_) (fun c1134 => absurd (by rw [er9, pk_uLs, lgc]) c1134)
    refine lv_goto (tgt := 2028) hx hb dL_law_1139 (by decide) ?_
    exact law_end C0 (Nat.le_of_ble_eq_true rfl) (Nat.le_of_ble_eq_true rfl) hS (lv_sub hl [7, 2] rfl)

set_option maxHeartbeats 8000000 in
set_option maxRecDepth 100000 in
theorem law_c14 {p : Program} {e : Env} {s : State} {m : MethodId} {below : List Frame} {meth : Method} {c : Code} (l : Launch) (hst : l.stackTraces = false) {b : Nat} {xs : Nat → Int32} (C0 : lw_At p s m meth c b 5 xs) (g : gE) (L : Nat → Nat) (ro : Nat → va_E) (f : Nat → Int64) (ho : ro 123 = .inl (g.2 4, 1, .inr (.inl f))) (hJ : wj 125 L (fun q : Nat => s.heap.size ≤ q)) (hK : va_K g.1 vwCl (tysC g) s) (hE : EE SS (fun q : Nat => s.heap.size ≤ q) s) {H : Heap} {locs : List Loc} (hP : va_P g.1 vwCl (wl 125 L (cw g L x0 (mw g L y0 0 ro))) H) (hS : va_S (fun q : Nat => s.heap.size ≤ q) s.heap H locs) {ls : Array Slot} (hl : lv_has ls 9 [(0, .ref b), (1, .ref (L 0)), (2, .ref (L 106)), (3, .ref (L 123)), (4, .ref (L 124)), (5, .int 0)]) : W p l e room_1 s m #[Value.ref b] below meth c H locs 200 100000 (lw_Z below #[Value.ref b] s) (F0 m 1142 ls []) := by
  obtain ⟨hx, hb, hr, hml, hown, hts0, hX, hbl, hlocks, hgv⟩ := id C0
  have hown : s.vm.findClass RL = some m.cls := hown
  have hts : ∀ w ∈ wsL_law, w.before #[Value.ref b] s = true := fun w h => hts0 w (wsL_law_in w h)
  have hbA : ¬ (fun q : Nat => s.heap.size ≤ q) b := Nat.not_le.mpr hbl
  have hx0 : x0 0 0 0 = nI 0 := rfl
  have hx1 : x0 1 0 0 = nI 0 := rfl
  have hx2 : x0 2 0 0 = 2 := rfl
  have hx3 : x0 3 0 0 = nI 0 := rfl
  have hy1 : y0 1 0 0 = nI 0 := rfl
  have hy2 : y0 2 0 0 = 2 := rfl
  have hy3 : y0 3 0 0 = nI 0 := rfl
  have hy4 : y0 4 0 0 = nI 0 := rfl
  have hn : 125 ≤ 125 := Nat.le_refl _
  refine lv_aload_n hx hb dL_law_1142 rfl (lv_at hl 1 rfl) ?_
  refine lv_aload_n hx hb dL_law_1143 rfl (lv_at hl 0 rfl) ?_
  refine lv_iload hx hb dL_law_1144 (lv_at hl 5 rfl) ?_
  refine lv_iconst (v := 1) hx hb dL_law_1146 (by decide) ?_
  refine lv_iadd hx hb dL_law_1147 ?_
  refine va_sld hx hb hX hbl hbA hS (i := 0 + 1) (by unfold vp_in; decide) dL_law_1148 ?_
  refine lv_aload_n hx hb dL_law_1149 rfl (lv_at hl 0 rfl) ?_
  refine lv_iload hx hb dL_law_1150 (lv_at hl 5 rfl) ?_
  refine lv_iconst (v := 2) hx hb dL_law_1152 (by decide) ?_
  refine lv_iadd hx hb dL_law_1153 ?_
  refine va_sld hx hb hX hbl hbA hS (i := 0 + 2) (by unfold vp_in; decide) dL_law_1154 ?_
  refine lv_aload_n hx hb dL_law_1155 rfl (lv_at hl 3 rfl) ?_
  refine wx_calli (vx_runSW (As := [.ref (L 0), .int (xs (0 + 1 : Int32).toNatClampNeg), .int (xs (0 + 2 : Int32).toNatClampNeg), .ref (L 123)]) (rest := []) ⟨hx, hb, hml, hown, hts⟩ (kl_queuedAt l hst g s.heap.size 125 L (by omega) x0 (mw g L y0 0 ro) hx0 hx1 hx2 hx3 f (mw_ge (by decide) |>.trans ho) (xs (0 + 1 : Int32).toNatClampNeg) (xs (0 + 2 : Int32).toNatClampNeg)) (vx_cwSW 4 hts gL_law_L_queuedAt rfl rfl rfl (by decide +kernel) ⟨Nat.le_of_ble_eq_true rfl, Nat.le_of_ble_eq_true rfl⟩) (PW.preS3 (Nat.le_refl _) hJ hK hE hP hS) rfl rfl hl.1 rfl (lv_room (Nat.le_of_ble_eq_true rfl)) dL_law_1156 ⟨Nat.le_of_ble_eq_true rfl, Nat.le_of_ble_eq_true rfl⟩) hS (fun r1156 u1156 H locs h1156 hP hS => ?_)
  obtain ⟨v1156, t1156⟩ := u1156
  dsimp only at h1156 hP
  rcases h1156 with ⟨hb9, rfl, rfl⟩ | ⟨hb9, rfl, rfl⟩
  · have hP : va_P g.1 vwCl (wl 125 L (mw g L y0 0 (cw g L v1156 ro))) H := by rw [← cw_mw]; exact hP
    refine lv_istore (lv' := [(6, .int 1), (0, .ref b), (1, .ref (L 0)), (2, .ref (L 106)), (3, .ref (L 123)), (4, .ref (L 124)), (5, .int 0)]) hx hb dL_law_1159 hl (by decide) rfl (fun ls hl => ?_)
    refine lv_aload_n hx hb dL_law_1161 rfl (lv_at hl 3 rfl) ?_
    refine lv_aload_n hx hb dL_law_1162 rfl (lv_at hl 1 rfl) ?_
    refine lv_iload hx hb dL_law_1163 (lv_at hl 6 rfl) ?_
    refine lv_iconst (v := 1) hx hb dL_law_1165 (by decide) ?_
    refine lv_iadd hx hb dL_law_1166 ?_
    refine va_sld hx hb hX hbl hbA hS (i := 0 + 1) (by unfold vp_in; decide) dL_law_1167 ?_
    refine lv_aload_n hx hb dL_law_1168 rfl (lv_at hl 1 rfl) ?_
    refine lv_iload hx hb dL_law_1169 (lv_at hl 6 rfl) ?_
    refine lv_iconst (v := 2) hx hb dL_law_1171 (by decide) ?_
    refine lv_iadd hx hb dL_law_1172 ?_
    refine va_sld hx hb hX hbl hbA hS (i := 0 + 2) (by unfold vp_in; decide) dL_law_1173 ?_
    refine wx_calli (va_runV (As := [.int (xs (0 + 1 : Int32).toNatClampNeg), .int (xs (0 + 2 : Int32).toNatClampNeg)]) (rest := []) ⟨hx, hb, hml, hown, hts⟩ (km_queuedAt l hst g s.heap.size 125 L (by omega) y0 0 (cw g L v1156 ro) hy1 hy2 hy3 hy4 (xs (0 + 1 : Int32).toNatClampNeg) (xs (0 + 2 : Int32).toNatClampNeg)) (cwV 2 hts gL_law_X4_queuedAt rfl rfl rfl (by decide +kernel) ⟨Nat.le_of_ble_eq_true rfl, Nat.le_of_ble_eq_true rfl⟩) (PW.preV3 (Nat.le_refl _) hJ hK hE hP hS (ci := 6) rfl (by omega) mw_o) rfl rfl hl.1 rfl (lv_room (Nat.le_of_ble_eq_true rfl)) dL_law_1174 ⟨Nat.le_of_ble_eq_true rfl, Nat.le_of_ble_eq_true rfl⟩) hS (fun r1174 u1174 H locs h1174 hP hS => ?_)
    have ht9 : u1174 0 0 0 = 1 := h1174.elim (fun z => z.2) (fun z => absurd hb9 z.1)
    refine lv_istore (lv' := [(7, .int r1174), (6, .int 1), (0, .ref b), (1, .ref (L 0)), (2, .ref (L 106)), (3, .ref (L 123)), (4, .ref (L 124)), (5, .int 0)]) hx hb dL_law_1177 hl (by decide) rfl (fun ls hl => ?_)
    refine lv_aload_n hx hb dL_law_1179 rfl (lv_at hl 4 rfl) ?_
    refine wx_calli (va_runV (As := []) (rest := []) ⟨hx, hb, hml, hown, hts⟩ (km_thrown l hst g s.heap.size 125 L (by omega) u1174 0 (cw g L v1156 ro)) (cwV 0 hts gL_law_X4_thrown rfl rfl rfl (by decide +kernel) ⟨Nat.le_of_ble_eq_true rfl, Nat.le_of_ble_eq_true rfl⟩) (PW.preV3 (Nat.le_refl _) hJ hK hE hP hS (ci := 6) rfl (by omega) mw_o) rfl rfl hl.1 rfl (lv_room (Nat.le_of_ble_eq_true rfl)) dL_law_1180 ⟨Nat.le_of_ble_eq_true rfl, Nat.le_of_ble_eq_true rfl⟩) hS (fun r1180 u1180 H locs h1180 hP hS => ?_)
    obtain ⟨rfl, e9⟩ := h1180
    have e9 := e9.symm
    subst e9
    refine lv_iload hx hb dL_law_1183 (lv_at hl 1 rfl) ?_
    refine lv_icmp_eq (tgt := 1190) hx hb dL_law_1185 (by decide) (fun c1185 => ?_) (fun c1185 => absurd (ht9) c1185)
    refine lv_iload hx hb dL_law_1190 (lv_at hl 1 rfl) ?_
    refine lv_if_ne (tgt := 1207) hx hb dL_law_1192 (by decide) (fun c1192 => ?_) (fun c1192 => absurd c1192 (by decide))
    refine lv_goto (tgt := 2028) hx hb dL_law_1207 (by decide) ?_
    exact law_end C0 (Nat.le_of_ble_eq_true rfl) (Nat.le_of_ble_eq_true rfl) hS (lv_sub hl [7, 2] rfl)
  · have hP : va_P g.1 vwCl (wl 125 L (mw g L y0 0 (cw g L v1156 ro))) H := by rw [← cw_mw]; exact hP
    refine lv_istore (lv' := [(6, .int 2), (0, .ref b), (1, .ref (L 0)), (2, .ref (L 106)), (3, .ref (L 123)), (4, .ref (L 124)), (5, .int 0)]) hx hb dL_law_1159 hl (by decide) rfl (fun ls hl => ?_)
    refine lv_aload_n hx hb dL_law_1161 rfl (lv_at hl 3 rfl) ?_
    refine lv_aload_n hx hb dL_law_1162 rfl (lv_at hl 1 rfl) ?_
    refine lv_iload hx hb dL_law_1163 (lv_at hl 6 rfl) ?_
    refine lv_iconst (v := 1) hx hb dL_law_1165 (by decide) ?_
    refine lv_iadd hx hb dL_law_1166 ?_
    refine va_sld hx hb hX hbl hbA hS (i := 0 + 1) (by unfold vp_in; decide) dL_law_1167 ?_
    refine lv_aload_n hx hb dL_law_1168 rfl (lv_at hl 1 rfl) ?_
    refine lv_iload hx hb dL_law_1169 (lv_at hl 6 rfl) ?_
    refine lv_iconst (v := 2) hx hb dL_law_1171 (by decide) ?_
    refine lv_iadd hx hb dL_law_1172 ?_
    refine va_sld hx hb hX hbl hbA hS (i := 0 + 2) (by unfold vp_in; decide) dL_law_1173 ?_
    refine wx_calli (va_runV (As := [.int (xs (0 + 1 : Int32).toNatClampNeg), .int (xs (0 + 2 : Int32).toNatClampNeg)]) (rest := []) ⟨hx, hb, hml, hown, hts⟩ (km_queuedAt l hst g s.heap.size 125 L (by omega) y0 0 (cw g L v1156 ro) hy1 hy2 hy3 hy4 (xs (0 + 1 : Int32).toNatClampNeg) (xs (0 + 2 : Int32).toNatClampNeg)) (cwV 2 hts gL_law_X4_queuedAt rfl rfl rfl (by decide +kernel) ⟨Nat.le_of_ble_eq_true rfl, Nat.le_of_ble_eq_true rfl⟩) (PW.preV3 (Nat.le_refl _) hJ hK hE hP hS (ci := 6) rfl (by omega) mw_o) rfl rfl hl.1 rfl (lv_room (Nat.le_of_ble_eq_true rfl)) dL_law_1174 ⟨Nat.le_of_ble_eq_true rfl, Nat.le_of_ble_eq_true rfl⟩) hS (fun r1174 u1174 H locs h1174 hP hS => ?_)
    have ht9 : u1174 0 0 0 = 2 := h1174.elim (fun z => absurd z.1 hb9) (fun z => z.2)
    refine lv_istore (lv' := [(7, .int r1174), (6, .int 2), (0, .ref b), (1, .ref (L 0)), (2, .ref (L 106)), (3, .ref (L 123)), (4, .ref (L 124)), (5, .int 0)]) hx hb dL_law_1177 hl (by decide) rfl (fun ls hl => ?_)
    refine lv_aload_n hx hb dL_law_1179 rfl (lv_at hl 4 rfl) ?_
    refine wx_calli (va_runV (As := []) (rest := []) ⟨hx, hb, hml, hown, hts⟩ (km_thrown l hst g s.heap.size 125 L (by omega) u1174 0 (cw g L v1156 ro)) (cwV 0 hts gL_law_X4_thrown rfl rfl rfl (by decide +kernel) ⟨Nat.le_of_ble_eq_true rfl, Nat.le_of_ble_eq_true rfl⟩) (PW.preV3 (Nat.le_refl _) hJ hK hE hP hS (ci := 6) rfl (by omega) mw_o) rfl rfl hl.1 rfl (lv_room (Nat.le_of_ble_eq_true rfl)) dL_law_1180 ⟨Nat.le_of_ble_eq_true rfl, Nat.le_of_ble_eq_true rfl⟩) hS (fun r1180 u1180 H locs h1180 hP hS => ?_)
    obtain ⟨rfl, e9⟩ := h1180
    have e9 := e9.symm
    subst e9
    refine lv_iload hx hb dL_law_1183 (lv_at hl 1 rfl) ?_
    refine lv_icmp_eq (tgt := 1190) hx hb dL_law_1185 (by decide) (fun c1185 => ?_) (fun c1185 => absurd (ht9) c1185)
    refine lv_iload hx hb dL_law_1190 (lv_at hl 1 rfl) ?_
    refine lv_if_ne (tgt := 1207) hx hb dL_law_1192 (by decide) (fun c1192 => ?_) (fun c1192 => absurd c1192 (by decide))
    refine lv_goto (tgt := 2028) hx hb dL_law_1207 (by decide) ?_
    exact law_end C0 (Nat.le_of_ble_eq_true rfl) (Nat.le_of_ble_eq_true rfl) hS (lv_sub hl [7, 2] rfl)

set_option maxHeartbeats 8000000 in
set_option maxRecDepth 100000 in
theorem law_c15 {p : Program} {e : Env} {s : State} {m : MethodId} {below : List Frame} {meth : Method} {c : Code} (l : Launch) (hst : l.stackTraces = false) {b : Nat} {xs : Nat → Int32} (C0 : lw_At p s m meth c b 5 xs) (g : gE) (L : Nat → Nat) (ro : Nat → va_E) (f : Nat → Int64) (ho : ro 123 = .inl (g.2 4, 1, .inr (.inl f))) (hJ : wj 125 L (fun q : Nat => s.heap.size ≤ q)) (hK : va_K g.1 vwCl (tysC g) s) (hE : EE SS (fun q : Nat => s.heap.size ≤ q) s) {H : Heap} {locs : List Loc} (hP : va_P g.1 vwCl (wl 125 L (cw g L x0 (mw g L y0 0 ro))) H) (hS : va_S (fun q : Nat => s.heap.size ≤ q) s.heap H locs) {ls : Array Slot} (hl : lv_has ls 9 [(0, .ref b), (1, .ref (L 0)), (2, .ref (L 106)), (3, .ref (L 123)), (4, .ref (L 124)), (5, .int 0)]) : W p l e room_1 s m #[Value.ref b] below meth c H locs 200 100000 (lw_Z below #[Value.ref b] s) (F0 m 1210 ls []) := by
  obtain ⟨hx, hb, hr, hml, hown, hts0, hX, hbl, hlocks, hgv⟩ := id C0
  have hown : s.vm.findClass RL = some m.cls := hown
  have hts : ∀ w ∈ wsL_law, w.before #[Value.ref b] s = true := fun w h => hts0 w (wsL_law_in w h)
  have hbA : ¬ (fun q : Nat => s.heap.size ≤ q) b := Nat.not_le.mpr hbl
  have hx0 : x0 0 0 0 = nI 0 := rfl
  have hx1 : x0 1 0 0 = nI 0 := rfl
  have hx2 : x0 2 0 0 = 2 := rfl
  have hx3 : x0 3 0 0 = nI 0 := rfl
  have hy1 : y0 1 0 0 = nI 0 := rfl
  have hy2 : y0 2 0 0 = 2 := rfl
  have hy3 : y0 3 0 0 = nI 0 := rfl
  have hy4 : y0 4 0 0 = nI 0 := rfl
  have hn : 125 ≤ 125 := Nat.le_refl _
  refine lv_aload_n hx hb dL_law_1210 rfl (lv_at hl 1 rfl) ?_
  refine lv_aload_n hx hb dL_law_1211 rfl (lv_at hl 0 rfl) ?_
  refine lv_iload hx hb dL_law_1212 (lv_at hl 5 rfl) ?_
  refine lv_iconst (v := 1) hx hb dL_law_1214 (by decide) ?_
  refine lv_iadd hx hb dL_law_1215 ?_
  refine va_sld hx hb hX hbl hbA hS (i := 0 + 1) (by unfold vp_in; decide) dL_law_1216 ?_
  refine lv_aload_n hx hb dL_law_1217 rfl (lv_at hl 3 rfl) ?_
  refine wx_calli (vx_runSW (As := [.ref (L 0), .int (xs (0 + 1 : Int32).toNatClampNeg), .ref (L 123)]) (rest := []) ⟨hx, hb, hml, hown, hts⟩ (kl_isDue l hst g s.heap.size 125 L (by omega) x0 (mw g L y0 0 ro) hx0 hx1 hx2 hx3 f (mw_ge (by decide) |>.trans ho) (xs (0 + 1 : Int32).toNatClampNeg)) (vx_cwSW 3 hts gL_law_L_isDue rfl rfl rfl (by decide +kernel) ⟨Nat.le_of_ble_eq_true rfl, Nat.le_of_ble_eq_true rfl⟩) (PW.preS3 (Nat.le_refl _) hJ hK hE hP hS) rfl rfl hl.1 rfl (lv_room (Nat.le_of_ble_eq_true rfl)) dL_law_1218 ⟨Nat.le_of_ble_eq_true rfl, Nat.le_of_ble_eq_true rfl⟩) hS (fun r1218 u1218 H locs h1218 hP hS => ?_)
  obtain ⟨v1218, t1218⟩ := u1218
  dsimp only at h1218 hP
  obtain ⟨rfl, rfl⟩ := h1218
  have hP : va_P g.1 vwCl (wl 125 L (mw g L y0 0 (cw g L v1218 ro))) H := by rw [← cw_mw]; exact hP
  refine lv_istore (lv' := [(6, .int 1), (0, .ref b), (1, .ref (L 0)), (2, .ref (L 106)), (3, .ref (L 123)), (4, .ref (L 124)), (5, .int 0)]) hx hb dL_law_1221 hl (by decide) rfl (fun ls hl => ?_)
  refine lv_aload_n hx hb dL_law_1223 rfl (lv_at hl 3 rfl) ?_
  refine lv_aload_n hx hb dL_law_1224 rfl (lv_at hl 1 rfl) ?_
  refine lv_iload hx hb dL_law_1225 (lv_at hl 6 rfl) ?_
  refine lv_iconst (v := 1) hx hb dL_law_1227 (by decide) ?_
  refine lv_iadd hx hb dL_law_1228 ?_
  refine va_sld hx hb hX hbl hbA hS (i := 0 + 1) (by unfold vp_in; decide) dL_law_1229 ?_
  refine wx_calli (va_runV (As := [.int (xs (0 + 1 : Int32).toNatClampNeg)]) (rest := []) ⟨hx, hb, hml, hown, hts⟩ (km_isDue l hst g s.heap.size 125 L (by omega) y0 0 (cw g L v1218 ro) hy1 hy2 hy3 hy4 (xs (0 + 1 : Int32).toNatClampNeg)) (cwV 1 hts gL_law_X4_isDue rfl rfl rfl (by decide +kernel) ⟨Nat.le_of_ble_eq_true rfl, Nat.le_of_ble_eq_true rfl⟩) (PW.preV3 (Nat.le_refl _) hJ hK hE hP hS (ci := 6) rfl (by omega) mw_o) rfl rfl hl.1 rfl (lv_room (Nat.le_of_ble_eq_true rfl)) dL_law_1230 ⟨Nat.le_of_ble_eq_true rfl, Nat.le_of_ble_eq_true rfl⟩) hS (fun r1230 u1230 H locs h1230 hP hS => ?_)
  have ht9 : u1230 0 0 0 = 1 := h1230
  refine lv_istore (lv' := [(7, .int r1230), (6, .int 1), (0, .ref b), (1, .ref (L 0)), (2, .ref (L 106)), (3, .ref (L 123)), (4, .ref (L 124)), (5, .int 0)]) hx hb dL_law_1233 hl (by decide) rfl (fun ls hl => ?_)
  refine lv_aload_n hx hb dL_law_1235 rfl (lv_at hl 4 rfl) ?_
  refine wx_calli (va_runV (As := []) (rest := []) ⟨hx, hb, hml, hown, hts⟩ (km_thrown l hst g s.heap.size 125 L (by omega) u1230 0 (cw g L v1218 ro)) (cwV 0 hts gL_law_X4_thrown rfl rfl rfl (by decide +kernel) ⟨Nat.le_of_ble_eq_true rfl, Nat.le_of_ble_eq_true rfl⟩) (PW.preV3 (Nat.le_refl _) hJ hK hE hP hS (ci := 6) rfl (by omega) mw_o) rfl rfl hl.1 rfl (lv_room (Nat.le_of_ble_eq_true rfl)) dL_law_1236 ⟨Nat.le_of_ble_eq_true rfl, Nat.le_of_ble_eq_true rfl⟩) hS (fun r1236 u1236 H locs h1236 hP hS => ?_)
  obtain ⟨rfl, e9⟩ := h1236
  have e9 := e9.symm
  subst e9
  refine lv_iload hx hb dL_law_1239 (lv_at hl 1 rfl) ?_
  refine lv_icmp_eq (tgt := 1246) hx hb dL_law_1241 (by decide) (fun c1241 => ?_) (fun c1241 => absurd (ht9) c1241)
  refine lv_iload hx hb dL_law_1246 (lv_at hl 1 rfl) ?_
  refine lv_if_ne (tgt := 1270) hx hb dL_law_1248 (by decide) (fun c1248 => ?_) (fun c1248 => absurd c1248 (by decide))
  refine lv_goto (tgt := 2028) hx hb dL_law_1270 (by decide) ?_
  exact law_end C0 (Nat.le_of_ble_eq_true rfl) (Nat.le_of_ble_eq_true rfl) hS (lv_sub hl [7, 2] rfl)
