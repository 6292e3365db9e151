/-! laid by wip/gen -/
section LWC
set_option maxHeartbeats 8000000 in
set_option maxRecDepth 100000 in
theorem law_c0 {p : Program} {e : Env} {s : State} {m : MethodId} {below : List Frame} {meth : Method} {c : Code} (l : Launch) (hst : l.stackTraces = false) {b N : Nat} {xs : Nat → Int32} (hN : N ≤ 2560) (C0 : lw_At p s m meth c b N xs) (g : gE) (L : Nat → Nat) (hJ : wj 125 L (fun q : Nat => s.heap.size ≤ q)) (hK : va_K g.1 vwCl (tysC g) s) (hE : EE SS (fun q : Nat => s.heap.size ≤ q) s) {t : Nat} (ht : 5 * t + 5 ≤ N) {x y : St} {ch : Int64} {nb nn hr : Nat} {ro : Nat → va_E} (hR : R2 x y ch nb nn hr t) (ho : outOK g ro) {cl sl : Nat} (hcl : cl + 100 ≤ 603072) (hsl : sl + 1000 ≤ 7215210) {H : Heap} {locs : List Loc} (hP : va_P g.1 vwCl (wl 125 L (cw g L x (mw g L y ch ro))) H) (hS : va_S (fun q : Nat => s.heap.size ≤ q) s.heap H locs) {ls : Array Slot} (hl : lv_has ls 9 [(0, .ref b), (1, .ref (L 0)), (2, .ref (L 106)), (3, .ref (L 123)), (4, .ref (L 124)), (5, .int (nI (5 * t)))]) (hnext : ∀ (x2 y2 : St) (ch2 : Int64) (nb2 nn2 hr2 : Nat) (ro2 : Nat → va_E) (cl2 sl2 : Nat) (H : Heap) (locs : List Loc) (ls : Array Slot), R2 x2 y2 ch2 nb2 nn2 hr2 (t + 1) → outOK g ro2 → cl2 ≤ cl + 8 → sl2 ≤ sl + 48 → va_P g.1 vwCl (wl 125 L (cw g L x2 (mw g L y2 ch2 ro2))) H → va_S (fun q : Nat => s.heap.size ≤ q) s.heap H locs → lv_has ls 9 [(0, .ref b), (1, .ref (L 0)), (2, .ref (L 106)), (3, .ref (L 123)), (4, .ref (L 124)), (5, .int (nI (5 * t)))] → W p l e room_1 s m #[Value.ref b] below meth c H locs cl2 sl2 (lw_Z below #[Value.ref b] s) (F0 m 1264 ls [])) : W p l e room_1 s m #[Value.ref b] below meth c H locs cl sl (lw_Z below #[Value.ref b] s) (F0 m 188 ls []) := by
  obtain ⟨hx, hb, hr9, hml, hown, hts0, hX, hbl, hlocks, hgv⟩ := id C0
  have hown : s.vm.findClass RL = some m.cls := hown
  have hts : ∀ w ∈ wsL_law, w.before #[Value.ref b] s = true := fun w h => hts0 w (wsL_law_in w h)
  have hbA : ¬ (fun q : Nat => s.heap.size ≤ q) b := Nat.not_le.mpr hbl
  have hn : 125 ≤ 125 := Nat.le_refl _
  have hG := hR.gi
  have hnb := hG.nb6
  have hx0 := hG.x0
  have hnn := hG.nn40
  have hx1 := hG.x1
  have hsh := hG.sh
  have hrk := hG.rk
  have hbz := hR.b14
  obtain ⟨cnt, hcn, hx4⟩ := hR.cnt
  obtain ⟨⟨f, ho1⟩, ⟨fd, ho2⟩⟩ := id ho
  have htc : ∀ b, b < 6 → (fun b => (x 19 b 0).toNatClampNeg) b ≤ 1920 := fun b hb => hG.tc hb
  have hx19 : ∀ b, b < 6 → x 19 b 0 = nI ((fun b => (x 19 b 0).toNatClampNeg) b) := fun b hb => hG.x19 hb
  generalize (fun b => (x 19 b 0).toNatClampNeg) = tcs at htc hx19
  have hhr := hR.hr
  have hyh := hR.y1
  obtain ⟨a1, ea1⟩ : ∃ a, a = xs (nI (5 * t) + 1).toNatClampNeg := ⟨_, rfl⟩
  obtain ⟨a2, ea2⟩ : ∃ a, a = xs (nI (5 * t) + 2).toNatClampNeg := ⟨_, rfl⟩
  obtain ⟨a3, ea3⟩ : ∃ a, a = xs (nI (5 * t) + 3).toNatClampNeg := ⟨_, rfl⟩
  obtain ⟨a4, ea4⟩ : ∃ a, a = xs (nI (5 * t) + 4).toNatClampNeg := ⟨_, rfl⟩
  have ht9 : t < 512 := by omega
  refine lv_aload_n hx hb dL_law_188 rfl (lv_at hl 1 rfl) ?_
  refine lv_aload_n hx hb dL_law_189 rfl (lv_at hl 0 rfl) ?_
  refine lv_iload hx hb dL_law_190 (lv_at hl 5 rfl) ?_
  refine lv_iconst (v := 1) hx hb dL_law_192 (by decide) ?_
  refine lv_iadd hx hb dL_law_193 ?_
  refine va_sld hx hb hX hbl hbA hS (i := (nI (5 * t)) + 1) (by rw [show nI (5 * t) + 1 = nI (5 * t + 1) from nI_add _ 1]; exact vp_in_nI (by omega) (by omega)) dL_law_194 ?_
  rw [← ea1]
  refine lv_aload_n hx hb dL_law_195 rfl (lv_at hl 0 rfl) ?_
  refine lv_iload hx hb dL_law_196 (lv_at hl 5 rfl) ?_
  refine lv_iconst (v := 2) hx hb dL_law_198 (by decide) ?_
  refine lv_iadd hx hb dL_law_199 ?_
  refine va_sld hx hb hX hbl hbA hS (i := (nI (5 * t)) + 2) (by rw [show nI (5 * t) + 2 = nI (5 * t + 2) from nI_add _ 2]; exact vp_in_nI (by omega) (by omega)) dL_law_200 ?_
  rw [← ea2]
  refine lv_aload_n hx hb dL_law_201 rfl (lv_at hl 3 rfl) ?_
  refine wx_calli (vx_runSW (As := [.ref (L 0), .int a1, .int a2, .ref (L 123)]) (rest := []) ⟨hx, hb, hml, hown, hts⟩ (kl_addBoard l hst g s.heap.size 125 L (by omega) x (mw g L y ch ro) nb hnb hx0 a1 a2 f ((mw_ge (by decide)).trans ho1)) (vx_cwSW 4 hts gL_law_L_addBoard rfl rfl rfl (by decide +kernel) ⟨Nat.le_of_ble_eq_true rfl, Nat.le_of_ble_eq_true rfl⟩) (PW.preS3 (Nat.le_refl _) hJ hK hE hP hS) rfl rfl hl.1 rfl (lv_room (Nat.le_of_ble_eq_true rfl)) dL_law_202 ⟨(by show _ ≤ 603072; omega), (by show _ ≤ 7215210; omega)⟩) hS (fun r202 u202 H locs h202 hP hS => ?_)
  obtain ⟨ro2, e9, hc⟩ := c_addBoard (nb := nb) (nn := nn) h202
  rw [e9, cw_mw] at hP
  refine lv_istore (lv' := [(6, .int r202), (0, .ref b), (1, .ref (L 0)), (2, .ref (L 106)), (3, .ref (L 123)), (4, .ref (L 124)), (5, .int (nI (5 * t)))]) hx hb dL_law_205 hl (by decide) rfl (fun ls hl => ?_)
  refine lv_aload_n hx hb dL_law_207 rfl (lv_at hl 3 rfl) ?_
  refine lv_aload_n hx hb dL_law_208 rfl (lv_at hl 1 rfl) ?_
  refine lv_iload hx hb dL_law_209 (lv_at hl 6 rfl) ?_
  refine lv_iconst (v := 1) hx hb dL_law_211 (by decide) ?_
  refine lv_iadd hx hb dL_law_212 ?_
  refine va_sld hx hb hX hbl hbA hS (i := (nI (5 * t)) + 1) (by rw [show nI (5 * t) + 1 = nI (5 * t + 1) from nI_add _ 1]; exact vp_in_nI (by omega) (by omega)) dL_law_213 ?_
  rw [← ea1]
  refine lv_aload_n hx hb dL_law_214 rfl (lv_at hl 1 rfl) ?_
  refine lv_iload hx hb dL_law_215 (lv_at hl 6 rfl) ?_
  refine lv_iconst (v := 2) hx hb dL_law_217 (by decide) ?_
  refine lv_iadd hx hb dL_law_218 ?_
  refine va_sld hx hb hX hbl hbA hS (i := (nI (5 * t)) + 2) (by rw [show nI (5 * t) + 2 = nI (5 * t + 2) from nI_add _ 2]; exact vp_in_nI (by omega) (by omega)) dL_law_219 ?_
  rw [← ea2]
  refine wx_calli (va_runV (As := [.int a1, .int a2]) (rest := []) ⟨hx, hb, hml, hown, hts⟩ (m_addBoard l hst g s.heap.size 125 L (by omega) y ch (cw g L u202.1 ro2) nb nn hR.mi a1 a2) (cwV 2 hts gL_law_X4_addBoard rfl rfl rfl (by decide +kernel) ⟨Nat.le_of_ble_eq_true rfl, Nat.le_of_ble_eq_true rfl⟩) (PW.preV3 (Nat.le_refl _) hJ hK hE hP hS (ci := 6) rfl (by omega) mw_o) rfl rfl hl.1 rfl (lv_room (Nat.le_of_ble_eq_true rfl)) dL_law_220 ⟨(by show _ ≤ 603072; omega), (by show _ ≤ 7215210; omega)⟩) hS (fun r220 u220 H locs h220 hP hS => ?_)
  obtain ⟨⟨nb2, nn2, hr2, hR2⟩, ho9⟩ := s_addBoard (f := f) (r2 := r220) ht9 hR ho hc h220
  refine lv_istore (lv' := [(7, .int r220), (6, .int r202), (0, .ref b), (1, .ref (L 0)), (2, .ref (L 106)), (3, .ref (L 123)), (4, .ref (L 124)), (5, .int (nI (5 * t)))]) hx hb dL_law_223 hl (by decide) rfl (fun ls hl => ?_)
  refine lv_goto (tgt := 1264) hx hb dL_law_225 (by decide) ?_
  exact hnext _ _ _ _ _ _ _ _ _ _ _ _ hR2 ho9 (by omega) (by omega) (by rw [cw_mw]; exact hP) hS (lv_sub hl [2, 3, 4, 5, 6, 7] rfl)

set_option maxHeartbeats 8000000 in
set_option maxRecDepth 100000 in
theorem law_c1 {p : Program} {e : Env} {s : State} {m : MethodId} {below : List Frame} {meth : Method} {c : Code} (l : Launch) (hst : l.stackTraces = false) {b N : Nat} {xs : Nat → Int32} (hN : N ≤ 2560) (C0 : lw_At p s m meth c b N xs) (g : gE) (L : Nat → Nat) (hJ : wj 125 L (fun q : Nat => s.heap.size ≤ q)) (hK : va_K g.1 vwCl (tysC g) s) (hE : EE SS (fun q : Nat => s.heap.size ≤ q) s) {t : Nat} (ht : 5 * t + 5 ≤ N) {x y : St} {ch : Int64} {nb nn hr : Nat} {ro : Nat → va_E} (hR : R2 x y ch nb nn hr t) (ho : outOK g ro) {cl sl : Nat} (hcl : cl + 100 ≤ 603072) (hsl : sl + 1000 ≤ 7215210) {H : Heap} {locs : List Loc} (hP : va_P g.1 vwCl (wl 125 L (cw g L x (mw g L y ch ro))) H) (hS : va_S (fun q : Nat => s.heap.size ≤ q) s.heap H locs) {ls : Array Slot} (hl : lv_has ls 9 [(0, .ref b), (1, .ref (L 0)), (2, .ref (L 106)), (3, .ref (L 123)), (4, .ref (L 124)), (5, .int (nI (5 * t)))]) (hnext : ∀ (x2 y2 : St) (ch2 : Int64) (nb2 nn2 hr2 : Nat) (ro2 : Nat → va_E) (cl2 sl2 : Nat) (H : Heap) (locs : List Loc) (ls : Array Slot), R2 x2 y2 ch2 nb2 nn2 hr2 (t + 1) → outOK g ro2 → cl2 ≤ cl + 8 → sl2 ≤ sl + 48 → va_P g.1 vwCl (wl 125 L (cw g L x2 (mw g L y2 ch2 ro2))) H → va_S (fun q : Nat => s.heap.size ≤ q) s.heap H locs → lv_has ls 9 [(0, .ref b), (1, .ref (L 0)), (2, .ref (L 106)), (3, .ref (L 123)), (4, .ref (L 124)), (5, .int (nI (5 * t)))] → W p l e room_1 s m #[Value.ref b] below meth c H locs cl2 sl2 (lw_Z below #[Value.ref b] s) (F0 m 1264 ls [])) : W p l e room_1 s m #[Value.ref b] below meth c H locs cl sl (lw_Z below #[Value.ref b] s) (F0 m 228 ls []) := by
  obtain ⟨hx, hb, hr9, hml, hown, hts0, hX, hbl, hlocks, hgv⟩ := id C0
  have hown : s.vm.findClass RL = some m.cls := hown
  have hts : ∀ w ∈ wsL_law, w.before #[Value.ref b] s = true := fun w h => hts0 w (wsL_law_in w h)
  have hbA : ¬ (fun q : Nat => s.heap.size ≤ q) b := Nat.not_le.mpr hbl
  have hn : 125 ≤ 125 := Nat.le_refl _
  have hG := hR.gi
  have hnb := hG.nb6
  have hx0 := hG.x0
  have hnn := hG.nn40
  have hx1 := hG.x1
  have hsh := hG.sh
  have hrk := hG.rk
  have hbz := hR.b14
  obtain ⟨cnt, hcn, hx4⟩ := hR.cnt
  obtain ⟨⟨f, ho1⟩, ⟨fd, ho2⟩⟩ := id ho
  have htc : ∀ b, b < 6 → (fun b => (x 19 b 0).toNatClampNeg) b ≤ 1920 := fun b hb => hG.tc hb
  have hx19 : ∀ b, b < 6 → x 19 b 0 = nI ((fun b => (x 19 b 0).toNatClampNeg) b) := fun b hb => hG.x19 hb
  generalize (fun b => (x 19 b 0).toNatClampNeg) = tcs at htc hx19
  have hhr := hR.hr
  have hyh := hR.y1
  obtain ⟨a1, ea1⟩ : ∃ a, a = xs (nI (5 * t) + 1).toNatClampNeg := ⟨_, rfl⟩
  obtain ⟨a2, ea2⟩ : ∃ a, a = xs (nI (5 * t) + 2).toNatClampNeg := ⟨_, rfl⟩
  obtain ⟨a3, ea3⟩ : ∃ a, a = xs (nI (5 * t) + 3).toNatClampNeg := ⟨_, rfl⟩
  obtain ⟨a4, ea4⟩ : ∃ a, a = xs (nI (5 * t) + 4).toNatClampNeg := ⟨_, rfl⟩
  have ht9 : t < 512 := by omega
  refine lv_aload_n hx hb dL_law_228 rfl (lv_at hl 1 rfl) ?_
  refine lv_aload_n hx hb dL_law_229 rfl (lv_at hl 0 rfl) ?_
  refine lv_iload hx hb dL_law_230 (lv_at hl 5 rfl) ?_
  refine lv_iconst (v := 1) hx hb dL_law_232 (by decide) ?_
  refine lv_iadd hx hb dL_law_233 ?_
  refine va_sld hx hb hX hbl hbA hS (i := (nI (5 * t)) + 1) (by rw [show nI (5 * t) + 1 = nI (5 * t + 1) from nI_add _ 1]; exact vp_in_nI (by omega) (by omega)) dL_law_234 ?_
  rw [← ea1]
  refine lv_aload_n hx hb dL_law_235 rfl (lv_at hl 3 rfl) ?_
  refine wx_calli (vx_runSW (As := [.ref (L 0), .int a1, .ref (L 123)]) (rest := []) ⟨hx, hb, hml, hown, hts⟩ (kl_setSun l hst g s.heap.size 125 L (by omega) x (mw g L y ch ro) a1 f ((mw_ge (by decide)).trans ho1)) (vx_cwSW 3 hts gL_law_L_setSun rfl rfl rfl (by decide +kernel) ⟨Nat.le_of_ble_eq_true rfl, Nat.le_of_ble_eq_true rfl⟩) (PW.preS3 (Nat.le_refl _) hJ hK hE hP hS) rfl rfl hl.1 rfl (lv_room (Nat.le_of_ble_eq_true rfl)) dL_law_236 ⟨(by show _ ≤ 603072; omega), (by show _ ≤ 7215210; omega)⟩) hS (fun r236 u236 H locs h236 hP hS => ?_)
  obtain ⟨ro2, e9, hc⟩ := c_setSun (nb := nb) (nn := nn) h236
  rw [e9, cw_mw] at hP
  refine lv_istore (lv' := [(6, .int r236), (0, .ref b), (1, .ref (L 0)), (2, .ref (L 106)), (3, .ref (L 123)), (4, .ref (L 124)), (5, .int (nI (5 * t)))]) hx hb dL_law_239 hl (by decide) rfl (fun ls hl => ?_)
  refine lv_aload_n hx hb dL_law_241 rfl (lv_at hl 3 rfl) ?_
  refine lv_aload_n hx hb dL_law_242 rfl (lv_at hl 1 rfl) ?_
  refine lv_iload hx hb dL_law_243 (lv_at hl 6 rfl) ?_
  refine lv_iconst (v := 1) hx hb dL_law_245 (by decide) ?_
  refine lv_iadd hx hb dL_law_246 ?_
  refine va_sld hx hb hX hbl hbA hS (i := (nI (5 * t)) + 1) (by rw [show nI (5 * t) + 1 = nI (5 * t + 1) from nI_add _ 1]; exact vp_in_nI (by omega) (by omega)) dL_law_247 ?_
  rw [← ea1]
  refine wx_calli (va_runV (As := [.int a1]) (rest := []) ⟨hx, hb, hml, hown, hts⟩ (m_setSun l hst g s.heap.size 125 L (by omega) y ch (cw g L u236.1 ro2) nb nn hR.mi a1) (cwV 1 hts gL_law_X4_setSun rfl rfl rfl (by decide +kernel) ⟨Nat.le_of_ble_eq_true rfl, Nat.le_of_ble_eq_true rfl⟩) (PW.preV3 (Nat.le_refl _) hJ hK hE hP hS (ci := 6) rfl (by omega) mw_o) rfl rfl hl.1 rfl (lv_room (Nat.le_of_ble_eq_true rfl)) dL_law_248 ⟨(by show _ ≤ 603072; omega), (by show _ ≤ 7215210; omega)⟩) hS (fun r248 u248 H locs h248 hP hS => ?_)
  obtain ⟨⟨nb2, nn2, hr2, hR2⟩, ho9⟩ := s_setSun (f := f) (r2 := r248) ht9 hR ho hc h248
  refine lv_istore (lv' := [(7, .int r248), (6, .int r236), (0, .ref b), (1, .ref (L 0)), (2, .ref (L 106)), (3, .ref (L 123)), (4, .ref (L 124)), (5, .int (nI (5 * t)))]) hx hb dL_law_251 hl (by decide) rfl (fun ls hl => ?_)
  refine lv_goto (tgt := 1264) hx hb dL_law_253 (by decide) ?_
  exact hnext _ _ _ _ _ _ _ _ _ _ _ _ hR2 ho9 (by omega) (by omega) (by rw [cw_mw]; exact hP) hS (lv_sub hl [2, 3, 4, 5, 6, 7] rfl)

set_option maxHeartbeats 8000000 in
set_option maxRecDepth 100000 in
theorem law_c2 {p : Program} {e : Env} {s : State} {m : MethodId} {below : List Frame} {meth : Method} {c : Code} (l : Launch) (hst : l.stackTraces = false) {b N : Nat} {xs : Nat → Int32} (hN : N ≤ 2560) (C0 : lw_At p s m meth c b N xs) (g : gE) (L : Nat → Nat) (hJ : wj 125 L (fun q : Nat => s.heap.size ≤ q)) (hK : va_K g.1 vwCl (tysC g) s) (hE : EE SS (fun q : Nat => s.heap.size ≤ q) s) {t : Nat} (ht : 5 * t + 5 ≤ N) {x y : St} {ch : Int64} {nb nn hr : Nat} {ro : Nat → va_E} (hR : R2 x y ch nb nn hr t) (ho : outOK g ro) {cl sl : Nat} (hcl : cl + 100 ≤ 603072) (hsl : sl + 1000 ≤ 7215210) {H : Heap} {locs : List Loc} (hP : va_P g.1 vwCl (wl 125 L (cw g L x (mw g L y ch ro))) H) (hS : va_S (fun q : Nat => s.heap.size ≤ q) s.heap H locs) {ls : Array Slot} (hl : lv_has ls 9 [(0, .ref b), (1, .ref (L 0)), (2, .ref (L 106)), (3, .ref (L 123)), (4, .ref (L 124)), (5, .int (nI (5 * t)))]) (hnext : ∀ (x2 y2 : St) (ch2 : Int64) (nb2 nn2 hr2 : Nat) (ro2 : Nat → va_E) (cl2 sl2 : Nat) (H : Heap) (locs : List Loc) (ls : Array Slot), R2 x2 y2 ch2 nb2 nn2 hr2 (t + 1) → outOK g ro2 → cl2 ≤ cl + 8 → sl2 ≤ sl + 48 → va_P g.1 vwCl (wl 125 L (cw g L x2 (mw g L y2 ch2 ro2))) H → va_S (fun q : Nat => s.heap.size ≤ q) s.heap H locs → lv_has ls 9 [(0, .ref b), (1, .ref (L 0)), (2, .ref (L 106)), (3, .ref (L 123)), (4, .ref (L 124)), (5, .int (nI (5 * t)))] → W p l e room_1 s m #[Value.ref b] below meth c H locs cl2 sl2 (lw_Z below #[Value.ref b] s) (F0 m 1264 ls [])) : W p l e room_1 s m #[Value.ref b] below meth c H locs cl sl (lw_Z below #[Value.ref b] s) (F0 m 256 ls []) := by
  obtain ⟨hx, hb, hr9, hml, hown, hts0, hX, hbl, hlocks, hgv⟩ := id C0
  have hown : s.vm.findClass RL = some m.cls := hown
  have hts : ∀ w ∈ wsL_law, w.before #[Value.ref b] s = true := fun w h => hts0 w (wsL_law_in w h)
  have hbA : ¬ (fun q : Nat => s.heap.size ≤ q) b := Nat.not_le.mpr hbl
  have hn : 125 ≤ 125 := Nat.le_refl _
  have hG := hR.gi
  have hnb := hG.nb6
  have hx0 := hG.x0
  have hnn := hG.nn40
  have hx1 := hG.x1
  have hsh := hG.sh
  have hrk := hG.rk
  have hbz := hR.b14
  obtain ⟨cnt, hcn, hx4⟩ := hR.cnt
  obtain ⟨⟨f, ho1⟩, ⟨fd, ho2⟩⟩ := id ho
  have htc : ∀ b, b < 6 → (fun b => (x 19 b 0).toNatClampNeg) b ≤ 1920 := fun b hb => hG.tc hb
  have hx19 : ∀ b, b < 6 → x 19 b 0 = nI ((fun b => (x 19 b 0).toNatClampNeg) b) := fun b hb => hG.x19 hb
  generalize (fun b => (x 19 b 0).toNatClampNeg) = tcs at htc hx19
  have hhr := hR.hr
  have hyh := hR.y1
  obtain ⟨a1, ea1⟩ : ∃ a, a = xs (nI (5 * t) + 1).toNatClampNeg := ⟨_, rfl⟩
  obtain ⟨a2, ea2⟩ : ∃ a, a = xs (nI (5 * t) + 2).toNatClampNeg := ⟨_, rfl⟩
  obtain ⟨a3, ea3⟩ : ∃ a, a = xs (nI (5 * t) + 3).toNatClampNeg := ⟨_, rfl⟩
  obtain ⟨a4, ea4⟩ : ∃ a, a = xs (nI (5 * t) + 4).toNatClampNeg := ⟨_, rfl⟩
  have ht9 : t < 512 := by omega
  refine lv_aload_n hx hb dL_law_256 rfl (lv_at hl 1 rfl) ?_
  refine lv_aload_n hx hb dL_law_257 rfl (lv_at hl 0 rfl) ?_
  refine lv_iload hx hb dL_law_258 (lv_at hl 5 rfl) ?_
  refine lv_iconst (v := 1) hx hb dL_law_260 (by decide) ?_
  refine lv_iadd hx hb dL_law_261 ?_
  refine va_sld hx hb hX hbl hbA hS (i := (nI (5 * t)) + 1) (by rw [show nI (5 * t) + 1 = nI (5 * t + 1) from nI_add _ 1]; exact vp_in_nI (by omega) (by omega)) dL_law_262 ?_
  rw [← ea1]
  refine lv_aload_n hx hb dL_law_263 rfl (lv_at hl 3 rfl) ?_
  refine wx_calli (vx_runSW (As := [.ref (L 0), .int a1, .ref (L 123)]) (rest := []) ⟨hx, hb, hml, hown, hts⟩ (kl_charge l hst g s.heap.size 125 L (by omega) x (mw g L y ch ro) nb hnb hx0 a1 f ((mw_ge (by decide)).trans ho1)) (vx_cwSW 3 hts gL_law_L_charge rfl rfl rfl (by decide +kernel) ⟨Nat.le_of_ble_eq_true rfl, Nat.le_of_ble_eq_true rfl⟩) (PW.preS3 (Nat.le_refl _) hJ hK hE hP hS) rfl rfl hl.1 rfl (lv_room (Nat.le_of_ble_eq_true rfl)) dL_law_264 ⟨(by show _ ≤ 603072; omega), (by show _ ≤ 7215210; omega)⟩) hS (fun r264 u264 H locs h264 hP hS => ?_)
  obtain ⟨ro2, e9, hc⟩ := c_charge (nb := nb) (nn := nn) h264
  rw [e9, cw_mw] at hP
  refine lv_istore (lv' := [(6, .int r264), (0, .ref b), (1, .ref (L 0)), (2, .ref (L 106)), (3, .ref (L 123)), (4, .ref (L 124)), (5, .int (nI (5 * t)))]) hx hb dL_law_267 hl (by decide) rfl (fun ls hl => ?_)
  refine lv_aload_n hx hb dL_law_269 rfl (lv_at hl 3 rfl) ?_
  refine lv_aload_n hx hb dL_law_270 rfl (lv_at hl 1 rfl) ?_
  refine lv_iload hx hb dL_law_271 (lv_at hl 6 rfl) ?_
  refine lv_iconst (v := 1) hx hb dL_law_273 (by decide) ?_
  refine lv_iadd hx hb dL_law_274 ?_
  refine va_sld hx hb hX hbl hbA hS (i := (nI (5 * t)) + 1) (by rw [show nI (5 * t) + 1 = nI (5 * t + 1) from nI_add _ 1]; exact vp_in_nI (by omega) (by omega)) dL_law_275 ?_
  rw [← ea1]
  refine wx_calli (va_runV (As := [.int a1]) (rest := []) ⟨hx, hb, hml, hown, hts⟩ (m_charge l hst g s.heap.size 125 L (by omega) y ch (cw g L u264.1 ro2) nb nn hR.mi a1) (cwV 1 hts gL_law_X4_charge rfl rfl rfl (by decide +kernel) ⟨Nat.le_of_ble_eq_true rfl, Nat.le_of_ble_eq_true rfl⟩) (PW.preV3 (Nat.le_refl _) hJ hK hE hP hS (ci := 6) rfl (by omega) mw_o) rfl rfl hl.1 rfl (lv_room (Nat.le_of_ble_eq_true rfl)) dL_law_276 ⟨(by show _ ≤ 603072; omega), (by show _ ≤ 7215210; omega)⟩) hS (fun r276 u276 H locs h276 hP hS => ?_)
  obtain ⟨⟨nb2, nn2, hr2, hR2⟩, ho9⟩ := s_charge (f := f) (r2 := r276) ht9 hR ho hc h276
  refine lv_istore (lv' := [(7, .int r276), (6, .int r264), (0, .ref b), (1, .ref (L 0)), (2, .ref (L 106)), (3, .ref (L 123)), (4, .ref (L 124)), (5, .int (nI (5 * t)))]) hx hb dL_law_279 hl (by decide) rfl (fun ls hl => ?_)
  refine lv_goto (tgt := 1264) hx hb dL_law_281 (by decide) ?_
  exact hnext _ _ _ _ _ _ _ _ _ _ _ _ hR2 ho9 (by omega) (by omega) (by rw [cw_mw]; exact hP) hS (lv_sub hl [2, 3, 4, 5, 6, 7] rfl)

set_option maxHeartbeats 8000000 in
set_option maxRecDepth 100000 in
theorem law_c3 {p : Program} {e : Env} {s : State} {m : MethodId} {below : List Frame} {meth : Method} {c : Code} (l : Launch) (hst : l.stackTraces = false) {b N : Nat} {xs : Nat → Int32} (hN : N ≤ 2560) (C0 : lw_At p s m meth c b N xs) (g : gE) (L : Nat → Nat) (hJ : wj 125 L (fun q : Nat => s.heap.size ≤ q)) (hK : va_K g.1 vwCl (tysC g) s) (hE : EE SS (fun q : Nat => s.heap.size ≤ q) s) {t : Nat} (ht : 5 * t + 5 ≤ N) {x y : St} {ch : Int64} {nb nn hr : Nat} {ro : Nat → va_E} (hR : R2 x y ch nb nn hr t) (ho : outOK g ro) {cl sl : Nat} (hcl : cl + 100 ≤ 603072) (hsl : sl + 1000 ≤ 7215210) {H : Heap} {locs : List Loc} (hP : va_P g.1 vwCl (wl 125 L (cw g L x (mw g L y ch ro))) H) (hS : va_S (fun q : Nat => s.heap.size ≤ q) s.heap H locs) {ls : Array Slot} (hl : lv_has ls 9 [(0, .ref b), (1, .ref (L 0)), (2, .ref (L 106)), (3, .ref (L 123)), (4, .ref (L 124)), (5, .int (nI (5 * t)))]) (hnext : ∀ (x2 y2 : St) (ch2 : Int64) (nb2 nn2 hr2 : Nat) (ro2 : Nat → va_E) (cl2 sl2 : Nat) (H : Heap) (locs : List Loc) (ls : Array Slot), R2 x2 y2 ch2 nb2 nn2 hr2 (t + 1) → outOK g ro2 → cl2 ≤ cl + 8 → sl2 ≤ sl + 48 → va_P g.1 vwCl (wl 125 L (cw g L x2 (mw g L y2 ch2 ro2))) H → va_S (fun q : Nat => s.heap.size ≤ q) s.heap H locs → lv_has ls 9 [(0, .ref b), (1, .ref (L 0)), (2, .ref (L 106)), (3, .ref (L 123)), (4, .ref (L 124)), (5, .int (nI (5 * t)))] → W p l e room_1 s m #[Value.ref b] below meth c H locs cl2 sl2 (lw_Z below #[Value.ref b] s) (F0 m 1264 ls [])) : W p l e room_1 s m #[Value.ref b] below meth c H locs cl sl (lw_Z below #[Value.ref b] s) (F0 m 284 ls []) := by
  obtain ⟨hx, hb, hr9, hml, hown, hts0, hX, hbl, hlocks, hgv⟩ := id C0
  have hown : s.vm.findClass RL = some m.cls := hown
  have hts : ∀ w ∈ wsL_law, w.before #[Value.ref b] s = true := fun w h => hts0 w (wsL_law_in w h)
  have hbA : ¬ (fun q : Nat => s.heap.size ≤ q) b := Nat.not_le.mpr hbl
  have hn : 125 ≤ 125 := Nat.le_refl _
  have hG := hR.gi
  have hnb := hG.nb6
  have hx0 := hG.x0
  have hnn := hG.nn40
  have hx1 := hG.x1
  have hsh := hG.sh
  have hrk := hG.rk
  have hbz := hR.b14
  obtain ⟨cnt, hcn, hx4⟩ := hR.cnt
  obtain ⟨⟨f, ho1⟩, ⟨fd, ho2⟩⟩ := id ho
  have htc : ∀ b, b < 6 → (fun b => (x 19 b 0).toNatClampNeg) b ≤ 1920 := fun b hb => hG.tc hb
  have hx19 : ∀ b, b < 6 → x 19 b 0 = nI ((fun b => (x 19 b 0).toNatClampNeg) b) := fun b hb => hG.x19 hb
  generalize (fun b => (x 19 b 0).toNatClampNeg) = tcs at htc hx19
  have hhr := hR.hr
  have hyh := hR.y1
  obtain ⟨a1, ea1⟩ : ∃ a, a = xs (nI (5 * t) + 1).toNatClampNeg := ⟨_, rfl⟩
  obtain ⟨a2, ea2⟩ : ∃ a, a = xs (nI (5 * t) + 2).toNatClampNeg := ⟨_, rfl⟩
  obtain ⟨a3, ea3⟩ : ∃ a, a = xs (nI (5 * t) + 3).toNatClampNeg := ⟨_, rfl⟩
  obtain ⟨a4, ea4⟩ : ∃ a, a = xs (nI (5 * t) + 4).toNatClampNeg := ⟨_, rfl⟩
  have ht9 : t < 512 := by omega
  refine lv_aload_n hx hb dL_law_284 rfl (lv_at hl 1 rfl) ?_
  refine lv_aload_n hx hb dL_law_285 rfl (lv_at hl 0 rfl) ?_
  refine lv_iload hx hb dL_law_286 (lv_at hl 5 rfl) ?_
  refine lv_iconst (v := 1) hx hb dL_law_288 (by decide) ?_
  refine lv_iadd hx hb dL_law_289 ?_
  refine va_sld hx hb hX hbl hbA hS (i := (nI (5 * t)) + 1) (by rw [show nI (5 * t) + 1 = nI (5 * t + 1) from nI_add _ 1]; exact vp_in_nI (by omega) (by omega)) dL_law_290 ?_
  rw [← ea1]
  refine lv_aload_n hx hb dL_law_291 rfl (lv_at hl 0 rfl) ?_
  refine lv_iload hx hb dL_law_292 (lv_at hl 5 rfl) ?_
  refine lv_iconst (v := 2) hx hb dL_law_294 (by decide) ?_
  refine lv_iadd hx hb dL_law_295 ?_
  refine va_sld hx hb hX hbl hbA hS (i := (nI (5 * t)) + 2) (by rw [show nI (5 * t) + 2 = nI (5 * t + 2) from nI_add _ 2]; exact vp_in_nI (by omega) (by omega)) dL_law_296 ?_
  rw [← ea2]
  refine lv_aload_n hx hb dL_law_297 rfl (lv_at hl 0 rfl) ?_
  refine lv_iload hx hb dL_law_298 (lv_at hl 5 rfl) ?_
  refine lv_iconst (v := 3) hx hb dL_law_300 (by decide) ?_
  refine lv_iadd hx hb dL_law_301 ?_
  refine va_sld hx hb hX hbl hbA hS (i := (nI (5 * t)) + 3) (by rw [show nI (5 * t) + 3 = nI (5 * t + 3) from nI_add _ 3]; exact vp_in_nI (by omega) (by omega)) dL_law_302 ?_
  rw [← ea3]
  refine lv_aload_n hx hb dL_law_303 rfl (lv_at hl 3 rfl) ?_
  refine wx_calli (vx_runSW (As := [.ref (L 0), .int a1, .int a2, .int a3, .ref (L 123)]) (rest := []) ⟨hx, hb, hml, hown, hts⟩ (kl_cell l hst g s.heap.size 125 L (by omega) x (mw g L y ch ro) nb hnb hx0 a1 a2 a3 f ((mw_ge (by decide)).trans ho1)) (vx_cwSW 5 hts gL_law_L_cell rfl rfl rfl (by decide +kernel) ⟨Nat.le_of_ble_eq_true rfl, Nat.le_of_ble_eq_true rfl⟩) (PW.preS3 (Nat.le_refl _) hJ hK hE hP hS) rfl rfl hl.1 rfl (lv_room (Nat.le_of_ble_eq_true rfl)) dL_law_304 ⟨(by show _ ≤ 603072; omega), (by show _ ≤ 7215210; omega)⟩) hS (fun r304 u304 H locs h304 hP hS => ?_)
  obtain ⟨ro2, e9, hc⟩ := c_cell (nb := nb) (nn := nn) h304
  rw [e9, cw_mw] at hP
  refine lv_istore (lv' := [(6, .int r304), (0, .ref b), (1, .ref (L 0)), (2, .ref (L 106)), (3, .ref (L 123)), (4, .ref (L 124)), (5, .int (nI (5 * t)))]) hx hb dL_law_307 hl (by decide) rfl (fun ls hl => ?_)
  refine lv_aload_n hx hb dL_law_309 rfl (lv_at hl 3 rfl) ?_
  refine lv_aload_n hx hb dL_law_310 rfl (lv_at hl 1 rfl) ?_
  refine lv_iload hx hb dL_law_311 (lv_at hl 6 rfl) ?_
  refine lv_iconst (v := 1) hx hb dL_law_313 (by decide) ?_
  refine lv_iadd hx hb dL_law_314 ?_
  refine va_sld hx hb hX hbl hbA hS (i := (nI (5 * t)) + 1) (by rw [show nI (5 * t) + 1 = nI (5 * t + 1) from nI_add _ 1]; exact vp_in_nI (by omega) (by omega)) dL_law_315 ?_
  rw [← ea1]
  refine lv_aload_n hx hb dL_law_316 rfl (lv_at hl 1 rfl) ?_
  refine lv_iload hx hb dL_law_317 (lv_at hl 6 rfl) ?_
  refine lv_iconst (v := 2) hx hb dL_law_319 (by decide) ?_
  refine lv_iadd hx hb dL_law_320 ?_
  refine va_sld hx hb hX hbl hbA hS (i := (nI (5 * t)) + 2) (by rw [show nI (5 * t) + 2 = nI (5 * t + 2) from nI_add _ 2]; exact vp_in_nI (by omega) (by omega)) dL_law_321 ?_
  rw [← ea2]
  refine lv_aload_n hx hb dL_law_322 rfl (lv_at hl 1 rfl) ?_
  refine lv_iload hx hb dL_law_323 (lv_at hl 6 rfl) ?_
  refine lv_iconst (v := 3) hx hb dL_law_325 (by decide) ?_
  refine lv_iadd hx hb dL_law_326 ?_
  refine va_sld hx hb hX hbl hbA hS (i := (nI (5 * t)) + 3) (by rw [show nI (5 * t) + 3 = nI (5 * t + 3) from nI_add _ 3]; exact vp_in_nI (by omega) (by omega)) dL_law_327 ?_
  rw [← ea3]
  refine wx_calli (va_runV (As := [.int a1, .int a2, .int a3]) (rest := []) ⟨hx, hb, hml, hown, hts⟩ (m_cell l hst g s.heap.size 125 L (by omega) y ch (cw g L u304.1 ro2) nb nn hR.mi a1 a2 a3) (cwV 3 hts gL_law_X4_cell rfl rfl rfl (by decide +kernel) ⟨Nat.le_of_ble_eq_true rfl, Nat.le_of_ble_eq_true rfl⟩) (PW.preV3 (Nat.le_refl _) hJ hK hE hP hS (ci := 6) rfl (by omega) mw_o) rfl rfl hl.1 rfl (lv_room (Nat.le_of_ble_eq_true rfl)) dL_law_328 ⟨(by show _ ≤ 603072; omega), (by show _ ≤ 7215210; omega)⟩) hS (fun r328 u328 H locs h328 hP hS => ?_)
  obtain ⟨⟨nb2, nn2, hr2, hR2⟩, ho9⟩ := s_cell (f := f) (r2 := r328) ht9 hR ho hc h328
  refine lv_istore (lv' := [(7, .int r328), (6, .int r304), (0, .ref b), (1, .ref (L 0)), (2, .ref (L 106)), (3, .ref (L 123)), (4, .ref (L 124)), (5, .int (nI (5 * t)))]) hx hb dL_law_331 hl (by decide) rfl (fun ls hl => ?_)
  refine lv_goto (tgt := 1264) hx hb dL_law_333 (by decide) ?_
  exact hnext _ _ _ _ _ _ _ _ _ _ _ _ hR2 ho9 (by omega) (by omega) (by rw [cw_mw]; exact hP) hS (lv_sub hl [2, 3, 4, 5, 6, 7] rfl)

set_option maxHeartbeats 8000000 in
set_option maxRecDepth 100000 in
theorem law_c4 {p : Program} {e : Env} {s : State} {m : MethodId} {below : List Frame} {meth : Method} {c : Code} (l : Launch) (hst : l.stackTraces = false) {b N : Nat} {xs : Nat → Int32} (hN : N ≤ 2560) (C0 : lw_At p s m meth c b N xs) (g : gE) (L : Nat → Nat) (hJ : wj 125 L (fun q : Nat => s.heap.size ≤ q)) (hK : va_K g.1 vwCl (tysC g) s) (hE : EE SS (fun q : Nat => s.heap.size ≤ q) s) {t : Nat} (ht : 5 * t + 5 ≤ N) {x y : St} {ch : Int64} {nb nn hr : Nat} {ro : Nat → va_E} (hR : R2 x y ch nb nn hr t) (ho : outOK g ro) {cl sl : Nat} (hcl : cl + 100 ≤ 603072) (hsl : sl + 1000 ≤ 7215210) {H : Heap} {locs : List Loc} (hP : va_P g.1 vwCl (wl 125 L (cw g L x (mw g L y ch ro))) H) (hS : va_S (fun q : Nat => s.heap.size ≤ q) s.heap H locs) {ls : Array Slot} (hl : lv_has ls 9 [(0, .ref b), (1, .ref (L 0)), (2, .ref (L 106)), (3, .ref (L 123)), (4, .ref (L 124)), (5, .int (nI (5 * t)))]) (hnext : ∀ (x2 y2 : St) (ch2 : Int64) (nb2 nn2 hr2 : Nat) (ro2 : Nat → va_E) (cl2 sl2 : Nat) (H : Heap) (locs : List Loc) (ls : Array Slot), R2 x2 y2 ch2 nb2 nn2 hr2 (t + 1) → outOK g ro2 → cl2 ≤ cl + 8 → sl2 ≤ sl + 48 → va_P g.1 vwCl (wl 125 L (cw g L x2 (mw g L y2 ch2 ro2))) H → va_S (fun q : Nat => s.heap.size ≤ q) s.heap H locs → lv_has ls 9 [(0, .ref b), (1, .ref (L 0)), (2, .ref (L 106)), (3, .ref (L 123)), (4, .ref (L 124)), (5, .int (nI (5 * t)))] → W p l e room_1 s m #[Value.ref b] below meth c H locs cl2 sl2 (lw_Z below #[Value.ref b] s) (F0 m 1264 ls [])) : W p l e room_1 s m #[Value.ref b] below meth c H locs cl sl (lw_Z below #[Value.ref b] s) (F0 m 336 ls []) := by
  obtain ⟨hx, hb, hr9, hml, hown, hts0, hX, hbl, hlocks, hgv⟩ := id C0
  have hown : s.vm.findClass RL = some m.cls := hown
  have hts : ∀ w ∈ wsL_law, w.before #[Value.ref b] s = true := fun w h => hts0 w (wsL_law_in w h)
  have hbA : ¬ (fun q : Nat => s.heap.size ≤ q) b := Nat.not_le.mpr hbl
  have hn : 125 ≤ 125 := Nat.le_refl _
  have hG := hR.gi
  have hnb := hG.nb6
  have hx0 := hG.x0
  have hnn := hG.nn40
  have hx1 := hG.x1
  have hsh := hG.sh
  have hrk := hG.rk
  have hbz := hR.b14
  obtain ⟨cnt, hcn, hx4⟩ := hR.cnt
  obtain ⟨⟨f, ho1⟩, ⟨fd, ho2⟩⟩ := id ho
  have htc : ∀ b, b < 6 → (fun b => (x 19 b 0).toNatClampNeg) b ≤ 1920 := fun b hb => hG.tc hb
  have hx19 : ∀ b, b < 6 → x 19 b 0 = nI ((fun b => (x 19 b 0).toNatClampNeg) b) := fun b hb => hG.x19 hb
  generalize (fun b => (x 19 b 0).toNatClampNeg) = tcs at htc hx19
  have hhr := hR.hr
  have hyh := hR.y1
  obtain ⟨a1, ea1⟩ : ∃ a, a = xs (nI (5 * t) + 1).toNatClampNeg := ⟨_, rfl⟩
  obtain ⟨a2, ea2⟩ : ∃ a, a = xs (nI (5 * t) + 2).toNatClampNeg := ⟨_, rfl⟩
  obtain ⟨a3, ea3⟩ : ∃ a, a = xs (nI (5 * t) + 3).toNatClampNeg := ⟨_, rfl⟩
  obtain ⟨a4, ea4⟩ : ∃ a, a = xs (nI (5 * t) + 4).toNatClampNeg := ⟨_, rfl⟩
  have ht9 : t < 512 := by omega
  refine lv_aload_n hx hb dL_law_336 rfl (lv_at hl 1 rfl) ?_
  refine lv_aload_n hx hb dL_law_337 rfl (lv_at hl 0 rfl) ?_
  refine lv_iload hx hb dL_law_338 (lv_at hl 5 rfl) ?_
  refine lv_iconst (v := 1) hx hb dL_law_340 (by decide) ?_
  refine lv_iadd hx hb dL_law_341 ?_
  refine va_sld hx hb hX hbl hbA hS (i := (nI (5 * t)) + 1) (by rw [show nI (5 * t) + 1 = nI (5 * t + 1) from nI_add _ 1]; exact vp_in_nI (by omega) (by omega)) dL_law_342 ?_
  rw [← ea1]
  refine lv_aload_n hx hb dL_law_343 rfl (lv_at hl 0 rfl) ?_
  refine lv_iload hx hb dL_law_344 (lv_at hl 5 rfl) ?_
  refine lv_iconst (v := 2) hx hb dL_law_346 (by decide) ?_
  refine lv_iadd hx hb dL_law_347 ?_
  refine va_sld hx hb hX hbl hbA hS (i := (nI (5 * t)) + 2) (by rw [show nI (5 * t) + 2 = nI (5 * t + 2) from nI_add _ 2]; exact vp_in_nI (by omega) (by omega)) dL_law_348 ?_
  rw [← ea2]
  refine lv_aload_n hx hb dL_law_349 rfl (lv_at hl 0 rfl) ?_
  refine lv_iload hx hb dL_law_350 (lv_at hl 5 rfl) ?_
  refine lv_iconst (v := 3) hx hb dL_law_352 (by decide) ?_
  refine lv_iadd hx hb dL_law_353 ?_
  refine va_sld hx hb hX hbl hbA hS (i := (nI (5 * t)) + 3) (by rw [show nI (5 * t) + 3 = nI (5 * t + 3) from nI_add _ 3]; exact vp_in_nI (by omega) (by omega)) dL_law_354 ?_
  rw [← ea3]
  refine lv_aload_n hx hb dL_law_355 rfl (lv_at hl 3 rfl) ?_
  refine wx_calli (vx_runSW (As := [.ref (L 0), .int a1, .int a2, .int a3, .ref (L 123)]) (rest := []) ⟨hx, hb, hml, hown, hts⟩ (kl_wear l hst g s.heap.size 125 L (by omega) x (mw g L y ch ro) nb hnb hx0 a1 a2 a3 f ((mw_ge (by decide)).trans ho1)) (vx_cwSW 5 hts gL_law_L_wear rfl rfl rfl (by decide +kernel) ⟨Nat.le_of_ble_eq_true rfl, Nat.le_of_ble_eq_true rfl⟩) (PW.preS3 (Nat.le_refl _) hJ hK hE hP hS) rfl rfl hl.1 rfl (lv_room (Nat.le_of_ble_eq_true rfl)) dL_law_356 ⟨(by show _ ≤ 603072; omega), (by show _ ≤ 7215210; omega)⟩) hS (fun r356 u356 H locs h356 hP hS => ?_)
  obtain ⟨ro2, e9, hc⟩ := c_wear (nb := nb) (nn := nn) h356
  rw [e9, cw_mw] at hP
  refine lv_istore (lv' := [(6, .int r356), (0, .ref b), (1, .ref (L 0)), (2, .ref (L 106)), (3, .ref (L 123)), (4, .ref (L 124)), (5, .int (nI (5 * t)))]) hx hb dL_law_359 hl (by decide) rfl (fun ls hl => ?_)
  refine lv_aload_n hx hb dL_law_361 rfl (lv_at hl 3 rfl) ?_
  refine lv_aload_n hx hb dL_law_362 rfl (lv_at hl 1 rfl) ?_
  refine lv_iload hx hb dL_law_363 (lv_at hl 6 rfl) ?_
  refine lv_iconst (v := 1) hx hb dL_law_365 (by decide) ?_
  refine lv_iadd hx hb dL_law_366 ?_
  refine va_sld hx hb hX hbl hbA hS (i := (nI (5 * t)) + 1) (by rw [show nI (5 * t) + 1 = nI (5 * t + 1) from nI_add _ 1]; exact vp_in_nI (by omega) (by omega)) dL_law_367 ?_
  rw [← ea1]
  refine lv_aload_n hx hb dL_law_368 rfl (lv_at hl 1 rfl) ?_
  refine lv_iload hx hb dL_law_369 (lv_at hl 6 rfl) ?_
  refine lv_iconst (v := 2) hx hb dL_law_371 (by decide) ?_
  refine lv_iadd hx hb dL_law_372 ?_
  refine va_sld hx hb hX hbl hbA hS (i := (nI (5 * t)) + 2) (by rw [show nI (5 * t) + 2 = nI (5 * t + 2) from nI_add _ 2]; exact vp_in_nI (by omega) (by omega)) dL_law_373 ?_
  rw [← ea2]
  refine lv_aload_n hx hb dL_law_374 rfl (lv_at hl 1 rfl) ?_
  refine lv_iload hx hb dL_law_375 (lv_at hl 6 rfl) ?_
  refine lv_iconst (v := 3) hx hb dL_law_377 (by decide) ?_
  refine lv_iadd hx hb dL_law_378 ?_
  refine va_sld hx hb hX hbl hbA hS (i := (nI (5 * t)) + 3) (by rw [show nI (5 * t) + 3 = nI (5 * t + 3) from nI_add _ 3]; exact vp_in_nI (by omega) (by omega)) dL_law_379 ?_
  rw [← ea3]
  refine wx_calli (va_runV (As := [.int a1, .int a2, .int a3]) (rest := []) ⟨hx, hb, hml, hown, hts⟩ (m_wear l hst g s.heap.size 125 L (by omega) y ch (cw g L u356.1 ro2) nb nn hR.mi a1 a2 a3) (cwV 3 hts gL_law_X4_wear rfl rfl rfl (by decide +kernel) ⟨Nat.le_of_ble_eq_true rfl, Nat.le_of_ble_eq_true rfl⟩) (PW.preV3 (Nat.le_refl _) hJ hK hE hP hS (ci := 6) rfl (by omega) mw_o) rfl rfl hl.1 rfl (lv_room (Nat.le_of_ble_eq_true rfl)) dL_law_380 ⟨(by show _ ≤ 603072; omega), (by show _ ≤ 7215210; omega)⟩) hS (fun r380 u380 H locs h380 hP hS => ?_)
  obtain ⟨⟨nb2, nn2, hr2, hR2⟩, ho9⟩ := s_wear (f := f) (r2 := r380) ht9 hR ho hc h380
  refine lv_istore (lv' := [(7, .int r380), (6, .int r356), (0, .ref b), (1, .ref (L 0)), (2, .ref (L 106)), (3, .ref (L 123)), (4, .ref (L 124)), (5, .int (nI (5 * t)))]) hx hb dL_law_383 hl (by decide) rfl (fun ls hl => ?_)
  refine lv_goto (tgt := 1264) hx hb dL_law_385 (by decide) ?_
  exact hnext _ _ _ _ _ _ _ _ _ _ _ _ hR2 ho9 (by omega) (by omega) (by rw [cw_mw]; exact hP) hS (lv_sub hl [2, 3, 4, 5, 6, 7] rfl)

set_option maxHeartbeats 8000000 in
set_option maxRecDepth 100000 in
theorem law_c5 {p : Program} {e : Env} {s : State} {m : MethodId} {below : List Frame} {meth : Method} {c : Code} (l : Launch) (hst : l.stackTraces = false) {b N : Nat} {xs : Nat → Int32} (hN : N ≤ 2560) (C0 : lw_At p s m meth c b N xs) (g : gE) (L : Nat → Nat) (hJ : wj 125 L (fun q : Nat => s.heap.size ≤ q)) (hK : va_K g.1 vwCl (tysC g) s) (hE : EE SS (fun q : Nat => s.heap.size ≤ q) s) {t : Nat} (ht : 5 * t + 5 ≤ N) {x y : St} {ch : Int64} {nb nn hr : Nat} {ro : Nat → va_E} (hR : R2 x y ch nb nn hr t) (ho : outOK g ro) {cl sl : Nat} (hcl : cl + 100 ≤ 603072) (hsl : sl + 1000 ≤ 7215210) {H : Heap} {locs : List Loc} (hP : va_P g.1 vwCl (wl 125 L (cw g L x (mw g L y ch ro))) H) (hS : va_S (fun q : Nat => s.heap.size ≤ q) s.heap H locs) {ls : Array Slot} (hl : lv_has ls 9 [(0, .ref b), (1, .ref (L 0)), (2, .ref (L 106)), (3, .ref (L 123)), (4, .ref (L 124)), (5, .int (nI (5 * t)))]) (hnext : ∀ (x2 y2 : St) (ch2 : Int64) (nb2 nn2 hr2 : Nat) (ro2 : Nat → va_E) (cl2 sl2 : Nat) (H : Heap) (locs : List Loc) (ls : Array Slot), R2 x2 y2 ch2 nb2 nn2 hr2 (t + 1) → outOK g ro2 → cl2 ≤ cl + 8 → sl2 ≤ sl + 48 → va_P g.1 vwCl (wl 125 L (cw g L x2 (mw g L y2 ch2 ro2))) H → va_S (fun q : Nat => s.heap.size ≤ q) s.heap H locs → lv_has ls 9 [(0, .ref b), (1, .ref (L 0)), (2, .ref (L 106)), (3, .ref (L 123)), (4, .ref (L 124)), (5, .int (nI (5 * t)))] → W p l e room_1 s m #[Value.ref b] below meth c H locs cl2 sl2 (lw_Z below #[Value.ref b] s) (F0 m 1264 ls [])) : W p l e room_1 s m #[Value.ref b] below meth c H locs cl sl (lw_Z below #[Value.ref b] s) (F0 m 388 ls []) := by
  obtain ⟨hx, hb, hr9, hml, hown, hts0, hX, hbl, hlocks, hgv⟩ := id C0
  have hown : s.vm.findClass RL = some m.cls := hown
  have hts : ∀ w ∈ wsL_law, w.before #[Value.ref b] s = true := fun w h => hts0 w (wsL_law_in w h)
  have hbA : ¬ (fun q : Nat => s.heap.size ≤ q) b := Nat.not_le.mpr hbl
  have hn : 125 ≤ 125 := Nat.le_refl _
  have hG := hR.gi
  have hnb := hG.nb6
  have hx0 := hG.x0
  have hnn := hG.nn40
  have hx1 := hG.x1
  have hsh := hG.sh
  have hrk := hG.rk
  have hbz := hR.b14
  obtain ⟨cnt, hcn, hx4⟩ := hR.cnt
  obtain ⟨⟨f, ho1⟩, ⟨fd, ho2⟩⟩ := id ho
  have htc : ∀ b, b < 6 → (fun b => (x 19 b 0).toNatClampNeg) b ≤ 1920 := fun b hb => hG.tc hb
  have hx19 : ∀ b, b < 6 → x 19 b 0 = nI ((fun b => (x 19 b 0).toNatClampNeg) b) := fun b hb => hG.x19 hb
  generalize (fun b => (x 19 b 0).toNatClampNeg) = tcs at htc hx19
  have hhr := hR.hr
  have hyh := hR.y1
  obtain ⟨a1, ea1⟩ : ∃ a, a = xs (nI (5 * t) + 1).toNatClampNeg := ⟨_, rfl⟩
  obtain ⟨a2, ea2⟩ : ∃ a, a = xs (nI (5 * t) + 2).toNatClampNeg := ⟨_, rfl⟩
  obtain ⟨a3, ea3⟩ : ∃ a, a = xs (nI (5 * t) + 3).toNatClampNeg := ⟨_, rfl⟩
  obtain ⟨a4, ea4⟩ : ∃ a, a = xs (nI (5 * t) + 4).toNatClampNeg := ⟨_, rfl⟩
  have ht9 : t < 512 := by omega
  refine lv_aload_n hx hb dL_law_388 rfl (lv_at hl 1 rfl) ?_
  refine lv_aload_n hx hb dL_law_389 rfl (lv_at hl 0 rfl) ?_
  refine lv_iload hx hb dL_law_390 (lv_at hl 5 rfl) ?_
  refine lv_iconst (v := 1) hx hb dL_law_392 (by decide) ?_
  refine lv_iadd hx hb dL_law_393 ?_
  refine va_sld hx hb hX hbl hbA hS (i := (nI (5 * t)) + 1) (by rw [show nI (5 * t) + 1 = nI (5 * t + 1) from nI_add _ 1]; exact vp_in_nI (by omega) (by omega)) dL_law_394 ?_
  rw [← ea1]
  refine lv_aload_n hx hb dL_law_395 rfl (lv_at hl 3 rfl) ?_
  refine wx_calli (vx_runSW (As := [.ref (L 0), .int a1, .ref (L 123)]) (rest := []) ⟨hx, hb, hml, hown, hts⟩ (kl_shows l hst g s.heap.size 125 L (by omega) x (mw g L y ch ro) nb hnb hx0 hsh a1 f ((mw_ge (by decide)).trans ho1)) (vx_cwSW 3 hts gL_law_L_shows rfl rfl rfl (by decide +kernel) ⟨Nat.le_of_ble_eq_true rfl, Nat.le_of_ble_eq_true rfl⟩) (PW.preS3 (Nat.le_refl _) hJ hK hE hP hS) rfl rfl hl.1 rfl (lv_room (Nat.le_of_ble_eq_true rfl)) dL_law_396 ⟨(by show _ ≤ 603072; omega), (by show _ ≤ 7215210; omega)⟩) hS (fun r396 u396 H locs h396 hP hS => ?_)
  obtain ⟨ro2, e9, hc⟩ := c_shows (nb := nb) (nn := nn) h396
  rw [e9, cw_mw] at hP
  refine lv_istore (lv' := [(6, .int r396), (0, .ref b), (1, .ref (L 0)), (2, .ref (L 106)), (3, .ref (L 123)), (4, .ref (L 124)), (5, .int (nI (5 * t)))]) hx hb dL_law_399 hl (by decide) rfl (fun ls hl => ?_)
  refine lv_aload_n hx hb dL_law_401 rfl (lv_at hl 3 rfl) ?_
  refine lv_aload_n hx hb dL_law_402 rfl (lv_at hl 1 rfl) ?_
  refine lv_iload hx hb dL_law_403 (lv_at hl 6 rfl) ?_
  refine lv_iconst (v := 1) hx hb dL_law_405 (by decide) ?_
  refine lv_iadd hx hb dL_law_406 ?_
  refine va_sld hx hb hX hbl hbA hS (i := (nI (5 * t)) + 1) (by rw [show nI (5 * t) + 1 = nI (5 * t + 1) from nI_add _ 1]; exact vp_in_nI (by omega) (by omega)) dL_law_407 ?_
  rw [← ea1]
  refine wx_calli (va_runV (As := [.int a1]) (rest := []) ⟨hx, hb, hml, hown, hts⟩ (m_shows l hst g s.heap.size 125 L (by omega) y ch (cw g L u396.1 ro2) nb nn hR.mi a1) (cwV 1 hts gL_law_X4_shows rfl rfl rfl (by decide +kernel) ⟨Nat.le_of_ble_eq_true rfl, Nat.le_of_ble_eq_true rfl⟩) (PW.preV3 (Nat.le_refl _) hJ hK hE hP hS (ci := 6) rfl (by omega) mw_o) rfl rfl hl.1 rfl (lv_room (Nat.le_of_ble_eq_true rfl)) dL_law_408 ⟨(by show _ ≤ 603072; omega), (by show _ ≤ 7215210; omega)⟩) hS (fun r408 u408 H locs h408 hP hS => ?_)
  obtain ⟨⟨nb2, nn2, hr2, hR2⟩, ho9⟩ := s_shows (f := f) (r2 := r408) ht9 hR ho hc h408
  refine lv_istore (lv' := [(7, .int r408), (6, .int r396), (0, .ref b), (1, .ref (L 0)), (2, .ref (L 106)), (3, .ref (L 123)), (4, .ref (L 124)), (5, .int (nI (5 * t)))]) hx hb dL_law_411 hl (by decide) rfl (fun ls hl => ?_)
  refine lv_goto (tgt := 1264) hx hb dL_law_413 (by decide) ?_
  exact hnext _ _ _ _ _ _ _ _ _ _ _ _ hR2 ho9 (by omega) (by omega) (by rw [cw_mw]; exact hP) hS (lv_sub hl [2, 3, 4, 5, 6, 7] rfl)

set_option maxHeartbeats 8000000 in
set_option maxRecDepth 100000 in
theorem law_c6 {p : Program} {e : Env} {s : State} {m : MethodId} {below : List Frame} {meth : Method} {c : Code} (l : Launch) (hst : l.stackTraces = false) {b N : Nat} {xs : Nat → Int32} (hN : N ≤ 2560) (C0 : lw_At p s m meth c b N xs) (g : gE) (L : Nat → Nat) (hJ : wj 125 L (fun q : Nat => s.heap.size ≤ q)) (hK : va_K g.1 vwCl (tysC g) s) (hE : EE SS (fun q : Nat => s.heap.size ≤ q) s) {t : Nat} (ht : 5 * t + 5 ≤ N) {x y : St} {ch : Int64} {nb nn hr : Nat} {ro : Nat → va_E} (hR : R2 x y ch nb nn hr t) (ho : outOK g ro) {cl sl : Nat} (hcl : cl + 100 ≤ 603072) (hsl : sl + 1000 ≤ 7215210) {H : Heap} {locs : List Loc} (hP : va_P g.1 vwCl (wl 125 L (cw g L x (mw g L y ch ro))) H) (hS : va_S (fun q : Nat => s.heap.size ≤ q) s.heap H locs) {ls : Array Slot} (hl : lv_has ls 9 [(0, .ref b), (1, .ref (L 0)), (2, .ref (L 106)), (3, .ref (L 123)), (4, .ref (L 124)), (5, .int (nI (5 * t)))]) (hnext : ∀ (x2 y2 : St) (ch2 : Int64) (nb2 nn2 hr2 : Nat) (ro2 : Nat → va_E) (cl2 sl2 : Nat) (H : Heap) (locs : List Loc) (ls : Array Slot), R2 x2 y2 ch2 nb2 nn2 hr2 (t + 1) → outOK g ro2 → cl2 ≤ cl + 8 → sl2 ≤ sl + 48 → va_P g.1 vwCl (wl 125 L (cw g L x2 (mw g L y2 ch2 ro2))) H → va_S (fun q : Nat => s.heap.size ≤ q) s.heap H locs → lv_has ls 9 [(0, .ref b), (1, .ref (L 0)), (2, .ref (L 106)), (3, .ref (L 123)), (4, .ref (L 124)), (5, .int (nI (5 * t)))] → W p l e room_1 s m #[Value.ref b] below meth c H locs cl2 sl2 (lw_Z below #[Value.ref b] s) (F0 m 1264 ls [])) : W p l e room_1 s m #[Value.ref b] below meth c H locs cl sl (lw_Z below #[Value.ref b] s) (F0 m 416 ls []) := by
  obtain ⟨hx, hb, hr9, hml, hown, hts0, hX, hbl, hlocks, hgv⟩ := id C0
  have hown : s.vm.findClass RL = some m.cls := hown
  have hts : ∀ w ∈ wsL_law, w.before #[Value.ref b] s = true := fun w h => hts0 w (wsL_law_in w h)
  have hbA : ¬ (fun q : Nat => s.heap.size ≤ q) b := Nat.not_le.mpr hbl
  have hn : 125 ≤ 125 := Nat.le_refl _
  have hG := hR.gi
  have hnb := hG.nb6
  have hx0 := hG.x0
  have hnn := hG.nn40
  have hx1 := hG.x1
  have hsh := hG.sh
  have hrk := hG.rk
  have hbz := hR.b14
  obtain ⟨cnt, hcn, hx4⟩ := hR.cnt
  obtain ⟨⟨f, ho1⟩, ⟨fd, ho2⟩⟩ := id ho
  have htc : ∀ b, b < 6 → (fun b => (x 19 b 0).toNatClampNeg) b ≤ 1920 := fun b hb => hG.tc hb
  have hx19 : ∀ b, b < 6 → x 19 b 0 = nI ((fun b => (x 19 b 0).toNatClampNeg) b) := fun b hb => hG.x19 hb
  generalize (fun b => (x 19 b 0).toNatClampNeg) = tcs at htc hx19
  have hhr := hR.hr
  have hyh := hR.y1
  obtain ⟨a1, ea1⟩ : ∃ a, a = xs (nI (5 * t) + 1).toNatClampNeg := ⟨_, rfl⟩
  obtain ⟨a2, ea2⟩ : ∃ a, a = xs (nI (5 * t) + 2).toNatClampNeg := ⟨_, rfl⟩
  obtain ⟨a3, ea3⟩ : ∃ a, a = xs (nI (5 * t) + 3).toNatClampNeg := ⟨_, rfl⟩
  obtain ⟨a4, ea4⟩ : ∃ a, a = xs (nI (5 * t) + 4).toNatClampNeg := ⟨_, rfl⟩
  have ht9 : t < 512 := by omega
  refine lv_aload_n hx hb dL_law_416 rfl (lv_at hl 1 rfl) ?_
  refine lv_aload_n hx hb dL_law_417 rfl (lv_at hl 0 rfl) ?_
  refine lv_iload hx hb dL_law_418 (lv_at hl 5 rfl) ?_
  refine lv_iconst (v := 1) hx hb dL_law_420 (by decide) ?_
  refine lv_iadd hx hb dL_law_421 ?_
  refine va_sld hx hb hX hbl hbA hS (i := (nI (5 * t)) + 1) (by rw [show nI (5 * t) + 1 = nI (5 * t + 1) from nI_add _ 1]; exact vp_in_nI (by omega) (by omega)) dL_law_422 ?_
  rw [← ea1]
  refine lv_aload_n hx hb dL_law_423 rfl (lv_at hl 3 rfl) ?_
  refine wx_calli (vx_runSW (As := [.ref (L 0), .int a1, .ref (L 123)]) (rest := []) ⟨hx, hb, hml, hown, hts⟩ (kl_shift l hst g s.heap.size 125 L (by omega) x (mw g L y ch ro) nb hnb hx0 a1 f ((mw_ge (by decide)).trans ho1)) (vx_cwSW 3 hts gL_law_L_shift rfl rfl rfl (by decide +kernel) ⟨Nat.le_of_ble_eq_true rfl, Nat.le_of_ble_eq_true rfl⟩) (PW.preS3 (Nat.le_refl _) hJ hK hE hP hS) rfl rfl hl.1 rfl (lv_room (Nat.le_of_ble_eq_true rfl)) dL_law_424 ⟨(by show _ ≤ 603072; omega), (by show _ ≤ 7215210; omega)⟩) hS (fun r424 u424 H locs h424 hP hS => ?_)
  obtain ⟨ro2, e9, hc⟩ := c_shift (nb := nb) (nn := nn) h424
  rw [e9, cw_mw] at hP
  refine lv_istore (lv' := [(6, .int r424), (0, .ref b), (1, .ref (L 0)), (2, .ref (L 106)), (3, .ref (L 123)), (4, .ref (L 124)), (5, .int (nI (5 * t)))]) hx hb dL_law_427 hl (by decide) rfl (fun ls hl => ?_)
  refine lv_aload_n hx hb dL_law_429 rfl (lv_at hl 3 rfl) ?_
  refine lv_aload_n hx hb dL_law_430 rfl (lv_at hl 1 rfl) ?_
  refine lv_iload hx hb dL_law_431 (lv_at hl 6 rfl) ?_
  refine lv_iconst (v := 1) hx hb dL_law_433 (by decide) ?_
  refine lv_iadd hx hb dL_law_434 ?_
  refine va_sld hx hb hX hbl hbA hS (i := (nI (5 * t)) + 1) (by rw [show nI (5 * t) + 1 = nI (5 * t + 1) from nI_add _ 1]; exact vp_in_nI (by omega) (by omega)) dL_law_435 ?_
  rw [← ea1]
  refine wx_calli (va_runV (As := [.int a1]) (rest := []) ⟨hx, hb, hml, hown, hts⟩ (m_shift l hst g s.heap.size 125 L (by omega) y ch (cw g L u424.1 ro2) nb nn hR.mi a1) (cwV 1 hts gL_law_X4_shift rfl rfl rfl (by decide +kernel) ⟨Nat.le_of_ble_eq_true rfl, Nat.le_of_ble_eq_true rfl⟩) (PW.preV3 (Nat.le_refl _) hJ hK hE hP hS (ci := 6) rfl (by omega) mw_o) rfl rfl hl.1 rfl (lv_room (Nat.le_of_ble_eq_true rfl)) dL_law_436 ⟨(by show _ ≤ 603072; omega), (by show _ ≤ 7215210; omega)⟩) hS (fun r436 u436 H locs h436 hP hS => ?_)
  obtain ⟨⟨nb2, nn2, hr2, hR2⟩, ho9⟩ := s_shift (f := f) (r2 := r436) ht9 hR ho hc h436
  refine lv_istore (lv' := [(7, .int r436), (6, .int r424), (0, .ref b), (1, .ref (L 0)), (2, .ref (L 106)), (3, .ref (L 123)), (4, .ref (L 124)), (5, .int (nI (5 * t)))]) hx hb dL_law_439 hl (by decide) rfl (fun ls hl => ?_)
  refine lv_goto (tgt := 1264) hx hb dL_law_441 (by decide) ?_
  exact hnext _ _ _ _ _ _ _ _ _ _ _ _ hR2 ho9 (by omega) (by omega) (by rw [cw_mw]; exact hP) hS (lv_sub hl [2, 3, 4, 5, 6, 7] rfl)

set_option maxHeartbeats 8000000 in
set_option maxRecDepth 100000 in
theorem law_c7 {p : Program} {e : Env} {s : State} {m : MethodId} {below : List Frame} {meth : Method} {c : Code} (l : Launch) (hst : l.stackTraces = false) {b N : Nat} {xs : Nat → Int32} (hN : N ≤ 2560) (C0 : lw_At p s m meth c b N xs) (g : gE) (L : Nat → Nat) (hJ : wj 125 L (fun q : Nat => s.heap.size ≤ q)) (hK : va_K g.1 vwCl (tysC g) s) (hE : EE SS (fun q : Nat => s.heap.size ≤ q) s) {t : Nat} (ht : 5 * t + 5 ≤ N) {x y : St} {ch : Int64} {nb nn hr : Nat} {ro : Nat → va_E} (hR : R2 x y ch nb nn hr t) (ho : outOK g ro) {cl sl : Nat} (hcl : cl + 100 ≤ 603072) (hsl : sl + 1000 ≤ 7215210) {H : Heap} {locs : List Loc} (hP : va_P g.1 vwCl (wl 125 L (cw g L x (mw g L y ch ro))) H) (hS : va_S (fun q : Nat => s.heap.size ≤ q) s.heap H locs) {ls : Array Slot} (hl : lv_has ls 9 [(0, .ref b), (1, .ref (L 0)), (2, .ref (L 106)), (3, .ref (L 123)), (4, .ref (L 124)), (5, .int (nI (5 * t)))]) (hnext : ∀ (x2 y2 : St) (ch2 : Int64) (nb2 nn2 hr2 : Nat) (ro2 : Nat → va_E) (cl2 sl2 : Nat) (H : Heap) (locs : List Loc) (ls : Array Slot), R2 x2 y2 ch2 nb2 nn2 hr2 (t + 1) → outOK g ro2 → cl2 ≤ cl + 8 → sl2 ≤ sl + 48 → va_P g.1 vwCl (wl 125 L (cw g L x2 (mw g L y2 ch2 ro2))) H → va_S (fun q : Nat => s.heap.size ≤ q) s.heap H locs → lv_has ls 9 [(0, .ref b), (1, .ref (L 0)), (2, .ref (L 106)), (3, .ref (L 123)), (4, .ref (L 124)), (5, .int (nI (5 * t)))] → W p l e room_1 s m #[Value.ref b] below meth c H locs cl2 sl2 (lw_Z below #[Value.ref b] s) (F0 m 1264 ls [])) : W p l e room_1 s m #[Value.ref b] below meth c H locs cl sl (lw_Z below #[Value.ref b] s) (F0 m 444 ls []) := by
  obtain ⟨hx, hb, hr9, hml, hown, hts0, hX, hbl, hlocks, hgv⟩ := id C0
  have hown : s.vm.findClass RL = some m.cls := hown
  have hts : ∀ w ∈ wsL_law, w.before #[Value.ref b] s = true := fun w h => hts0 w (wsL_law_in w h)
  have hbA : ¬ (fun q : Nat => s.heap.size ≤ q) b := Nat.not_le.mpr hbl
  have hn : 125 ≤ 125 := Nat.le_refl _
  have hG := hR.gi
  have hnb := hG.nb6
  have hx0 := hG.x0
  have hnn := hG.nn40
  have hx1 := hG.x1
  have hsh := hG.sh
  have hrk := hG.rk
  have hbz := hR.b14
  obtain ⟨cnt, hcn, hx4⟩ := hR.cnt
  obtain ⟨⟨f, ho1⟩, ⟨fd, ho2⟩⟩ := id ho
  have htc : ∀ b, b < 6 → (fun b => (x 19 b 0).toNatClampNeg) b ≤ 1920 := fun b hb => hG.tc hb
  have hx19 : ∀ b, b < 6 → x 19 b 0 = nI ((fun b => (x 19 b 0).toNatClampNeg) b) := fun b hb => hG.x19 hb
  generalize (fun b => (x 19 b 0).toNatClampNeg) = tcs at htc hx19
  have hhr := hR.hr
  have hyh := hR.y1
  obtain ⟨a1, ea1⟩ : ∃ a, a = xs (nI (5 * t) + 1).toNatClampNeg := ⟨_, rfl⟩
  obtain ⟨a2, ea2⟩ : ∃ a, a = xs (nI (5 * t) + 2).toNatClampNeg := ⟨_, rfl⟩
  obtain ⟨a3, ea3⟩ : ∃ a, a = xs (nI (5 * t) + 3).toNatClampNeg := ⟨_, rfl⟩
  obtain ⟨a4, ea4⟩ : ∃ a, a = xs (nI (5 * t) + 4).toNatClampNeg := ⟨_, rfl⟩
  have ht9 : t < 512 := by omega
  refine lv_aload_n hx hb dL_law_444 rfl (lv_at hl 1 rfl) ?_
  refine lv_aload_n hx hb dL_law_445 rfl (lv_at hl 0 rfl) ?_
  refine lv_iload hx hb dL_law_446 (lv_at hl 5 rfl) ?_
  refine lv_iconst (v := 1) hx hb dL_law_448 (by decide) ?_
  refine lv_iadd hx hb dL_law_449 ?_
  refine va_sld hx hb hX hbl hbA hS (i := (nI (5 * t)) + 1) (by rw [show nI (5 * t) + 1 = nI (5 * t + 1) from nI_add _ 1]; exact vp_in_nI (by omega) (by omega)) dL_law_450 ?_
  rw [← ea1]
  refine lv_aload_n hx hb dL_law_451 rfl (lv_at hl 3 rfl) ?_
  refine wx_calli (vx_runSW (As := [.ref (L 0), .int a1, .ref (L 123)]) (rest := []) ⟨hx, hb, hml, hown, hts⟩ (kl_sleeps l hst g s.heap.size 125 L (by omega) x (mw g L y ch ro) nb hnb hx0 hbz a1 f ((mw_ge (by decide)).trans ho1)) (vx_cwSW 3 hts gL_law_L_sleeps rfl rfl rfl (by decide +kernel) ⟨Nat.le_of_ble_eq_true rfl, Nat.le_of_ble_eq_true rfl⟩) (PW.preS3 (Nat.le_refl _) hJ hK hE hP hS) rfl rfl hl.1 rfl (lv_room (Nat.le_of_ble_eq_true rfl)) dL_law_452 ⟨(by show _ ≤ 603072; omega), (by show _ ≤ 7215210; omega)⟩) hS (fun r452 u452 H locs h452 hP hS => ?_)
  obtain ⟨ro2, e9, hc⟩ := c_sleeps (nb := nb) (nn := nn) h452
  rw [e9, cw_mw] at hP
  refine lv_istore (lv' := [(6, .int r452), (0, .ref b), (1, .ref (L 0)), (2, .ref (L 106)), (3, .ref (L 123)), (4, .ref (L 124)), (5, .int (nI (5 * t)))]) hx hb dL_law_455 hl (by decide) rfl (fun ls hl => ?_)
  refine lv_aload_n hx hb dL_law_457 rfl (lv_at hl 3 rfl) ?_
  refine lv_aload_n hx hb dL_law_458 rfl (lv_at hl 1 rfl) ?_
  refine lv_iload hx hb dL_law_459 (lv_at hl 6 rfl) ?_
  refine lv_iconst (v := 1) hx hb dL_law_461 (by decide) ?_
  refine lv_iadd hx hb dL_law_462 ?_
  refine va_sld hx hb hX hbl hbA hS (i := (nI (5 * t)) + 1) (by rw [show nI (5 * t) + 1 = nI (5 * t + 1) from nI_add _ 1]; exact vp_in_nI (by omega) (by omega)) dL_law_463 ?_
  rw [← ea1]
  refine wx_calli (va_runV (As := [.int a1]) (rest := []) ⟨hx, hb, hml, hown, hts⟩ (m_sleeps l hst g s.heap.size 125 L (by omega) y ch (cw g L u452.1 ro2) nb nn hR.mi a1) (cwV 1 hts gL_law_X4_sleeps rfl rfl rfl (by decide +kernel) ⟨Nat.le_of_ble_eq_true rfl, Nat.le_of_ble_eq_true rfl⟩) (PW.preV3 (Nat.le_refl _) hJ hK hE hP hS (ci := 6) rfl (by omega) mw_o) rfl rfl hl.1 rfl (lv_room (Nat.le_of_ble_eq_true rfl)) dL_law_464 ⟨(by show _ ≤ 603072; omega), (by show _ ≤ 7215210; omega)⟩) hS (fun r464 u464 H locs h464 hP hS => ?_)
  obtain ⟨⟨nb2, nn2, hr2, hR2⟩, ho9⟩ := s_sleeps (f := f) (r2 := r464) ht9 hR ho hc h464
  refine lv_istore (lv' := [(7, .int r464), (6, .int r452), (0, .ref b), (1, .ref (L 0)), (2, .ref (L 106)), (3, .ref (L 123)), (4, .ref (L 124)), (5, .int (nI (5 * t)))]) hx hb dL_law_467 hl (by decide) rfl (fun ls hl => ?_)
  refine lv_goto (tgt := 1264) hx hb dL_law_469 (by decide) ?_
  exact hnext _ _ _ _ _ _ _ _ _ _ _ _ hR2 ho9 (by omega) (by omega) (by rw [cw_mw]; exact hP) hS (lv_sub hl [2, 3, 4, 5, 6, 7] rfl)

set_option maxHeartbeats 8000000 in
set_option maxRecDepth 100000 in
theorem law_c8 {p : Program} {e : Env} {s : State} {m : MethodId} {below : List Frame} {meth : Method} {c : Code} (l : Launch) (hst : l.stackTraces = false) {b N : Nat} {xs : Nat → Int32} (hN : N ≤ 2560) (C0 : lw_At p s m meth c b N xs) (g : gE) (L : Nat → Nat) (hJ : wj 125 L (fun q : Nat => s.heap.size ≤ q)) (hK : va_K g.1 vwCl (tysC g) s) (hE : EE SS (fun q : Nat => s.heap.size ≤ q) s) {t : Nat} (ht : 5 * t + 5 ≤ N) {x y : St} {ch : Int64} {nb nn hr : Nat} {ro : Nat → va_E} (hR : R2 x y ch nb nn hr t) (ho : outOK g ro) {cl sl : Nat} (hcl : cl + 100 ≤ 603072) (hsl : sl + 1000 ≤ 7215210) {H : Heap} {locs : List Loc} (hP : va_P g.1 vwCl (wl 125 L (cw g L x (mw g L y ch ro))) H) (hS : va_S (fun q : Nat => s.heap.size ≤ q) s.heap H locs) {ls : Array Slot} (hl : lv_has ls 9 [(0, .ref b), (1, .ref (L 0)), (2, .ref (L 106)), (3, .ref (L 123)), (4, .ref (L 124)), (5, .int (nI (5 * t)))]) (hnext : ∀ (x2 y2 : St) (ch2 : Int64) (nb2 nn2 hr2 : Nat) (ro2 : Nat → va_E) (cl2 sl2 : Nat) (H : Heap) (locs : List Loc) (ls : Array Slot), R2 x2 y2 ch2 nb2 nn2 hr2 (t + 1) → outOK g ro2 → cl2 ≤ cl + 8 → sl2 ≤ sl + 48 → va_P g.1 vwCl (wl 125 L (cw g L x2 (mw g L y2 ch2 ro2))) H → va_S (fun q : Nat => s.heap.size ≤ q) s.heap H locs → lv_has ls 9 [(0, .ref b), (1, .ref (L 0)), (2, .ref (L 106)), (3, .ref (L 123)), (4, .ref (L 124)), (5, .int (nI (5 * t)))] → W p l e room_1 s m #[Value.ref b] below meth c H locs cl2 sl2 (lw_Z below #[Value.ref b] s) (F0 m 1264 ls [])) : W p l e room_1 s m #[Value.ref b] below meth c H locs cl sl (lw_Z below #[Value.ref b] s) (F0 m 472 ls []) := by
  obtain ⟨hx, hb, hr9, hml, hown, hts0, hX, hbl, hlocks, hgv⟩ := id C0
  have hown : s.vm.findClass RL = some m.cls := hown
  have hts : ∀ w ∈ wsL_law, w.before #[Value.ref b] s = true := fun w h => hts0 w (wsL_law_in w h)
  have hbA : ¬ (fun q : Nat => s.heap.size ≤ q) b := Nat.not_le.mpr hbl
  have hn : 125 ≤ 125 := Nat.le_refl _
  have hG := hR.gi
  have hnb := hG.nb6
  have hx0 := hG.x0
  have hnn := hG.nn40
  have hx1 := hG.x1
  have hsh := hG.sh
  have hrk := hG.rk
  have hbz := hR.b14
  obtain ⟨cnt, hcn, hx4⟩ := hR.cnt
  obtain ⟨⟨f, ho1⟩, ⟨fd, ho2⟩⟩ := id ho
  have htc : ∀ b, b < 6 → (fun b => (x 19 b 0).toNatClampNeg) b ≤ 1920 := fun b hb => hG.tc hb
  have hx19 : ∀ b, b < 6 → x 19 b 0 = nI ((fun b => (x 19 b 0).toNatClampNeg) b) := fun b hb => hG.x19 hb
  generalize (fun b => (x 19 b 0).toNatClampNeg) = tcs at htc hx19
  have hhr := hR.hr
  have hyh := hR.y1
  obtain ⟨a1, ea1⟩ : ∃ a, a = xs (nI (5 * t) + 1).toNatClampNeg := ⟨_, rfl⟩
  obtain ⟨a2, ea2⟩ : ∃ a, a = xs (nI (5 * t) + 2).toNatClampNeg := ⟨_, rfl⟩
  obtain ⟨a3, ea3⟩ : ∃ a, a = xs (nI (5 * t) + 3).toNatClampNeg := ⟨_, rfl⟩
  obtain ⟨a4, ea4⟩ : ∃ a, a = xs (nI (5 * t) + 4).toNatClampNeg := ⟨_, rfl⟩
  have ht9 : t < 512 := by omega
  refine lv_aload_n hx hb dL_law_472 rfl (lv_at hl 1 rfl) ?_
  refine lv_aload_n hx hb dL_law_473 rfl (lv_at hl 0 rfl) ?_
  refine lv_iload hx hb dL_law_474 (lv_at hl 5 rfl) ?_
  refine lv_iconst (v := 1) hx hb dL_law_476 (by decide) ?_
  refine lv_iadd hx hb dL_law_477 ?_
  refine va_sld hx hb hX hbl hbA hS (i := (nI (5 * t)) + 1) (by rw [show nI (5 * t) + 1 = nI (5 * t + 1) from nI_add _ 1]; exact vp_in_nI (by omega) (by omega)) dL_law_478 ?_
  rw [← ea1]
  refine lv_aload_n hx hb dL_law_479 rfl (lv_at hl 0 rfl) ?_
  refine lv_iload hx hb dL_law_480 (lv_at hl 5 rfl) ?_
  refine lv_iconst (v := 2) hx hb dL_law_482 (by decide) ?_
  refine lv_iadd hx hb dL_law_483 ?_
  refine va_sld hx hb hX hbl hbA hS (i := (nI (5 * t)) + 2) (by rw [show nI (5 * t) + 2 = nI (5 * t + 2) from nI_add _ 2]; exact vp_in_nI (by omega) (by omega)) dL_law_484 ?_
  rw [← ea2]
  refine lv_aload_n hx hb dL_law_485 rfl (lv_at hl 0 rfl) ?_
  refine lv_iload hx hb dL_law_486 (lv_at hl 5 rfl) ?_
  refine lv_iconst (v := 3) hx hb dL_law_488 (by decide) ?_
  refine lv_iadd hx hb dL_law_489 ?_
  refine va_sld hx hb hX hbl hbA hS (i := (nI (5 * t)) + 3) (by rw [show nI (5 * t) + 3 = nI (5 * t + 3) from nI_add _ 3]; exact vp_in_nI (by omega) (by omega)) dL_law_490 ?_
  rw [← ea3]
  refine lv_aload_n hx hb dL_law_491 rfl (lv_at hl 0 rfl) ?_
  refine lv_iload hx hb dL_law_492 (lv_at hl 5 rfl) ?_
  refine lv_iconst (v := 4) hx hb dL_law_494 (by decide) ?_
  refine lv_iadd hx hb dL_law_495 ?_
  refine va_sld hx hb hX hbl hbA hS (i := (nI (5 * t)) + 4) (by rw [show nI (5 * t) + 4 = nI (5 * t + 4) from nI_add _ 4]; exact vp_in_nI (by omega) (by omega)) dL_law_496 ?_
  rw [← ea4]
  refine lv_aload_n hx hb dL_law_497 rfl (lv_at hl 3 rfl) ?_
  refine wx_calli (vx_runSW (As := [.ref (L 0), .int a1, .int a2, .int a3, .int a4, .ref (L 123)]) (rest := []) ⟨hx, hb, hml, hown, hts⟩ (kl_post l hst g s.heap.size 125 L (by omega) x (mw g L y ch ro) nn hnn hx1 hrk a1 a2 a3 a4 f ((mw_ge (by decide)).trans ho1)) (vx_cwSW 6 hts gL_law_L_post rfl rfl rfl (by decide +kernel) ⟨Nat.le_of_ble_eq_true rfl, Nat.le_of_ble_eq_true rfl⟩) (PW.preS3 (Nat.le_refl _) hJ hK hE hP hS) rfl rfl hl.1 rfl (lv_room (Nat.le_of_ble_eq_true rfl)) dL_law_498 ⟨(by show _ ≤ 603072; omega), (by show _ ≤ 7215210; omega)⟩) hS (fun r498 u498 H locs h498 hP hS => ?_)
  obtain ⟨ro2, e9, hc⟩ := c_post (nb := nb) (nn := nn) h498
  rw [e9, cw_mw] at hP
  refine lv_istore (lv' := [(6, .int r498), (0, .ref b), (1, .ref (L 0)), (2, .ref (L 106)), (3, .ref (L 123)), (4, .ref (L 124)), (5, .int (nI (5 * t)))]) hx hb dL_law_501 hl (by decide) rfl (fun ls hl => ?_)
  refine lv_aload_n hx hb dL_law_503 rfl (lv_at hl 3 rfl) ?_
  refine lv_aload_n hx hb dL_law_504 rfl (lv_at hl 1 rfl) ?_
  refine lv_iload hx hb dL_law_505 (lv_at hl 6 rfl) ?_
  refine lv_iconst (v := 1) hx hb dL_law_507 (by decide) ?_
  refine lv_iadd hx hb dL_law_508 ?_
  refine va_sld hx hb hX hbl hbA hS (i := (nI (5 * t)) + 1) (by rw [show nI (5 * t) + 1 = nI (5 * t + 1) from nI_add _ 1]; exact vp_in_nI (by omega) (by omega)) dL_law_509 ?_
  rw [← ea1]
  refine lv_aload_n hx hb dL_law_510 rfl (lv_at hl 1 rfl) ?_
  refine lv_iload hx hb dL_law_511 (lv_at hl 6 rfl) ?_
  refine lv_iconst (v := 2) hx hb dL_law_513 (by decide) ?_
  refine lv_iadd hx hb dL_law_514 ?_
  refine va_sld hx hb hX hbl hbA hS (i := (nI (5 * t)) + 2) (by rw [show nI (5 * t) + 2 = nI (5 * t + 2) from nI_add _ 2]; exact vp_in_nI (by omega) (by omega)) dL_law_515 ?_
  rw [← ea2]
  refine lv_aload_n hx hb dL_law_516 rfl (lv_at hl 1 rfl) ?_
  refine lv_iload hx hb dL_law_517 (lv_at hl 6 rfl) ?_
  refine lv_iconst (v := 3) hx hb dL_law_519 (by decide) ?_
  refine lv_iadd hx hb dL_law_520 ?_
  refine va_sld hx hb hX hbl hbA hS (i := (nI (5 * t)) + 3) (by rw [show nI (5 * t) + 3 = nI (5 * t + 3) from nI_add _ 3]; exact vp_in_nI (by omega) (by omega)) dL_law_521 ?_
  rw [← ea3]
  refine lv_aload_n hx hb dL_law_522 rfl (lv_at hl 1 rfl) ?_
  refine lv_iload hx hb dL_law_523 (lv_at hl 6 rfl) ?_
  refine lv_iconst (v := 4) hx hb dL_law_525 (by decide) ?_
  refine lv_iadd hx hb dL_law_526 ?_
  refine va_sld hx hb hX hbl hbA hS (i := (nI (5 * t)) + 4) (by rw [show nI (5 * t) + 4 = nI (5 * t + 4) from nI_add _ 4]; exact vp_in_nI (by omega) (by omega)) dL_law_527 ?_
  rw [← ea4]
  refine wx_calli (va_runV (As := [.int a1, .int a2, .int a3, .int a4]) (rest := []) ⟨hx, hb, hml, hown, hts⟩ (m_post l hst g s.heap.size 125 L (by omega) y ch (cw g L u498.1 ro2) nb nn hR.mi a1 a2 a3 a4) (cwV 4 hts gL_law_X4_post rfl rfl rfl (by decide +kernel) ⟨Nat.le_of_ble_eq_true rfl, Nat.le_of_ble_eq_true rfl⟩) (PW.preV3 (Nat.le_refl _) hJ hK hE hP hS (ci := 6) rfl (by omega) mw_o) rfl rfl hl.1 rfl (lv_room (Nat.le_of_ble_eq_true rfl)) dL_law_528 ⟨(by show _ ≤ 603072; omega), (by show _ ≤ 7215210; omega)⟩) hS (fun r528 u528 H locs h528 hP hS => ?_)
  obtain ⟨⟨nb2, nn2, hr2, hR2⟩, ho9⟩ := s_post (f := f) (r2 := r528) ht9 hR ho hc h528
  refine lv_istore (lv' := [(7, .int r528), (6, .int r498), (0, .ref b), (1, .ref (L 0)), (2, .ref (L 106)), (3, .ref (L 123)), (4, .ref (L 124)), (5, .int (nI (5 * t)))]) hx hb dL_law_531 hl (by decide) rfl (fun ls hl => ?_)
  refine lv_goto (tgt := 1264) hx hb dL_law_533 (by decide) ?_
  exact hnext _ _ _ _ _ _ _ _ _ _ _ _ hR2 ho9 (by omega) (by omega) (by rw [cw_mw]; exact hP) hS (lv_sub hl [2, 3, 4, 5, 6, 7] rfl)

set_option maxHeartbeats 8000000 in
set_option maxRecDepth 100000 in
theorem law_c9 {p : Program} {e : Env} {s : State} {m : MethodId} {below : List Frame} {meth : Method} {c : Code} (l : Launch) (hst : l.stackTraces = false) {b N : Nat} {xs : Nat → Int32} (hN : N ≤ 2560) (C0 : lw_At p s m meth c b N xs) (g : gE) (L : Nat → Nat) (hJ : wj 125 L (fun q : Nat => s.heap.size ≤ q)) (hK : va_K g.1 vwCl (tysC g) s) (hE : EE SS (fun q : Nat => s.heap.size ≤ q) s) {t : Nat} (ht : 5 * t + 5 ≤ N) {x y : St} {ch : Int64} {nb nn hr : Nat} {ro : Nat → va_E} (hR : R2 x y ch nb nn hr t) (ho : outOK g ro) {cl sl : Nat} (hcl : cl + 100 ≤ 603072) (hsl : sl + 1000 ≤ 7215210) {H : Heap} {locs : List Loc} (hP : va_P g.1 vwCl (wl 125 L (cw g L x (mw g L y ch ro))) H) (hS : va_S (fun q : Nat => s.heap.size ≤ q) s.heap H locs) {ls : Array Slot} (hl : lv_has ls 9 [(0, .ref b), (1, .ref (L 0)), (2, .ref (L 106)), (3, .ref (L 123)), (4, .ref (L 124)), (5, .int (nI (5 * t)))]) (hnext : ∀ (x2 y2 : St) (ch2 : Int64) (nb2 nn2 hr2 : Nat) (ro2 : Nat → va_E) (cl2 sl2 : Nat) (H : Heap) (locs : List Loc) (ls : Array Slot), R2 x2 y2 ch2 nb2 nn2 hr2 (t + 1) → outOK g ro2 → cl2 ≤ cl + 8 → sl2 ≤ sl + 48 → va_P g.1 vwCl (wl 125 L (cw g L x2 (mw g L y2 ch2 ro2))) H → va_S (fun q : Nat => s.heap.size ≤ q) s.heap H locs → lv_has ls 9 [(0, .ref b), (1, .ref (L 0)), (2, .ref (L 106)), (3, .ref (L 123)), (4, .ref (L 124)), (5, .int (nI (5 * t)))] → W p l e room_1 s m #[Value.ref b] below meth c H locs cl2 sl2 (lw_Z below #[Value.ref b] s) (F0 m 1264 ls [])) : W p l e room_1 s m #[Value.ref b] below meth c H locs cl sl (lw_Z below #[Value.ref b] s) (F0 m 536 ls []) := by
  obtain ⟨hx, hb, hr9, hml, hown, hts0, hX, hbl, hlocks, hgv⟩ := id C0
  have hown : s.vm.findClass RL = some m.cls := hown
  have hts : ∀ w ∈ wsL_law, w.before #[Value.ref b] s = true := fun w h => hts0 w (wsL_law_in w h)
  have hbA : ¬ (fun q : Nat => s.heap.size ≤ q) b := Nat.not_le.mpr hbl
  have hn : 125 ≤ 125 := Nat.le_refl _
  have hG := hR.gi
  have hnb := hG.nb6
  have hx0 := hG.x0
  have hnn := hG.nn40
  have hx1 := hG.x1
  have hsh := hG.sh
  have hrk := hG.rk
  have hbz := hR.b14
  obtain ⟨cnt, hcn, hx4⟩ := hR.cnt
  obtain ⟨⟨f, ho1⟩, ⟨fd, ho2⟩⟩ := id ho
  have htc : ∀ b, b < 6 → (fun b => (x 19 b 0).toNatClampNeg) b ≤ 1920 := fun b hb => hG.tc hb
  have hx19 : ∀ b, b < 6 → x 19 b 0 = nI ((fun b => (x 19 b 0).toNatClampNeg) b) := fun b hb => hG.x19 hb
  generalize (fun b => (x 19 b 0).toNatClampNeg) = tcs at htc hx19
  have hhr := hR.hr
  have hyh := hR.y1
  obtain ⟨a1, ea1⟩ : ∃ a, a = xs (nI (5 * t) + 1).toNatClampNeg := ⟨_, rfl⟩
  obtain ⟨a2, ea2⟩ : ∃ a, a = xs (nI (5 * t) + 2).toNatClampNeg := ⟨_, rfl⟩
  obtain ⟨a3, ea3⟩ : ∃ a, a = xs (nI (5 * t) + 3).toNatClampNeg := ⟨_, rfl⟩
  obtain ⟨a4, ea4⟩ : ∃ a, a = xs (nI (5 * t) + 4).toNatClampNeg := ⟨_, rfl⟩
  have ht9 : t < 512 := by omega
  refine lv_aload_n hx hb dL_law_536 rfl (lv_at hl 1 rfl) ?_
  refine lv_aload_n hx hb dL_law_537 rfl (lv_at hl 0 rfl) ?_
  refine lv_iload hx hb dL_law_538 (lv_at hl 5 rfl) ?_
  refine lv_iconst (v := 1) hx hb dL_law_540 (by decide) ?_
  refine lv_iadd hx hb dL_law_541 ?_
  refine va_sld hx hb hX hbl hbA hS (i := (nI (5 * t)) + 1) (by rw [show nI (5 * t) + 1 = nI (5 * t + 1) from nI_add _ 1]; exact vp_in_nI (by omega) (by omega)) dL_law_542 ?_
  rw [← ea1]
  refine lv_aload_n hx hb dL_law_543 rfl (lv_at hl 0 rfl) ?_
  refine lv_iload hx hb dL_law_544 (lv_at hl 5 rfl) ?_
  refine lv_iconst (v := 2) hx hb dL_law_546 (by decide) ?_
  refine lv_iadd hx hb dL_law_547 ?_
  refine va_sld hx hb hX hbl hbA hS (i := (nI (5 * t)) + 2) (by rw [show nI (5 * t) + 2 = nI (5 * t + 2) from nI_add _ 2]; exact vp_in_nI (by omega) (by omega)) dL_law_548 ?_
  rw [← ea2]
  refine lv_aload_n hx hb dL_law_549 rfl (lv_at hl 3 rfl) ?_
  refine wx_calli (vx_runSW (As := [.ref (L 0), .int a1, .int a2, .ref (L 123)]) (rest := []) ⟨hx, hb, hml, hown, hts⟩ (kl_queue l hst g s.heap.size 125 L (by omega) x (mw g L y ch ro) nn hnn hx1 a1 a2 f ((mw_ge (by decide)).trans ho1)) (vx_cwSW 4 hts gL_law_L_queue rfl rfl rfl (by decide +kernel) ⟨Nat.le_of_ble_eq_true rfl, Nat.le_of_ble_eq_true rfl⟩) (PW.preS3 (Nat.le_refl _) hJ hK hE hP hS) rfl rfl hl.1 rfl (lv_room (Nat.le_of_ble_eq_true rfl)) dL_law_550 ⟨(by show _ ≤ 603072; omega), (by show _ ≤ 7215210; omega)⟩) hS (fun r550 u550 H locs h550 hP hS => ?_)
  obtain ⟨ro2, e9, hc⟩ := c_queue (nb := nb) (nn := nn) h550
  rw [e9, cw_mw] at hP
  refine lv_istore (lv' := [(6, .int r550), (0, .ref b), (1, .ref (L 0)), (2, .ref (L 106)), (3, .ref (L 123)), (4, .ref (L 124)), (5, .int (nI (5 * t)))]) hx hb dL_law_553 hl (by decide) rfl (fun ls hl => ?_)
  refine lv_aload_n hx hb dL_law_555 rfl (lv_at hl 3 rfl) ?_
  refine lv_aload_n hx hb dL_law_556 rfl (lv_at hl 1 rfl) ?_
  refine lv_iload hx hb dL_law_557 (lv_at hl 6 rfl) ?_
  refine lv_iconst (v := 1) hx hb dL_law_559 (by decide) ?_
  refine lv_iadd hx hb dL_law_560 ?_
  refine va_sld hx hb hX hbl hbA hS (i := (nI (5 * t)) + 1) (by rw [show nI (5 * t) + 1 = nI (5 * t + 1) from nI_add _ 1]; exact vp_in_nI (by omega) (by omega)) dL_law_561 ?_
  rw [← ea1]
  refine lv_aload_n hx hb dL_law_562 rfl (lv_at hl 1 rfl) ?_
  refine lv_iload hx hb dL_law_563 (lv_at hl 6 rfl) ?_
  refine lv_iconst (v := 2) hx hb dL_law_565 (by decide) ?_
  refine lv_iadd hx hb dL_law_566 ?_
  refine va_sld hx hb hX hbl hbA hS (i := (nI (5 * t)) + 2) (by rw [show nI (5 * t) + 2 = nI (5 * t + 2) from nI_add _ 2]; exact vp_in_nI (by omega) (by omega)) dL_law_567 ?_
  rw [← ea2]
  refine wx_calli (va_runV (As := [.int a1, .int a2]) (rest := []) ⟨hx, hb, hml, hown, hts⟩ (m_queue l hst g s.heap.size 125 L (by omega) y ch (cw g L u550.1 ro2) nb nn hR.mi a1 a2) (cwV 2 hts gL_law_X4_queue rfl rfl rfl (by decide +kernel) ⟨Nat.le_of_ble_eq_true rfl, Nat.le_of_ble_eq_true rfl⟩) (PW.preV3 (Nat.le_refl _) hJ hK hE hP hS (ci := 6) rfl (by omega) mw_o) rfl rfl hl.1 rfl (lv_room (Nat.le_of_ble_eq_true rfl)) dL_law_568 ⟨(by show _ ≤ 603072; omega), (by show _ ≤ 7215210; omega)⟩) hS (fun r568 u568 H locs h568 hP hS => ?_)
  obtain ⟨⟨nb2, nn2, hr2, hR2⟩, ho9⟩ := s_queue (f := f) (r2 := r568) ht9 hR ho hc h568
  refine lv_istore (lv' := [(7, .int r568), (6, .int r550), (0, .ref b), (1, .ref (L 0)), (2, .ref (L 106)), (3, .ref (L 123)), (4, .ref (L 124)), (5, .int (nI (5 * t)))]) hx hb dL_law_571 hl (by decide) rfl (fun ls hl => ?_)
  refine lv_goto (tgt := 1264) hx hb dL_law_573 (by decide) ?_
  exact hnext _ _ _ _ _ _ _ _ _ _ _ _ hR2 ho9 (by omega) (by omega) (by rw [cw_mw]; exact hP) hS (lv_sub hl [2, 3, 4, 5, 6, 7] rfl)

set_option maxHeartbeats 8000000 in
set_option maxRecDepth 100000 in
theorem law_c10 {p : Program} {e : Env} {s : State} {m : MethodId} {below : List Frame} {meth : Method} {c : Code} (l : Launch) (hst : l.stackTraces = false) {b N : Nat} {xs : Nat → Int32} (hN : N ≤ 2560) (C0 : lw_At p s m meth c b N xs) (g : gE) (L : Nat → Nat) (hJ : wj 125 L (fun q : Nat => s.heap.size ≤ q)) (hK : va_K g.1 vwCl (tysC g) s) (hE : EE SS (fun q : Nat => s.heap.size ≤ q) s) {t : Nat} (ht : 5 * t + 5 ≤ N) {x y : St} {ch : Int64} {nb nn hr : Nat} {ro : Nat → va_E} (hR : R2 x y ch nb nn hr t) (ho : outOK g ro) {cl sl : Nat} (hcl : cl + 100 ≤ 603072) (hsl : sl + 1000 ≤ 7215210) {H : Heap} {locs : List Loc} (hP : va_P g.1 vwCl (wl 125 L (cw g L x (mw g L y ch ro))) H) (hS : va_S (fun q : Nat => s.heap.size ≤ q) s.heap H locs) {ls : Array Slot} (hl : lv_has ls 9 [(0, .ref b), (1, .ref (L 0)), (2, .ref (L 106)), (3, .ref (L 123)), (4, .ref (L 124)), (5, .int (nI (5 * t)))]) (hnext : ∀ (x2 y2 : St) (ch2 : Int64) (nb2 nn2 hr2 : Nat) (ro2 : Nat → va_E) (cl2 sl2 : Nat) (H : Heap) (locs : List Loc) (ls : Array Slot), R2 x2 y2 ch2 nb2 nn2 hr2 (t + 1) → outOK g ro2 → cl2 ≤ cl + 8 → sl2 ≤ sl + 48 → va_P g.1 vwCl (wl 125 L (cw g L x2 (mw g L y2 ch2 ro2))) H → va_S (fun q : Nat => s.heap.size ≤ q) s.heap H locs → lv_has ls 9 [(0, .ref b), (1, .ref (L 0)), (2, .ref (L 106)), (3, .ref (L 123)), (4, .ref (L 124)), (5, .int (nI (5 * t)))] → W p l e room_1 s m #[Value.ref b] below meth c H locs cl2 sl2 (lw_Z below #[Value.ref b] s) (F0 m 1264 ls [])) : W p l e room_1 s m #[Value.ref b] below meth c H locs cl sl (lw_Z below #[Value.ref b] s) (F0 m 576 ls []) := by
  obtain ⟨hx, hb, hr9, hml, hown, hts0, hX, hbl, hlocks, hgv⟩ := id C0
  have hown : s.vm.findClass RL = some m.cls := hown
  have hts : ∀ w ∈ wsL_law, w.before #[Value.ref b] s = true := fun w h => hts0 w (wsL_law_in w h)
  have hbA : ¬ (fun q : Nat => s.heap.size ≤ q) b := Nat.not_le.mpr hbl
  have hn : 125 ≤ 125 := Nat.le_refl _
  have hG := hR.gi
  have hnb := hG.nb6
  have hx0 := hG.x0
  have hnn := hG.nn40
  have hx1 := hG.x1
  have hsh := hG.sh
  have hrk := hG.rk
  have hbz := hR.b14
  obtain ⟨cnt, hcn, hx4⟩ := hR.cnt
  obtain ⟨⟨f, ho1⟩, ⟨fd, ho2⟩⟩ := id ho
  have htc : ∀ b, b < 6 → (fun b => (x 19 b 0).toNatClampNeg) b ≤ 1920 := fun b hb => hG.tc hb
  have hx19 : ∀ b, b < 6 → x 19 b 0 = nI ((fun b => (x 19 b 0).toNatClampNeg) b) := fun b hb => hG.x19 hb
  generalize (fun b => (x 19 b 0).toNatClampNeg) = tcs at htc hx19
  have hhr := hR.hr
  have hyh := hR.y1
  obtain ⟨a1, ea1⟩ : ∃ a, a = xs (nI (5 * t) + 1).toNatClampNeg := ⟨_, rfl⟩
  obtain ⟨a2, ea2⟩ : ∃ a, a = xs (nI (5 * t) + 2).toNatClampNeg := ⟨_, rfl⟩
  obtain ⟨a3, ea3⟩ : ∃ a, a = xs (nI (5 * t) + 3).toNatClampNeg := ⟨_, rfl⟩
  obtain ⟨a4, ea4⟩ : ∃ a, a = xs (nI (5 * t) + 4).toNatClampNeg := ⟨_, rfl⟩
  have ht9 : t < 512 := by omega
  refine lv_aload_n hx hb dL_law_576 rfl (lv_at hl 1 rfl) ?_
  refine lv_aload_n hx hb dL_law_577 rfl (lv_at hl 0 rfl) ?_
  refine lv_iload hx hb dL_law_578 (lv_at hl 5 rfl) ?_
  refine lv_iconst (v := 1) hx hb dL_law_580 (by decide) ?_
  refine lv_iadd hx hb dL_law_581 ?_
  refine va_sld hx hb hX hbl hbA hS (i := (nI (5 * t)) + 1) (by rw [show nI (5 * t) + 1 = nI (5 * t + 1) from nI_add _ 1]; exact vp_in_nI (by omega) (by omega)) dL_law_582 ?_
  rw [← ea1]
  refine lv_aload_n hx hb dL_law_583 rfl (lv_at hl 0 rfl) ?_
  refine lv_iload hx hb dL_law_584 (lv_at hl 5 rfl) ?_
  refine lv_iconst (v := 2) hx hb dL_law_586 (by decide) ?_
  refine lv_iadd hx hb dL_law_587 ?_
  refine va_sld hx hb hX hbl hbA hS (i := (nI (5 * t)) + 2) (by rw [show nI (5 * t) + 2 = nI (5 * t + 2) from nI_add _ 2]; exact vp_in_nI (by omega) (by omega)) dL_law_588 ?_
  rw [← ea2]
  refine lv_aload_n hx hb dL_law_589 rfl (lv_at hl 3 rfl) ?_
  refine wx_calli (vx_runSW (As := [.ref (L 0), .int a1, .int a2, .ref (L 123)]) (rest := []) ⟨hx, hb, hml, hown, hts⟩ (kl_takeBack l hst g s.heap.size 125 L (by omega) x (mw g L y ch ro) nb hnb hx0 nn hnn hx1 hsh a1 a2 f ((mw_ge (by decide)).trans ho1)) (vx_cwSW 4 hts gL_law_L_takeBack rfl rfl rfl (by decide +kernel) ⟨Nat.le_of_ble_eq_true rfl, Nat.le_of_ble_eq_true rfl⟩) (PW.preS3 (Nat.le_refl _) hJ hK hE hP hS) rfl rfl hl.1 rfl (lv_room (Nat.le_of_ble_eq_true rfl)) dL_law_590 ⟨(by show _ ≤ 603072; omega), (by show _ ≤ 7215210; omega)⟩) hS (fun r590 u590 H locs h590 hP hS => ?_)
  obtain ⟨ro2, e9, hc⟩ := c_takeBack (nb := nb) (nn := nn) h590
  rw [e9, cw_mw] at hP
  refine lv_istore (lv' := [(6, .int r590), (0, .ref b), (1, .ref (L 0)), (2, .ref (L 106)), (3, .ref (L 123)), (4, .ref (L 124)), (5, .int (nI (5 * t)))]) hx hb dL_law_593 hl (by decide) rfl (fun ls hl => ?_)
  refine lv_aload_n hx hb dL_law_595 rfl (lv_at hl 3 rfl) ?_
  refine lv_aload_n hx hb dL_law_596 rfl (lv_at hl 1 rfl) ?_
  refine lv_iload hx hb dL_law_597 (lv_at hl 6 rfl) ?_
  refine lv_iconst (v := 1) hx hb dL_law_599 (by decide) ?_
  refine lv_iadd hx hb dL_law_600 ?_
  refine va_sld hx hb hX hbl hbA hS (i := (nI (5 * t)) + 1) (by rw [show nI (5 * t) + 1 = nI (5 * t + 1) from nI_add _ 1]; exact vp_in_nI (by omega) (by omega)) dL_law_601 ?_
  rw [← ea1]
  refine lv_aload_n hx hb dL_law_602 rfl (lv_at hl 1 rfl) ?_
  refine lv_iload hx hb dL_law_603 (lv_at hl 6 rfl) ?_
  refine lv_iconst (v := 2) hx hb dL_law_605 (by decide) ?_
  refine lv_iadd hx hb dL_law_606 ?_
  refine va_sld hx hb hX hbl hbA hS (i := (nI (5 * t)) + 2) (by rw [show nI (5 * t) + 2 = nI (5 * t + 2) from nI_add _ 2]; exact vp_in_nI (by omega) (by omega)) dL_law_607 ?_
  rw [← ea2]
  refine wx_calli (va_runV (As := [.int a1, .int a2]) (rest := []) ⟨hx, hb, hml, hown, hts⟩ (m_takeBack l hst g s.heap.size 125 L (by omega) y ch (cw g L u590.1 ro2) nb nn hR.mi a1 a2) (cwV 2 hts gL_law_X4_takeBack rfl rfl rfl (by decide +kernel) ⟨Nat.le_of_ble_eq_true rfl, Nat.le_of_ble_eq_true rfl⟩) (PW.preV3 (Nat.le_refl _) hJ hK hE hP hS (ci := 6) rfl (by omega) mw_o) rfl rfl hl.1 rfl (lv_room (Nat.le_of_ble_eq_true rfl)) dL_law_608 ⟨(by show _ ≤ 603072; omega), (by show _ ≤ 7215210; omega)⟩) hS (fun r608 u608 H locs h608 hP hS => ?_)
  obtain ⟨⟨nb2, nn2, hr2, hR2⟩, ho9⟩ := s_takeBack (f := f) (r2 := r608) ht9 hR ho hc h608
  refine lv_istore (lv' := [(7, .int r608), (6, .int r590), (0, .ref b), (1, .ref (L 0)), (2, .ref (L 106)), (3, .ref (L 123)), (4, .ref (L 124)), (5, .int (nI (5 * t)))]) hx hb dL_law_611 hl (by decide) rfl (fun ls hl => ?_)
  refine lv_goto (tgt := 1264) hx hb dL_law_613 (by decide) ?_
  exact hnext _ _ _ _ _ _ _ _ _ _ _ _ hR2 ho9 (by omega) (by omega) (by rw [cw_mw]; exact hP) hS (lv_sub hl [2, 3, 4, 5, 6, 7] rfl)

set_option maxHeartbeats 8000000 in
set_option maxRecDepth 100000 in
theorem law_c11 {p : Program} {e : Env} {s : State} {m : MethodId} {below : List Frame} {meth : Method} {c : Code} (l : Launch) (hst : l.stackTraces = false) {b N : Nat} {xs : Nat → Int32} (hN : N ≤ 2560) (C0 : lw_At p s m meth c b N xs) (g : gE) (L : Nat → Nat) (hJ : wj 125 L (fun q : Nat => s.heap.size ≤ q)) (hK : va_K g.1 vwCl (tysC g) s) (hE : EE SS (fun q : Nat => s.heap.size ≤ q) s) {t : Nat} (ht : 5 * t + 5 ≤ N) {x y : St} {ch : Int64} {nb nn hr : Nat} {ro : Nat → va_E} (hR : R2 x y ch nb nn hr t) (ho : outOK g ro) {cl sl : Nat} (hcl : cl + 100 ≤ 603072) (hsl : sl + 1000 ≤ 7215210) {H : Heap} {locs : List Loc} (hP : va_P g.1 vwCl (wl 125 L (cw g L x (mw g L y ch ro))) H) (hS : va_S (fun q : Nat => s.heap.size ≤ q) s.heap H locs) {ls : Array Slot} (hl : lv_has ls 9 [(0, .ref b), (1, .ref (L 0)), (2, .ref (L 106)), (3, .ref (L 123)), (4, .ref (L 124)), (5, .int (nI (5 * t)))]) (hnext : ∀ (x2 y2 : St) (ch2 : Int64) (nb2 nn2 hr2 : Nat) (ro2 : Nat → va_E) (cl2 sl2 : Nat) (H : Heap) (locs : List Loc) (ls : Array Slot), R2 x2 y2 ch2 nb2 nn2 hr2 (t + 1) → outOK g ro2 → cl2 ≤ cl + 8 → sl2 ≤ sl + 48 → va_P g.1 vwCl (wl 125 L (cw g L x2 (mw g L y2 ch2 ro2))) H → va_S (fun q : Nat => s.heap.size ≤ q) s.heap H locs → lv_has ls 9 [(0, .ref b), (1, .ref (L 0)), (2, .ref (L 106)), (3, .ref (L 123)), (4, .ref (L 124)), (5, .int (nI (5 * t)))] → W p l e room_1 s m #[Value.ref b] below meth c H locs cl2 sl2 (lw_Z below #[Value.ref b] s) (F0 m 1264 ls [])) : W p l e room_1 s m #[Value.ref b] below meth c H locs cl sl (lw_Z below #[Value.ref b] s) (F0 m 616 ls []) := by
  obtain ⟨hx, hb, hr9, hml, hown, hts0, hX, hbl, hlocks, hgv⟩ := id C0
  have hown : s.vm.findClass RL = some m.cls := hown
  have hts : ∀ w ∈ wsL_law, w.before #[Value.ref b] s = true := fun w h => hts0 w (wsL_law_in w h)
  have hbA : ¬ (fun q : Nat => s.heap.size ≤ q) b := Nat.not_le.mpr hbl
  have hn : 125 ≤ 125 := Nat.le_refl _
  have hG := hR.gi
  have hnb := hG.nb6
  have hx0 := hG.x0
  have hnn := hG.nn40
  have hx1 := hG.x1
  have hsh := hG.sh
  have hrk := hG.rk
  have hbz := hR.b14
  obtain ⟨cnt, hcn, hx4⟩ := hR.cnt
  obtain ⟨⟨f, ho1⟩, ⟨fd, ho2⟩⟩ := id ho
  have htc : ∀ b, b < 6 → (fun b => (x 19 b 0).toNatClampNeg) b ≤ 1920 := fun b hb => hG.tc hb
  have hx19 : ∀ b, b < 6 → x 19 b 0 = nI ((fun b => (x 19 b 0).toNatClampNeg) b) := fun b hb => hG.x19 hb
  generalize (fun b => (x 19 b 0).toNatClampNeg) = tcs at htc hx19
  have hhr := hR.hr
  have hyh := hR.y1
  obtain ⟨a1, ea1⟩ : ∃ a, a = xs (nI (5 * t) + 1).toNatClampNeg := ⟨_, rfl⟩
  obtain ⟨a2, ea2⟩ : ∃ a, a = xs (nI (5 * t) + 2).toNatClampNeg := ⟨_, rfl⟩
  obtain ⟨a3, ea3⟩ : ∃ a, a = xs (nI (5 * t) + 3).toNatClampNeg := ⟨_, rfl⟩
  obtain ⟨a4, ea4⟩ : ∃ a, a = xs (nI (5 * t) + 4).toNatClampNeg := ⟨_, rfl⟩
  have ht9 : t < 512 := by omega
  refine lv_aload_n hx hb dL_law_616 rfl (lv_at hl 1 rfl) ?_
  refine lv_aload_n hx hb dL_law_617 rfl (lv_at hl 0 rfl) ?_
  refine lv_iload hx hb dL_law_618 (lv_at hl 5 rfl) ?_
  refine lv_iconst (v := 1) hx hb dL_law_620 (by decide) ?_
  refine lv_iadd hx hb dL_law_621 ?_
  refine va_sld hx hb hX hbl hbA hS (i := (nI (5 * t)) + 1) (by rw [show nI (5 * t) + 1 = nI (5 * t + 1) from nI_add _ 1]; exact vp_in_nI (by omega) (by omega)) dL_law_622 ?_
  rw [← ea1]
  refine lv_aload_n hx hb dL_law_623 rfl (lv_at hl 0 rfl) ?_
  refine lv_iload hx hb dL_law_624 (lv_at hl 5 rfl) ?_
  refine lv_iconst (v := 2) hx hb dL_law_626 (by decide) ?_
  refine lv_iadd hx hb dL_law_627 ?_
  refine va_sld hx hb hX hbl hbA hS (i := (nI (5 * t)) + 2) (by rw [show nI (5 * t) + 2 = nI (5 * t + 2) from nI_add _ 2]; exact vp_in_nI (by omega) (by omega)) dL_law_628 ?_
  rw [← ea2]
  refine lv_aload_n hx hb dL_law_629 rfl (lv_at hl 3 rfl) ?_
  refine wx_calli (vx_runSW (As := [.ref (L 0), .int a1, .int a2, .ref (L 123)]) (rest := []) ⟨hx, hb, hml, hown, hts⟩ (kl_mend l hst g s.heap.size 125 L (by omega) x (mw g L y ch ro) nb hnb hx0 nn hnn hx1 hrk a1 a2 f ((mw_ge (by decide)).trans ho1)) (vx_cwSW 4 hts gL_law_L_mend rfl rfl rfl (by decide +kernel) ⟨Nat.le_of_ble_eq_true rfl, Nat.le_of_ble_eq_true rfl⟩) (PW.preS3 (Nat.le_refl _) hJ hK hE hP hS) rfl rfl hl.1 rfl (lv_room (Nat.le_of_ble_eq_true rfl)) dL_law_630 ⟨(by show _ ≤ 603072; omega), (by show _ ≤ 7215210; omega)⟩) hS (fun r630 u630 H locs h630 hP hS => ?_)
  obtain ⟨ro2, e9, hc⟩ := c_mend (nb := nb) (nn := nn) h630
  rw [e9, cw_mw] at hP
  refine lv_istore (lv' := [(6, .int r630), (0, .ref b), (1, .ref (L 0)), (2, .ref (L 106)), (3, .ref (L 123)), (4, .ref (L 124)), (5, .int (nI (5 * t)))]) hx hb dL_law_633 hl (by decide) rfl (fun ls hl => ?_)
  refine lv_aload_n hx hb dL_law_635 rfl (lv_at hl 3 rfl) ?_
  refine lv_aload_n hx hb dL_law_636 rfl (lv_at hl 1 rfl) ?_
  refine lv_iload hx hb dL_law_637 (lv_at hl 6 rfl) ?_
  refine lv_iconst (v := 1) hx hb dL_law_639 (by decide) ?_
  refine lv_iadd hx hb dL_law_640 ?_
  refine va_sld hx hb hX hbl hbA hS (i := (nI (5 * t)) + 1) (by rw [show nI (5 * t) + 1 = nI (5 * t + 1) from nI_add _ 1]; exact vp_in_nI (by omega) (by omega)) dL_law_641 ?_
  rw [← ea1]
  refine lv_aload_n hx hb dL_law_642 rfl (lv_at hl 1 rfl) ?_
  refine lv_iload hx hb dL_law_643 (lv_at hl 6 rfl) ?_
  refine lv_iconst (v := 2) hx hb dL_law_645 (by decide) ?_
  refine lv_iadd hx hb dL_law_646 ?_
  refine va_sld hx hb hX hbl hbA hS (i := (nI (5 * t)) + 2) (by rw [show nI (5 * t) + 2 = nI (5 * t + 2) from nI_add _ 2]; exact vp_in_nI (by omega) (by omega)) dL_law_647 ?_
  rw [← ea2]
  refine wx_calli (va_runV (As := [.int a1, .int a2]) (rest := []) ⟨hx, hb, hml, hown, hts⟩ (m_mend l hst g s.heap.size 125 L (by omega) y ch (cw g L u630.1 ro2) nb nn hR.mi a1 a2) (cwV 2 hts gL_law_X4_mend rfl rfl rfl (by decide +kernel) ⟨Nat.le_of_ble_eq_true rfl, Nat.le_of_ble_eq_true rfl⟩) (PW.preV3 (Nat.le_refl _) hJ hK hE hP hS (ci := 6) rfl (by omega) mw_o) rfl rfl hl.1 rfl (lv_room (Nat.le_of_ble_eq_true rfl)) dL_law_648 ⟨(by show _ ≤ 603072; omega), (by show _ ≤ 7215210; omega)⟩) hS (fun r648 u648 H locs h648 hP hS => ?_)
  obtain ⟨⟨nb2, nn2, hr2, hR2⟩, ho9⟩ := s_mend (f := f) (r2 := r648) ht9 hR ho hc h648
  refine lv_istore (lv' := [(7, .int r648), (6, .int r630), (0, .ref b), (1, .ref (L 0)), (2, .ref (L 106)), (3, .ref (L 123)), (4, .ref (L 124)), (5, .int (nI (5 * t)))]) hx hb dL_law_651 hl (by decide) rfl (fun ls hl => ?_)
  refine lv_goto (tgt := 1264) hx hb dL_law_653 (by decide) ?_
  exact hnext _ _ _ _ _ _ _ _ _ _ _ _ hR2 ho9 (by omega) (by omega) (by rw [cw_mw]; exact hP) hS (lv_sub hl [2, 3, 4, 5, 6, 7] rfl)

set_option maxHeartbeats 8000000 in
set_option maxRecDepth 100000 in
theorem law_c12 {p : Program} {e : Env} {s : State} {m : MethodId} {below : List Frame} {meth : Method} {c : Code} (l : Launch) (hst : l.stackTraces = false) {b N : Nat} {xs : Nat → Int32} (hN : N ≤ 2560) (C0 : lw_At p s m meth c b N xs) (g : gE) (L : Nat → Nat) (hJ : wj 125 L (fun q : Nat => s.heap.size ≤ q)) (hK : va_K g.1 vwCl (tysC g) s) (hE : EE SS (fun q : Nat => s.heap.size ≤ q) s) {t : Nat} (ht : 5 * t + 5 ≤ N) {x y : St} {ch : Int64} {nb nn hr : Nat} {ro : Nat → va_E} (hR : R2 x y ch nb nn hr t) (ho : outOK g ro) {cl sl : Nat} (hcl : cl + 100 ≤ 603072) (hsl : sl + 1000 ≤ 7215210) {H : Heap} {locs : List Loc} (hP : va_P g.1 vwCl (wl 125 L (cw g L x (mw g L y ch ro))) H) (hS : va_S (fun q : Nat => s.heap.size ≤ q) s.heap H locs) {ls : Array Slot} (hl : lv_has ls 9 [(0, .ref b), (1, .ref (L 0)), (2, .ref (L 106)), (3, .ref (L 123)), (4, .ref (L 124)), (5, .int (nI (5 * t)))]) (hnext : ∀ (x2 y2 : St) (ch2 : Int64) (nb2 nn2 hr2 : Nat) (ro2 : Nat → va_E) (cl2 sl2 : Nat) (H : Heap) (locs : List Loc) (ls : Array Slot), R2 x2 y2 ch2 nb2 nn2 hr2 (t + 1) → outOK g ro2 → cl2 ≤ cl + 8 → sl2 ≤ sl + 48 → va_P g.1 vwCl (wl 125 L (cw g L x2 (mw g L y2 ch2 ro2))) H → va_S (fun q : Nat => s.heap.size ≤ q) s.heap H locs → lv_has ls 9 [(0, .ref b), (1, .ref (L 0)), (2, .ref (L 106)), (3, .ref (L 123)), (4, .ref (L 124)), (5, .int (nI (5 * t)))] → W p l e room_1 s m #[Value.ref b] below meth c H locs cl2 sl2 (lw_Z below #[Value.ref b] s) (F0 m 1264 ls [])) : W p l e room_1 s m #[Value.ref b] below meth c H locs cl sl (lw_Z below #[Value.ref b] s) (F0 m 656 ls []) := by
  obtain ⟨hx, hb, hr9, hml, hown, hts0, hX, hbl, hlocks, hgv⟩ := id C0
  have hown : s.vm.findClass RL = some m.cls := hown
  have hts : ∀ w ∈ wsL_law, w.before #[Value.ref b] s = true := fun w h => hts0 w (wsL_law_in w h)
  have hbA : ¬ (fun q : Nat => s.heap.size ≤ q) b := Nat.not_le.mpr hbl
  have hn : 125 ≤ 125 := Nat.le_refl _
  have hG := hR.gi
  have hnb := hG.nb6
  have hx0 := hG.x0
  have hnn := hG.nn40
  have hx1 := hG.x1
  have hsh := hG.sh
  have hrk := hG.rk
  have hbz := hR.b14
  obtain ⟨cnt, hcn, hx4⟩ := hR.cnt
  obtain ⟨⟨f, ho1⟩, ⟨fd, ho2⟩⟩ := id ho
  have htc : ∀ b, b < 6 → (fun b => (x 19 b 0).toNatClampNeg) b ≤ 1920 := fun b hb => hG.tc hb
  have hx19 : ∀ b, b < 6 → x 19 b 0 = nI ((fun b => (x 19 b 0).toNatClampNeg) b) := fun b hb => hG.x19 hb
  generalize (fun b => (x 19 b 0).toNatClampNeg) = tcs at htc hx19
  have hhr := hR.hr
  have hyh := hR.y1
  obtain ⟨a1, ea1⟩ : ∃ a, a = xs (nI (5 * t) + 1).toNatClampNeg := ⟨_, rfl⟩
  obtain ⟨a2, ea2⟩ : ∃ a, a = xs (nI (5 * t) + 2).toNatClampNeg := ⟨_, rfl⟩
  obtain ⟨a3, ea3⟩ : ∃ a, a = xs (nI (5 * t) + 3).toNatClampNeg := ⟨_, rfl⟩
  obtain ⟨a4, ea4⟩ : ∃ a, a = xs (nI (5 * t) + 4).toNatClampNeg := ⟨_, rfl⟩
  have ht9 : t < 512 := by omega
  refine lv_aload_n hx hb dL_law_656 rfl (lv_at hl 1 rfl) ?_
  refine lv_aload_n hx hb dL_law_657 rfl (lv_at hl 0 rfl) ?_
  refine lv_iload hx hb dL_law_658 (lv_at hl 5 rfl) ?_
  refine lv_iconst (v := 1) hx hb dL_law_660 (by decide) ?_
  refine lv_iadd hx hb dL_law_661 ?_
  refine va_sld hx hb hX hbl hbA hS (i := (nI (5 * t)) + 1) (by rw [show nI (5 * t) + 1 = nI (5 * t + 1) from nI_add _ 1]; exact vp_in_nI (by omega) (by omega)) dL_law_662 ?_
  rw [← ea1]
  refine lv_aload_n hx hb dL_law_663 rfl (lv_at hl 0 rfl) ?_
  refine lv_iload hx hb dL_law_664 (lv_at hl 5 rfl) ?_
  refine lv_iconst (v := 2) hx hb dL_law_666 (by decide) ?_
  refine lv_iadd hx hb dL_law_667 ?_
  refine va_sld hx hb hX hbl hbA hS (i := (nI (5 * t)) + 2) (by rw [show nI (5 * t) + 2 = nI (5 * t + 2) from nI_add _ 2]; exact vp_in_nI (by omega) (by omega)) dL_law_668 ?_
  rw [← ea2]
  refine lv_aload_n hx hb dL_law_669 rfl (lv_at hl 0 rfl) ?_
  refine lv_iload hx hb dL_law_670 (lv_at hl 5 rfl) ?_
  refine lv_iconst (v := 3) hx hb dL_law_672 (by decide) ?_
  refine lv_iadd hx hb dL_law_673 ?_
  refine va_sld hx hb hX hbl hbA hS (i := (nI (5 * t)) + 3) (by rw [show nI (5 * t) + 3 = nI (5 * t + 3) from nI_add _ 3]; exact vp_in_nI (by omega) (by omega)) dL_law_674 ?_
  rw [← ea3]
  refine lv_aload_n hx hb dL_law_675 rfl (lv_at hl 3 rfl) ?_
  refine wx_calli (vx_runSW (As := [.ref (L 0), .int a1, .int a2, .int a3, .ref (L 123)]) (rest := []) ⟨hx, hb, hml, hown, hts⟩ (kl_deny l hst g s.heap.size 125 L (by omega) x (mw g L y ch ro) nn hnn hx1 hrk a1 a2 a3 f ((mw_ge (by decide)).trans ho1)) (vx_cwSW 5 hts gL_law_L_deny rfl rfl rfl (by decide +kernel) ⟨Nat.le_of_ble_eq_true rfl, Nat.le_of_ble_eq_true rfl⟩) (PW.preS3 (Nat.le_refl _) hJ hK hE hP hS) rfl rfl hl.1 rfl (lv_room (Nat.le_of_ble_eq_true rfl)) dL_law_676 ⟨(by show _ ≤ 603072; omega), (by show _ ≤ 7215210; omega)⟩) hS (fun r676 u676 H locs h676 hP hS => ?_)
  obtain ⟨ro2, e9, hc⟩ := c_deny (nb := nb) (nn := nn) h676
  rw [e9, cw_mw] at hP
  refine lv_istore (lv' := [(6, .int r676), (0, .ref b), (1, .ref (L 0)), (2, .ref (L 106)), (3, .ref (L 123)), (4, .ref (L 124)), (5, .int (nI (5 * t)))]) hx hb dL_law_679 hl (by decide) rfl (fun ls hl => ?_)
  refine lv_aload_n hx hb dL_law_681 rfl (lv_at hl 3 rfl) ?_
  refine lv_aload_n hx hb dL_law_682 rfl (lv_at hl 1 rfl) ?_
  refine lv_iload hx hb dL_law_683 (lv_at hl 6 rfl) ?_
  refine lv_iconst (v := 1) hx hb dL_law_685 (by decide) ?_
  refine lv_iadd hx hb dL_law_686 ?_
  refine va_sld hx hb hX hbl hbA hS (i := (nI (5 * t)) + 1) (by rw [show nI (5 * t) + 1 = nI (5 * t + 1) from nI_add _ 1]; exact vp_in_nI (by omega) (by omega)) dL_law_687 ?_
  rw [← ea1]
  refine lv_aload_n hx hb dL_law_688 rfl (lv_at hl 1 rfl) ?_
  refine lv_iload hx hb dL_law_689 (lv_at hl 6 rfl) ?_
  refine lv_iconst (v := 2) hx hb dL_law_691 (by decide) ?_
  refine lv_iadd hx hb dL_law_692 ?_
  refine va_sld hx hb hX hbl hbA hS (i := (nI (5 * t)) + 2) (by rw [show nI (5 * t) + 2 = nI (5 * t + 2) from nI_add _ 2]; exact vp_in_nI (by omega) (by omega)) dL_law_693 ?_
  rw [← ea2]
  refine lv_aload_n hx hb dL_law_694 rfl (lv_at hl 1 rfl) ?_
  refine lv_iload hx hb dL_law_695 (lv_at hl 6 rfl) ?_
  refine lv_iconst (v := 3) hx hb dL_law_697 (by decide) ?_
  refine lv_iadd hx hb dL_law_698 ?_
  refine va_sld hx hb hX hbl hbA hS (i := (nI (5 * t)) + 3) (by rw [show nI (5 * t) + 3 = nI (5 * t + 3) from nI_add _ 3]; exact vp_in_nI (by omega) (by omega)) dL_law_699 ?_
  rw [← ea3]
  refine wx_calli (va_runV (As := [.int a1, .int a2, .int a3]) (rest := []) ⟨hx, hb, hml, hown, hts⟩ (m_deny l hst g s.heap.size 125 L (by omega) y ch (cw g L u676.1 ro2) nb nn hR.mi a1 a2 a3) (cwV 3 hts gL_law_X4_deny rfl rfl rfl (by decide +kernel) ⟨Nat.le_of_ble_eq_true rfl, Nat.le_of_ble_eq_true rfl⟩) (PW.preV3 (Nat.le_refl _) hJ hK hE hP hS (ci := 6) rfl (by omega) mw_o) rfl rfl hl.1 rfl (lv_room (Nat.le_of_ble_eq_true rfl)) dL_law_700 ⟨(by show _ ≤ 603072; omega), (by show _ ≤ 7215210; omega)⟩) hS (fun r700 u700 H locs h700 hP hS => ?_)
  obtain ⟨⟨nb2, nn2, hr2, hR2⟩, ho9⟩ := s_deny (f := f) (r2 := r700) ht9 hR ho hc h700
  refine lv_istore (lv' := [(7, .int r700), (6, .int r676), (0, .ref b), (1, .ref (L 0)), (2, .ref (L 106)), (3, .ref (L 123)), (4, .ref (L 124)), (5, .int (nI (5 * t)))]) hx hb dL_law_703 hl (by decide) rfl (fun ls hl => ?_)
  refine lv_goto (tgt := 1264) hx hb dL_law_705 (by decide) ?_
  exact hnext _ _ _ _ _ _ _ _ _ _ _ _ hR2 ho9 (by omega) (by omega) (by rw [cw_mw]; exact hP) hS (lv_sub hl [2, 3, 4, 5, 6, 7] rfl)

set_option maxHeartbeats 8000000 in
set_option maxRecDepth 100000 in
theorem law_c13 {p : Program} {e : Env} {s : State} {m : MethodId} {below : List Frame} {meth : Method} {c : Code} (l : Launch) (hst : l.stackTraces = false) {b N : Nat} {xs : Nat → Int32} (hN : N ≤ 2560) (C0 : lw_At p s m meth c b N xs) (g : gE) (L : Nat → Nat) (hJ : wj 125 L (fun q : Nat => s.heap.size ≤ q)) (hK : va_K g.1 vwCl (tysC g) s) (hE : EE SS (fun q : Nat => s.heap.size ≤ q) s) {t : Nat} (ht : 5 * t + 5 ≤ N) {x y : St} {ch : Int64} {nb nn hr : Nat} {ro : Nat → va_E} (hR : R2 x y ch nb nn hr t) (ho : outOK g ro) {cl sl : Nat} (hcl : cl + 100 ≤ 603072) (hsl : sl + 1000 ≤ 7215210) {H : Heap} {locs : List Loc} (hP : va_P g.1 vwCl (wl 125 L (cw g L x (mw g L y ch ro))) H) (hS : va_S (fun q : Nat => s.heap.size ≤ q) s.heap H locs) {ls : Array Slot} (hl : lv_has ls 9 [(0, .ref b), (1, .ref (L 0)), (2, .ref (L 106)), (3, .ref (L 123)), (4, .ref (L 124)), (5, .int (nI (5 * t)))]) (hnext : ∀ (x2 y2 : St) (ch2 : Int64) (nb2 nn2 hr2 : Nat) (ro2 : Nat → va_E) (cl2 sl2 : Nat) (H : Heap) (locs : List Loc) (ls : Array Slot), R2 x2 y2 ch2 nb2 nn2 hr2 (t + 1) → outOK g ro2 → cl2 ≤ cl + 8 → sl2 ≤ sl + 48 → va_P g.1 vwCl (wl 125 L (cw g L x2 (mw g L y2 ch2 ro2))) H → va_S (fun q : Nat => s.heap.size ≤ q) s.heap H locs → lv_has ls 9 [(0, .ref b), (1, .ref (L 0)), (2, .ref (L 106)), (3, .ref (L 123)), (4, .ref (L 124)), (5, .int (nI (5 * t)))] → W p l e room_1 s m #[Value.ref b] below meth c H locs cl2 sl2 (lw_Z below #[Value.ref b] s) (F0 m 1264 ls [])) : W p l e room_1 s m #[Value.ref b] below meth c H locs cl sl (lw_Z below #[Value.ref b] s) (F0 m 708 ls []) := by
  obtain ⟨hx, hb, hr9, hml, hown, hts0, hX, hbl, hlocks, hgv⟩ := id C0
  have hown : s.vm.findClass RL = some m.cls := hown
  have hts : ∀ w ∈ wsL_law, w.before #[Value.ref b] s = true := fun w h => hts0 w (wsL_law_in w h)
  have hbA : ¬ (fun q : Nat => s.heap.size ≤ q) b := Nat.not_le.mpr hbl
  have hn : 125 ≤ 125 := Nat.le_refl _
  have hG := hR.gi
  have hnb := hG.nb6
  have hx0 := hG.x0
  have hnn := hG.nn40
  have hx1 := hG.x1
  have hsh := hG.sh
  have hrk := hG.rk
  have hbz := hR.b14
  obtain ⟨cnt, hcn, hx4⟩ := hR.cnt
  obtain ⟨⟨f, ho1⟩, ⟨fd, ho2⟩⟩ := id ho
  have htc : ∀ b, b < 6 → (fun b => (x 19 b 0).toNatClampNeg) b ≤ 1920 := fun b hb => hG.tc hb
  have hx19 : ∀ b, b < 6 → x 19 b 0 = nI ((fun b => (x 19 b 0).toNatClampNeg) b) := fun b hb => hG.x19 hb
  generalize (fun b => (x 19 b 0).toNatClampNeg) = tcs at htc hx19
  have hhr := hR.hr
  have hyh := hR.y1
  obtain ⟨a1, ea1⟩ : ∃ a, a = xs (nI (5 * t) + 1).toNatClampNeg := ⟨_, rfl⟩
  obtain ⟨a2, ea2⟩ : ∃ a, a = xs (nI (5 * t) + 2).toNatClampNeg := ⟨_, rfl⟩
  obtain ⟨a3, ea3⟩ : ∃ a, a = xs (nI (5 * t) + 3).toNatClampNeg := ⟨_, rfl⟩
  obtain ⟨a4, ea4⟩ : ∃ a, a = xs (nI (5 * t) + 4).toNatClampNeg := ⟨_, rfl⟩
  have ht9 : t < 512 := by omega
  refine lv_aload_n hx hb dL_law_708 rfl (lv_at hl 1 rfl) ?_
  refine lv_aload_n hx hb dL_law_709 rfl (lv_at hl 0 rfl) ?_
  refine lv_iload hx hb dL_law_710 (lv_at hl 5 rfl) ?_
  refine lv_iconst (v := 1) hx hb dL_law_712 (by decide) ?_
  refine lv_iadd hx hb dL_law_713 ?_
  refine va_sld hx hb hX hbl hbA hS (i := (nI (5 * t)) + 1) (by rw [show nI (5 * t) + 1 = nI (5 * t + 1) from nI_add _ 1]; exact vp_in_nI (by omega) (by omega)) dL_law_714 ?_
  rw [← ea1]
  refine lv_aload_n hx hb dL_law_715 rfl (lv_at hl 3 rfl) ?_
  refine wx_calli (vx_runSW (As := [.ref (L 0), .int a1, .ref (L 123)]) (rest := []) ⟨hx, hb, hml, hown, hts⟩ (kl_queued l hst g s.heap.size 125 L (by omega) x (mw g L y ch ro) nn hnn hx1 a1 f ((mw_ge (by decide)).trans ho1)) (vx_cwSW 3 hts gL_law_L_queued rfl rfl rfl (by decide +kernel) ⟨Nat.le_of_ble_eq_true rfl, Nat.le_of_ble_eq_true rfl⟩) (PW.preS3 (Nat.le_refl _) hJ hK hE hP hS) rfl rfl hl.1 rfl (lv_room (Nat.le_of_ble_eq_true rfl)) dL_law_716 ⟨(by show _ ≤ 603072; omega), (by show _ ≤ 7215210; omega)⟩) hS (fun r716 u716 H locs h716 hP hS => ?_)
  obtain ⟨ro2, e9, hc⟩ := c_queued (nb := nb) (nn := nn) h716
  rw [e9, cw_mw] at hP
  refine lv_istore (lv' := [(6, .int r716), (0, .ref b), (1, .ref (L 0)), (2, .ref (L 106)), (3, .ref (L 123)), (4, .ref (L 124)), (5, .int (nI (5 * t)))]) hx hb dL_law_719 hl (by decide) rfl (fun ls hl => ?_)
  refine lv_aload_n hx hb dL_law_721 rfl (lv_at hl 3 rfl) ?_
  refine lv_aload_n hx hb dL_law_722 rfl (lv_at hl 1 rfl) ?_
  refine lv_iload hx hb dL_law_723 (lv_at hl 6 rfl) ?_
  refine lv_iconst (v := 1) hx hb dL_law_725 (by decide) ?_
  refine lv_iadd hx hb dL_law_726 ?_
  refine va_sld hx hb hX hbl hbA hS (i := (nI (5 * t)) + 1) (by rw [show nI (5 * t) + 1 = nI (5 * t + 1) from nI_add _ 1]; exact vp_in_nI (by omega) (by omega)) dL_law_727 ?_
  rw [← ea1]
  refine wx_calli (va_runV (As := [.int a1]) (rest := []) ⟨hx, hb, hml, hown, hts⟩ (m_queued l hst g s.heap.size 125 L (by omega) y ch (cw g L u716.1 ro2) nb nn hR.mi a1) (cwV 1 hts gL_law_X4_queued rfl rfl rfl (by decide +kernel) ⟨Nat.le_of_ble_eq_true rfl, Nat.le_of_ble_eq_true rfl⟩) (PW.preV3 (Nat.le_refl _) hJ hK hE hP hS (ci := 6) rfl (by omega) mw_o) rfl rfl hl.1 rfl (lv_room (Nat.le_of_ble_eq_true rfl)) dL_law_728 ⟨(by show _ ≤ 603072; omega), (by show _ ≤ 7215210; omega)⟩) hS (fun r728 u728 H locs h728 hP hS => ?_)
  obtain ⟨⟨nb2, nn2, hr2, hR2⟩, ho9⟩ := s_queued (f := f) (r2 := r728) ht9 hR ho hc h728
  refine lv_istore (lv' := [(7, .int r728), (6, .int r716), (0, .ref b), (1, .ref (L 0)), (2, .ref (L 106)), (3, .ref (L 123)), (4, .ref (L 124)), (5, .int (nI (5 * t)))]) hx hb dL_law_731 hl (by decide) rfl (fun ls hl => ?_)
  refine lv_goto (tgt := 1264) hx hb dL_law_733 (by decide) ?_
  exact hnext _ _ _ _ _ _ _ _ _ _ _ _ hR2 ho9 (by omega) (by omega) (by rw [cw_mw]; exact hP) hS (lv_sub hl [2, 3, 4, 5, 6, 7] rfl)

set_option maxHeartbeats 8000000 in
set_option maxRecDepth 100000 in
theorem law_c14 {p : Program} {e : Env} {s : State} {m : MethodId} {below : List Frame} {meth : Method} {c : Code} (l : Launch) (hst : l.stackTraces = false) {b N : Nat} {xs : Nat → Int32} (hN : N ≤ 2560) (C0 : lw_At p s m meth c b N xs) (g : gE) (L : Nat → Nat) (hJ : wj 125 L (fun q : Nat => s.heap.size ≤ q)) (hK : va_K g.1 vwCl (tysC g) s) (hE : EE SS (fun q : Nat => s.heap.size ≤ q) s) {t : Nat} (ht : 5 * t + 5 ≤ N) {x y : St} {ch : Int64} {nb nn hr : Nat} {ro : Nat → va_E} (hR : R2 x y ch nb nn hr t) (ho : outOK g ro) {cl sl : Nat} (hcl : cl + 100 ≤ 603072) (hsl : sl + 1000 ≤ 7215210) {H : Heap} {locs : List Loc} (hP : va_P g.1 vwCl (wl 125 L (cw g L x (mw g L y ch ro))) H) (hS : va_S (fun q : Nat => s.heap.size ≤ q) s.heap H locs) {ls : Array Slot} (hl : lv_has ls 9 [(0, .ref b), (1, .ref (L 0)), (2, .ref (L 106)), (3, .ref (L 123)), (4, .ref (L 124)), (5, .int (nI (5 * t)))]) (hnext : ∀ (x2 y2 : St) (ch2 : Int64) (nb2 nn2 hr2 : Nat) (ro2 : Nat → va_E) (cl2 sl2 : Nat) (H : Heap) (locs : List Loc) (ls : Array Slot), R2 x2 y2 ch2 nb2 nn2 hr2 (t + 1) → outOK g ro2 → cl2 ≤ cl + 8 → sl2 ≤ sl + 48 → va_P g.1 vwCl (wl 125 L (cw g L x2 (mw g L y2 ch2 ro2))) H → va_S (fun q : Nat => s.heap.size ≤ q) s.heap H locs → lv_has ls 9 [(0, .ref b), (1, .ref (L 0)), (2, .ref (L 106)), (3, .ref (L 123)), (4, .ref (L 124)), (5, .int (nI (5 * t)))] → W p l e room_1 s m #[Value.ref b] below meth c H locs cl2 sl2 (lw_Z below #[Value.ref b] s) (F0 m 1264 ls [])) : W p l e room_1 s m #[Value.ref b] below meth c H locs cl sl (lw_Z below #[Value.ref b] s) (F0 m 736 ls []) := by
  obtain ⟨hx, hb, hr9, hml, hown, hts0, hX, hbl, hlocks, hgv⟩ := id C0
  have hown : s.vm.findClass RL = some m.cls := hown
  have hts : ∀ w ∈ wsL_law, w.before #[Value.ref b] s = true := fun w h => hts0 w (wsL_law_in w h)
  have hbA : ¬ (fun q : Nat => s.heap.size ≤ q) b := Nat.not_le.mpr hbl
  have hn : 125 ≤ 125 := Nat.le_refl _
  have hG := hR.gi
  have hnb := hG.nb6
  have hx0 := hG.x0
  have hnn := hG.nn40
  have hx1 := hG.x1
  have hsh := hG.sh
  have hrk := hG.rk
  have hbz := hR.b14
  obtain ⟨cnt, hcn, hx4⟩ := hR.cnt
  obtain ⟨⟨f, ho1⟩, ⟨fd, ho2⟩⟩ := id ho
  have htc : ∀ b, b < 6 → (fun b => (x 19 b 0).toNatClampNeg) b ≤ 1920 := fun b hb => hG.tc hb
  have hx19 : ∀ b, b < 6 → x 19 b 0 = nI ((fun b => (x 19 b 0).toNatClampNeg) b) := fun b hb => hG.x19 hb
  generalize (fun b => (x 19 b 0).toNatClampNeg) = tcs at htc hx19
  have hhr := hR.hr
  have hyh := hR.y1
  obtain ⟨a1, ea1⟩ : ∃ a, a = xs (nI (5 * t) + 1).toNatClampNeg := ⟨_, rfl⟩
  obtain ⟨a2, ea2⟩ : ∃ a, a = xs (nI (5 * t) + 2).toNatClampNeg := ⟨_, rfl⟩
  obtain ⟨a3, ea3⟩ : ∃ a, a = xs (nI (5 * t) + 3).toNatClampNeg := ⟨_, rfl⟩
  obtain ⟨a4, ea4⟩ : ∃ a, a = xs (nI (5 * t) + 4).toNatClampNeg := ⟨_, rfl⟩
  have ht9 : t < 512 := by omega
  refine lv_aload_n hx hb dL_law_736 rfl (lv_at hl 1 rfl) ?_
  refine lv_aload_n hx hb dL_law_737 rfl (lv_at hl 0 rfl) ?_
  refine lv_iload hx hb dL_law_738 (lv_at hl 5 rfl) ?_
  refine lv_iconst (v := 1) hx hb dL_law_740 (by decide) ?_
  refine lv_iadd hx hb dL_law_741 ?_
  refine va_sld hx hb hX hbl hbA hS (i := (nI (5 * t)) + 1) (by rw [show nI (5 * t) + 1 = nI (5 * t + 1) from nI_add _ 1]; exact vp_in_nI (by omega) (by omega)) dL_law_742 ?_
  rw [← ea1]
  refine lv_aload_n hx hb dL_law_743 rfl (lv_at hl 0 rfl) ?_
  refine lv_iload hx hb dL_law_744 (lv_at hl 5 rfl) ?_
  refine lv_iconst (v := 2) hx hb dL_law_746 (by decide) ?_
  refine lv_iadd hx hb dL_law_747 ?_
  refine va_sld hx hb hX hbl hbA hS (i := (nI (5 * t)) + 2) (by rw [show nI (5 * t) + 2 = nI (5 * t + 2) from nI_add _ 2]; exact vp_in_nI (by omega) (by omega)) dL_law_748 ?_
  rw [← ea2]
  refine lv_aload_n hx hb dL_law_749 rfl (lv_at hl 3 rfl) ?_
  refine wx_calli (vx_runSW (As := [.ref (L 0), .int a1, .int a2, .ref (L 123)]) (rest := []) ⟨hx, hb, hml, hown, hts⟩ (kl_queuedAt l hst g s.heap.size 125 L (by omega) x (mw g L y ch ro) nn hnn hx1 hrk a1 a2 f ((mw_ge (by decide)).trans ho1)) (vx_cwSW 4 hts gL_law_L_queuedAt rfl rfl rfl (by decide +kernel) ⟨Nat.le_of_ble_eq_true rfl, Nat.le_of_ble_eq_true rfl⟩) (PW.preS3 (Nat.le_refl _) hJ hK hE hP hS) rfl rfl hl.1 rfl (lv_room (Nat.le_of_ble_eq_true rfl)) dL_law_750 ⟨(by show _ ≤ 603072; omega), (by show _ ≤ 7215210; omega)⟩) hS (fun r750 u750 H locs h750 hP hS => ?_)
  obtain ⟨ro2, e9, hc⟩ := c_queuedAt (nb := nb) (nn := nn) h750
  rw [e9, cw_mw] at hP
  refine lv_istore (lv' := [(6, .int r750), (0, .ref b), (1, .ref (L 0)), (2, .ref (L 106)), (3, .ref (L 123)), (4, .ref (L 124)), (5, .int (nI (5 * t)))]) hx hb dL_law_753 hl (by decide) rfl (fun ls hl => ?_)
  refine lv_aload_n hx hb dL_law_755 rfl (lv_at hl 3 rfl) ?_
  refine lv_aload_n hx hb dL_law_756 rfl (lv_at hl 1 rfl) ?_
  refine lv_iload hx hb dL_law_757 (lv_at hl 6 rfl) ?_
  refine lv_iconst (v := 1) hx hb dL_law_759 (by decide) ?_
  refine lv_iadd hx hb dL_law_760 ?_
  refine va_sld hx hb hX hbl hbA hS (i := (nI (5 * t)) + 1) (by rw [show nI (5 * t) + 1 = nI (5 * t + 1) from nI_add _ 1]; exact vp_in_nI (by omega) (by omega)) dL_law_761 ?_
  rw [← ea1]
  refine lv_aload_n hx hb dL_law_762 rfl (lv_at hl 1 rfl) ?_
  refine lv_iload hx hb dL_law_763 (lv_at hl 6 rfl) ?_
  refine lv_iconst (v := 2) hx hb dL_law_765 (by decide) ?_
  refine lv_iadd hx hb dL_law_766 ?_
  refine va_sld hx hb hX hbl hbA hS (i := (nI (5 * t)) + 2) (by rw [show nI (5 * t) + 2 = nI (5 * t + 2) from nI_add _ 2]; exact vp_in_nI (by omega) (by omega)) dL_law_767 ?_
  rw [← ea2]
  refine wx_calli (va_runV (As := [.int a1, .int a2]) (rest := []) ⟨hx, hb, hml, hown, hts⟩ (m_queuedAt l hst g s.heap.size 125 L (by omega) y ch (cw g L u750.1 ro2) nb nn hR.mi a1 a2) (cwV 2 hts gL_law_X4_queuedAt rfl rfl rfl (by decide +kernel) ⟨Nat.le_of_ble_eq_true rfl, Nat.le_of_ble_eq_true rfl⟩) (PW.preV3 (Nat.le_refl _) hJ hK hE hP hS (ci := 6) rfl (by omega) mw_o) rfl rfl hl.1 rfl (lv_room (Nat.le_of_ble_eq_true rfl)) dL_law_768 ⟨(by show _ ≤ 603072; omega), (by show _ ≤ 7215210; omega)⟩) hS (fun r768 u768 H locs h768 hP hS => ?_)
  obtain ⟨⟨nb2, nn2, hr2, hR2⟩, ho9⟩ := s_queuedAt (f := f) (r2 := r768) ht9 hR ho hc h768
  refine lv_istore (lv' := [(7, .int r768), (6, .int r750), (0, .ref b), (1, .ref (L 0)), (2, .ref (L 106)), (3, .ref (L 123)), (4, .ref (L 124)), (5, .int (nI (5 * t)))]) hx hb dL_law_771 hl (by decide) rfl (fun ls hl => ?_)
  refine lv_goto (tgt := 1264) hx hb dL_law_773 (by decide) ?_
  exact hnext _ _ _ _ _ _ _ _ _ _ _ _ hR2 ho9 (by omega) (by omega) (by rw [cw_mw]; exact hP) hS (lv_sub hl [2, 3, 4, 5, 6, 7] rfl)

set_option maxHeartbeats 8000000 in
set_option maxRecDepth 100000 in
theorem law_c15 {p : Program} {e : Env} {s : State} {m : MethodId} {below : List Frame} {meth : Method} {c : Code} (l : Launch) (hst : l.stackTraces = false) {b N : Nat} {xs : Nat → Int32} (hN : N ≤ 2560) (C0 : lw_At p s m meth c b N xs) (g : gE) (L : Nat → Nat) (hJ : wj 125 L (fun q : Nat => s.heap.size ≤ q)) (hK : va_K g.1 vwCl (tysC g) s) (hE : EE SS (fun q : Nat => s.heap.size ≤ q) s) {t : Nat} (ht : 5 * t + 5 ≤ N) {x y : St} {ch : Int64} {nb nn hr : Nat} {ro : Nat → va_E} (hR : R2 x y ch nb nn hr t) (ho : outOK g ro) {cl sl : Nat} (hcl : cl + 100 ≤ 603072) (hsl : sl + 1000 ≤ 7215210) {H : Heap} {locs : List Loc} (hP : va_P g.1 vwCl (wl 125 L (cw g L x (mw g L y ch ro))) H) (hS : va_S (fun q : Nat => s.heap.size ≤ q) s.heap H locs) {ls : Array Slot} (hl : lv_has ls 9 [(0, .ref b), (1, .ref (L 0)), (2, .ref (L 106)), (3, .ref (L 123)), (4, .ref (L 124)), (5, .int (nI (5 * t)))]) (hnext : ∀ (x2 y2 : St) (ch2 : Int64) (nb2 nn2 hr2 : Nat) (ro2 : Nat → va_E) (cl2 sl2 : Nat) (H : Heap) (locs : List Loc) (ls : Array Slot), R2 x2 y2 ch2 nb2 nn2 hr2 (t + 1) → outOK g ro2 → cl2 ≤ cl + 8 → sl2 ≤ sl + 48 → va_P g.1 vwCl (wl 125 L (cw g L x2 (mw g L y2 ch2 ro2))) H → va_S (fun q : Nat => s.heap.size ≤ q) s.heap H locs → lv_has ls 9 [(0, .ref b), (1, .ref (L 0)), (2, .ref (L 106)), (3, .ref (L 123)), (4, .ref (L 124)), (5, .int (nI (5 * t)))] → W p l e room_1 s m #[Value.ref b] below meth c H locs cl2 sl2 (lw_Z below #[Value.ref b] s) (F0 m 1264 ls [])) : W p l e room_1 s m #[Value.ref b] below meth c H locs cl sl (lw_Z below #[Value.ref b] s) (F0 m 776 ls []) := by
  obtain ⟨hx, hb, hr9, hml, hown, hts0, hX, hbl, hlocks, hgv⟩ := id C0
  have hown : s.vm.findClass RL = some m.cls := hown
  have hts : ∀ w ∈ wsL_law, w.before #[Value.ref b] s = true := fun w h => hts0 w (wsL_law_in w h)
  have hbA : ¬ (fun q : Nat => s.heap.size ≤ q) b := Nat.not_le.mpr hbl
  have hn : 125 ≤ 125 := Nat.le_refl _
  have hG := hR.gi
  have hnb := hG.nb6
  have hx0 := hG.x0
  have hnn := hG.nn40
  have hx1 := hG.x1
  have hsh := hG.sh
  have hrk := hG.rk
  have hbz := hR.b14
  obtain ⟨cnt, hcn, hx4⟩ := hR.cnt
  obtain ⟨⟨f, ho1⟩, ⟨fd, ho2⟩⟩ := id ho
  have htc : ∀ b, b < 6 → (fun b => (x 19 b 0).toNatClampNeg) b ≤ 1920 := fun b hb => hG.tc hb
  have hx19 : ∀ b, b < 6 → x 19 b 0 = nI ((fun b => (x 19 b 0).toNatClampNeg) b) := fun b hb => hG.x19 hb
  generalize (fun b => (x 19 b 0).toNatClampNeg) = tcs at htc hx19
  have hhr := hR.hr
  have hyh := hR.y1
  obtain ⟨a1, ea1⟩ : ∃ a, a = xs (nI (5 * t) + 1).toNatClampNeg := ⟨_, rfl⟩
  obtain ⟨a2, ea2⟩ : ∃ a, a = xs (nI (5 * t) + 2).toNatClampNeg := ⟨_, rfl⟩
  obtain ⟨a3, ea3⟩ : ∃ a, a = xs (nI (5 * t) + 3).toNatClampNeg := ⟨_, rfl⟩
  obtain ⟨a4, ea4⟩ : ∃ a, a = xs (nI (5 * t) + 4).toNatClampNeg := ⟨_, rfl⟩
  have ht9 : t < 512 := by omega
  refine lv_aload_n hx hb dL_law_776 rfl (lv_at hl 1 rfl) ?_
  refine lv_aload_n hx hb dL_law_777 rfl (lv_at hl 0 rfl) ?_
  refine lv_iload hx hb dL_law_778 (lv_at hl 5 rfl) ?_
  refine lv_iconst (v := 1) hx hb dL_law_780 (by decide) ?_
  refine lv_iadd hx hb dL_law_781 ?_
  refine va_sld hx hb hX hbl hbA hS (i := (nI (5 * t)) + 1) (by rw [show nI (5 * t) + 1 = nI (5 * t + 1) from nI_add _ 1]; exact vp_in_nI (by omega) (by omega)) dL_law_782 ?_
  rw [← ea1]
  refine lv_aload_n hx hb dL_law_783 rfl (lv_at hl 3 rfl) ?_
  refine wx_calli (vx_runSW (As := [.ref (L 0), .int a1, .ref (L 123)]) (rest := []) ⟨hx, hb, hml, hown, hts⟩ (kl_isDue l hst g s.heap.size 125 L (by omega) x (mw g L y ch ro) nn hnn hx1 a1 f ((mw_ge (by decide)).trans ho1)) (vx_cwSW 3 hts gL_law_L_isDue rfl rfl rfl (by decide +kernel) ⟨Nat.le_of_ble_eq_true rfl, Nat.le_of_ble_eq_true rfl⟩) (PW.preS3 (Nat.le_refl _) hJ hK hE hP hS) rfl rfl hl.1 rfl (lv_room (Nat.le_of_ble_eq_true rfl)) dL_law_784 ⟨(by show _ ≤ 603072; omega), (by show _ ≤ 7215210; omega)⟩) hS (fun r784 u784 H locs h784 hP hS => ?_)
  obtain ⟨ro2, e9, hc⟩ := c_isDue (nb := nb) (nn := nn) h784
  rw [e9, cw_mw] at hP
  refine lv_istore (lv' := [(6, .int r784), (0, .ref b), (1, .ref (L 0)), (2, .ref (L 106)), (3, .ref (L 123)), (4, .ref (L 124)), (5, .int (nI (5 * t)))]) hx hb dL_law_787 hl (by decide) rfl (fun ls hl => ?_)
  refine lv_aload_n hx hb dL_law_789 rfl (lv_at hl 3 rfl) ?_
  refine lv_aload_n hx hb dL_law_790 rfl (lv_at hl 1 rfl) ?_
  refine lv_iload hx hb dL_law_791 (lv_at hl 6 rfl) ?_
  refine lv_iconst (v := 1) hx hb dL_law_793 (by decide) ?_
  refine lv_iadd hx hb dL_law_794 ?_
  refine va_sld hx hb hX hbl hbA hS (i := (nI (5 * t)) + 1) (by rw [show nI (5 * t) + 1 = nI (5 * t + 1) from nI_add _ 1]; exact vp_in_nI (by omega) (by omega)) dL_law_795 ?_
  rw [← ea1]
  refine wx_calli (va_runV (As := [.int a1]) (rest := []) ⟨hx, hb, hml, hown, hts⟩ (m_isDue l hst g s.heap.size 125 L (by omega) y ch (cw g L u784.1 ro2) nb nn hR.mi a1) (cwV 1 hts gL_law_X4_isDue rfl rfl rfl (by decide +kernel) ⟨Nat.le_of_ble_eq_true rfl, Nat.le_of_ble_eq_true rfl⟩) (PW.preV3 (Nat.le_refl _) hJ hK hE hP hS (ci := 6) rfl (by omega) mw_o) rfl rfl hl.1 rfl (lv_room (Nat.le_of_ble_eq_true rfl)) dL_law_796 ⟨(by show _ ≤ 603072; omega), (by show _ ≤ 7215210; omega)⟩) hS (fun r796 u796 H locs h796 hP hS => ?_)
  obtain ⟨⟨nb2, nn2, hr2, hR2⟩, ho9⟩ := s_isDue (f := f) (r2 := r796) ht9 hR ho hc h796
  refine lv_istore (lv' := [(7, .int r796), (6, .int r784), (0, .ref b), (1, .ref (L 0)), (2, .ref (L 106)), (3, .ref (L 123)), (4, .ref (L 124)), (5, .int (nI (5 * t)))]) hx hb dL_law_799 hl (by decide) rfl (fun ls hl => ?_)
  refine lv_goto (tgt := 1264) hx hb dL_law_801 (by decide) ?_
  exact hnext _ _ _ _ _ _ _ _ _ _ _ _ hR2 ho9 (by omega) (by omega) (by rw [cw_mw]; exact hP) hS (lv_sub hl [2, 3, 4, 5, 6, 7] rfl)

end LWC
