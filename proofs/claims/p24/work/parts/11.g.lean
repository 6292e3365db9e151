/-! laid by wip/gen/gspec.py -/
set_option maxHeartbeats 4000000 in
set_option maxRecDepth 100000 in
theorem k_charge (l : Launch) (hst : l.stackTraces = false) (g : gE) (base n : Nat) (L : Nat → Nat) (hn : 106 ≤ n) (x : St) (r0 : Nat → va_E) (nb : Nat) (hnb : nb ≤ 6) (hx0 : x 0 0 0 = nI nb) (p0 : Int32) : vx_Met l yX3_charge wsX3_charge ({ frames := 7, cells := 1, slots := 6, locals := 140 }) (va_Pc [.ref (L 0), .int p0] (PW SS g base n L (cw g L x r0))) (va_Qi (fun (r : Int32) (_ : Unit) => ∃ j, j < nb ∧ p0 = nI j ∧ r = x 11 j 0) (fun (u : Unit) t => PB g n L (cw g L x r0) t) (fun q => base ≤ q)) (QX g base n L (cw g L x r0) (fun E => E = "java/lang/IndexOutOfBoundsException" ∧ (p0.toInt < 0 ∨ nb ≤ p0.toInt))) 1 6 (fun q => base ≤ q) := by
  refine vx_ofW (cc := cX3_charge) (maxL := 2) (ret := (some .int)) (by decide) rfl ?_
  intro p e s m args below meth c s₁ B hml hno hv
  obtain ⟨rfl, hPW⟩ := hv
  obtain ⟨hbs, hJ, hP, hK, hE⟩ := id hPW
  have hx := B.exec
  have hb := B.bytes
  have hr := B.returns
  have hts := atoms_spec (ws := wsX3_charge) B.pre
  have hown : s.vm.findClass RX3 = some m.cls := findClass_of_methodNamed B.named
  have hlocks := B.notSynchronized
  have hS : va_S (fun q : Nat => base ≤ q) s.heap s.heap [] := va_S.rf
  have hl := lv_entry ([.ref (L 0), .int p0]) (n := 2) (Nat.le_of_ble_eq_true rfl)
  rw [lg_entry_eq]
  generalize (lg_sl ([.ref (L 0), .int p0]) ++ List.replicate (2 - (lg_sl ([.ref (L 0), .int p0])).length) Slot.unset).toArray = ls at hl ⊢
  have hl : lv_has ls 2 [(0, .ref (L 0)), (1, .int p0)] := hl
  have iX0 : ∀ w ∈ wsX00, w ∈ wsX3_charge := by decide +kernel
  refine lv_aload_n hx hb dX3_charge_0 rfl (lv_at hl 0 rfl) ?_
  refine lv_iload_n hx hb dX3_charge_1 rfl (lv_at hl 1 rfl) ?_
  refine wx_xcallr (G := fun u => 8 + 3 * u) (vx_runV (As := [.int p0]) (rest := []) ⟨hx, hb, hml, hown, hts⟩ (k_boardAt l hst g base n L (by omega) x r0 nb hnb hx0 p0) (cwV 1 hts gX3_charge_X3_boardAt rfl rfl rfl (by decide +kernel) ⟨Nat.le_of_ble_eq_true rfl, Nat.le_of_ble_eq_true rfl⟩) (hPW.preV hP hS (ci := 5) rfl (by omega) cw_d) rfl rfl hl.1 rfl (lv_room (Nat.le_of_ble_eq_true rfl)) dX3_charge_2 ⟨Nat.le_of_ble_eq_true rfl, Nat.le_of_ble_eq_true rfl⟩) hS (fun E ce q9 H locs hpx hP hS h1 h2 h3 => ?_) (fun u2 H locs h2 hP hS => ?_)
  · exact wx_out hno hlocks h1 h2 h3 (hpx) hP hS (Nat.le_of_ble_eq_true rfl) (Nat.le_of_ble_eq_true rfl)
  obtain ⟨hu2, eu2⟩ := h2
  refine wx_getN (D := g.1) (cl := vwCl) (ci := 2) (v := .int (x 11 u2 0)) (C := RX0) (T := TX0) (N := 12) hx hb hts iX0 hown hK hP (8 + 3 * u2) (by omega) (cw_b (by omega)) rfl 1 (by decide) (hE.1 _ (ng_in (w := (Cond.fieldLinkNest "FerroDesk" 73 "FerroDesk$Board" "charge" "I" "FerroDesk")) (by decide +kernel))) (fun _ h9 => h9) rfl dX3_charge_5 ?_
  refine W.widen (k := 1) (n := 6) (Nat.le_of_ble_eq_true rfl) (Nat.le_of_ble_eq_true rfl) ?_
  exact vx_ret (W.iret (v := x 11 u2 0) hx hb hr (fun t ht hW => ⟨⟨x 11 u2 0, (), rfl, ⟨u2, hu2, eu2, rfl⟩, PB.mk9 hP ht⟩, hS.F ht⟩) hS.2.2 dX3_charge_8)

set_option maxHeartbeats 4000000 in
set_option maxRecDepth 100000 in
theorem k_shift (l : Launch) (hst : l.stackTraces = false) (g : gE) (base n : Nat) (L : Nat → Nat) (hn : 106 ≤ n) (x : St) (r0 : Nat → va_E) (nb : Nat) (hnb : nb ≤ 6) (hx0 : x 0 0 0 = nI nb) (p0 : Int32) : vx_Met l yX3_shift wsX3_shift ({ frames := 7, cells := 1, slots := 6, locals := 140 }) (va_Pc [.ref (L 0), .int p0] (PW SS g base n L (cw g L x r0))) (va_Qi (fun (r : Int32) (_ : Unit) => ∃ j, j < nb ∧ p0 = nI j ∧ r = x 13 j 0) (fun (u : Unit) t => PB g n L (cw g L x r0) t) (fun q => base ≤ q)) (QX g base n L (cw g L x r0) (fun E => E = "java/lang/IndexOutOfBoundsException" ∧ (p0.toInt < 0 ∨ nb ≤ p0.toInt))) 1 6 (fun q => base ≤ q) := by
  refine vx_ofW (cc := cX3_shift) (maxL := 2) (ret := (some .int)) (by decide) rfl ?_
  intro p e s m args below meth c s₁ B hml hno hv
  obtain ⟨rfl, hPW⟩ := hv
  obtain ⟨hbs, hJ, hP, hK, hE⟩ := id hPW
  have hx := B.exec
  have hb := B.bytes
  have hr := B.returns
  have hts := atoms_spec (ws := wsX3_shift) B.pre
  have hown : s.vm.findClass RX3 = some m.cls := findClass_of_methodNamed B.named
  have hlocks := B.notSynchronized
  have hS : va_S (fun q : Nat => base ≤ q) s.heap s.heap [] := va_S.rf
  have hl := lv_entry ([.ref (L 0), .int p0]) (n := 2) (Nat.le_of_ble_eq_true rfl)
  rw [lg_entry_eq]
  generalize (lg_sl ([.ref (L 0), .int p0]) ++ List.replicate (2 - (lg_sl ([.ref (L 0), .int p0])).length) Slot.unset).toArray = ls at hl ⊢
  have hl : lv_has ls 2 [(0, .ref (L 0)), (1, .int p0)] := hl
  have iX0 : ∀ w ∈ wsX00, w ∈ wsX3_shift := by decide +kernel
  refine lv_aload_n hx hb dX3_shift_0 rfl (lv_at hl 0 rfl) ?_
  refine lv_iload_n hx hb dX3_shift_1 rfl (lv_at hl 1 rfl) ?_
  refine wx_xcallr (G := fun u => 8 + 3 * u) (vx_runV (As := [.int p0]) (rest := []) ⟨hx, hb, hml, hown, hts⟩ (k_boardAt l hst g base n L (by omega) x r0 nb hnb hx0 p0) (cwV 1 hts gX3_shift_X3_boardAt rfl rfl rfl (by decide +kernel) ⟨Nat.le_of_ble_eq_true rfl, Nat.le_of_ble_eq_true rfl⟩) (hPW.preV hP hS (ci := 5) rfl (by omega) cw_d) rfl rfl hl.1 rfl (lv_room (Nat.le_of_ble_eq_true rfl)) dX3_shift_2 ⟨Nat.le_of_ble_eq_true rfl, Nat.le_of_ble_eq_true rfl⟩) hS (fun E ce q9 H locs hpx hP hS h1 h2 h3 => ?_) (fun u2 H locs h2 hP hS => ?_)
  · exact wx_out hno hlocks h1 h2 h3 (hpx) hP hS (Nat.le_of_ble_eq_true rfl) (Nat.le_of_ble_eq_true rfl)
  obtain ⟨hu2, eu2⟩ := h2
  refine wx_getN (D := g.1) (cl := vwCl) (ci := 2) (v := .int (x 13 u2 0)) (C := RX0) (T := TX0) (N := 12) hx hb hts iX0 hown hK hP (8 + 3 * u2) (by omega) (cw_b (by omega)) rfl 3 (by decide) (hE.1 _ (ng_in (w := (Cond.fieldLinkNest "FerroDesk" 97 "FerroDesk$Board" "shiftedBy" "I" "FerroDesk")) (by decide +kernel))) (fun _ h9 => h9) rfl dX3_shift_5 ?_
  refine W.widen (k := 1) (n := 6) (Nat.le_of_ble_eq_true rfl) (Nat.le_of_ble_eq_true rfl) ?_
  exact vx_ret (W.iret (v := x 13 u2 0) hx hb hr (fun t ht hW => ⟨⟨x 13 u2 0, (), rfl, ⟨u2, hu2, eu2, rfl⟩, PB.mk9 hP ht⟩, hS.F ht⟩) hS.2.2 dX3_shift_8)

set_option maxHeartbeats 4000000 in
set_option maxRecDepth 100000 in
theorem k_sleeps (l : Launch) (hst : l.stackTraces = false) (g : gE) (base n : Nat) (L : Nat → Nat) (hn : 106 ≤ n) (x : St) (r0 : Nat → va_E) (nb : Nat) (hnb : nb ≤ 6) (hx0 : x 0 0 0 = nI nb) (hbz : ∀ b, b < 6 → x 14 b 0 = 0 ∨ x 14 b 0 = 1) (p0 : Int32) : vx_Met l yX3_sleeps wsX3_sleeps ({ frames := 7, cells := 1, slots := 6, locals := 140 }) (va_Pc [.ref (L 0), .int p0] (PW SS g base n L (cw g L x r0))) (va_Qi (fun (r : Int32) (_ : Unit) => ∃ j, j < nb ∧ p0 = nI j ∧ r = x 14 j 0) (fun (u : Unit) t => PB g n L (cw g L x r0) t) (fun q => base ≤ q)) (QX g base n L (cw g L x r0) (fun E => E = "java/lang/IndexOutOfBoundsException" ∧ (p0.toInt < 0 ∨ nb ≤ p0.toInt))) 1 6 (fun q => base ≤ q) := by
  refine vx_ofW (cc := cX3_sleeps) (maxL := 2) (ret := (some .boolean)) (by decide) rfl ?_
  intro p e s m args below meth c s₁ B hml hno hv
  obtain ⟨rfl, hPW⟩ := hv
  obtain ⟨hbs, hJ, hP, hK, hE⟩ := id hPW
  have hx := B.exec
  have hb := B.bytes
  have hr := B.returns
  have hts := atoms_spec (ws := wsX3_sleeps) B.pre
  have hown : s.vm.findClass RX3 = some m.cls := findClass_of_methodNamed B.named
  have hlocks := B.notSynchronized
  have hS : va_S (fun q : Nat => base ≤ q) s.heap s.heap [] := va_S.rf
  have hl := lv_entry ([.ref (L 0), .int p0]) (n := 2) (Nat.le_of_ble_eq_true rfl)
  rw [lg_entry_eq]
  generalize (lg_sl ([.ref (L 0), .int p0]) ++ List.replicate (2 - (lg_sl ([.ref (L 0), .int p0])).length) Slot.unset).toArray = ls at hl ⊢
  have hl : lv_has ls 2 [(0, .ref (L 0)), (1, .int p0)] := hl
  have iX0 : ∀ w ∈ wsX00, w ∈ wsX3_sleeps := by decide +kernel
  refine lv_aload_n hx hb dX3_sleeps_0 rfl (lv_at hl 0 rfl) ?_
  refine lv_iload_n hx hb dX3_sleeps_1 rfl (lv_at hl 1 rfl) ?_
  refine wx_xcallr (G := fun u => 8 + 3 * u) (vx_runV (As := [.int p0]) (rest := []) ⟨hx, hb, hml, hown, hts⟩ (k_boardAt l hst g base n L (by omega) x r0 nb hnb hx0 p0) (cwV 1 hts gX3_sleeps_X3_boardAt rfl rfl rfl (by decide +kernel) ⟨Nat.le_of_ble_eq_true rfl, Nat.le_of_ble_eq_true rfl⟩) (hPW.preV hP hS (ci := 5) rfl (by omega) cw_d) rfl rfl hl.1 rfl (lv_room (Nat.le_of_ble_eq_true rfl)) dX3_sleeps_2 ⟨Nat.le_of_ble_eq_true rfl, Nat.le_of_ble_eq_true rfl⟩) hS (fun E ce q9 H locs hpx hP hS h1 h2 h3 => ?_) (fun u2 H locs h2 hP hS => ?_)
  · exact wx_out hno hlocks h1 h2 h3 (hpx) hP hS (Nat.le_of_ble_eq_true rfl) (Nat.le_of_ble_eq_true rfl)
  obtain ⟨hu2, eu2⟩ := h2
  refine wx_getN (D := g.1) (cl := vwCl) (ci := 2) (v := .int (x 14 u2 0)) (C := RX0) (T := TX0) (N := 12) hx hb hts iX0 hown hK hP (8 + 3 * u2) (by omega) (cw_b (by omega)) rfl 4 (by decide) (hE.1 _ (ng_in (w := (Cond.fieldLinkNest "FerroDesk" 100 "FerroDesk$Board" "asleep" "Z" "FerroDesk")) (by decide +kernel))) (fun _ h9 => h9) rfl dX3_sleeps_5 ?_
  refine W.widen (k := 1) (n := 6) (Nat.le_of_ble_eq_true rfl) (Nat.le_of_ble_eq_true rfl) ?_
  exact vx_ret (W.zret (v := x 14 u2 0) hx hb hr ((hbz u2 (by omega)).elim (fun h9 => by rw [h9]; decide) (fun h9 => by rw [h9]; decide)) (fun t ht hW => ⟨⟨x 14 u2 0, (), rfl, ⟨u2, hu2, eu2, rfl⟩, PB.mk9 hP ht⟩, hS.F ht⟩) hS.2.2 dX3_sleeps_8)

set_option maxHeartbeats 4000000 in
set_option maxRecDepth 100000 in
theorem k_wear (l : Launch) (hst : l.stackTraces = false) (g : gE) (base n : Nat) (L : Nat → Nat) (hn : 106 ≤ n) (x : St) (r0 : Nat → va_E) (nb : Nat) (hnb : nb ≤ 6) (hx0 : x 0 0 0 = nI nb) (p0 p1 p2 : Int32) : vx_Met l yX3_wear wsX3_wear ({ frames := 7, cells := 2, slots := 12, locals := 140 }) (va_Pc [.ref (L 0), .int p0, .int p1, .int p2] (PW SS g base n L (cw g L x r0))) (va_Qi (fun (r : Int32) (_ : Unit) => ∃ j, j < nb ∧ p0 = nI j ∧ (0 ≤ p1.toInt ∧ p1.toInt < 8 ∧ 0 ≤ p2.toInt ∧ p2.toInt < 4) ∧ r = wearF x j (8 * p2 + p1)) (fun (u : Unit) t => PB g n L (cw g L x r0) t) (fun q => base ≤ q)) (QX g base n L (cw g L x r0) (fun E => E = "java/lang/IndexOutOfBoundsException" ∧ ((p0.toInt < 0 ∨ nb ≤ p0.toInt) ∨ ¬ (0 ≤ p1.toInt ∧ p1.toInt < 8 ∧ 0 ≤ p2.toInt ∧ p2.toInt < 4)))) 2 12 (fun q => base ≤ q) := by
  refine vx_ofW (cc := cX3_wear) (maxL := 5) (ret := (some .int)) (by decide) rfl ?_
  intro p e s m args below meth c s₁ B hml hno hv
  obtain ⟨rfl, hPW⟩ := hv
  obtain ⟨hbs, hJ, hP, hK, hE⟩ := id hPW
  have hx := B.exec
  have hb := B.bytes
  have hr := B.returns
  have hts := atoms_spec (ws := wsX3_wear) B.pre
  have hown : s.vm.findClass RX3 = some m.cls := findClass_of_methodNamed B.named
  have hlocks := B.notSynchronized
  have hS : va_S (fun q : Nat => base ≤ q) s.heap s.heap [] := va_S.rf
  have hl := lv_entry ([.ref (L 0), .int p0, .int p1, .int p2]) (n := 5) (Nat.le_of_ble_eq_true rfl)
  rw [lg_entry_eq]
  generalize (lg_sl ([.ref (L 0), .int p0, .int p1, .int p2]) ++ List.replicate (5 - (lg_sl ([.ref (L 0), .int p0, .int p1, .int p2])).length) Slot.unset).toArray = ls at hl ⊢
  have hl : lv_has ls 5 [(0, .ref (L 0)), (1, .int p0), (2, .int p1), (3, .int p2)] := hl
  refine lv_aload_n hx hb dX3_wear_0 rfl (lv_at hl 0 rfl) ?_
  refine lv_iload_n hx hb dX3_wear_1 rfl (lv_at hl 1 rfl) ?_
  refine wx_xcallr (G := fun u => 8 + 3 * u) (vx_runV (As := [.int p0]) (rest := []) ⟨hx, hb, hml, hown, hts⟩ (k_boardAt l hst g base n L (by omega) x r0 nb hnb hx0 p0) (cwV 1 hts gX3_wear_X3_boardAt rfl rfl rfl (by decide +kernel) ⟨Nat.le_of_ble_eq_true rfl, Nat.le_of_ble_eq_true rfl⟩) (hPW.preV hP hS (ci := 5) rfl (by omega) cw_d) rfl rfl hl.1 rfl (lv_room (Nat.le_of_ble_eq_true rfl)) dX3_wear_2 ⟨Nat.le_of_ble_eq_true rfl, Nat.le_of_ble_eq_true rfl⟩) hS (fun E ce q9 H locs hpx hP hS h1 h2 h3 => ?_) (fun u2 H locs h2 hP hS => ?_)
  · exact wx_out hno hlocks h1 h2 h3 (⟨hpx.1, Or.inl hpx.2⟩) hP hS (Nat.le_of_ble_eq_true rfl) (Nat.le_of_ble_eq_true rfl)
  obtain ⟨hu2, eu2⟩ := h2
  refine lv_astore (lv' := [(4, .ref (L (8 + 3 * u2))), (0, .ref (L 0)), (1, .int p0), (2, .int p1), (3, .int p2)]) hx hb dX3_wear_5 hl (by decide) rfl (fun ls hl => ?_)
  refine lv_aload hx hb dX3_wear_7 (lv_at hl 0 rfl) ?_
  refine lv_iload_n hx hb dX3_wear_9 rfl (lv_at hl 3 rfl) ?_
  refine lv_iload_n hx hb dX3_wear_10 rfl (lv_at hl 4 rfl) ?_
  refine wx_xcalli (vx_runS (As := [.int p1, .int p2]) (rest := [.ref (L (8 + 3 * u2))]) ⟨hx, hb, hml, hown, hts⟩ (k_cellAt l hst g base n L (cw g L x r0) p1 p2) (va_cwS 2 hts gX3_wear_X3_cellAt rfl rfl rfl (by decide +kernel) ⟨Nat.le_of_ble_eq_true rfl, Nat.le_of_ble_eq_true rfl⟩) (hPW.preS hP hS) rfl rfl hl.1 rfl (lv_room (Nat.le_of_ble_eq_true rfl)) dX3_wear_11 ⟨Nat.le_of_ble_eq_true rfl, Nat.le_of_ble_eq_true rfl⟩) hS (fun E ce q9 H locs hpx hP hS h1 h2 h3 => ?_) (fun r11 u11 H locs h11 hP hS => ?_)
  · exact wx_out hno hlocks h1 h2 h3 (⟨hpx.1, Or.inr hpx.2⟩) hP hS (Nat.le_of_ble_eq_true rfl) (Nat.le_of_ble_eq_true rfl)
  obtain ⟨h11, rfl⟩ := h11
  refine wx_calli (va_runV (As := [.int (8 * p2 + p1)]) (rest := []) ⟨hx, hb, hml, hown, hts⟩ (k_wearOf l hst g base n L (by omega) x r0 u2 (by omega)  (8 * p2 + p1)) (cwV 1 hts gX3_wear_X0_wearOf rfl rfl rfl (by decide +kernel) ⟨Nat.le_of_ble_eq_true rfl, Nat.le_of_ble_eq_true rfl⟩) (hPW.preV hP hS (ci := 2) rfl (by omega) (cw_b (by omega))) rfl rfl hl.1 rfl (lv_room (Nat.le_of_ble_eq_true rfl)) dX3_wear_14 ⟨Nat.le_of_ble_eq_true rfl, Nat.le_of_ble_eq_true rfl⟩) hS (fun r14 u14 H locs h14 hP hS => ?_)
  obtain rfl := h14
  refine W.widen (k := 2) (n := 12) (Nat.le_of_ble_eq_true rfl) (Nat.le_of_ble_eq_true rfl) ?_
  exact vx_ret (W.iret (v := wearF x u2 (8 * p2 + p1)) hx hb hr (fun t ht hW => ⟨⟨wearF x u2 (8 * p2 + p1), (), rfl, ⟨u2, hu2, eu2, h11, rfl⟩, PB.mk9 hP ht⟩, hS.F ht⟩) hS.2.2 dX3_wear_17)

set_option maxHeartbeats 4000000 in
set_option maxRecDepth 100000 in
theorem k_cell (l : Launch) (hst : l.stackTraces = false) (g : gE) (base n : Nat) (L : Nat → Nat) (hn : 106 ≤ n) (x : St) (r0 : Nat → va_E) (nb : Nat) (hnb : nb ≤ 6) (hx0 : x 0 0 0 = nI nb) (p0 p1 p2 : Int32) : vx_Met l yX3_cell wsX3_cell ({ frames := 7, cells := 2, slots := 12, locals := 140 }) (va_Pc [.ref (L 0), .int p0, .int p1, .int p2] (PW SS g base n L (cw g L x r0))) (va_Qi (fun (r : Int32) (_ : Unit) => ∃ j, j < nb ∧ p0 = nI j ∧ (0 ≤ p1.toInt ∧ p1.toInt < 8 ∧ 0 ≤ p2.toInt ∧ p2.toInt < 4) ∧ r = bitF (x 15 j 0) (8 * p2 + p1)) (fun (u : Unit) t => PB g n L (cw g L x r0) t) (fun q => base ≤ q)) (QX g base n L (cw g L x r0) (fun E => E = "java/lang/IndexOutOfBoundsException" ∧ ((p0.toInt < 0 ∨ nb ≤ p0.toInt) ∨ ¬ (0 ≤ p1.toInt ∧ p1.toInt < 8 ∧ 0 ≤ p2.toInt ∧ p2.toInt < 4)))) 2 12 (fun q => base ≤ q) := by
  refine vx_ofW (cc := cX3_cell) (maxL := 5) (ret := (some .int)) (by decide) rfl ?_
  intro p e s m args below meth c s₁ B hml hno hv
  obtain ⟨rfl, hPW⟩ := hv
  obtain ⟨hbs, hJ, hP, hK, hE⟩ := id hPW
  have hx := B.exec
  have hb := B.bytes
  have hr := B.returns
  have hts := atoms_spec (ws := wsX3_cell) B.pre
  have hown : s.vm.findClass RX3 = some m.cls := findClass_of_methodNamed B.named
  have hlocks := B.notSynchronized
  have hS : va_S (fun q : Nat => base ≤ q) s.heap s.heap [] := va_S.rf
  have hl := lv_entry ([.ref (L 0), .int p0, .int p1, .int p2]) (n := 5) (Nat.le_of_ble_eq_true rfl)
  rw [lg_entry_eq]
  generalize (lg_sl ([.ref (L 0), .int p0, .int p1, .int p2]) ++ List.replicate (5 - (lg_sl ([.ref (L 0), .int p0, .int p1, .int p2])).length) Slot.unset).toArray = ls at hl ⊢
  have hl : lv_has ls 5 [(0, .ref (L 0)), (1, .int p0), (2, .int p1), (3, .int p2)] := hl
  have iX0 : ∀ w ∈ wsX00, w ∈ wsX3_cell := by decide +kernel
  refine lv_aload_n hx hb dX3_cell_0 rfl (lv_at hl 0 rfl) ?_
  refine lv_iload_n hx hb dX3_cell_1 rfl (lv_at hl 1 rfl) ?_
  refine wx_xcallr (G := fun u => 8 + 3 * u) (vx_runV (As := [.int p0]) (rest := []) ⟨hx, hb, hml, hown, hts⟩ (k_boardAt l hst g base n L (by omega) x r0 nb hnb hx0 p0) (cwV 1 hts gX3_cell_X3_boardAt rfl rfl rfl (by decide +kernel) ⟨Nat.le_of_ble_eq_true rfl, Nat.le_of_ble_eq_true rfl⟩) (hPW.preV hP hS (ci := 5) rfl (by omega) cw_d) rfl rfl hl.1 rfl (lv_room (Nat.le_of_ble_eq_true rfl)) dX3_cell_2 ⟨Nat.le_of_ble_eq_true rfl, Nat.le_of_ble_eq_true rfl⟩) hS (fun E ce q9 H locs hpx hP hS h1 h2 h3 => ?_) (fun u2 H locs h2 hP hS => ?_)
  · exact wx_out hno hlocks h1 h2 h3 (⟨hpx.1, Or.inl hpx.2⟩) hP hS (Nat.le_of_ble_eq_true rfl) (Nat.le_of_ble_eq_true rfl)
  obtain ⟨hu2, eu2⟩ := h2
  refine lv_astore (lv' := [(4, .ref (L (8 + 3 * u2))), (0, .ref (L 0)), (1, .int p0), (2, .int p1), (3, .int p2)]) hx hb dX3_cell_5 hl (by decide) rfl (fun ls hl => ?_)
  refine lv_aload hx hb dX3_cell_7 (lv_at hl 0 rfl) ?_
  refine wx_getN (D := g.1) (cl := vwCl) (ci := 2) (v := .int (x 15 u2 0)) (C := RX0) (T := TX0) (N := 12) hx hb hts iX0 hown hK hP (8 + 3 * u2) (by omega) (cw_b (by omega)) rfl 5 (by decide) (hE.1 _ (ng_in (w := (Cond.fieldLinkNest "FerroDesk" 76 "FerroDesk$Board" "black" "I" "FerroDesk")) (by decide +kernel))) (fun _ h9 => h9) rfl dX3_cell_9 ?_
  refine lv_iload_n hx hb dX3_cell_12 rfl (lv_at hl 3 rfl) ?_
  refine lv_iload_n hx hb dX3_cell_13 rfl (lv_at hl 4 rfl) ?_
  refine wx_xcalli (vx_runS (As := [.int p1, .int p2]) (rest := [.int (x 15 u2 0)]) ⟨hx, hb, hml, hown, hts⟩ (k_cellAt l hst g base n L (cw g L x r0) p1 p2) (va_cwS 2 hts gX3_cell_X3_cellAt rfl rfl rfl (by decide +kernel) ⟨Nat.le_of_ble_eq_true rfl, Nat.le_of_ble_eq_true rfl⟩) (hPW.preS hP hS) rfl rfl hl.1 rfl (lv_room (Nat.le_of_ble_eq_true rfl)) dX3_cell_14 ⟨Nat.le_of_ble_eq_true rfl, Nat.le_of_ble_eq_true rfl⟩) hS (fun E ce q9 H locs hpx hP hS h1 h2 h3 => ?_) (fun r14 u14 H locs h14 hP hS => ?_)
  · exact wx_out hno hlocks h1 h2 h3 (⟨hpx.1, Or.inr hpx.2⟩) hP hS (Nat.le_of_ble_eq_true rfl) (Nat.le_of_ble_eq_true rfl)
  obtain ⟨h14, rfl⟩ := h14
  refine wx_calli (va_runS (As := [.int (x 15 u2 0), .int (8 * p2 + p1)]) (rest := []) ⟨hx, hb, hml, hown, hts⟩ (k_bitOf l hst g base n L (cw g L x r0) (x 15 u2 0) (8 * p2 + p1)) (va_cwS 2 hts gX3_cell_X3_bitOf rfl rfl rfl (by decide +kernel) ⟨Nat.le_of_ble_eq_true rfl, Nat.le_of_ble_eq_true rfl⟩) (hPW.preS hP hS) rfl rfl hl.1 rfl (lv_room (Nat.le_of_ble_eq_true rfl)) dX3_cell_17 ⟨Nat.le_of_ble_eq_true rfl, Nat.le_of_ble_eq_true rfl⟩) hS (fun r17 u17 H locs h17 hP hS => ?_)
  obtain rfl := h17
  refine W.widen (k := 2) (n := 12) (Nat.le_of_ble_eq_true rfl) (Nat.le_of_ble_eq_true rfl) ?_
  exact vx_ret (W.iret (v := bitF (x 15 u2 0) (8 * p2 + p1)) hx hb hr (fun t ht hW => ⟨⟨bitF (x 15 u2 0) (8 * p2 + p1), (), rfl, ⟨u2, hu2, eu2, h14, rfl⟩, PB.mk9 hP ht⟩, hS.F ht⟩) hS.2.2 dX3_cell_20)

set_option maxHeartbeats 4000000 in
set_option maxRecDepth 100000 in
theorem k_isDue (l : Launch) (hst : l.stackTraces = false) (g : gE) (base n : Nat) (L : Nat → Nat) (hn : 106 ≤ n) (x : St) (r0 : Nat → va_E) (nn : Nat) (hnn : nn ≤ 40) (hx1 : x 1 0 0 = nI nn) (p0 : Int32) : vx_Met l yX3_isDue wsX3_isDue ({ frames := 7, cells := 1, slots := 6, locals := 140 }) (va_Pc [.ref (L 0), .int p0] (PW SS g base n L (cw g L x r0))) (va_Qi (fun (r : Int32) (_ : Unit) => ∃ j, j < nn ∧ p0 = nI j ∧ ((r = 1 ∧ (x 32 j 0 ≤ x 3 0 0 ∧ x 3 0 0 < x 33 j 0)) ∨ (r = 0 ∧ ¬ ((x 32 j 0 ≤ x 3 0 0 ∧ x 3 0 0 < x 33 j 0))))) (fun (u : Unit) t => PB g n L (cw g L x r0) t) (fun q => base ≤ q)) (QX g base n L (cw g L x r0) (fun E => E = "java/lang/IndexOutOfBoundsException" ∧ (p0.toInt < 0 ∨ nn ≤ p0.toInt))) 1 6 (fun q => base ≤ q) := by
  refine vx_ofW (cc := cX3_isDue) (maxL := 2) (ret := (some .boolean)) (by decide) rfl ?_
  intro p e s m args below meth c s₁ B hml hno hv
  obtain ⟨rfl, hPW⟩ := hv
  obtain ⟨hbs, hJ, hP, hK, hE⟩ := id hPW
  have hx := B.exec
  have hb := B.bytes
  have hr := B.returns
  have hts := atoms_spec (ws := wsX3_isDue) B.pre
  have hown : s.vm.findClass RX3 = some m.cls := findClass_of_methodNamed B.named
  have hlocks := B.notSynchronized
  have hS : va_S (fun q : Nat => base ≤ q) s.heap s.heap [] := va_S.rf
  have hl := lv_entry ([.ref (L 0), .int p0]) (n := 2) (Nat.le_of_ble_eq_true rfl)
  rw [lg_entry_eq]
  generalize (lg_sl ([.ref (L 0), .int p0]) ++ List.replicate (2 - (lg_sl ([.ref (L 0), .int p0])).length) Slot.unset).toArray = ls at hl ⊢
  have hl : lv_has ls 2 [(0, .ref (L 0)), (1, .int p0)] := hl
  have iX3 : ∀ w ∈ wsX30, w ∈ wsX3_isDue := by decide +kernel
  refine lv_aload_n hx hb dX3_isDue_0 rfl (lv_at hl 0 rfl) ?_
  refine lv_iload_n hx hb dX3_isDue_1 rfl (lv_at hl 1 rfl) ?_
  refine wx_xcallr (G := fun u => 26 + 2 * u) (vx_runV (As := [.int p0]) (rest := []) ⟨hx, hb, hml, hown, hts⟩ (k_noticeAt l hst g base n L (by omega) x r0 nn hnn hx1 p0) (cwV 1 hts gX3_isDue_X3_noticeAt rfl rfl rfl (by decide +kernel) ⟨Nat.le_of_ble_eq_true rfl, Nat.le_of_ble_eq_true rfl⟩) (hPW.preV hP hS (ci := 5) rfl (by omega) cw_d) rfl rfl hl.1 rfl (lv_room (Nat.le_of_ble_eq_true rfl)) dX3_isDue_2 ⟨Nat.le_of_ble_eq_true rfl, Nat.le_of_ble_eq_true rfl⟩) hS (fun E ce q9 H locs hpx hP hS h1 h2 h3 => ?_) (fun u2 H locs h2 hP hS => ?_)
  · exact wx_out hno hlocks h1 h2 h3 (hpx) hP hS (Nat.le_of_ble_eq_true rfl) (Nat.le_of_ble_eq_true rfl)
  obtain ⟨hu2, eu2⟩ := h2
  refine lv_aload_n hx hb dX3_isDue_5 rfl (lv_at hl 0 rfl) ?_
  refine wx_get (D := g.1) (cl := vwCl) (ci := 5) (v := .int (x 3 0 0)) (C := RX3) (T := TX3) (N := 8) hx hb hts iX3 hown hK hP (0) (by omega) cw_d rfl 7 (by decide) (hts (.fieldLink RX3 41 "FerroDesk" "hour" "I") (by decide +kernel)) (fun _ h9 => h9) rfl dX3_isDue_6 ?_
  refine wx_calli (va_runV (As := [.int (x 3 0 0)]) (rest := []) ⟨hx, hb, hml, hown, hts⟩ (k_isOf l hst g base n L (by omega) x r0 u2 (by omega) (x 3 0 0)) (cwV 1 hts gX3_isDue_X1_isOf rfl rfl rfl (by decide +kernel) ⟨Nat.le_of_ble_eq_true rfl, Nat.le_of_ble_eq_true rfl⟩) (hPW.preV hP hS (ci := 3) rfl (by omega) (cw_n (by omega))) rfl rfl hl.1 rfl (lv_room (Nat.le_of_ble_eq_true rfl)) dX3_isDue_9 ⟨Nat.le_of_ble_eq_true rfl, Nat.le_of_ble_eq_true rfl⟩) hS (fun r9 u9 H locs h9 hP hS => ?_)
  rcases h9 with ⟨rfl, h9⟩ | ⟨rfl, h9⟩
  · refine W.widen (k := 1) (n := 6) (Nat.le_of_ble_eq_true rfl) (Nat.le_of_ble_eq_true rfl) ?_
    exact vx_ret (W.zret (v := 1) hx hb hr (by decide) (fun t ht hW => ⟨⟨1, (), rfl, ⟨u2, hu2, eu2, Or.inl ⟨rfl, h9⟩⟩, PB.mk9 hP ht⟩, hS.F ht⟩) hS.2.2 dX3_isDue_12)
  · refine W.widen (k := 1) (n := 6) (Nat.le_of_ble_eq_true rfl) (Nat.le_of_ble_eq_true rfl) ?_
    exact vx_ret (W.zret (v := 0) hx hb hr (by decide) (fun t ht hW => ⟨⟨0, (), rfl, ⟨u2, hu2, eu2, Or.inr ⟨rfl, h9⟩⟩, PB.mk9 hP ht⟩, hS.F ht⟩) hS.2.2 dX3_isDue_12)

set_option maxHeartbeats 4000000 in
set_option maxRecDepth 100000 in
theorem k_readers (l : Launch) (hst : l.stackTraces = false) (g : gE) (base n : Nat) (L : Nat → Nat) (hn : 106 ≤ n) (x : St) (r0 : Nat → va_E) (nb : Nat) (hnb : nb ≤ 6) (hx0 : x 0 0 0 = nI nb) (nn : Nat) (hnn : nn ≤ 40) (hx1 : x 1 0 0 = nI nn) (p0 p1 : Int32) : vx_Met l yX3_readers wsX3_readers ({ frames := 7, cells := 2, slots := 12, locals := 140 }) (va_Pc [.ref (L 0), .int p0, .int p1] (PW SS g base n L (cw g L x r0))) (va_Qi (fun (r : Int32) (_ : Unit) => ∃ j, j < nn ∧ p0 = nI j ∧ (0 ≤ p1.toInt ∧ p1.toInt ≤ 3) ∧ r = riF x j p1 nb) (fun (u : Unit) t => PB g n L (cw g L x r0) t) (fun q => base ≤ q)) (QX g base n L (cw g L x r0) (fun E => (E = "java/lang/IndexOutOfBoundsException" ∧ (p0.toInt < 0 ∨ nn ≤ p0.toInt)) ∨ (E = "java/lang/IllegalArgumentException" ∧ (∃ j, j < nn ∧ p0 = nI j) ∧ (p1.toInt < 0 ∨ 3 < p1.toInt)))) 2 12 (fun q => base ≤ q) := by
  refine vx_ofW (cc := cX3_readers) (maxL := 4) (ret := (some .int)) (by decide) rfl ?_
  intro p e s m args below meth c s₁ B hml hno hv
  obtain ⟨rfl, hPW⟩ := hv
  obtain ⟨hbs, hJ, hP, hK, hE⟩ := id hPW
  have hx := B.exec
  have hb := B.bytes
  have hr := B.returns
  have hts := atoms_spec (ws := wsX3_readers) B.pre
  have hown : s.vm.findClass RX3 = some m.cls := findClass_of_methodNamed B.named
  have hlocks := B.notSynchronized
  have hS : va_S (fun q : Nat => base ≤ q) s.heap s.heap [] := va_S.rf
  have hl := lv_entry ([.ref (L 0), .int p0, .int p1]) (n := 4) (Nat.le_of_ble_eq_true rfl)
  rw [lg_entry_eq]
  generalize (lg_sl ([.ref (L 0), .int p0, .int p1]) ++ List.replicate (4 - (lg_sl ([.ref (L 0), .int p0, .int p1])).length) Slot.unset).toArray = ls at hl ⊢
  have hl : lv_has ls 4 [(0, .ref (L 0)), (1, .int p0), (2, .int p1)] := hl
  refine lv_aload_n hx hb dX3_readers_0 rfl (lv_at hl 0 rfl) ?_
  refine lv_iload_n hx hb dX3_readers_1 rfl (lv_at hl 1 rfl) ?_
  refine wx_xcallr (G := fun u => 26 + 2 * u) (vx_runV (As := [.int p0]) (rest := []) ⟨hx, hb, hml, hown, hts⟩ (k_noticeAt l hst g base n L (by omega) x r0 nn hnn hx1 p0) (cwV 1 hts gX3_readers_X3_noticeAt rfl rfl rfl (by decide +kernel) ⟨Nat.le_of_ble_eq_true rfl, Nat.le_of_ble_eq_true rfl⟩) (hPW.preV hP hS (ci := 5) rfl (by omega) cw_d) rfl rfl hl.1 rfl (lv_room (Nat.le_of_ble_eq_true rfl)) dX3_readers_2 ⟨Nat.le_of_ble_eq_true rfl, Nat.le_of_ble_eq_true rfl⟩) hS (fun E ce q9 H locs hpx hP hS h1 h2 h3 => ?_) (fun u2 H locs h2 hP hS => ?_)
  · exact wx_out hno hlocks h1 h2 h3 (Or.inl hpx) hP hS (Nat.le_of_ble_eq_true rfl) (Nat.le_of_ble_eq_true rfl)
  obtain ⟨hu2, eu2⟩ := h2
  refine lv_astore_n (lv' := [(3, .ref (L (26 + 2 * u2))), (0, .ref (L 0)), (1, .int p0), (2, .int p1)]) hx hb dX3_readers_5 rfl hl (by decide) rfl (fun ls hl => ?_)
  refine lv_iload_n hx hb dX3_readers_6 rfl (lv_at hl 3 rfl) ?_
  refine wx_xcallv (vx_runS (As := [.int p1]) (rest := []) ⟨hx, hb, hml, hown, hts⟩ (k_checkDistrict l hst g base n L (cw g L x r0) p1) (va_cwS 1 hts gX3_readers_X3_checkDistrict rfl rfl rfl (by decide +kernel) ⟨Nat.le_of_ble_eq_true rfl, Nat.le_of_ble_eq_true rfl⟩) (hPW.preS hP hS) rfl rfl hl.1 rfl (lv_room (Nat.le_of_ble_eq_true rfl)) dX3_readers_7 ⟨Nat.le_of_ble_eq_true rfl, Nat.le_of_ble_eq_true rfl⟩) hS (fun E ce q9 H locs hpx hP hS h1 h2 h3 => ?_) (fun u7 H locs h7 hP hS => ?_)
  · exact wx_out hno hlocks h1 h2 h3 (Or.inr ⟨hpx.1, ⟨u2, hu2, eu2⟩, hpx.2⟩) hP hS (Nat.le_of_ble_eq_true rfl) (Nat.le_of_ble_eq_true rfl)
  refine lv_aload_n hx hb dX3_readers_10 rfl (lv_at hl 1 rfl) ?_
  refine lv_aload_n hx hb dX3_readers_11 rfl (lv_at hl 0 rfl) ?_
  refine lv_iload_n hx hb dX3_readers_12 rfl (lv_at hl 3 rfl) ?_
  refine wx_calli (va_runV (As := [.ref (L (26 + 2 * u2)), .int p1]) (rest := []) ⟨hx, hb, hml, hown, hts⟩ (k_readersIn l hst g base n L (by omega) x r0 nb hnb hx0 u2 (by omega) p1) (cwV 2 hts gX3_readers_X3_readersIn rfl rfl rfl (by decide +kernel) ⟨Nat.le_of_ble_eq_true rfl, Nat.le_of_ble_eq_true rfl⟩) (hPW.preV hP hS (ci := 5) rfl (by omega) cw_d) rfl rfl hl.1 rfl (lv_room (Nat.le_of_ble_eq_true rfl)) dX3_readers_13 ⟨Nat.le_of_ble_eq_true rfl, Nat.le_of_ble_eq_true rfl⟩) hS (fun r13 u13 H locs h13 hP hS => ?_)
  obtain rfl := h13
  refine W.widen (k := 2) (n := 12) (Nat.le_of_ble_eq_true rfl) (Nat.le_of_ble_eq_true rfl) ?_
  exact vx_ret (W.iret (v := riF x u2 p1 nb) hx hb hr (fun t ht hW => ⟨⟨riF x u2 p1 nb, (), rfl, ⟨u2, hu2, eu2, h7, rfl⟩, PB.mk9 hP ht⟩, hS.F ht⟩) hS.2.2 dX3_readers_16)

set_option maxHeartbeats 4000000 in
set_option maxRecDepth 100000 in
theorem k_readIn (l : Launch) (hst : l.stackTraces = false) (g : gE) (base n : Nat) (L : Nat → Nat) (hn : 106 ≤ n) (x : St) (r0 : Nat → va_E) (nn : Nat) (hnn : nn ≤ 40) (hx1 : x 1 0 0 = nI nn) (cnt : Nat) (hcn : cnt ≤ 512) (hx4 : x 4 0 0 = nI cnt) (p0 p1 : Int32) : vx_Met l yX3_readIn wsX3_readIn ({ frames := 7, cells := 1, slots := 6, locals := 140 }) (va_Pc [.ref (L 0), .int p0, .int p1] (PW SS g base n L (cw g L x r0))) (va_Qi (fun (r : Int32) (_ : Unit) => ∃ j, j < nn ∧ p0 = nI j ∧ r = poF x (nI j) p1 cnt) (fun (u : Unit) t => PB g n L (cw g L x r0) t) (fun q => base ≤ q)) (QX g base n L (cw g L x r0) (fun E => E = "java/lang/IndexOutOfBoundsException" ∧ (p0.toInt < 0 ∨ nn ≤ p0.toInt))) 1 6 (fun q => base ≤ q) := by
  refine vx_ofW (cc := cX3_readIn) (maxL := 3) (ret := (some .int)) (by decide) rfl ?_
  intro p e s m args below meth c s₁ B hml hno hv
  obtain ⟨rfl, hPW⟩ := hv
  obtain ⟨hbs, hJ, hP, hK, hE⟩ := id hPW
  have hx := B.exec
  have hb := B.bytes
  have hr := B.returns
  have hts := atoms_spec (ws := wsX3_readIn) B.pre
  have hown : s.vm.findClass RX3 = some m.cls := findClass_of_methodNamed B.named
  have hlocks := B.notSynchronized
  have hS : va_S (fun q : Nat => base ≤ q) s.heap s.heap [] := va_S.rf
  have hl := lv_entry ([.ref (L 0), .int p0, .int p1]) (n := 3) (Nat.le_of_ble_eq_true rfl)
  rw [lg_entry_eq]
  generalize (lg_sl ([.ref (L 0), .int p0, .int p1]) ++ List.replicate (3 - (lg_sl ([.ref (L 0), .int p0, .int p1])).length) Slot.unset).toArray = ls at hl ⊢
  have hl : lv_has ls 3 [(0, .ref (L 0)), (1, .int p0), (2, .int p1)] := hl
  have iX1 : ∀ w ∈ wsX10, w ∈ wsX3_readIn := by decide +kernel
  have iX3 : ∀ w ∈ wsX30, w ∈ wsX3_readIn := by decide +kernel
  refine lv_aload_n hx hb dX3_readIn_0 rfl (lv_at hl 0 rfl) ?_
  refine wx_get (D := g.1) (cl := vwCl) (ci := 5) (v := .ref (L 4)) (C := RX3) (T := TX3) (N := 8) hx hb hts iX3 hown hK hP (0) (by omega) cw_d rfl 5 (by decide) (hts (.fieldLink RX3 34 "FerroDesk" "readings" "LFerroDesk$Readings;") (by decide +kernel)) (fun _ h9 => h9) rfl dX3_readIn_1 ?_
  refine lv_aload_n hx hb dX3_readIn_4 rfl (lv_at hl 0 rfl) ?_
  refine lv_iload_n hx hb dX3_readIn_5 rfl (lv_at hl 1 rfl) ?_
  refine wx_xcallr (G := fun u => 26 + 2 * u) (vx_runV (As := [.int p0]) (rest := [.ref (L 4)]) ⟨hx, hb, hml, hown, hts⟩ (k_noticeAt l hst g base n L (by omega) x r0 nn hnn hx1 p0) (cwV 1 hts gX3_readIn_X3_noticeAt rfl rfl rfl (by decide +kernel) ⟨Nat.le_of_ble_eq_true rfl, Nat.le_of_ble_eq_true rfl⟩) (hPW.preV hP hS (ci := 5) rfl (by omega) cw_d) rfl rfl hl.1 rfl (lv_room (Nat.le_of_ble_eq_true rfl)) dX3_readIn_6 ⟨Nat.le_of_ble_eq_true rfl, Nat.le_of_ble_eq_true rfl⟩) hS (fun E ce q9 H locs hpx hP hS h1 h2 h3 => ?_) (fun u6 H locs h6 hP hS => ?_)
  · exact wx_out hno hlocks h1 h2 h3 (hpx) hP hS (Nat.le_of_ble_eq_true rfl) (Nat.le_of_ble_eq_true rfl)
  obtain ⟨hu6, eu6⟩ := h6
  refine wx_getN (D := g.1) (cl := vwCl) (ci := 3) (v := .int (nI u6)) (C := RX1) (T := TX1) (N := 9) hx hb hts iX1 hown hK hP (26 + 2 * u6) (by omega) (cw_n (by omega)) rfl 0 (by decide) (hE.1 _ (ng_in (w := (Cond.fieldLinkNest "FerroDesk" 94 "FerroDesk$Notice" "number" "I" "FerroDesk")) (by decide +kernel))) (fun _ h9 => h9) rfl dX3_readIn_9 ?_
  refine lv_iload_n hx hb dX3_readIn_12 rfl (lv_at hl 2 rfl) ?_
  refine wx_calli (va_runV (As := [.int (nI u6), .int p1]) (rest := []) ⟨hx, hb, hml, hown, hts⟩ (k_peopleOf l hst g base n L (by omega) x r0 cnt hcn hx4 (nI u6) p1) (cwV 2 hts gX3_readIn_X2_peopleOf rfl rfl rfl (by decide +kernel) ⟨Nat.le_of_ble_eq_true rfl, Nat.le_of_ble_eq_true rfl⟩) (hPW.preV hP hS (ci := 4) rfl (by omega) cw_r) rfl rfl hl.1 rfl (lv_room (Nat.le_of_ble_eq_true rfl)) dX3_readIn_13 ⟨Nat.le_of_ble_eq_true rfl, Nat.le_of_ble_eq_true rfl⟩) hS (fun r13 u13 H locs h13 hP hS => ?_)
  obtain rfl := h13
  refine W.widen (k := 1) (n := 6) (Nat.le_of_ble_eq_true rfl) (Nat.le_of_ble_eq_true rfl) ?_
  exact vx_ret (W.iret (v := poF x (nI u6) p1 cnt) hx hb hr (fun t ht hW => ⟨⟨poF x (nI u6) p1 cnt, (), rfl, ⟨u6, hu6, eu6, rfl⟩, PB.mk9 hP ht⟩, hS.F ht⟩) hS.2.2 dX3_readIn_16)

set_option maxHeartbeats 4000000 in
set_option maxRecDepth 100000 in
theorem k_suspects (l : Launch) (hst : l.stackTraces = false) (g : gE) (base n : Nat) (L : Nat → Nat) (hn : 106 ≤ n) (x : St) (r0 : Nat → va_E) (nb : Nat) (hnb : nb ≤ 6) (hx0 : x 0 0 0 = nI nb) (nn : Nat) (hnn : nn ≤ 40) (hx1 : x 1 0 0 = nI nn) (p0 p1 : Int32) : vx_Met l yX3_suspects wsX3_suspects ({ frames := 8, cells := 2, slots := 12, locals := 180 }) (va_Pc [.ref (L 0), .int p0, .int p1] (PW SS g base n L (cw g L x r0))) (va_Qi (fun (r : Int32) (_ : Unit) => (0 ≤ p1.toInt ∧ p1.toInt ≤ 3 ∧ p0.toInt ≠ 0) ∧ r = scF x p0 p1 nb nn) (fun (u : Unit) t => PB g n L (cw g L x r0) t) (fun q => base ≤ q)) (QX g base n L (cw g L x r0) (fun E => E = "java/lang/IllegalArgumentException" ∧ (p1.toInt < 0 ∨ 3 < p1.toInt ∨ p0.toInt = 0))) 2 12 (fun q => base ≤ q) := by
  refine vx_ofW (cc := cX3_suspects) (maxL := 5) (ret := (some .int)) (by decide) rfl ?_
  intro p e s m args below meth c s₁ B hml hno hv
  obtain ⟨rfl, hPW⟩ := hv
  obtain ⟨hbs, hJ, hP, hK, hE⟩ := id hPW
  have hx := B.exec
  have hb := B.bytes
  have hr := B.returns
  have hts := atoms_spec (ws := wsX3_suspects) B.pre
  have hown : s.vm.findClass RX3 = some m.cls := findClass_of_methodNamed B.named
  have hlocks := B.notSynchronized
  have hS : va_S (fun q : Nat => base ≤ q) s.heap s.heap [] := va_S.rf
  have hl := lv_entry ([.ref (L 0), .int p0, .int p1]) (n := 5) (Nat.le_of_ble_eq_true rfl)
  rw [lg_entry_eq]
  generalize (lg_sl ([.ref (L 0), .int p0, .int p1]) ++ List.replicate (5 - (lg_sl ([.ref (L 0), .int p0, .int p1])).length) Slot.unset).toArray = ls at hl ⊢
  have hl : lv_has ls 5 [(0, .ref (L 0)), (1, .int p0), (2, .int p1)] := hl
  have iX3 : ∀ w ∈ wsX30, w ∈ wsX3_suspects := by decide +kernel
  refine lv_iload_n hx hb dX3_suspects_0 rfl (lv_at hl 1 rfl) ?_
  refine lv_iload_n hx hb dX3_suspects_1 rfl (lv_at hl 2 rfl) ?_
  refine wx_xcallv (vx_runS (As := [.int p0, .int p1]) (rest := []) ⟨hx, hb, hml, hown, hts⟩ (k_checkRumour l hst g base n L (cw g L x r0) p0 p1) (va_cwS 2 hts gX3_suspects_X3_checkRumour rfl rfl rfl (by decide +kernel) ⟨Nat.le_of_ble_eq_true rfl, Nat.le_of_ble_eq_true rfl⟩) (hPW.preS hP hS) rfl rfl hl.1 rfl (lv_room (Nat.le_of_ble_eq_true rfl)) dX3_suspects_2 ⟨Nat.le_of_ble_eq_true rfl, Nat.le_of_ble_eq_true rfl⟩) hS (fun E ce q9 H locs hpx hP hS h1 h2 h3 => ?_) (fun u2 H locs h2 hP hS => ?_)
  · exact wx_out hno hlocks h1 h2 h3 (hpx) hP hS (Nat.le_of_ble_eq_true rfl) (Nat.le_of_ble_eq_true rfl)
  refine lv_iconst (v := 0) hx hb dX3_suspects_5 (by decide) ?_
  refine lv_istore_n (lv' := [(3, .int 0), (0, .ref (L 0)), (1, .int p0), (2, .int p1)]) hx hb dX3_suspects_6 rfl hl (by decide) rfl (fun ls hl => ?_)
  refine lv_iconst (v := 0) hx hb dX3_suspects_7 (by decide) ?_
  refine lv_istore (lv' := [(4, .int 0), (3, .int 0), (0, .ref (L 0)), (1, .int p0), (2, .int p1)]) hx hb dX3_suspects_8 hl (by decide) rfl (fun ls hl => ?_)
  have key10 : ∀ (d k : Nat) (z4 : Int32) (z3 : Int32) (H : Heap) (locs : List Loc) (ls : Array Slot), k + d = nn → (z4 = nI k) → (z3 = scF x p0 p1 nb k) → va_P g.1 vwCl (wl n L (cw g L x r0)) H → va_S (fun q : Nat => base ≤ q) s.heap H locs → lv_has ls 5 [(4, .int z4), (3, .int z3), (0, .ref (L 0)), (1, .int p0), (2, .int p1)] → W p l e (headSpec wsX3_suspects ({ frames := 8, cells := 2, slots := 12, locals := 180 })).room s m ([.ref (L 0), .int p0, .int p1] : List Value).toArray below meth c H locs (0 + 2) (0 + 12) (vx_MQ below (va_Qi (fun (r : Int32) (_ : Unit) => (0 ≤ p1.toInt ∧ p1.toInt ≤ 3 ∧ p0.toInt ≠ 0) ∧ r = scF x p0 p1 nb nn) (fun (u : Unit) t => PB g n L (cw g L x r0) t) (fun q => base ≤ q)) (QX g base n L (cw g L x r0) (fun E => E = "java/lang/IllegalArgumentException" ∧ (p1.toInt < 0 ∨ 3 < p1.toInt ∨ p0.toInt = 0))) ([.ref (L 0), .int p0, .int p1] : List Value).toArray s 2 12 (fun q => base ≤ q)) (F0 m 10 ls []) := by
    intro d
    induction d with
    | zero =>
      intro k z4 z3 H locs ls hkd ek4 ek3 hP hS hl
      obtain rfl : nn = k := by omega
      subst ek4 ek3
      refine lv_iload hx hb dX3_suspects_10 (lv_at hl 0 rfl) ?_
      refine lv_aload_n hx hb dX3_suspects_12 rfl (lv_at hl 2 rfl) ?_
      refine wx_get (D := g.1) (cl := vwCl) (ci := 5) (v := .int (x 1 0 0)) (C := RX3) (T := TX3) (N := 8) hx hb hts iX3 hown hK hP (0) (by omega) cw_d rfl 4 (by decide) (hts (.fieldLink RX3 28 "FerroDesk" "noticeCount" "I") (by decide +kernel)) (fun _ h9 => h9) rfl dX3_suspects_13 ?_
      refine lv_icmp_ge (tgt := 44) hx hb dX3_suspects_16 (by decide) (fun c16 => ?_) (fun c16 => absurd (by rw [hx1]; exact nI_le (Nat.le_refl _) (by omega)) c16)
      refine lv_iload_n hx hb dX3_suspects_44 rfl (lv_at hl 1 rfl) ?_
      refine W.widen (k := 2) (n := 12) (Nat.le_of_ble_eq_true rfl) (Nat.le_of_ble_eq_true rfl) ?_
      exact vx_ret (W.iret (v := scF x p0 p1 nb nn) hx hb hr (fun t ht hW => ⟨⟨scF x p0 p1 nb nn, (), rfl, ⟨h2, rfl⟩, PB.mk9 hP ht⟩, hS.F ht⟩) hS.2.2 dX3_suspects_45)
    | succ d ih =>
      intro k z4 z3 H locs ls hkd ek4 ek3 hP hS hl
      have hkN : k < nn := by omega
      subst ek4 ek3
      refine lv_iload hx hb dX3_suspects_10 (lv_at hl 0 rfl) ?_
      refine lv_aload_n hx hb dX3_suspects_12 rfl (lv_at hl 2 rfl) ?_
      refine wx_get (D := g.1) (cl := vwCl) (ci := 5) (v := .int (x 1 0 0)) (C := RX3) (T := TX3) (N := 8) hx hb hts iX3 hown hK hP (0) (by omega) cw_d rfl 4 (by decide) (hts (.fieldLink RX3 28 "FerroDesk" "noticeCount" "I") (by decide +kernel)) (fun _ h9 => h9) rfl dX3_suspects_13 ?_
      refine lv_icmp_ge (tgt := 44) hx hb dX3_suspects_16 (by decide) (fun c16 => absurd c16 (by rw [hx1]; exact nI_ge hkN (by omega))) (fun c16 => ?_)
      refine lv_aload_n hx hb dX3_suspects_19 rfl (lv_at hl 2 rfl) ?_
      refine lv_aload_n hx hb dX3_suspects_20 rfl (lv_at hl 2 rfl) ?_
      refine wx_get (D := g.1) (cl := vwCl) (ci := 5) (v := .ref (L 2)) (C := RX3) (T := TX3) (N := 8) hx hb hts iX3 hown hK hP (0) (by omega) cw_d rfl 2 (by decide) (hts (.fieldLink RX3 21 "FerroDesk" "notices" "[LFerroDesk$Notice;") (by decide +kernel)) (fun _ h9 => h9) rfl dX3_suspects_21 ?_
      refine lv_iload hx hb dX3_suspects_24 (lv_at hl 0 rfl) ?_
      refine wx_aald (D := g.1) (cl := vwCl) (f := fun j => if j < 40 then some (L (26 + 2 * j)) else none) (a := L (26 + 2 * k)) hx hb hK hP (2) 2 (by omega) cw_2 rfl (i := nI k) (vp_in_nI (by omega) (by decide)) (by rw [nI_clamp (show k < 2 ^ 31 by omega)]; exact if_pos (by omega)) dX3_suspects_26 ?_
      refine lv_iload_n hx hb dX3_suspects_27 rfl (lv_at hl 3 rfl) ?_
      refine lv_iload_n hx hb dX3_suspects_28 rfl (lv_at hl 4 rfl) ?_
      refine wx_calli (va_runV (As := [.ref (L (26 + 2 * k)), .int p0, .int p1]) (rest := []) ⟨hx, hb, hml, hown, hts⟩ (k_isSuspect l hst g base n L (by omega) x r0 nb hnb hx0 k (by omega) p0 p1) (cwV 3 hts gX3_suspects_X3_isSuspect rfl rfl rfl (by decide +kernel) ⟨Nat.le_of_ble_eq_true rfl, Nat.le_of_ble_eq_true rfl⟩) (hPW.preV hP hS (ci := 5) rfl (by omega) cw_d) rfl rfl hl.1 rfl (lv_room (Nat.le_of_ble_eq_true rfl)) dX3_suspects_29 ⟨Nat.le_of_ble_eq_true rfl, Nat.le_of_ble_eq_true rfl⟩) hS (fun r29 u29 H locs h29 hP hS => ?_)
      rcases h29 with ⟨rfl, h29⟩ | ⟨rfl, h29⟩
      · refine lv_if_eq (tgt := 38) hx hb dX3_suspects_32 (by decide) (fun c32 => absurd c32 (by decide)) (fun c32 => ?_)
        obtain ⟨z35, ez35⟩ : ∃ y : Int32, y = scF x p0 p1 nb k + 1 := ⟨_, rfl⟩
        refine lv_iinc (v := z35) (lv' := [(3, .int z35), (4, .int (nI k)), (0, .ref (L 0)), (1, .int p0), (2, .int p1)]) hx hb dX3_suspects_35 hl (k := 1) rfl (by rw [ez35]; rfl) (by decide) rfl (fun ls hl => ?_)
        obtain ⟨z38, ez38⟩ : ∃ y : Int32, y = nI k + 1 := ⟨_, rfl⟩
        refine lv_iinc (v := z38) (lv' := [(4, .int z38), (3, .int z35), (0, .ref (L 0)), (1, .int p0), (2, .int p1)]) hx hb dX3_suspects_38 hl (k := 1) rfl (by rw [ez38]; rfl) (by decide) rfl (fun ls hl => ?_)
        refine lv_goto (tgt := 10) hx hb dX3_suspects_41 (by decide) ?_
        exact ih (k + 1) _ _ _ _ _ (by omega) (by rw [ez38, nI_1]) (by rw [sc_t h29]; simp only [ez35]) hP hS (lv_sub hl [0, 1, 2, 3, 4] rfl)
      · refine lv_if_eq (tgt := 38) hx hb dX3_suspects_32 (by decide) (fun c32 => ?_) (fun c32 => absurd (by decide) c32)
        obtain ⟨z38, ez38⟩ : ∃ y : Int32, y = nI k + 1 := ⟨_, rfl⟩
        refine lv_iinc (v := z38) (lv' := [(4, .int z38), (3, .int (scF x p0 p1 nb k)), (0, .ref (L 0)), (1, .int p0), (2, .int p1)]) hx hb dX3_suspects_38 hl (k := 0) rfl (by rw [ez38]; rfl) (by decide) rfl (fun ls hl => ?_)
        refine lv_goto (tgt := 10) hx hb dX3_suspects_41 (by decide) ?_
        exact ih (k + 1) _ _ _ _ _ (by omega) (by rw [ez38, nI_1]) ((sc_f h29).symm) hP hS (lv_sub hl [0, 1, 2, 3, 4] rfl)
  exact key10 nn 0 _ _ _ _ _ (by omega) rfl rfl hP hS (lv_sub hl [0, 1, 2, 3, 4] rfl)
