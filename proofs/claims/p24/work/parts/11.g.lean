/-! laid by wip/gen/gspec.py -/
set_option maxHeartbeats 4000000 in
set_option maxRecDepth 100000 in
theorem k_charge (l : Launch) (hst : l.stackTraces = false) (g : gE) (base n : Nat) (L : Nat → Nat) (hn : 106 ≤ n) (x : St) (r0 : Nat → va_E) (nb : Nat) (hnb : nb ≤ 6) (hx0 : x 0 0 0 = nI nb) (p0 : Int32) : vx_Met l yX3_charge wsX3_charge ({ frames := 7, cells := 1, slots := 6, locals := 140 }) (va_Pc [.ref (L 0), .int p0] (PW SS g base n L (cw g L x r0))) (va_Qi (fun (r : Int32) (_ : Unit) => ∃ j, j < nb ∧ p0 = nI j ∧ r = x 11 j 0) (fun (u : Unit) t => PB g n L (cw g L x r0) t) (fun q => base ≤ q)) (QX g base n L (cw g L x r0) (fun E => E = "java/lang/IndexOutOfBoundsException" ∧ (p0.toInt < 0 ∨ nb ≤ p0.toInt))) 1 6 (fun q => base ≤ q) := by
  refine vx_ofW (cc := cX3_charge) (maxL := 2) (ret := (some .int)) (by decide) rfl ?_
  intro p e s m args below meth c s₁ B hml hno hv
  obtain ⟨rfl, hPW⟩ := hv
  obtain ⟨hbs, hJ, hP, hK, hE⟩ := id hPW
  have hx := B.exec
  have hb := B.bytes
  have hr := B.returns
  have hts := atoms_spec (ws := wsX3_charge) B.pre
  have hown : s.vm.findClass RX3 = some m.cls := findClass_of_methodNamed B.named
  have hlocks := B.notSynchronized
  have hS : va_S (fun q : Nat => base ≤ q) s.heap s.heap [] := va_S.rf
  have hl := lv_entry ([.ref (L 0), .int p0]) (n := 2) (Nat.le_of_ble_eq_true rfl)
  rw [lg_entry_eq]
  generalize (lg_sl ([.ref (L 0), .int p0]) ++ List.replicate (2 - (lg_sl ([.ref (L 0), .int p0])).length) Slot.unset).toArray = ls at hl ⊢
  have hl : lv_has ls 2 [(0, .ref (L 0)), (1, .int p0)] := hl
  have iX0 : ∀ w ∈ wsX00, w ∈ wsX3_charge := by decide +kernel
  refine lv_aload_n hx hb dX3_charge_0 rfl (lv_at hl 0 rfl) ?_
  refine lv_iload_n hx hb dX3_charge_1 rfl (lv_at hl 1 rfl) ?_
  refine wx_xcallr (G := fun u => 8 + 3 * u) (vx_runV (As := [.int p0]) (rest := []) ⟨hx, hb, hml, hown, hts⟩ (k_boardAt l hst g base n L (by omega) x r0 nb hnb hx0 p0) (cwV 1 hts gX3_charge_X3_boardAt rfl rfl rfl (by decide +kernel) ⟨Nat.le_of_ble_eq_true rfl, Nat.le_of_ble_eq_true rfl⟩) (hPW.preV hP hS (ci := 5) rfl (by omega) cw_d) rfl rfl hl.1 rfl (lv_room (Nat.le_of_ble_eq_true rfl)) dX3_charge_2 ⟨Nat.le_of_ble_eq_true rfl, Nat.le_of_ble_eq_true rfl⟩) hS (fun E ce q9 H locs hpx hP hS h1 h2 h3 => ?_) (fun u2 H locs h2 hP hS => ?_)
  · exact wx_out hno hlocks h1 h2 h3 (hpx) hP hS (Nat.le_of_ble_eq_true rfl) (Nat.le_of_ble_eq_true rfl)
  obtain ⟨hu2, eu2⟩ := h2
  refine wx_getN (D := g.1) (cl := vwCl) (ci := 2) (v := .int (x 11 u2 0)) (C := RX0) (T := TX0) (N := 12) hx hb hts iX0 hown hK hP (8 + 3 * u2) (by omega) (cw_b (by omega)) rfl 1 (by decide) (hE.1 _ (ng_in (w := (Cond.fieldLinkNest "FerroDesk" 73 "FerroDesk$Board" "charge" "I" "FerroDesk")) (by decide +kernel))) (fun _ h9 => h9) rfl dX3_charge_5 ?_
  refine W.widen (k := 1) (n := 6) (Nat.le_of_ble_eq_true rfl) (Nat.le_of_ble_eq_true rfl) ?_
  exact vx_ret (W.iret (v := x 11 u2 0) hx hb hr (fun t ht hW => ⟨⟨x 11 u2 0, (), rfl, ⟨u2, hu2, eu2, rfl⟩, PB.mk9 hP ht⟩, hS.F ht⟩) hS.2.2 dX3_charge_8)

set_option maxHeartbeats 4000000 in
set_option maxRecDepth 100000 in
theorem k_shift (l : Launch) (hst : l.stackTraces = false) (g : gE) (base n : Nat) (L : Nat → Nat) (hn : 106 ≤ n) (x : St) (r0 : Nat → va_E) (nb : Nat) (hnb : nb ≤ 6) (hx0 : x 0 0 0 = nI nb) (p0 : Int32) : vx_Met l yX3_shift wsX3_shift ({ frames := 7, cells := 1, slots := 6, locals := 140 }) (va_Pc [.ref (L 0), .int p0] (PW SS g base n L (cw g L x r0))) (va_Qi (fun (r : Int32) (_ : Unit) => ∃ j, j < nb ∧ p0 = nI j ∧ r = x 13 j 0) (fun (u : Unit) t => PB g n L (cw g L x r0) t) (fun q => base ≤ q)) (QX g base n L (cw g L x r0) (fun E => E = "java/lang/IndexOutOfBoundsException" ∧ (p0.toInt < 0 ∨ nb ≤ p0.toInt))) 1 6 (fun q => base ≤ q) := by
  refine vx_ofW (cc := cX3_shift) (maxL := 2) (ret := (some .int)) (by decide) rfl ?_
  intro p e s m args below meth c s₁ B hml hno hv
  obtain ⟨rfl, hPW⟩ := hv
  obtain ⟨hbs, hJ, hP, hK, hE⟩ := id hPW
  have hx := B.exec
  have hb := B.bytes
  have hr := B.returns
  have hts := atoms_spec (ws := wsX3_shift) B.pre
  have hown : s.vm.findClass RX3 = some m.cls := findClass_of_methodNamed B.named
  have hlocks := B.notSynchronized
  have hS : va_S (fun q : Nat => base ≤ q) s.heap s.heap [] := va_S.rf
  have hl := lv_entry ([.ref (L 0), .int p0]) (n := 2) (Nat.le_of_ble_eq_true rfl)
  rw [lg_entry_eq]
  generalize (lg_sl ([.ref (L 0), .int p0]) ++ List.replicate (2 - (lg_sl ([.ref (L 0), .int p0])).length) Slot.unset).toArray = ls at hl ⊢
  have hl : lv_has ls 2 [(0, .ref (L 0)), (1, .int p0)] := hl
  have iX0 : ∀ w ∈ wsX00, w ∈ wsX3_shift := by decide +kernel
  refine lv_aload_n hx hb dX3_shift_0 rfl (lv_at hl 0 rfl) ?_
  refine lv_iload_n hx hb dX3_shift_1 rfl (lv_at hl 1 rfl) ?_
  refine wx_xcallr (G := fun u => 8 + 3 * u) (vx_runV (As := [.int p0]) (rest := []) ⟨hx, hb, hml, hown, hts⟩ (k_boardAt l hst g base n L (by omega) x r0 nb hnb hx0 p0) (cwV 1 hts gX3_shift_X3_boardAt rfl rfl rfl (by decide +kernel) ⟨Nat.le_of_ble_eq_true rfl, Nat.le_of_ble_eq_true rfl⟩) (hPW.preV hP hS (ci := 5) rfl (by omega) cw_d) rfl rfl hl.1 rfl (lv_room (Nat.le_of_ble_eq_true rfl)) dX3_shift_2 ⟨Nat.le_of_ble_eq_true rfl, Nat.le_of_ble_eq_true rfl⟩) hS (fun E ce q9 H locs hpx hP hS h1 h2 h3 => ?_) (fun u2 H locs h2 hP hS => ?_)
  · exact wx_out hno hlocks h1 h2 h3 (hpx) hP hS (Nat.le_of_ble_eq_true rfl) (Nat.le_of_ble_eq_true rfl)
  obtain ⟨hu2, eu2⟩ := h2
  refine wx_getN (D := g.1) (cl := vwCl) (ci := 2) (v := .int (x 13 u2 0)) (C := RX0) (T := TX0) (N := 12) hx hb hts iX0 hown hK hP (8 + 3 * u2) (by omega) (cw_b (by omega)) rfl 3 (by decide) (hE.1 _ (ng_in (w := (Cond.fieldLinkNest "FerroDesk" 97 "FerroDesk$Board" "shiftedBy" "I" "FerroDesk")) (by decide +kernel))) (fun _ h9 => h9) rfl dX3_shift_5 ?_
  refine W.widen (k := 1) (n := 6) (Nat.le_of_ble_eq_true rfl) (Nat.le_of_ble_eq_true rfl) ?_
  exact vx_ret (W.iret (v := x 13 u2 0) hx hb hr (fun t ht hW => ⟨⟨x 13 u2 0, (), rfl, ⟨u2, hu2, eu2, rfl⟩, PB.mk9 hP ht⟩, hS.F ht⟩) hS.2.2 dX3_shift_8)

set_option maxHeartbeats 4000000 in
set_option maxRecDepth 100000 in
theorem k_sleeps (l : Launch) (hst : l.stackTraces = false) (g : gE) (base n : Nat) (L : Nat → Nat) (hn : 106 ≤ n) (x : St) (r0 : Nat → va_E) (nb : Nat) (hnb : nb ≤ 6) (hx0 : x 0 0 0 = nI nb) (hbz : ∀ b, b < 6 → x 14 b 0 = 0 ∨ x 14 b 0 = 1) (p0 : Int32) : vx_Met l yX3_sleeps wsX3_sleeps ({ frames := 7, cells := 1, slots := 6, locals := 140 }) (va_Pc [.ref (L 0), .int p0] (PW SS g base n L (cw g L x r0))) (va_Qi (fun (r : Int32) (_ : Unit) => ∃ j, j < nb ∧ p0 = nI j ∧ r = x 14 j 0) (fun (u : Unit) t => PB g n L (cw g L x r0) t) (fun q => base ≤ q)) (QX g base n L (cw g L x r0) (fun E => E = "java/lang/IndexOutOfBoundsException" ∧ (p0.toInt < 0 ∨ nb ≤ p0.toInt))) 1 6 (fun q => base ≤ q) := by
  refine vx_ofW (cc := cX3_sleeps) (maxL := 2) (ret := (some .boolean)) (by decide) rfl ?_
  intro p e s m args below meth c s₁ B hml hno hv
  obtain ⟨rfl, hPW⟩ := hv
  obtain ⟨hbs, hJ, hP, hK, hE⟩ := id hPW
  have hx := B.exec
  have hb := B.bytes
  have hr := B.returns
  have hts := atoms_spec (ws := wsX3_sleeps) B.pre
  have hown : s.vm.findClass RX3 = some m.cls := findClass_of_methodNamed B.named
  have hlocks := B.notSynchronized
  have hS : va_S (fun q : Nat => base ≤ q) s.heap s.heap [] := va_S.rf
  have hl := lv_entry ([.ref (L 0), .int p0]) (n := 2) (Nat.le_of_ble_eq_true rfl)
  rw [lg_entry_eq]
  generalize (lg_sl ([.ref (L 0), .int p0]) ++ List.replicate (2 - (lg_sl ([.ref (L 0), .int p0])).length) Slot.unset).toArray = ls at hl ⊢
  have hl : lv_has ls 2 [(0, .ref (L 0)), (1, .int p0)] := hl
  have iX0 : ∀ w ∈ wsX00, w ∈ wsX3_sleeps := by decide +kernel
  refine lv_aload_n hx hb dX3_sleeps_0 rfl (lv_at hl 0 rfl) ?_
  refine lv_iload_n hx hb dX3_sleeps_1 rfl (lv_at hl 1 rfl) ?_
  refine wx_xcallr (G := fun u => 8 + 3 * u) (vx_runV (As := [.int p0]) (rest := []) ⟨hx, hb, hml, hown, hts⟩ (k_boardAt l hst g base n L (by omega) x r0 nb hnb hx0 p0) (cwV 1 hts gX3_sleeps_X3_boardAt rfl rfl rfl (by decide +kernel) ⟨Nat.le_of_ble_eq_true rfl, Nat.le_of_ble_eq_true rfl⟩) (hPW.preV hP hS (ci := 5) rfl (by omega) cw_d) rfl rfl hl.1 rfl (lv_room (Nat.le_of_ble_eq_true rfl)) dX3_sleeps_2 ⟨Nat.le_of_ble_eq_true rfl, Nat.le_of_ble_eq_true rfl⟩) hS (fun E ce q9 H locs hpx hP hS h1 h2 h3 => ?_) (fun u2 H locs h2 hP hS => ?_)
  · exact wx_out hno hlocks h1 h2 h3 (hpx) hP hS (Nat.le_of_ble_eq_true rfl) (Nat.le_of_ble_eq_true rfl)
  obtain ⟨hu2, eu2⟩ := h2
  refine wx_getN (D := g.1) (cl := vwCl) (ci := 2) (v := .int (x 14 u2 0)) (C := RX0) (T := TX0) (N := 12) hx hb hts iX0 hown hK hP (8 + 3 * u2) (by omega) (cw_b (by omega)) rfl 4 (by decide) (hE.1 _ (ng_in (w := (Cond.fieldLinkNest "FerroDesk" 100 "FerroDesk$Board" "asleep" "Z" "FerroDesk")) (by decide +kernel))) (fun _ h9 => h9) rfl dX3_sleeps_5 ?_
  refine W.widen (k := 1) (n := 6) (Nat.le_of_ble_eq_true rfl) (Nat.le_of_ble_eq_true rfl) ?_
  exact vx_ret (W.zret (v := x 14 u2 0) hx hb hr ((hbz u2 (by omega)).elim (fun h9 => by rw [h9]; decide) (fun h9 => by rw [h9]; decide)) (fun t ht hW => ⟨⟨x 14 u2 0, (), rfl, ⟨u2, hu2, eu2, rfl⟩, PB.mk9 hP ht⟩, hS.F ht⟩) hS.2.2 dX3_sleeps_8)

set_option maxHeartbeats 4000000 in
set_option maxRecDepth 100000 in
theorem k_wear (l : Launch) (hst : l.stackTraces = false) (g : gE) (base n : Nat) (L : Nat → Nat) (hn : 106 ≤ n) (x : St) (r0 : Nat → va_E) (nb : Nat) (hnb : nb ≤ 6) (hx0 : x 0 0 0 = nI nb) (p0 p1 p2 : Int32) : vx_Met l yX3_wear wsX3_wear ({ frames := 7, cells := 2, slots := 12, locals := 140 }) (va_Pc [.ref (L 0), .int p0, .int p1, .int p2] (PW SS g base n L (cw g L x r0))) (va_Qi (fun (r : Int32) (_ : Unit) => ∃ j, j < nb ∧ p0 = nI j ∧ (0 ≤ p1.toInt ∧ p1.toInt < 8 ∧ 0 ≤ p2.toInt ∧ p2.toInt < 4) ∧ r = wearF x j (8 * p2 + p1)) (fun (u : Unit) t => PB g n L (cw g L x r0) t) (fun q => base ≤ q)) (QX g base n L (cw g L x r0) (fun E => E = "java/lang/IndexOutOfBoundsException" ∧ ((p0.toInt < 0 ∨ nb ≤ p0.toInt) ∨ ¬ (0 ≤ p1.toInt ∧ p1.toInt < 8 ∧ 0 ≤ p2.toInt ∧ p2.toInt < 4)))) 2 12 (fun q => base ≤ q) := by
  refine vx_ofW (cc := cX3_wear) (maxL := 5) (ret := (some .int)) (by decide) rfl ?_
  intro p e s m args below meth c s₁ B hml hno hv
  obtain ⟨rfl, hPW⟩ := hv
  obtain ⟨hbs, hJ, hP, hK, hE⟩ := id hPW
  have hx := B.exec
  have hb := B.bytes
  have hr := B.returns
  have hts := atoms_spec (ws := wsX3_wear) B.pre
  have hown : s.vm.findClass RX3 = some m.cls := findClass_of_methodNamed B.named
  have hlocks := B.notSynchronized
  have hS : va_S (fun q : Nat => base ≤ q) s.heap s.heap [] := va_S.rf
  have hl := lv_entry ([.ref (L 0), .int p0, .int p1, .int p2]) (n := 5) (Nat.le_of_ble_eq_true rfl)
  rw [lg_entry_eq]
  generalize (lg_sl ([.ref (L 0), .int p0, .int p1, .int p2]) ++ List.replicate (5 - (lg_sl ([.ref (L 0), .int p0, .int p1, .int p2])).length) Slot.unset).toArray = ls at hl ⊢
  have hl : lv_has ls 5 [(0, .ref (L 0)), (1, .int p0), (2, .int p1), (3, .int p2)] := hl
  refine lv_aload_n hx hb dX3_wear_0 rfl (lv_at hl 0 rfl) ?_
  refine lv_iload_n hx hb dX3_wear_1 rfl (lv_at hl 1 rfl) ?_
  refine wx_xcallr (G := fun u => 8 + 3 * u) (vx_runV (As := [.int p0]) (rest := []) ⟨hx, hb, hml, hown, hts⟩ (k_boardAt l hst g base n L (by omega) x r0 nb hnb hx0 p0) (cwV 1 hts gX3_wear_X3_boardAt rfl rfl rfl (by decide +kernel) ⟨Nat.le_of_ble_eq_true rfl, Nat.le_of_ble_eq_true rfl⟩) (hPW.preV hP hS (ci := 5) rfl (by omega) cw_d) rfl rfl hl.1 rfl (lv_room (Nat.le_of_ble_eq_true rfl)) dX3_wear_2 ⟨Nat.le_of_ble_eq_true rfl, Nat.le_of_ble_eq_true rfl⟩) hS (fun E ce q9 H locs hpx hP hS h1 h2 h3 => ?_) (fun u2 H locs h2 hP hS => ?_)
  · exact wx_out hno hlocks h1 h2 h3 (⟨hpx.1, Or.inl hpx.2⟩) hP hS (Nat.le_of_ble_eq_true rfl) (Nat.le_of_ble_eq_true rfl)
  obtain ⟨hu2, eu2⟩ := h2
  refine lv_astore (lv' := [(4, .ref (L (8 + 3 * u2))), (0, .ref (L 0)), (1, .int p0), (2, .int p1), (3, .int p2)]) hx hb dX3_wear_5 hl (by decide) rfl (fun ls hl => ?_)
  refine lv_aload hx hb dX3_wear_7 (lv_at hl 0 rfl) ?_
  refine lv_iload_n hx hb dX3_wear_9 rfl (lv_at hl 3 rfl) ?_
  refine lv_iload_n hx hb dX3_wear_10 rfl (lv_at hl 4 rfl) ?_
  refine wx_xcalli (vx_runS (As := [.int p1, .int p2]) (rest := [.ref (L (8 + 3 * u2))]) ⟨hx, hb, hml, hown, hts⟩ (k_cellAt l hst g base n L (cw g L x r0) p1 p2) (va_cwS 2 hts gX3_wear_X3_cellAt rfl rfl rfl (by decide +kernel) ⟨Nat.le_of_ble_eq_true rfl, Nat.le_of_ble_eq_true rfl⟩) (hPW.preS hP hS) rfl rfl hl.1 rfl (lv_room (Nat.le_of_ble_eq_true rfl)) dX3_wear_11 ⟨Nat.le_of_ble_eq_true rfl, Nat.le_of_ble_eq_true rfl⟩) hS (fun E ce q9 H locs hpx hP hS h1 h2 h3 => ?_) (fun r11 u11 H locs h11 hP hS => ?_)
  · exact wx_out hno hlocks h1 h2 h3 (⟨hpx.1, Or.inr hpx.2⟩) hP hS (Nat.le_of_ble_eq_true rfl) (Nat.le_of_ble_eq_true rfl)
  obtain ⟨h11, rfl⟩ := h11
  refine wx_calli (va_runV (As := [.int (8 * p2 + p1)]) (rest := []) ⟨hx, hb, hml, hown, hts⟩ (k_wearOf l hst g base n L (by omega) x r0 u2 (by omega)  (8 * p2 + p1)) (cwV 1 hts gX3_wear_X0_wearOf rfl rfl rfl (by decide +kernel) ⟨Nat.le_of_ble_eq_true rfl, Nat.le_of_ble_eq_true rfl⟩) (hPW.preV hP hS (ci := 2) rfl (by omega) (cw_b (by omega))) rfl rfl hl.1 rfl (lv_room (Nat.le_of_ble_eq_true rfl)) dX3_wear_14 ⟨Nat.le_of_ble_eq_true rfl, Nat.le_of_ble_eq_true rfl⟩) hS (fun r14 u14 H locs h14 hP hS => ?_)
  obtain rfl := h14
  refine W.widen (k := 2) (n := 12) (Nat.le_of_ble_eq_true rfl) (Nat.le_of_ble_eq_true rfl) ?_
  exact vx_ret (W.iret (v := wearF x u2 (8 * p2 + p1)) hx hb hr (fun t ht hW => ⟨⟨wearF x u2 (8 * p2 + p1), (), rfl, ⟨u2, hu2, eu2, h11, rfl⟩, PB.mk9 hP ht⟩, hS.F ht⟩) hS.2.2 dX3_wear_17)

set_option maxHeartbeats 4000000 in
set_option maxRecDepth 100000 in
theorem k_cell (l : Launch) (hst : l.stackTraces = false) (g : gE) (base n : Nat) (L : Nat → Nat) (hn : 106 ≤ n) (x : St) (r0 : Nat → va_E) (nb : Nat) (hnb : nb ≤ 6) (hx0 : x 0 0 0 = nI nb) (p0 p1 p2 : Int32) : vx_Met l yX3_cell wsX3_cell ({ frames := 7, cells := 2, slots := 12, locals := 140 }) (va_Pc [.ref (L 0), .int p0, .int p1, .int p2] (PW SS g base n L (cw g L x r0))) (va_Qi (fun (r : Int32) (_ : Unit) => ∃ j, j < nb ∧ p0 = nI j ∧ (0 ≤ p1.toInt ∧ p1.toInt < 8 ∧ 0 ≤ p2.toInt ∧ p2.toInt < 4) ∧ r = bitF (x 15 j 0) (8 * p2 + p1)) (fun (u : Unit) t => PB g n L (cw g L x r0) t) (fun q => base ≤ q)) (QX g base n L (cw g L x r0) (fun E => E = "java/lang/IndexOutOfBoundsException" ∧ ((p0.toInt < 0 ∨ nb ≤ p0.toInt) ∨ ¬ (0 ≤ p1.toInt ∧ p1.toInt < 8 ∧ 0 ≤ p2.toInt ∧ p2.toInt < 4)))) 2 12 (fun q => base ≤ q) := by
  refine vx_ofW (cc := cX3_cell) (maxL := 5) (ret := (some .int)) (by decide) rfl ?_
  intro p e s m args below meth c s₁ B hml hno hv
  obtain ⟨rfl, hPW⟩ := hv
  obtain ⟨hbs, hJ, hP, hK, hE⟩ := id hPW
  have hx := B.exec
  have hb := B.bytes
  have hr := B.returns
  have hts := atoms_spec (ws := wsX3_cell) B.pre
  have hown : s.vm.findClass RX3 = some m.cls := findClass_of_methodNamed B.named
  have hlocks := B.notSynchronized
  have hS : va_S (fun q : Nat => base ≤ q) s.heap s.heap [] := va_S.rf
  have hl := lv_entry ([.ref (L 0), .int p0, .int p1, .int p2]) (n := 5) (Nat.le_of_ble_eq_true rfl)
  rw [lg_entry_eq]
  generalize (lg_sl ([.ref (L 0), .int p0, .int p1, .int p2]) ++ List.replicate (5 - (lg_sl ([.ref (L 0), .int p0, .int p1, .int p2])).length) Slot.unset).toArray = ls at hl ⊢
  have hl : lv_has ls 5 [(0, .ref (L 0)), (1, .int p0), (2, .int p1), (3, .int p2)] := hl
  have iX0 : ∀ w ∈ wsX00, w ∈ wsX3_cell := by decide +kernel
  refine lv_aload_n hx hb dX3_cell_0 rfl (lv_at hl 0 rfl) ?_
  refine lv_iload_n hx hb dX3_cell_1 rfl (lv_at hl 1 rfl) ?_
  refine wx_xcallr (G := fun u => 8 + 3 * u) (vx_runV (As := [.int p0]) (rest := []) ⟨hx, hb, hml, hown, hts⟩ (k_boardAt l hst g base n L (by omega) x r0 nb hnb hx0 p0) (cwV 1 hts gX3_cell_X3_boardAt rfl rfl rfl (by decide +kernel) ⟨Nat.le_of_ble_eq_true rfl, Nat.le_of_ble_eq_true rfl⟩) (hPW.preV hP hS (ci := 5) rfl (by omega) cw_d) rfl rfl hl.1 rfl (lv_room (Nat.le_of_ble_eq_true rfl)) dX3_cell_2 ⟨Nat.le_of_ble_eq_true rfl, Nat.le_of_ble_eq_true rfl⟩) hS (fun E ce q9 H locs hpx hP hS h1 h2 h3 => ?_) (fun u2 H locs h2 hP hS => ?_)
  · exact wx_out hno hlocks h1 h2 h3 (⟨hpx.1, Or.inl hpx.2⟩) hP hS (Nat.le_of_ble_eq_true rfl) (Nat.le_of_ble_eq_true rfl)
  obtain ⟨hu2, eu2⟩ := h2
  refine lv_astore (lv' := [(4, .ref (L (8 + 3 * u2))), (0, .ref (L 0)), (1, .int p0), (2, .int p1), (3, .int p2)]) hx hb dX3_cell_5 hl (by decide) rfl (fun ls hl => ?_)
  refine lv_aload hx hb dX3_cell_7 (lv_at hl 0 rfl) ?_
  refine wx_getN (D := g.1) (cl := vwCl) (ci := 2) (v := .int (x 15 u2 0)) (C := RX0) (T := TX0) (N := 12) hx hb hts iX0 hown hK hP (8 + 3 * u2) (by omega) (cw_b (by omega)) rfl 5 (by decide) (hE.1 _ (ng_in (w := (Cond.fieldLinkNest "FerroDesk" 76 "FerroDesk$Board" "black" "I" "FerroDesk")) (by decide +kernel))) (fun _ h9 => h9) rfl dX3_cell_9 ?_
  refine lv_iload_n hx hb dX3_cell_12 rfl (lv_at hl 3 rfl) ?_
  refine lv_iload_n hx hb dX3_cell_13 rfl (lv_at hl 4 rfl) ?_
  refine wx_xcalli (vx_runS (As := [.int p1, .int p2]) (rest := [.int (x 15 u2 0)]) ⟨hx, hb, hml, hown, hts⟩ (k_cellAt l hst g base n L (cw g L x r0) p1 p2) (va_cwS 2 hts gX3_cell_X3_cellAt rfl rfl rfl (by decide +kernel) ⟨Nat.le_of_ble_eq_true rfl, Nat.le_of_ble_eq_true rfl⟩) (hPW.preS hP hS) rfl rfl hl.1 rfl (lv_room (Nat.le_of_ble_eq_true rfl)) dX3_cell_14 ⟨Nat.le_of_ble_eq_true rfl, Nat.le_of_ble_eq_true rfl⟩) hS (fun E ce q9 H locs hpx hP hS h1 h2 h3 => ?_) (fun r14 u14 H locs h14 hP hS => ?_)
  · exact wx_out hno hlocks h1 h2 h3 (⟨hpx.1, Or.inr hpx.2⟩) hP hS (Nat.le_of_ble_eq_true rfl) (Nat.le_of_ble_eq_true rfl)
  obtain ⟨h14, rfl⟩ := h14
  refine wx_calli (va_runS (As := [.int (x 15 u2 0), .int (8 * p2 + p1)]) (rest := []) ⟨hx, hb, hml, hown, hts⟩ (k_bitOf l hst g base n L (cw g L x r0) (x 15 u2 0) (8 * p2 + p1)) (va_cwS 2 hts gX3_cell_X3_bitOf rfl rfl rfl (by decide +kernel) ⟨Nat.le_of_ble_eq_true rfl, Nat.le_of_ble_eq_true rfl⟩) (hPW.preS hP hS) rfl rfl hl.1 rfl (lv_room (Nat.le_of_ble_eq_true rfl)) dX3_cell_17 ⟨Nat.le_of_ble_eq_true rfl, Nat.le_of_ble_eq_true rfl⟩) hS (fun r17 u17 H locs h17 hP hS => ?_)
  obtain rfl := h17
  refine W.widen (k := 2) (n := 12) (Nat.le_of_ble_eq_true rfl) (Nat.le_of_ble_eq_true rfl) ?_
  exact vx_ret (W.iret (v := bitF (x 15 u2 0) (8 * p2 + p1)) hx hb hr (fun t ht hW => ⟨⟨bitF (x 15 u2 0) (8 * p2 + p1), (), rfl, ⟨u2, hu2, eu2, h14, rfl⟩, PB.mk9 hP ht⟩, hS.F ht⟩) hS.2.2 dX3_cell_20)
