/-! laid by wip/gen -/
set_option maxHeartbeats 4000000 in
set_option maxRecDepth 100000 in
theorem k_charge (l : Launch) (hst : l.stackTraces = false) (g : gE) (base n : Nat) (L : Nat → Nat) (hn : 106 ≤ n) (x : St) (r0 : Nat → va_E) (nb : Nat) (hnb : nb ≤ 6) (hx0 : x 0 0 0 = nI nb) (p0 : Int32) : vx_Met l yX3_charge wsX3_charge ({ frames := 7, cells := 1, slots := 6, locals := 140 }) (va_Pc [.ref (L 0), .int p0] (PW SS g base n L (cw g L x r0))) (va_Qi (fun (r : Int32) (_ : Unit) => ∃ j, j < nb ∧ p0 = nI j ∧ r = x 11 j 0) (fun (u : Unit) t => PB g n L (cw g L x r0) t) (fun q => base ≤ q)) (QX g base n L (cw g L x r0) (fun E => E = "java/lang/IndexOutOfBoundsException" ∧ (p0.toInt < 0 ∨ nb ≤ p0.toInt))) 1 6 (fun q => base ≤ q) := by
  refine vx_ofW (cc := cX3_charge) (maxL := 2) (ret := (some .int)) (by decide) rfl ?_
  intro p e s m args below meth c s₁ B hml hno hv
  obtain ⟨rfl, hPW⟩ := hv
  obtain ⟨hbs, hJ, hP, hK, hE⟩ := id hPW
  have hx := B.exec
  have hb := B.bytes
  have hr := B.returns
  have hts := atoms_spec (ws := wsX3_charge) B.pre
  have hown : s.vm.findClass RX3 = some m.cls := findClass_of_methodNamed B.named
  have hlocks := B.notSynchronized
  have hS : va_S (fun q : Nat => base ≤ q) s.heap s.heap [] := va_S.rf
  have hl := lv_entry ([.ref (L 0), .int p0]) (n := 2) (Nat.le_of_ble_eq_true rfl)
  rw [lg_entry_eq]
  generalize (lg_sl ([.ref (L 0), .int p0]) ++ List.replicate (2 - (lg_sl ([.ref (L 0), .int p0])).length) Slot.unset).toArray = ls at hl ⊢
  have hl : lv_has ls 2 [(0, .ref (L 0)), (1, .int p0)] := hl
  have iX0 : ∀ w ∈ wsX00, w ∈ wsX3_charge := by decide +kernel
  refine lv_aload_n hx hb dX3_charge_0 rfl (lv_at hl 0 rfl) ?_
  refine lv_iload_n hx hb dX3_charge_1 rfl (lv_at hl 1 rfl) ?_
  refine wx_xcallr (G := fun u => 8 + 3 * u) (vx_runV (As := [.int p0]) (rest := []) ⟨hx, hb, hml, hown, hts⟩ (k_boardAt l hst g base n L (by omega) x r0 nb hnb hx0 p0) (cwV 1 hts gX3_charge_X3_boardAt rfl rfl rfl (by decide +kernel) ⟨Nat.le_of_ble_eq_true rfl, Nat.le_of_ble_eq_true rfl⟩) (hPW.preV hP hS (ci := 5) rfl (by omega) cw_d) rfl rfl hl.1 rfl (lv_room (Nat.le_of_ble_eq_true rfl)) dX3_charge_2 ⟨Nat.le_of_ble_eq_true rfl, Nat.le_of_ble_eq_true rfl⟩) hS (fun E ce q9 H locs hpx hP hS h1 h2 h3 => ?_) (fun u2 H locs h2 hP hS => ?_)
  · exact wx_out hno hlocks h1 h2 h3 (hpx) hP hS (Nat.le_of_ble_eq_true rfl) (Nat.le_of_ble_eq_true rfl)
  obtain ⟨hu2, eu2⟩ := h2
  refine wx_getN (D := g.1) (cl := vwCl) (ci := 2) (v := .int (x 11 u2 0)) (C := RX0) (T := TX0) (N := 12) hx hb hts iX0 hown hK hP (8 + 3 * u2) (by omega) (cw_b (by omega)) rfl 1 (by decide) (hE.1 _ (ng_in (w := (Cond.fieldLinkNest "FerroDesk" 73 "FerroDesk$Board" "charge" "I" "FerroDesk")) (by decide +kernel))) (fun _ h9 => h9) rfl dX3_charge_5 ?_
  refine W.widen (k := 1) (n := 6) (Nat.le_of_ble_eq_true rfl) (Nat.le_of_ble_eq_true rfl) ?_
  exact vx_ret (W.iret (v := x 11 u2 0) hx hb hr (fun t ht hW => ⟨⟨x 11 u2 0, (), rfl, ⟨u2, hu2, eu2, rfl⟩, PB.mk9 hP ht⟩, hS.F ht⟩) hS.2.2 dX3_charge_8)

set_option maxHeartbeats 4000000 in
set_option maxRecDepth 100000 in
theorem k_shift (l : Launch) (hst : l.stackTraces = false) (g : gE) (base n : Nat) (L : Nat → Nat) (hn : 106 ≤ n) (x : St) (r0 : Nat → va_E) (nb : Nat) (hnb : nb ≤ 6) (hx0 : x 0 0 0 = nI nb) (p0 : Int32) : vx_Met l yX3_shift wsX3_shift ({ frames := 7, cells := 1, slots := 6, locals := 140 }) (va_Pc [.ref (L 0), .int p0] (PW SS g base n L (cw g L x r0))) (va_Qi (fun (r : Int32) (_ : Unit) => ∃ j, j < nb ∧ p0 = nI j ∧ r = x 13 j 0) (fun (u : Unit) t => PB g n L (cw g L x r0) t) (fun q => base ≤ q)) (QX g base n L (cw g L x r0) (fun E => E = "java/lang/IndexOutOfBoundsException" ∧ (p0.toInt < 0 ∨ nb ≤ p0.toInt))) 1 6 (fun q => base ≤ q) := by
  refine vx_ofW (cc := cX3_shift) (maxL := 2) (ret := (some .int)) (by decide) rfl ?_
  intro p e s m args below meth c s₁ B hml hno hv
  obtain ⟨rfl, hPW⟩ := hv
  obtain ⟨hbs, hJ, hP, hK, hE⟩ := id hPW
  have hx := B.exec
  have hb := B.bytes
  have hr := B.returns
  have hts := atoms_spec (ws := wsX3_shift) B.pre
  have hown : s.vm.findClass RX3 = some m.cls := findClass_of_methodNamed B.named
  have hlocks := B.notSynchronized
  have hS : va_S (fun q : Nat => base ≤ q) s.heap s.heap [] := va_S.rf
  have hl := lv_entry ([.ref (L 0), .int p0]) (n := 2) (Nat.le_of_ble_eq_true rfl)
  rw [lg_entry_eq]
  generalize (lg_sl ([.ref (L 0), .int p0]) ++ List.replicate (2 - (lg_sl ([.ref (L 0), .int p0])).length) Slot.unset).toArray = ls at hl ⊢
  have hl : lv_has ls 2 [(0, .ref (L 0)), (1, .int p0)] := hl
  have iX0 : ∀ w ∈ wsX00, w ∈ wsX3_shift := by decide +kernel
  refine lv_aload_n hx hb dX3_shift_0 rfl (lv_at hl 0 rfl) ?_
  refine lv_iload_n hx hb dX3_shift_1 rfl (lv_at hl 1 rfl) ?_
  refine wx_xcallr (G := fun u => 8 + 3 * u) (vx_runV (As := [.int p0]) (rest := []) ⟨hx, hb, hml, hown, hts⟩ (k_boardAt l hst g base n L (by omega) x r0 nb hnb hx0 p0) (cwV 1 hts gX3_shift_X3_boardAt rfl rfl rfl (by decide +kernel) ⟨Nat.le_of_ble_eq_true rfl, Nat.le_of_ble_eq_true rfl⟩) (hPW.preV hP hS (ci := 5) rfl (by omega) cw_d) rfl rfl hl.1 rfl (lv_room (Nat.le_of_ble_eq_true rfl)) dX3_shift_2 ⟨Nat.le_of_ble_eq_true rfl, Nat.le_of_ble_eq_true rfl⟩) hS (fun E ce q9 H locs hpx hP hS h1 h2 h3 => ?_) (fun u2 H locs h2 hP hS => ?_)
  · exact wx_out hno hlocks h1 h2 h3 (hpx) hP hS (Nat.le_of_ble_eq_true rfl) (Nat.le_of_ble_eq_true rfl)
  obtain ⟨hu2, eu2⟩ := h2
  refine wx_getN (D := g.1) (cl := vwCl) (ci := 2) (v := .int (x 13 u2 0)) (C := RX0) (T := TX0) (N := 12) hx hb hts iX0 hown hK hP (8 + 3 * u2) (by omega) (cw_b (by omega)) rfl 3 (by decide) (hE.1 _ (ng_in (w := (Cond.fieldLinkNest "FerroDesk" 97 "FerroDesk$Board" "shiftedBy" "I" "FerroDesk")) (by decide +kernel))) (fun _ h9 => h9) rfl dX3_shift_5 ?_
  refine W.widen (k := 1) (n := 6) (Nat.le_of_ble_eq_true rfl) (Nat.le_of_ble_eq_true rfl) ?_
  exact vx_ret (W.iret (v := x 13 u2 0) hx hb hr (fun t ht hW => ⟨⟨x 13 u2 0, (), rfl, ⟨u2, hu2, eu2, rfl⟩, PB.mk9 hP ht⟩, hS.F ht⟩) hS.2.2 dX3_shift_8)

set_option maxHeartbeats 4000000 in
set_option maxRecDepth 100000 in
theorem k_worst (l : Launch) (hst : l.stackTraces = false) (g : gE) (base n : Nat) (L : Nat → Nat) (hn : 106 ≤ n) (x : St) (r0 : Nat → va_E) (nb : Nat) (hnb : nb ≤ 6) (hx0 : x 0 0 0 = nI nb) (p0 : Int32) : vx_Met l yX3_worst wsX3_worst ({ frames := 7, cells := 1, slots := 6, locals := 140 }) (va_Pc [.ref (L 0), .int p0] (PW SS g base n L (cw g L x r0))) (va_Qi (fun (r : Int32) (_ : Unit) => ∃ j, j < nb ∧ p0 = nI j ∧ r = x 16 j 0) (fun (u : Unit) t => PB g n L (cw g L x r0) t) (fun q => base ≤ q)) (QX g base n L (cw g L x r0) (fun E => E = "java/lang/IndexOutOfBoundsException" ∧ (p0.toInt < 0 ∨ nb ≤ p0.toInt))) 1 6 (fun q => base ≤ q) := by
  refine vx_ofW (cc := cX3_worst) (maxL := 2) (ret := (some .int)) (by decide) rfl ?_
  intro p e s m args below meth c s₁ B hml hno hv
  obtain ⟨rfl, hPW⟩ := hv
  obtain ⟨hbs, hJ, hP, hK, hE⟩ := id hPW
  have hx := B.exec
  have hb := B.bytes
  have hr := B.returns
  have hts := atoms_spec (ws := wsX3_worst) B.pre
  have hown : s.vm.findClass RX3 = some m.cls := findClass_of_methodNamed B.named
  have hlocks := B.notSynchronized
  have hS : va_S (fun q : Nat => base ≤ q) s.heap s.heap [] := va_S.rf
  have hl := lv_entry ([.ref (L 0), .int p0]) (n := 2) (Nat.le_of_ble_eq_true rfl)
  rw [lg_entry_eq]
  generalize (lg_sl ([.ref (L 0), .int p0]) ++ List.replicate (2 - (lg_sl ([.ref (L 0), .int p0])).length) Slot.unset).toArray = ls at hl ⊢
  have hl : lv_has ls 2 [(0, .ref (L 0)), (1, .int p0)] := hl
  have iX0 : ∀ w ∈ wsX00, w ∈ wsX3_worst := by decide +kernel
  refine lv_aload_n hx hb dX3_worst_0 rfl (lv_at hl 0 rfl) ?_
  refine lv_iload_n hx hb dX3_worst_1 rfl (lv_at hl 1 rfl) ?_
  refine wx_xcallr (G := fun u => 8 + 3 * u) (vx_runV (As := [.int p0]) (rest := []) ⟨hx, hb, hml, hown, hts⟩ (k_boardAt l hst g base n L (by omega) x r0 nb hnb hx0 p0) (cwV 1 hts gX3_worst_X3_boardAt rfl rfl rfl (by decide +kernel) ⟨Nat.le_of_ble_eq_true rfl, Nat.le_of_ble_eq_true rfl⟩) (hPW.preV hP hS (ci := 5) rfl (by omega) cw_d) rfl rfl hl.1 rfl (lv_room (Nat.le_of_ble_eq_true rfl)) dX3_worst_2 ⟨Nat.le_of_ble_eq_true rfl, Nat.le_of_ble_eq_true rfl⟩) hS (fun E ce q9 H locs hpx hP hS h1 h2 h3 => ?_) (fun u2 H locs h2 hP hS => ?_)
  · exact wx_out hno hlocks h1 h2 h3 (hpx) hP hS (Nat.le_of_ble_eq_true rfl) (Nat.le_of_ble_eq_true rfl)
  obtain ⟨hu2, eu2⟩ := h2
  refine wx_getN (D := g.1) (cl := vwCl) (ci := 2) (v := .int (x 16 u2 0)) (C := RX0) (T := TX0) (N := 12) hx hb hts iX0 hown hK hP (8 + 3 * u2) (by omega) (cw_b (by omega)) rfl 7 (by decide) (hE.1 _ (ng_in (w := (Cond.fieldLinkNest "FerroDesk" 233 "FerroDesk$Board" "greatestWear" "I" "FerroDesk")) (by decide +kernel))) (fun _ h9 => h9) rfl dX3_worst_5 ?_
  refine W.widen (k := 1) (n := 6) (Nat.le_of_ble_eq_true rfl) (Nat.le_of_ble_eq_true rfl) ?_
  exact vx_ret (W.iret (v := x 16 u2 0) hx hb hr (fun t ht hW => ⟨⟨x 16 u2 0, (), rfl, ⟨u2, hu2, eu2, rfl⟩, PB.mk9 hP ht⟩, hS.F ht⟩) hS.2.2 dX3_worst_8)

set_option maxHeartbeats 4000000 in
set_option maxRecDepth 100000 in
theorem k_sleeps (l : Launch) (hst : l.stackTraces = false) (g : gE) (base n : Nat) (L : Nat → Nat) (hn : 106 ≤ n) (x : St) (r0 : Nat → va_E) (nb : Nat) (hnb : nb ≤ 6) (hx0 : x 0 0 0 = nI nb) (hbz : ∀ b, b < 6 → x 14 b 0 = 0 ∨ x 14 b 0 = 1) (p0 : Int32) : vx_Met l yX3_sleeps wsX3_sleeps ({ frames := 7, cells := 1, slots := 6, locals := 140 }) (va_Pc [.ref (L 0), .int p0] (PW SS g base n L (cw g L x r0))) (va_Qi (fun (r : Int32) (_ : Unit) => ∃ j, j < nb ∧ p0 = nI j ∧ r = x 14 j 0) (fun (u : Unit) t => PB g n L (cw g L x r0) t) (fun q => base ≤ q)) (QX g base n L (cw g L x r0) (fun E => E = "java/lang/IndexOutOfBoundsException" ∧ (p0.toInt < 0 ∨ nb ≤ p0.toInt))) 1 6 (fun q => base ≤ q) := by
  refine vx_ofW (cc := cX3_sleeps) (maxL := 2) (ret := (some .boolean)) (by decide) rfl ?_
  intro p e s m args below meth c s₁ B hml hno hv
  obtain ⟨rfl, hPW⟩ := hv
  obtain ⟨hbs, hJ, hP, hK, hE⟩ := id hPW
  have hx := B.exec
  have hb := B.bytes
  have hr := B.returns
  have hts := atoms_spec (ws := wsX3_sleeps) B.pre
  have hown : s.vm.findClass RX3 = some m.cls := findClass_of_methodNamed B.named
  have hlocks := B.notSynchronized
  have hS : va_S (fun q : Nat => base ≤ q) s.heap s.heap [] := va_S.rf
  have hl := lv_entry ([.ref (L 0), .int p0]) (n := 2) (Nat.le_of_ble_eq_true rfl)
  rw [lg_entry_eq]
  generalize (lg_sl ([.ref (L 0), .int p0]) ++ List.replicate (2 - (lg_sl ([.ref (L 0), .int p0])).length) Slot.unset).toArray = ls at hl ⊢
  have hl : lv_has ls 2 [(0, .ref (L 0)), (1, .int p0)] := hl
  have iX0 : ∀ w ∈ wsX00, w ∈ wsX3_sleeps := by decide +kernel
  refine lv_aload_n hx hb dX3_sleeps_0 rfl (lv_at hl 0 rfl) ?_
  refine lv_iload_n hx hb dX3_sleeps_1 rfl (lv_at hl 1 rfl) ?_
  refine wx_xcallr (G := fun u => 8 + 3 * u) (vx_runV (As := [.int p0]) (rest := []) ⟨hx, hb, hml, hown, hts⟩ (k_boardAt l hst g base n L (by omega) x r0 nb hnb hx0 p0) (cwV 1 hts gX3_sleeps_X3_boardAt rfl rfl rfl (by decide +kernel) ⟨Nat.le_of_ble_eq_true rfl, Nat.le_of_ble_eq_true rfl⟩) (hPW.preV hP hS (ci := 5) rfl (by omega) cw_d) rfl rfl hl.1 rfl (lv_room (Nat.le_of_ble_eq_true rfl)) dX3_sleeps_2 ⟨Nat.le_of_ble_eq_true rfl, Nat.le_of_ble_eq_true rfl⟩) hS (fun E ce q9 H locs hpx hP hS h1 h2 h3 => ?_) (fun u2 H locs h2 hP hS => ?_)
  · exact wx_out hno hlocks h1 h2 h3 (hpx) hP hS (Nat.le_of_ble_eq_true rfl) (Nat.le_of_ble_eq_true rfl)
  obtain ⟨hu2, eu2⟩ := h2
  refine wx_getN (D := g.1) (cl := vwCl) (ci := 2) (v := .int (x 14 u2 0)) (C := RX0) (T := TX0) (N := 12) hx hb hts iX0 hown hK hP (8 + 3 * u2) (by omega) (cw_b (by omega)) rfl 4 (by decide) (hE.1 _ (ng_in (w := (Cond.fieldLinkNest "FerroDesk" 100 "FerroDesk$Board" "asleep" "Z" "FerroDesk")) (by decide +kernel))) (fun _ h9 => h9) rfl dX3_sleeps_5 ?_
  refine W.widen (k := 1) (n := 6) (Nat.le_of_ble_eq_true rfl) (Nat.le_of_ble_eq_true rfl) ?_
  exact vx_ret (W.zret (v := x 14 u2 0) hx hb hr ((hbz u2 (by omega)).elim (fun h9 => by rw [h9]; decide) (fun h9 => by rw [h9]; decide)) (fun t ht hW => ⟨⟨x 14 u2 0, (), rfl, ⟨u2, hu2, eu2, rfl⟩, PB.mk9 hP ht⟩, hS.F ht⟩) hS.2.2 dX3_sleeps_8)

set_option maxHeartbeats 4000000 in
set_option maxRecDepth 100000 in
theorem k_wear (l : Launch) (hst : l.stackTraces = false) (g : gE) (base n : Nat) (L : Nat → Nat) (hn : 106 ≤ n) (x : St) (r0 : Nat → va_E) (nb : Nat) (hnb : nb ≤ 6) (hx0 : x 0 0 0 = nI nb) (p0 p1 p2 : Int32) : vx_Met l yX3_wear wsX3_wear ({ frames := 7, cells := 2, slots := 12, locals := 140 }) (va_Pc [.ref (L 0), .int p0, .int p1, .int p2] (PW SS g base n L (cw g L x r0))) (va_Qi (fun (r : Int32) (_ : Unit) => ∃ j, j < nb ∧ p0 = nI j ∧ (0 ≤ p1.toInt ∧ p1.toInt < 8 ∧ 0 ≤ p2.toInt ∧ p2.toInt < 4) ∧ r = wearF x j (8 * p2 + p1)) (fun (u : Unit) t => PB g n L (cw g L x r0) t) (fun q => base ≤ q)) (QX g base n L (cw g L x r0) (fun E => E = "java/lang/IndexOutOfBoundsException" ∧ ((p0.toInt < 0 ∨ nb ≤ p0.toInt) ∨ ¬ (0 ≤ p1.toInt ∧ p1.toInt < 8 ∧ 0 ≤ p2.toInt ∧ p2.toInt < 4)))) 2 12 (fun q => base ≤ q) := by
  refine vx_ofW (cc := cX3_wear) (maxL := 5) (ret := (some .int)) (by decide) rfl ?_
  intro p e s m args below meth c s₁ B hml hno hv
  obtain ⟨rfl, hPW⟩ := hv
  obtain ⟨hbs, hJ, hP, hK, hE⟩ := id hPW
  have hx := B.exec
  have hb := B.bytes
  have hr := B.returns
  have hts := atoms_spec (ws := wsX3_wear) B.pre
  have hown : s.vm.findClass RX3 = some m.cls := findClass_of_methodNamed B.named
  have hlocks := B.notSynchronized
  have hS : va_S (fun q : Nat => base ≤ q) s.heap s.heap [] := va_S.rf
  have hl := lv_entry ([.ref (L 0), .int p0, .int p1, .int p2]) (n := 5) (Nat.le_of_ble_eq_true rfl)
  rw [lg_entry_eq]
  generalize (lg_sl ([.ref (L 0), .int p0, .int p1, .int p2]) ++ List.replicate (5 - (lg_sl ([.ref (L 0), .int p0, .int p1, .int p2])).length) Slot.unset).toArray = ls at hl ⊢
  have hl : lv_has ls 5 [(0, .ref (L 0)), (1, .int p0), (2, .int p1), (3, .int p2)] := hl
  refine lv_aload_n hx hb dX3_wear_0 rfl (lv_at hl 0 rfl) ?_
  refine lv_iload_n hx hb dX3_wear_1 rfl (lv_at hl 1 rfl) ?_
  refine wx_xcallr (G := fun u => 8 + 3 * u) (vx_runV (As := [.int p0]) (rest := []) ⟨hx, hb, hml, hown, hts⟩ (k_boardAt l hst g base n L (by omega) x r0 nb hnb hx0 p0) (cwV 1 hts gX3_wear_X3_boardAt rfl rfl rfl (by decide +kernel) ⟨Nat.le_of_ble_eq_true rfl, Nat.le_of_ble_eq_true rfl⟩) (hPW.preV hP hS (ci := 5) rfl (by omega) cw_d) rfl rfl hl.1 rfl (lv_room (Nat.le_of_ble_eq_true rfl)) dX3_wear_2 ⟨Nat.le_of_ble_eq_true rfl, Nat.le_of_ble_eq_true rfl⟩) hS (fun E ce q9 H locs hpx hP hS h1 h2 h3 => ?_) (fun u2 H locs h2 hP hS => ?_)
  · exact wx_out hno hlocks h1 h2 h3 (⟨hpx.1, Or.inl hpx.2⟩) hP hS (Nat.le_of_ble_eq_true rfl) (Nat.le_of_ble_eq_true rfl)
  obtain ⟨hu2, eu2⟩ := h2
  refine lv_astore (lv' := [(4, .ref (L (8 + 3 * u2))), (0, .ref (L 0)), (1, .int p0), (2, .int p1), (3, .int p2)]) hx hb dX3_wear_5 hl (by decide) rfl (fun ls hl => ?_)
  refine lv_aload hx hb dX3_wear_7 (lv_at hl 0 rfl) ?_
  refine lv_iload_n hx hb dX3_wear_9 rfl (lv_at hl 3 rfl) ?_
  refine lv_iload_n hx hb dX3_wear_10 rfl (lv_at hl 4 rfl) ?_
  refine wx_xcalli (vx_runS (As := [.int p1, .int p2]) (rest := [.ref (L (8 + 3 * u2))]) ⟨hx, hb, hml, hown, hts⟩ (k_cellAt l hst g base n L (cw g L x r0) p1 p2) (va_cwS 2 hts gX3_wear_X3_cellAt rfl rfl rfl (by decide +kernel) ⟨Nat.le_of_ble_eq_true rfl, Nat.le_of_ble_eq_true rfl⟩) (hPW.preS hP hS) rfl rfl hl.1 rfl (lv_room (Nat.le_of_ble_eq_true rfl)) dX3_wear_11 ⟨Nat.le_of_ble_eq_true rfl, Nat.le_of_ble_eq_true rfl⟩) hS (fun E ce q9 H locs hpx hP hS h1 h2 h3 => ?_) (fun r11 u11 H locs h11 hP hS => ?_)
  · exact wx_out hno hlocks h1 h2 h3 (⟨hpx.1, Or.inr hpx.2⟩) hP hS (Nat.le_of_ble_eq_true rfl) (Nat.le_of_ble_eq_true rfl)
  obtain ⟨h11, rfl⟩ := h11
  refine wx_calli (va_runV (As := [.int (8 * p2 + p1)]) (rest := []) ⟨hx, hb, hml, hown, hts⟩ (k_wearOf l hst g base n L (by omega) x r0 u2 (by omega)  (8 * p2 + p1)) (cwV 1 hts gX3_wear_X0_wearOf rfl rfl rfl (by decide +kernel) ⟨Nat.le_of_ble_eq_true rfl, Nat.le_of_ble_eq_true rfl⟩) (hPW.preV hP hS (ci := 2) rfl (by omega) (cw_b (by omega))) rfl rfl hl.1 rfl (lv_room (Nat.le_of_ble_eq_true rfl)) dX3_wear_14 ⟨Nat.le_of_ble_eq_true rfl, Nat.le_of_ble_eq_true rfl⟩) hS (fun r14 u14 H locs h14 hP hS => ?_)
  obtain rfl := h14
  refine W.widen (k := 2) (n := 12) (Nat.le_of_ble_eq_true rfl) (Nat.le_of_ble_eq_true rfl) ?_
  exact vx_ret (W.iret (v := wearF x u2 (8 * p2 + p1)) hx hb hr (fun t ht hW => ⟨⟨wearF x u2 (8 * p2 + p1), (), rfl, ⟨u2, hu2, eu2, h11, rfl⟩, PB.mk9 hP ht⟩, hS.F ht⟩) hS.2.2 dX3_wear_17)

set_option maxHeartbeats 4000000 in
set_option maxRecDepth 100000 in
theorem k_cell (l : Launch) (hst : l.stackTraces = false) (g : gE) (base n : Nat) (L : Nat → Nat) (hn : 106 ≤ n) (x : St) (r0 : Nat → va_E) (nb : Nat) (hnb : nb ≤ 6) (hx0 : x 0 0 0 = nI nb) (p0 p1 p2 : Int32) : vx_Met l yX3_cell wsX3_cell ({ frames := 7, cells := 2, slots := 12, locals := 140 }) (va_Pc [.ref (L 0), .int p0, .int p1, .int p2] (PW SS g base n L (cw g L x r0))) (va_Qi (fun (r : Int32) (_ : Unit) => ∃ j, j < nb ∧ p0 = nI j ∧ (0 ≤ p1.toInt ∧ p1.toInt < 8 ∧ 0 ≤ p2.toInt ∧ p2.toInt < 4) ∧ r = bitF (x 15 j 0) (8 * p2 + p1)) (fun (u : Unit) t => PB g n L (cw g L x r0) t) (fun q => base ≤ q)) (QX g base n L (cw g L x r0) (fun E => E = "java/lang/IndexOutOfBoundsException" ∧ ((p0.toInt < 0 ∨ nb ≤ p0.toInt) ∨ ¬ (0 ≤ p1.toInt ∧ p1.toInt < 8 ∧ 0 ≤ p2.toInt ∧ p2.toInt < 4)))) 2 12 (fun q => base ≤ q) := by
  refine vx_ofW (cc := cX3_cell) (maxL := 5) (ret := (some .int)) (by decide) rfl ?_
  intro p e s m args below meth c s₁ B hml hno hv
  obtain ⟨rfl, hPW⟩ := hv
  obtain ⟨hbs, hJ, hP, hK, hE⟩ := id hPW
  have hx := B.exec
  have hb := B.bytes
  have hr := B.returns
  have hts := atoms_spec (ws := wsX3_cell) B.pre
  have hown : s.vm.findClass RX3 = some m.cls := findClass_of_methodNamed B.named
  have hlocks := B.notSynchronized
  have hS : va_S (fun q : Nat => base ≤ q) s.heap s.heap [] := va_S.rf
  have hl := lv_entry ([.ref (L 0), .int p0, .int p1, .int p2]) (n := 5) (Nat.le_of_ble_eq_true rfl)
  rw [lg_entry_eq]
  generalize (lg_sl ([.ref (L 0), .int p0, .int p1, .int p2]) ++ List.replicate (5 - (lg_sl ([.ref (L 0), .int p0, .int p1, .int p2])).length) Slot.unset).toArray = ls at hl ⊢
  have hl : lv_has ls 5 [(0, .ref (L 0)), (1, .int p0), (2, .int p1), (3, .int p2)] := hl
  have iX0 : ∀ w ∈ wsX00, w ∈ wsX3_cell := by decide +kernel
  refine lv_aload_n hx hb dX3_cell_0 rfl (lv_at hl 0 rfl) ?_
  refine lv_iload_n hx hb dX3_cell_1 rfl (lv_at hl 1 rfl) ?_
  refine wx_xcallr (G := fun u => 8 + 3 * u) (vx_runV (As := [.int p0]) (rest := []) ⟨hx, hb, hml, hown, hts⟩ (k_boardAt l hst g base n L (by omega) x r0 nb hnb hx0 p0) (cwV 1 hts gX3_cell_X3_boardAt rfl rfl rfl (by decide +kernel) ⟨Nat.le_of_ble_eq_true rfl, Nat.le_of_ble_eq_true rfl⟩) (hPW.preV hP hS (ci := 5) rfl (by omega) cw_d) rfl rfl hl.1 rfl (lv_room (Nat.le_of_ble_eq_true rfl)) dX3_cell_2 ⟨Nat.le_of_ble_eq_true rfl, Nat.le_of_ble_eq_true rfl⟩) hS (fun E ce q9 H locs hpx hP hS h1 h2 h3 => ?_) (fun u2 H locs h2 hP hS => ?_)
  · exact wx_out hno hlocks h1 h2 h3 (⟨hpx.1, Or.inl hpx.2⟩) hP hS (Nat.le_of_ble_eq_true rfl) (Nat.le_of_ble_eq_true rfl)
  obtain ⟨hu2, eu2⟩ := h2
  refine lv_astore (lv' := [(4, .ref (L (8 + 3 * u2))), (0, .ref (L 0)), (1, .int p0), (2, .int p1), (3, .int p2)]) hx hb dX3_cell_5 hl (by decide) rfl (fun ls hl => ?_)
  refine lv_aload hx hb dX3_cell_7 (lv_at hl 0 rfl) ?_
  refine wx_getN (D := g.1) (cl := vwCl) (ci := 2) (v := .int (x 15 u2 0)) (C := RX0) (T := TX0) (N := 12) hx hb hts iX0 hown hK hP (8 + 3 * u2) (by omega) (cw_b (by omega)) rfl 5 (by decide) (hE.1 _ (ng_in (w := (Cond.fieldLinkNest "FerroDesk" 76 "FerroDesk$Board" "black" "I" "FerroDesk")) (by decide +kernel))) (fun _ h9 => h9) rfl dX3_cell_9 ?_
  refine lv_iload_n hx hb dX3_cell_12 rfl (lv_at hl 3 rfl) ?_
  refine lv_iload_n hx hb dX3_cell_13 rfl (lv_at hl 4 rfl) ?_
  refine wx_xcalli (vx_runS (As := [.int p1, .int p2]) (rest := [.int (x 15 u2 0)]) ⟨hx, hb, hml, hown, hts⟩ (k_cellAt l hst g base n L (cw g L x r0) p1 p2) (va_cwS 2 hts gX3_cell_X3_cellAt rfl rfl rfl (by decide +kernel) ⟨Nat.le_of_ble_eq_true rfl, Nat.le_of_ble_eq_true rfl⟩) (hPW.preS hP hS) rfl rfl hl.1 rfl (lv_room (Nat.le_of_ble_eq_true rfl)) dX3_cell_14 ⟨Nat.le_of_ble_eq_true rfl, Nat.le_of_ble_eq_true rfl⟩) hS (fun E ce q9 H locs hpx hP hS h1 h2 h3 => ?_) (fun r14 u14 H locs h14 hP hS => ?_)
  · exact wx_out hno hlocks h1 h2 h3 (⟨hpx.1, Or.inr hpx.2⟩) hP hS (Nat.le_of_ble_eq_true rfl) (Nat.le_of_ble_eq_true rfl)
  obtain ⟨h14, rfl⟩ := h14
  refine wx_calli (va_runS (As := [.int (x 15 u2 0), .int (8 * p2 + p1)]) (rest := []) ⟨hx, hb, hml, hown, hts⟩ (k_bitOf l hst g base n L (cw g L x r0) (x 15 u2 0) (8 * p2 + p1)) (va_cwS 2 hts gX3_cell_X3_bitOf rfl rfl rfl (by decide +kernel) ⟨Nat.le_of_ble_eq_true rfl, Nat.le_of_ble_eq_true rfl⟩) (hPW.preS hP hS) rfl rfl hl.1 rfl (lv_room (Nat.le_of_ble_eq_true rfl)) dX3_cell_17 ⟨Nat.le_of_ble_eq_true rfl, Nat.le_of_ble_eq_true rfl⟩) hS (fun r17 u17 H locs h17 hP hS => ?_)
  obtain rfl := h17
  refine W.widen (k := 2) (n := 12) (Nat.le_of_ble_eq_true rfl) (Nat.le_of_ble_eq_true rfl) ?_
  exact vx_ret (W.iret (v := bitF (x 15 u2 0) (8 * p2 + p1)) hx hb hr (fun t ht hW => ⟨⟨bitF (x 15 u2 0) (8 * p2 + p1), (), rfl, ⟨u2, hu2, eu2, h14, rfl⟩, PB.mk9 hP ht⟩, hS.F ht⟩) hS.2.2 dX3_cell_20)

set_option maxHeartbeats 4000000 in
set_option maxRecDepth 100000 in
theorem k_isDue (l : Launch) (hst : l.stackTraces = false) (g : gE) (base n : Nat) (L : Nat → Nat) (hn : 106 ≤ n) (x : St) (r0 : Nat → va_E) (nn : Nat) (hnn : nn ≤ 40) (hx1 : x 1 0 0 = nI nn) (p0 : Int32) : vx_Met l yX3_isDue wsX3_isDue ({ frames := 7, cells := 1, slots := 6, locals := 140 }) (va_Pc [.ref (L 0), .int p0] (PW SS g base n L (cw g L x r0))) (va_Qi (fun (r : Int32) (_ : Unit) => ∃ j, j < nn ∧ p0 = nI j ∧ ((r = 1 ∧ (x 32 j 0 ≤ x 3 0 0 ∧ x 3 0 0 < x 33 j 0)) ∨ (r = 0 ∧ ¬ ((x 32 j 0 ≤ x 3 0 0 ∧ x 3 0 0 < x 33 j 0))))) (fun (u : Unit) t => PB g n L (cw g L x r0) t) (fun q => base ≤ q)) (QX g base n L (cw g L x r0) (fun E => E = "java/lang/IndexOutOfBoundsException" ∧ (p0.toInt < 0 ∨ nn ≤ p0.toInt))) 1 6 (fun q => base ≤ q) := by
  refine vx_ofW (cc := cX3_isDue) (maxL := 2) (ret := (some .boolean)) (by decide) rfl ?_
  intro p e s m args below meth c s₁ B hml hno hv
  obtain ⟨rfl, hPW⟩ := hv
  obtain ⟨hbs, hJ, hP, hK, hE⟩ := id hPW
  have hx := B.exec
  have hb := B.bytes
  have hr := B.returns
  have hts := atoms_spec (ws := wsX3_isDue) B.pre
  have hown : s.vm.findClass RX3 = some m.cls := findClass_of_methodNamed B.named
  have hlocks := B.notSynchronized
  have hS : va_S (fun q : Nat => base ≤ q) s.heap s.heap [] := va_S.rf
  have hl := lv_entry ([.ref (L 0), .int p0]) (n := 2) (Nat.le_of_ble_eq_true rfl)
  rw [lg_entry_eq]
  generalize (lg_sl ([.ref (L 0), .int p0]) ++ List.replicate (2 - (lg_sl ([.ref (L 0), .int p0])).length) Slot.unset).toArray = ls at hl ⊢
  have hl : lv_has ls 2 [(0, .ref (L 0)), (1, .int p0)] := hl
  have iX3 : ∀ w ∈ wsX30, w ∈ wsX3_isDue := by decide +kernel
  refine lv_aload_n hx hb dX3_isDue_0 rfl (lv_at hl 0 rfl) ?_
  refine lv_iload_n hx hb dX3_isDue_1 rfl (lv_at hl 1 rfl) ?_
  refine wx_xcallr (G := fun u => 26 + 2 * u) (vx_runV (As := [.int p0]) (rest := []) ⟨hx, hb, hml, hown, hts⟩ (k_noticeAt l hst g base n L (by omega) x r0 nn hnn hx1 p0) (cwV 1 hts gX3_isDue_X3_noticeAt rfl rfl rfl (by decide +kernel) ⟨Nat.le_of_ble_eq_true rfl, Nat.le_of_ble_eq_true rfl⟩) (hPW.preV hP hS (ci := 5) rfl (by omega) cw_d) rfl rfl hl.1 rfl (lv_room (Nat.le_of_ble_eq_true rfl)) dX3_isDue_2 ⟨Nat.le_of_ble_eq_true rfl, Nat.le_of_ble_eq_true rfl⟩) hS (fun E ce q9 H locs hpx hP hS h1 h2 h3 => ?_) (fun u2 H locs h2 hP hS => ?_)
  · exact wx_out hno hlocks h1 h2 h3 (hpx) hP hS (Nat.le_of_ble_eq_true rfl) (Nat.le_of_ble_eq_true rfl)
  obtain ⟨hu2, eu2⟩ := h2
  refine lv_aload_n hx hb dX3_isDue_5 rfl (lv_at hl 0 rfl) ?_
  refine wx_get (D := g.1) (cl := vwCl) (ci := 5) (v := .int (x 3 0 0)) (C := RX3) (T := TX3) (N := 8) hx hb hts iX3 hown hK hP (0) (by omega) cw_d rfl 7 (by decide) (hts (.fieldLink RX3 41 "FerroDesk" "hour" "I") (by decide +kernel)) (fun _ h9 => h9) rfl dX3_isDue_6 ?_
  refine wx_calli (va_runV (As := [.int (x 3 0 0)]) (rest := []) ⟨hx, hb, hml, hown, hts⟩ (k_isOf l hst g base n L (by omega) x r0 u2 (by omega) (x 3 0 0)) (cwV 1 hts gX3_isDue_X1_isOf rfl rfl rfl (by decide +kernel) ⟨Nat.le_of_ble_eq_true rfl, Nat.le_of_ble_eq_true rfl⟩) (hPW.preV hP hS (ci := 3) rfl (by omega) (cw_n (by omega))) rfl rfl hl.1 rfl (lv_room (Nat.le_of_ble_eq_true rfl)) dX3_isDue_9 ⟨Nat.le_of_ble_eq_true rfl, Nat.le_of_ble_eq_true rfl⟩) hS (fun r9 u9 H locs h9 hP hS => ?_)
  rcases h9 with ⟨rfl, h9⟩ | ⟨rfl, h9⟩
  · refine W.widen (k := 1) (n := 6) (Nat.le_of_ble_eq_true rfl) (Nat.le_of_ble_eq_true rfl) ?_
    exact vx_ret (W.zret (v := 1) hx hb hr (by decide) (fun t ht hW => ⟨⟨1, (), rfl, ⟨u2, hu2, eu2, Or.inl ⟨rfl, h9⟩⟩, PB.mk9 hP ht⟩, hS.F ht⟩) hS.2.2 dX3_isDue_12)
  · refine W.widen (k := 1) (n := 6) (Nat.le_of_ble_eq_true rfl) (Nat.le_of_ble_eq_true rfl) ?_
    exact vx_ret (W.zret (v := 0) hx hb hr (by decide) (fun t ht hW => ⟨⟨0, (), rfl, ⟨u2, hu2, eu2, Or.inr ⟨rfl, h9⟩⟩, PB.mk9 hP ht⟩, hS.F ht⟩) hS.2.2 dX3_isDue_12)

set_option maxHeartbeats 4000000 in
set_option maxRecDepth 100000 in
theorem k_readers (l : Launch) (hst : l.stackTraces = false) (g : gE) (base n : Nat) (L : Nat → Nat) (hn : 106 ≤ n) (x : St) (r0 : Nat → va_E) (nb : Nat) (hnb : nb ≤ 6) (hx0 : x 0 0 0 = nI nb) (nn : Nat) (hnn : nn ≤ 40) (hx1 : x 1 0 0 = nI nn) (p0 p1 : Int32) : vx_Met l yX3_readers wsX3_readers ({ frames := 7, cells := 2, slots := 12, locals := 140 }) (va_Pc [.ref (L 0), .int p0, .int p1] (PW SS g base n L (cw g L x r0))) (va_Qi (fun (r : Int32) (_ : Unit) => ∃ j, j < nn ∧ p0 = nI j ∧ (0 ≤ p1.toInt ∧ p1.toInt ≤ 3) ∧ r = riF x j p1 nb) (fun (u : Unit) t => PB g n L (cw g L x r0) t) (fun q => base ≤ q)) (QX g base n L (cw g L x r0) (fun E => (E = "java/lang/IndexOutOfBoundsException" ∧ (p0.toInt < 0 ∨ nn ≤ p0.toInt)) ∨ (E = "java/lang/IllegalArgumentException" ∧ (∃ j, j < nn ∧ p0 = nI j) ∧ (p1.toInt < 0 ∨ 3 < p1.toInt)))) 2 12 (fun q => base ≤ q) := by
  refine vx_ofW (cc := cX3_readers) (maxL := 4) (ret := (some .int)) (by decide) rfl ?_
  intro p e s m args below meth c s₁ B hml hno hv
  obtain ⟨rfl, hPW⟩ := hv
  obtain ⟨hbs, hJ, hP, hK, hE⟩ := id hPW
  have hx := B.exec
  have hb := B.bytes
  have hr := B.returns
  have hts := atoms_spec (ws := wsX3_readers) B.pre
  have hown : s.vm.findClass RX3 = some m.cls := findClass_of_methodNamed B.named
  have hlocks := B.notSynchronized
  have hS : va_S (fun q : Nat => base ≤ q) s.heap s.heap [] := va_S.rf
  have hl := lv_entry ([.ref (L 0), .int p0, .int p1]) (n := 4) (Nat.le_of_ble_eq_true rfl)
  rw [lg_entry_eq]
  generalize (lg_sl ([.ref (L 0), .int p0, .int p1]) ++ List.replicate (4 - (lg_sl ([.ref (L 0), .int p0, .int p1])).length) Slot.unset).toArray = ls at hl ⊢
  have hl : lv_has ls 4 [(0, .ref (L 0)), (1, .int p0), (2, .int p1)] := hl
  refine lv_aload_n hx hb dX3_readers_0 rfl (lv_at hl 0 rfl) ?_
  refine lv_iload_n hx hb dX3_readers_1 rfl (lv_at hl 1 rfl) ?_
  refine wx_xcallr (G := fun u => 26 + 2 * u) (vx_runV (As := [.int p0]) (rest := []) ⟨hx, hb, hml, hown, hts⟩ (k_noticeAt l hst g base n L (by omega) x r0 nn hnn hx1 p0) (cwV 1 hts gX3_readers_X3_noticeAt rfl rfl rfl (by decide +kernel) ⟨Nat.le_of_ble_eq_true rfl, Nat.le_of_ble_eq_true rfl⟩) (hPW.preV hP hS (ci := 5) rfl (by omega) cw_d) rfl rfl hl.1 rfl (lv_room (Nat.le_of_ble_eq_true rfl)) dX3_readers_2 ⟨Nat.le_of_ble_eq_true rfl, Nat.le_of_ble_eq_true rfl⟩) hS (fun E ce q9 H locs hpx hP hS h1 h2 h3 => ?_) (fun u2 H locs h2 hP hS => ?_)
  · exact wx_out hno hlocks h1 h2 h3 (Or.inl hpx) hP hS (Nat.le_of_ble_eq_true rfl) (Nat.le_of_ble_eq_true rfl)
  obtain ⟨hu2, eu2⟩ := h2
  refine lv_astore_n (lv' := [(3, .ref (L (26 + 2 * u2))), (0, .ref (L 0)), (1, .int p0), (2, .int p1)]) hx hb dX3_readers_5 rfl hl (by decide) rfl (fun ls hl => ?_)
  refine lv_iload_n hx hb dX3_readers_6 rfl (lv_at hl 3 rfl) ?_
  refine wx_xcallv (vx_runS (As := [.int p1]) (rest := []) ⟨hx, hb, hml, hown, hts⟩ (k_checkDistrict l hst g base n L (cw g L x r0) p1) (va_cwS 1 hts gX3_readers_X3_checkDistrict rfl rfl rfl (by decide +kernel) ⟨Nat.le_of_ble_eq_true rfl, Nat.le_of_ble_eq_true rfl⟩) (hPW.preS hP hS) rfl rfl hl.1 rfl (lv_room (Nat.le_of_ble_eq_true rfl)) dX3_readers_7 ⟨Nat.le_of_ble_eq_true rfl, Nat.le_of_ble_eq_true rfl⟩) hS (fun E ce q9 H locs hpx hP hS h1 h2 h3 => ?_) (fun u7 H locs h7 hP hS => ?_)
  · exact wx_out hno hlocks h1 h2 h3 (Or.inr ⟨hpx.1, ⟨u2, hu2, eu2⟩, hpx.2⟩) hP hS (Nat.le_of_ble_eq_true rfl) (Nat.le_of_ble_eq_true rfl)
  refine lv_aload_n hx hb dX3_readers_10 rfl (lv_at hl 1 rfl) ?_
  refine lv_aload_n hx hb dX3_readers_11 rfl (lv_at hl 0 rfl) ?_
  refine lv_iload_n hx hb dX3_readers_12 rfl (lv_at hl 3 rfl) ?_
  refine wx_calli (va_runV (As := [.ref (L (26 + 2 * u2)), .int p1]) (rest := []) ⟨hx, hb, hml, hown, hts⟩ (k_readersIn l hst g base n L (by omega) x r0 nb hnb hx0 u2 (by omega) p1) (cwV 2 hts gX3_readers_X3_readersIn rfl rfl rfl (by decide +kernel) ⟨Nat.le_of_ble_eq_true rfl, Nat.le_of_ble_eq_true rfl⟩) (hPW.preV hP hS (ci := 5) rfl (by omega) cw_d) rfl rfl hl.1 rfl (lv_room (Nat.le_of_ble_eq_true rfl)) dX3_readers_13 ⟨Nat.le_of_ble_eq_true rfl, Nat.le_of_ble_eq_true rfl⟩) hS (fun r13 u13 H locs h13 hP hS => ?_)
  obtain rfl := h13
  refine W.widen (k := 2) (n := 12) (Nat.le_of_ble_eq_true rfl) (Nat.le_of_ble_eq_true rfl) ?_
  exact vx_ret (W.iret (v := riF x u2 p1 nb) hx hb hr (fun t ht hW => ⟨⟨riF x u2 p1 nb, (), rfl, ⟨u2, hu2, eu2, h7, rfl⟩, PB.mk9 hP ht⟩, hS.F ht⟩) hS.2.2 dX3_readers_16)

set_option maxHeartbeats 4000000 in
set_option maxRecDepth 100000 in
theorem k_readIn (l : Launch) (hst : l.stackTraces = false) (g : gE) (base n : Nat) (L : Nat → Nat) (hn : 106 ≤ n) (x : St) (r0 : Nat → va_E) (nn : Nat) (hnn : nn ≤ 40) (hx1 : x 1 0 0 = nI nn) (cnt : Nat) (hcn : cnt ≤ 512) (hx4 : x 4 0 0 = nI cnt) (p0 p1 : Int32) : vx_Met l yX3_readIn wsX3_readIn ({ frames := 7, cells := 1, slots := 6, locals := 140 }) (va_Pc [.ref (L 0), .int p0, .int p1] (PW SS g base n L (cw g L x r0))) (va_Qi (fun (r : Int32) (_ : Unit) => ∃ j, j < nn ∧ p0 = nI j ∧ r = poF x (nI j) p1 cnt) (fun (u : Unit) t => PB g n L (cw g L x r0) t) (fun q => base ≤ q)) (QX g base n L (cw g L x r0) (fun E => E = "java/lang/IndexOutOfBoundsException" ∧ (p0.toInt < 0 ∨ nn ≤ p0.toInt))) 1 6 (fun q => base ≤ q) := by
  refine vx_ofW (cc := cX3_readIn) (maxL := 3) (ret := (some .int)) (by decide) rfl ?_
  intro p e s m args below meth c s₁ B hml hno hv
  obtain ⟨rfl, hPW⟩ := hv
  obtain ⟨hbs, hJ, hP, hK, hE⟩ := id hPW
  have hx := B.exec
  have hb := B.bytes
  have hr := B.returns
  have hts := atoms_spec (ws := wsX3_readIn) B.pre
  have hown : s.vm.findClass RX3 = some m.cls := findClass_of_methodNamed B.named
  have hlocks := B.notSynchronized
  have hS : va_S (fun q : Nat => base ≤ q) s.heap s.heap [] := va_S.rf
  have hl := lv_entry ([.ref (L 0), .int p0, .int p1]) (n := 3) (Nat.le_of_ble_eq_true rfl)
  rw [lg_entry_eq]
  generalize (lg_sl ([.ref (L 0), .int p0, .int p1]) ++ List.replicate (3 - (lg_sl ([.ref (L 0), .int p0, .int p1])).length) Slot.unset).toArray = ls at hl ⊢
  have hl : lv_has ls 3 [(0, .ref (L 0)), (1, .int p0), (2, .int p1)] := hl
  have iX1 : ∀ w ∈ wsX10, w ∈ wsX3_readIn := by decide +kernel
  have iX3 : ∀ w ∈ wsX30, w ∈ wsX3_readIn := by decide +kernel
  refine lv_aload_n hx hb dX3_readIn_0 rfl (lv_at hl 0 rfl) ?_
  refine wx_get (D := g.1) (cl := vwCl) (ci := 5) (v := .ref (L 4)) (C := RX3) (T := TX3) (N := 8) hx hb hts iX3 hown hK hP (0) (by omega) cw_d rfl 5 (by decide) (hts (.fieldLink RX3 34 "FerroDesk" "readings" "LFerroDesk$Readings;") (by decide +kernel)) (fun _ h9 => h9) rfl dX3_readIn_1 ?_
  refine lv_aload_n hx hb dX3_readIn_4 rfl (lv_at hl 0 rfl) ?_
  refine lv_iload_n hx hb dX3_readIn_5 rfl (lv_at hl 1 rfl) ?_
  refine wx_xcallr (G := fun u => 26 + 2 * u) (vx_runV (As := [.int p0]) (rest := [.ref (L 4)]) ⟨hx, hb, hml, hown, hts⟩ (k_noticeAt l hst g base n L (by omega) x r0 nn hnn hx1 p0) (cwV 1 hts gX3_readIn_X3_noticeAt rfl rfl rfl (by decide +kernel) ⟨Nat.le_of_ble_eq_true rfl, Nat.le_of_ble_eq_true rfl⟩) (hPW.preV hP hS (ci := 5) rfl (by omega) cw_d) rfl rfl hl.1 rfl (lv_room (Nat.le_of_ble_eq_true rfl)) dX3_readIn_6 ⟨Nat.le_of_ble_eq_true rfl, Nat.le_of_ble_eq_true rfl⟩) hS (fun E ce q9 H locs hpx hP hS h1 h2 h3 => ?_) (fun u6 H locs h6 hP hS => ?_)
  · exact wx_out hno hlocks h1 h2 h3 (hpx) hP hS (Nat.le_of_ble_eq_true rfl) (Nat.le_of_ble_eq_true rfl)
  obtain ⟨hu6, eu6⟩ := h6
  refine wx_getN (D := g.1) (cl := vwCl) (ci := 3) (v := .int (nI u6)) (C := RX1) (T := TX1) (N := 9) hx hb hts iX1 hown hK hP (26 + 2 * u6) (by omega) (cw_n (by omega)) rfl 0 (by decide) (hE.1 _ (ng_in (w := (Cond.fieldLinkNest "FerroDesk" 94 "FerroDesk$Notice" "number" "I" "FerroDesk")) (by decide +kernel))) (fun _ h9 => h9) rfl dX3_readIn_9 ?_
  refine lv_iload_n hx hb dX3_readIn_12 rfl (lv_at hl 2 rfl) ?_
  refine wx_calli (va_runV (As := [.int (nI u6), .int p1]) (rest := []) ⟨hx, hb, hml, hown, hts⟩ (k_peopleOf l hst g base n L (by omega) x r0 cnt hcn hx4 (nI u6) p1) (cwV 2 hts gX3_readIn_X2_peopleOf rfl rfl rfl (by decide +kernel) ⟨Nat.le_of_ble_eq_true rfl, Nat.le_of_ble_eq_true rfl⟩) (hPW.preV hP hS (ci := 4) rfl (by omega) cw_r) rfl rfl hl.1 rfl (lv_room (Nat.le_of_ble_eq_true rfl)) dX3_readIn_13 ⟨Nat.le_of_ble_eq_true rfl, Nat.le_of_ble_eq_true rfl⟩) hS (fun r13 u13 H locs h13 hP hS => ?_)
  obtain rfl := h13
  refine W.widen (k := 1) (n := 6) (Nat.le_of_ble_eq_true rfl) (Nat.le_of_ble_eq_true rfl) ?_
  exact vx_ret (W.iret (v := poF x (nI u6) p1 cnt) hx hb hr (fun t ht hW => ⟨⟨poF x (nI u6) p1 cnt, (), rfl, ⟨u6, hu6, eu6, rfl⟩, PB.mk9 hP ht⟩, hS.F ht⟩) hS.2.2 dX3_readIn_16)

set_option maxHeartbeats 4000000 in
set_option maxRecDepth 100000 in
theorem k_suspects (l : Launch) (hst : l.stackTraces = false) (g : gE) (base n : Nat) (L : Nat → Nat) (hn : 106 ≤ n) (x : St) (r0 : Nat → va_E) (nb : Nat) (hnb : nb ≤ 6) (hx0 : x 0 0 0 = nI nb) (nn : Nat) (hnn : nn ≤ 40) (hx1 : x 1 0 0 = nI nn) (p0 p1 : Int32) : vx_Met l yX3_suspects wsX3_suspects ({ frames := 8, cells := 2, slots := 12, locals := 180 }) (va_Pc [.ref (L 0), .int p0, .int p1] (PW SS g base n L (cw g L x r0))) (va_Qi (fun (r : Int32) (_ : Unit) => (0 ≤ p1.toInt ∧ p1.toInt ≤ 3 ∧ p0.toInt ≠ 0) ∧ r = scF x p0 p1 nb nn) (fun (u : Unit) t => PB g n L (cw g L x r0) t) (fun q => base ≤ q)) (QX g base n L (cw g L x r0) (fun E => E = "java/lang/IllegalArgumentException" ∧ (p1.toInt < 0 ∨ 3 < p1.toInt ∨ p0.toInt = 0))) 2 12 (fun q => base ≤ q) := by
  refine vx_ofW (cc := cX3_suspects) (maxL := 5) (ret := (some .int)) (by decide) rfl ?_
  intro p e s m args below meth c s₁ B hml hno hv
  obtain ⟨rfl, hPW⟩ := hv
  obtain ⟨hbs, hJ, hP, hK, hE⟩ := id hPW
  have hx := B.exec
  have hb := B.bytes
  have hr := B.returns
  have hts := atoms_spec (ws := wsX3_suspects) B.pre
  have hown : s.vm.findClass RX3 = some m.cls := findClass_of_methodNamed B.named
  have hlocks := B.notSynchronized
  have hS : va_S (fun q : Nat => base ≤ q) s.heap s.heap [] := va_S.rf
  have hl := lv_entry ([.ref (L 0), .int p0, .int p1]) (n := 5) (Nat.le_of_ble_eq_true rfl)
  rw [lg_entry_eq]
  generalize (lg_sl ([.ref (L 0), .int p0, .int p1]) ++ List.replicate (5 - (lg_sl ([.ref (L 0), .int p0, .int p1])).length) Slot.unset).toArray = ls at hl ⊢
  have hl : lv_has ls 5 [(0, .ref (L 0)), (1, .int p0), (2, .int p1)] := hl
  have iX3 : ∀ w ∈ wsX30, w ∈ wsX3_suspects := by decide +kernel
  refine lv_iload_n hx hb dX3_suspects_0 rfl (lv_at hl 1 rfl) ?_
  refine lv_iload_n hx hb dX3_suspects_1 rfl (lv_at hl 2 rfl) ?_
  refine wx_xcallv (vx_runS (As := [.int p0, .int p1]) (rest := []) ⟨hx, hb, hml, hown, hts⟩ (k_checkRumour l hst g base n L (cw g L x r0) p0 p1) (va_cwS 2 hts gX3_suspects_X3_checkRumour rfl rfl rfl (by decide +kernel) ⟨Nat.le_of_ble_eq_true rfl, Nat.le_of_ble_eq_true rfl⟩) (hPW.preS hP hS) rfl rfl hl.1 rfl (lv_room (Nat.le_of_ble_eq_true rfl)) dX3_suspects_2 ⟨Nat.le_of_ble_eq_true rfl, Nat.le_of_ble_eq_true rfl⟩) hS (fun E ce q9 H locs hpx hP hS h1 h2 h3 => ?_) (fun u2 H locs h2 hP hS => ?_)
  · exact wx_out hno hlocks h1 h2 h3 (hpx) hP hS (Nat.le_of_ble_eq_true rfl) (Nat.le_of_ble_eq_true rfl)
  refine lv_iconst (v := 0) hx hb dX3_suspects_5 (by decide) ?_
  refine lv_istore_n (lv' := [(3, .int 0), (0, .ref (L 0)), (1, .int p0), (2, .int p1)]) hx hb dX3_suspects_6 rfl hl (by decide) rfl (fun ls hl => ?_)
  refine lv_iconst (v := 0) hx hb dX3_suspects_7 (by decide) ?_
  refine lv_istore (lv' := [(4, .int 0), (3, .int 0), (0, .ref (L 0)), (1, .int p0), (2, .int p1)]) hx hb dX3_suspects_8 hl (by decide) rfl (fun ls hl => ?_)
  have key10 : ∀ (d k : Nat) (z4 : Int32) (z3 : Int32) (H : Heap) (locs : List Loc) (ls : Array Slot), k + d = nn → (z4 = nI k) → (z3 = scF x p0 p1 nb k) → va_P g.1 vwCl (wl n L (cw g L x r0)) H → va_S (fun q : Nat => base ≤ q) s.heap H locs → lv_has ls 5 [(4, .int z4), (3, .int z3), (0, .ref (L 0)), (1, .int p0), (2, .int p1)] → W p l e (headSpec wsX3_suspects ({ frames := 8, cells := 2, slots := 12, locals := 180 })).room s m ([.ref (L 0), .int p0, .int p1] : List Value).toArray below meth c H locs (0 + 2) (0 + 12) (vx_MQ below (va_Qi (fun (r : Int32) (_ : Unit) => (0 ≤ p1.toInt ∧ p1.toInt ≤ 3 ∧ p0.toInt ≠ 0) ∧ r = scF x p0 p1 nb nn) (fun (u : Unit) t => PB g n L (cw g L x r0) t) (fun q => base ≤ q)) (QX g base n L (cw g L x r0) (fun E => E = "java/lang/IllegalArgumentException" ∧ (p1.toInt < 0 ∨ 3 < p1.toInt ∨ p0.toInt = 0))) ([.ref (L 0), .int p0, .int p1] : List Value).toArray s 2 12 (fun q => base ≤ q)) (F0 m 10 ls []) := by
    intro d
    induction d with
    | zero =>
      intro k z4 z3 H locs ls hkd ek4 ek3 hP hS hl
      obtain rfl : nn = k := by omega
      subst ek4 ek3
      refine lv_iload hx hb dX3_suspects_10 (lv_at hl 0 rfl) ?_
      refine lv_aload_n hx hb dX3_suspects_12 rfl (lv_at hl 2 rfl) ?_
      refine wx_get (D := g.1) (cl := vwCl) (ci := 5) (v := .int (x 1 0 0)) (C := RX3) (T := TX3) (N := 8) hx hb hts iX3 hown hK hP (0) (by omega) cw_d rfl 4 (by decide) (hts (.fieldLink RX3 28 "FerroDesk" "noticeCount" "I") (by decide +kernel)) (fun _ h9 => h9) rfl dX3_suspects_13 ?_
      refine lv_icmp_ge (tgt := 44) hx hb dX3_suspects_16 (by decide) (fun c16 => ?_) (fun c16 => absurd (by rw [hx1]; exact nI_le (Nat.le_refl _) (by omega)) c16)
      refine lv_iload_n hx hb dX3_suspects_44 rfl (lv_at hl 1 rfl) ?_
      refine W.widen (k := 2) (n := 12) (Nat.le_of_ble_eq_true rfl) (Nat.le_of_ble_eq_true rfl) ?_
      exact vx_ret (W.iret (v := scF x p0 p1 nb nn) hx hb hr (fun t ht hW => ⟨⟨scF x p0 p1 nb nn, (), rfl, ⟨h2, rfl⟩, PB.mk9 hP ht⟩, hS.F ht⟩) hS.2.2 dX3_suspects_45)
    | succ d ih =>
      intro k z4 z3 H locs ls hkd ek4 ek3 hP hS hl
      have hkN : k < nn := by omega
      subst ek4 ek3
      refine lv_iload hx hb dX3_suspects_10 (lv_at hl 0 rfl) ?_
      refine lv_aload_n hx hb dX3_suspects_12 rfl (lv_at hl 2 rfl) ?_
      refine wx_get (D := g.1) (cl := vwCl) (ci := 5) (v := .int (x 1 0 0)) (C := RX3) (T := TX3) (N := 8) hx hb hts iX3 hown hK hP (0) (by omega) cw_d rfl 4 (by decide) (hts (.fieldLink RX3 28 "FerroDesk" "noticeCount" "I") (by decide +kernel)) (fun _ h9 => h9) rfl dX3_suspects_13 ?_
      refine lv_icmp_ge (tgt := 44) hx hb dX3_suspects_16 (by decide) (fun c16 => absurd c16 (by rw [hx1]; exact nI_ge hkN (by omega))) (fun c16 => ?_)
      refine lv_aload_n hx hb dX3_suspects_19 rfl (lv_at hl 2 rfl) ?_
      refine lv_aload_n hx hb dX3_suspects_20 rfl (lv_at hl 2 rfl) ?_
      refine wx_get (D := g.1) (cl := vwCl) (ci := 5) (v := .ref (L 2)) (C := RX3) (T := TX3) (N := 8) hx hb hts iX3 hown hK hP (0) (by omega) cw_d rfl 2 (by decide) (hts (.fieldLink RX3 21 "FerroDesk" "notices" "[LFerroDesk$Notice;") (by decide +kernel)) (fun _ h9 => h9) rfl dX3_suspects_21 ?_
      refine lv_iload hx hb dX3_suspects_24 (lv_at hl 0 rfl) ?_
      refine wx_aald (D := g.1) (cl := vwCl) (f := fun j => if j < 40 then some (L (26 + 2 * j)) else none) (a := L (26 + 2 * k)) hx hb hK hP (2) 2 (by omega) cw_2 rfl (i := nI k) (vp_in_nI (by omega) (by decide)) (by rw [nI_clamp (show k < 2 ^ 31 by omega)]; exact if_pos (by omega)) dX3_suspects_26 ?_
      refine lv_iload_n hx hb dX3_suspects_27 rfl (lv_at hl 3 rfl) ?_
      refine lv_iload_n hx hb dX3_suspects_28 rfl (lv_at hl 4 rfl) ?_
      refine wx_calli (va_runV (As := [.ref (L (26 + 2 * k)), .int p0, .int p1]) (rest := []) ⟨hx, hb, hml, hown, hts⟩ (k_isSuspect l hst g base n L (by omega) x r0 nb hnb hx0 k (by omega) p0 p1) (cwV 3 hts gX3_suspects_X3_isSuspect rfl rfl rfl (by decide +kernel) ⟨Nat.le_of_ble_eq_true rfl, Nat.le_of_ble_eq_true rfl⟩) (hPW.preV hP hS (ci := 5) rfl (by omega) cw_d) rfl rfl hl.1 rfl (lv_room (Nat.le_of_ble_eq_true rfl)) dX3_suspects_29 ⟨Nat.le_of_ble_eq_true rfl, Nat.le_of_ble_eq_true rfl⟩) hS (fun r29 u29 H locs h29 hP hS => ?_)
      rcases h29 with ⟨rfl, h29⟩ | ⟨rfl, h29⟩
      · refine lv_if_eq (tgt := 38) hx hb dX3_suspects_32 (by decide) (fun c32 => absurd c32 (by decide)) (fun c32 => ?_)
        obtain ⟨z35, ez35⟩ : ∃ y : Int32, y = scF x p0 p1 nb k + 1 := ⟨_, rfl⟩
        refine lv_iinc (v := z35) (lv' := [(3, .int z35), (4, .int (nI k)), (0, .ref (L 0)), (1, .int p0), (2, .int p1)]) hx hb dX3_suspects_35 hl (k := 1) rfl (by rw [ez35]; rfl) (by decide) rfl (fun ls hl => ?_)
        obtain ⟨z38, ez38⟩ : ∃ y : Int32, y = nI k + 1 := ⟨_, rfl⟩
        refine lv_iinc (v := z38) (lv' := [(4, .int z38), (3, .int z35), (0, .ref (L 0)), (1, .int p0), (2, .int p1)]) hx hb dX3_suspects_38 hl (k := 1) rfl (by rw [ez38]; rfl) (by decide) rfl (fun ls hl => ?_)
        refine lv_goto (tgt := 10) hx hb dX3_suspects_41 (by decide) ?_
        exact ih (k + 1) _ _ _ _ _ (by omega) (by rw [ez38, nI_1]) (by rw [sc_t h29]; simp only [ez35]) hP hS (lv_sub hl [0, 1, 2, 3, 4] rfl)
      · refine lv_if_eq (tgt := 38) hx hb dX3_suspects_32 (by decide) (fun c32 => ?_) (fun c32 => absurd (by decide) c32)
        obtain ⟨z38, ez38⟩ : ∃ y : Int32, y = nI k + 1 := ⟨_, rfl⟩
        refine lv_iinc (v := z38) (lv' := [(4, .int z38), (3, .int (scF x p0 p1 nb k)), (0, .ref (L 0)), (1, .int p0), (2, .int p1)]) hx hb dX3_suspects_38 hl (k := 0) rfl (by rw [ez38]; rfl) (by decide) rfl (fun ls hl => ?_)
        refine lv_goto (tgt := 10) hx hb dX3_suspects_41 (by decide) ?_
        exact ih (k + 1) _ _ _ _ _ (by omega) (by rw [ez38, nI_1]) ((sc_f h29).symm) hP hS (lv_sub hl [0, 1, 2, 3, 4] rfl)
  exact key10 nn 0 _ _ _ _ _ (by omega) rfl rfl hP hS (lv_sub hl [0, 1, 2, 3, 4] rfl)

set_option maxHeartbeats 4000000 in
set_option maxRecDepth 100000 in
theorem k_queued (l : Launch) (hst : l.stackTraces = false) (g : gE) (base n : Nat) (L : Nat → Nat) (hn : 106 ≤ n) (x : St) (r0 : Nat → va_E) (nn : Nat) (hnn : nn ≤ 40) (hx1 : x 1 0 0 = nI nn) (p0 : Int32) : vx_Met l yX3_queued wsX3_queued ({ frames := 7, cells := 1, slots := 6, locals := 140 }) (va_Pc [.ref (L 0), .int p0] (PW SS g base n L (cw g L x r0))) (va_Qi (fun (r : Int32) (_ : Unit) => (0 ≤ p0.toInt ∧ p0.toInt ≤ 3) ∧ r = qcF x p0 nn) (fun (u : Unit) t => PB g n L (cw g L x r0) t) (fun q => base ≤ q)) (QX g base n L (cw g L x r0) (fun E => E = "java/lang/IllegalArgumentException" ∧ (p0.toInt < 0 ∨ 3 < p0.toInt))) 1 6 (fun q => base ≤ q) := by
  refine vx_ofW (cc := cX3_queued) (maxL := 4) (ret := (some .int)) (by decide) rfl ?_
  intro p e s m args below meth c s₁ B hml hno hv
  obtain ⟨rfl, hPW⟩ := hv
  obtain ⟨hbs, hJ, hP, hK, hE⟩ := id hPW
  have hx := B.exec
  have hb := B.bytes
  have hr := B.returns
  have hts := atoms_spec (ws := wsX3_queued) B.pre
  have hown : s.vm.findClass RX3 = some m.cls := findClass_of_methodNamed B.named
  have hlocks := B.notSynchronized
  have hS : va_S (fun q : Nat => base ≤ q) s.heap s.heap [] := va_S.rf
  have hl := lv_entry ([.ref (L 0), .int p0]) (n := 4) (Nat.le_of_ble_eq_true rfl)
  rw [lg_entry_eq]
  generalize (lg_sl ([.ref (L 0), .int p0]) ++ List.replicate (4 - (lg_sl ([.ref (L 0), .int p0])).length) Slot.unset).toArray = ls at hl ⊢
  have hl : lv_has ls 4 [(0, .ref (L 0)), (1, .int p0)] := hl
  have iX3 : ∀ w ∈ wsX30, w ∈ wsX3_queued := by decide +kernel
  refine lv_iload_n hx hb dX3_queued_0 rfl (lv_at hl 1 rfl) ?_
  refine wx_xcallv (vx_runS (As := [.int p0]) (rest := []) ⟨hx, hb, hml, hown, hts⟩ (k_checkDistrict l hst g base n L (cw g L x r0) p0) (va_cwS 1 hts gX3_queued_X3_checkDistrict rfl rfl rfl (by decide +kernel) ⟨Nat.le_of_ble_eq_true rfl, Nat.le_of_ble_eq_true rfl⟩) (hPW.preS hP hS) rfl rfl hl.1 rfl (lv_room (Nat.le_of_ble_eq_true rfl)) dX3_queued_1 ⟨Nat.le_of_ble_eq_true rfl, Nat.le_of_ble_eq_true rfl⟩) hS (fun E ce q9 H locs hpx hP hS h1 h2 h3 => ?_) (fun u1 H locs h1 hP hS => ?_)
  · exact wx_out hno hlocks h1 h2 h3 (hpx) hP hS (Nat.le_of_ble_eq_true rfl) (Nat.le_of_ble_eq_true rfl)
  refine lv_iconst (v := 0) hx hb dX3_queued_4 (by decide) ?_
  refine lv_istore_n (lv' := [(2, .int 0), (0, .ref (L 0)), (1, .int p0)]) hx hb dX3_queued_5 rfl hl (by decide) rfl (fun ls hl => ?_)
  refine lv_iconst (v := 0) hx hb dX3_queued_6 (by decide) ?_
  refine lv_istore_n (lv' := [(3, .int 0), (2, .int 0), (0, .ref (L 0)), (1, .int p0)]) hx hb dX3_queued_7 rfl hl (by decide) rfl (fun ls hl => ?_)
  have key8 : ∀ (d k : Nat) (z3 : Int32) (z2 : Int32) (H : Heap) (locs : List Loc) (ls : Array Slot), k + d = nn → (z3 = nI k) → (z2 = qcF x p0 k) → va_P g.1 vwCl (wl n L (cw g L x r0)) H → va_S (fun q : Nat => base ≤ q) s.heap H locs → lv_has ls 4 [(3, .int z3), (2, .int z2), (0, .ref (L 0)), (1, .int p0)] → W p l e (headSpec wsX3_queued ({ frames := 7, cells := 1, slots := 6, locals := 140 })).room s m ([.ref (L 0), .int p0] : List Value).toArray below meth c H locs (0 + 1) (0 + 6) (vx_MQ below (va_Qi (fun (r : Int32) (_ : Unit) => (0 ≤ p0.toInt ∧ p0.toInt ≤ 3) ∧ r = qcF x p0 nn) (fun (u : Unit) t => PB g n L (cw g L x r0) t) (fun q => base ≤ q)) (QX g base n L (cw g L x r0) (fun E => E = "java/lang/IllegalArgumentException" ∧ (p0.toInt < 0 ∨ 3 < p0.toInt))) ([.ref (L 0), .int p0] : List Value).toArray s 1 6 (fun q => base ≤ q)) (F0 m 8 ls []) := by
    intro d
    induction d with
    | zero =>
      intro k z3 z2 H locs ls hkd ek3 ek2 hP hS hl
      obtain rfl : nn = k := by omega
      subst ek3 ek2
      refine lv_iload_n hx hb dX3_queued_8 rfl (lv_at hl 0 rfl) ?_
      refine lv_aload_n hx hb dX3_queued_9 rfl (lv_at hl 2 rfl) ?_
      refine wx_get (D := g.1) (cl := vwCl) (ci := 5) (v := .int (x 1 0 0)) (C := RX3) (T := TX3) (N := 8) hx hb hts iX3 hown hK hP (0) (by omega) cw_d rfl 4 (by decide) (hts (.fieldLink RX3 28 "FerroDesk" "noticeCount" "I") (by decide +kernel)) (fun _ h9 => h9) rfl dX3_queued_10 ?_
      refine lv_icmp_ge (tgt := 42) hx hb dX3_queued_13 (by decide) (fun c13 => ?_) (fun c13 => absurd (by rw [hx1]; exact nI_le (Nat.le_refl _) (by omega)) c13)
      refine lv_iload_n hx hb dX3_queued_42 rfl (lv_at hl 1 rfl) ?_
      refine W.widen (k := 1) (n := 6) (Nat.le_of_ble_eq_true rfl) (Nat.le_of_ble_eq_true rfl) ?_
      exact vx_ret (W.iret (v := qcF x p0 nn) hx hb hr (fun t ht hW => ⟨⟨qcF x p0 nn, (), rfl, ⟨h1, rfl⟩, PB.mk9 hP ht⟩, hS.F ht⟩) hS.2.2 dX3_queued_43)
    | succ d ih =>
      intro k z3 z2 H locs ls hkd ek3 ek2 hP hS hl
      have hkN : k < nn := by omega
      subst ek3 ek2
      refine lv_iload_n hx hb dX3_queued_8 rfl (lv_at hl 0 rfl) ?_
      refine lv_aload_n hx hb dX3_queued_9 rfl (lv_at hl 2 rfl) ?_
      refine wx_get (D := g.1) (cl := vwCl) (ci := 5) (v := .int (x 1 0 0)) (C := RX3) (T := TX3) (N := 8) hx hb hts iX3 hown hK hP (0) (by omega) cw_d rfl 4 (by decide) (hts (.fieldLink RX3 28 "FerroDesk" "noticeCount" "I") (by decide +kernel)) (fun _ h9 => h9) rfl dX3_queued_10 ?_
      refine lv_icmp_ge (tgt := 42) hx hb dX3_queued_13 (by decide) (fun c13 => absurd c13 (by rw [hx1]; exact nI_ge hkN (by omega))) (fun c13 => ?_)
      refine lv_aload_n hx hb dX3_queued_16 rfl (lv_at hl 2 rfl) ?_
      refine wx_get (D := g.1) (cl := vwCl) (ci := 5) (v := .ref (L 2)) (C := RX3) (T := TX3) (N := 8) hx hb hts iX3 hown hK hP (0) (by omega) cw_d rfl 2 (by decide) (hts (.fieldLink RX3 21 "FerroDesk" "notices" "[LFerroDesk$Notice;") (by decide +kernel)) (fun _ h9 => h9) rfl dX3_queued_17 ?_
      refine lv_iload_n hx hb dX3_queued_20 rfl (lv_at hl 0 rfl) ?_
      refine wx_aald (D := g.1) (cl := vwCl) (f := fun j => if j < 40 then some (L (26 + 2 * j)) else none) (a := L (26 + 2 * k)) hx hb hK hP (2) 2 (by omega) cw_2 rfl (i := nI k) (vp_in_nI (by omega) (by decide)) (by rw [nI_clamp (show k < 2 ^ 31 by omega)]; exact if_pos (by omega)) dX3_queued_21 ?_
      refine lv_iload_n hx hb dX3_queued_22 rfl (lv_at hl 3 rfl) ?_
      refine lv_aload_n hx hb dX3_queued_23 rfl (lv_at hl 2 rfl) ?_
      refine wx_get (D := g.1) (cl := vwCl) (ci := 5) (v := .int (x 3 0 0)) (C := RX3) (T := TX3) (N := 8) hx hb hts iX3 hown hK hP (0) (by omega) cw_d rfl 7 (by decide) (hts (.fieldLink RX3 41 "FerroDesk" "hour" "I") (by decide +kernel)) (fun _ h9 => h9) rfl dX3_queued_24 ?_
      refine wx_calli (va_runV (As := [.int p0, .int (x 3 0 0)]) (rest := []) ⟨hx, hb, hml, hown, hts⟩ (k_isQueuedIn l hst g base n L (by omega) x r0 k (by omega) p0 (x 3 0 0)) (cwV 2 hts gX3_queued_X1_isQueuedIn rfl rfl rfl (by decide +kernel) ⟨Nat.le_of_ble_eq_true rfl, Nat.le_of_ble_eq_true rfl⟩) (hPW.preV hP hS (ci := 3) rfl (by omega) (cw_n (by omega))) rfl rfl hl.1 rfl (lv_room (Nat.le_of_ble_eq_true rfl)) dX3_queued_27 ⟨Nat.le_of_ble_eq_true rfl, Nat.le_of_ble_eq_true rfl⟩) hS (fun r27 u27 H locs h27 hP hS => ?_)
      rcases h27 with ⟨rfl, h27⟩ | ⟨rfl, h27⟩
      · refine lv_if_eq (tgt := 36) hx hb dX3_queued_30 (by decide) (fun c30 => absurd c30 (by decide)) (fun c30 => ?_)
        obtain ⟨z33, ez33⟩ : ∃ y : Int32, y = qcF x p0 k + 1 := ⟨_, rfl⟩
        refine lv_iinc (v := z33) (lv' := [(2, .int z33), (3, .int (nI k)), (0, .ref (L 0)), (1, .int p0)]) hx hb dX3_queued_33 hl (k := 1) rfl (by rw [ez33]; rfl) (by decide) rfl (fun ls hl => ?_)
        obtain ⟨z36, ez36⟩ : ∃ y : Int32, y = nI k + 1 := ⟨_, rfl⟩
        refine lv_iinc (v := z36) (lv' := [(3, .int z36), (2, .int z33), (0, .ref (L 0)), (1, .int p0)]) hx hb dX3_queued_36 hl (k := 1) rfl (by rw [ez36]; rfl) (by decide) rfl (fun ls hl => ?_)
        refine lv_goto (tgt := 8) hx hb dX3_queued_39 (by decide) ?_
        exact ih (k + 1) _ _ _ _ _ (by omega) (by rw [ez36, nI_1]) (by rw [qc_t h27]; simp only [ez33]) hP hS (lv_sub hl [0, 1, 2, 3] rfl)
      · refine lv_if_eq (tgt := 36) hx hb dX3_queued_30 (by decide) (fun c30 => ?_) (fun c30 => absurd (by decide) c30)
        obtain ⟨z36, ez36⟩ : ∃ y : Int32, y = nI k + 1 := ⟨_, rfl⟩
        refine lv_iinc (v := z36) (lv' := [(3, .int z36), (2, .int (qcF x p0 k)), (0, .ref (L 0)), (1, .int p0)]) hx hb dX3_queued_36 hl (k := 0) rfl (by rw [ez36]; rfl) (by decide) rfl (fun ls hl => ?_)
        refine lv_goto (tgt := 8) hx hb dX3_queued_39 (by decide) ?_
        exact ih (k + 1) _ _ _ _ _ (by omega) (by rw [ez36, nI_1]) ((qc_f h27).symm) hP hS (lv_sub hl [0, 1, 2, 3] rfl)
  exact key8 nn 0 _ _ _ _ _ (by omega) rfl rfl hP hS (lv_sub hl [0, 1, 2, 3] rfl)

set_option maxHeartbeats 4000000 in
set_option maxRecDepth 100000 in
theorem k_suspectAt (l : Launch) (hst : l.stackTraces = false) (g : gE) (base n : Nat) (L : Nat → Nat) (hn : 106 ≤ n) (x : St) (r0 : Nat → va_E) (nb : Nat) (hnb : nb ≤ 6) (hx0 : x 0 0 0 = nI nb) (nn : Nat) (hnn : nn ≤ 40) (hx1 : x 1 0 0 = nI nn) (p0 p1 p2 : Int32) : vx_Met l yX3_suspectAt wsX3_suspectAt ({ frames := 8, cells := 3, slots := 18, locals := 180 }) (va_Pc [.ref (L 0), .int p0, .int p1, .int p2] (PW SS g base n L (cw g L x r0))) (va_Qi (fun (r : Int32) (_ : Unit) => (0 ≤ p1.toInt ∧ p1.toInt ≤ 3 ∧ p0.toInt ≠ 0) ∧ ∃ k, k < nn ∧ (suP x k p0 p1 nb ∧ saF x k p0 p1 nb nn = p2) ∧ r = nI k ∧ ∀ j, j < k → ¬ (suP x j p0 p1 nb ∧ saF x j p0 p1 nb nn = p2)) (fun (u : Unit) t => PB g n L (cw g L x r0) t) (fun q => base ≤ q)) (QX g base n L (cw g L x r0) (fun E => (E = "java/lang/IllegalArgumentException" ∧ (p1.toInt < 0 ∨ 3 < p1.toInt ∨ p0.toInt = 0)) ∨ (E = "java/lang/IndexOutOfBoundsException" ∧ (0 ≤ p1.toInt ∧ p1.toInt ≤ 3 ∧ p0.toInt ≠ 0) ∧ ∀ j, j < nn → ¬ (suP x j p0 p1 nb ∧ saF x j p0 p1 nb nn = p2)))) 3 18 (fun q => base ≤ q) := by
  refine vx_ofW (cc := cX3_suspectAt) (maxL := 6) (ret := (some .int)) (by decide) rfl ?_
  intro p e s m args below meth c s₁ B hml hno hv
  obtain ⟨rfl, hPW⟩ := hv
  obtain ⟨hbs, hJ, hP, hK, hE⟩ := id hPW
  have hx := B.exec
  have hb := B.bytes
  have hr := B.returns
  have hts := atoms_spec (ws := wsX3_suspectAt) B.pre
  have hown : s.vm.findClass RX3 = some m.cls := findClass_of_methodNamed B.named
  have hlocks := B.notSynchronized
  have hS : va_S (fun q : Nat => base ≤ q) s.heap s.heap [] := va_S.rf
  have hl := lv_entry ([.ref (L 0), .int p0, .int p1, .int p2]) (n := 6) (Nat.le_of_ble_eq_true rfl)
  rw [lg_entry_eq]
  generalize (lg_sl ([.ref (L 0), .int p0, .int p1, .int p2]) ++ List.replicate (6 - (lg_sl ([.ref (L 0), .int p0, .int p1, .int p2])).length) Slot.unset).toArray = ls at hl ⊢
  have hl : lv_has ls 6 [(0, .ref (L 0)), (1, .int p0), (2, .int p1), (3, .int p2)] := hl
  have iX3 : ∀ w ∈ wsX30, w ∈ wsX3_suspectAt := by decide +kernel
  refine lv_iload_n hx hb dX3_suspectAt_0 rfl (lv_at hl 1 rfl) ?_
  refine lv_iload_n hx hb dX3_suspectAt_1 rfl (lv_at hl 2 rfl) ?_
  refine wx_xcallv (vx_runS (As := [.int p0, .int p1]) (rest := []) ⟨hx, hb, hml, hown, hts⟩ (k_checkRumour l hst g base n L (cw g L x r0) p0 p1) (va_cwS 2 hts gX3_suspectAt_X3_checkRumour rfl rfl rfl (by decide +kernel) ⟨Nat.le_of_ble_eq_true rfl, Nat.le_of_ble_eq_true rfl⟩) (hPW.preS hP hS) rfl rfl hl.1 rfl (lv_room (Nat.le_of_ble_eq_true rfl)) dX3_suspectAt_2 ⟨Nat.le_of_ble_eq_true rfl, Nat.le_of_ble_eq_true rfl⟩) hS (fun E ce q9 H locs hpx hP hS h1 h2 h3 => ?_) (fun u2 H locs h2 hP hS => ?_)
  · exact wx_out hno hlocks h1 h2 h3 (Or.inl hpx) hP hS (Nat.le_of_ble_eq_true rfl) (Nat.le_of_ble_eq_true rfl)
  refine lv_iconst (v := 0) hx hb dX3_suspectAt_5 (by decide) ?_
  refine lv_istore (lv' := [(4, .int 0), (0, .ref (L 0)), (1, .int p0), (2, .int p1), (3, .int p2)]) hx hb dX3_suspectAt_6 hl (by decide) rfl (fun ls hl => ?_)
  have key8 : ∀ (d k : Nat) (z4 : Int32) (H : Heap) (locs : List Loc) (ls : Array Slot), k + d = nn → (z4 = nI k) → (∀ j, j < k → ¬ (suP x j p0 p1 nb ∧ saF x j p0 p1 nb nn = p2)) → va_P g.1 vwCl (wl n L (cw g L x r0)) H → va_S (fun q : Nat => base ≤ q) s.heap H locs → lv_has ls 6 [(4, .int z4), (0, .ref (L 0)), (1, .int p0), (2, .int p1), (3, .int p2)] → W p l e (headSpec wsX3_suspectAt ({ frames := 8, cells := 3, slots := 18, locals := 180 })).room s m ([.ref (L 0), .int p0, .int p1, .int p2] : List Value).toArray below meth c H locs (0 + 2) (0 + 12) (vx_MQ below (va_Qi (fun (r : Int32) (_ : Unit) => (0 ≤ p1.toInt ∧ p1.toInt ≤ 3 ∧ p0.toInt ≠ 0) ∧ ∃ k, k < nn ∧ (suP x k p0 p1 nb ∧ saF x k p0 p1 nb nn = p2) ∧ r = nI k ∧ ∀ j, j < k → ¬ (suP x j p0 p1 nb ∧ saF x j p0 p1 nb nn = p2)) (fun (u : Unit) t => PB g n L (cw g L x r0) t) (fun q => base ≤ q)) (QX g base n L (cw g L x r0) (fun E => (E = "java/lang/IllegalArgumentException" ∧ (p1.toInt < 0 ∨ 3 < p1.toInt ∨ p0.toInt = 0)) ∨ (E = "java/lang/IndexOutOfBoundsException" ∧ (0 ≤ p1.toInt ∧ p1.toInt ≤ 3 ∧ p0.toInt ≠ 0) ∧ ∀ j, j < nn → ¬ (suP x j p0 p1 nb ∧ saF x j p0 p1 nb nn = p2)))) ([.ref (L 0), .int p0, .int p1, .int p2] : List Value).toArray s 3 18 (fun q => base ≤ q)) (F0 m 8 ls []) := by
    intro d
    induction d with
    | zero =>
      intro k z4 H locs ls hkd ek4 hnk hP hS hl
      obtain rfl : nn = k := by omega
      subst ek4
      refine lv_iload hx hb dX3_suspectAt_8 (lv_at hl 0 rfl) ?_
      refine lv_aload_n hx hb dX3_suspectAt_10 rfl (lv_at hl 1 rfl) ?_
      refine wx_get (D := g.1) (cl := vwCl) (ci := 5) (v := .int (x 1 0 0)) (C := RX3) (T := TX3) (N := 8) hx hb hts iX3 hown hK hP (0) (by omega) cw_d rfl 4 (by decide) (hts (.fieldLink RX3 28 "FerroDesk" "noticeCount" "I") (by decide +kernel)) (fun _ h9 => h9) rfl dX3_suspectAt_11 ?_
      refine lv_icmp_ge (tgt := 58) hx hb dX3_suspectAt_14 (by decide) (fun c14 => ?_) (fun c14 => absurd (by rw [hx1]; exact nI_le (Nat.le_refl _) (by omega)) c14)
      exact wx_throwS (ik := 180) (is := 216) (ic := 184) (own := RX3) (cls := "java/lang/IndexOutOfBoundsException") (text := "there is no such suspect") (names := ["java/lang/RuntimeException", "java/lang/Exception"]) hx hb hst hPW hown (by decide +kernel) (by decide +kernel) (hts (.classLink RX3 180 "java/lang/IndexOutOfBoundsException") (by decide +kernel)) (hts (.initialized "java/lang/IndexOutOfBoundsException") (by decide +kernel)) (by decide +kernel) (fun w hw => hts w (List.mem_cons_of_mem _ (List.mem_append_left _ (List.mem_append_left _ (List.mem_append_right _ hw))))) (by decide +kernel) (by decide +kernel) hP hS (hl.1.trans hml.symm) dX3_suspectAt_58 dX3_suspectAt_61 dX3_suspectAt_62 dX3_suspectAt_64 dX3_suspectAt_67 hno (Nat.lt_of_lt_of_le (Nat.lt_succ_self _) (Nat.le_of_ble_eq_true rfl)) (Nat.le_of_ble_eq_true rfl) (Nat.le_of_ble_eq_true rfl) (Nat.le_of_ble_eq_true rfl) hlocks (Or.inr ⟨rfl, h2, hnk⟩) (Nat.le_of_ble_eq_true rfl) (Nat.le_of_ble_eq_true rfl)
    | succ d ih =>
      intro k z4 H locs ls hkd ek4 hnk hP hS hl
      have hkN : k < nn := by omega
      subst ek4
      refine lv_iload hx hb dX3_suspectAt_8 (lv_at hl 0 rfl) ?_
      refine lv_aload_n hx hb dX3_suspectAt_10 rfl (lv_at hl 1 rfl) ?_
      refine wx_get (D := g.1) (cl := vwCl) (ci := 5) (v := .int (x 1 0 0)) (C := RX3) (T := TX3) (N := 8) hx hb hts iX3 hown hK hP (0) (by omega) cw_d rfl 4 (by decide) (hts (.fieldLink RX3 28 "FerroDesk" "noticeCount" "I") (by decide +kernel)) (fun _ h9 => h9) rfl dX3_suspectAt_11 ?_
      refine lv_icmp_ge (tgt := 58) hx hb dX3_suspectAt_14 (by decide) (fun c14 => absurd c14 (by rw [hx1]; exact nI_ge hkN (by omega))) (fun c14 => ?_)
      refine lv_aload_n hx hb dX3_suspectAt_17 rfl (lv_at hl 1 rfl) ?_
      refine wx_get (D := g.1) (cl := vwCl) (ci := 5) (v := .ref (L 2)) (C := RX3) (T := TX3) (N := 8) hx hb hts iX3 hown hK hP (0) (by omega) cw_d rfl 2 (by decide) (hts (.fieldLink RX3 21 "FerroDesk" "notices" "[LFerroDesk$Notice;") (by decide +kernel)) (fun _ h9 => h9) rfl dX3_suspectAt_18 ?_
      refine lv_iload hx hb dX3_suspectAt_21 (lv_at hl 0 rfl) ?_
      refine wx_aald (D := g.1) (cl := vwCl) (f := fun j => if j < 40 then some (L (26 + 2 * j)) else none) (a := L (26 + 2 * k)) hx hb hK hP (2) 2 (by omega) cw_2 rfl (i := nI k) (vp_in_nI (by omega) (by decide)) (by rw [nI_clamp (show k < 2 ^ 31 by omega)]; exact if_pos (by omega)) dX3_suspectAt_23 ?_
      refine lv_astore (lv' := [(5, .ref (L (26 + 2 * k))), (4, .int (nI k)), (0, .ref (L 0)), (1, .int p0), (2, .int p1), (3, .int p2)]) hx hb dX3_suspectAt_24 hl (by decide) rfl (fun ls hl => ?_)
      refine lv_aload_n hx hb dX3_suspectAt_26 rfl (lv_at hl 2 rfl) ?_
      refine lv_aload hx hb dX3_suspectAt_27 (lv_at hl 0 rfl) ?_
      refine lv_iload_n hx hb dX3_suspectAt_29 rfl (lv_at hl 3 rfl) ?_
      refine lv_iload_n hx hb dX3_suspectAt_30 rfl (lv_at hl 4 rfl) ?_
      refine wx_calli (va_runV (As := [.ref (L (26 + 2 * k)), .int p0, .int p1]) (rest := []) ⟨hx, hb, hml, hown, hts⟩ (k_isSuspect l hst g base n L (by omega) x r0 nb hnb hx0 k (by omega) p0 p1) (cwV 3 hts gX3_suspectAt_X3_isSuspect rfl rfl rfl (by decide +kernel) ⟨Nat.le_of_ble_eq_true rfl, Nat.le_of_ble_eq_true rfl⟩) (hPW.preV hP hS (ci := 5) rfl (by omega) cw_d) rfl rfl hl.1 rfl (lv_room (Nat.le_of_ble_eq_true rfl)) dX3_suspectAt_31 ⟨Nat.le_of_ble_eq_true rfl, Nat.le_of_ble_eq_true rfl⟩) hS (fun r31 u31 H locs h31 hP hS => ?_)
      rcases h31 with ⟨rfl, h31⟩ | ⟨rfl, h31⟩
      · refine lv_if_eq (tgt := 52) hx hb dX3_suspectAt_34 (by decide) (fun c34 => absurd c34 (by decide)) (fun c34 => ?_)
        refine lv_aload_n hx hb dX3_suspectAt_37 rfl (lv_at hl 2 rfl) ?_
        refine lv_aload hx hb dX3_suspectAt_38 (lv_at hl 0 rfl) ?_
        refine lv_iload_n hx hb dX3_suspectAt_40 rfl (lv_at hl 3 rfl) ?_
        refine lv_iload_n hx hb dX3_suspectAt_41 rfl (lv_at hl 4 rfl) ?_
        refine wx_calli (va_runV (As := [.ref (L (26 + 2 * k)), .int p0, .int p1]) (rest := []) ⟨hx, hb, hml, hown, hts⟩ (k_suspectsAhead l hst g base n L (by omega) x r0 nb hnb hx0 nn hnn hx1 k (by omega) p0 p1) (cwV 3 hts gX3_suspectAt_X3_suspectsAhead rfl rfl rfl (by decide +kernel) ⟨Nat.le_of_ble_eq_true rfl, Nat.le_of_ble_eq_true rfl⟩) (hPW.preV hP hS (ci := 5) rfl (by omega) cw_d) rfl rfl hl.1 rfl (lv_room (Nat.le_of_ble_eq_true rfl)) dX3_suspectAt_42 ⟨Nat.le_of_ble_eq_true rfl, Nat.le_of_ble_eq_true rfl⟩) hS (fun r42 u42 H locs h42 hP hS => ?_)
        obtain rfl := h42
        refine lv_iload_n hx hb dX3_suspectAt_45 rfl (lv_at hl 5 rfl) ?_
        refine lv_icmp_ne (tgt := 52) hx hb dX3_suspectAt_46 (by decide) (fun c46 => ?_) (fun c46 => ?_)
        · obtain ⟨z52, ez52⟩ : ∃ y : Int32, y = nI k + 1 := ⟨_, rfl⟩
          refine lv_iinc (v := z52) (lv' := [(4, .int z52), (5, .ref (L (26 + 2 * k))), (0, .ref (L 0)), (1, .int p0), (2, .int p1), (3, .int p2)]) hx hb dX3_suspectAt_52 hl (k := 1) rfl (by rw [ez52]; rfl) (by decide) rfl (fun ls hl => ?_)
          refine lv_goto (tgt := 8) hx hb dX3_suspectAt_55 (by decide) ?_
          exact ih (k + 1) _ _ _ _ (by omega) (by rw [ez52, nI_1]) (fun j hj => by rcases (show j < k ∨ j = k by omega) with h9 | rfl; exact hnk j h9; exact fun h8 => c46 h8.2) hP hS (lv_sub hl [0, 2, 3, 4, 5] rfl)
        · refine lv_iload hx hb dX3_suspectAt_49 (lv_at hl 1 rfl) ?_
          refine W.widen (k := 3) (n := 18) (Nat.le_of_ble_eq_true rfl) (Nat.le_of_ble_eq_true rfl) ?_
          exact vx_ret (W.iret (v := nI k) hx hb hr (fun t ht hW => ⟨⟨nI k, (), rfl, ⟨h2, k, hkN, ⟨h31, c46⟩, rfl, hnk⟩, PB.mk9 hP ht⟩, hS.F ht⟩) hS.2.2 dX3_suspectAt_51)
      · refine lv_if_eq (tgt := 52) hx hb dX3_suspectAt_34 (by decide) (fun c34 => ?_) (fun c34 => absurd (by decide) c34)
        obtain ⟨z52, ez52⟩ : ∃ y : Int32, y = nI k + 1 := ⟨_, rfl⟩
        refine lv_iinc (v := z52) (lv' := [(4, .int z52), (5, .ref (L (26 + 2 * k))), (0, .ref (L 0)), (1, .int p0), (2, .int p1), (3, .int p2)]) hx hb dX3_suspectAt_52 hl (k := 1) rfl (by rw [ez52]; rfl) (by decide) rfl (fun ls hl => ?_)
        refine lv_goto (tgt := 8) hx hb dX3_suspectAt_55 (by decide) ?_
        exact ih (k + 1) _ _ _ _ (by omega) (by rw [ez52, nI_1]) (fun j hj => by rcases (show j < k ∨ j = k by omega) with h9 | rfl; exact hnk j h9; exact fun h8 => h31 h8.1) hP hS (lv_sub hl [0, 2, 3, 4, 5] rfl)
  exact key8 nn 0 _ _ _ _ (by omega) rfl (fun j h => absurd h (Nat.not_lt_zero _)) hP hS (lv_sub hl [0, 1, 2, 3, 4] rfl)

set_option maxHeartbeats 4000000 in
set_option maxRecDepth 100000 in
theorem k_setSun (l : Launch) (hst : l.stackTraces = false) (g : gE) (base n : Nat) (L : Nat → Nat) (hn : 106 ≤ n) (x : St) (r0 : Nat → va_E)  (p0 : Int32) : vx_Met l yX3_setSun wsX3_setSun ({ frames := 6, cells := 1, slots := 6, locals := 100 }) (va_Pc [.ref (L 0), .int p0] (PW SS g base n L (cw g L x r0))) (va_Qi (fun (r : Int32) (u : St) => (0 ≤ p0.toInt ∧ p0.toInt ≤ 20) ∧ r = x 2 0 0 ∧ u = st x 2 0 0 p0) (fun (u : St) t => PB g n L (cw g L u r0) t) (fun q => base ≤ q)) (QX g base n L (cw g L x r0) (fun E => E = "java/lang/IllegalArgumentException" ∧ ¬ (0 ≤ p0.toInt ∧ p0.toInt ≤ 20))) 1 6 (fun q => base ≤ q) := by
  refine vx_ofW (cc := cX3_setSun) (maxL := 3) (ret := (some .int)) (by decide) rfl ?_
  intro p e s m args below meth c s₁ B hml hno hv
  obtain ⟨rfl, hPW⟩ := hv
  obtain ⟨hbs, hJ, hP, hK, hE⟩ := id hPW
  have hx := B.exec
  have hb := B.bytes
  have hr := B.returns
  have hts := atoms_spec (ws := wsX3_setSun) B.pre
  have hown : s.vm.findClass RX3 = some m.cls := findClass_of_methodNamed B.named
  have hlocks := B.notSynchronized
  have hS : va_S (fun q : Nat => base ≤ q) s.heap s.heap [] := va_S.rf
  have hl := lv_entry ([.ref (L 0), .int p0]) (n := 3) (Nat.le_of_ble_eq_true rfl)
  rw [lg_entry_eq]
  generalize (lg_sl ([.ref (L 0), .int p0]) ++ List.replicate (3 - (lg_sl ([.ref (L 0), .int p0])).length) Slot.unset).toArray = ls at hl ⊢
  have hl : lv_has ls 3 [(0, .ref (L 0)), (1, .int p0)] := hl
  have iX3 : ∀ w ∈ wsX30, w ∈ wsX3_setSun := by decide +kernel
  refine lv_iload_n hx hb dX3_setSun_0 rfl (lv_at hl 1 rfl) ?_
  refine lv_if_lt (tgt := 10) hx hb dX3_setSun_1 (by decide) (fun c1 => ?_) (fun c1 => ?_)
  · exact wx_throwS (ik := 51) (is := 67) (ic := 55) (own := RX3) (cls := "java/lang/IllegalArgumentException") (text := "the sun is not 0 to 20") (names := ["java/lang/RuntimeException", "java/lang/Exception"]) hx hb hst hPW hown (by decide +kernel) (by decide +kernel) (hts (.classLink RX3 51 "java/lang/IllegalArgumentException") (by decide +kernel)) (hts (.initialized "java/lang/IllegalArgumentException") (by decide +kernel)) (by decide +kernel) (fun w hw => hts w (List.mem_cons_of_mem _ (List.mem_append_right _ hw))) (by decide +kernel) (by decide +kernel) hP hS (hl.1.trans hml.symm) dX3_setSun_10 dX3_setSun_13 dX3_setSun_14 dX3_setSun_16 dX3_setSun_19 hno (Nat.lt_of_lt_of_le (Nat.lt_succ_self _) (Nat.le_of_ble_eq_true rfl)) (Nat.le_of_ble_eq_true rfl) (Nat.le_of_ble_eq_true rfl) (Nat.le_of_ble_eq_true rfl) hlocks (⟨rfl, (by revert c1; (try simp only [Int32.lt_iff_toInt_lt, Int32.le_iff_toInt_le, ← Int32.toInt_inj, i_0, i_1, i_2, i_3, i_4, i_6, i_9, i_20, i_32, i_40, i_48, i_60, i_200, i_999, i_2000, i_m1, i_8]); omega)⟩) (Nat.le_of_ble_eq_true rfl) (Nat.le_of_ble_eq_true rfl)
  · refine lv_iload_n hx hb dX3_setSun_4 rfl (lv_at hl 1 rfl) ?_
    refine lv_bipush (v := 20) hx hb dX3_setSun_5 (by decide) ?_
    refine lv_icmp_le (tgt := 20) hx hb dX3_setSun_7 (by decide) (fun c7 => ?_) (fun c7 => ?_)
    · refine lv_aload_n hx hb dX3_setSun_20 rfl (lv_at hl 0 rfl) ?_
      refine wx_get (D := g.1) (cl := vwCl) (ci := 5) (v := .int (x 2 0 0)) (C := RX3) (T := TX3) (N := 8) hx hb hts iX3 hown hK hP (0) (by omega) cw_d rfl 6 (by decide) (hts (.fieldLink RX3 38 "FerroDesk" "sun" "I") (by decide +kernel)) (fun _ h9 => h9) rfl dX3_setSun_21 ?_
      refine lv_istore_n (lv' := [(2, .int (x 2 0 0)), (0, .ref (L 0)), (1, .int p0)]) hx hb dX3_setSun_24 rfl hl (by decide) rfl (fun ls hl => ?_)
      refine lv_aload_n hx hb dX3_setSun_25 rfl (lv_at hl 1 rfl) ?_
      refine lv_iload_n hx hb dX3_setSun_26 rfl (lv_at hl 2 rfl) ?_
      refine wx_put (D := g.1) (cl := vwCl) (ci := 5) (v := .int p0) (ty := .int) (w' := cw g L (st x 2 0 0 p0) r0) (C := RX3) (T := TX3) (N := 8) hx hb hts iX3 tyX3 tyX3_ok nmX3 hown hK hP hJ hS (0) (by omega) cw_d rfl 6 (by decide) (hts (.fieldLink RX3 38 "FerroDesk" "sun" "I") (by decide +kernel)) (fun _ h9 => h9) rfl (by decide +kernel) rfl rfl (Nat.le_of_ble_eq_true rfl) dX3_setSun_27 (cw_put (r := 2) (i := 0) (j := 0) rfl (by omega) (dk_0.trans (by simp [dF, st]))) (fun H locs hP hS => ?_)
      refine lv_iload_n hx hb dX3_setSun_30 rfl (lv_at hl 0 rfl) ?_
      refine W.widen (k := 1) (n := 6) (Nat.le_of_ble_eq_true rfl) (Nat.le_of_ble_eq_true rfl) ?_
      exact vx_ret (W.iret (v := x 2 0 0) hx hb hr (fun t ht hW => ⟨⟨x 2 0 0, (st x 2 0 0 p0), rfl, ⟨(by revert c1 c7; (try simp only [Int32.lt_iff_toInt_lt, Int32.le_iff_toInt_le, ← Int32.toInt_inj, i_0, i_1, i_2, i_3, i_4, i_6, i_9, i_20, i_32, i_40, i_48, i_60, i_200, i_999, i_2000, i_m1, i_8]); omega), rfl, rfl⟩, PB.mk9 hP ht⟩, hS.F ht⟩) hS.2.2 dX3_setSun_31)
    · exact wx_throwS (ik := 51) (is := 67) (ic := 55) (own := RX3) (cls := "java/lang/IllegalArgumentException") (text := "the sun is not 0 to 20") (names := ["java/lang/RuntimeException", "java/lang/Exception"]) hx hb hst hPW hown (by decide +kernel) (by decide +kernel) (hts (.classLink RX3 51 "java/lang/IllegalArgumentException") (by decide +kernel)) (hts (.initialized "java/lang/IllegalArgumentException") (by decide +kernel)) (by decide +kernel) (fun w hw => hts w (List.mem_cons_of_mem _ (List.mem_append_right _ hw))) (by decide +kernel) (by decide +kernel) hP hS (hl.1.trans hml.symm) dX3_setSun_10 dX3_setSun_13 dX3_setSun_14 dX3_setSun_16 dX3_setSun_19 hno (Nat.lt_of_lt_of_le (Nat.lt_succ_self _) (Nat.le_of_ble_eq_true rfl)) (Nat.le_of_ble_eq_true rfl) (Nat.le_of_ble_eq_true rfl) (Nat.le_of_ble_eq_true rfl) hlocks (⟨rfl, (by revert c1 c7; (try simp only [Int32.lt_iff_toInt_lt, Int32.le_iff_toInt_le, ← Int32.toInt_inj, i_0, i_1, i_2, i_3, i_4, i_6, i_9, i_20, i_32, i_40, i_48, i_60, i_200, i_999, i_2000, i_m1, i_8]); omega)⟩) (Nat.le_of_ble_eq_true rfl) (Nat.le_of_ble_eq_true rfl)

set_option maxHeartbeats 4000000 in
set_option maxRecDepth 100000 in
theorem k_takeBack (l : Launch) (hst : l.stackTraces = false) (g : gE) (base n : Nat) (L : Nat → Nat) (hn : 106 ≤ n) (x : St) (r0 : Nat → va_E) (nb : Nat) (hnb : nb ≤ 6) (hx0 : x 0 0 0 = nI nb) (nn : Nat) (hnn : nn ≤ 40) (hx1 : x 1 0 0 = nI nn) (hsh : ∀ b, b < 6 → x 12 b 0 = -1 ∨ ∃ k, k < 40 ∧ x 12 b 0 = nI k) (p0 p1 : Int32) : vx_Met l yX3_takeBack wsX3_takeBack ({ frames := 7, cells := 2, slots := 12, locals := 140 }) (va_Pc [.ref (L 0), .int p0, .int p1] (PW SS g base n L (cw g L x r0))) (va_Qi (fun (r : Int32) (u : St) => ∃ j, j < nn ∧ p0 = nI j ∧ (¬ p1 ≤ x 3 0 0 ∧ p1 ≤ x 33 j 0 ∧ x 34 j 0 = 0) ∧ u = st (st x 35 j 0 1) 33 j 0 p1 ∧ r = btF u j nb) (fun (u : St) t => PB g n L (cw g L u r0) t) (fun q => base ≤ q)) (QX g base n L (cw g L x r0) (fun E => (E = "java/lang/IndexOutOfBoundsException" ∧ (p0.toInt < 0 ∨ nn ≤ p0.toInt)) ∨ (∃ j, j < nn ∧ p0 = nI j ∧ ((E = "java/lang/IllegalArgumentException" ∧ (p1 ≤ x 3 0 0 ∨ ¬ p1 ≤ x 33 j 0)) ∨ (E = "java/lang/UnsupportedOperationException" ∧ (¬ p1 ≤ x 3 0 0 ∧ p1 ≤ x 33 j 0) ∧ ¬ x 34 j 0 = 0))))) 2 12 (fun q => base ≤ q) := by
  refine vx_ofW (cc := cX3_takeBack) (maxL := 4) (ret := (some .int)) (by decide) rfl ?_
  intro p e s m args below meth c s₁ B hml hno hv
  obtain ⟨rfl, hPW⟩ := hv
  obtain ⟨hbs, hJ, hP, hK, hE⟩ := id hPW
  have hx := B.exec
  have hb := B.bytes
  have hr := B.returns
  have hts := atoms_spec (ws := wsX3_takeBack) B.pre
  have hown : s.vm.findClass RX3 = some m.cls := findClass_of_methodNamed B.named
  have hlocks := B.notSynchronized
  have hS : va_S (fun q : Nat => base ≤ q) s.heap s.heap [] := va_S.rf
  have hl := lv_entry ([.ref (L 0), .int p0, .int p1]) (n := 4) (Nat.le_of_ble_eq_true rfl)
  rw [lg_entry_eq]
  generalize (lg_sl ([.ref (L 0), .int p0, .int p1]) ++ List.replicate (4 - (lg_sl ([.ref (L 0), .int p0, .int p1])).length) Slot.unset).toArray = ls at hl ⊢
  have hl : lv_has ls 4 [(0, .ref (L 0)), (1, .int p0), (2, .int p1)] := hl
  have iX1 : ∀ w ∈ wsX10, w ∈ wsX3_takeBack := by decide +kernel
  have iX3 : ∀ w ∈ wsX30, w ∈ wsX3_takeBack := by decide +kernel
  refine lv_aload_n hx hb dX3_takeBack_0 rfl (lv_at hl 0 rfl) ?_
  refine lv_iload_n hx hb dX3_takeBack_1 rfl (lv_at hl 1 rfl) ?_
  refine wx_xcallr (G := fun u => 26 + 2 * u) (vx_runV (As := [.int p0]) (rest := []) ⟨hx, hb, hml, hown, hts⟩ (k_noticeAt l hst g base n L (by omega) x r0 nn hnn hx1 p0) (cwV 1 hts gX3_takeBack_X3_noticeAt rfl rfl rfl (by decide +kernel) ⟨Nat.le_of_ble_eq_true rfl, Nat.le_of_ble_eq_true rfl⟩) (hPW.preV hP hS (ci := 5) rfl (by omega) cw_d) rfl rfl hl.1 rfl (lv_room (Nat.le_of_ble_eq_true rfl)) dX3_takeBack_2 ⟨Nat.le_of_ble_eq_true rfl, Nat.le_of_ble_eq_true rfl⟩) hS (fun E ce q9 H locs hpx hP hS h1 h2 h3 => ?_) (fun u2 H locs h2 hP hS => ?_)
  · exact wx_out hno hlocks h1 h2 h3 (Or.inl hpx) hP hS (Nat.le_of_ble_eq_true rfl) (Nat.le_of_ble_eq_true rfl)
  obtain ⟨hu2, eu2⟩ := h2
  refine lv_astore_n (lv' := [(3, .ref (L (26 + 2 * u2))), (0, .ref (L 0)), (1, .int p0), (2, .int p1)]) hx hb dX3_takeBack_5 rfl hl (by decide) rfl (fun ls hl => ?_)
  refine lv_iload_n hx hb dX3_takeBack_6 rfl (lv_at hl 3 rfl) ?_
  refine lv_aload_n hx hb dX3_takeBack_7 rfl (lv_at hl 1 rfl) ?_
  refine wx_get (D := g.1) (cl := vwCl) (ci := 5) (v := .int (x 3 0 0)) (C := RX3) (T := TX3) (N := 8) hx hb hts iX3 hown hK hP (0) (by omega) cw_d rfl 7 (by decide) (hts (.fieldLink RX3 41 "FerroDesk" "hour" "I") (by decide +kernel)) (fun _ h9 => h9) rfl dX3_takeBack_8 ?_
  refine lv_icmp_le (tgt := 22) hx hb dX3_takeBack_11 (by decide) (fun c11 => ?_) (fun c11 => ?_)
  · exact wx_throwS (ik := 51) (is := 139) (ic := 55) (own := RX3) (cls := "java/lang/IllegalArgumentException") (text := "the hour is not later, or later than the one told") (names := ["java/lang/RuntimeException", "java/lang/Exception"]) hx hb hst hPW hown (by decide +kernel) (by decide +kernel) (hts (.classLink RX3 51 "java/lang/IllegalArgumentException") (by decide +kernel)) (hts (.initialized "java/lang/IllegalArgumentException") (by decide +kernel)) (by decide +kernel) (fun w hw => hts w (List.mem_cons_of_mem _ (List.mem_append_left _ (List.mem_append_left _ (List.mem_append_right _ hw))))) (by decide +kernel) (by decide +kernel) hP hS (hl.1.trans hml.symm) dX3_takeBack_22 dX3_takeBack_25 dX3_takeBack_26 dX3_takeBack_28 dX3_takeBack_31 hno (Nat.lt_of_lt_of_le (Nat.lt_succ_self _) (Nat.le_of_ble_eq_true rfl)) (Nat.le_of_ble_eq_true rfl) (Nat.le_of_ble_eq_true rfl) (Nat.le_of_ble_eq_true rfl) hlocks (Or.inr ⟨u2, hu2, eu2, Or.inl ⟨rfl, Or.inl c11⟩⟩) (Nat.le_of_ble_eq_true rfl) (Nat.le_of_ble_eq_true rfl)
  · refine lv_iload_n hx hb dX3_takeBack_14 rfl (lv_at hl 3 rfl) ?_
    refine lv_aload_n hx hb dX3_takeBack_15 rfl (lv_at hl 0 rfl) ?_
    refine wx_getN (D := g.1) (cl := vwCl) (ci := 3) (v := .int (x 33 u2 0)) (C := RX1) (T := TX1) (N := 9) hx hb hts iX1 hown hK hP (26 + 2 * u2) (by omega) (cw_n (by omega)) rfl 5 (by decide) (hE.1 _ (ng_in (w := (Cond.fieldLinkNest "FerroDesk" 136 "FerroDesk$Notice" "till" "I" "FerroDesk")) (by decide +kernel))) (fun _ h9 => h9) rfl dX3_takeBack_16 ?_
    refine lv_icmp_le (tgt := 32) hx hb dX3_takeBack_19 (by decide) (fun c19 => ?_) (fun c19 => ?_)
    · refine lv_aload_n hx hb dX3_takeBack_32 rfl (lv_at hl 0 rfl) ?_
      refine wx_getN (D := g.1) (cl := vwCl) (ci := 3) (v := .int (x 34 u2 0)) (C := RX1) (T := TX1) (N := 9) hx hb hts iX1 hown hK hP (26 + 2 * u2) (by omega) (cw_n (by omega)) rfl 6 (by decide) (hE.1 _ (ng_in (w := (Cond.fieldLinkNest "FerroDesk" 118 "FerroDesk$Notice" "mended" "Z" "FerroDesk")) (by decide +kernel))) (fun _ h9 => h9) rfl dX3_takeBack_33 ?_
      refine lv_if_eq (tgt := 49) hx hb dX3_takeBack_36 (by decide) (fun c36 => ?_) (fun c36 => ?_)
      · refine lv_aload_n hx hb dX3_takeBack_49 rfl (lv_at hl 0 rfl) ?_
        refine lv_iconst (v := 1) hx hb dX3_takeBack_50 (by decide) ?_
        refine wx_putN (D := g.1) (cl := vwCl) (ci := 3) (v := .int 1) (ty := .boolean) (w' := cw g L (st x 35 u2 0 1) r0) (C := RX1) (T := TX1) (N := 9) hx hb hts iX1 tyX1 tyX1_ok nmX1 hown hK hP hJ hS (26 + 2 * u2) (by omega) (cw_n (by omega)) rfl 7 (by decide) (hE.1 _ (ng_in (w := (Cond.fieldLinkNest "FerroDesk" 121 "FerroDesk$Notice" "takenBack" "Z" "FerroDesk")) (by decide +kernel))) (fun _ h9 => h9) rfl (by decide +kernel) rfl rfl (Nat.le_of_ble_eq_true rfl) dX3_takeBack_51 (cw_put (r := 35) (i := u2) (j := 0) rfl (by omega) (dk_n.trans (by simp [nF, st]))) (fun H locs hP hS => ?_)
        refine lv_aload_n hx hb dX3_takeBack_54 rfl (lv_at hl 0 rfl) ?_
        refine lv_iload_n hx hb dX3_takeBack_55 rfl (lv_at hl 3 rfl) ?_
        refine wx_putN (D := g.1) (cl := vwCl) (ci := 3) (v := .int p1) (ty := .int) (w' := cw g L (st (st x 35 u2 0 1) 33 u2 0 p1) r0) (C := RX1) (T := TX1) (N := 9) hx hb hts iX1 tyX1 tyX1_ok nmX1 hown hK hP hJ hS (26 + 2 * u2) (by omega) (cw_n (by omega)) rfl 5 (by decide) (hE.1 _ (ng_in (w := (Cond.fieldLinkNest "FerroDesk" 136 "FerroDesk$Notice" "till" "I" "FerroDesk")) (by decide +kernel))) (fun _ h9 => h9) rfl (by decide +kernel) rfl rfl (Nat.le_of_ble_eq_true rfl) dX3_takeBack_56 (cw_put (r := 33) (i := u2) (j := 0) rfl (by omega) (dk_n.trans (by simp [nF, st]))) (fun H locs hP hS => ?_)
        refine lv_aload_n hx hb dX3_takeBack_59 rfl (lv_at hl 1 rfl) ?_
        refine lv_aload_n hx hb dX3_takeBack_60 rfl (lv_at hl 0 rfl) ?_
        refine wx_calli (va_runV (As := [.ref (L (26 + 2 * u2))]) (rest := []) ⟨hx, hb, hml, hown, hts⟩ (k_boardsThatShow l hst g base n L (by omega) (st (st x 35 u2 0 1) 33 u2 0 p1) r0 nb hnb ((st_nr (by omega)).trans ((st_nr (by omega)).trans hx0)) (fun b h9 => by rw [st_nr (by omega), st_nr (by omega)]; exact hsh b h9) u2 (by omega)) (cwV 1 hts gX3_takeBack_X3_boardsThatShow rfl rfl rfl (by decide +kernel) ⟨Nat.le_of_ble_eq_true rfl, Nat.le_of_ble_eq_true rfl⟩) (hPW.preV hP hS (ci := 5) rfl (by omega) cw_d) rfl rfl hl.1 rfl (lv_room (Nat.le_of_ble_eq_true rfl)) dX3_takeBack_61 ⟨Nat.le_of_ble_eq_true rfl, Nat.le_of_ble_eq_true rfl⟩) hS (fun r61 u61 H locs h61 hP hS => ?_)
        obtain rfl := h61
        refine W.widen (k := 2) (n := 12) (Nat.le_of_ble_eq_true rfl) (Nat.le_of_ble_eq_true rfl) ?_
        exact vx_ret (W.iret (v := btF (st (st x 35 u2 0 1) 33 u2 0 p1) u2 nb) hx hb hr (fun t ht hW => ⟨⟨btF (st (st x 35 u2 0 1) 33 u2 0 p1) u2 nb, (st (st x 35 u2 0 1) 33 u2 0 p1), rfl, ⟨u2, hu2, eu2, ⟨c11, c19, c36⟩, rfl, rfl⟩, PB.mk9 hP ht⟩, hS.F ht⟩) hS.2.2 dX3_takeBack_64)
      · exact wx_throwS (ik := 124) (is := 141) (ic := 128) (own := RX3) (cls := "java/lang/UnsupportedOperationException") (text := "it was mended") (names := ["java/lang/RuntimeException", "java/lang/Exception"]) hx hb hst hPW hown (by decide +kernel) (by decide +kernel) (hts (.classLink RX3 124 "java/lang/UnsupportedOperationException") (by decide +kernel)) (hts (.initialized "java/lang/UnsupportedOperationException") (by decide +kernel)) (by decide +kernel) (fun w hw => hts w (List.mem_cons_of_mem _ (List.mem_append_left _ (List.mem_append_right _ hw)))) (by decide +kernel) (by decide +kernel) hP hS (hl.1.trans hml.symm) dX3_takeBack_39 dX3_takeBack_42 dX3_takeBack_43 dX3_takeBack_45 dX3_takeBack_48 hno (Nat.lt_of_lt_of_le (Nat.lt_succ_self _) (Nat.le_of_ble_eq_true rfl)) (Nat.le_of_ble_eq_true rfl) (Nat.le_of_ble_eq_true rfl) (Nat.le_of_ble_eq_true rfl) hlocks (Or.inr ⟨u2, hu2, eu2, Or.inr ⟨rfl, ⟨c11, c19⟩, c36⟩⟩) (Nat.le_of_ble_eq_true rfl) (Nat.le_of_ble_eq_true rfl)
    · exact wx_throwS (ik := 51) (is := 139) (ic := 55) (own := RX3) (cls := "java/lang/IllegalArgumentException") (text := "the hour is not later, or later than the one told") (names := ["java/lang/RuntimeException", "java/lang/Exception"]) hx hb hst hPW hown (by decide +kernel) (by decide +kernel) (hts (.classLink RX3 51 "java/lang/IllegalArgumentException") (by decide +kernel)) (hts (.initialized "java/lang/IllegalArgumentException") (by decide +kernel)) (by decide +kernel) (fun w hw => hts w (List.mem_cons_of_mem _ (List.mem_append_left _ (List.mem_append_left _ (List.mem_append_right _ hw))))) (by decide +kernel) (by decide +kernel) hP hS (hl.1.trans hml.symm) dX3_takeBack_22 dX3_takeBack_25 dX3_takeBack_26 dX3_takeBack_28 dX3_takeBack_31 hno (Nat.lt_of_lt_of_le (Nat.lt_succ_self _) (Nat.le_of_ble_eq_true rfl)) (Nat.le_of_ble_eq_true rfl) (Nat.le_of_ble_eq_true rfl) (Nat.le_of_ble_eq_true rfl) hlocks (Or.inr ⟨u2, hu2, eu2, Or.inl ⟨rfl, Or.inr c19⟩⟩) (Nat.le_of_ble_eq_true rfl) (Nat.le_of_ble_eq_true rfl)

set_option maxHeartbeats 4000000 in
set_option maxRecDepth 100000 in
theorem k_queuedAt (l : Launch) (hst : l.stackTraces = false) (g : gE) (base n : Nat) (L : Nat → Nat) (hn : 106 ≤ n) (x : St) (r0 : Nat → va_E) (nn : Nat) (hnn : nn ≤ 40) (hx1 : x 1 0 0 = nI nn) (hrk : ∀ j, j < 40 → (x 43 0 j).toNatClampNeg < 40) (p0 p1 : Int32) : vx_Met l yX3_queuedAt wsX3_queuedAt ({ frames := 8, cells := 2, slots := 12, locals := 180 }) (va_Pc [.ref (L 0), .int p0, .int p1] (PW SS g base n L (cw g L x r0))) (va_Qi (fun (r : Int32) (_ : Unit) => (0 ≤ p0.toInt ∧ p0.toInt ≤ 3) ∧ ∃ k, k < nn ∧ (qcP x (x 43 0 k).toNatClampNeg p0 ∧ qrF x p0 k = p1) ∧ r = nI (x 43 0 k).toNatClampNeg ∧ ∀ j, j < k → ¬ (qcP x (x 43 0 j).toNatClampNeg p0 ∧ qrF x p0 j = p1)) (fun (u : Unit) t => PB g n L (cw g L x r0) t) (fun q => base ≤ q)) (QX g base n L (cw g L x r0) (fun E => (E = "java/lang/IllegalArgumentException" ∧ (p0.toInt < 0 ∨ 3 < p0.toInt)) ∨ (E = "java/lang/IndexOutOfBoundsException" ∧ (0 ≤ p0.toInt ∧ p0.toInt ≤ 3) ∧ ∀ j, j < nn → ¬ (qcP x (x 43 0 j).toNatClampNeg p0 ∧ qrF x p0 j = p1)))) 2 12 (fun q => base ≤ q) := by
  refine vx_ofW (cc := cX3_queuedAt) (maxL := 6) (ret := (some .int)) (by decide) rfl ?_
  intro p e s m args below meth c s₁ B hml hno hv
  obtain ⟨rfl, hPW⟩ := hv
  obtain ⟨hbs, hJ, hP, hK, hE⟩ := id hPW
  have hx := B.exec
  have hb := B.bytes
  have hr := B.returns
  have hts := atoms_spec (ws := wsX3_queuedAt) B.pre
  have hown : s.vm.findClass RX3 = some m.cls := findClass_of_methodNamed B.named
  have hlocks := B.notSynchronized
  have hS : va_S (fun q : Nat => base ≤ q) s.heap s.heap [] := va_S.rf
  have hl := lv_entry ([.ref (L 0), .int p0, .int p1]) (n := 6) (Nat.le_of_ble_eq_true rfl)
  rw [lg_entry_eq]
  generalize (lg_sl ([.ref (L 0), .int p0, .int p1]) ++ List.replicate (6 - (lg_sl ([.ref (L 0), .int p0, .int p1])).length) Slot.unset).toArray = ls at hl ⊢
  have hl : lv_has ls 6 [(0, .ref (L 0)), (1, .int p0), (2, .int p1)] := hl
  have iX1 : ∀ w ∈ wsX10, w ∈ wsX3_queuedAt := by decide +kernel
  have iX3 : ∀ w ∈ wsX30, w ∈ wsX3_queuedAt := by decide +kernel
  refine lv_iload_n hx hb dX3_queuedAt_0 rfl (lv_at hl 1 rfl) ?_
  refine wx_xcallv (vx_runS (As := [.int p0]) (rest := []) ⟨hx, hb, hml, hown, hts⟩ (k_checkDistrict l hst g base n L (cw g L x r0) p0) (va_cwS 1 hts gX3_queuedAt_X3_checkDistrict rfl rfl rfl (by decide +kernel) ⟨Nat.le_of_ble_eq_true rfl, Nat.le_of_ble_eq_true rfl⟩) (hPW.preS hP hS) rfl rfl hl.1 rfl (lv_room (Nat.le_of_ble_eq_true rfl)) dX3_queuedAt_1 ⟨Nat.le_of_ble_eq_true rfl, Nat.le_of_ble_eq_true rfl⟩) hS (fun E ce q9 H locs hpx hP hS h1 h2 h3 => ?_) (fun u1 H locs h1 hP hS => ?_)
  · exact wx_out hno hlocks h1 h2 h3 (Or.inl hpx) hP hS (Nat.le_of_ble_eq_true rfl) (Nat.le_of_ble_eq_true rfl)
  refine lv_iconst (v := 0) hx hb dX3_queuedAt_4 (by decide) ?_
  refine lv_istore_n (lv' := [(3, .int 0), (0, .ref (L 0)), (1, .int p0), (2, .int p1)]) hx hb dX3_queuedAt_5 rfl hl (by decide) rfl (fun ls hl => ?_)
  refine lv_iconst (v := 0) hx hb dX3_queuedAt_6 (by decide) ?_
  refine lv_istore (lv' := [(4, .int 0), (3, .int 0), (0, .ref (L 0)), (1, .int p0), (2, .int p1)]) hx hb dX3_queuedAt_7 hl (by decide) rfl (fun ls hl => ?_)
  have key9 : ∀ (d k : Nat) (z4 : Int32) (z3 : Int32) (H : Heap) (locs : List Loc) (ls : Array Slot), k + d = nn → (z4 = nI k) → (z3 = qrF x p0 k) → (∀ j, j < k → ¬ (qcP x (x 43 0 j).toNatClampNeg p0 ∧ qrF x p0 j = p1)) → va_P g.1 vwCl (wl n L (cw g L x r0)) H → va_S (fun q : Nat => base ≤ q) s.heap H locs → lv_has ls 6 [(4, .int z4), (3, .int z3), (0, .ref (L 0)), (1, .int p0), (2, .int p1)] → W p l e (headSpec wsX3_queuedAt ({ frames := 8, cells := 2, slots := 12, locals := 180 })).room s m ([.ref (L 0), .int p0, .int p1] : List Value).toArray below meth c H locs (0 + 1) (0 + 6) (vx_MQ below (va_Qi (fun (r : Int32) (_ : Unit) => (0 ≤ p0.toInt ∧ p0.toInt ≤ 3) ∧ ∃ k, k < nn ∧ (qcP x (x 43 0 k).toNatClampNeg p0 ∧ qrF x p0 k = p1) ∧ r = nI (x 43 0 k).toNatClampNeg ∧ ∀ j, j < k → ¬ (qcP x (x 43 0 j).toNatClampNeg p0 ∧ qrF x p0 j = p1)) (fun (u : Unit) t => PB g n L (cw g L x r0) t) (fun q => base ≤ q)) (QX g base n L (cw g L x r0) (fun E => (E = "java/lang/IllegalArgumentException" ∧ (p0.toInt < 0 ∨ 3 < p0.toInt)) ∨ (E = "java/lang/IndexOutOfBoundsException" ∧ (0 ≤ p0.toInt ∧ p0.toInt ≤ 3) ∧ ∀ j, j < nn → ¬ (qcP x (x 43 0 j).toNatClampNeg p0 ∧ qrF x p0 j = p1)))) ([.ref (L 0), .int p0, .int p1] : List Value).toArray s 2 12 (fun q => base ≤ q)) (F0 m 9 ls []) := by
    intro d
    induction d with
    | zero =>
      intro k z4 z3 H locs ls hkd ek4 ek3 hnk hP hS hl
      obtain rfl : nn = k := by omega
      subst ek4 ek3
      refine lv_iload hx hb dX3_queuedAt_9 (lv_at hl 0 rfl) ?_
      refine lv_aload_n hx hb dX3_queuedAt_11 rfl (lv_at hl 2 rfl) ?_
      refine wx_get (D := g.1) (cl := vwCl) (ci := 5) (v := .int (x 1 0 0)) (C := RX3) (T := TX3) (N := 8) hx hb hts iX3 hown hK hP (0) (by omega) cw_d rfl 4 (by decide) (hts (.fieldLink RX3 28 "FerroDesk" "noticeCount" "I") (by decide +kernel)) (fun _ h9 => h9) rfl dX3_queuedAt_12 ?_
      refine lv_icmp_ge (tgt := 60) hx hb dX3_queuedAt_15 (by decide) (fun c15 => ?_) (fun c15 => absurd (by rw [hx1]; exact nI_le (Nat.le_refl _) (by omega)) c15)
      exact wx_throwS (ik := 180) (is := 182) (ic := 184) (own := RX3) (cls := "java/lang/IndexOutOfBoundsException") (text := "there is no such notice in the queue") (names := ["java/lang/RuntimeException", "java/lang/Exception"]) hx hb hst hPW hown (by decide +kernel) (by decide +kernel) (hts (.classLink RX3 180 "java/lang/IndexOutOfBoundsException") (by decide +kernel)) (hts (.initialized "java/lang/IndexOutOfBoundsException") (by decide +kernel)) (by decide +kernel) (fun w hw => hts w (List.mem_cons_of_mem _ (List.mem_append_left _ (List.mem_append_right _ hw)))) (by decide +kernel) (by decide +kernel) hP hS (hl.1.trans hml.symm) dX3_queuedAt_60 dX3_queuedAt_63 dX3_queuedAt_64 dX3_queuedAt_66 dX3_queuedAt_69 hno (Nat.lt_of_lt_of_le (Nat.lt_succ_self _) (Nat.le_of_ble_eq_true rfl)) (Nat.le_of_ble_eq_true rfl) (Nat.le_of_ble_eq_true rfl) (Nat.le_of_ble_eq_true rfl) hlocks (Or.inr ⟨rfl, h1, hnk⟩) (Nat.le_of_ble_eq_true rfl) (Nat.le_of_ble_eq_true rfl)
    | succ d ih =>
      intro k z4 z3 H locs ls hkd ek4 ek3 hnk hP hS hl
      have hkN : k < nn := by omega
      subst ek4 ek3
      have hr9 := hrk k (by omega)
      refine lv_iload hx hb dX3_queuedAt_9 (lv_at hl 0 rfl) ?_
      refine lv_aload_n hx hb dX3_queuedAt_11 rfl (lv_at hl 2 rfl) ?_
      refine wx_get (D := g.1) (cl := vwCl) (ci := 5) (v := .int (x 1 0 0)) (C := RX3) (T := TX3) (N := 8) hx hb hts iX3 hown hK hP (0) (by omega) cw_d rfl 4 (by decide) (hts (.fieldLink RX3 28 "FerroDesk" "noticeCount" "I") (by decide +kernel)) (fun _ h9 => h9) rfl dX3_queuedAt_12 ?_
      refine lv_icmp_ge (tgt := 60) hx hb dX3_queuedAt_15 (by decide) (fun c15 => absurd c15 (by rw [hx1]; exact nI_ge hkN (by omega))) (fun c15 => ?_)
      refine lv_aload_n hx hb dX3_queuedAt_18 rfl (lv_at hl 2 rfl) ?_
      refine wx_get (D := g.1) (cl := vwCl) (ci := 5) (v := .ref (L 3)) (C := RX3) (T := TX3) (N := 8) hx hb hts iX3 hown hK hP (0) (by omega) cw_d rfl 3 (by decide) (hts (.fieldLink RX3 25 "FerroDesk" "ranked" "[LFerroDesk$Notice;") (by decide +kernel)) (fun _ h9 => h9) rfl dX3_queuedAt_19 ?_
      refine lv_iload hx hb dX3_queuedAt_22 (lv_at hl 0 rfl) ?_
      refine wx_aald (D := g.1) (cl := vwCl) (f := fun j => if j < 40 then some (L (26 + 2 * (x 43 0 j).toNatClampNeg)) else none) (a := L (26 + 2 * (x 43 0 k).toNatClampNeg)) hx hb hK hP (3) 2 (by omega) cw_3 rfl (i := nI k) (vp_in_nI (by omega) (by decide)) (by rw [nI_clamp (show k < 2 ^ 31 by omega)]; exact if_pos (by omega)) dX3_queuedAt_24 ?_
      refine lv_astore (lv' := [(5, .ref (L (26 + 2 * (x 43 0 k).toNatClampNeg))), (4, .int (nI k)), (3, .int (qrF x p0 k)), (0, .ref (L 0)), (1, .int p0), (2, .int p1)]) hx hb dX3_queuedAt_25 hl (by decide) rfl (fun ls hl => ?_)
      refine lv_aload hx hb dX3_queuedAt_27 (lv_at hl 0 rfl) ?_
      refine lv_iload_n hx hb dX3_queuedAt_29 rfl (lv_at hl 4 rfl) ?_
      refine lv_aload_n hx hb dX3_queuedAt_30 rfl (lv_at hl 3 rfl) ?_
      refine wx_get (D := g.1) (cl := vwCl) (ci := 5) (v := .int (x 3 0 0)) (C := RX3) (T := TX3) (N := 8) hx hb hts iX3 hown hK hP (0) (by omega) cw_d rfl 7 (by decide) (hts (.fieldLink RX3 41 "FerroDesk" "hour" "I") (by decide +kernel)) (fun _ h9 => h9) rfl dX3_queuedAt_31 ?_
      refine wx_calli (va_runV (As := [.int p0, .int (x 3 0 0)]) (rest := []) ⟨hx, hb, hml, hown, hts⟩ (k_isQueuedIn l hst g base n L (by omega) x r0 ((x 43 0 k).toNatClampNeg) (by omega) p0 (x 3 0 0)) (cwV 2 hts gX3_queuedAt_X1_isQueuedIn rfl rfl rfl (by decide +kernel) ⟨Nat.le_of_ble_eq_true rfl, Nat.le_of_ble_eq_true rfl⟩) (hPW.preV hP hS (ci := 3) rfl (by omega) (cw_n (by omega))) rfl rfl hl.1 rfl (lv_room (Nat.le_of_ble_eq_true rfl)) dX3_queuedAt_34 ⟨Nat.le_of_ble_eq_true rfl, Nat.le_of_ble_eq_true rfl⟩) hS (fun r34 u34 H locs h34 hP hS => ?_)
      rcases h34 with ⟨rfl, h34⟩ | ⟨rfl, h34⟩
      · refine lv_if_eq (tgt := 54) hx hb dX3_queuedAt_37 (by decide) (fun c37 => absurd c37 (by decide)) (fun c37 => ?_)
        refine lv_iload_n hx hb dX3_queuedAt_40 rfl (lv_at hl 2 rfl) ?_
        refine lv_iload_n hx hb dX3_queuedAt_41 rfl (lv_at hl 5 rfl) ?_
        refine lv_icmp_ne (tgt := 51) hx hb dX3_queuedAt_42 (by decide) (fun c42 => ?_) (fun c42 => ?_)
        · obtain ⟨z51, ez51⟩ : ∃ y : Int32, y = qrF x p0 k + 1 := ⟨_, rfl⟩
          refine lv_iinc (v := z51) (lv' := [(3, .int z51), (5, .ref (L (26 + 2 * (x 43 0 k).toNatClampNeg))), (4, .int (nI k)), (0, .ref (L 0)), (1, .int p0), (2, .int p1)]) hx hb dX3_queuedAt_51 hl (k := 2) rfl (by rw [ez51]; rfl) (by decide) rfl (fun ls hl => ?_)
          obtain ⟨z54, ez54⟩ : ∃ y : Int32, y = nI k + 1 := ⟨_, rfl⟩
          refine lv_iinc (v := z54) (lv' := [(4, .int z54), (3, .int z51), (5, .ref (L (26 + 2 * (x 43 0 k).toNatClampNeg))), (0, .ref (L 0)), (1, .int p0), (2, .int p1)]) hx hb dX3_queuedAt_54 hl (k := 2) rfl (by rw [ez54]; rfl) (by decide) rfl (fun ls hl => ?_)
          refine lv_goto (tgt := 9) hx hb dX3_queuedAt_57 (by decide) ?_
          exact ih (k + 1) _ _ _ _ _ (by omega) (by rw [ez54, nI_1]) (by rw [qr_t h34]; simp only [ez51]) (fun j hj => by rcases (show j < k ∨ j = k by omega) with h9 | rfl; exact hnk j h9; exact fun h8 => c42 h8.2) hP hS (lv_sub hl [0, 1, 3, 4, 5] rfl)
        · refine lv_aload hx hb dX3_queuedAt_45 (lv_at hl 0 rfl) ?_
          refine wx_getN (D := g.1) (cl := vwCl) (ci := 3) (v := .int (nI (x 43 0 k).toNatClampNeg)) (C := RX1) (T := TX1) (N := 9) hx hb hts iX1 hown hK hP (26 + 2 * ((x 43 0 k).toNatClampNeg)) (by omega) (cw_n (by omega)) rfl 0 (by decide) (hE.1 _ (ng_in (w := (Cond.fieldLinkNest "FerroDesk" 94 "FerroDesk$Notice" "number" "I" "FerroDesk")) (by decide +kernel))) (fun _ h9 => h9) rfl dX3_queuedAt_47 ?_
          refine W.widen (k := 2) (n := 12) (Nat.le_of_ble_eq_true rfl) (Nat.le_of_ble_eq_true rfl) ?_
          exact vx_ret (W.iret (v := nI (x 43 0 k).toNatClampNeg) hx hb hr (fun t ht hW => ⟨⟨nI (x 43 0 k).toNatClampNeg, (), rfl, ⟨h1, k, hkN, ⟨h34, c42⟩, rfl, hnk⟩, PB.mk9 hP ht⟩, hS.F ht⟩) hS.2.2 dX3_queuedAt_50)
      · refine lv_if_eq (tgt := 54) hx hb dX3_queuedAt_37 (by decide) (fun c37 => ?_) (fun c37 => absurd (by decide) c37)
        obtain ⟨z54, ez54⟩ : ∃ y : Int32, y = nI k + 1 := ⟨_, rfl⟩
        refine lv_iinc (v := z54) (lv' := [(4, .int z54), (5, .ref (L (26 + 2 * (x 43 0 k).toNatClampNeg))), (3, .int (qrF x p0 k)), (0, .ref (L 0)), (1, .int p0), (2, .int p1)]) hx hb dX3_queuedAt_54 hl (k := 1) rfl (by rw [ez54]; rfl) (by decide) rfl (fun ls hl => ?_)
        refine lv_goto (tgt := 9) hx hb dX3_queuedAt_57 (by decide) ?_
        exact ih (k + 1) _ _ _ _ _ (by omega) (by rw [ez54, nI_1]) ((qr_f h34).symm) (fun j hj => by rcases (show j < k ∨ j = k by omega) with h9 | rfl; exact hnk j h9; exact fun h8 => h34 h8.1) hP hS (lv_sub hl [0, 2, 3, 4, 5] rfl)
  exact key9 nn 0 _ _ _ _ _ (by omega) rfl rfl (fun j h => absurd h (Nat.not_lt_zero _)) hP hS (lv_sub hl [0, 1, 2, 3, 4] rfl)

set_option maxHeartbeats 4000000 in
set_option maxRecDepth 100000 in
theorem k_cellAnew (l : Launch) (hst : l.stackTraces = false) (g : gE) (base n : Nat) (L : Nat → Nat) (hn : 106 ≤ n) (x : St) (r0 : Nat → va_E) (nb : Nat) (hnb : nb ≤ 6) (hx0 : x 0 0 0 = nI nb) (tcs : Nat → Nat) (htc : ∀ b, b < 6 → tcs b ≤ 1920) (hx19 : ∀ b, b < 6 → x 19 b 0 = nI (tcs b)) (p0 p1 p2 : Int32) : vx_Met l yX3_cellAnew wsX3_cellAnew ({ frames := 8, cells := 3, slots := 12, locals := 180 }) (va_Pc [.ref (L 0), .int p0, .int p1, .int p2] (PW SS g base n L (cw g L x r0))) (va_Qi (fun (r : Int32) (_ : Unit) => ∃ j, j < nb ∧ p0 = nI j ∧ (0 ≤ p1.toInt ∧ p1.toInt < 8 ∧ 0 ≤ p2.toInt ∧ p2.toInt < 4) ∧ r = bitF (xorF x j (tcs j)) (8 * p2 + p1)) (fun (u : Unit) t => PB g n L (cw g L x r0) t) (fun q => base ≤ q)) (QX g base n L (cw g L x r0) (fun E => E = "java/lang/IndexOutOfBoundsException" ∧ ((p0.toInt < 0 ∨ nb ≤ p0.toInt) ∨ ¬ (0 ≤ p1.toInt ∧ p1.toInt < 8 ∧ 0 ≤ p2.toInt ∧ p2.toInt < 4)))) 3 12 (fun q => base ≤ q) := by
  refine vx_ofW (cc := cX3_cellAnew) (maxL := 5) (ret := (some .int)) (by decide) rfl ?_
  intro p e s m args below meth c s₁ B hml hno hv
  obtain ⟨rfl, hPW⟩ := hv
  obtain ⟨hbs, hJ, hP, hK, hE⟩ := id hPW
  have hx := B.exec
  have hb := B.bytes
  have hr := B.returns
  have hts := atoms_spec (ws := wsX3_cellAnew) B.pre
  have hown : s.vm.findClass RX3 = some m.cls := findClass_of_methodNamed B.named
  have hlocks := B.notSynchronized
  have hS : va_S (fun q : Nat => base ≤ q) s.heap s.heap [] := va_S.rf
  have hl := lv_entry ([.ref (L 0), .int p0, .int p1, .int p2]) (n := 5) (Nat.le_of_ble_eq_true rfl)
  rw [lg_entry_eq]
  generalize (lg_sl ([.ref (L 0), .int p0, .int p1, .int p2]) ++ List.replicate (5 - (lg_sl ([.ref (L 0), .int p0, .int p1, .int p2])).length) Slot.unset).toArray = ls at hl ⊢
  have hl : lv_has ls 5 [(0, .ref (L 0)), (1, .int p0), (2, .int p1), (3, .int p2)] := hl
  refine lv_aload_n hx hb dX3_cellAnew_0 rfl (lv_at hl 0 rfl) ?_
  refine lv_iload_n hx hb dX3_cellAnew_1 rfl (lv_at hl 1 rfl) ?_
  refine wx_xcallr (G := fun u => 8 + 3 * u) (vx_runV (As := [.int p0]) (rest := []) ⟨hx, hb, hml, hown, hts⟩ (k_boardAt l hst g base n L (by omega) x r0 nb hnb hx0 p0) (cwV 1 hts gX3_cellAnew_X3_boardAt rfl rfl rfl (by decide +kernel) ⟨Nat.le_of_ble_eq_true rfl, Nat.le_of_ble_eq_true rfl⟩) (hPW.preV hP hS (ci := 5) rfl (by omega) cw_d) rfl rfl hl.1 rfl (lv_room (Nat.le_of_ble_eq_true rfl)) dX3_cellAnew_2 ⟨Nat.le_of_ble_eq_true rfl, Nat.le_of_ble_eq_true rfl⟩) hS (fun E ce q9 H locs hpx hP hS h1 h2 h3 => ?_) (fun u2 H locs h2 hP hS => ?_)
  · exact wx_out hno hlocks h1 h2 h3 (⟨hpx.1, Or.inl hpx.2⟩) hP hS (Nat.le_of_ble_eq_true rfl) (Nat.le_of_ble_eq_true rfl)
  obtain ⟨hu2, eu2⟩ := h2
  refine lv_astore (lv' := [(4, .ref (L (8 + 3 * u2))), (0, .ref (L 0)), (1, .int p0), (2, .int p1), (3, .int p2)]) hx hb dX3_cellAnew_5 hl (by decide) rfl (fun ls hl => ?_)
  refine lv_aload hx hb dX3_cellAnew_7 (lv_at hl 0 rfl) ?_
  refine wx_calli (va_runV (As := []) (rest := []) ⟨hx, hb, hml, hown, hts⟩ (k_blackAnew l hst g base n L (by omega) x r0 u2 (by omega) (tcs u2) (htc u2 (by omega)) (hx19 u2 (by omega))) (cwV 0 hts gX3_cellAnew_X0_blackAnew rfl rfl rfl (by decide +kernel) ⟨Nat.le_of_ble_eq_true rfl, Nat.le_of_ble_eq_true rfl⟩) (hPW.preV hP hS (ci := 2) rfl (by omega) (cw_b (by omega))) rfl rfl hl.1 rfl (lv_room (Nat.le_of_ble_eq_true rfl)) dX3_cellAnew_9 ⟨Nat.le_of_ble_eq_true rfl, Nat.le_of_ble_eq_true rfl⟩) hS (fun r9 u9 H locs h9 hP hS => ?_)
  obtain rfl := h9
  refine lv_iload_n hx hb dX3_cellAnew_12 rfl (lv_at hl 3 rfl) ?_
  refine lv_iload_n hx hb dX3_cellAnew_13 rfl (lv_at hl 4 rfl) ?_
  refine wx_xcalli (vx_runS (As := [.int p1, .int p2]) (rest := [.int (xorF x u2 (tcs u2))]) ⟨hx, hb, hml, hown, hts⟩ (k_cellAt l hst g base n L (cw g L x r0) p1 p2) (va_cwS 2 hts gX3_cellAnew_X3_cellAt rfl rfl rfl (by decide +kernel) ⟨Nat.le_of_ble_eq_true rfl, Nat.le_of_ble_eq_true rfl⟩) (hPW.preS hP hS) rfl rfl hl.1 rfl (lv_room (Nat.le_of_ble_eq_true rfl)) dX3_cellAnew_14 ⟨Nat.le_of_ble_eq_true rfl, Nat.le_of_ble_eq_true rfl⟩) hS (fun E ce q9 H locs hpx hP hS h1 h2 h3 => ?_) (fun r14 u14 H locs h14 hP hS => ?_)
  · exact wx_out hno hlocks h1 h2 h3 (⟨hpx.1, Or.inr hpx.2⟩) hP hS (Nat.le_of_ble_eq_true rfl) (Nat.le_of_ble_eq_true rfl)
  obtain ⟨h14, rfl⟩ := h14
  refine wx_calli (va_runS (As := [.int (xorF x u2 (tcs u2)), .int (8 * p2 + p1)]) (rest := []) ⟨hx, hb, hml, hown, hts⟩ (k_bitOf l hst g base n L (cw g L x r0) (xorF x u2 (tcs u2)) (8 * p2 + p1)) (va_cwS 2 hts gX3_cellAnew_X3_bitOf rfl rfl rfl (by decide +kernel) ⟨Nat.le_of_ble_eq_true rfl, Nat.le_of_ble_eq_true rfl⟩) (hPW.preS hP hS) rfl rfl hl.1 rfl (lv_room (Nat.le_of_ble_eq_true rfl)) dX3_cellAnew_17 ⟨Nat.le_of_ble_eq_true rfl, Nat.le_of_ble_eq_true rfl⟩) hS (fun r17 u17 H locs h17 hP hS => ?_)
  obtain rfl := h17
  refine W.widen (k := 3) (n := 12) (Nat.le_of_ble_eq_true rfl) (Nat.le_of_ble_eq_true rfl) ?_
  exact vx_ret (W.iret (v := bitF (xorF x u2 (tcs u2)) (8 * p2 + p1)) hx hb hr (fun t ht hW => ⟨⟨bitF (xorF x u2 (tcs u2)) (8 * p2 + p1), (), rfl, ⟨u2, hu2, eu2, h14, rfl⟩, PB.mk9 hP ht⟩, hS.F ht⟩) hS.2.2 dX3_cellAnew_20)

