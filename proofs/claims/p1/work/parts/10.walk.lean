/-! laid by wip/gen/p1spec.py, ctors.py -/
set_option maxHeartbeats 4000000 in
set_option maxRecDepth 100000 in
theorem kl_addBoard (l : Launch) (hst : l.stackTraces = false) (g : gE) (base n : Nat) (L : Nat → Nat) (hn : 125 ≤ n) (x : St) (r0 : Nat → va_E) (hx0 : x 0 0 0 = nI 0) (hx1 : x 1 0 0 = nI 0) (hx2 : x 2 0 0 = 2) (hx3 : x 3 0 0 = nI 0) (f : Nat → Int64) (ho : r0 123 = .inl (g.2 4, 1, .inr (.inl f))) (p0 p1 : Int32) : Met l yL_addBoard wsL_addBoard ({ frames := 12, cells := 4, slots := 24, locals := 260 }) (va_Pc [.ref (L 0), .int p0, .int p1, .ref (L 123)] (PW SS g base n L (cw g L x r0))) (va_Qi (fun (r : Int32) (u : St × (Nat → va_E)) => ((p0.toInt < 0 ∨ 3 < p0.toInt ∨ p1.toInt < 0 ∨ 200 < p1.toInt) ∧ r = 1 ∧ u.2 = r0) ∨ (¬ (p0.toInt < 0 ∨ 3 < p0.toInt ∨ p1.toInt < 0 ∨ 200 < p1.toInt) ∧ r = 0 ∧ u.2 = va_up r0 123 (oL g f (0 : Int32).toInt64))) (fun (u : St × (Nat → va_E)) t => PB g n L (cw g L u.1 u.2) t) (fun q => base ≤ q)) 4 24 (fun q => base ≤ q) := by
  refine va_MetW (cc := cL_addBoard) (maxL := 5) (ret := (some .int)) (by decide) rfl ?_
  intro p e s m args below meth c s₁ B hml hv
  obtain ⟨rfl, hPW⟩ := hv
  obtain ⟨hbs, hJ, hP, hK, hE⟩ := id hPW
  have hx := B.exec
  have hb := B.bytes
  have hr := B.returns
  have hts := atoms_spec (ws := wsL_addBoard) B.pre
  have hown : s.vm.findClass RL = some m.cls := findClass_of_methodNamed B.named
  have hlocks := B.notSynchronized
  have hTB : c.exceptionTable.toList = tableOf [(0, 10, 13, 13), (0, 10, 17, 15)] := vx_table (x := yL_addBoard) B (hts _ List.mem_cons_self)
  have hS : va_S (fun q : Nat => base ≤ q) s.heap s.heap [] := va_S.rf
  have hl := lv_entry ([.ref (L 0), .int p0, .int p1, .ref (L 123)]) (n := 5) (Nat.le_of_ble_eq_true rfl)
  rw [lg_entry_eq]
  generalize (lg_sl ([.ref (L 0), .int p0, .int p1, .ref (L 123)]) ++ List.replicate (5 - (lg_sl ([.ref (L 0), .int p0, .int p1, .ref (L 123)])).length) Slot.unset).toArray = ls at hl ⊢
  have hl : lv_has ls 5 [(0, .ref (L 0)), (1, .int p0), (2, .int p1), (3, .ref (L 123))] := hl
  refine lv_aload_n hx hb dL_addBoard_0 rfl (lv_at hl 3 rfl) ?_
  refine lv_iconst (v := 0) hx hb dL_addBoard_1 (by decide) ?_
  refine lv_aload_n hx hb dL_addBoard_2 rfl (lv_at hl 0 rfl) ?_
  refine lv_iload_n hx hb dL_addBoard_3 rfl (lv_at hl 1 rfl) ?_
  refine lv_iload_n hx hb dL_addBoard_4 rfl (lv_at hl 2 rfl) ?_
  refine wx_xcalli (vx_runV (As := [.int p0, .int p1]) (rest := [.int 0, .ref (L 123)]) ⟨hx, hb, hml, hown, hts⟩ (kp_addBoard l hst g base n L (by omega) x r0 hx0 hx1 hx2 hx3 p0 p1) (cwV 2 hts gL_addBoard_X3_addBoard rfl rfl rfl (by decide +kernel) ⟨Nat.le_of_ble_eq_true rfl, Nat.le_of_ble_eq_true rfl⟩) (hPW.preV hP hS (ci := 5) rfl (by omega) cw_d) rfl rfl hl.1 rfl (lv_room (Nat.le_of_ble_eq_true rfl)) dL_addBoard_5 ⟨Nat.le_of_ble_eq_true rfl, Nat.le_of_ble_eq_true rfl⟩) hS (fun E ce q9 H locs hpx hP hS h1 h2 h3 => ?_) (fun r5 u5 H locs h5 hP hS => ?_)
  · obtain ⟨rfl, hb9⟩ := hpx
    refine vx_catch (own := RL) (name := "java/lang/IllegalArgumentException") hown [] ⟨0, 10, 13, 13⟩ [⟨0, 10, 17, 15⟩] (hTB.trans rfl) (fun _ h => nomatch h) (by decide) (by decide) (hts (.classLink RL 13 "java/lang/IllegalArgumentException") (by decide +kernel)) (va_Nw.use rfl (hE.1 _ (ng_in (w := .castable "java/lang/IllegalArgumentException" "java/lang/IllegalArgumentException") (by decide +kernel)))) h1 h2 h3 ?_
    refine lv_astore (lv' := [(4, .ref q9), (0, .ref (L 0)), (1, .int p0), (2, .int p1), (3, .ref (L 123))]) hx hb dL_addBoard_13 hl (by decide) rfl (fun ls hl => ?_)
    refine lv_iconst (v := 1) hx hb dL_addBoard_15 (by decide) ?_
    refine W.widen (k := 4) (n := 24) (Nat.le_of_ble_eq_true rfl) (Nat.le_of_ble_eq_true rfl) ?_
    exact W.iret (v := 1) hx hb hr (fun t ht hW => ⟨⟨1, (x, r0), rfl, Or.inl ⟨hb9, rfl, rfl⟩, PB.mk9 hP ht⟩, hS.F ht⟩) hS.2.2 dL_addBoard_16
  obtain ⟨hb9, er9⟩ := h5
  refine lv_i2l hx hb dL_addBoard_8 rfl ?_
  refine wx_last (D := g.1) (cl := vwCl) (f := f) (w' := cw g L u5 (va_up r0 123 (.inl (g.2 4, 1, .inr (.inl (vp_updL f (0 : Int32).toNatClampNeg r5.toInt64)))))) hx hb hK hP hJ hS (123) 4 (by omega) ((cw_ge (by decide)).trans ho) rfl (i := 0) (vp_in_nI (n := 0) (by decide) (by decide)) dL_addBoard_9 (cw_rest (by decide)) (fun H locs hP hS => ?_)
  refine lv_goto (tgt := 21) hx hb dL_addBoard_10 (by decide) ?_
  refine lv_iconst (v := 0) hx hb dL_addBoard_21 (by decide) ?_
  refine W.widen (k := 4) (n := 24) (Nat.le_of_ble_eq_true rfl) (Nat.le_of_ble_eq_true rfl) ?_
  exact W.iret (v := 0) hx hb hr (fun t ht hW => ⟨⟨0, (u5, va_up r0 123 (.inl (g.2 4, 1, .inr (.inl (vp_updL f (0 : Int32).toNatClampNeg r5.toInt64))))), rfl, Or.inr ⟨hb9, rfl, by rw [er9]; rfl⟩, PB.mk9 hP ht⟩, hS.F ht⟩) hS.2.2 dL_addBoard_22

set_option maxHeartbeats 4000000 in
set_option maxRecDepth 100000 in
theorem kl_setSun (l : Launch) (hst : l.stackTraces = false) (g : gE) (base n : Nat) (L : Nat → Nat) (hn : 125 ≤ n) (x : St) (r0 : Nat → va_E) (hx0 : x 0 0 0 = nI 0) (hx1 : x 1 0 0 = nI 0) (hx2 : x 2 0 0 = 2) (hx3 : x 3 0 0 = nI 0) (f : Nat → Int64) (ho : r0 123 = .inl (g.2 4, 1, .inr (.inl f))) (p0 : Int32) : Met l yL_setSun wsL_setSun ({ frames := 12, cells := 4, slots := 24, locals := 260 }) (va_Pc [.ref (L 0), .int p0, .ref (L 123)] (PW SS g base n L (cw g L x r0))) (va_Qi (fun (r : Int32) (u : St × (Nat → va_E)) => ((p0.toInt < 0 ∨ 20 < p0.toInt) ∧ r = 1 ∧ u.2 = r0) ∨ (¬ (p0.toInt < 0 ∨ 20 < p0.toInt) ∧ r = 0 ∧ u.2 = va_up r0 123 (oL g f (2 : Int32).toInt64))) (fun (u : St × (Nat → va_E)) t => PB g n L (cw g L u.1 u.2) t) (fun q => base ≤ q)) 4 24 (fun q => base ≤ q) := by
  refine va_MetW (cc := cL_setSun) (maxL := 4) (ret := (some .int)) (by decide) rfl ?_
  intro p e s m args below meth c s₁ B hml hv
  obtain ⟨rfl, hPW⟩ := hv
  obtain ⟨hbs, hJ, hP, hK, hE⟩ := id hPW
  have hx := B.exec
  have hb := B.bytes
  have hr := B.returns
  have hts := atoms_spec (ws := wsL_setSun) B.pre
  have hown : s.vm.findClass RL = some m.cls := findClass_of_methodNamed B.named
  have hlocks := B.notSynchronized
  have hTB : c.exceptionTable.toList = tableOf [(0, 9, 12, 13)] := vx_table (x := yL_setSun) B (hts _ List.mem_cons_self)
  have hS : va_S (fun q : Nat => base ≤ q) s.heap s.heap [] := va_S.rf
  have hl := lv_entry ([.ref (L 0), .int p0, .ref (L 123)]) (n := 4) (Nat.le_of_ble_eq_true rfl)
  rw [lg_entry_eq]
  generalize (lg_sl ([.ref (L 0), .int p0, .ref (L 123)]) ++ List.replicate (4 - (lg_sl ([.ref (L 0), .int p0, .ref (L 123)])).length) Slot.unset).toArray = ls at hl ⊢
  have hl : lv_has ls 4 [(0, .ref (L 0)), (1, .int p0), (2, .ref (L 123))] := hl
  refine lv_aload_n hx hb dL_setSun_0 rfl (lv_at hl 2 rfl) ?_
  refine lv_iconst (v := 0) hx hb dL_setSun_1 (by decide) ?_
  refine lv_aload_n hx hb dL_setSun_2 rfl (lv_at hl 0 rfl) ?_
  refine lv_iload_n hx hb dL_setSun_3 rfl (lv_at hl 1 rfl) ?_
  refine wx_xcalli (vx_runV (As := [.int p0]) (rest := [.int 0, .ref (L 123)]) ⟨hx, hb, hml, hown, hts⟩ (kp_setSun l hst g base n L (by omega) x r0 hx0 hx1 hx2 hx3 p0) (cwV 1 hts gL_setSun_X3_setSun rfl rfl rfl (by decide +kernel) ⟨Nat.le_of_ble_eq_true rfl, Nat.le_of_ble_eq_true rfl⟩) (hPW.preV hP hS (ci := 5) rfl (by omega) cw_d) rfl rfl hl.1 rfl (lv_room (Nat.le_of_ble_eq_true rfl)) dL_setSun_4 ⟨Nat.le_of_ble_eq_true rfl, Nat.le_of_ble_eq_true rfl⟩) hS (fun E ce q9 H locs hpx hP hS h1 h2 h3 => ?_) (fun r4 u4 H locs h4 hP hS => ?_)
  · obtain ⟨rfl, hb9⟩ := hpx
    refine vx_catch (own := RL) (name := "java/lang/IllegalArgumentException") hown [] ⟨0, 9, 12, 13⟩ [] (hTB.trans rfl) (fun _ h => nomatch h) (by decide) (by decide) (hts (.classLink RL 13 "java/lang/IllegalArgumentException") (by decide +kernel)) (va_Nw.use rfl (hE.1 _ (ng_in (w := .castable "java/lang/IllegalArgumentException" "java/lang/IllegalArgumentException") (by decide +kernel)))) h1 h2 h3 ?_
    refine lv_astore_n (lv' := [(3, .ref q9), (0, .ref (L 0)), (1, .int p0), (2, .ref (L 123))]) hx hb dL_setSun_12 rfl hl (by decide) rfl (fun ls hl => ?_)
    refine lv_iconst (v := 1) hx hb dL_setSun_13 (by decide) ?_
    refine W.widen (k := 4) (n := 24) (Nat.le_of_ble_eq_true rfl) (Nat.le_of_ble_eq_true rfl) ?_
    exact W.iret (v := 1) hx hb hr (fun t ht hW => ⟨⟨1, (x, r0), rfl, Or.inl ⟨hb9, rfl, rfl⟩, PB.mk9 hP ht⟩, hS.F ht⟩) hS.2.2 dL_setSun_14
  obtain ⟨hb9, er9⟩ := h4
  refine lv_i2l hx hb dL_setSun_7 rfl ?_
  refine wx_last (D := g.1) (cl := vwCl) (f := f) (w' := cw g L u4 (va_up r0 123 (.inl (g.2 4, 1, .inr (.inl (vp_updL f (0 : Int32).toNatClampNeg r4.toInt64)))))) hx hb hK hP hJ hS (123) 4 (by omega) ((cw_ge (by decide)).trans ho) rfl (i := 0) (vp_in_nI (n := 0) (by decide) (by decide)) dL_setSun_8 (cw_rest (by decide)) (fun H locs hP hS => ?_)
  refine lv_goto (tgt := 15) hx hb dL_setSun_9 (by decide) ?_
  refine lv_iconst (v := 0) hx hb dL_setSun_15 (by decide) ?_
  refine W.widen (k := 4) (n := 24) (Nat.le_of_ble_eq_true rfl) (Nat.le_of_ble_eq_true rfl) ?_
  exact W.iret (v := 0) hx hb hr (fun t ht hW => ⟨⟨0, (u4, va_up r0 123 (.inl (g.2 4, 1, .inr (.inl (vp_updL f (0 : Int32).toNatClampNeg r4.toInt64))))), rfl, Or.inr ⟨hb9, rfl, by rw [er9]; rfl⟩, PB.mk9 hP ht⟩, hS.F ht⟩) hS.2.2 dL_setSun_16

set_option maxHeartbeats 4000000 in
set_option maxRecDepth 100000 in
theorem kl_charge (l : Launch) (hst : l.stackTraces = false) (g : gE) (base n : Nat) (L : Nat → Nat) (hn : 125 ≤ n) (x : St) (r0 : Nat → va_E) (hx0 : x 0 0 0 = nI 0) (hx1 : x 1 0 0 = nI 0) (hx2 : x 2 0 0 = 2) (hx3 : x 3 0 0 = nI 0) (f : Nat → Int64) (ho : r0 123 = .inl (g.2 4, 1, .inr (.inl f))) (p0 : Int32) : Met l yL_charge wsL_charge ({ frames := 12, cells := 4, slots := 24, locals := 260 }) (va_Pc [.ref (L 0), .int p0, .ref (L 123)] (PW SS g base n L (cw g L x r0))) (va_Qi (fun (r : Int32) (u : St × (Nat → va_E)) => r = 1 ∧ u.2 = r0) (fun (u : St × (Nat → va_E)) t => PB g n L (cw g L u.1 u.2) t) (fun q => base ≤ q)) 4 24 (fun q => base ≤ q) := by
  refine va_MetW (cc := cL_charge) (maxL := 4) (ret := (some .int)) (by decide) rfl ?_
  intro p e s m args below meth c s₁ B hml hv
  obtain ⟨rfl, hPW⟩ := hv
  obtain ⟨hbs, hJ, hP, hK, hE⟩ := id hPW
  have hx := B.exec
  have hb := B.bytes
  have hr := B.returns
  have hts := atoms_spec (ws := wsL_charge) B.pre
  have hown : s.vm.findClass RL = some m.cls := findClass_of_methodNamed B.named
  have hlocks := B.notSynchronized
  have hTB : c.exceptionTable.toList = tableOf [(0, 9, 12, 24)] := vx_table (x := yL_charge) B (hts _ List.mem_cons_self)
  have hS : va_S (fun q : Nat => base ≤ q) s.heap s.heap [] := va_S.rf
  have hl := lv_entry ([.ref (L 0), .int p0, .ref (L 123)]) (n := 4) (Nat.le_of_ble_eq_true rfl)
  rw [lg_entry_eq]
  generalize (lg_sl ([.ref (L 0), .int p0, .ref (L 123)]) ++ List.replicate (4 - (lg_sl ([.ref (L 0), .int p0, .ref (L 123)])).length) Slot.unset).toArray = ls at hl ⊢
  have hl : lv_has ls 4 [(0, .ref (L 0)), (1, .int p0), (2, .ref (L 123))] := hl
  refine lv_aload_n hx hb dL_charge_0 rfl (lv_at hl 2 rfl) ?_
  refine lv_iconst (v := 0) hx hb dL_charge_1 (by decide) ?_
  refine lv_aload_n hx hb dL_charge_2 rfl (lv_at hl 0 rfl) ?_
  refine lv_iload_n hx hb dL_charge_3 rfl (lv_at hl 1 rfl) ?_
  refine wx_xcalli (vx_runV (As := [.int p0]) (rest := [.int 0, .ref (L 123)]) ⟨hx, hb, hml, hown, hts⟩ (kp_charge l hst g base n L (by omega) x r0 hx0 hx1 hx2 hx3 p0) (cwV 1 hts gL_charge_X3_charge rfl rfl rfl (by decide +kernel) ⟨Nat.le_of_ble_eq_true rfl, Nat.le_of_ble_eq_true rfl⟩) (hPW.preV hP hS (ci := 5) rfl (by omega) cw_d) rfl rfl hl.1 rfl (lv_room (Nat.le_of_ble_eq_true rfl)) dL_charge_4 ⟨Nat.le_of_ble_eq_true rfl, Nat.le_of_ble_eq_true rfl⟩) hS (fun E ce q9 H locs hpx hP hS h1 h2 h3 => ?_) (fun r4 u4 H locs h4 hP hS => ?_)
  · obtain rfl := hpx
    refine vx_catch (own := RL) (name := "java/lang/IndexOutOfBoundsException") hown [] ⟨0, 9, 12, 24⟩ [] (hTB.trans rfl) (fun _ h => nomatch h) (by decide) (by decide) (hts (.classLink RL 24 "java/lang/IndexOutOfBoundsException") (by decide +kernel)) (va_Nw.use rfl (hE.1 _ (ng_in (w := .castable "java/lang/IndexOutOfBoundsException" "java/lang/IndexOutOfBoundsException") (by decide +kernel)))) h1 h2 h3 ?_
    refine lv_astore_n (lv' := [(3, .ref q9), (0, .ref (L 0)), (1, .int p0), (2, .ref (L 123))]) hx hb dL_charge_12 rfl hl (by decide) rfl (fun ls hl => ?_)
    refine lv_iconst (v := 1) hx hb dL_charge_13 (by decide) ?_
    refine W.widen (k := 4) (n := 24) (Nat.le_of_ble_eq_true rfl) (Nat.le_of_ble_eq_true rfl) ?_
    exact W.iret (v := 1) hx hb hr (fun t ht hW => ⟨⟨1, (x, r0), rfl, ⟨rfl, rfl⟩, PB.mk9 hP ht⟩, hS.F ht⟩) hS.2.2 dL_charge_14
  exact absurd h4 (fun h => h)

set_option maxHeartbeats 4000000 in
set_option maxRecDepth 100000 in
theorem kl_cell (l : Launch) (hst : l.stackTraces = false) (g : gE) (base n : Nat) (L : Nat → Nat) (hn : 125 ≤ n) (x : St) (r0 : Nat → va_E) (hx0 : x 0 0 0 = nI 0) (hx1 : x 1 0 0 = nI 0) (hx2 : x 2 0 0 = 2) (hx3 : x 3 0 0 = nI 0) (f : Nat → Int64) (ho : r0 123 = .inl (g.2 4, 1, .inr (.inl f))) (p0 p1 p2 : Int32) : Met l yL_cell wsL_cell ({ frames := 12, cells := 4, slots := 24, locals := 260 }) (va_Pc [.ref (L 0), .int p0, .int p1, .int p2, .ref (L 123)] (PW SS g base n L (cw g L x r0))) (va_Qi (fun (r : Int32) (u : St × (Nat → va_E)) => r = 1 ∧ u.2 = r0) (fun (u : St × (Nat → va_E)) t => PB g n L (cw g L u.1 u.2) t) (fun q => base ≤ q)) 4 24 (fun q => base ≤ q) := by
  refine va_MetW (cc := cL_cell) (maxL := 6) (ret := (some .int)) (by decide) rfl ?_
  intro p e s m args below meth c s₁ B hml hv
  obtain ⟨rfl, hPW⟩ := hv
  obtain ⟨hbs, hJ, hP, hK, hE⟩ := id hPW
  have hx := B.exec
  have hb := B.bytes
  have hr := B.returns
  have hts := atoms_spec (ws := wsL_cell) B.pre
  have hown : s.vm.findClass RL = some m.cls := findClass_of_methodNamed B.named
  have hlocks := B.notSynchronized
  have hTB : c.exceptionTable.toList = tableOf [(0, 12, 15, 24)] := vx_table (x := yL_cell) B (hts _ List.mem_cons_self)
  have hS : va_S (fun q : Nat => base ≤ q) s.heap s.heap [] := va_S.rf
  have hl := lv_entry ([.ref (L 0), .int p0, .int p1, .int p2, .ref (L 123)]) (n := 6) (Nat.le_of_ble_eq_true rfl)
  rw [lg_entry_eq]
  generalize (lg_sl ([.ref (L 0), .int p0, .int p1, .int p2, .ref (L 123)]) ++ List.replicate (6 - (lg_sl ([.ref (L 0), .int p0, .int p1, .int p2, .ref (L 123)])).length) Slot.unset).toArray = ls at hl ⊢
  have hl : lv_has ls 6 [(0, .ref (L 0)), (1, .int p0), (2, .int p1), (3, .int p2), (4, .ref (L 123))] := hl
  refine lv_aload hx hb dL_cell_0 (lv_at hl 4 rfl) ?_
  refine lv_iconst (v := 0) hx hb dL_cell_2 (by decide) ?_
  refine lv_aload_n hx hb dL_cell_3 rfl (lv_at hl 0 rfl) ?_
  refine lv_iload_n hx hb dL_cell_4 rfl (lv_at hl 1 rfl) ?_
  refine lv_iload_n hx hb dL_cell_5 rfl (lv_at hl 2 rfl) ?_
  refine lv_iload_n hx hb dL_cell_6 rfl (lv_at hl 3 rfl) ?_
  refine wx_xcalli (vx_runV (As := [.int p0, .int p1, .int p2]) (rest := [.int 0, .ref (L 123)]) ⟨hx, hb, hml, hown, hts⟩ (kp_cell l hst g base n L (by omega) x r0 hx0 hx1 hx2 hx3 p0 p1 p2) (cwV 3 hts gL_cell_X3_cell rfl rfl rfl (by decide +kernel) ⟨Nat.le_of_ble_eq_true rfl, Nat.le_of_ble_eq_true rfl⟩) (hPW.preV hP hS (ci := 5) rfl (by omega) cw_d) rfl rfl hl.1 rfl (lv_room (Nat.le_of_ble_eq_true rfl)) dL_cell_7 ⟨Nat.le_of_ble_eq_true rfl, Nat.le_of_ble_eq_true rfl⟩) hS (fun E ce q9 H locs hpx hP hS h1 h2 h3 => ?_) (fun r7 u7 H locs h7 hP hS => ?_)
  · obtain rfl := hpx
    refine vx_catch (own := RL) (name := "java/lang/IndexOutOfBoundsException") hown [] ⟨0, 12, 15, 24⟩ [] (hTB.trans rfl) (fun _ h => nomatch h) (by decide) (by decide) (hts (.classLink RL 24 "java/lang/IndexOutOfBoundsException") (by decide +kernel)) (va_Nw.use rfl (hE.1 _ (ng_in (w := .castable "java/lang/IndexOutOfBoundsException" "java/lang/IndexOutOfBoundsException") (by decide +kernel)))) h1 h2 h3 ?_
    refine lv_astore (lv' := [(5, .ref q9), (0, .ref (L 0)), (1, .int p0), (2, .int p1), (3, .int p2), (4, .ref (L 123))]) hx hb dL_cell_15 hl (by decide) rfl (fun ls hl => ?_)
    refine lv_iconst (v := 1) hx hb dL_cell_17 (by decide) ?_
    refine W.widen (k := 4) (n := 24) (Nat.le_of_ble_eq_true rfl) (Nat.le_of_ble_eq_true rfl) ?_
    exact W.iret (v := 1) hx hb hr (fun t ht hW => ⟨⟨1, (x, r0), rfl, ⟨rfl, rfl⟩, PB.mk9 hP ht⟩, hS.F ht⟩) hS.2.2 dL_cell_18
  exact absurd h7 (fun h => h)

set_option maxHeartbeats 4000000 in
set_option maxRecDepth 100000 in
theorem kl_wear (l : Launch) (hst : l.stackTraces = false) (g : gE) (base n : Nat) (L : Nat → Nat) (hn : 125 ≤ n) (x : St) (r0 : Nat → va_E) (hx0 : x 0 0 0 = nI 0) (hx1 : x 1 0 0 = nI 0) (hx2 : x 2 0 0 = 2) (hx3 : x 3 0 0 = nI 0) (f : Nat → Int64) (ho : r0 123 = .inl (g.2 4, 1, .inr (.inl f))) (p0 p1 p2 : Int32) : Met l yL_wear wsL_wear ({ frames := 12, cells := 4, slots := 24, locals := 260 }) (va_Pc [.ref (L 0), .int p0, .int p1, .int p2, .ref (L 123)] (PW SS g base n L (cw g L x r0))) (va_Qi (fun (r : Int32) (u : St × (Nat → va_E)) => r = 1 ∧ u.2 = r0) (fun (u : St × (Nat → va_E)) t => PB g n L (cw g L u.1 u.2) t) (fun q => base ≤ q)) 4 24 (fun q => base ≤ q) := by
  refine va_MetW (cc := cL_wear) (maxL := 6) (ret := (some .int)) (by decide) rfl ?_
  intro p e s m args below meth c s₁ B hml hv
  obtain ⟨rfl, hPW⟩ := hv
  obtain ⟨hbs, hJ, hP, hK, hE⟩ := id hPW
  have hx := B.exec
  have hb := B.bytes
  have hr := B.returns
  have hts := atoms_spec (ws := wsL_wear) B.pre
  have hown : s.vm.findClass RL = some m.cls := findClass_of_methodNamed B.named
  have hlocks := B.notSynchronized
  have hTB : c.exceptionTable.toList = tableOf [(0, 12, 15, 24)] := vx_table (x := yL_wear) B (hts _ List.mem_cons_self)
  have hS : va_S (fun q : Nat => base ≤ q) s.heap s.heap [] := va_S.rf
  have hl := lv_entry ([.ref (L 0), .int p0, .int p1, .int p2, .ref (L 123)]) (n := 6) (Nat.le_of_ble_eq_true rfl)
  rw [lg_entry_eq]
  generalize (lg_sl ([.ref (L 0), .int p0, .int p1, .int p2, .ref (L 123)]) ++ List.replicate (6 - (lg_sl ([.ref (L 0), .int p0, .int p1, .int p2, .ref (L 123)])).length) Slot.unset).toArray = ls at hl ⊢
  have hl : lv_has ls 6 [(0, .ref (L 0)), (1, .int p0), (2, .int p1), (3, .int p2), (4, .ref (L 123))] := hl
  refine lv_aload hx hb dL_wear_0 (lv_at hl 4 rfl) ?_
  refine lv_iconst (v := 0) hx hb dL_wear_2 (by decide) ?_
  refine lv_aload_n hx hb dL_wear_3 rfl (lv_at hl 0 rfl) ?_
  refine lv_iload_n hx hb dL_wear_4 rfl (lv_at hl 1 rfl) ?_
  refine lv_iload_n hx hb dL_wear_5 rfl (lv_at hl 2 rfl) ?_
  refine lv_iload_n hx hb dL_wear_6 rfl (lv_at hl 3 rfl) ?_
  refine wx_xcalli (vx_runV (As := [.int p0, .int p1, .int p2]) (rest := [.int 0, .ref (L 123)]) ⟨hx, hb, hml, hown, hts⟩ (kp_wear l hst g base n L (by omega) x r0 hx0 hx1 hx2 hx3 p0 p1 p2) (cwV 3 hts gL_wear_X3_wear rfl rfl rfl (by decide +kernel) ⟨Nat.le_of_ble_eq_true rfl, Nat.le_of_ble_eq_true rfl⟩) (hPW.preV hP hS (ci := 5) rfl (by omega) cw_d) rfl rfl hl.1 rfl (lv_room (Nat.le_of_ble_eq_true rfl)) dL_wear_7 ⟨Nat.le_of_ble_eq_true rfl, Nat.le_of_ble_eq_true rfl⟩) hS (fun E ce q9 H locs hpx hP hS h1 h2 h3 => ?_) (fun r7 u7 H locs h7 hP hS => ?_)
  · obtain rfl := hpx
    refine vx_catch (own := RL) (name := "java/lang/IndexOutOfBoundsException") hown [] ⟨0, 12, 15, 24⟩ [] (hTB.trans rfl) (fun _ h => nomatch h) (by decide) (by decide) (hts (.classLink RL 24 "java/lang/IndexOutOfBoundsException") (by decide +kernel)) (va_Nw.use rfl (hE.1 _ (ng_in (w := .castable "java/lang/IndexOutOfBoundsException" "java/lang/IndexOutOfBoundsException") (by decide +kernel)))) h1 h2 h3 ?_
    refine lv_astore (lv' := [(5, .ref q9), (0, .ref (L 0)), (1, .int p0), (2, .int p1), (3, .int p2), (4, .ref (L 123))]) hx hb dL_wear_15 hl (by decide) rfl (fun ls hl => ?_)
    refine lv_iconst (v := 1) hx hb dL_wear_17 (by decide) ?_
    refine W.widen (k := 4) (n := 24) (Nat.le_of_ble_eq_true rfl) (Nat.le_of_ble_eq_true rfl) ?_
    exact W.iret (v := 1) hx hb hr (fun t ht hW => ⟨⟨1, (x, r0), rfl, ⟨rfl, rfl⟩, PB.mk9 hP ht⟩, hS.F ht⟩) hS.2.2 dL_wear_18
  exact absurd h7 (fun h => h)

set_option maxHeartbeats 4000000 in
set_option maxRecDepth 100000 in
theorem kl_shows (l : Launch) (hst : l.stackTraces = false) (g : gE) (base n : Nat) (L : Nat → Nat) (hn : 125 ≤ n) (x : St) (r0 : Nat → va_E) (hx0 : x 0 0 0 = nI 0) (hx1 : x 1 0 0 = nI 0) (hx2 : x 2 0 0 = 2) (hx3 : x 3 0 0 = nI 0) (f : Nat → Int64) (ho : r0 123 = .inl (g.2 4, 1, .inr (.inl f))) (p0 : Int32) : Met l yL_shows wsL_shows ({ frames := 12, cells := 4, slots := 24, locals := 260 }) (va_Pc [.ref (L 0), .int p0, .ref (L 123)] (PW SS g base n L (cw g L x r0))) (va_Qi (fun (r : Int32) (u : St × (Nat → va_E)) => r = 1 ∧ u.2 = r0) (fun (u : St × (Nat → va_E)) t => PB g n L (cw g L u.1 u.2) t) (fun q => base ≤ q)) 4 24 (fun q => base ≤ q) := by
  refine va_MetW (cc := cL_shows) (maxL := 4) (ret := (some .int)) (by decide) rfl ?_
  intro p e s m args below meth c s₁ B hml hv
  obtain ⟨rfl, hPW⟩ := hv
  obtain ⟨hbs, hJ, hP, hK, hE⟩ := id hPW
  have hx := B.exec
  have hb := B.bytes
  have hr := B.returns
  have hts := atoms_spec (ws := wsL_shows) B.pre
  have hown : s.vm.findClass RL = some m.cls := findClass_of_methodNamed B.named
  have hlocks := B.notSynchronized
  have hTB : c.exceptionTable.toList = tableOf [(0, 9, 12, 24)] := vx_table (x := yL_shows) B (hts _ List.mem_cons_self)
  have hS : va_S (fun q : Nat => base ≤ q) s.heap s.heap [] := va_S.rf
  have hl := lv_entry ([.ref (L 0), .int p0, .ref (L 123)]) (n := 4) (Nat.le_of_ble_eq_true rfl)
  rw [lg_entry_eq]
  generalize (lg_sl ([.ref (L 0), .int p0, .ref (L 123)]) ++ List.replicate (4 - (lg_sl ([.ref (L 0), .int p0, .ref (L 123)])).length) Slot.unset).toArray = ls at hl ⊢
  have hl : lv_has ls 4 [(0, .ref (L 0)), (1, .int p0), (2, .ref (L 123))] := hl
  refine lv_aload_n hx hb dL_shows_0 rfl (lv_at hl 2 rfl) ?_
  refine lv_iconst (v := 0) hx hb dL_shows_1 (by decide) ?_
  refine lv_aload_n hx hb dL_shows_2 rfl (lv_at hl 0 rfl) ?_
  refine lv_iload_n hx hb dL_shows_3 rfl (lv_at hl 1 rfl) ?_
  refine wx_xcalli (vx_runV (As := [.int p0]) (rest := [.int 0, .ref (L 123)]) ⟨hx, hb, hml, hown, hts⟩ (kp_shows l hst g base n L (by omega) x r0 hx0 hx1 hx2 hx3 p0) (cwV 1 hts gL_shows_X3_shows rfl rfl rfl (by decide +kernel) ⟨Nat.le_of_ble_eq_true rfl, Nat.le_of_ble_eq_true rfl⟩) (hPW.preV hP hS (ci := 5) rfl (by omega) cw_d) rfl rfl hl.1 rfl (lv_room (Nat.le_of_ble_eq_true rfl)) dL_shows_4 ⟨Nat.le_of_ble_eq_true rfl, Nat.le_of_ble_eq_true rfl⟩) hS (fun E ce q9 H locs hpx hP hS h1 h2 h3 => ?_) (fun r4 u4 H locs h4 hP hS => ?_)
  · obtain rfl := hpx
    refine vx_catch (own := RL) (name := "java/lang/IndexOutOfBoundsException") hown [] ⟨0, 9, 12, 24⟩ [] (hTB.trans rfl) (fun _ h => nomatch h) (by decide) (by decide) (hts (.classLink RL 24 "java/lang/IndexOutOfBoundsException") (by decide +kernel)) (va_Nw.use rfl (hE.1 _ (ng_in (w := .castable "java/lang/IndexOutOfBoundsException" "java/lang/IndexOutOfBoundsException") (by decide +kernel)))) h1 h2 h3 ?_
    refine lv_astore_n (lv' := [(3, .ref q9), (0, .ref (L 0)), (1, .int p0), (2, .ref (L 123))]) hx hb dL_shows_12 rfl hl (by decide) rfl (fun ls hl => ?_)
    refine lv_iconst (v := 1) hx hb dL_shows_13 (by decide) ?_
    refine W.widen (k := 4) (n := 24) (Nat.le_of_ble_eq_true rfl) (Nat.le_of_ble_eq_true rfl) ?_
    exact W.iret (v := 1) hx hb hr (fun t ht hW => ⟨⟨1, (x, r0), rfl, ⟨rfl, rfl⟩, PB.mk9 hP ht⟩, hS.F ht⟩) hS.2.2 dL_shows_14
  exact absurd h4 (fun h => h)

set_option maxHeartbeats 4000000 in
set_option maxRecDepth 100000 in
theorem kl_shift (l : Launch) (hst : l.stackTraces = false) (g : gE) (base n : Nat) (L : Nat → Nat) (hn : 125 ≤ n) (x : St) (r0 : Nat → va_E) (hx0 : x 0 0 0 = nI 0) (hx1 : x 1 0 0 = nI 0) (hx2 : x 2 0 0 = 2) (hx3 : x 3 0 0 = nI 0) (f : Nat → Int64) (ho : r0 123 = .inl (g.2 4, 1, .inr (.inl f))) (p0 : Int32) : Met l yL_shift wsL_shift ({ frames := 12, cells := 4, slots := 24, locals := 260 }) (va_Pc [.ref (L 0), .int p0, .ref (L 123)] (PW SS g base n L (cw g L x r0))) (va_Qi (fun (r : Int32) (u : St × (Nat → va_E)) => r = 1 ∧ u.2 = r0) (fun (u : St × (Nat → va_E)) t => PB g n L (cw g L u.1 u.2) t) (fun q => base ≤ q)) 4 24 (fun q => base ≤ q) := by
  refine va_MetW (cc := cL_shift) (maxL := 4) (ret := (some .int)) (by decide) rfl ?_
  intro p e s m args below meth c s₁ B hml hv
  obtain ⟨rfl, hPW⟩ := hv
  obtain ⟨hbs, hJ, hP, hK, hE⟩ := id hPW
  have hx := B.exec
  have hb := B.bytes
  have hr := B.returns
  have hts := atoms_spec (ws := wsL_shift) B.pre
  have hown : s.vm.findClass RL = some m.cls := findClass_of_methodNamed B.named
  have hlocks := B.notSynchronized
  have hTB : c.exceptionTable.toList = tableOf [(0, 9, 12, 24)] := vx_table (x := yL_shift) B (hts _ List.mem_cons_self)
  have hS : va_S (fun q : Nat => base ≤ q) s.heap s.heap [] := va_S.rf
  have hl := lv_entry ([.ref (L 0), .int p0, .ref (L 123)]) (n := 4) (Nat.le_of_ble_eq_true rfl)
  rw [lg_entry_eq]
  generalize (lg_sl ([.ref (L 0), .int p0, .ref (L 123)]) ++ List.replicate (4 - (lg_sl ([.ref (L 0), .int p0, .ref (L 123)])).length) Slot.unset).toArray = ls at hl ⊢
  have hl : lv_has ls 4 [(0, .ref (L 0)), (1, .int p0), (2, .ref (L 123))] := hl
  refine lv_aload_n hx hb dL_shift_0 rfl (lv_at hl 2 rfl) ?_
  refine lv_iconst (v := 0) hx hb dL_shift_1 (by decide) ?_
  refine lv_aload_n hx hb dL_shift_2 rfl (lv_at hl 0 rfl) ?_
  refine lv_iload_n hx hb dL_shift_3 rfl (lv_at hl 1 rfl) ?_
  refine wx_xcalli (vx_runV (As := [.int p0]) (rest := [.int 0, .ref (L 123)]) ⟨hx, hb, hml, hown, hts⟩ (kp_shift l hst g base n L (by omega) x r0 hx0 hx1 hx2 hx3 p0) (cwV 1 hts gL_shift_X3_shift rfl rfl rfl (by decide +kernel) ⟨Nat.le_of_ble_eq_true rfl, Nat.le_of_ble_eq_true rfl⟩) (hPW.preV hP hS (ci := 5) rfl (by omega) cw_d) rfl rfl hl.1 rfl (lv_room (Nat.le_of_ble_eq_true rfl)) dL_shift_4 ⟨Nat.le_of_ble_eq_true rfl, Nat.le_of_ble_eq_true rfl⟩) hS (fun E ce q9 H locs hpx hP hS h1 h2 h3 => ?_) (fun r4 u4 H locs h4 hP hS => ?_)
  · obtain rfl := hpx
    refine vx_catch (own := RL) (name := "java/lang/IndexOutOfBoundsException") hown [] ⟨0, 9, 12, 24⟩ [] (hTB.trans rfl) (fun _ h => nomatch h) (by decide) (by decide) (hts (.classLink RL 24 "java/lang/IndexOutOfBoundsException") (by decide +kernel)) (va_Nw.use rfl (hE.1 _ (ng_in (w := .castable "java/lang/IndexOutOfBoundsException" "java/lang/IndexOutOfBoundsException") (by decide +kernel)))) h1 h2 h3 ?_
    refine lv_astore_n (lv' := [(3, .ref q9), (0, .ref (L 0)), (1, .int p0), (2, .ref (L 123))]) hx hb dL_shift_12 rfl hl (by decide) rfl (fun ls hl => ?_)
    refine lv_iconst (v := 1) hx hb dL_shift_13 (by decide) ?_
    refine W.widen (k := 4) (n := 24) (Nat.le_of_ble_eq_true rfl) (Nat.le_of_ble_eq_true rfl) ?_
    exact W.iret (v := 1) hx hb hr (fun t ht hW => ⟨⟨1, (x, r0), rfl, ⟨rfl, rfl⟩, PB.mk9 hP ht⟩, hS.F ht⟩) hS.2.2 dL_shift_14
  exact absurd h4 (fun h => h)

set_option maxHeartbeats 4000000 in
set_option maxRecDepth 100000 in
theorem kl_sleeps (l : Launch) (hst : l.stackTraces = false) (g : gE) (base n : Nat) (L : Nat → Nat) (hn : 125 ≤ n) (x : St) (r0 : Nat → va_E) (hx0 : x 0 0 0 = nI 0) (hx1 : x 1 0 0 = nI 0) (hx2 : x 2 0 0 = 2) (hx3 : x 3 0 0 = nI 0) (f : Nat → Int64) (ho : r0 123 = .inl (g.2 4, 1, .inr (.inl f))) (p0 : Int32) : Met l yL_sleeps wsL_sleeps ({ frames := 12, cells := 4, slots := 24, locals := 260 }) (va_Pc [.ref (L 0), .int p0, .ref (L 123)] (PW SS g base n L (cw g L x r0))) (va_Qi (fun (r : Int32) (u : St × (Nat → va_E)) => r = 1 ∧ u.2 = r0) (fun (u : St × (Nat → va_E)) t => PB g n L (cw g L u.1 u.2) t) (fun q => base ≤ q)) 4 24 (fun q => base ≤ q) := by
  refine va_MetW (cc := cL_sleeps) (maxL := 4) (ret := (some .int)) (by decide) rfl ?_
  intro p e s m args below meth c s₁ B hml hv
  obtain ⟨rfl, hPW⟩ := hv
  obtain ⟨hbs, hJ, hP, hK, hE⟩ := id hPW
  have hx := B.exec
  have hb := B.bytes
  have hr := B.returns
  have hts := atoms_spec (ws := wsL_sleeps) B.pre
  have hown : s.vm.findClass RL = some m.cls := findClass_of_methodNamed B.named
  have hlocks := B.notSynchronized
  have hTB : c.exceptionTable.toList = tableOf [(0, 16, 19, 24)] := vx_table (x := yL_sleeps) B (hts _ List.mem_cons_self)
  have hS : va_S (fun q : Nat => base ≤ q) s.heap s.heap [] := va_S.rf
  have hl := lv_entry ([.ref (L 0), .int p0, .ref (L 123)]) (n := 4) (Nat.le_of_ble_eq_true rfl)
  rw [lg_entry_eq]
  generalize (lg_sl ([.ref (L 0), .int p0, .ref (L 123)]) ++ List.replicate (4 - (lg_sl ([.ref (L 0), .int p0, .ref (L 123)])).length) Slot.unset).toArray = ls at hl ⊢
  have hl : lv_has ls 4 [(0, .ref (L 0)), (1, .int p0), (2, .ref (L 123))] := hl
  refine lv_aload_n hx hb dL_sleeps_0 rfl (lv_at hl 2 rfl) ?_
  refine lv_iconst (v := 0) hx hb dL_sleeps_1 (by decide) ?_
  refine lv_aload_n hx hb dL_sleeps_2 rfl (lv_at hl 0 rfl) ?_
  refine lv_iload_n hx hb dL_sleeps_3 rfl (lv_at hl 1 rfl) ?_
  refine wx_xcalli (vx_runV (As := [.int p0]) (rest := [.int 0, .ref (L 123)]) ⟨hx, hb, hml, hown, hts⟩ (kp_sleeps l hst g base n L (by omega) x r0 hx0 hx1 hx2 hx3 p0) (cwV 1 hts gL_sleeps_X3_sleeps rfl rfl rfl (by decide +kernel) ⟨Nat.le_of_ble_eq_true rfl, Nat.le_of_ble_eq_true rfl⟩) (hPW.preV hP hS (ci := 5) rfl (by omega) cw_d) rfl rfl hl.1 rfl (lv_room (Nat.le_of_ble_eq_true rfl)) dL_sleeps_4 ⟨Nat.le_of_ble_eq_true rfl, Nat.le_of_ble_eq_true rfl⟩) hS (fun E ce q9 H locs hpx hP hS h1 h2 h3 => ?_) (fun r4 u4 H locs h4 hP hS => ?_)
  · obtain rfl := hpx
    refine vx_catch (own := RL) (name := "java/lang/IndexOutOfBoundsException") hown [] ⟨0, 16, 19, 24⟩ [] (hTB.trans rfl) (fun _ h => nomatch h) (by decide) (by decide) (hts (.classLink RL 24 "java/lang/IndexOutOfBoundsException") (by decide +kernel)) (va_Nw.use rfl (hE.1 _ (ng_in (w := .castable "java/lang/IndexOutOfBoundsException" "java/lang/IndexOutOfBoundsException") (by decide +kernel)))) h1 h2 h3 ?_
    refine lv_astore_n (lv' := [(3, .ref q9), (0, .ref (L 0)), (1, .int p0), (2, .ref (L 123))]) hx hb dL_sleeps_19 rfl hl (by decide) rfl (fun ls hl => ?_)
    refine lv_iconst (v := 1) hx hb dL_sleeps_20 (by decide) ?_
    refine W.widen (k := 4) (n := 24) (Nat.le_of_ble_eq_true rfl) (Nat.le_of_ble_eq_true rfl) ?_
    exact W.iret (v := 1) hx hb hr (fun t ht hW => ⟨⟨1, (x, r0), rfl, ⟨rfl, rfl⟩, PB.mk9 hP ht⟩, hS.F ht⟩) hS.2.2 dL_sleeps_21
  exact absurd h4 (fun h => h)

set_option maxHeartbeats 4000000 in
set_option maxRecDepth 100000 in
theorem kl_post (l : Launch) (hst : l.stackTraces = false) (g : gE) (base n : Nat) (L : Nat → Nat) (hn : 125 ≤ n) (x : St) (r0 : Nat → va_E) (hx0 : x 0 0 0 = nI 0) (hx1 : x 1 0 0 = nI 0) (hx2 : x 2 0 0 = 2) (hx3 : x 3 0 0 = nI 0) (f : Nat → Int64) (ho : r0 123 = .inl (g.2 4, 1, .inr (.inl f))) (p0 p1 p2 p3 : Int32) : Met l yL_post wsL_post ({ frames := 12, cells := 4, slots := 24, locals := 260 }) (va_Pc [.ref (L 0), .int p0, .int p1, .int p2, .int p3, .ref (L 123)] (PW SS g base n L (cw g L x r0))) (va_Qi (fun (r : Int32) (u : St × (Nat → va_E)) => ((p0.toInt < 0 ∨ 9 < p0.toInt ∨ p1.toInt = 0 ∨ p2.toInt < 0 ∨ p3.toInt ≤ p2.toInt ∨ 2000 < p3.toInt) ∧ r = 1 ∧ u.2 = r0) ∨ (¬ (p0.toInt < 0 ∨ 9 < p0.toInt ∨ p1.toInt = 0 ∨ p2.toInt < 0 ∨ p3.toInt ≤ p2.toInt ∨ 2000 < p3.toInt) ∧ r = 0 ∧ u.2 = va_up r0 123 (oL g f (0 : Int32).toInt64))) (fun (u : St × (Nat → va_E)) t => PB g n L (cw g L u.1 u.2) t) (fun q => base ≤ q)) 4 24 (fun q => base ≤ q) := by
  refine va_MetW (cc := cL_post) (maxL := 7) (ret := (some .int)) (by decide) rfl ?_
  intro p e s m args below meth c s₁ B hml hv
  obtain ⟨rfl, hPW⟩ := hv
  obtain ⟨hbs, hJ, hP, hK, hE⟩ := id hPW
  have hx := B.exec
  have hb := B.bytes
  have hr := B.returns
  have hts := atoms_spec (ws := wsL_post) B.pre
  have hown : s.vm.findClass RL = some m.cls := findClass_of_methodNamed B.named
  have hlocks := B.notSynchronized
  have hTB : c.exceptionTable.toList = tableOf [(0, 14, 17, 13), (0, 14, 21, 15)] := vx_table (x := yL_post) B (hts _ List.mem_cons_self)
  have hS : va_S (fun q : Nat => base ≤ q) s.heap s.heap [] := va_S.rf
  have hl := lv_entry ([.ref (L 0), .int p0, .int p1, .int p2, .int p3, .ref (L 123)]) (n := 7) (Nat.le_of_ble_eq_true rfl)
  rw [lg_entry_eq]
  generalize (lg_sl ([.ref (L 0), .int p0, .int p1, .int p2, .int p3, .ref (L 123)]) ++ List.replicate (7 - (lg_sl ([.ref (L 0), .int p0, .int p1, .int p2, .int p3, .ref (L 123)])).length) Slot.unset).toArray = ls at hl ⊢
  have hl : lv_has ls 7 [(0, .ref (L 0)), (1, .int p0), (2, .int p1), (3, .int p2), (4, .int p3), (5, .ref (L 123))] := hl
  refine lv_aload hx hb dL_post_0 (lv_at hl 5 rfl) ?_
  refine lv_iconst (v := 0) hx hb dL_post_2 (by decide) ?_
  refine lv_aload_n hx hb dL_post_3 rfl (lv_at hl 0 rfl) ?_
  refine lv_iload_n hx hb dL_post_4 rfl (lv_at hl 1 rfl) ?_
  refine lv_iload_n hx hb dL_post_5 rfl (lv_at hl 2 rfl) ?_
  refine lv_iload_n hx hb dL_post_6 rfl (lv_at hl 3 rfl) ?_
  refine lv_iload hx hb dL_post_7 (lv_at hl 4 rfl) ?_
  refine wx_xcalli (vx_runV (As := [.int p0, .int p1, .int p2, .int p3]) (rest := [.int 0, .ref (L 123)]) ⟨hx, hb, hml, hown, hts⟩ (kp_post l hst g base n L (by omega) x r0 hx0 hx1 hx2 hx3 p0 p1 p2 p3) (cwV 4 hts gL_post_X3_post rfl rfl rfl (by decide +kernel) ⟨Nat.le_of_ble_eq_true rfl, Nat.le_of_ble_eq_true rfl⟩) (hPW.preV hP hS (ci := 5) rfl (by omega) cw_d) rfl rfl hl.1 rfl (lv_room (Nat.le_of_ble_eq_true rfl)) dL_post_9 ⟨Nat.le_of_ble_eq_true rfl, Nat.le_of_ble_eq_true rfl⟩) hS (fun E ce q9 H locs hpx hP hS h1 h2 h3 => ?_) (fun r9 u9 H locs h9 hP hS => ?_)
  · obtain ⟨rfl, hb9⟩ := hpx
    refine vx_catch (own := RL) (name := "java/lang/IllegalArgumentException") hown [] ⟨0, 14, 17, 13⟩ [⟨0, 14, 21, 15⟩] (hTB.trans rfl) (fun _ h => nomatch h) (by decide) (by decide) (hts (.classLink RL 13 "java/lang/IllegalArgumentException") (by decide +kernel)) (va_Nw.use rfl (hE.1 _ (ng_in (w := .castable "java/lang/IllegalArgumentException" "java/lang/IllegalArgumentException") (by decide +kernel)))) h1 h2 h3 ?_
    refine lv_astore (lv' := [(6, .ref q9), (0, .ref (L 0)), (1, .int p0), (2, .int p1), (3, .int p2), (4, .int p3), (5, .ref (L 123))]) hx hb dL_post_17 hl (by decide) rfl (fun ls hl => ?_)
    refine lv_iconst (v := 1) hx hb dL_post_19 (by decide) ?_
    refine W.widen (k := 4) (n := 24) (Nat.le_of_ble_eq_true rfl) (Nat.le_of_ble_eq_true rfl) ?_
    exact W.iret (v := 1) hx hb hr (fun t ht hW => ⟨⟨1, (x, r0), rfl, Or.inl ⟨hb9, rfl, rfl⟩, PB.mk9 hP ht⟩, hS.F ht⟩) hS.2.2 dL_post_20
  obtain ⟨hb9, er9⟩ := h9
  refine lv_i2l hx hb dL_post_12 rfl ?_
  refine wx_last (D := g.1) (cl := vwCl) (f := f) (w' := cw g L u9 (va_up r0 123 (.inl (g.2 4, 1, .inr (.inl (vp_updL f (0 : Int32).toNatClampNeg r9.toInt64)))))) hx hb hK hP hJ hS (123) 4 (by omega) ((cw_ge (by decide)).trans ho) rfl (i := 0) (vp_in_nI (n := 0) (by decide) (by decide)) dL_post_13 (cw_rest (by decide)) (fun H locs hP hS => ?_)
  refine lv_goto (tgt := 25) hx hb dL_post_14 (by decide) ?_
  refine lv_iconst (v := 0) hx hb dL_post_25 (by decide) ?_
  refine W.widen (k := 4) (n := 24) (Nat.le_of_ble_eq_true rfl) (Nat.le_of_ble_eq_true rfl) ?_
  exact W.iret (v := 0) hx hb hr (fun t ht hW => ⟨⟨0, (u9, va_up r0 123 (.inl (g.2 4, 1, .inr (.inl (vp_updL f (0 : Int32).toNatClampNeg r9.toInt64))))), rfl, Or.inr ⟨hb9, rfl, by rw [er9]; rfl⟩, PB.mk9 hP ht⟩, hS.F ht⟩) hS.2.2 dL_post_26

set_option maxHeartbeats 4000000 in
set_option maxRecDepth 100000 in
theorem kl_queue (l : Launch) (hst : l.stackTraces = false) (g : gE) (base n : Nat) (L : Nat → Nat) (hn : 125 ≤ n) (x : St) (r0 : Nat → va_E) (hx0 : x 0 0 0 = nI 0) (hx1 : x 1 0 0 = nI 0) (hx2 : x 2 0 0 = 2) (hx3 : x 3 0 0 = nI 0) (f : Nat → Int64) (ho : r0 123 = .inl (g.2 4, 1, .inr (.inl f))) (p0 p1 : Int32) : Met l yL_queue wsL_queue ({ frames := 12, cells := 4, slots := 24, locals := 260 }) (va_Pc [.ref (L 0), .int p0, .int p1, .ref (L 123)] (PW SS g base n L (cw g L x r0))) (va_Qi (fun (r : Int32) (u : St × (Nat → va_E)) => r = 1 ∧ u.2 = r0) (fun (u : St × (Nat → va_E)) t => PB g n L (cw g L u.1 u.2) t) (fun q => base ≤ q)) 4 24 (fun q => base ≤ q) := by
  refine va_MetW (cc := cL_queue) (maxL := 5) (ret := (some .int)) (by decide) rfl ?_
  intro p e s m args below meth c s₁ B hml hv
  obtain ⟨rfl, hPW⟩ := hv
  obtain ⟨hbs, hJ, hP, hK, hE⟩ := id hPW
  have hx := B.exec
  have hb := B.bytes
  have hr := B.returns
  have hts := atoms_spec (ws := wsL_queue) B.pre
  have hown : s.vm.findClass RL = some m.cls := findClass_of_methodNamed B.named
  have hlocks := B.notSynchronized
  have hTB : c.exceptionTable.toList = tableOf [(0, 17, 20, 24), (0, 17, 24, 13), (0, 17, 28, 51)] := vx_table (x := yL_queue) B (hts _ List.mem_cons_self)
  have hS : va_S (fun q : Nat => base ≤ q) s.heap s.heap [] := va_S.rf
  have hl := lv_entry ([.ref (L 0), .int p0, .int p1, .ref (L 123)]) (n := 5) (Nat.le_of_ble_eq_true rfl)
  rw [lg_entry_eq]
  generalize (lg_sl ([.ref (L 0), .int p0, .int p1, .ref (L 123)]) ++ List.replicate (5 - (lg_sl ([.ref (L 0), .int p0, .int p1, .ref (L 123)])).length) Slot.unset).toArray = ls at hl ⊢
  have hl : lv_has ls 5 [(0, .ref (L 0)), (1, .int p0), (2, .int p1), (3, .ref (L 123))] := hl
  refine lv_aload_n hx hb dL_queue_0 rfl (lv_at hl 3 rfl) ?_
  refine lv_iconst (v := 0) hx hb dL_queue_1 (by decide) ?_
  refine lv_aload_n hx hb dL_queue_2 rfl (lv_at hl 0 rfl) ?_
  refine lv_iload_n hx hb dL_queue_3 rfl (lv_at hl 1 rfl) ?_
  refine lv_iload_n hx hb dL_queue_4 rfl (lv_at hl 2 rfl) ?_
  refine wx_xcalli (vx_runV (As := [.int p0, .int p1]) (rest := [.int 0, .ref (L 123)]) ⟨hx, hb, hml, hown, hts⟩ (kp_queue l hst g base n L (by omega) x r0 hx0 hx1 hx2 hx3 p0 p1) (cwV 2 hts gL_queue_X3_queue rfl rfl rfl (by decide +kernel) ⟨Nat.le_of_ble_eq_true rfl, Nat.le_of_ble_eq_true rfl⟩) (hPW.preV hP hS (ci := 5) rfl (by omega) cw_d) rfl rfl hl.1 rfl (lv_room (Nat.le_of_ble_eq_true rfl)) dL_queue_5 ⟨Nat.le_of_ble_eq_true rfl, Nat.le_of_ble_eq_true rfl⟩) hS (fun E ce q9 H locs hpx hP hS h1 h2 h3 => ?_) (fun r5 u5 H locs h5 hP hS => ?_)
  · obtain rfl := hpx
    refine vx_catch (own := RL) (name := "java/lang/IndexOutOfBoundsException") hown [] ⟨0, 17, 20, 24⟩ [⟨0, 17, 24, 13⟩, ⟨0, 17, 28, 51⟩] (hTB.trans rfl) (fun _ h => nomatch h) (by decide) (by decide) (hts (.classLink RL 24 "java/lang/IndexOutOfBoundsException") (by decide +kernel)) (va_Nw.use rfl (hE.1 _ (ng_in (w := .castable "java/lang/IndexOutOfBoundsException" "java/lang/IndexOutOfBoundsException") (by decide +kernel)))) h1 h2 h3 ?_
    refine lv_astore (lv' := [(4, .ref q9), (0, .ref (L 0)), (1, .int p0), (2, .int p1), (3, .ref (L 123))]) hx hb dL_queue_20 hl (by decide) rfl (fun ls hl => ?_)
    refine lv_iconst (v := 1) hx hb dL_queue_22 (by decide) ?_
    refine W.widen (k := 4) (n := 24) (Nat.le_of_ble_eq_true rfl) (Nat.le_of_ble_eq_true rfl) ?_
    exact W.iret (v := 1) hx hb hr (fun t ht hW => ⟨⟨1, (x, r0), rfl, ⟨rfl, rfl⟩, PB.mk9 hP ht⟩, hS.F ht⟩) hS.2.2 dL_queue_23
  exact absurd h5 (fun h => h)

set_option maxHeartbeats 4000000 in
set_option maxRecDepth 100000 in
theorem kl_takeBack (l : Launch) (hst : l.stackTraces = false) (g : gE) (base n : Nat) (L : Nat → Nat) (hn : 125 ≤ n) (x : St) (r0 : Nat → va_E) (hx0 : x 0 0 0 = nI 0) (hx1 : x 1 0 0 = nI 0) (hx2 : x 2 0 0 = 2) (hx3 : x 3 0 0 = nI 0) (f : Nat → Int64) (ho : r0 123 = .inl (g.2 4, 1, .inr (.inl f))) (p0 p1 : Int32) : Met l yL_takeBack wsL_takeBack ({ frames := 12, cells := 4, slots := 24, locals := 260 }) (va_Pc [.ref (L 0), .int p0, .int p1, .ref (L 123)] (PW SS g base n L (cw g L x r0))) (va_Qi (fun (r : Int32) (u : St × (Nat → va_E)) => r = 1 ∧ u.2 = r0) (fun (u : St × (Nat → va_E)) t => PB g n L (cw g L u.1 u.2) t) (fun q => base ≤ q)) 4 24 (fun q => base ≤ q) := by
  refine va_MetW (cc := cL_takeBack) (maxL := 5) (ret := (some .int)) (by decide) rfl ?_
  intro p e s m args below meth c s₁ B hml hv
  obtain ⟨rfl, hPW⟩ := hv
  obtain ⟨hbs, hJ, hP, hK, hE⟩ := id hPW
  have hx := B.exec
  have hb := B.bytes
  have hr := B.returns
  have hts := atoms_spec (ws := wsL_takeBack) B.pre
  have hown : s.vm.findClass RL = some m.cls := findClass_of_methodNamed B.named
  have hlocks := B.notSynchronized
  have hTB : c.exceptionTable.toList = tableOf [(0, 10, 13, 24), (0, 10, 17, 13), (0, 10, 21, 51)] := vx_table (x := yL_takeBack) B (hts _ List.mem_cons_self)
  have hS : va_S (fun q : Nat => base ≤ q) s.heap s.heap [] := va_S.rf
  have hl := lv_entry ([.ref (L 0), .int p0, .int p1, .ref (L 123)]) (n := 5) (Nat.le_of_ble_eq_true rfl)
  rw [lg_entry_eq]
  generalize (lg_sl ([.ref (L 0), .int p0, .int p1, .ref (L 123)]) ++ List.replicate (5 - (lg_sl ([.ref (L 0), .int p0, .int p1, .ref (L 123)])).length) Slot.unset).toArray = ls at hl ⊢
  have hl : lv_has ls 5 [(0, .ref (L 0)), (1, .int p0), (2, .int p1), (3, .ref (L 123))] := hl
  refine lv_aload_n hx hb dL_takeBack_0 rfl (lv_at hl 3 rfl) ?_
  refine lv_iconst (v := 0) hx hb dL_takeBack_1 (by decide) ?_
  refine lv_aload_n hx hb dL_takeBack_2 rfl (lv_at hl 0 rfl) ?_
  refine lv_iload_n hx hb dL_takeBack_3 rfl (lv_at hl 1 rfl) ?_
  refine lv_iload_n hx hb dL_takeBack_4 rfl (lv_at hl 2 rfl) ?_
  refine wx_xcalli (vx_runV (As := [.int p0, .int p1]) (rest := [.int 0, .ref (L 123)]) ⟨hx, hb, hml, hown, hts⟩ (kp_takeBack l hst g base n L (by omega) x r0 hx0 hx1 hx2 hx3 p0 p1) (cwV 2 hts gL_takeBack_X3_takeBack rfl rfl rfl (by decide +kernel) ⟨Nat.le_of_ble_eq_true rfl, Nat.le_of_ble_eq_true rfl⟩) (hPW.preV hP hS (ci := 5) rfl (by omega) cw_d) rfl rfl hl.1 rfl (lv_room (Nat.le_of_ble_eq_true rfl)) dL_takeBack_5 ⟨Nat.le_of_ble_eq_true rfl, Nat.le_of_ble_eq_true rfl⟩) hS (fun E ce q9 H locs hpx hP hS h1 h2 h3 => ?_) (fun r5 u5 H locs h5 hP hS => ?_)
  · obtain rfl := hpx
    refine vx_catch (own := RL) (name := "java/lang/IndexOutOfBoundsException") hown [] ⟨0, 10, 13, 24⟩ [⟨0, 10, 17, 13⟩, ⟨0, 10, 21, 51⟩] (hTB.trans rfl) (fun _ h => nomatch h) (by decide) (by decide) (hts (.classLink RL 24 "java/lang/IndexOutOfBoundsException") (by decide +kernel)) (va_Nw.use rfl (hE.1 _ (ng_in (w := .castable "java/lang/IndexOutOfBoundsException" "java/lang/IndexOutOfBoundsException") (by decide +kernel)))) h1 h2 h3 ?_
    refine lv_astore (lv' := [(4, .ref q9), (0, .ref (L 0)), (1, .int p0), (2, .int p1), (3, .ref (L 123))]) hx hb dL_takeBack_13 hl (by decide) rfl (fun ls hl => ?_)
    refine lv_iconst (v := 1) hx hb dL_takeBack_15 (by decide) ?_
    refine W.widen (k := 4) (n := 24) (Nat.le_of_ble_eq_true rfl) (Nat.le_of_ble_eq_true rfl) ?_
    exact W.iret (v := 1) hx hb hr (fun t ht hW => ⟨⟨1, (x, r0), rfl, ⟨rfl, rfl⟩, PB.mk9 hP ht⟩, hS.F ht⟩) hS.2.2 dL_takeBack_16
  exact absurd h5 (fun h => h)

set_option maxHeartbeats 4000000 in
set_option maxRecDepth 100000 in
theorem kl_mend (l : Launch) (hst : l.stackTraces = false) (g : gE) (base n : Nat) (L : Nat → Nat) (hn : 125 ≤ n) (x : St) (r0 : Nat → va_E) (hx0 : x 0 0 0 = nI 0) (hx1 : x 1 0 0 = nI 0) (hx2 : x 2 0 0 = 2) (hx3 : x 3 0 0 = nI 0) (f : Nat → Int64) (ho : r0 123 = .inl (g.2 4, 1, .inr (.inl f))) (p0 p1 : Int32) : Met l yL_mend wsL_mend ({ frames := 12, cells := 4, slots := 24, locals := 260 }) (va_Pc [.ref (L 0), .int p0, .int p1, .ref (L 123)] (PW SS g base n L (cw g L x r0))) (va_Qi (fun (r : Int32) (u : St × (Nat → va_E)) => r = 1 ∧ u.2 = r0) (fun (u : St × (Nat → va_E)) t => PB g n L (cw g L u.1 u.2) t) (fun q => base ≤ q)) 4 24 (fun q => base ≤ q) := by
  refine va_MetW (cc := cL_mend) (maxL := 5) (ret := (some .int)) (by decide) rfl ?_
  intro p e s m args below meth c s₁ B hml hv
  obtain ⟨rfl, hPW⟩ := hv
  obtain ⟨hbs, hJ, hP, hK, hE⟩ := id hPW
  have hx := B.exec
  have hb := B.bytes
  have hr := B.returns
  have hts := atoms_spec (ws := wsL_mend) B.pre
  have hown : s.vm.findClass RL = some m.cls := findClass_of_methodNamed B.named
  have hlocks := B.notSynchronized
  have hTB : c.exceptionTable.toList = tableOf [(0, 10, 13, 24), (0, 10, 17, 13), (0, 10, 21, 51), (0, 10, 25, 15)] := vx_table (x := yL_mend) B (hts _ List.mem_cons_self)
  have hS : va_S (fun q : Nat => base ≤ q) s.heap s.heap [] := va_S.rf
  have hl := lv_entry ([.ref (L 0), .int p0, .int p1, .ref (L 123)]) (n := 5) (Nat.le_of_ble_eq_true rfl)
  rw [lg_entry_eq]
  generalize (lg_sl ([.ref (L 0), .int p0, .int p1, .ref (L 123)]) ++ List.replicate (5 - (lg_sl ([.ref (L 0), .int p0, .int p1, .ref (L 123)])).length) Slot.unset).toArray = ls at hl ⊢
  have hl : lv_has ls 5 [(0, .ref (L 0)), (1, .int p0), (2, .int p1), (3, .ref (L 123))] := hl
  refine lv_aload_n hx hb dL_mend_0 rfl (lv_at hl 3 rfl) ?_
  refine lv_iconst (v := 0) hx hb dL_mend_1 (by decide) ?_
  refine lv_aload_n hx hb dL_mend_2 rfl (lv_at hl 0 rfl) ?_
  refine lv_iload_n hx hb dL_mend_3 rfl (lv_at hl 1 rfl) ?_
  refine lv_iload_n hx hb dL_mend_4 rfl (lv_at hl 2 rfl) ?_
  refine wx_xcalli (vx_runV (As := [.int p0, .int p1]) (rest := [.int 0, .ref (L 123)]) ⟨hx, hb, hml, hown, hts⟩ (kp_mend l hst g base n L (by omega) x r0 hx0 hx1 hx2 hx3 p0 p1) (cwV 2 hts gL_mend_X3_mend rfl rfl rfl (by decide +kernel) ⟨Nat.le_of_ble_eq_true rfl, Nat.le_of_ble_eq_true rfl⟩) (hPW.preV hP hS (ci := 5) rfl (by omega) cw_d) rfl rfl hl.1 rfl (lv_room (Nat.le_of_ble_eq_true rfl)) dL_mend_5 ⟨Nat.le_of_ble_eq_true rfl, Nat.le_of_ble_eq_true rfl⟩) hS (fun E ce q9 H locs hpx hP hS h1 h2 h3 => ?_) (fun r5 u5 H locs h5 hP hS => ?_)
  · obtain rfl := hpx
    refine vx_catch (own := RL) (name := "java/lang/IndexOutOfBoundsException") hown [] ⟨0, 10, 13, 24⟩ [⟨0, 10, 17, 13⟩, ⟨0, 10, 21, 51⟩, ⟨0, 10, 25, 15⟩] (hTB.trans rfl) (fun _ h => nomatch h) (by decide) (by decide) (hts (.classLink RL 24 "java/lang/IndexOutOfBoundsException") (by decide +kernel)) (va_Nw.use rfl (hE.1 _ (ng_in (w := .castable "java/lang/IndexOutOfBoundsException" "java/lang/IndexOutOfBoundsException") (by decide +kernel)))) h1 h2 h3 ?_
    refine lv_astore (lv' := [(4, .ref q9), (0, .ref (L 0)), (1, .int p0), (2, .int p1), (3, .ref (L 123))]) hx hb dL_mend_13 hl (by decide) rfl (fun ls hl => ?_)
    refine lv_iconst (v := 1) hx hb dL_mend_15 (by decide) ?_
    refine W.widen (k := 4) (n := 24) (Nat.le_of_ble_eq_true rfl) (Nat.le_of_ble_eq_true rfl) ?_
    exact W.iret (v := 1) hx hb hr (fun t ht hW => ⟨⟨1, (x, r0), rfl, ⟨rfl, rfl⟩, PB.mk9 hP ht⟩, hS.F ht⟩) hS.2.2 dL_mend_16
  exact absurd h5 (fun h => h)

set_option maxHeartbeats 4000000 in
set_option maxRecDepth 100000 in
theorem kl_deny (l : Launch) (hst : l.stackTraces = false) (g : gE) (base n : Nat) (L : Nat → Nat) (hn : 125 ≤ n) (x : St) (r0 : Nat → va_E) (hx0 : x 0 0 0 = nI 0) (hx1 : x 1 0 0 = nI 0) (hx2 : x 2 0 0 = 2) (hx3 : x 3 0 0 = nI 0) (f : Nat → Int64) (ho : r0 123 = .inl (g.2 4, 1, .inr (.inl f))) (p0 p1 p2 : Int32) : Met l yL_deny wsL_deny ({ frames := 12, cells := 4, slots := 24, locals := 260 }) (va_Pc [.ref (L 0), .int p0, .int p1, .int p2, .ref (L 123)] (PW SS g base n L (cw g L x r0))) (va_Qi (fun (r : Int32) (u : St × (Nat → va_E)) => ((p1.toInt < 0 ∨ 3 < p1.toInt ∨ p0.toInt = 0 ∨ p0.toInt = -1 ∨ p2.toInt ≤ 0 ∨ 2000 < p2.toInt) ∧ r = 1 ∧ u.2 = r0) ∨ (¬ (p1.toInt < 0 ∨ 3 < p1.toInt ∨ p0.toInt = 0 ∨ p0.toInt = -1 ∨ p2.toInt ≤ 0 ∨ 2000 < p2.toInt) ∧ r = 0 ∧ u.2 = va_up r0 123 (oL g f (0 : Int32).toInt64))) (fun (u : St × (Nat → va_E)) t => PB g n L (cw g L u.1 u.2) t) (fun q => base ≤ q)) 4 24 (fun q => base ≤ q) := by
  refine va_MetW (cc := cL_deny) (maxL := 6) (ret := (some .int)) (by decide) rfl ?_
  intro p e s m args below meth c s₁ B hml hv
  obtain ⟨rfl, hPW⟩ := hv
  obtain ⟨hbs, hJ, hP, hK, hE⟩ := id hPW
  have hx := B.exec
  have hb := B.bytes
  have hr := B.returns
  have hts := atoms_spec (ws := wsL_deny) B.pre
  have hown : s.vm.findClass RL = some m.cls := findClass_of_methodNamed B.named
  have hlocks := B.notSynchronized
  have hTB : c.exceptionTable.toList = tableOf [(0, 12, 15, 13), (0, 12, 19, 15)] := vx_table (x := yL_deny) B (hts _ List.mem_cons_self)
  have hS : va_S (fun q : Nat => base ≤ q) s.heap s.heap [] := va_S.rf
  have hl := lv_entry ([.ref (L 0), .int p0, .int p1, .int p2, .ref (L 123)]) (n := 6) (Nat.le_of_ble_eq_true rfl)
  rw [lg_entry_eq]
  generalize (lg_sl ([.ref (L 0), .int p0, .int p1, .int p2, .ref (L 123)]) ++ List.replicate (6 - (lg_sl ([.ref (L 0), .int p0, .int p1, .int p2, .ref (L 123)])).length) Slot.unset).toArray = ls at hl ⊢
  have hl : lv_has ls 6 [(0, .ref (L 0)), (1, .int p0), (2, .int p1), (3, .int p2), (4, .ref (L 123))] := hl
  refine lv_aload hx hb dL_deny_0 (lv_at hl 4 rfl) ?_
  refine lv_iconst (v := 0) hx hb dL_deny_2 (by decide) ?_
  refine lv_aload_n hx hb dL_deny_3 rfl (lv_at hl 0 rfl) ?_
  refine lv_iload_n hx hb dL_deny_4 rfl (lv_at hl 1 rfl) ?_
  refine lv_iload_n hx hb dL_deny_5 rfl (lv_at hl 2 rfl) ?_
  refine lv_iload_n hx hb dL_deny_6 rfl (lv_at hl 3 rfl) ?_
  refine wx_xcalli (vx_runV (As := [.int p0, .int p1, .int p2]) (rest := [.int 0, .ref (L 123)]) ⟨hx, hb, hml, hown, hts⟩ (kp_deny l hst g base n L (by omega) x r0 hx0 hx1 hx2 hx3 p0 p1 p2) (cwV 3 hts gL_deny_X3_deny rfl rfl rfl (by decide +kernel) ⟨Nat.le_of_ble_eq_true rfl, Nat.le_of_ble_eq_true rfl⟩) (hPW.preV hP hS (ci := 5) rfl (by omega) cw_d) rfl rfl hl.1 rfl (lv_room (Nat.le_of_ble_eq_true rfl)) dL_deny_7 ⟨Nat.le_of_ble_eq_true rfl, Nat.le_of_ble_eq_true rfl⟩) hS (fun E ce q9 H locs hpx hP hS h1 h2 h3 => ?_) (fun r7 u7 H locs h7 hP hS => ?_)
  · obtain ⟨rfl, hb9⟩ := hpx
    refine vx_catch (own := RL) (name := "java/lang/IllegalArgumentException") hown [] ⟨0, 12, 15, 13⟩ [⟨0, 12, 19, 15⟩] (hTB.trans rfl) (fun _ h => nomatch h) (by decide) (by decide) (hts (.classLink RL 13 "java/lang/IllegalArgumentException") (by decide +kernel)) (va_Nw.use rfl (hE.1 _ (ng_in (w := .castable "java/lang/IllegalArgumentException" "java/lang/IllegalArgumentException") (by decide +kernel)))) h1 h2 h3 ?_
    refine lv_astore (lv' := [(5, .ref q9), (0, .ref (L 0)), (1, .int p0), (2, .int p1), (3, .int p2), (4, .ref (L 123))]) hx hb dL_deny_15 hl (by decide) rfl (fun ls hl => ?_)
    refine lv_iconst (v := 1) hx hb dL_deny_17 (by decide) ?_
    refine W.widen (k := 4) (n := 24) (Nat.le_of_ble_eq_true rfl) (Nat.le_of_ble_eq_true rfl) ?_
    exact W.iret (v := 1) hx hb hr (fun t ht hW => ⟨⟨1, (x, r0), rfl, Or.inl ⟨hb9, rfl, rfl⟩, PB.mk9 hP ht⟩, hS.F ht⟩) hS.2.2 dL_deny_18
  obtain ⟨hb9, er9⟩ := h7
  refine lv_i2l hx hb dL_deny_10 rfl ?_
  refine wx_last (D := g.1) (cl := vwCl) (f := f) (w' := cw g L u7 (va_up r0 123 (.inl (g.2 4, 1, .inr (.inl (vp_updL f (0 : Int32).toNatClampNeg r7.toInt64)))))) hx hb hK hP hJ hS (123) 4 (by omega) ((cw_ge (by decide)).trans ho) rfl (i := 0) (vp_in_nI (n := 0) (by decide) (by decide)) dL_deny_11 (cw_rest (by decide)) (fun H locs hP hS => ?_)
  refine lv_goto (tgt := 23) hx hb dL_deny_12 (by decide) ?_
  refine lv_iconst (v := 0) hx hb dL_deny_23 (by decide) ?_
  refine W.widen (k := 4) (n := 24) (Nat.le_of_ble_eq_true rfl) (Nat.le_of_ble_eq_true rfl) ?_
  exact W.iret (v := 0) hx hb hr (fun t ht hW => ⟨⟨0, (u7, va_up r0 123 (.inl (g.2 4, 1, .inr (.inl (vp_updL f (0 : Int32).toNatClampNeg r7.toInt64))))), rfl, Or.inr ⟨hb9, rfl, by rw [er9]; rfl⟩, PB.mk9 hP ht⟩, hS.F ht⟩) hS.2.2 dL_deny_24

set_option maxHeartbeats 4000000 in
set_option maxRecDepth 100000 in
theorem kl_queued (l : Launch) (hst : l.stackTraces = false) (g : gE) (base n : Nat) (L : Nat → Nat) (hn : 125 ≤ n) (x : St) (r0 : Nat → va_E) (hx0 : x 0 0 0 = nI 0) (hx1 : x 1 0 0 = nI 0) (hx2 : x 2 0 0 = 2) (hx3 : x 3 0 0 = nI 0) (f : Nat → Int64) (ho : r0 123 = .inl (g.2 4, 1, .inr (.inl f))) (p0 : Int32) : Met l yL_queued wsL_queued ({ frames := 12, cells := 4, slots := 24, locals := 260 }) (va_Pc [.ref (L 0), .int p0, .ref (L 123)] (PW SS g base n L (cw g L x r0))) (va_Qi (fun (r : Int32) (u : St × (Nat → va_E)) => ((p0.toInt < 0 ∨ 3 < p0.toInt) ∧ r = 1 ∧ u.2 = r0) ∨ (¬ (p0.toInt < 0 ∨ 3 < p0.toInt) ∧ r = 0 ∧ u.2 = va_up r0 123 (oL g f (0 : Int32).toInt64))) (fun (u : St × (Nat → va_E)) t => PB g n L (cw g L u.1 u.2) t) (fun q => base ≤ q)) 4 24 (fun q => base ≤ q) := by
  refine va_MetW (cc := cL_queued) (maxL := 4) (ret := (some .int)) (by decide) rfl ?_
  intro p e s m args below meth c s₁ B hml hv
  obtain ⟨rfl, hPW⟩ := hv
  obtain ⟨hbs, hJ, hP, hK, hE⟩ := id hPW
  have hx := B.exec
  have hb := B.bytes
  have hr := B.returns
  have hts := atoms_spec (ws := wsL_queued) B.pre
  have hown : s.vm.findClass RL = some m.cls := findClass_of_methodNamed B.named
  have hlocks := B.notSynchronized
  have hTB : c.exceptionTable.toList = tableOf [(0, 9, 12, 13)] := vx_table (x := yL_queued) B (hts _ List.mem_cons_self)
  have hS : va_S (fun q : Nat => base ≤ q) s.heap s.heap [] := va_S.rf
  have hl := lv_entry ([.ref (L 0), .int p0, .ref (L 123)]) (n := 4) (Nat.le_of_ble_eq_true rfl)
  rw [lg_entry_eq]
  generalize (lg_sl ([.ref (L 0), .int p0, .ref (L 123)]) ++ List.replicate (4 - (lg_sl ([.ref (L 0), .int p0, .ref (L 123)])).length) Slot.unset).toArray = ls at hl ⊢
  have hl : lv_has ls 4 [(0, .ref (L 0)), (1, .int p0), (2, .ref (L 123))] := hl
  refine lv_aload_n hx hb dL_queued_0 rfl (lv_at hl 2 rfl) ?_
  refine lv_iconst (v := 0) hx hb dL_queued_1 (by decide) ?_
  refine lv_aload_n hx hb dL_queued_2 rfl (lv_at hl 0 rfl) ?_
  refine lv_iload_n hx hb dL_queued_3 rfl (lv_at hl 1 rfl) ?_
  refine wx_xcalli (vx_runV (As := [.int p0]) (rest := [.int 0, .ref (L 123)]) ⟨hx, hb, hml, hown, hts⟩ (kp_queued l hst g base n L (by omega) x r0 hx0 hx1 hx2 hx3 p0) (cwV 1 hts gL_queued_X3_queued rfl rfl rfl (by decide +kernel) ⟨Nat.le_of_ble_eq_true rfl, Nat.le_of_ble_eq_true rfl⟩) (hPW.preV hP hS (ci := 5) rfl (by omega) cw_d) rfl rfl hl.1 rfl (lv_room (Nat.le_of_ble_eq_true rfl)) dL_queued_4 ⟨Nat.le_of_ble_eq_true rfl, Nat.le_of_ble_eq_true rfl⟩) hS (fun E ce q9 H locs hpx hP hS h1 h2 h3 => ?_) (fun r4 u4 H locs h4 hP hS => ?_)
  · obtain ⟨rfl, hb9⟩ := hpx
    refine vx_catch (own := RL) (name := "java/lang/IllegalArgumentException") hown [] ⟨0, 9, 12, 13⟩ [] (hTB.trans rfl) (fun _ h => nomatch h) (by decide) (by decide) (hts (.classLink RL 13 "java/lang/IllegalArgumentException") (by decide +kernel)) (va_Nw.use rfl (hE.1 _ (ng_in (w := .castable "java/lang/IllegalArgumentException" "java/lang/IllegalArgumentException") (by decide +kernel)))) h1 h2 h3 ?_
    refine lv_astore_n (lv' := [(3, .ref q9), (0, .ref (L 0)), (1, .int p0), (2, .ref (L 123))]) hx hb dL_queued_12 rfl hl (by decide) rfl (fun ls hl => ?_)
    refine lv_iconst (v := 1) hx hb dL_queued_13 (by decide) ?_
    refine W.widen (k := 4) (n := 24) (Nat.le_of_ble_eq_true rfl) (Nat.le_of_ble_eq_true rfl) ?_
    exact W.iret (v := 1) hx hb hr (fun t ht hW => ⟨⟨1, (x, r0), rfl, Or.inl ⟨hb9, rfl, rfl⟩, PB.mk9 hP ht⟩, hS.F ht⟩) hS.2.2 dL_queued_14
  obtain ⟨hb9, er9⟩ := h4
  refine lv_i2l hx hb dL_queued_7 rfl ?_
  refine wx_last (D := g.1) (cl := vwCl) (f := f) (w' := cw g L u4 (va_up r0 123 (.inl (g.2 4, 1, .inr (.inl (vp_updL f (0 : Int32).toNatClampNeg r4.toInt64)))))) hx hb hK hP hJ hS (123) 4 (by omega) ((cw_ge (by decide)).trans ho) rfl (i := 0) (vp_in_nI (n := 0) (by decide) (by decide)) dL_queued_8 (cw_rest (by decide)) (fun H locs hP hS => ?_)
  refine lv_goto (tgt := 15) hx hb dL_queued_9 (by decide) ?_
  refine lv_iconst (v := 0) hx hb dL_queued_15 (by decide) ?_
  refine W.widen (k := 4) (n := 24) (Nat.le_of_ble_eq_true rfl) (Nat.le_of_ble_eq_true rfl) ?_
  exact W.iret (v := 0) hx hb hr (fun t ht hW => ⟨⟨0, (u4, va_up r0 123 (.inl (g.2 4, 1, .inr (.inl (vp_updL f (0 : Int32).toNatClampNeg r4.toInt64))))), rfl, Or.inr ⟨hb9, rfl, by rw [er9]; rfl⟩, PB.mk9 hP ht⟩, hS.F ht⟩) hS.2.2 dL_queued_16

set_option maxHeartbeats 4000000 in
set_option maxRecDepth 100000 in
theorem kl_queuedAt (l : Launch) (hst : l.stackTraces = false) (g : gE) (base n : Nat) (L : Nat → Nat) (hn : 125 ≤ n) (x : St) (r0 : Nat → va_E) (hx0 : x 0 0 0 = nI 0) (hx1 : x 1 0 0 = nI 0) (hx2 : x 2 0 0 = 2) (hx3 : x 3 0 0 = nI 0) (f : Nat → Int64) (ho : r0 123 = .inl (g.2 4, 1, .inr (.inl f))) (p0 p1 : Int32) : Met l yL_queuedAt wsL_queuedAt ({ frames := 12, cells := 4, slots := 24, locals := 260 }) (va_Pc [.ref (L 0), .int p0, .int p1, .ref (L 123)] (PW SS g base n L (cw g L x r0))) (va_Qi (fun (r : Int32) (u : St × (Nat → va_E)) => ((p0.toInt < 0 ∨ 3 < p0.toInt) ∧ r = 1 ∧ u.2 = r0) ∨ (¬ (p0.toInt < 0 ∨ 3 < p0.toInt) ∧ r = 2 ∧ u.2 = r0)) (fun (u : St × (Nat → va_E)) t => PB g n L (cw g L u.1 u.2) t) (fun q => base ≤ q)) 4 24 (fun q => base ≤ q) := by
  refine va_MetW (cc := cL_queuedAt) (maxL := 5) (ret := (some .int)) (by decide) rfl ?_
  intro p e s m args below meth c s₁ B hml hv
  obtain ⟨rfl, hPW⟩ := hv
  obtain ⟨hbs, hJ, hP, hK, hE⟩ := id hPW
  have hx := B.exec
  have hb := B.bytes
  have hr := B.returns
  have hts := atoms_spec (ws := wsL_queuedAt) B.pre
  have hown : s.vm.findClass RL = some m.cls := findClass_of_methodNamed B.named
  have hlocks := B.notSynchronized
  have hTB : c.exceptionTable.toList = tableOf [(0, 10, 13, 13), (0, 10, 17, 24)] := vx_table (x := yL_queuedAt) B (hts _ List.mem_cons_self)
  have hS : va_S (fun q : Nat => base ≤ q) s.heap s.heap [] := va_S.rf
  have hl := lv_entry ([.ref (L 0), .int p0, .int p1, .ref (L 123)]) (n := 5) (Nat.le_of_ble_eq_true rfl)
  rw [lg_entry_eq]
  generalize (lg_sl ([.ref (L 0), .int p0, .int p1, .ref (L 123)]) ++ List.replicate (5 - (lg_sl ([.ref (L 0), .int p0, .int p1, .ref (L 123)])).length) Slot.unset).toArray = ls at hl ⊢
  have hl : lv_has ls 5 [(0, .ref (L 0)), (1, .int p0), (2, .int p1), (3, .ref (L 123))] := hl
  refine lv_aload_n hx hb dL_queuedAt_0 rfl (lv_at hl 3 rfl) ?_
  refine lv_iconst (v := 0) hx hb dL_queuedAt_1 (by decide) ?_
  refine lv_aload_n hx hb dL_queuedAt_2 rfl (lv_at hl 0 rfl) ?_
  refine lv_iload_n hx hb dL_queuedAt_3 rfl (lv_at hl 1 rfl) ?_
  refine lv_iload_n hx hb dL_queuedAt_4 rfl (lv_at hl 2 rfl) ?_
  refine wx_xcalli (vx_runV (As := [.int p0, .int p1]) (rest := [.int 0, .ref (L 123)]) ⟨hx, hb, hml, hown, hts⟩ (kp_queuedAt l hst g base n L (by omega) x r0 hx0 hx1 hx2 hx3 p0 p1) (cwV 2 hts gL_queuedAt_X3_queuedAt rfl rfl rfl (by decide +kernel) ⟨Nat.le_of_ble_eq_true rfl, Nat.le_of_ble_eq_true rfl⟩) (hPW.preV hP hS (ci := 5) rfl (by omega) cw_d) rfl rfl hl.1 rfl (lv_room (Nat.le_of_ble_eq_true rfl)) dL_queuedAt_5 ⟨Nat.le_of_ble_eq_true rfl, Nat.le_of_ble_eq_true rfl⟩) hS (fun E ce q9 H locs hpx hP hS h1 h2 h3 => ?_) (fun r5 u5 H locs h5 hP hS => ?_)
  · rcases hpx with ⟨rfl, hb9⟩ | ⟨rfl, hb9⟩
    · refine vx_catch (own := RL) (name := "java/lang/IllegalArgumentException") hown [] ⟨0, 10, 13, 13⟩ [⟨0, 10, 17, 24⟩] (hTB.trans rfl) (fun _ h => nomatch h) (by decide) (by decide) (hts (.classLink RL 13 "java/lang/IllegalArgumentException") (by decide +kernel)) (va_Nw.use rfl (hE.1 _ (ng_in (w := .castable "java/lang/IllegalArgumentException" "java/lang/IllegalArgumentException") (by decide +kernel)))) h1 h2 h3 ?_
      refine lv_astore (lv' := [(4, .ref q9), (0, .ref (L 0)), (1, .int p0), (2, .int p1), (3, .ref (L 123))]) hx hb dL_queuedAt_13 hl (by decide) rfl (fun ls hl => ?_)
      refine lv_iconst (v := 1) hx hb dL_queuedAt_15 (by decide) ?_
      refine W.widen (k := 4) (n := 24) (Nat.le_of_ble_eq_true rfl) (Nat.le_of_ble_eq_true rfl) ?_
      exact W.iret (v := 1) hx hb hr (fun t ht hW => ⟨⟨1, (x, r0), rfl, Or.inl ⟨hb9, rfl, rfl⟩, PB.mk9 hP ht⟩, hS.F ht⟩) hS.2.2 dL_queuedAt_16
    · refine vx_catch (own := RL) (name := "java/lang/IndexOutOfBoundsException") hown [⟨0, 10, 13, 13⟩] ⟨0, 10, 17, 24⟩ [] (hTB.trans rfl) (fun z hz => by rcases List.mem_singleton.mp hz with rfl; exact Or.inr ⟨by decide, "java/lang/IllegalArgumentException", hts (.classLink RL 13 "java/lang/IllegalArgumentException") (by decide +kernel), hE.2.2.2.2 ("java/lang/IndexOutOfBoundsException", "java/lang/IllegalArgumentException") (by decide +kernel)⟩) (by decide) (by decide) (va_Nw.use rfl (hE.1 _ (ng_in (w := .classLink RL 24 "java/lang/IndexOutOfBoundsException") (by decide +kernel)))) (va_Nw.use rfl (hE.1 _ (ng_in (w := .castable "java/lang/IndexOutOfBoundsException" "java/lang/IndexOutOfBoundsException") (by decide +kernel)))) h1 h2 h3 ?_
      refine lv_astore (lv' := [(4, .ref q9), (0, .ref (L 0)), (1, .int p0), (2, .int p1), (3, .ref (L 123))]) hx hb dL_queuedAt_17 hl (by decide) rfl (fun ls hl => ?_)
      refine lv_iconst (v := 2) hx hb dL_queuedAt_19 (by decide) ?_
      refine W.widen (k := 4) (n := 24) (Nat.le_of_ble_eq_true rfl) (Nat.le_of_ble_eq_true rfl) ?_
      exact W.iret (v := 2) hx hb hr (fun t ht hW => ⟨⟨2, (x, r0), rfl, Or.inr ⟨hb9, rfl, rfl⟩, PB.mk9 hP ht⟩, hS.F ht⟩) hS.2.2 dL_queuedAt_20
  exact absurd h5 (fun h => h)

set_option maxHeartbeats 4000000 in
set_option maxRecDepth 100000 in
theorem kl_isDue (l : Launch) (hst : l.stackTraces = false) (g : gE) (base n : Nat) (L : Nat → Nat) (hn : 125 ≤ n) (x : St) (r0 : Nat → va_E) (hx0 : x 0 0 0 = nI 0) (hx1 : x 1 0 0 = nI 0) (hx2 : x 2 0 0 = 2) (hx3 : x 3 0 0 = nI 0) (f : Nat → Int64) (ho : r0 123 = .inl (g.2 4, 1, .inr (.inl f))) (p0 : Int32) : Met l yL_isDue wsL_isDue ({ frames := 12, cells := 4, slots := 24, locals := 260 }) (va_Pc [.ref (L 0), .int p0, .ref (L 123)] (PW SS g base n L (cw g L x r0))) (va_Qi (fun (r : Int32) (u : St × (Nat → va_E)) => r = 1 ∧ u.2 = r0) (fun (u : St × (Nat → va_E)) t => PB g n L (cw g L u.1 u.2) t) (fun q => base ≤ q)) 4 24 (fun q => base ≤ q) := by
  refine va_MetW (cc := cL_isDue) (maxL := 4) (ret := (some .int)) (by decide) rfl ?_
  intro p e s m args below meth c s₁ B hml hv
  obtain ⟨rfl, hPW⟩ := hv
  obtain ⟨hbs, hJ, hP, hK, hE⟩ := id hPW
  have hx := B.exec
  have hb := B.bytes
  have hr := B.returns
  have hts := atoms_spec (ws := wsL_isDue) B.pre
  have hown : s.vm.findClass RL = some m.cls := findClass_of_methodNamed B.named
  have hlocks := B.notSynchronized
  have hTB : c.exceptionTable.toList = tableOf [(0, 16, 19, 24)] := vx_table (x := yL_isDue) B (hts _ List.mem_cons_self)
  have hS : va_S (fun q : Nat => base ≤ q) s.heap s.heap [] := va_S.rf
  have hl := lv_entry ([.ref (L 0), .int p0, .ref (L 123)]) (n := 4) (Nat.le_of_ble_eq_true rfl)
  rw [lg_entry_eq]
  generalize (lg_sl ([.ref (L 0), .int p0, .ref (L 123)]) ++ List.replicate (4 - (lg_sl ([.ref (L 0), .int p0, .ref (L 123)])).length) Slot.unset).toArray = ls at hl ⊢
  have hl : lv_has ls 4 [(0, .ref (L 0)), (1, .int p0), (2, .ref (L 123))] := hl
  refine lv_aload_n hx hb dL_isDue_0 rfl (lv_at hl 2 rfl) ?_
  refine lv_iconst (v := 0) hx hb dL_isDue_1 (by decide) ?_
  refine lv_aload_n hx hb dL_isDue_2 rfl (lv_at hl 0 rfl) ?_
  refine lv_iload_n hx hb dL_isDue_3 rfl (lv_at hl 1 rfl) ?_
  refine wx_xcalli (vx_runV (As := [.int p0]) (rest := [.int 0, .ref (L 123)]) ⟨hx, hb, hml, hown, hts⟩ (kp_isDue l hst g base n L (by omega) x r0 hx0 hx1 hx2 hx3 p0) (cwV 1 hts gL_isDue_X3_isDue rfl rfl rfl (by decide +kernel) ⟨Nat.le_of_ble_eq_true rfl, Nat.le_of_ble_eq_true rfl⟩) (hPW.preV hP hS (ci := 5) rfl (by omega) cw_d) rfl rfl hl.1 rfl (lv_room (Nat.le_of_ble_eq_true rfl)) dL_isDue_4 ⟨Nat.le_of_ble_eq_true rfl, Nat.le_of_ble_eq_true rfl⟩) hS (fun E ce q9 H locs hpx hP hS h1 h2 h3 => ?_) (fun r4 u4 H locs h4 hP hS => ?_)
  · obtain rfl := hpx
    refine vx_catch (own := RL) (name := "java/lang/IndexOutOfBoundsException") hown [] ⟨0, 16, 19, 24⟩ [] (hTB.trans rfl) (fun _ h => nomatch h) (by decide) (by decide) (hts (.classLink RL 24 "java/lang/IndexOutOfBoundsException") (by decide +kernel)) (va_Nw.use rfl (hE.1 _ (ng_in (w := .castable "java/lang/IndexOutOfBoundsException" "java/lang/IndexOutOfBoundsException") (by decide +kernel)))) h1 h2 h3 ?_
    refine lv_astore_n (lv' := [(3, .ref q9), (0, .ref (L 0)), (1, .int p0), (2, .ref (L 123))]) hx hb dL_isDue_19 rfl hl (by decide) rfl (fun ls hl => ?_)
    refine lv_iconst (v := 1) hx hb dL_isDue_20 (by decide) ?_
    refine W.widen (k := 4) (n := 24) (Nat.le_of_ble_eq_true rfl) (Nat.le_of_ble_eq_true rfl) ?_
    exact W.iret (v := 1) hx hb hr (fun t ht hW => ⟨⟨1, (x, r0), rfl, ⟨rfl, rfl⟩, PB.mk9 hP ht⟩, hS.F ht⟩) hS.2.2 dL_isDue_21
  exact absurd h4 (fun h => h)

set_option maxHeartbeats 4000000 in
set_option maxRecDepth 100000 in
theorem kl_pass (l : Launch) (hst : l.stackTraces = false) (g : gE) (base n : Nat) (L : Nat → Nat) (hn : 125 ≤ n) (x : St) (r0 : Nat → va_E) (hx0 : x 0 0 0 = nI 0) (hx1 : x 1 0 0 = nI 0) (hx2 : x 2 0 0 = 2) (hx3 : x 3 0 0 = nI 0) (f : Nat → Int64) (ho : r0 123 = .inl (g.2 4, 1, .inr (.inl f))) (p0 p1 : Int32) : Met l yL_pass wsL_pass ({ frames := 12, cells := 4, slots := 24, locals := 260 }) (va_Pc [.ref (L 0), .int p0, .int p1, .ref (L 123)] (PW SS g base n L (cw g L x r0))) (va_Qi (fun (r : Int32) (u : St × (Nat → va_E)) => r = 1 ∧ u.2 = r0) (fun (u : St × (Nat → va_E)) t => PB g n L (cw g L u.1 u.2) t) (fun q => base ≤ q)) 4 24 (fun q => base ≤ q) := by
  refine va_MetW (cc := cL_pass) (maxL := 5) (ret := (some .int)) (by decide) rfl ?_
  intro p e s m args below meth c s₁ B hml hv
  obtain ⟨rfl, hPW⟩ := hv
  obtain ⟨hbs, hJ, hP, hK, hE⟩ := id hPW
  have hx := B.exec
  have hb := B.bytes
  have hr := B.returns
  have hts := atoms_spec (ws := wsL_pass) B.pre
  have hown : s.vm.findClass RL = some m.cls := findClass_of_methodNamed B.named
  have hlocks := B.notSynchronized
  have hTB : c.exceptionTable.toList = tableOf [(0, 10, 13, 24), (0, 10, 17, 13)] := vx_table (x := yL_pass) B (hts _ List.mem_cons_self)
  have hS : va_S (fun q : Nat => base ≤ q) s.heap s.heap [] := va_S.rf
  have hl := lv_entry ([.ref (L 0), .int p0, .int p1, .ref (L 123)]) (n := 5) (Nat.le_of_ble_eq_true rfl)
  rw [lg_entry_eq]
  generalize (lg_sl ([.ref (L 0), .int p0, .int p1, .ref (L 123)]) ++ List.replicate (5 - (lg_sl ([.ref (L 0), .int p0, .int p1, .ref (L 123)])).length) Slot.unset).toArray = ls at hl ⊢
  have hl : lv_has ls 5 [(0, .ref (L 0)), (1, .int p0), (2, .int p1), (3, .ref (L 123))] := hl
  refine lv_aload_n hx hb dL_pass_0 rfl (lv_at hl 3 rfl) ?_
  refine lv_iconst (v := 0) hx hb dL_pass_1 (by decide) ?_
  refine lv_aload_n hx hb dL_pass_2 rfl (lv_at hl 0 rfl) ?_
  refine lv_iload_n hx hb dL_pass_3 rfl (lv_at hl 1 rfl) ?_
  refine lv_iload_n hx hb dL_pass_4 rfl (lv_at hl 2 rfl) ?_
  refine wx_xcalli (vx_runV (As := [.int p0, .int p1]) (rest := [.int 0, .ref (L 123)]) ⟨hx, hb, hml, hown, hts⟩ (kp_pass l hst g base n L (by omega) x r0 hx0 hx1 hx2 hx3 p0 p1) (cwV 2 hts gL_pass_X3_pass rfl rfl rfl (by decide +kernel) ⟨Nat.le_of_ble_eq_true rfl, Nat.le_of_ble_eq_true rfl⟩) (hPW.preV hP hS (ci := 5) rfl (by omega) cw_d) rfl rfl hl.1 rfl (lv_room (Nat.le_of_ble_eq_true rfl)) dL_pass_5 ⟨Nat.le_of_ble_eq_true rfl, Nat.le_of_ble_eq_true rfl⟩) hS (fun E ce q9 H locs hpx hP hS h1 h2 h3 => ?_) (fun r5 u5 H locs h5 hP hS => ?_)
  · obtain rfl := hpx
    refine vx_catch (own := RL) (name := "java/lang/IndexOutOfBoundsException") hown [] ⟨0, 10, 13, 24⟩ [⟨0, 10, 17, 13⟩] (hTB.trans rfl) (fun _ h => nomatch h) (by decide) (by decide) (hts (.classLink RL 24 "java/lang/IndexOutOfBoundsException") (by decide +kernel)) (va_Nw.use rfl (hE.1 _ (ng_in (w := .castable "java/lang/IndexOutOfBoundsException" "java/lang/IndexOutOfBoundsException") (by decide +kernel)))) h1 h2 h3 ?_
    refine lv_astore (lv' := [(4, .ref q9), (0, .ref (L 0)), (1, .int p0), (2, .int p1), (3, .ref (L 123))]) hx hb dL_pass_13 hl (by decide) rfl (fun ls hl => ?_)
    refine lv_iconst (v := 1) hx hb dL_pass_15 (by decide) ?_
    refine W.widen (k := 4) (n := 24) (Nat.le_of_ble_eq_true rfl) (Nat.le_of_ble_eq_true rfl) ?_
    exact W.iret (v := 1) hx hb hr (fun t ht hW => ⟨⟨1, (x, r0), rfl, ⟨rfl, rfl⟩, PB.mk9 hP ht⟩, hS.F ht⟩) hS.2.2 dL_pass_16
  exact absurd h5 (fun h => h)

set_option maxHeartbeats 4000000 in
set_option maxRecDepth 100000 in
theorem kl_readers (l : Launch) (hst : l.stackTraces = false) (g : gE) (base n : Nat) (L : Nat → Nat) (hn : 125 ≤ n) (x : St) (r0 : Nat → va_E) (hx0 : x 0 0 0 = nI 0) (hx1 : x 1 0 0 = nI 0) (hx2 : x 2 0 0 = 2) (hx3 : x 3 0 0 = nI 0) (f : Nat → Int64) (ho : r0 123 = .inl (g.2 4, 1, .inr (.inl f))) (p0 p1 : Int32) : Met l yL_readers wsL_readers ({ frames := 12, cells := 4, slots := 24, locals := 260 }) (va_Pc [.ref (L 0), .int p0, .int p1, .ref (L 123)] (PW SS g base n L (cw g L x r0))) (va_Qi (fun (r : Int32) (u : St × (Nat → va_E)) => r = 1 ∧ u.2 = r0) (fun (u : St × (Nat → va_E)) t => PB g n L (cw g L u.1 u.2) t) (fun q => base ≤ q)) 4 24 (fun q => base ≤ q) := by
  refine va_MetW (cc := cL_readers) (maxL := 5) (ret := (some .int)) (by decide) rfl ?_
  intro p e s m args below meth c s₁ B hml hv
  obtain ⟨rfl, hPW⟩ := hv
  obtain ⟨hbs, hJ, hP, hK, hE⟩ := id hPW
  have hx := B.exec
  have hb := B.bytes
  have hr := B.returns
  have hts := atoms_spec (ws := wsL_readers) B.pre
  have hown : s.vm.findClass RL = some m.cls := findClass_of_methodNamed B.named
  have hlocks := B.notSynchronized
  have hTB : c.exceptionTable.toList = tableOf [(0, 10, 13, 24), (0, 10, 17, 13)] := vx_table (x := yL_readers) B (hts _ List.mem_cons_self)
  have hS : va_S (fun q : Nat => base ≤ q) s.heap s.heap [] := va_S.rf
  have hl := lv_entry ([.ref (L 0), .int p0, .int p1, .ref (L 123)]) (n := 5) (Nat.le_of_ble_eq_true rfl)
  rw [lg_entry_eq]
  generalize (lg_sl ([.ref (L 0), .int p0, .int p1, .ref (L 123)]) ++ List.replicate (5 - (lg_sl ([.ref (L 0), .int p0, .int p1, .ref (L 123)])).length) Slot.unset).toArray = ls at hl ⊢
  have hl : lv_has ls 5 [(0, .ref (L 0)), (1, .int p0), (2, .int p1), (3, .ref (L 123))] := hl
  refine lv_aload_n hx hb dL_readers_0 rfl (lv_at hl 3 rfl) ?_
  refine lv_iconst (v := 0) hx hb dL_readers_1 (by decide) ?_
  refine lv_aload_n hx hb dL_readers_2 rfl (lv_at hl 0 rfl) ?_
  refine lv_iload_n hx hb dL_readers_3 rfl (lv_at hl 1 rfl) ?_
  refine lv_iload_n hx hb dL_readers_4 rfl (lv_at hl 2 rfl) ?_
  refine wx_xcalli (vx_runV (As := [.int p0, .int p1]) (rest := [.int 0, .ref (L 123)]) ⟨hx, hb, hml, hown, hts⟩ (kp_readers l hst g base n L (by omega) x r0 hx0 hx1 hx2 hx3 p0 p1) (cwV 2 hts gL_readers_X3_readers rfl rfl rfl (by decide +kernel) ⟨Nat.le_of_ble_eq_true rfl, Nat.le_of_ble_eq_true rfl⟩) (hPW.preV hP hS (ci := 5) rfl (by omega) cw_d) rfl rfl hl.1 rfl (lv_room (Nat.le_of_ble_eq_true rfl)) dL_readers_5 ⟨Nat.le_of_ble_eq_true rfl, Nat.le_of_ble_eq_true rfl⟩) hS (fun E ce q9 H locs hpx hP hS h1 h2 h3 => ?_) (fun r5 u5 H locs h5 hP hS => ?_)
  · obtain rfl := hpx
    refine vx_catch (own := RL) (name := "java/lang/IndexOutOfBoundsException") hown [] ⟨0, 10, 13, 24⟩ [⟨0, 10, 17, 13⟩] (hTB.trans rfl) (fun _ h => nomatch h) (by decide) (by decide) (hts (.classLink RL 24 "java/lang/IndexOutOfBoundsException") (by decide +kernel)) (va_Nw.use rfl (hE.1 _ (ng_in (w := .castable "java/lang/IndexOutOfBoundsException" "java/lang/IndexOutOfBoundsException") (by decide +kernel)))) h1 h2 h3 ?_
    refine lv_astore (lv' := [(4, .ref q9), (0, .ref (L 0)), (1, .int p0), (2, .int p1), (3, .ref (L 123))]) hx hb dL_readers_13 hl (by decide) rfl (fun ls hl => ?_)
    refine lv_iconst (v := 1) hx hb dL_readers_15 (by decide) ?_
    refine W.widen (k := 4) (n := 24) (Nat.le_of_ble_eq_true rfl) (Nat.le_of_ble_eq_true rfl) ?_
    exact W.iret (v := 1) hx hb hr (fun t ht hW => ⟨⟨1, (x, r0), rfl, ⟨rfl, rfl⟩, PB.mk9 hP ht⟩, hS.F ht⟩) hS.2.2 dL_readers_16
  exact absurd h5 (fun h => h)

set_option maxHeartbeats 4000000 in
set_option maxRecDepth 100000 in
theorem kl_readIn (l : Launch) (hst : l.stackTraces = false) (g : gE) (base n : Nat) (L : Nat → Nat) (hn : 125 ≤ n) (x : St) (r0 : Nat → va_E) (hx0 : x 0 0 0 = nI 0) (hx1 : x 1 0 0 = nI 0) (hx2 : x 2 0 0 = 2) (hx3 : x 3 0 0 = nI 0) (f : Nat → Int64) (ho : r0 123 = .inl (g.2 4, 1, .inr (.inl f))) (p0 p1 : Int32) : Met l yL_readIn wsL_readIn ({ frames := 12, cells := 4, slots := 24, locals := 260 }) (va_Pc [.ref (L 0), .int p0, .int p1, .ref (L 123)] (PW SS g base n L (cw g L x r0))) (va_Qi (fun (r : Int32) (u : St × (Nat → va_E)) => r = 1 ∧ u.2 = r0) (fun (u : St × (Nat → va_E)) t => PB g n L (cw g L u.1 u.2) t) (fun q => base ≤ q)) 4 24 (fun q => base ≤ q) := by
  refine va_MetW (cc := cL_readIn) (maxL := 5) (ret := (some .int)) (by decide) rfl ?_
  intro p e s m args below meth c s₁ B hml hv
  obtain ⟨rfl, hPW⟩ := hv
  obtain ⟨hbs, hJ, hP, hK, hE⟩ := id hPW
  have hx := B.exec
  have hb := B.bytes
  have hr := B.returns
  have hts := atoms_spec (ws := wsL_readIn) B.pre
  have hown : s.vm.findClass RL = some m.cls := findClass_of_methodNamed B.named
  have hlocks := B.notSynchronized
  have hTB : c.exceptionTable.toList = tableOf [(0, 10, 13, 24)] := vx_table (x := yL_readIn) B (hts _ List.mem_cons_self)
  have hS : va_S (fun q : Nat => base ≤ q) s.heap s.heap [] := va_S.rf
  have hl := lv_entry ([.ref (L 0), .int p0, .int p1, .ref (L 123)]) (n := 5) (Nat.le_of_ble_eq_true rfl)
  rw [lg_entry_eq]
  generalize (lg_sl ([.ref (L 0), .int p0, .int p1, .ref (L 123)]) ++ List.replicate (5 - (lg_sl ([.ref (L 0), .int p0, .int p1, .ref (L 123)])).length) Slot.unset).toArray = ls at hl ⊢
  have hl : lv_has ls 5 [(0, .ref (L 0)), (1, .int p0), (2, .int p1), (3, .ref (L 123))] := hl
  refine lv_aload_n hx hb dL_readIn_0 rfl (lv_at hl 3 rfl) ?_
  refine lv_iconst (v := 0) hx hb dL_readIn_1 (by decide) ?_
  refine lv_aload_n hx hb dL_readIn_2 rfl (lv_at hl 0 rfl) ?_
  refine lv_iload_n hx hb dL_readIn_3 rfl (lv_at hl 1 rfl) ?_
  refine lv_iload_n hx hb dL_readIn_4 rfl (lv_at hl 2 rfl) ?_
  refine wx_xcalli (vx_runV (As := [.int p0, .int p1]) (rest := [.int 0, .ref (L 123)]) ⟨hx, hb, hml, hown, hts⟩ (kp_readIn l hst g base n L (by omega) x r0 hx0 hx1 hx2 hx3 p0 p1) (cwV 2 hts gL_readIn_X3_readIn rfl rfl rfl (by decide +kernel) ⟨Nat.le_of_ble_eq_true rfl, Nat.le_of_ble_eq_true rfl⟩) (hPW.preV hP hS (ci := 5) rfl (by omega) cw_d) rfl rfl hl.1 rfl (lv_room (Nat.le_of_ble_eq_true rfl)) dL_readIn_5 ⟨Nat.le_of_ble_eq_true rfl, Nat.le_of_ble_eq_true rfl⟩) hS (fun E ce q9 H locs hpx hP hS h1 h2 h3 => ?_) (fun r5 u5 H locs h5 hP hS => ?_)
  · obtain rfl := hpx
    refine vx_catch (own := RL) (name := "java/lang/IndexOutOfBoundsException") hown [] ⟨0, 10, 13, 24⟩ [] (hTB.trans rfl) (fun _ h => nomatch h) (by decide) (by decide) (hts (.classLink RL 24 "java/lang/IndexOutOfBoundsException") (by decide +kernel)) (va_Nw.use rfl (hE.1 _ (ng_in (w := .castable "java/lang/IndexOutOfBoundsException" "java/lang/IndexOutOfBoundsException") (by decide +kernel)))) h1 h2 h3 ?_
    refine lv_astore (lv' := [(4, .ref q9), (0, .ref (L 0)), (1, .int p0), (2, .int p1), (3, .ref (L 123))]) hx hb dL_readIn_13 hl (by decide) rfl (fun ls hl => ?_)
    refine lv_iconst (v := 1) hx hb dL_readIn_15 (by decide) ?_
    refine W.widen (k := 4) (n := 24) (Nat.le_of_ble_eq_true rfl) (Nat.le_of_ble_eq_true rfl) ?_
    exact W.iret (v := 1) hx hb hr (fun t ht hW => ⟨⟨1, (x, r0), rfl, ⟨rfl, rfl⟩, PB.mk9 hP ht⟩, hS.F ht⟩) hS.2.2 dL_readIn_16
  exact absurd h5 (fun h => h)

set_option maxHeartbeats 4000000 in
set_option maxRecDepth 100000 in
theorem kl_suspects (l : Launch) (hst : l.stackTraces = false) (g : gE) (base n : Nat) (L : Nat → Nat) (hn : 125 ≤ n) (x : St) (r0 : Nat → va_E) (hx0 : x 0 0 0 = nI 0) (hx1 : x 1 0 0 = nI 0) (hx2 : x 2 0 0 = 2) (hx3 : x 3 0 0 = nI 0) (f : Nat → Int64) (ho : r0 123 = .inl (g.2 4, 1, .inr (.inl f))) (p0 p1 : Int32) : Met l yL_suspects wsL_suspects ({ frames := 12, cells := 4, slots := 24, locals := 260 }) (va_Pc [.ref (L 0), .int p0, .int p1, .ref (L 123)] (PW SS g base n L (cw g L x r0))) (va_Qi (fun (r : Int32) (u : St × (Nat → va_E)) => ((p1.toInt < 0 ∨ 3 < p1.toInt ∨ p0.toInt = 0) ∧ r = 1 ∧ u.2 = r0) ∨ (¬ (p1.toInt < 0 ∨ 3 < p1.toInt ∨ p0.toInt = 0) ∧ r = 0 ∧ u.2 = va_up r0 123 (oL g f (0 : Int32).toInt64))) (fun (u : St × (Nat → va_E)) t => PB g n L (cw g L u.1 u.2) t) (fun q => base ≤ q)) 4 24 (fun q => base ≤ q) := by
  refine va_MetW (cc := cL_suspects) (maxL := 5) (ret := (some .int)) (by decide) rfl ?_
  intro p e s m args below meth c s₁ B hml hv
  obtain ⟨rfl, hPW⟩ := hv
  obtain ⟨hbs, hJ, hP, hK, hE⟩ := id hPW
  have hx := B.exec
  have hb := B.bytes
  have hr := B.returns
  have hts := atoms_spec (ws := wsL_suspects) B.pre
  have hown : s.vm.findClass RL = some m.cls := findClass_of_methodNamed B.named
  have hlocks := B.notSynchronized
  have hTB : c.exceptionTable.toList = tableOf [(0, 10, 13, 13)] := vx_table (x := yL_suspects) B (hts _ List.mem_cons_self)
  have hS : va_S (fun q : Nat => base ≤ q) s.heap s.heap [] := va_S.rf
  have hl := lv_entry ([.ref (L 0), .int p0, .int p1, .ref (L 123)]) (n := 5) (Nat.le_of_ble_eq_true rfl)
  rw [lg_entry_eq]
  generalize (lg_sl ([.ref (L 0), .int p0, .int p1, .ref (L 123)]) ++ List.replicate (5 - (lg_sl ([.ref (L 0), .int p0, .int p1, .ref (L 123)])).length) Slot.unset).toArray = ls at hl ⊢
  have hl : lv_has ls 5 [(0, .ref (L 0)), (1, .int p0), (2, .int p1), (3, .ref (L 123))] := hl
  refine lv_aload_n hx hb dL_suspects_0 rfl (lv_at hl 3 rfl) ?_
  refine lv_iconst (v := 0) hx hb dL_suspects_1 (by decide) ?_
  refine lv_aload_n hx hb dL_suspects_2 rfl (lv_at hl 0 rfl) ?_
  refine lv_iload_n hx hb dL_suspects_3 rfl (lv_at hl 1 rfl) ?_
  refine lv_iload_n hx hb dL_suspects_4 rfl (lv_at hl 2 rfl) ?_
  refine wx_xcalli (vx_runV (As := [.int p0, .int p1]) (rest := [.int 0, .ref (L 123)]) ⟨hx, hb, hml, hown, hts⟩ (kp_suspects l hst g base n L (by omega) x r0 hx0 hx1 hx2 hx3 p0 p1) (cwV 2 hts gL_suspects_X3_suspects rfl rfl rfl (by decide +kernel) ⟨Nat.le_of_ble_eq_true rfl, Nat.le_of_ble_eq_true rfl⟩) (hPW.preV hP hS (ci := 5) rfl (by omega) cw_d) rfl rfl hl.1 rfl (lv_room (Nat.le_of_ble_eq_true rfl)) dL_suspects_5 ⟨Nat.le_of_ble_eq_true rfl, Nat.le_of_ble_eq_true rfl⟩) hS (fun E ce q9 H locs hpx hP hS h1 h2 h3 => ?_) (fun r5 u5 H locs h5 hP hS => ?_)
  · obtain ⟨rfl, hb9⟩ := hpx
    refine vx_catch (own := RL) (name := "java/lang/IllegalArgumentException") hown [] ⟨0, 10, 13, 13⟩ [] (hTB.trans rfl) (fun _ h => nomatch h) (by decide) (by decide) (hts (.classLink RL 13 "java/lang/IllegalArgumentException") (by decide +kernel)) (va_Nw.use rfl (hE.1 _ (ng_in (w := .castable "java/lang/IllegalArgumentException" "java/lang/IllegalArgumentException") (by decide +kernel)))) h1 h2 h3 ?_
    refine lv_astore (lv' := [(4, .ref q9), (0, .ref (L 0)), (1, .int p0), (2, .int p1), (3, .ref (L 123))]) hx hb dL_suspects_13 hl (by decide) rfl (fun ls hl => ?_)
    refine lv_iconst (v := 1) hx hb dL_suspects_15 (by decide) ?_
    refine W.widen (k := 4) (n := 24) (Nat.le_of_ble_eq_true rfl) (Nat.le_of_ble_eq_true rfl) ?_
    exact W.iret (v := 1) hx hb hr (fun t ht hW => ⟨⟨1, (x, r0), rfl, Or.inl ⟨hb9, rfl, rfl⟩, PB.mk9 hP ht⟩, hS.F ht⟩) hS.2.2 dL_suspects_16
  obtain ⟨hb9, er9⟩ := h5
  refine lv_i2l hx hb dL_suspects_8 rfl ?_
  refine wx_last (D := g.1) (cl := vwCl) (f := f) (w' := cw g L u5 (va_up r0 123 (.inl (g.2 4, 1, .inr (.inl (vp_updL f (0 : Int32).toNatClampNeg r5.toInt64)))))) hx hb hK hP hJ hS (123) 4 (by omega) ((cw_ge (by decide)).trans ho) rfl (i := 0) (vp_in_nI (n := 0) (by decide) (by decide)) dL_suspects_9 (cw_rest (by decide)) (fun H locs hP hS => ?_)
  refine lv_goto (tgt := 17) hx hb dL_suspects_10 (by decide) ?_
  refine lv_iconst (v := 0) hx hb dL_suspects_17 (by decide) ?_
  refine W.widen (k := 4) (n := 24) (Nat.le_of_ble_eq_true rfl) (Nat.le_of_ble_eq_true rfl) ?_
  exact W.iret (v := 0) hx hb hr (fun t ht hW => ⟨⟨0, (u5, va_up r0 123 (.inl (g.2 4, 1, .inr (.inl (vp_updL f (0 : Int32).toNatClampNeg r5.toInt64))))), rfl, Or.inr ⟨hb9, rfl, by rw [er9]; rfl⟩, PB.mk9 hP ht⟩, hS.F ht⟩) hS.2.2 dL_suspects_18

set_option maxHeartbeats 4000000 in
set_option maxRecDepth 100000 in
theorem kl_suspectAt (l : Launch) (hst : l.stackTraces = false) (g : gE) (base n : Nat) (L : Nat → Nat) (hn : 125 ≤ n) (x : St) (r0 : Nat → va_E) (hx0 : x 0 0 0 = nI 0) (hx1 : x 1 0 0 = nI 0) (hx2 : x 2 0 0 = 2) (hx3 : x 3 0 0 = nI 0) (f : Nat → Int64) (ho : r0 123 = .inl (g.2 4, 1, .inr (.inl f))) (p0 p1 p2 : Int32) : Met l yL_suspectAt wsL_suspectAt ({ frames := 12, cells := 4, slots := 24, locals := 260 }) (va_Pc [.ref (L 0), .int p0, .int p1, .int p2, .ref (L 123)] (PW SS g base n L (cw g L x r0))) (va_Qi (fun (r : Int32) (u : St × (Nat → va_E)) => ((p1.toInt < 0 ∨ 3 < p1.toInt ∨ p0.toInt = 0) ∧ r = 1 ∧ u.2 = r0) ∨ (¬ (p1.toInt < 0 ∨ 3 < p1.toInt ∨ p0.toInt = 0) ∧ r = 2 ∧ u.2 = r0)) (fun (u : St × (Nat → va_E)) t => PB g n L (cw g L u.1 u.2) t) (fun q => base ≤ q)) 4 24 (fun q => base ≤ q) := by
  refine va_MetW (cc := cL_suspectAt) (maxL := 6) (ret := (some .int)) (by decide) rfl ?_
  intro p e s m args below meth c s₁ B hml hv
  obtain ⟨rfl, hPW⟩ := hv
  obtain ⟨hbs, hJ, hP, hK, hE⟩ := id hPW
  have hx := B.exec
  have hb := B.bytes
  have hr := B.returns
  have hts := atoms_spec (ws := wsL_suspectAt) B.pre
  have hown : s.vm.findClass RL = some m.cls := findClass_of_methodNamed B.named
  have hlocks := B.notSynchronized
  have hTB : c.exceptionTable.toList = tableOf [(0, 12, 15, 13), (0, 12, 19, 24)] := vx_table (x := yL_suspectAt) B (hts _ List.mem_cons_self)
  have hS : va_S (fun q : Nat => base ≤ q) s.heap s.heap [] := va_S.rf
  have hl := lv_entry ([.ref (L 0), .int p0, .int p1, .int p2, .ref (L 123)]) (n := 6) (Nat.le_of_ble_eq_true rfl)
  rw [lg_entry_eq]
  generalize (lg_sl ([.ref (L 0), .int p0, .int p1, .int p2, .ref (L 123)]) ++ List.replicate (6 - (lg_sl ([.ref (L 0), .int p0, .int p1, .int p2, .ref (L 123)])).length) Slot.unset).toArray = ls at hl ⊢
  have hl : lv_has ls 6 [(0, .ref (L 0)), (1, .int p0), (2, .int p1), (3, .int p2), (4, .ref (L 123))] := hl
  refine lv_aload hx hb dL_suspectAt_0 (lv_at hl 4 rfl) ?_
  refine lv_iconst (v := 0) hx hb dL_suspectAt_2 (by decide) ?_
  refine lv_aload_n hx hb dL_suspectAt_3 rfl (lv_at hl 0 rfl) ?_
  refine lv_iload_n hx hb dL_suspectAt_4 rfl (lv_at hl 1 rfl) ?_
  refine lv_iload_n hx hb dL_suspectAt_5 rfl (lv_at hl 2 rfl) ?_
  refine lv_iload_n hx hb dL_suspectAt_6 rfl (lv_at hl 3 rfl) ?_
  refine wx_xcalli (vx_runV (As := [.int p0, .int p1, .int p2]) (rest := [.int 0, .ref (L 123)]) ⟨hx, hb, hml, hown, hts⟩ (kp_suspectAt l hst g base n L (by omega) x r0 hx0 hx1 hx2 hx3 p0 p1 p2) (cwV 3 hts gL_suspectAt_X3_suspectAt rfl rfl rfl (by decide +kernel) ⟨Nat.le_of_ble_eq_true rfl, Nat.le_of_ble_eq_true rfl⟩) (hPW.preV hP hS (ci := 5) rfl (by omega) cw_d) rfl rfl hl.1 rfl (lv_room (Nat.le_of_ble_eq_true rfl)) dL_suspectAt_7 ⟨Nat.le_of_ble_eq_true rfl, Nat.le_of_ble_eq_true rfl⟩) hS (fun E ce q9 H locs hpx hP hS h1 h2 h3 => ?_) (fun r7 u7 H locs h7 hP hS => ?_)
  · rcases hpx with ⟨rfl, hb9⟩ | ⟨rfl, hb9⟩
    · refine vx_catch (own := RL) (name := "java/lang/IllegalArgumentException") hown [] ⟨0, 12, 15, 13⟩ [⟨0, 12, 19, 24⟩] (hTB.trans rfl) (fun _ h => nomatch h) (by decide) (by decide) (hts (.classLink RL 13 "java/lang/IllegalArgumentException") (by decide +kernel)) (va_Nw.use rfl (hE.1 _ (ng_in (w := .castable "java/lang/IllegalArgumentException" "java/lang/IllegalArgumentException") (by decide +kernel)))) h1 h2 h3 ?_
      refine lv_astore (lv' := [(5, .ref q9), (0, .ref (L 0)), (1, .int p0), (2, .int p1), (3, .int p2), (4, .ref (L 123))]) hx hb dL_suspectAt_15 hl (by decide) rfl (fun ls hl => ?_)
      refine lv_iconst (v := 1) hx hb dL_suspectAt_17 (by decide) ?_
      refine W.widen (k := 4) (n := 24) (Nat.le_of_ble_eq_true rfl) (Nat.le_of_ble_eq_true rfl) ?_
      exact W.iret (v := 1) hx hb hr (fun t ht hW => ⟨⟨1, (x, r0), rfl, Or.inl ⟨hb9, rfl, rfl⟩, PB.mk9 hP ht⟩, hS.F ht⟩) hS.2.2 dL_suspectAt_18
    · refine vx_catch (own := RL) (name := "java/lang/IndexOutOfBoundsException") hown [⟨0, 12, 15, 13⟩] ⟨0, 12, 19, 24⟩ [] (hTB.trans rfl) (fun z hz => by rcases List.mem_singleton.mp hz with rfl; exact Or.inr ⟨by decide, "java/lang/IllegalArgumentException", hts (.classLink RL 13 "java/lang/IllegalArgumentException") (by decide +kernel), hE.2.2.2.2 ("java/lang/IndexOutOfBoundsException", "java/lang/IllegalArgumentException") (by decide +kernel)⟩) (by decide) (by decide) (va_Nw.use rfl (hE.1 _ (ng_in (w := .classLink RL 24 "java/lang/IndexOutOfBoundsException") (by decide +kernel)))) (va_Nw.use rfl (hE.1 _ (ng_in (w := .castable "java/lang/IndexOutOfBoundsException" "java/lang/IndexOutOfBoundsException") (by decide +kernel)))) h1 h2 h3 ?_
      refine lv_astore (lv' := [(5, .ref q9), (0, .ref (L 0)), (1, .int p0), (2, .int p1), (3, .int p2), (4, .ref (L 123))]) hx hb dL_suspectAt_19 hl (by decide) rfl (fun ls hl => ?_)
      refine lv_iconst (v := 2) hx hb dL_suspectAt_21 (by decide) ?_
      refine W.widen (k := 4) (n := 24) (Nat.le_of_ble_eq_true rfl) (Nat.le_of_ble_eq_true rfl) ?_
      exact W.iret (v := 2) hx hb hr (fun t ht hW => ⟨⟨2, (x, r0), rfl, Or.inr ⟨hb9, rfl, rfl⟩, PB.mk9 hP ht⟩, hS.F ht⟩) hS.2.2 dL_suspectAt_22
  exact absurd h7 (fun h => h)

set_option maxHeartbeats 4000000 in
set_option maxRecDepth 100000 in
theorem kl_go (l : Launch) (hst : l.stackTraces = false) (g : gE) (base n : Nat) (L : Nat → Nat) (hn : 125 ≤ n) (x : St) (r0 : Nat → va_E) (hx0 : x 0 0 0 = nI 0) (hx1 : x 1 0 0 = nI 0) (hx2 : x 2 0 0 = 2) (hx3 : x 3 0 0 = nI 0) (f : Nat → Int64) (ho : r0 123 = .inl (g.2 4, 1, .inr (.inl f))) (p0 : Int32) : Met l yL_go wsL_go ({ frames := 12, cells := 4, slots := 24, locals := 260 }) (va_Pc [.ref (L 0), .int p0, .ref (L 123)] (PW SS g base n L (cw g L x r0))) (va_Qi (fun (r : Int32) (u : St × (Nat → va_E)) => ((p0.toInt < 1 ∨ 48 < p0.toInt) ∧ r = 1 ∧ u.2 = r0) ∨ (¬ (p0.toInt < 1 ∨ 48 < p0.toInt) ∧ r = 0 ∧ u.2 = va_up r0 123 (oL g f (p0 : Int32).toInt64))) (fun (u : St × (Nat → va_E)) t => PB g n L (cw g L u.1 u.2) t) (fun q => base ≤ q)) 4 24 (fun q => base ≤ q) := by
  refine va_MetW (cc := cL_go) (maxL := 4) (ret := (some .int)) (by decide) rfl ?_
  intro p e s m args below meth c s₁ B hml hv
  obtain ⟨rfl, hPW⟩ := hv
  obtain ⟨hbs, hJ, hP, hK, hE⟩ := id hPW
  have hx := B.exec
  have hb := B.bytes
  have hr := B.returns
  have hts := atoms_spec (ws := wsL_go) B.pre
  have hown : s.vm.findClass RL = some m.cls := findClass_of_methodNamed B.named
  have hlocks := B.notSynchronized
  have hTB : c.exceptionTable.toList = tableOf [(0, 9, 12, 13), (0, 9, 15, 15)] := vx_table (x := yL_go) B (hts _ List.mem_cons_self)
  have hS : va_S (fun q : Nat => base ≤ q) s.heap s.heap [] := va_S.rf
  have hl := lv_entry ([.ref (L 0), .int p0, .ref (L 123)]) (n := 4) (Nat.le_of_ble_eq_true rfl)
  rw [lg_entry_eq]
  generalize (lg_sl ([.ref (L 0), .int p0, .ref (L 123)]) ++ List.replicate (4 - (lg_sl ([.ref (L 0), .int p0, .ref (L 123)])).length) Slot.unset).toArray = ls at hl ⊢
  have hl : lv_has ls 4 [(0, .ref (L 0)), (1, .int p0), (2, .ref (L 123))] := hl
  refine lv_aload_n hx hb dL_go_0 rfl (lv_at hl 2 rfl) ?_
  refine lv_iconst (v := 0) hx hb dL_go_1 (by decide) ?_
  refine lv_aload_n hx hb dL_go_2 rfl (lv_at hl 0 rfl) ?_
  refine lv_iload_n hx hb dL_go_3 rfl (lv_at hl 1 rfl) ?_
  refine wx_xcalli (vx_runV (As := [.int p0]) (rest := [.int 0, .ref (L 123)]) ⟨hx, hb, hml, hown, hts⟩ (kp_go l hst g base n L (by omega) x r0 hx0 hx1 hx2 hx3 p0) (cwV 1 hts gL_go_X3_go rfl rfl rfl (by decide +kernel) ⟨Nat.le_of_ble_eq_true rfl, Nat.le_of_ble_eq_true rfl⟩) (hPW.preV hP hS (ci := 5) rfl (by omega) cw_d) rfl rfl hl.1 rfl (lv_room (Nat.le_of_ble_eq_true rfl)) dL_go_4 ⟨Nat.le_of_ble_eq_true rfl, Nat.le_of_ble_eq_true rfl⟩) hS (fun E ce q9 H locs hpx hP hS h1 h2 h3 => ?_) (fun r4 u4 H locs h4 hP hS => ?_)
  · obtain ⟨rfl, hb9⟩ := hpx
    refine vx_catch (own := RL) (name := "java/lang/IllegalArgumentException") hown [] ⟨0, 9, 12, 13⟩ [⟨0, 9, 15, 15⟩] (hTB.trans rfl) (fun _ h => nomatch h) (by decide) (by decide) (hts (.classLink RL 13 "java/lang/IllegalArgumentException") (by decide +kernel)) (va_Nw.use rfl (hE.1 _ (ng_in (w := .castable "java/lang/IllegalArgumentException" "java/lang/IllegalArgumentException") (by decide +kernel)))) h1 h2 h3 ?_
    refine lv_astore_n (lv' := [(3, .ref q9), (0, .ref (L 0)), (1, .int p0), (2, .ref (L 123))]) hx hb dL_go_12 rfl hl (by decide) rfl (fun ls hl => ?_)
    refine lv_iconst (v := 1) hx hb dL_go_13 (by decide) ?_
    refine W.widen (k := 4) (n := 24) (Nat.le_of_ble_eq_true rfl) (Nat.le_of_ble_eq_true rfl) ?_
    exact W.iret (v := 1) hx hb hr (fun t ht hW => ⟨⟨1, (x, r0), rfl, Or.inl ⟨hb9, rfl, rfl⟩, PB.mk9 hP ht⟩, hS.F ht⟩) hS.2.2 dL_go_14
  obtain ⟨hb9, er9⟩ := h4
  refine lv_i2l hx hb dL_go_7 rfl ?_
  refine wx_last (D := g.1) (cl := vwCl) (f := f) (w' := cw g L u4 (va_up r0 123 (.inl (g.2 4, 1, .inr (.inl (vp_updL f (0 : Int32).toNatClampNeg r4.toInt64)))))) hx hb hK hP hJ hS (123) 4 (by omega) ((cw_ge (by decide)).trans ho) rfl (i := 0) (vp_in_nI (n := 0) (by decide) (by decide)) dL_go_8 (cw_rest (by decide)) (fun H locs hP hS => ?_)
  refine lv_goto (tgt := 18) hx hb dL_go_9 (by decide) ?_
  refine lv_iconst (v := 0) hx hb dL_go_18 (by decide) ?_
  refine W.widen (k := 4) (n := 24) (Nat.le_of_ble_eq_true rfl) (Nat.le_of_ble_eq_true rfl) ?_
  exact W.iret (v := 0) hx hb hr (fun t ht hW => ⟨⟨0, (u4, va_up r0 123 (.inl (g.2 4, 1, .inr (.inl (vp_updL f (0 : Int32).toNatClampNeg r4.toInt64))))), rfl, Or.inr ⟨hb9, rfl, by rw [er9]; rfl⟩, PB.mk9 hP ht⟩, hS.F ht⟩) hS.2.2 dL_go_19

set_option maxHeartbeats 4000000 in
set_option maxRecDepth 100000 in
theorem kl_cellAnew (l : Launch) (hst : l.stackTraces = false) (g : gE) (base n : Nat) (L : Nat → Nat) (hn : 125 ≤ n) (x : St) (r0 : Nat → va_E) (hx0 : x 0 0 0 = nI 0) (hx1 : x 1 0 0 = nI 0) (hx2 : x 2 0 0 = 2) (hx3 : x 3 0 0 = nI 0) (f : Nat → Int64) (ho : r0 123 = .inl (g.2 4, 1, .inr (.inl f))) (p0 p1 p2 : Int32) : Met l yL_cellAnew wsL_cellAnew ({ frames := 12, cells := 4, slots := 24, locals := 260 }) (va_Pc [.ref (L 0), .int p0, .int p1, .int p2, .ref (L 123)] (PW SS g base n L (cw g L x r0))) (va_Qi (fun (r : Int32) (u : St × (Nat → va_E)) => r = 1 ∧ u.2 = r0) (fun (u : St × (Nat → va_E)) t => PB g n L (cw g L u.1 u.2) t) (fun q => base ≤ q)) 4 24 (fun q => base ≤ q) := by
  refine va_MetW (cc := cL_cellAnew) (maxL := 6) (ret := (some .int)) (by decide) rfl ?_
  intro p e s m args below meth c s₁ B hml hv
  obtain ⟨rfl, hPW⟩ := hv
  obtain ⟨hbs, hJ, hP, hK, hE⟩ := id hPW
  have hx := B.exec
  have hb := B.bytes
  have hr := B.returns
  have hts := atoms_spec (ws := wsL_cellAnew) B.pre
  have hown : s.vm.findClass RL = some m.cls := findClass_of_methodNamed B.named
  have hlocks := B.notSynchronized
  have hTB : c.exceptionTable.toList = tableOf [(0, 12, 15, 24)] := vx_table (x := yL_cellAnew) B (hts _ List.mem_cons_self)
  have hS : va_S (fun q : Nat => base ≤ q) s.heap s.heap [] := va_S.rf
  have hl := lv_entry ([.ref (L 0), .int p0, .int p1, .int p2, .ref (L 123)]) (n := 6) (Nat.le_of_ble_eq_true rfl)
  rw [lg_entry_eq]
  generalize (lg_sl ([.ref (L 0), .int p0, .int p1, .int p2, .ref (L 123)]) ++ List.replicate (6 - (lg_sl ([.ref (L 0), .int p0, .int p1, .int p2, .ref (L 123)])).length) Slot.unset).toArray = ls at hl ⊢
  have hl : lv_has ls 6 [(0, .ref (L 0)), (1, .int p0), (2, .int p1), (3, .int p2), (4, .ref (L 123))] := hl
  refine lv_aload hx hb dL_cellAnew_0 (lv_at hl 4 rfl) ?_
  refine lv_iconst (v := 0) hx hb dL_cellAnew_2 (by decide) ?_
  refine lv_aload_n hx hb dL_cellAnew_3 rfl (lv_at hl 0 rfl) ?_
  refine lv_iload_n hx hb dL_cellAnew_4 rfl (lv_at hl 1 rfl) ?_
  refine lv_iload_n hx hb dL_cellAnew_5 rfl (lv_at hl 2 rfl) ?_
  refine lv_iload_n hx hb dL_cellAnew_6 rfl (lv_at hl 3 rfl) ?_
  refine wx_xcalli (vx_runV (As := [.int p0, .int p1, .int p2]) (rest := [.int 0, .ref (L 123)]) ⟨hx, hb, hml, hown, hts⟩ (kp_cellAnew l hst g base n L (by omega) x r0 hx0 hx1 hx2 hx3 p0 p1 p2) (cwV 3 hts gL_cellAnew_X3_cellAnew rfl rfl rfl (by decide +kernel) ⟨Nat.le_of_ble_eq_true rfl, Nat.le_of_ble_eq_true rfl⟩) (hPW.preV hP hS (ci := 5) rfl (by omega) cw_d) rfl rfl hl.1 rfl (lv_room (Nat.le_of_ble_eq_true rfl)) dL_cellAnew_7 ⟨Nat.le_of_ble_eq_true rfl, Nat.le_of_ble_eq_true rfl⟩) hS (fun E ce q9 H locs hpx hP hS h1 h2 h3 => ?_) (fun r7 u7 H locs h7 hP hS => ?_)
  · obtain rfl := hpx
    refine vx_catch (own := RL) (name := "java/lang/IndexOutOfBoundsException") hown [] ⟨0, 12, 15, 24⟩ [] (hTB.trans rfl) (fun _ h => nomatch h) (by decide) (by decide) (hts (.classLink RL 24 "java/lang/IndexOutOfBoundsException") (by decide +kernel)) (va_Nw.use rfl (hE.1 _ (ng_in (w := .castable "java/lang/IndexOutOfBoundsException" "java/lang/IndexOutOfBoundsException") (by decide +kernel)))) h1 h2 h3 ?_
    refine lv_astore (lv' := [(5, .ref q9), (0, .ref (L 0)), (1, .int p0), (2, .int p1), (3, .int p2), (4, .ref (L 123))]) hx hb dL_cellAnew_15 hl (by decide) rfl (fun ls hl => ?_)
    refine lv_iconst (v := 1) hx hb dL_cellAnew_17 (by decide) ?_
    refine W.widen (k := 4) (n := 24) (Nat.le_of_ble_eq_true rfl) (Nat.le_of_ble_eq_true rfl) ?_
    exact W.iret (v := 1) hx hb hr (fun t ht hW => ⟨⟨1, (x, r0), rfl, ⟨rfl, rfl⟩, PB.mk9 hP ht⟩, hS.F ht⟩) hS.2.2 dL_cellAnew_18
  exact absurd h7 (fun h => h)

set_option maxHeartbeats 4000000 in
set_option maxRecDepth 100000 in
theorem kl_worst (l : Launch) (hst : l.stackTraces = false) (g : gE) (base n : Nat) (L : Nat → Nat) (hn : 125 ≤ n) (x : St) (r0 : Nat → va_E) (hx0 : x 0 0 0 = nI 0) (hx1 : x 1 0 0 = nI 0) (hx2 : x 2 0 0 = 2) (hx3 : x 3 0 0 = nI 0) (f : Nat → Int64) (ho : r0 123 = .inl (g.2 4, 1, .inr (.inl f))) (p0 : Int32) : Met l yL_worst wsL_worst ({ frames := 12, cells := 4, slots := 24, locals := 260 }) (va_Pc [.ref (L 0), .int p0, .ref (L 123)] (PW SS g base n L (cw g L x r0))) (va_Qi (fun (r : Int32) (u : St × (Nat → va_E)) => r = 1 ∧ u.2 = r0) (fun (u : St × (Nat → va_E)) t => PB g n L (cw g L u.1 u.2) t) (fun q => base ≤ q)) 4 24 (fun q => base ≤ q) := by
  refine va_MetW (cc := cL_worst) (maxL := 4) (ret := (some .int)) (by decide) rfl ?_
  intro p e s m args below meth c s₁ B hml hv
  obtain ⟨rfl, hPW⟩ := hv
  obtain ⟨hbs, hJ, hP, hK, hE⟩ := id hPW
  have hx := B.exec
  have hb := B.bytes
  have hr := B.returns
  have hts := atoms_spec (ws := wsL_worst) B.pre
  have hown : s.vm.findClass RL = some m.cls := findClass_of_methodNamed B.named
  have hlocks := B.notSynchronized
  have hTB : c.exceptionTable.toList = tableOf [(0, 9, 12, 24)] := vx_table (x := yL_worst) B (hts _ List.mem_cons_self)
  have hS : va_S (fun q : Nat => base ≤ q) s.heap s.heap [] := va_S.rf
  have hl := lv_entry ([.ref (L 0), .int p0, .ref (L 123)]) (n := 4) (Nat.le_of_ble_eq_true rfl)
  rw [lg_entry_eq]
  generalize (lg_sl ([.ref (L 0), .int p0, .ref (L 123)]) ++ List.replicate (4 - (lg_sl ([.ref (L 0), .int p0, .ref (L 123)])).length) Slot.unset).toArray = ls at hl ⊢
  have hl : lv_has ls 4 [(0, .ref (L 0)), (1, .int p0), (2, .ref (L 123))] := hl
  refine lv_aload_n hx hb dL_worst_0 rfl (lv_at hl 2 rfl) ?_
  refine lv_iconst (v := 0) hx hb dL_worst_1 (by decide) ?_
  refine lv_aload_n hx hb dL_worst_2 rfl (lv_at hl 0 rfl) ?_
  refine lv_iload_n hx hb dL_worst_3 rfl (lv_at hl 1 rfl) ?_
  refine wx_xcalli (vx_runV (As := [.int p0]) (rest := [.int 0, .ref (L 123)]) ⟨hx, hb, hml, hown, hts⟩ (kp_worst l hst g base n L (by omega) x r0 hx0 hx1 hx2 hx3 p0) (cwV 1 hts gL_worst_X3_worst rfl rfl rfl (by decide +kernel) ⟨Nat.le_of_ble_eq_true rfl, Nat.le_of_ble_eq_true rfl⟩) (hPW.preV hP hS (ci := 5) rfl (by omega) cw_d) rfl rfl hl.1 rfl (lv_room (Nat.le_of_ble_eq_true rfl)) dL_worst_4 ⟨Nat.le_of_ble_eq_true rfl, Nat.le_of_ble_eq_true rfl⟩) hS (fun E ce q9 H locs hpx hP hS h1 h2 h3 => ?_) (fun r4 u4 H locs h4 hP hS => ?_)
  · obtain rfl := hpx
    refine vx_catch (own := RL) (name := "java/lang/IndexOutOfBoundsException") hown [] ⟨0, 9, 12, 24⟩ [] (hTB.trans rfl) (fun _ h => nomatch h) (by decide) (by decide) (hts (.classLink RL 24 "java/lang/IndexOutOfBoundsException") (by decide +kernel)) (va_Nw.use rfl (hE.1 _ (ng_in (w := .castable "java/lang/IndexOutOfBoundsException" "java/lang/IndexOutOfBoundsException") (by decide +kernel)))) h1 h2 h3 ?_
    refine lv_astore_n (lv' := [(3, .ref q9), (0, .ref (L 0)), (1, .int p0), (2, .ref (L 123))]) hx hb dL_worst_12 rfl hl (by decide) rfl (fun ls hl => ?_)
    refine lv_iconst (v := 1) hx hb dL_worst_13 (by decide) ?_
    refine W.widen (k := 4) (n := 24) (Nat.le_of_ble_eq_true rfl) (Nat.le_of_ble_eq_true rfl) ?_
    exact W.iret (v := 1) hx hb hr (fun t ht hW => ⟨⟨1, (x, r0), rfl, ⟨rfl, rfl⟩, PB.mk9 hP ht⟩, hS.F ht⟩) hS.2.2 dL_worst_14
  exact absurd h4 (fun h => h)

set_option maxHeartbeats 4000000 in
set_option maxRecDepth 100000 in
theorem kl_shownShare (l : Launch) (hst : l.stackTraces = false) (g : gE) (base n : Nat) (L : Nat → Nat) (hn : 125 ≤ n) (x : St) (r0 : Nat → va_E) (hx0 : x 0 0 0 = nI 0) (hx1 : x 1 0 0 = nI 0) (hx2 : x 2 0 0 = 2) (hx3 : x 3 0 0 = nI 0) (f : Nat → Int64) (ho : r0 123 = .inl (g.2 4, 1, .inr (.inl f)))  : Met l yL_shownShare wsL_shownShare ({ frames := 12, cells := 4, slots := 24, locals := 260 }) (va_Pc [.ref (L 0), .ref (L 124)] (PW SS g base n L (cw g L x r0))) (va_Qi (fun (r : Int32) (u : St × (Nat → va_E)) => r = 1 ∧ u.2 = r0) (fun (u : St × (Nat → va_E)) t => PB g n L (cw g L u.1 u.2) t) (fun q => base ≤ q)) 4 24 (fun q => base ≤ q) := by
  refine va_MetW (cc := cL_shownShare) (maxL := 3) (ret := (some .int)) (by decide) rfl ?_
  intro p e s m args below meth c s₁ B hml hv
  obtain ⟨rfl, hPW⟩ := hv
  obtain ⟨hbs, hJ, hP, hK, hE⟩ := id hPW
  have hx := B.exec
  have hb := B.bytes
  have hr := B.returns
  have hts := atoms_spec (ws := wsL_shownShare) B.pre
  have hown : s.vm.findClass RL = some m.cls := findClass_of_methodNamed B.named
  have hlocks := B.notSynchronized
  have hTB : c.exceptionTable.toList = tableOf [(0, 8, 11, 99)] := vx_table (x := yL_shownShare) B (hts _ List.mem_cons_self)
  have hS : va_S (fun q : Nat => base ≤ q) s.heap s.heap [] := va_S.rf
  have hl := lv_entry ([.ref (L 0), .ref (L 124)]) (n := 3) (Nat.le_of_ble_eq_true rfl)
  rw [lg_entry_eq]
  generalize (lg_sl ([.ref (L 0), .ref (L 124)]) ++ List.replicate (3 - (lg_sl ([.ref (L 0), .ref (L 124)])).length) Slot.unset).toArray = ls at hl ⊢
  have hl : lv_has ls 3 [(0, .ref (L 0)), (1, .ref (L 124))] := hl
  refine lv_aload_n hx hb dL_shownShare_0 rfl (lv_at hl 1 rfl) ?_
  refine lv_iconst (v := 0) hx hb dL_shownShare_1 (by decide) ?_
  refine lv_aload_n hx hb dL_shownShare_2 rfl (lv_at hl 0 rfl) ?_
  refine wx_xcallf (vx_runV (As := []) (rest := [.int 0, .ref (L 124)]) ⟨hx, hb, hml, hown, hts⟩ (kp_shownShare l hst g base n L (by omega) x r0 hx0 hx1 hx2 hx3 ) (cwV 0 hts gL_shownShare_X3_shownShare rfl rfl rfl (by decide +kernel) ⟨Nat.le_of_ble_eq_true rfl, Nat.le_of_ble_eq_true rfl⟩) (hPW.preV hP hS (ci := 5) rfl (by omega) cw_d) rfl rfl hl.1 rfl (lv_room (Nat.le_of_ble_eq_true rfl)) dL_shownShare_3 ⟨Nat.le_of_ble_eq_true rfl, Nat.le_of_ble_eq_true rfl⟩) hS (fun E ce q9 H locs hpx hP hS h1 h2 h3 => ?_) (fun r3 u3 H locs h3 hP hS => ?_)
  · obtain rfl := hpx
    refine vx_catch (own := RL) (name := "java/lang/ArithmeticException") hown [] ⟨0, 8, 11, 99⟩ [] (hTB.trans rfl) (fun _ h => nomatch h) (by decide) (by decide) (hts (.classLink RL 99 "java/lang/ArithmeticException") (by decide +kernel)) (va_Nw.use rfl (hE.1 _ (ng_in (w := .castable "java/lang/ArithmeticException" "java/lang/ArithmeticException") (by decide +kernel)))) h1 h2 h3 ?_
    refine lv_astore_n (lv' := [(2, .ref q9), (0, .ref (L 0)), (1, .ref (L 124))]) hx hb dL_shownShare_11 rfl hl (by decide) rfl (fun ls hl => ?_)
    refine lv_iconst (v := 1) hx hb dL_shownShare_12 (by decide) ?_
    refine W.widen (k := 4) (n := 24) (Nat.le_of_ble_eq_true rfl) (Nat.le_of_ble_eq_true rfl) ?_
    exact W.iret (v := 1) hx hb hr (fun t ht hW => ⟨⟨1, (x, r0), rfl, ⟨rfl, rfl⟩, PB.mk9 hP ht⟩, hS.F ht⟩) hS.2.2 dL_shownShare_13
  exact absurd h3 (fun h => h)

set_option maxHeartbeats 4000000 in
set_option maxRecDepth 100000 in
theorem kl_meanWear (l : Launch) (hst : l.stackTraces = false) (g : gE) (base n : Nat) (L : Nat → Nat) (hn : 125 ≤ n) (x : St) (r0 : Nat → va_E) (hx0 : x 0 0 0 = nI 0) (hx1 : x 1 0 0 = nI 0) (hx2 : x 2 0 0 = 2) (hx3 : x 3 0 0 = nI 0) (f : Nat → Int64) (ho : r0 123 = .inl (g.2 4, 1, .inr (.inl f)))  : Met l yL_meanWear wsL_meanWear ({ frames := 12, cells := 4, slots := 24, locals := 260 }) (va_Pc [.ref (L 0), .ref (L 124)] (PW SS g base n L (cw g L x r0))) (va_Qi (fun (r : Int32) (u : St × (Nat → va_E)) => r = 1 ∧ u.2 = r0) (fun (u : St × (Nat → va_E)) t => PB g n L (cw g L u.1 u.2) t) (fun q => base ≤ q)) 4 24 (fun q => base ≤ q) := by
  refine va_MetW (cc := cL_meanWear) (maxL := 3) (ret := (some .int)) (by decide) rfl ?_
  intro p e s m args below meth c s₁ B hml hv
  obtain ⟨rfl, hPW⟩ := hv
  obtain ⟨hbs, hJ, hP, hK, hE⟩ := id hPW
  have hx := B.exec
  have hb := B.bytes
  have hr := B.returns
  have hts := atoms_spec (ws := wsL_meanWear) B.pre
  have hown : s.vm.findClass RL = some m.cls := findClass_of_methodNamed B.named
  have hlocks := B.notSynchronized
  have hTB : c.exceptionTable.toList = tableOf [(0, 7, 10, 99)] := vx_table (x := yL_meanWear) B (hts _ List.mem_cons_self)
  have hS : va_S (fun q : Nat => base ≤ q) s.heap s.heap [] := va_S.rf
  have hl := lv_entry ([.ref (L 0), .ref (L 124)]) (n := 3) (Nat.le_of_ble_eq_true rfl)
  rw [lg_entry_eq]
  generalize (lg_sl ([.ref (L 0), .ref (L 124)]) ++ List.replicate (3 - (lg_sl ([.ref (L 0), .ref (L 124)])).length) Slot.unset).toArray = ls at hl ⊢
  have hl : lv_has ls 3 [(0, .ref (L 0)), (1, .ref (L 124))] := hl
  refine lv_aload_n hx hb dL_meanWear_0 rfl (lv_at hl 1 rfl) ?_
  refine lv_iconst (v := 0) hx hb dL_meanWear_1 (by decide) ?_
  refine lv_aload_n hx hb dL_meanWear_2 rfl (lv_at hl 0 rfl) ?_
  refine wx_xcalld (vx_runV (As := []) (rest := [.int 0, .ref (L 124)]) ⟨hx, hb, hml, hown, hts⟩ (kp_meanWear l hst g base n L (by omega) x r0 hx0 hx1 hx2 hx3 ) (cwV 0 hts gL_meanWear_X3_meanWear rfl rfl rfl (by decide +kernel) ⟨Nat.le_of_ble_eq_true rfl, Nat.le_of_ble_eq_true rfl⟩) (hPW.preV hP hS (ci := 5) rfl (by omega) cw_d) rfl rfl hl.1 rfl (lv_room (Nat.le_of_ble_eq_true rfl)) dL_meanWear_3 ⟨Nat.le_of_ble_eq_true rfl, Nat.le_of_ble_eq_true rfl⟩) hS (fun E ce q9 H locs hpx hP hS h1 h2 h3 => ?_) (fun r3 u3 H locs h3 hP hS => ?_)
  · obtain rfl := hpx
    refine vx_catch (own := RL) (name := "java/lang/ArithmeticException") hown [] ⟨0, 7, 10, 99⟩ [] (hTB.trans rfl) (fun _ h => nomatch h) (by decide) (by decide) (hts (.classLink RL 99 "java/lang/ArithmeticException") (by decide +kernel)) (va_Nw.use rfl (hE.1 _ (ng_in (w := .castable "java/lang/ArithmeticException" "java/lang/ArithmeticException") (by decide +kernel)))) h1 h2 h3 ?_
    refine lv_astore_n (lv' := [(2, .ref q9), (0, .ref (L 0)), (1, .ref (L 124))]) hx hb dL_meanWear_10 rfl hl (by decide) rfl (fun ls hl => ?_)
    refine lv_iconst (v := 1) hx hb dL_meanWear_11 (by decide) ?_
    refine W.widen (k := 4) (n := 24) (Nat.le_of_ble_eq_true rfl) (Nat.le_of_ble_eq_true rfl) ?_
    exact W.iret (v := 1) hx hb hr (fun t ht hW => ⟨⟨1, (x, r0), rfl, ⟨rfl, rfl⟩, PB.mk9 hP ht⟩, hS.F ht⟩) hS.2.2 dL_meanWear_12
  exact absurd h3 (fun h => h)
