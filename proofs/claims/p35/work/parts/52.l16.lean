/-! laid by wip/gen -/
set_option maxHeartbeats 4000000 in
set_option maxRecDepth 100000 in
theorem k_hour (l : Launch) (hst : l.stackTraces = false) (g : gE) (base n : Nat) (L : Nat → Nat) (hn : 106 ≤ n) (x : St) (r0 : Nat → va_E)  : Met l yX3_hour wsX3_hour ({ frames := 0, cells := 0, slots := 0, locals := 0 }) (va_Pc [.ref (L 0)] (PW SS g base n L (cw g L x r0))) (va_Qi (fun (r : Int32) (_ : Unit) => r = x 3 0 0) (fun (u : Unit) t => PB g n L (cw g L x r0) t) (fun q => base ≤ q)) 0 0 (fun q => base ≤ q) := by
  refine Met.ofW (cc := cX3_hour) (maxL := 1) (ret := (some .int)) (by decide) rfl ?_
  intro p e s m args below meth c s₁ B hml hv
  obtain ⟨rfl, hPW⟩ := hv
  obtain ⟨hbs, hJ, hP, hK, hE⟩ := id hPW
  have hx := B.exec
  have hb := B.bytes
  have hr := B.returns
  have hts := atoms_spec (ws := wsX3_hour) B.pre
  have hown : s.vm.findClass RX3 = some m.cls := findClass_of_methodNamed B.named
  have hlocks := B.notSynchronized
  have hS : va_S (fun q : Nat => base ≤ q) s.heap s.heap [] := va_S.rf
  have hl := lv_entry ([.ref (L 0)]) (n := 1) (Nat.le_of_ble_eq_true rfl)
  rw [lg_entry_eq]
  generalize (lg_sl ([.ref (L 0)]) ++ List.replicate (1 - (lg_sl ([.ref (L 0)])).length) Slot.unset).toArray = ls at hl ⊢
  have hl : lv_has ls 1 [(0, .ref (L 0))] := hl
  have iX3 : ∀ w ∈ wsX30, w ∈ wsX3_hour := by decide +kernel
  refine lv_aload_n hx hb dX3_hour_0 rfl (lv_at hl 0 rfl) ?_
  refine wx_get (D := g.1) (cl := vwCl) (ci := 5) (v := .int (x 3 0 0)) (C := RX3) (T := TX3) (N := 8) hx hb hts iX3 hown hK hP (0) (by omega) cw_d rfl 7 (by decide) (hts (.fieldLink RX3 41 "FerroDesk" "hour" "I") (by decide +kernel)) (fun _ h9 => h9) rfl dX3_hour_1 ?_
  refine W.widen (k := 0) (n := 0) (Nat.le_of_ble_eq_true rfl) (Nat.le_of_ble_eq_true rfl) ?_
  exact W.iret (v := x 3 0 0) hx hb hr (fun t ht hW => ⟨⟨x 3 0 0, (), rfl, rfl, PB.mk9 hP ht⟩, hS.F ht⟩) hS.2.2 dX3_hour_4

set_option maxHeartbeats 4000000 in
set_option maxRecDepth 100000 in
theorem k_boards (l : Launch) (hst : l.stackTraces = false) (g : gE) (base n : Nat) (L : Nat → Nat) (hn : 106 ≤ n) (x : St) (r0 : Nat → va_E)  : Met l yX3_boards wsX3_boards ({ frames := 0, cells := 0, slots := 0, locals := 0 }) (va_Pc [.ref (L 0)] (PW SS g base n L (cw g L x r0))) (va_Qi (fun (r : Int32) (_ : Unit) => r = x 0 0 0) (fun (u : Unit) t => PB g n L (cw g L x r0) t) (fun q => base ≤ q)) 0 0 (fun q => base ≤ q) := by
  refine Met.ofW (cc := cX3_boards) (maxL := 1) (ret := (some .int)) (by decide) rfl ?_
  intro p e s m args below meth c s₁ B hml hv
  obtain ⟨rfl, hPW⟩ := hv
  obtain ⟨hbs, hJ, hP, hK, hE⟩ := id hPW
  have hx := B.exec
  have hb := B.bytes
  have hr := B.returns
  have hts := atoms_spec (ws := wsX3_boards) B.pre
  have hown : s.vm.findClass RX3 = some m.cls := findClass_of_methodNamed B.named
  have hlocks := B.notSynchronized
  have hS : va_S (fun q : Nat => base ≤ q) s.heap s.heap [] := va_S.rf
  have hl := lv_entry ([.ref (L 0)]) (n := 1) (Nat.le_of_ble_eq_true rfl)
  rw [lg_entry_eq]
  generalize (lg_sl ([.ref (L 0)]) ++ List.replicate (1 - (lg_sl ([.ref (L 0)])).length) Slot.unset).toArray = ls at hl ⊢
  have hl : lv_has ls 1 [(0, .ref (L 0))] := hl
  have iX3 : ∀ w ∈ wsX30, w ∈ wsX3_boards := by decide +kernel
  refine lv_aload_n hx hb dX3_boards_0 rfl (lv_at hl 0 rfl) ?_
  refine wx_get (D := g.1) (cl := vwCl) (ci := 5) (v := .int (x 0 0 0)) (C := RX3) (T := TX3) (N := 8) hx hb hts iX3 hown hK hP (0) (by omega) cw_d rfl 1 (by decide) (hts (.fieldLink RX3 15 "FerroDesk" "boardCount" "I") (by decide +kernel)) (fun _ h9 => h9) rfl dX3_boards_1 ?_
  refine W.widen (k := 0) (n := 0) (Nat.le_of_ble_eq_true rfl) (Nat.le_of_ble_eq_true rfl) ?_
  exact W.iret (v := x 0 0 0) hx hb hr (fun t ht hW => ⟨⟨x 0 0 0, (), rfl, rfl, PB.mk9 hP ht⟩, hS.F ht⟩) hS.2.2 dX3_boards_4

set_option maxHeartbeats 4000000 in
set_option maxRecDepth 100000 in
theorem k_notices (l : Launch) (hst : l.stackTraces = false) (g : gE) (base n : Nat) (L : Nat → Nat) (hn : 106 ≤ n) (x : St) (r0 : Nat → va_E)  : Met l yX3_notices wsX3_notices ({ frames := 0, cells := 0, slots := 0, locals := 0 }) (va_Pc [.ref (L 0)] (PW SS g base n L (cw g L x r0))) (va_Qi (fun (r : Int32) (_ : Unit) => r = x 1 0 0) (fun (u : Unit) t => PB g n L (cw g L x r0) t) (fun q => base ≤ q)) 0 0 (fun q => base ≤ q) := by
  refine Met.ofW (cc := cX3_notices) (maxL := 1) (ret := (some .int)) (by decide) rfl ?_
  intro p e s m args below meth c s₁ B hml hv
  obtain ⟨rfl, hPW⟩ := hv
  obtain ⟨hbs, hJ, hP, hK, hE⟩ := id hPW
  have hx := B.exec
  have hb := B.bytes
  have hr := B.returns
  have hts := atoms_spec (ws := wsX3_notices) B.pre
  have hown : s.vm.findClass RX3 = some m.cls := findClass_of_methodNamed B.named
  have hlocks := B.notSynchronized
  have hS : va_S (fun q : Nat => base ≤ q) s.heap s.heap [] := va_S.rf
  have hl := lv_entry ([.ref (L 0)]) (n := 1) (Nat.le_of_ble_eq_true rfl)
  rw [lg_entry_eq]
  generalize (lg_sl ([.ref (L 0)]) ++ List.replicate (1 - (lg_sl ([.ref (L 0)])).length) Slot.unset).toArray = ls at hl ⊢
  have hl : lv_has ls 1 [(0, .ref (L 0))] := hl
  have iX3 : ∀ w ∈ wsX30, w ∈ wsX3_notices := by decide +kernel
  refine lv_aload_n hx hb dX3_notices_0 rfl (lv_at hl 0 rfl) ?_
  refine wx_get (D := g.1) (cl := vwCl) (ci := 5) (v := .int (x 1 0 0)) (C := RX3) (T := TX3) (N := 8) hx hb hts iX3 hown hK hP (0) (by omega) cw_d rfl 4 (by decide) (hts (.fieldLink RX3 28 "FerroDesk" "noticeCount" "I") (by decide +kernel)) (fun _ h9 => h9) rfl dX3_notices_1 ?_
  refine W.widen (k := 0) (n := 0) (Nat.le_of_ble_eq_true rfl) (Nat.le_of_ble_eq_true rfl) ?_
  exact W.iret (v := x 1 0 0) hx hb hr (fun t ht hW => ⟨⟨x 1 0 0, (), rfl, rfl, PB.mk9 hP ht⟩, hS.F ht⟩) hS.2.2 dX3_notices_4

set_option maxHeartbeats 4000000 in
set_option maxRecDepth 100000 in
theorem k_told (l : Launch) (hst : l.stackTraces = false) (g : gE) (base n : Nat) (L : Nat → Nat) (w0 : Nat → va_E) (p0 : Int32) : Met l yL_told wsL_told ({ frames := 0, cells := 0, slots := 0, locals := 0 }) (va_Pc [.int p0] (PW SS g base n L (w0))) (va_Qi (fun (r : Int32) (_ : Unit) => r = if p0 = 0 then 0 else 1) (fun (u : Unit) t => PB g n L (w0) t) (fun q => base ≤ q)) 0 0 (fun q => base ≤ q) := by
  refine Met.ofW (cc := cL_told) (maxL := 1) (ret := (some .int)) (by decide) rfl ?_
  intro p e s m args below meth c s₁ B hml hv
  obtain ⟨rfl, hPW⟩ := hv
  obtain ⟨hbs, hJ, hP, hK, hE⟩ := id hPW
  have hx := B.exec
  have hb := B.bytes
  have hr := B.returns
  have hts := atoms_spec (ws := wsL_told) B.pre
  have hown : s.vm.findClass RL = some m.cls := findClass_of_methodNamed B.named
  have hlocks := B.notSynchronized
  have hS : va_S (fun q : Nat => base ≤ q) s.heap s.heap [] := va_S.rf
  have hl := lv_entry ([.int p0]) (n := 1) (Nat.le_of_ble_eq_true rfl)
  rw [lg_entry_eq]
  generalize (lg_sl ([.int p0]) ++ List.replicate (1 - (lg_sl ([.int p0])).length) Slot.unset).toArray = ls at hl ⊢
  have hl : lv_has ls 1 [(0, .int p0)] := hl
  refine lv_iload_n hx hb dL_told_0 rfl (lv_at hl 0 rfl) ?_
  refine lv_if_eq (tgt := 8) hx hb dL_told_1 (by decide) (fun c1 => ?_) (fun c1 => ?_)
  · refine lv_iconst (v := 0) hx hb dL_told_8 (by decide) ?_
    refine W.widen (k := 0) (n := 0) (Nat.le_of_ble_eq_true rfl) (Nat.le_of_ble_eq_true rfl) ?_
    exact W.iret (v := 0) hx hb hr (fun t ht hW => ⟨⟨0, (), rfl, (if_pos c1).symm, PB.mk9 hP ht⟩, hS.F ht⟩) hS.2.2 dL_told_9
  · refine lv_iconst (v := 1) hx hb dL_told_4 (by decide) ?_
    refine lv_goto (tgt := 9) hx hb dL_told_5 (by decide) ?_
    refine W.widen (k := 0) (n := 0) (Nat.le_of_ble_eq_true rfl) (Nat.le_of_ble_eq_true rfl) ?_
    exact W.iret (v := 1) hx hb hr (fun t ht hW => ⟨⟨1, (), rfl, (if_neg c1).symm, PB.mk9 hP ht⟩, hS.F ht⟩) hS.2.2 dL_told_9

set_option maxHeartbeats 4000000 in
set_option maxRecDepth 100000 in
theorem pl_0 (l : Launch) (hst : l.stackTraces = false) (g : gE) (base n : Nat) (L : Nat → Nat) (hn : 106 ≤ n) (x : St) (r0 : Nat → va_E) (nb : Nat) (hnb : nb ≤ 6) (hx0 : x 0 0 0 = nI nb) (p0 p1 p2 p3 : Int32) : vx_Met l yL_plain wsL_plain ({ frames := 10, cells := 3, slots := 18, locals := 300 }) (va_Pc [.ref (L 0), .int 0, .int p0, .int p1, .int p2, .int p3] (PW SS g base n L (cw g L x r0))) (va_Qi (fun (r : Int32) (u : St) => (0 ≤ p0.toInt ∧ p0.toInt ≤ 3 ∧ 0 ≤ p1.toInt ∧ p1.toInt ≤ 200) ∧ nb < 6 ∧ u = abF x nb p0 p1 ∧ r = u 0 0 0 - 1) (fun (u : St) t => PB g n L (cw g L u r0) t) (fun q => base ≤ q)) (QX g base n L (cw g L x r0) (fun E => (E = "java/lang/IllegalArgumentException" ∧ ¬ (0 ≤ p0.toInt ∧ p0.toInt ≤ 3 ∧ 0 ≤ p1.toInt ∧ p1.toInt ≤ 200)) ∨ (E = "java/lang/IllegalStateException" ∧ (0 ≤ p0.toInt ∧ p0.toInt ≤ 3 ∧ 0 ≤ p1.toInt ∧ p1.toInt ≤ 200) ∧ nb = 6))) 3 18 (fun q => base ≤ q) := by
  refine vx_ofW (cc := cL_plain) (maxL := 6) (ret := (some .int)) (by decide) rfl ?_
  intro p e s m args below meth c s₁ B hml hno hv
  obtain ⟨rfl, hPW⟩ := hv
  obtain ⟨hbs, hJ, hP, hK, hE⟩ := id hPW
  have hx := B.exec
  have hb := B.bytes
  have hr := B.returns
  have hts := atoms_spec (ws := wsL_plain) B.pre
  have hown : s.vm.findClass RL = some m.cls := findClass_of_methodNamed B.named
  have hlocks := B.notSynchronized
  have hS : va_S (fun q : Nat => base ≤ q) s.heap s.heap [] := va_S.rf
  have hl := lv_entry ([.ref (L 0), .int 0, .int p0, .int p1, .int p2, .int p3]) (n := 6) (Nat.le_of_ble_eq_true rfl)
  rw [lg_entry_eq]
  generalize (lg_sl ([.ref (L 0), .int 0, .int p0, .int p1, .int p2, .int p3]) ++ List.replicate (6 - (lg_sl ([.ref (L 0), .int 0, .int p0, .int p1, .int p2, .int p3])).length) Slot.unset).toArray = ls at hl ⊢
  have hl : lv_has ls 6 [(0, .ref (L 0)), (1, .int 0), (2, .int p0), (3, .int p1), (4, .int p2), (5, .int p3)] := hl
  refine lv_iload_n hx hb dL_plain_0 rfl (lv_at hl 1 rfl) ?_
  refine lv_tableIn hx hb dL_plain_1 (by decide) (by decide) (by decide) (tgt := 108) (off := 107) (by decide) ?_
  refine lv_aload_n hx hb dL_plain_108 rfl (lv_at hl 0 rfl) ?_
  refine lv_iload_n hx hb dL_plain_109 rfl (lv_at hl 2 rfl) ?_
  refine lv_iload_n hx hb dL_plain_110 rfl (lv_at hl 3 rfl) ?_
  refine wx_xcalli (vx_runV (As := [.int p0, .int p1]) (rest := []) ⟨hx, hb, hml, hown, hts⟩ (k_addBoard l hst g base n L (by omega) x r0 nb hnb hx0 p0 p1) (cwV 2 hts gL_plain_X3_addBoard rfl rfl rfl (by decide +kernel) ⟨Nat.le_of_ble_eq_true rfl, Nat.le_of_ble_eq_true rfl⟩) (hPW.preV hP hS (ci := 5) rfl (by omega) cw_d) rfl rfl hl.1 rfl (lv_room (Nat.le_of_ble_eq_true rfl)) dL_plain_111 ⟨Nat.le_of_ble_eq_true rfl, Nat.le_of_ble_eq_true rfl⟩) hS (fun E ce q9 H locs hpx hP hS h1 h2 h3 => ?_) (fun r111 u111 H locs h111 hP hS => ?_)
  · exact wx_out hno hlocks h1 h2 h3 (hpx) hP hS (Nat.le_of_ble_eq_true rfl) (Nat.le_of_ble_eq_true rfl)
  refine W.widen (k := 3) (n := 18) (Nat.le_of_ble_eq_true rfl) (Nat.le_of_ble_eq_true rfl) ?_
  exact vx_ret (W.iret (v := r111) hx hb hr (fun t ht hW => ⟨⟨r111, u111, rfl, h111, PB.mk9 hP ht⟩, hS.F ht⟩) hS.2.2 dL_plain_114)

set_option maxHeartbeats 4000000 in
set_option maxRecDepth 100000 in
theorem pl_1 (l : Launch) (hst : l.stackTraces = false) (g : gE) (base n : Nat) (L : Nat → Nat) (hn : 106 ≤ n) (x : St) (r0 : Nat → va_E)  (p0 p1 p2 p3 : Int32) : vx_Met l yL_plain wsL_plain ({ frames := 10, cells := 3, slots := 18, locals := 300 }) (va_Pc [.ref (L 0), .int 1, .int p0, .int p1, .int p2, .int p3] (PW SS g base n L (cw g L x r0))) (va_Qi (fun (r : Int32) (u : St) => (0 ≤ p0.toInt ∧ p0.toInt ≤ 20) ∧ r = x 2 0 0 ∧ u = st x 2 0 0 p0) (fun (u : St) t => PB g n L (cw g L u r0) t) (fun q => base ≤ q)) (QX g base n L (cw g L x r0) (fun E => E = "java/lang/IllegalArgumentException" ∧ ¬ (0 ≤ p0.toInt ∧ p0.toInt ≤ 20))) 3 18 (fun q => base ≤ q) := by
  refine vx_ofW (cc := cL_plain) (maxL := 6) (ret := (some .int)) (by decide) rfl ?_
  intro p e s m args below meth c s₁ B hml hno hv
  obtain ⟨rfl, hPW⟩ := hv
  obtain ⟨hbs, hJ, hP, hK, hE⟩ := id hPW
  have hx := B.exec
  have hb := B.bytes
  have hr := B.returns
  have hts := atoms_spec (ws := wsL_plain) B.pre
  have hown : s.vm.findClass RL = some m.cls := findClass_of_methodNamed B.named
  have hlocks := B.notSynchronized
  have hS : va_S (fun q : Nat => base ≤ q) s.heap s.heap [] := va_S.rf
  have hl := lv_entry ([.ref (L 0), .int 1, .int p0, .int p1, .int p2, .int p3]) (n := 6) (Nat.le_of_ble_eq_true rfl)
  rw [lg_entry_eq]
  generalize (lg_sl ([.ref (L 0), .int 1, .int p0, .int p1, .int p2, .int p3]) ++ List.replicate (6 - (lg_sl ([.ref (L 0), .int 1, .int p0, .int p1, .int p2, .int p3])).length) Slot.unset).toArray = ls at hl ⊢
  have hl : lv_has ls 6 [(0, .ref (L 0)), (1, .int 1), (2, .int p0), (3, .int p1), (4, .int p2), (5, .int p3)] := hl
  refine lv_iload_n hx hb dL_plain_0 rfl (lv_at hl 1 rfl) ?_
  refine lv_tableIn hx hb dL_plain_1 (by decide) (by decide) (by decide) (tgt := 115) (off := 114) (by decide) ?_
  refine lv_aload_n hx hb dL_plain_115 rfl (lv_at hl 0 rfl) ?_
  refine lv_iload_n hx hb dL_plain_116 rfl (lv_at hl 2 rfl) ?_
  refine wx_xcalli (vx_runV (As := [.int p0]) (rest := []) ⟨hx, hb, hml, hown, hts⟩ (k_setSun l hst g base n L (by omega) x r0 p0) (cwV 1 hts gL_plain_X3_setSun rfl rfl rfl (by decide +kernel) ⟨Nat.le_of_ble_eq_true rfl, Nat.le_of_ble_eq_true rfl⟩) (hPW.preV hP hS (ci := 5) rfl (by omega) cw_d) rfl rfl hl.1 rfl (lv_room (Nat.le_of_ble_eq_true rfl)) dL_plain_117 ⟨Nat.le_of_ble_eq_true rfl, Nat.le_of_ble_eq_true rfl⟩) hS (fun E ce q9 H locs hpx hP hS h1 h2 h3 => ?_) (fun r117 u117 H locs h117 hP hS => ?_)
  · exact wx_out hno hlocks h1 h2 h3 (hpx) hP hS (Nat.le_of_ble_eq_true rfl) (Nat.le_of_ble_eq_true rfl)
  refine W.widen (k := 3) (n := 18) (Nat.le_of_ble_eq_true rfl) (Nat.le_of_ble_eq_true rfl) ?_
  exact vx_ret (W.iret (v := r117) hx hb hr (fun t ht hW => ⟨⟨r117, u117, rfl, h117, PB.mk9 hP ht⟩, hS.F ht⟩) hS.2.2 dL_plain_120)

set_option maxHeartbeats 4000000 in
set_option maxRecDepth 100000 in
theorem pl_2 (l : Launch) (hst : l.stackTraces = false) (g : gE) (base n : Nat) (L : Nat → Nat) (hn : 106 ≤ n) (x : St) (r0 : Nat → va_E) (nb : Nat) (hnb : nb ≤ 6) (hx0 : x 0 0 0 = nI nb) (p0 p1 p2 p3 : Int32) : vx_Met l yL_plain wsL_plain ({ frames := 10, cells := 3, slots := 18, locals := 300 }) (va_Pc [.ref (L 0), .int 2, .int p0, .int p1, .int p2, .int p3] (PW SS g base n L (cw g L x r0))) (va_Qi (fun (r : Int32) (_ : Unit) => ∃ j, j < nb ∧ p0 = nI j ∧ r = x 11 j 0) (fun (u : Unit) t => PB g n L (cw g L x r0) t) (fun q => base ≤ q)) (QX g base n L (cw g L x r0) (fun E => E = "java/lang/IndexOutOfBoundsException" ∧ (p0.toInt < 0 ∨ nb ≤ p0.toInt))) 3 18 (fun q => base ≤ q) := by
  refine vx_ofW (cc := cL_plain) (maxL := 6) (ret := (some .int)) (by decide) rfl ?_
  intro p e s m args below meth c s₁ B hml hno hv
  obtain ⟨rfl, hPW⟩ := hv
  obtain ⟨hbs, hJ, hP, hK, hE⟩ := id hPW
  have hx := B.exec
  have hb := B.bytes
  have hr := B.returns
  have hts := atoms_spec (ws := wsL_plain) B.pre
  have hown : s.vm.findClass RL = some m.cls := findClass_of_methodNamed B.named
  have hlocks := B.notSynchronized
  have hS : va_S (fun q : Nat => base ≤ q) s.heap s.heap [] := va_S.rf
  have hl := lv_entry ([.ref (L 0), .int 2, .int p0, .int p1, .int p2, .int p3]) (n := 6) (Nat.le_of_ble_eq_true rfl)
  rw [lg_entry_eq]
  generalize (lg_sl ([.ref (L 0), .int 2, .int p0, .int p1, .int p2, .int p3]) ++ List.replicate (6 - (lg_sl ([.ref (L 0), .int 2, .int p0, .int p1, .int p2, .int p3])).length) Slot.unset).toArray = ls at hl ⊢
  have hl : lv_has ls 6 [(0, .ref (L 0)), (1, .int 2), (2, .int p0), (3, .int p1), (4, .int p2), (5, .int p3)] := hl
  refine lv_iload_n hx hb dL_plain_0 rfl (lv_at hl 1 rfl) ?_
  refine lv_tableIn hx hb dL_plain_1 (by decide) (by decide) (by decide) (tgt := 121) (off := 120) (by decide) ?_
  refine lv_aload_n hx hb dL_plain_121 rfl (lv_at hl 0 rfl) ?_
  refine lv_iload_n hx hb dL_plain_122 rfl (lv_at hl 2 rfl) ?_
  refine wx_xcalli (vx_runV (As := [.int p0]) (rest := []) ⟨hx, hb, hml, hown, hts⟩ (k_charge l hst g base n L (by omega) x r0 nb hnb hx0 p0) (cwV 1 hts gL_plain_X3_charge rfl rfl rfl (by decide +kernel) ⟨Nat.le_of_ble_eq_true rfl, Nat.le_of_ble_eq_true rfl⟩) (hPW.preV hP hS (ci := 5) rfl (by omega) cw_d) rfl rfl hl.1 rfl (lv_room (Nat.le_of_ble_eq_true rfl)) dL_plain_123 ⟨Nat.le_of_ble_eq_true rfl, Nat.le_of_ble_eq_true rfl⟩) hS (fun E ce q9 H locs hpx hP hS h1 h2 h3 => ?_) (fun r123 u123 H locs h123 hP hS => ?_)
  · exact wx_out hno hlocks h1 h2 h3 (hpx) hP hS (Nat.le_of_ble_eq_true rfl) (Nat.le_of_ble_eq_true rfl)
  refine W.widen (k := 3) (n := 18) (Nat.le_of_ble_eq_true rfl) (Nat.le_of_ble_eq_true rfl) ?_
  exact vx_ret (W.iret (v := r123) hx hb hr (fun t ht hW => ⟨⟨r123, (), rfl, h123, PB.mk9 hP ht⟩, hS.F ht⟩) hS.2.2 dL_plain_126)

set_option maxHeartbeats 4000000 in
set_option maxRecDepth 100000 in
theorem pl_3 (l : Launch) (hst : l.stackTraces = false) (g : gE) (base n : Nat) (L : Nat → Nat) (hn : 106 ≤ n) (x : St) (r0 : Nat → va_E) (nb : Nat) (hnb : nb ≤ 6) (hx0 : x 0 0 0 = nI nb) (p0 p1 p2 p3 : Int32) : vx_Met l yL_plain wsL_plain ({ frames := 10, cells := 3, slots := 18, locals := 300 }) (va_Pc [.ref (L 0), .int 3, .int p0, .int p1, .int p2, .int p3] (PW SS g base n L (cw g L x r0))) (va_Qi (fun (r : Int32) (_ : Unit) => ∃ j, j < nb ∧ p0 = nI j ∧ (0 ≤ p1.toInt ∧ p1.toInt < 8 ∧ 0 ≤ p2.toInt ∧ p2.toInt < 4) ∧ r = bitF (x 15 j 0) (8 * p2 + p1)) (fun (u : Unit) t => PB g n L (cw g L x r0) t) (fun q => base ≤ q)) (QX g base n L (cw g L x r0) (fun E => E = "java/lang/IndexOutOfBoundsException" ∧ ((p0.toInt < 0 ∨ nb ≤ p0.toInt) ∨ ¬ (0 ≤ p1.toInt ∧ p1.toInt < 8 ∧ 0 ≤ p2.toInt ∧ p2.toInt < 4)))) 3 18 (fun q => base ≤ q) := by
  refine vx_ofW (cc := cL_plain) (maxL := 6) (ret := (some .int)) (by decide) rfl ?_
  intro p e s m args below meth c s₁ B hml hno hv
  obtain ⟨rfl, hPW⟩ := hv
  obtain ⟨hbs, hJ, hP, hK, hE⟩ := id hPW
  have hx := B.exec
  have hb := B.bytes
  have hr := B.returns
  have hts := atoms_spec (ws := wsL_plain) B.pre
  have hown : s.vm.findClass RL = some m.cls := findClass_of_methodNamed B.named
  have hlocks := B.notSynchronized
  have hS : va_S (fun q : Nat => base ≤ q) s.heap s.heap [] := va_S.rf
  have hl := lv_entry ([.ref (L 0), .int 3, .int p0, .int p1, .int p2, .int p3]) (n := 6) (Nat.le_of_ble_eq_true rfl)
  rw [lg_entry_eq]
  generalize (lg_sl ([.ref (L 0), .int 3, .int p0, .int p1, .int p2, .int p3]) ++ List.replicate (6 - (lg_sl ([.ref (L 0), .int 3, .int p0, .int p1, .int p2, .int p3])).length) Slot.unset).toArray = ls at hl ⊢
  have hl : lv_has ls 6 [(0, .ref (L 0)), (1, .int 3), (2, .int p0), (3, .int p1), (4, .int p2), (5, .int p3)] := hl
  refine lv_iload_n hx hb dL_plain_0 rfl (lv_at hl 1 rfl) ?_
  refine lv_tableIn hx hb dL_plain_1 (by decide) (by decide) (by decide) (tgt := 127) (off := 126) (by decide) ?_
  refine lv_aload_n hx hb dL_plain_127 rfl (lv_at hl 0 rfl) ?_
  refine lv_iload_n hx hb dL_plain_128 rfl (lv_at hl 2 rfl) ?_
  refine lv_iload_n hx hb dL_plain_129 rfl (lv_at hl 3 rfl) ?_
  refine lv_iload hx hb dL_plain_130 (lv_at hl 4 rfl) ?_
  refine wx_xcalli (vx_runV (As := [.int p0, .int p1, .int p2]) (rest := []) ⟨hx, hb, hml, hown, hts⟩ (k_cell l hst g base n L (by omega) x r0 nb hnb hx0 p0 p1 p2) (cwV 3 hts gL_plain_X3_cell rfl rfl rfl (by decide +kernel) ⟨Nat.le_of_ble_eq_true rfl, Nat.le_of_ble_eq_true rfl⟩) (hPW.preV hP hS (ci := 5) rfl (by omega) cw_d) rfl rfl hl.1 rfl (lv_room (Nat.le_of_ble_eq_true rfl)) dL_plain_132 ⟨Nat.le_of_ble_eq_true rfl, Nat.le_of_ble_eq_true rfl⟩) hS (fun E ce q9 H locs hpx hP hS h1 h2 h3 => ?_) (fun r132 u132 H locs h132 hP hS => ?_)
  · exact wx_out hno hlocks h1 h2 h3 (hpx) hP hS (Nat.le_of_ble_eq_true rfl) (Nat.le_of_ble_eq_true rfl)
  refine W.widen (k := 3) (n := 18) (Nat.le_of_ble_eq_true rfl) (Nat.le_of_ble_eq_true rfl) ?_
  exact vx_ret (W.iret (v := r132) hx hb hr (fun t ht hW => ⟨⟨r132, (), rfl, h132, PB.mk9 hP ht⟩, hS.F ht⟩) hS.2.2 dL_plain_135)

set_option maxHeartbeats 4000000 in
set_option maxRecDepth 100000 in
theorem pl_4 (l : Launch) (hst : l.stackTraces = false) (g : gE) (base n : Nat) (L : Nat → Nat) (hn : 106 ≤ n) (x : St) (r0 : Nat → va_E) (nb : Nat) (hnb : nb ≤ 6) (hx0 : x 0 0 0 = nI nb) (p0 p1 p2 p3 : Int32) : vx_Met l yL_plain wsL_plain ({ frames := 10, cells := 3, slots := 18, locals := 300 }) (va_Pc [.ref (L 0), .int 4, .int p0, .int p1, .int p2, .int p3] (PW SS g base n L (cw g L x r0))) (va_Qi (fun (r : Int32) (_ : Unit) => ∃ j, j < nb ∧ p0 = nI j ∧ (0 ≤ p1.toInt ∧ p1.toInt < 8 ∧ 0 ≤ p2.toInt ∧ p2.toInt < 4) ∧ r = wearF x j (8 * p2 + p1)) (fun (u : Unit) t => PB g n L (cw g L x r0) t) (fun q => base ≤ q)) (QX g base n L (cw g L x r0) (fun E => E = "java/lang/IndexOutOfBoundsException" ∧ ((p0.toInt < 0 ∨ nb ≤ p0.toInt) ∨ ¬ (0 ≤ p1.toInt ∧ p1.toInt < 8 ∧ 0 ≤ p2.toInt ∧ p2.toInt < 4)))) 3 18 (fun q => base ≤ q) := by
  refine vx_ofW (cc := cL_plain) (maxL := 6) (ret := (some .int)) (by decide) rfl ?_
  intro p e s m args below meth c s₁ B hml hno hv
  obtain ⟨rfl, hPW⟩ := hv
  obtain ⟨hbs, hJ, hP, hK, hE⟩ := id hPW
  have hx := B.exec
  have hb := B.bytes
  have hr := B.returns
  have hts := atoms_spec (ws := wsL_plain) B.pre
  have hown : s.vm.findClass RL = some m.cls := findClass_of_methodNamed B.named
  have hlocks := B.notSynchronized
  have hS : va_S (fun q : Nat => base ≤ q) s.heap s.heap [] := va_S.rf
  have hl := lv_entry ([.ref (L 0), .int 4, .int p0, .int p1, .int p2, .int p3]) (n := 6) (Nat.le_of_ble_eq_true rfl)
  rw [lg_entry_eq]
  generalize (lg_sl ([.ref (L 0), .int 4, .int p0, .int p1, .int p2, .int p3]) ++ List.replicate (6 - (lg_sl ([.ref (L 0), .int 4, .int p0, .int p1, .int p2, .int p3])).length) Slot.unset).toArray = ls at hl ⊢
  have hl : lv_has ls 6 [(0, .ref (L 0)), (1, .int 4), (2, .int p0), (3, .int p1), (4, .int p2), (5, .int p3)] := hl
  refine lv_iload_n hx hb dL_plain_0 rfl (lv_at hl 1 rfl) ?_
  refine lv_tableIn hx hb dL_plain_1 (by decide) (by decide) (by decide) (tgt := 136) (off := 135) (by decide) ?_
  refine lv_aload_n hx hb dL_plain_136 rfl (lv_at hl 0 rfl) ?_
  refine lv_iload_n hx hb dL_plain_137 rfl (lv_at hl 2 rfl) ?_
  refine lv_iload_n hx hb dL_plain_138 rfl (lv_at hl 3 rfl) ?_
  refine lv_iload hx hb dL_plain_139 (lv_at hl 4 rfl) ?_
  refine wx_xcalli (vx_runV (As := [.int p0, .int p1, .int p2]) (rest := []) ⟨hx, hb, hml, hown, hts⟩ (k_wear l hst g base n L (by omega) x r0 nb hnb hx0 p0 p1 p2) (cwV 3 hts gL_plain_X3_wear rfl rfl rfl (by decide +kernel) ⟨Nat.le_of_ble_eq_true rfl, Nat.le_of_ble_eq_true rfl⟩) (hPW.preV hP hS (ci := 5) rfl (by omega) cw_d) rfl rfl hl.1 rfl (lv_room (Nat.le_of_ble_eq_true rfl)) dL_plain_141 ⟨Nat.le_of_ble_eq_true rfl, Nat.le_of_ble_eq_true rfl⟩) hS (fun E ce q9 H locs hpx hP hS h1 h2 h3 => ?_) (fun r141 u141 H locs h141 hP hS => ?_)
  · exact wx_out hno hlocks h1 h2 h3 (hpx) hP hS (Nat.le_of_ble_eq_true rfl) (Nat.le_of_ble_eq_true rfl)
  refine W.widen (k := 3) (n := 18) (Nat.le_of_ble_eq_true rfl) (Nat.le_of_ble_eq_true rfl) ?_
  exact vx_ret (W.iret (v := r141) hx hb hr (fun t ht hW => ⟨⟨r141, (), rfl, h141, PB.mk9 hP ht⟩, hS.F ht⟩) hS.2.2 dL_plain_144)

set_option maxHeartbeats 4000000 in
set_option maxRecDepth 100000 in
theorem pl_5 (l : Launch) (hst : l.stackTraces = false) (g : gE) (base n : Nat) (L : Nat → Nat) (hn : 106 ≤ n) (x : St) (r0 : Nat → va_E) (nb : Nat) (hnb : nb ≤ 6) (hx0 : x 0 0 0 = nI nb) (hsh : ∀ b, b < 6 → x 12 b 0 = -1 ∨ ∃ k, k < 40 ∧ x 12 b 0 = nI k) (p0 p1 p2 p3 : Int32) : vx_Met l yL_plain wsL_plain ({ frames := 10, cells := 3, slots := 18, locals := 300 }) (va_Pc [.ref (L 0), .int 5, .int p0, .int p1, .int p2, .int p3] (PW SS g base n L (cw g L x r0))) (va_Qi (fun (r : Int32) (_ : Unit) => ∃ j, j < nb ∧ p0 = nI j ∧ r = x 12 j 0) (fun (u : Unit) t => PB g n L (cw g L x r0) t) (fun q => base ≤ q)) (QX g base n L (cw g L x r0) (fun E => E = "java/lang/IndexOutOfBoundsException" ∧ (p0.toInt < 0 ∨ nb ≤ p0.toInt))) 3 18 (fun q => base ≤ q) := by
  refine vx_ofW (cc := cL_plain) (maxL := 6) (ret := (some .int)) (by decide) rfl ?_
  intro p e s m args below meth c s₁ B hml hno hv
  obtain ⟨rfl, hPW⟩ := hv
  obtain ⟨hbs, hJ, hP, hK, hE⟩ := id hPW
  have hx := B.exec
  have hb := B.bytes
  have hr := B.returns
  have hts := atoms_spec (ws := wsL_plain) B.pre
  have hown : s.vm.findClass RL = some m.cls := findClass_of_methodNamed B.named
  have hlocks := B.notSynchronized
  have hS : va_S (fun q : Nat => base ≤ q) s.heap s.heap [] := va_S.rf
  have hl := lv_entry ([.ref (L 0), .int 5, .int p0, .int p1, .int p2, .int p3]) (n := 6) (Nat.le_of_ble_eq_true rfl)
  rw [lg_entry_eq]
  generalize (lg_sl ([.ref (L 0), .int 5, .int p0, .int p1, .int p2, .int p3]) ++ List.replicate (6 - (lg_sl ([.ref (L 0), .int 5, .int p0, .int p1, .int p2, .int p3])).length) Slot.unset).toArray = ls at hl ⊢
  have hl : lv_has ls 6 [(0, .ref (L 0)), (1, .int 5), (2, .int p0), (3, .int p1), (4, .int p2), (5, .int p3)] := hl
  refine lv_iload_n hx hb dL_plain_0 rfl (lv_at hl 1 rfl) ?_
  refine lv_tableIn hx hb dL_plain_1 (by decide) (by decide) (by decide) (tgt := 145) (off := 144) (by decide) ?_
  refine lv_aload_n hx hb dL_plain_145 rfl (lv_at hl 0 rfl) ?_
  refine lv_iload_n hx hb dL_plain_146 rfl (lv_at hl 2 rfl) ?_
  refine wx_xcalli (vx_runV (As := [.int p0]) (rest := []) ⟨hx, hb, hml, hown, hts⟩ (k_shows l hst g base n L (by omega) x r0 nb hnb hx0 hsh p0) (cwV 1 hts gL_plain_X3_shows rfl rfl rfl (by decide +kernel) ⟨Nat.le_of_ble_eq_true rfl, Nat.le_of_ble_eq_true rfl⟩) (hPW.preV hP hS (ci := 5) rfl (by omega) cw_d) rfl rfl hl.1 rfl (lv_room (Nat.le_of_ble_eq_true rfl)) dL_plain_147 ⟨Nat.le_of_ble_eq_true rfl, Nat.le_of_ble_eq_true rfl⟩) hS (fun E ce q9 H locs hpx hP hS h1 h2 h3 => ?_) (fun r147 u147 H locs h147 hP hS => ?_)
  · exact wx_out hno hlocks h1 h2 h3 (hpx) hP hS (Nat.le_of_ble_eq_true rfl) (Nat.le_of_ble_eq_true rfl)
  refine W.widen (k := 3) (n := 18) (Nat.le_of_ble_eq_true rfl) (Nat.le_of_ble_eq_true rfl) ?_
  exact vx_ret (W.iret (v := r147) hx hb hr (fun t ht hW => ⟨⟨r147, (), rfl, h147, PB.mk9 hP ht⟩, hS.F ht⟩) hS.2.2 dL_plain_150)

set_option maxHeartbeats 4000000 in
set_option maxRecDepth 100000 in
theorem pl_6 (l : Launch) (hst : l.stackTraces = false) (g : gE) (base n : Nat) (L : Nat → Nat) (hn : 106 ≤ n) (x : St) (r0 : Nat → va_E) (nb : Nat) (hnb : nb ≤ 6) (hx0 : x 0 0 0 = nI nb) (p0 p1 p2 p3 : Int32) : vx_Met l yL_plain wsL_plain ({ frames := 10, cells := 3, slots := 18, locals := 300 }) (va_Pc [.ref (L 0), .int 6, .int p0, .int p1, .int p2, .int p3] (PW SS g base n L (cw g L x r0))) (va_Qi (fun (r : Int32) (_ : Unit) => ∃ j, j < nb ∧ p0 = nI j ∧ r = x 13 j 0) (fun (u : Unit) t => PB g n L (cw g L x r0) t) (fun q => base ≤ q)) (QX g base n L (cw g L x r0) (fun E => E = "java/lang/IndexOutOfBoundsException" ∧ (p0.toInt < 0 ∨ nb ≤ p0.toInt))) 3 18 (fun q => base ≤ q) := by
  refine vx_ofW (cc := cL_plain) (maxL := 6) (ret := (some .int)) (by decide) rfl ?_
  intro p e s m args below meth c s₁ B hml hno hv
  obtain ⟨rfl, hPW⟩ := hv
  obtain ⟨hbs, hJ, hP, hK, hE⟩ := id hPW
  have hx := B.exec
  have hb := B.bytes
  have hr := B.returns
  have hts := atoms_spec (ws := wsL_plain) B.pre
  have hown : s.vm.findClass RL = some m.cls := findClass_of_methodNamed B.named
  have hlocks := B.notSynchronized
  have hS : va_S (fun q : Nat => base ≤ q) s.heap s.heap [] := va_S.rf
  have hl := lv_entry ([.ref (L 0), .int 6, .int p0, .int p1, .int p2, .int p3]) (n := 6) (Nat.le_of_ble_eq_true rfl)
  rw [lg_entry_eq]
  generalize (lg_sl ([.ref (L 0), .int 6, .int p0, .int p1, .int p2, .int p3]) ++ List.replicate (6 - (lg_sl ([.ref (L 0), .int 6, .int p0, .int p1, .int p2, .int p3])).length) Slot.unset).toArray = ls at hl ⊢
  have hl : lv_has ls 6 [(0, .ref (L 0)), (1, .int 6), (2, .int p0), (3, .int p1), (4, .int p2), (5, .int p3)] := hl
  refine lv_iload_n hx hb dL_plain_0 rfl (lv_at hl 1 rfl) ?_
  refine lv_tableIn hx hb dL_plain_1 (by decide) (by decide) (by decide) (tgt := 151) (off := 150) (by decide) ?_
  refine lv_aload_n hx hb dL_plain_151 rfl (lv_at hl 0 rfl) ?_
  refine lv_iload_n hx hb dL_plain_152 rfl (lv_at hl 2 rfl) ?_
  refine wx_xcalli (vx_runV (As := [.int p0]) (rest := []) ⟨hx, hb, hml, hown, hts⟩ (k_shift l hst g base n L (by omega) x r0 nb hnb hx0 p0) (cwV 1 hts gL_plain_X3_shift rfl rfl rfl (by decide +kernel) ⟨Nat.le_of_ble_eq_true rfl, Nat.le_of_ble_eq_true rfl⟩) (hPW.preV hP hS (ci := 5) rfl (by omega) cw_d) rfl rfl hl.1 rfl (lv_room (Nat.le_of_ble_eq_true rfl)) dL_plain_153 ⟨Nat.le_of_ble_eq_true rfl, Nat.le_of_ble_eq_true rfl⟩) hS (fun E ce q9 H locs hpx hP hS h1 h2 h3 => ?_) (fun r153 u153 H locs h153 hP hS => ?_)
  · exact wx_out hno hlocks h1 h2 h3 (hpx) hP hS (Nat.le_of_ble_eq_true rfl) (Nat.le_of_ble_eq_true rfl)
  refine W.widen (k := 3) (n := 18) (Nat.le_of_ble_eq_true rfl) (Nat.le_of_ble_eq_true rfl) ?_
  exact vx_ret (W.iret (v := r153) hx hb hr (fun t ht hW => ⟨⟨r153, (), rfl, h153, PB.mk9 hP ht⟩, hS.F ht⟩) hS.2.2 dL_plain_156)

set_option maxHeartbeats 4000000 in
set_option maxRecDepth 100000 in
theorem pl_8 (l : Launch) (hst : l.stackTraces = false) (g : gE) (base n : Nat) (L : Nat → Nat) (hn : 106 ≤ n) (x : St) (r0 : Nat → va_E) (nn : Nat) (hnn : nn ≤ 40) (hx1 : x 1 0 0 = nI nn) (hrk : ∀ j, j < 40 → (x 43 0 j).toNatClampNeg < 40) (p0 p1 p2 p3 : Int32) : vx_Met l yL_plain wsL_plain ({ frames := 10, cells := 3, slots := 18, locals := 300 }) (va_Pc [.ref (L 0), .int 8, .int p0, .int p1, .int p2, .int p3] (PW SS g base n L (cw g L x r0))) (va_Qi (fun (r : Int32) (u : St) => (0 ≤ p0.toInt ∧ p0.toInt ≤ 9 ∧ p1.toInt ≠ 0 ∧ 0 ≤ p2.toInt ∧ p2.toInt < p3.toInt ∧ p3.toInt ≤ 2000) ∧ nn < 40 ∧ u = tkF x nn p0 p1 p2 p3 ∧ r = nI nn) (fun (u : St) t => PB g n L (cw g L u r0) t) (fun q => base ≤ q)) (QX g base n L (cw g L x r0) (fun E => (E = "java/lang/IllegalArgumentException" ∧ ¬ (0 ≤ p0.toInt ∧ p0.toInt ≤ 9 ∧ p1.toInt ≠ 0 ∧ 0 ≤ p2.toInt ∧ p2.toInt < p3.toInt ∧ p3.toInt ≤ 2000)) ∨ (E = "java/lang/IllegalStateException" ∧ (0 ≤ p0.toInt ∧ p0.toInt ≤ 9 ∧ p1.toInt ≠ 0 ∧ 0 ≤ p2.toInt ∧ p2.toInt < p3.toInt ∧ p3.toInt ≤ 2000) ∧ nn = 40))) 3 18 (fun q => base ≤ q) := by
  refine vx_ofW (cc := cL_plain) (maxL := 6) (ret := (some .int)) (by decide) rfl ?_
  intro p e s m args below meth c s₁ B hml hno hv
  obtain ⟨rfl, hPW⟩ := hv
  obtain ⟨hbs, hJ, hP, hK, hE⟩ := id hPW
  have hx := B.exec
  have hb := B.bytes
  have hr := B.returns
  have hts := atoms_spec (ws := wsL_plain) B.pre
  have hown : s.vm.findClass RL = some m.cls := findClass_of_methodNamed B.named
  have hlocks := B.notSynchronized
  have hS : va_S (fun q : Nat => base ≤ q) s.heap s.heap [] := va_S.rf
  have hl := lv_entry ([.ref (L 0), .int 8, .int p0, .int p1, .int p2, .int p3]) (n := 6) (Nat.le_of_ble_eq_true rfl)
  rw [lg_entry_eq]
  generalize (lg_sl ([.ref (L 0), .int 8, .int p0, .int p1, .int p2, .int p3]) ++ List.replicate (6 - (lg_sl ([.ref (L 0), .int 8, .int p0, .int p1, .int p2, .int p3])).length) Slot.unset).toArray = ls at hl ⊢
  have hl : lv_has ls 6 [(0, .ref (L 0)), (1, .int 8), (2, .int p0), (3, .int p1), (4, .int p2), (5, .int p3)] := hl
  refine lv_iload_n hx hb dL_plain_0 rfl (lv_at hl 1 rfl) ?_
  refine lv_tableIn hx hb dL_plain_1 (by decide) (by decide) (by decide) (tgt := 166) (off := 165) (by decide) ?_
  refine lv_aload_n hx hb dL_plain_166 rfl (lv_at hl 0 rfl) ?_
  refine lv_iload_n hx hb dL_plain_167 rfl (lv_at hl 2 rfl) ?_
  refine lv_iload_n hx hb dL_plain_168 rfl (lv_at hl 3 rfl) ?_
  refine lv_iload hx hb dL_plain_169 (lv_at hl 4 rfl) ?_
  refine lv_iload hx hb dL_plain_171 (lv_at hl 5 rfl) ?_
  refine wx_xcalli (vx_runV (As := [.int p0, .int p1, .int p2, .int p3]) (rest := []) ⟨hx, hb, hml, hown, hts⟩ (k_post l hst g base n L (by omega) x r0 nn hnn hx1 hrk p0 p1 p2 p3) (cwV 4 hts gL_plain_X3_post rfl rfl rfl (by decide +kernel) ⟨Nat.le_of_ble_eq_true rfl, Nat.le_of_ble_eq_true rfl⟩) (hPW.preV hP hS (ci := 5) rfl (by omega) cw_d) rfl rfl hl.1 rfl (lv_room (Nat.le_of_ble_eq_true rfl)) dL_plain_173 ⟨Nat.le_of_ble_eq_true rfl, Nat.le_of_ble_eq_true rfl⟩) hS (fun E ce q9 H locs hpx hP hS h1 h2 h3 => ?_) (fun r173 u173 H locs h173 hP hS => ?_)
  · exact wx_out hno hlocks h1 h2 h3 (hpx) hP hS (Nat.le_of_ble_eq_true rfl) (Nat.le_of_ble_eq_true rfl)
  refine W.widen (k := 3) (n := 18) (Nat.le_of_ble_eq_true rfl) (Nat.le_of_ble_eq_true rfl) ?_
  exact vx_ret (W.iret (v := r173) hx hb hr (fun t ht hW => ⟨⟨r173, u173, rfl, h173, PB.mk9 hP ht⟩, hS.F ht⟩) hS.2.2 dL_plain_176)

set_option maxHeartbeats 4000000 in
set_option maxRecDepth 100000 in
theorem pl_9 (l : Launch) (hst : l.stackTraces = false) (g : gE) (base n : Nat) (L : Nat → Nat) (hn : 106 ≤ n) (x : St) (r0 : Nat → va_E) (nn : Nat) (hnn : nn ≤ 40) (hx1 : x 1 0 0 = nI nn) (p0 p1 p2 p3 : Int32) : vx_Met l yL_plain wsL_plain ({ frames := 10, cells := 3, slots := 18, locals := 300 }) (va_Pc [.ref (L 0), .int 9, .int p0, .int p1, .int p2, .int p3] (PW SS g base n L (cw g L x r0))) (va_Qi (fun (r : Int32) (u : St) => ∃ v : Int32, (fun (r : Int32) (u : St) => ∃ j, j < nn ∧ p0 = nI j ∧ (0 ≤ p1.toInt ∧ p1.toInt ≤ 3) ∧ (x 34 j 0 = 0 ∧ x 35 j 0 = 0) ∧ u = piF x j p1 ∧ ((r = 0 ∧ qcP x j p1) ∨ (r = 1 ∧ ¬ qcP x j p1))) v u ∧ r = if v = 0 then 0 else 1) (fun (u : St) t => PB g n L (cw g L u r0) t) (fun q => base ≤ q)) (QX g base n L (cw g L x r0) (fun E => (E = "java/lang/IndexOutOfBoundsException" ∧ (p0.toInt < 0 ∨ nn ≤ p0.toInt)) ∨ (∃ j, j < nn ∧ p0 = nI j ∧ ((E = "java/lang/IllegalArgumentException" ∧ (p1.toInt < 0 ∨ 3 < p1.toInt)) ∨ (E = "java/lang/UnsupportedOperationException" ∧ (0 ≤ p1.toInt ∧ p1.toInt ≤ 3) ∧ ¬ (x 34 j 0 = 0 ∧ x 35 j 0 = 0)))))) 3 18 (fun q => base ≤ q) := by
  refine vx_ofW (cc := cL_plain) (maxL := 6) (ret := (some .int)) (by decide) rfl ?_
  intro p e s m args below meth c s₁ B hml hno hv
  obtain ⟨rfl, hPW⟩ := hv
  obtain ⟨hbs, hJ, hP, hK, hE⟩ := id hPW
  have hx := B.exec
  have hb := B.bytes
  have hr := B.returns
  have hts := atoms_spec (ws := wsL_plain) B.pre
  have hown : s.vm.findClass RL = some m.cls := findClass_of_methodNamed B.named
  have hlocks := B.notSynchronized
  have hS : va_S (fun q : Nat => base ≤ q) s.heap s.heap [] := va_S.rf
  have hl := lv_entry ([.ref (L 0), .int 9, .int p0, .int p1, .int p2, .int p3]) (n := 6) (Nat.le_of_ble_eq_true rfl)
  rw [lg_entry_eq]
  generalize (lg_sl ([.ref (L 0), .int 9, .int p0, .int p1, .int p2, .int p3]) ++ List.replicate (6 - (lg_sl ([.ref (L 0), .int 9, .int p0, .int p1, .int p2, .int p3])).length) Slot.unset).toArray = ls at hl ⊢
  have hl : lv_has ls 6 [(0, .ref (L 0)), (1, .int 9), (2, .int p0), (3, .int p1), (4, .int p2), (5, .int p3)] := hl
  refine lv_iload_n hx hb dL_plain_0 rfl (lv_at hl 1 rfl) ?_
  refine lv_tableIn hx hb dL_plain_1 (by decide) (by decide) (by decide) (tgt := 177) (off := 176) (by decide) ?_
  refine lv_aload_n hx hb dL_plain_177 rfl (lv_at hl 0 rfl) ?_
  refine lv_iload_n hx hb dL_plain_178 rfl (lv_at hl 2 rfl) ?_
  refine lv_iload_n hx hb dL_plain_179 rfl (lv_at hl 3 rfl) ?_
  refine wx_xcalli (vx_runV (As := [.int p0, .int p1]) (rest := []) ⟨hx, hb, hml, hown, hts⟩ (k_queue l hst g base n L (by omega) x r0 nn hnn hx1 p0 p1) (cwV 2 hts gL_plain_X3_queue rfl rfl rfl (by decide +kernel) ⟨Nat.le_of_ble_eq_true rfl, Nat.le_of_ble_eq_true rfl⟩) (hPW.preV hP hS (ci := 5) rfl (by omega) cw_d) rfl rfl hl.1 rfl (lv_room (Nat.le_of_ble_eq_true rfl)) dL_plain_180 ⟨Nat.le_of_ble_eq_true rfl, Nat.le_of_ble_eq_true rfl⟩) hS (fun E ce q9 H locs hpx hP hS h1 h2 h3 => ?_) (fun r180 u180 H locs h180 hP hS => ?_)
  · exact wx_out hno hlocks h1 h2 h3 (hpx) hP hS (Nat.le_of_ble_eq_true rfl) (Nat.le_of_ble_eq_true rfl)
  refine wx_calli (va_runS (As := [.int r180]) (rest := []) ⟨hx, hb, hml, hown, hts⟩ (k_told l hst g base n L (cw g L u180 r0) r180) (va_cwS 1 hts gL_plain_L_told rfl rfl rfl (by decide +kernel) ⟨Nat.le_of_ble_eq_true rfl, Nat.le_of_ble_eq_true rfl⟩) (hPW.preS hP hS) rfl rfl hl.1 rfl (lv_room (Nat.le_of_ble_eq_true rfl)) dL_plain_183 ⟨Nat.le_of_ble_eq_true rfl, Nat.le_of_ble_eq_true rfl⟩) hS (fun r183 u183 H locs h183 hP hS => ?_)
  obtain rfl := h183
  refine W.widen (k := 3) (n := 18) (Nat.le_of_ble_eq_true rfl) (Nat.le_of_ble_eq_true rfl) ?_
  exact vx_ret (W.iret (v := if r180 = 0 then 0 else 1) hx hb hr (fun t ht hW => ⟨⟨if r180 = 0 then 0 else 1, u180, rfl, ⟨r180, h180, rfl⟩, PB.mk9 hP ht⟩, hS.F ht⟩) hS.2.2 dL_plain_186)

set_option maxHeartbeats 4000000 in
set_option maxRecDepth 100000 in
theorem pl_10 (l : Launch) (hst : l.stackTraces = false) (g : gE) (base n : Nat) (L : Nat → Nat) (hn : 106 ≤ n) (x : St) (r0 : Nat → va_E) (nb : Nat) (hnb : nb ≤ 6) (hx0 : x 0 0 0 = nI nb) (nn : Nat) (hnn : nn ≤ 40) (hx1 : x 1 0 0 = nI nn) (hsh : ∀ b, b < 6 → x 12 b 0 = -1 ∨ ∃ k, k < 40 ∧ x 12 b 0 = nI k) (p0 p1 p2 p3 : Int32) : vx_Met l yL_plain wsL_plain ({ frames := 10, cells := 3, slots := 18, locals := 300 }) (va_Pc [.ref (L 0), .int 10, .int p0, .int p1, .int p2, .int p3] (PW SS g base n L (cw g L x r0))) (va_Qi (fun (r : Int32) (u : St) => ∃ j, j < nn ∧ p0 = nI j ∧ (¬ p1 ≤ x 3 0 0 ∧ p1 ≤ x 33 j 0 ∧ x 34 j 0 = 0) ∧ u = st (st x 35 j 0 1) 33 j 0 p1 ∧ r = btF u j nb) (fun (u : St) t => PB g n L (cw g L u r0) t) (fun q => base ≤ q)) (QX g base n L (cw g L x r0) (fun E => (E = "java/lang/IndexOutOfBoundsException" ∧ (p0.toInt < 0 ∨ nn ≤ p0.toInt)) ∨ (∃ j, j < nn ∧ p0 = nI j ∧ ((E = "java/lang/IllegalArgumentException" ∧ (p1 ≤ x 3 0 0 ∨ ¬ p1 ≤ x 33 j 0)) ∨ (E = "java/lang/UnsupportedOperationException" ∧ (¬ p1 ≤ x 3 0 0 ∧ p1 ≤ x 33 j 0) ∧ ¬ x 34 j 0 = 0))))) 3 18 (fun q => base ≤ q) := by
  refine vx_ofW (cc := cL_plain) (maxL := 6) (ret := (some .int)) (by decide) rfl ?_
  intro p e s m args below meth c s₁ B hml hno hv
  obtain ⟨rfl, hPW⟩ := hv
  obtain ⟨hbs, hJ, hP, hK, hE⟩ := id hPW
  have hx := B.exec
  have hb := B.bytes
  have hr := B.returns
  have hts := atoms_spec (ws := wsL_plain) B.pre
  have hown : s.vm.findClass RL = some m.cls := findClass_of_methodNamed B.named
  have hlocks := B.notSynchronized
  have hS : va_S (fun q : Nat => base ≤ q) s.heap s.heap [] := va_S.rf
  have hl := lv_entry ([.ref (L 0), .int 10, .int p0, .int p1, .int p2, .int p3]) (n := 6) (Nat.le_of_ble_eq_true rfl)
  rw [lg_entry_eq]
  generalize (lg_sl ([.ref (L 0), .int 10, .int p0, .int p1, .int p2, .int p3]) ++ List.replicate (6 - (lg_sl ([.ref (L 0), .int 10, .int p0, .int p1, .int p2, .int p3])).length) Slot.unset).toArray = ls at hl ⊢
  have hl : lv_has ls 6 [(0, .ref (L 0)), (1, .int 10), (2, .int p0), (3, .int p1), (4, .int p2), (5, .int p3)] := hl
  refine lv_iload_n hx hb dL_plain_0 rfl (lv_at hl 1 rfl) ?_
  refine lv_tableIn hx hb dL_plain_1 (by decide) (by decide) (by decide) (tgt := 187) (off := 186) (by decide) ?_
  refine lv_aload_n hx hb dL_plain_187 rfl (lv_at hl 0 rfl) ?_
  refine lv_iload_n hx hb dL_plain_188 rfl (lv_at hl 2 rfl) ?_
  refine lv_iload_n hx hb dL_plain_189 rfl (lv_at hl 3 rfl) ?_
  refine wx_xcalli (vx_runV (As := [.int p0, .int p1]) (rest := []) ⟨hx, hb, hml, hown, hts⟩ (k_takeBack l hst g base n L (by omega) x r0 nb hnb hx0 nn hnn hx1 hsh p0 p1) (cwV 2 hts gL_plain_X3_takeBack rfl rfl rfl (by decide +kernel) ⟨Nat.le_of_ble_eq_true rfl, Nat.le_of_ble_eq_true rfl⟩) (hPW.preV hP hS (ci := 5) rfl (by omega) cw_d) rfl rfl hl.1 rfl (lv_room (Nat.le_of_ble_eq_true rfl)) dL_plain_190 ⟨Nat.le_of_ble_eq_true rfl, Nat.le_of_ble_eq_true rfl⟩) hS (fun E ce q9 H locs hpx hP hS h1 h2 h3 => ?_) (fun r190 u190 H locs h190 hP hS => ?_)
  · exact wx_out hno hlocks h1 h2 h3 (hpx) hP hS (Nat.le_of_ble_eq_true rfl) (Nat.le_of_ble_eq_true rfl)
  refine W.widen (k := 3) (n := 18) (Nat.le_of_ble_eq_true rfl) (Nat.le_of_ble_eq_true rfl) ?_
  exact vx_ret (W.iret (v := r190) hx hb hr (fun t ht hW => ⟨⟨r190, u190, rfl, h190, PB.mk9 hP ht⟩, hS.F ht⟩) hS.2.2 dL_plain_193)

set_option maxHeartbeats 4000000 in
set_option maxRecDepth 100000 in
theorem pl_11 (l : Launch) (hst : l.stackTraces = false) (g : gE) (base n : Nat) (L : Nat → Nat) (hn : 106 ≤ n) (x : St) (r0 : Nat → va_E) (nb : Nat) (hnb : nb ≤ 6) (hx0 : x 0 0 0 = nI nb) (nn : Nat) (hnn : nn ≤ 40) (hx1 : x 1 0 0 = nI nn) (hrk : ∀ j, j < 40 → (x 43 0 j).toNatClampNeg < 40) (p0 p1 p2 p3 : Int32) : vx_Met l yL_plain wsL_plain ({ frames := 10, cells := 3, slots := 18, locals := 300 }) (va_Pc [.ref (L 0), .int 11, .int p0, .int p1, .int p2, .int p3] (PW SS g base n L (cw g L x r0))) (va_Qi (fun (r : Int32) (u : St) => ∃ j, j < nn ∧ p0 = nI j ∧ (p1 ≠ 0 ∧ p1 ≠ x 31 j 0) ∧ (x 34 j 0 = 0 ∧ ¬ x 33 j 0 ≤ x 3 0 0) ∧ nn < 40 ∧ u = mdF x j nn nb p1 ∧ r = nI nn) (fun (u : St) t => PB g n L (cw g L u r0) t) (fun q => base ≤ q)) (QX g base n L (cw g L x r0) (fun E => (E = "java/lang/IndexOutOfBoundsException" ∧ (p0.toInt < 0 ∨ nn ≤ p0.toInt)) ∨ (∃ j, j < nn ∧ p0 = nI j ∧ ((E = "java/lang/IllegalArgumentException" ∧ ¬ (p1 ≠ 0 ∧ p1 ≠ x 31 j 0)) ∨ (E = "java/lang/UnsupportedOperationException" ∧ (p1 ≠ 0 ∧ p1 ≠ x 31 j 0) ∧ ¬ (x 34 j 0 = 0 ∧ ¬ x 33 j 0 ≤ x 3 0 0)) ∨ (E = "java/lang/IllegalStateException" ∧ (p1 ≠ 0 ∧ p1 ≠ x 31 j 0) ∧ (x 34 j 0 = 0 ∧ ¬ x 33 j 0 ≤ x 3 0 0) ∧ nn = 40))))) 3 18 (fun q => base ≤ q) := by
  refine vx_ofW (cc := cL_plain) (maxL := 6) (ret := (some .int)) (by decide) rfl ?_
  intro p e s m args below meth c s₁ B hml hno hv
  obtain ⟨rfl, hPW⟩ := hv
  obtain ⟨hbs, hJ, hP, hK, hE⟩ := id hPW
  have hx := B.exec
  have hb := B.bytes
  have hr := B.returns
  have hts := atoms_spec (ws := wsL_plain) B.pre
  have hown : s.vm.findClass RL = some m.cls := findClass_of_methodNamed B.named
  have hlocks := B.notSynchronized
  have hS : va_S (fun q : Nat => base ≤ q) s.heap s.heap [] := va_S.rf
  have hl := lv_entry ([.ref (L 0), .int 11, .int p0, .int p1, .int p2, .int p3]) (n := 6) (Nat.le_of_ble_eq_true rfl)
  rw [lg_entry_eq]
  generalize (lg_sl ([.ref (L 0), .int 11, .int p0, .int p1, .int p2, .int p3]) ++ List.replicate (6 - (lg_sl ([.ref (L 0), .int 11, .int p0, .int p1, .int p2, .int p3])).length) Slot.unset).toArray = ls at hl ⊢
  have hl : lv_has ls 6 [(0, .ref (L 0)), (1, .int 11), (2, .int p0), (3, .int p1), (4, .int p2), (5, .int p3)] := hl
  refine lv_iload_n hx hb dL_plain_0 rfl (lv_at hl 1 rfl) ?_
  refine lv_tableIn hx hb dL_plain_1 (by decide) (by decide) (by decide) (tgt := 194) (off := 193) (by decide) ?_
  refine lv_aload_n hx hb dL_plain_194 rfl (lv_at hl 0 rfl) ?_
  refine lv_iload_n hx hb dL_plain_195 rfl (lv_at hl 2 rfl) ?_
  refine lv_iload_n hx hb dL_plain_196 rfl (lv_at hl 3 rfl) ?_
  refine wx_xcalli (vx_runV (As := [.int p0, .int p1]) (rest := []) ⟨hx, hb, hml, hown, hts⟩ (k_mend l hst g base n L (by omega) x r0 nb hnb hx0 nn hnn hx1 hrk p0 p1) (cwV 2 hts gL_plain_X3_mend rfl rfl rfl (by decide +kernel) ⟨Nat.le_of_ble_eq_true rfl, Nat.le_of_ble_eq_true rfl⟩) (hPW.preV hP hS (ci := 5) rfl (by omega) cw_d) rfl rfl hl.1 rfl (lv_room (Nat.le_of_ble_eq_true rfl)) dL_plain_197 ⟨Nat.le_of_ble_eq_true rfl, Nat.le_of_ble_eq_true rfl⟩) hS (fun E ce q9 H locs hpx hP hS h1 h2 h3 => ?_) (fun r197 u197 H locs h197 hP hS => ?_)
  · exact wx_out hno hlocks h1 h2 h3 (hpx) hP hS (Nat.le_of_ble_eq_true rfl) (Nat.le_of_ble_eq_true rfl)
  refine W.widen (k := 3) (n := 18) (Nat.le_of_ble_eq_true rfl) (Nat.le_of_ble_eq_true rfl) ?_
  exact vx_ret (W.iret (v := r197) hx hb hr (fun t ht hW => ⟨⟨r197, u197, rfl, h197, PB.mk9 hP ht⟩, hS.F ht⟩) hS.2.2 dL_plain_200)

set_option maxHeartbeats 4000000 in
set_option maxRecDepth 100000 in
theorem pl_13 (l : Launch) (hst : l.stackTraces = false) (g : gE) (base n : Nat) (L : Nat → Nat) (hn : 106 ≤ n) (x : St) (r0 : Nat → va_E) (nn : Nat) (hnn : nn ≤ 40) (hx1 : x 1 0 0 = nI nn) (p0 p1 p2 p3 : Int32) : vx_Met l yL_plain wsL_plain ({ frames := 10, cells := 3, slots := 18, locals := 300 }) (va_Pc [.ref (L 0), .int 13, .int p0, .int p1, .int p2, .int p3] (PW SS g base n L (cw g L x r0))) (va_Qi (fun (r : Int32) (_ : Unit) => (0 ≤ p0.toInt ∧ p0.toInt ≤ 3) ∧ r = qcF x p0 nn) (fun (u : Unit) t => PB g n L (cw g L x r0) t) (fun q => base ≤ q)) (QX g base n L (cw g L x r0) (fun E => E = "java/lang/IllegalArgumentException" ∧ (p0.toInt < 0 ∨ 3 < p0.toInt))) 3 18 (fun q => base ≤ q) := by
  refine vx_ofW (cc := cL_plain) (maxL := 6) (ret := (some .int)) (by decide) rfl ?_
  intro p e s m args below meth c s₁ B hml hno hv
  obtain ⟨rfl, hPW⟩ := hv
  obtain ⟨hbs, hJ, hP, hK, hE⟩ := id hPW
  have hx := B.exec
  have hb := B.bytes
  have hr := B.returns
  have hts := atoms_spec (ws := wsL_plain) B.pre
  have hown : s.vm.findClass RL = some m.cls := findClass_of_methodNamed B.named
  have hlocks := B.notSynchronized
  have hS : va_S (fun q : Nat => base ≤ q) s.heap s.heap [] := va_S.rf
  have hl := lv_entry ([.ref (L 0), .int 13, .int p0, .int p1, .int p2, .int p3]) (n := 6) (Nat.le_of_ble_eq_true rfl)
  rw [lg_entry_eq]
  generalize (lg_sl ([.ref (L 0), .int 13, .int p0, .int p1, .int p2, .int p3]) ++ List.replicate (6 - (lg_sl ([.ref (L 0), .int 13, .int p0, .int p1, .int p2, .int p3])).length) Slot.unset).toArray = ls at hl ⊢
  have hl : lv_has ls 6 [(0, .ref (L 0)), (1, .int 13), (2, .int p0), (3, .int p1), (4, .int p2), (5, .int p3)] := hl
  refine lv_iload_n hx hb dL_plain_0 rfl (lv_at hl 1 rfl) ?_
  refine lv_tableIn hx hb dL_plain_1 (by decide) (by decide) (by decide) (tgt := 210) (off := 209) (by decide) ?_
  refine lv_aload_n hx hb dL_plain_210 rfl (lv_at hl 0 rfl) ?_
  refine lv_iload_n hx hb dL_plain_211 rfl (lv_at hl 2 rfl) ?_
  refine wx_xcalli (vx_runV (As := [.int p0]) (rest := []) ⟨hx, hb, hml, hown, hts⟩ (k_queued l hst g base n L (by omega) x r0 nn hnn hx1 p0) (cwV 1 hts gL_plain_X3_queued rfl rfl rfl (by decide +kernel) ⟨Nat.le_of_ble_eq_true rfl, Nat.le_of_ble_eq_true rfl⟩) (hPW.preV hP hS (ci := 5) rfl (by omega) cw_d) rfl rfl hl.1 rfl (lv_room (Nat.le_of_ble_eq_true rfl)) dL_plain_212 ⟨Nat.le_of_ble_eq_true rfl, Nat.le_of_ble_eq_true rfl⟩) hS (fun E ce q9 H locs hpx hP hS h1 h2 h3 => ?_) (fun r212 u212 H locs h212 hP hS => ?_)
  · exact wx_out hno hlocks h1 h2 h3 (hpx) hP hS (Nat.le_of_ble_eq_true rfl) (Nat.le_of_ble_eq_true rfl)
  refine W.widen (k := 3) (n := 18) (Nat.le_of_ble_eq_true rfl) (Nat.le_of_ble_eq_true rfl) ?_
  exact vx_ret (W.iret (v := r212) hx hb hr (fun t ht hW => ⟨⟨r212, (), rfl, h212, PB.mk9 hP ht⟩, hS.F ht⟩) hS.2.2 dL_plain_215)

set_option maxHeartbeats 4000000 in
set_option maxRecDepth 100000 in
theorem pl_14 (l : Launch) (hst : l.stackTraces = false) (g : gE) (base n : Nat) (L : Nat → Nat) (hn : 106 ≤ n) (x : St) (r0 : Nat → va_E) (nn : Nat) (hnn : nn ≤ 40) (hx1 : x 1 0 0 = nI nn) (hrk : ∀ j, j < 40 → (x 43 0 j).toNatClampNeg < 40) (p0 p1 p2 p3 : Int32) : vx_Met l yL_plain wsL_plain ({ frames := 10, cells := 3, slots := 18, locals := 300 }) (va_Pc [.ref (L 0), .int 14, .int p0, .int p1, .int p2, .int p3] (PW SS g base n L (cw g L x r0))) (va_Qi (fun (r : Int32) (_ : Unit) => (0 ≤ p0.toInt ∧ p0.toInt ≤ 3) ∧ ∃ k, k < nn ∧ (qcP x (x 43 0 k).toNatClampNeg p0 ∧ qrF x p0 k = p1) ∧ r = nI (x 43 0 k).toNatClampNeg ∧ ∀ j, j < k → ¬ (qcP x (x 43 0 j).toNatClampNeg p0 ∧ qrF x p0 j = p1)) (fun (u : Unit) t => PB g n L (cw g L x r0) t) (fun q => base ≤ q)) (QX g base n L (cw g L x r0) (fun E => (E = "java/lang/IllegalArgumentException" ∧ (p0.toInt < 0 ∨ 3 < p0.toInt)) ∨ (E = "java/lang/IndexOutOfBoundsException" ∧ (0 ≤ p0.toInt ∧ p0.toInt ≤ 3) ∧ ∀ j, j < nn → ¬ (qcP x (x 43 0 j).toNatClampNeg p0 ∧ qrF x p0 j = p1)))) 3 18 (fun q => base ≤ q) := by
  refine vx_ofW (cc := cL_plain) (maxL := 6) (ret := (some .int)) (by decide) rfl ?_
  intro p e s m args below meth c s₁ B hml hno hv
  obtain ⟨rfl, hPW⟩ := hv
  obtain ⟨hbs, hJ, hP, hK, hE⟩ := id hPW
  have hx := B.exec
  have hb := B.bytes
  have hr := B.returns
  have hts := atoms_spec (ws := wsL_plain) B.pre
  have hown : s.vm.findClass RL = some m.cls := findClass_of_methodNamed B.named
  have hlocks := B.notSynchronized
  have hS : va_S (fun q : Nat => base ≤ q) s.heap s.heap [] := va_S.rf
  have hl := lv_entry ([.ref (L 0), .int 14, .int p0, .int p1, .int p2, .int p3]) (n := 6) (Nat.le_of_ble_eq_true rfl)
  rw [lg_entry_eq]
  generalize (lg_sl ([.ref (L 0), .int 14, .int p0, .int p1, .int p2, .int p3]) ++ List.replicate (6 - (lg_sl ([.ref (L 0), .int 14, .int p0, .int p1, .int p2, .int p3])).length) Slot.unset).toArray = ls at hl ⊢
  have hl : lv_has ls 6 [(0, .ref (L 0)), (1, .int 14), (2, .int p0), (3, .int p1), (4, .int p2), (5, .int p3)] := hl
  refine lv_iload_n hx hb dL_plain_0 rfl (lv_at hl 1 rfl) ?_
  refine lv_tableIn hx hb dL_plain_1 (by decide) (by decide) (by decide) (tgt := 216) (off := 215) (by decide) ?_
  refine lv_aload_n hx hb dL_plain_216 rfl (lv_at hl 0 rfl) ?_
  refine lv_iload_n hx hb dL_plain_217 rfl (lv_at hl 2 rfl) ?_
  refine lv_iload_n hx hb dL_plain_218 rfl (lv_at hl 3 rfl) ?_
  refine wx_xcalli (vx_runV (As := [.int p0, .int p1]) (rest := []) ⟨hx, hb, hml, hown, hts⟩ (k_queuedAt l hst g base n L (by omega) x r0 nn hnn hx1 hrk p0 p1) (cwV 2 hts gL_plain_X3_queuedAt rfl rfl rfl (by decide +kernel) ⟨Nat.le_of_ble_eq_true rfl, Nat.le_of_ble_eq_true rfl⟩) (hPW.preV hP hS (ci := 5) rfl (by omega) cw_d) rfl rfl hl.1 rfl (lv_room (Nat.le_of_ble_eq_true rfl)) dL_plain_219 ⟨Nat.le_of_ble_eq_true rfl, Nat.le_of_ble_eq_true rfl⟩) hS (fun E ce q9 H locs hpx hP hS h1 h2 h3 => ?_) (fun r219 u219 H locs h219 hP hS => ?_)
  · exact wx_out hno hlocks h1 h2 h3 (hpx) hP hS (Nat.le_of_ble_eq_true rfl) (Nat.le_of_ble_eq_true rfl)
  refine W.widen (k := 3) (n := 18) (Nat.le_of_ble_eq_true rfl) (Nat.le_of_ble_eq_true rfl) ?_
  exact vx_ret (W.iret (v := r219) hx hb hr (fun t ht hW => ⟨⟨r219, (), rfl, h219, PB.mk9 hP ht⟩, hS.F ht⟩) hS.2.2 dL_plain_222)

set_option maxHeartbeats 4000000 in
set_option maxRecDepth 100000 in
theorem pl_15 (l : Launch) (hst : l.stackTraces = false) (g : gE) (base n : Nat) (L : Nat → Nat) (hn : 106 ≤ n) (x : St) (r0 : Nat → va_E) (nn : Nat) (hnn : nn ≤ 40) (hx1 : x 1 0 0 = nI nn) (p0 p1 p2 p3 : Int32) : vx_Met l yL_plain wsL_plain ({ frames := 10, cells := 3, slots := 18, locals := 300 }) (va_Pc [.ref (L 0), .int 15, .int p0, .int p1, .int p2, .int p3] (PW SS g base n L (cw g L x r0))) (va_Qi (fun (r : Int32) (u : Unit) => ∃ v : Int32, (fun (r : Int32) (_ : Unit) => ∃ j, j < nn ∧ p0 = nI j ∧ ((r = 1 ∧ (x 32 j 0 ≤ x 3 0 0 ∧ x 3 0 0 < x 33 j 0)) ∨ (r = 0 ∧ ¬ ((x 32 j 0 ≤ x 3 0 0 ∧ x 3 0 0 < x 33 j 0))))) v () ∧ r = if v = 0 then 0 else 1) (fun (u : Unit) t => PB g n L (cw g L x r0) t) (fun q => base ≤ q)) (QX g base n L (cw g L x r0) (fun E => E = "java/lang/IndexOutOfBoundsException" ∧ (p0.toInt < 0 ∨ nn ≤ p0.toInt))) 3 18 (fun q => base ≤ q) := by
  refine vx_ofW (cc := cL_plain) (maxL := 6) (ret := (some .int)) (by decide) rfl ?_
  intro p e s m args below meth c s₁ B hml hno hv
  obtain ⟨rfl, hPW⟩ := hv
  obtain ⟨hbs, hJ, hP, hK, hE⟩ := id hPW
  have hx := B.exec
  have hb := B.bytes
  have hr := B.returns
  have hts := atoms_spec (ws := wsL_plain) B.pre
  have hown : s.vm.findClass RL = some m.cls := findClass_of_methodNamed B.named
  have hlocks := B.notSynchronized
  have hS : va_S (fun q : Nat => base ≤ q) s.heap s.heap [] := va_S.rf
  have hl := lv_entry ([.ref (L 0), .int 15, .int p0, .int p1, .int p2, .int p3]) (n := 6) (Nat.le_of_ble_eq_true rfl)
  rw [lg_entry_eq]
  generalize (lg_sl ([.ref (L 0), .int 15, .int p0, .int p1, .int p2, .int p3]) ++ List.replicate (6 - (lg_sl ([.ref (L 0), .int 15, .int p0, .int p1, .int p2, .int p3])).length) Slot.unset).toArray = ls at hl ⊢
  have hl : lv_has ls 6 [(0, .ref (L 0)), (1, .int 15), (2, .int p0), (3, .int p1), (4, .int p2), (5, .int p3)] := hl
  refine lv_iload_n hx hb dL_plain_0 rfl (lv_at hl 1 rfl) ?_
  refine lv_tableIn hx hb dL_plain_1 (by decide) (by decide) (by decide) (tgt := 223) (off := 222) (by decide) ?_
  refine lv_aload_n hx hb dL_plain_223 rfl (lv_at hl 0 rfl) ?_
  refine lv_iload_n hx hb dL_plain_224 rfl (lv_at hl 2 rfl) ?_
  refine wx_xcalli (vx_runV (As := [.int p0]) (rest := []) ⟨hx, hb, hml, hown, hts⟩ (k_isDue l hst g base n L (by omega) x r0 nn hnn hx1 p0) (cwV 1 hts gL_plain_X3_isDue rfl rfl rfl (by decide +kernel) ⟨Nat.le_of_ble_eq_true rfl, Nat.le_of_ble_eq_true rfl⟩) (hPW.preV hP hS (ci := 5) rfl (by omega) cw_d) rfl rfl hl.1 rfl (lv_room (Nat.le_of_ble_eq_true rfl)) dL_plain_225 ⟨Nat.le_of_ble_eq_true rfl, Nat.le_of_ble_eq_true rfl⟩) hS (fun E ce q9 H locs hpx hP hS h1 h2 h3 => ?_) (fun r225 u225 H locs h225 hP hS => ?_)
  · exact wx_out hno hlocks h1 h2 h3 (hpx) hP hS (Nat.le_of_ble_eq_true rfl) (Nat.le_of_ble_eq_true rfl)
  refine wx_calli (va_runS (As := [.int r225]) (rest := []) ⟨hx, hb, hml, hown, hts⟩ (k_told l hst g base n L (cw g L x r0) r225) (va_cwS 1 hts gL_plain_L_told rfl rfl rfl (by decide +kernel) ⟨Nat.le_of_ble_eq_true rfl, Nat.le_of_ble_eq_true rfl⟩) (hPW.preS hP hS) rfl rfl hl.1 rfl (lv_room (Nat.le_of_ble_eq_true rfl)) dL_plain_228 ⟨Nat.le_of_ble_eq_true rfl, Nat.le_of_ble_eq_true rfl⟩) hS (fun r228 u228 H locs h228 hP hS => ?_)
  obtain rfl := h228
  refine W.widen (k := 3) (n := 18) (Nat.le_of_ble_eq_true rfl) (Nat.le_of_ble_eq_true rfl) ?_
  exact vx_ret (W.iret (v := if r225 = 0 then 0 else 1) hx hb hr (fun t ht hW => ⟨⟨if r225 = 0 then 0 else 1, (), rfl, ⟨r225, h225, rfl⟩, PB.mk9 hP ht⟩, hS.F ht⟩) hS.2.2 dL_plain_231)

set_option maxHeartbeats 4000000 in
set_option maxRecDepth 100000 in
theorem pl_16 (l : Launch) (hst : l.stackTraces = false) (g : gE) (base n : Nat) (L : Nat → Nat) (hn : 106 ≤ n) (x : St) (r0 : Nat → va_E) (nb : Nat) (hnb : nb ≤ 6) (hx0 : x 0 0 0 = nI nb) (hsh : ∀ b, b < 6 → x 12 b 0 = -1 ∨ ∃ k, k < 40 ∧ x 12 b 0 = nI k) (cnt : Nat) (hcn : cnt ≤ 512) (hx4 : x 4 0 0 = nI cnt) (p0 p1 p2 p3 : Int32) : vx_Met l yL_plain wsL_plain ({ frames := 10, cells := 3, slots := 18, locals := 300 }) (va_Pc [.ref (L 0), .int 16, .int p0, .int p1, .int p2, .int p3] (PW SS g base n L (cw g L x r0))) (va_Qi (fun (r : Int32) (u : St) => ∃ j, j < nb ∧ p0 = nI j ∧ (1 ≤ p1.toInt ∧ p1.toInt ≤ 999) ∧ ((x 12 j 0 = -1 ∧ r = 0 ∧ u = x) ∨ (∃ k, k < 40 ∧ x 12 j 0 = nI k ∧ u = paF x k p0 p1 cnt ∧ r = u 37 k p0.toNatClampNeg))) (fun (u : St) t => PB g n L (cw g L u r0) t) (fun q => base ≤ q)) (QX g base n L (cw g L x r0) (fun E => (E = "java/lang/IndexOutOfBoundsException" ∧ (p0.toInt < 0 ∨ nb ≤ p0.toInt)) ∨ (E = "java/lang/IllegalArgumentException" ∧ (∃ j, j < nb ∧ p0 = nI j) ∧ ¬ (1 ≤ p1.toInt ∧ p1.toInt ≤ 999)))) 3 18 (fun q => base ≤ q) := by
  refine vx_ofW (cc := cL_plain) (maxL := 6) (ret := (some .int)) (by decide) rfl ?_
  intro p e s m args below meth c s₁ B hml hno hv
  obtain ⟨rfl, hPW⟩ := hv
  obtain ⟨hbs, hJ, hP, hK, hE⟩ := id hPW
  have hx := B.exec
  have hb := B.bytes
  have hr := B.returns
  have hts := atoms_spec (ws := wsL_plain) B.pre
  have hown : s.vm.findClass RL = some m.cls := findClass_of_methodNamed B.named
  have hlocks := B.notSynchronized
  have hS : va_S (fun q : Nat => base ≤ q) s.heap s.heap [] := va_S.rf
  have hl := lv_entry ([.ref (L 0), .int 16, .int p0, .int p1, .int p2, .int p3]) (n := 6) (Nat.le_of_ble_eq_true rfl)
  rw [lg_entry_eq]
  generalize (lg_sl ([.ref (L 0), .int 16, .int p0, .int p1, .int p2, .int p3]) ++ List.replicate (6 - (lg_sl ([.ref (L 0), .int 16, .int p0, .int p1, .int p2, .int p3])).length) Slot.unset).toArray = ls at hl ⊢
  have hl : lv_has ls 6 [(0, .ref (L 0)), (1, .int 16), (2, .int p0), (3, .int p1), (4, .int p2), (5, .int p3)] := hl
  refine lv_iload_n hx hb dL_plain_0 rfl (lv_at hl 1 rfl) ?_
  refine lv_tableIn hx hb dL_plain_1 (by decide) (by decide) (by decide) (tgt := 232) (off := 231) (by decide) ?_
  refine lv_aload_n hx hb dL_plain_232 rfl (lv_at hl 0 rfl) ?_
  refine lv_iload_n hx hb dL_plain_233 rfl (lv_at hl 2 rfl) ?_
  refine lv_iload_n hx hb dL_plain_234 rfl (lv_at hl 3 rfl) ?_
  refine wx_xcalli (vx_runV (As := [.int p0, .int p1]) (rest := []) ⟨hx, hb, hml, hown, hts⟩ (k_pass l hst g base n L (by omega) x r0 nb hnb hx0 hsh cnt hcn hx4 p0 p1) (cwV 2 hts gL_plain_X3_pass rfl rfl rfl (by decide +kernel) ⟨Nat.le_of_ble_eq_true rfl, Nat.le_of_ble_eq_true rfl⟩) (hPW.preV hP hS (ci := 5) rfl (by omega) cw_d) rfl rfl hl.1 rfl (lv_room (Nat.le_of_ble_eq_true rfl)) dL_plain_235 ⟨Nat.le_of_ble_eq_true rfl, Nat.le_of_ble_eq_true rfl⟩) hS (fun E ce q9 H locs hpx hP hS h1 h2 h3 => ?_) (fun r235 u235 H locs h235 hP hS => ?_)
  · exact wx_out hno hlocks h1 h2 h3 (hpx) hP hS (Nat.le_of_ble_eq_true rfl) (Nat.le_of_ble_eq_true rfl)
  refine W.widen (k := 3) (n := 18) (Nat.le_of_ble_eq_true rfl) (Nat.le_of_ble_eq_true rfl) ?_
  exact vx_ret (W.iret (v := r235) hx hb hr (fun t ht hW => ⟨⟨r235, u235, rfl, h235, PB.mk9 hP ht⟩, hS.F ht⟩) hS.2.2 dL_plain_238)

set_option maxHeartbeats 4000000 in
set_option maxRecDepth 100000 in
theorem pl_17 (l : Launch) (hst : l.stackTraces = false) (g : gE) (base n : Nat) (L : Nat → Nat) (hn : 106 ≤ n) (x : St) (r0 : Nat → va_E) (nb : Nat) (hnb : nb ≤ 6) (hx0 : x 0 0 0 = nI nb) (nn : Nat) (hnn : nn ≤ 40) (hx1 : x 1 0 0 = nI nn) (p0 p1 p2 p3 : Int32) : vx_Met l yL_plain wsL_plain ({ frames := 10, cells := 3, slots := 18, locals := 300 }) (va_Pc [.ref (L 0), .int 17, .int p0, .int p1, .int p2, .int p3] (PW SS g base n L (cw g L x r0))) (va_Qi (fun (r : Int32) (_ : Unit) => ∃ j, j < nn ∧ p0 = nI j ∧ (0 ≤ p1.toInt ∧ p1.toInt ≤ 3) ∧ r = riF x j p1 nb) (fun (u : Unit) t => PB g n L (cw g L x r0) t) (fun q => base ≤ q)) (QX g base n L (cw g L x r0) (fun E => (E = "java/lang/IndexOutOfBoundsException" ∧ (p0.toInt < 0 ∨ nn ≤ p0.toInt)) ∨ (E = "java/lang/IllegalArgumentException" ∧ (∃ j, j < nn ∧ p0 = nI j) ∧ (p1.toInt < 0 ∨ 3 < p1.toInt)))) 3 18 (fun q => base ≤ q) := by
  refine vx_ofW (cc := cL_plain) (maxL := 6) (ret := (some .int)) (by decide) rfl ?_
  intro p e s m args below meth c s₁ B hml hno hv
  obtain ⟨rfl, hPW⟩ := hv
  obtain ⟨hbs, hJ, hP, hK, hE⟩ := id hPW
  have hx := B.exec
  have hb := B.bytes
  have hr := B.returns
  have hts := atoms_spec (ws := wsL_plain) B.pre
  have hown : s.vm.findClass RL = some m.cls := findClass_of_methodNamed B.named
  have hlocks := B.notSynchronized
  have hS : va_S (fun q : Nat => base ≤ q) s.heap s.heap [] := va_S.rf
  have hl := lv_entry ([.ref (L 0), .int 17, .int p0, .int p1, .int p2, .int p3]) (n := 6) (Nat.le_of_ble_eq_true rfl)
  rw [lg_entry_eq]
  generalize (lg_sl ([.ref (L 0), .int 17, .int p0, .int p1, .int p2, .int p3]) ++ List.replicate (6 - (lg_sl ([.ref (L 0), .int 17, .int p0, .int p1, .int p2, .int p3])).length) Slot.unset).toArray = ls at hl ⊢
  have hl : lv_has ls 6 [(0, .ref (L 0)), (1, .int 17), (2, .int p0), (3, .int p1), (4, .int p2), (5, .int p3)] := hl
  refine lv_iload_n hx hb dL_plain_0 rfl (lv_at hl 1 rfl) ?_
  refine lv_tableIn hx hb dL_plain_1 (by decide) (by decide) (by decide) (tgt := 239) (off := 238) (by decide) ?_
  refine lv_aload_n hx hb dL_plain_239 rfl (lv_at hl 0 rfl) ?_
  refine lv_iload_n hx hb dL_plain_240 rfl (lv_at hl 2 rfl) ?_
  refine lv_iload_n hx hb dL_plain_241 rfl (lv_at hl 3 rfl) ?_
  refine wx_xcalli (vx_runV (As := [.int p0, .int p1]) (rest := []) ⟨hx, hb, hml, hown, hts⟩ (k_readers l hst g base n L (by omega) x r0 nb hnb hx0 nn hnn hx1 p0 p1) (cwV 2 hts gL_plain_X3_readers rfl rfl rfl (by decide +kernel) ⟨Nat.le_of_ble_eq_true rfl, Nat.le_of_ble_eq_true rfl⟩) (hPW.preV hP hS (ci := 5) rfl (by omega) cw_d) rfl rfl hl.1 rfl (lv_room (Nat.le_of_ble_eq_true rfl)) dL_plain_242 ⟨Nat.le_of_ble_eq_true rfl, Nat.le_of_ble_eq_true rfl⟩) hS (fun E ce q9 H locs hpx hP hS h1 h2 h3 => ?_) (fun r242 u242 H locs h242 hP hS => ?_)
  · exact wx_out hno hlocks h1 h2 h3 (hpx) hP hS (Nat.le_of_ble_eq_true rfl) (Nat.le_of_ble_eq_true rfl)
  refine W.widen (k := 3) (n := 18) (Nat.le_of_ble_eq_true rfl) (Nat.le_of_ble_eq_true rfl) ?_
  exact vx_ret (W.iret (v := r242) hx hb hr (fun t ht hW => ⟨⟨r242, (), rfl, h242, PB.mk9 hP ht⟩, hS.F ht⟩) hS.2.2 dL_plain_245)

set_option maxHeartbeats 4000000 in
set_option maxRecDepth 100000 in
theorem pl_18 (l : Launch) (hst : l.stackTraces = false) (g : gE) (base n : Nat) (L : Nat → Nat) (hn : 106 ≤ n) (x : St) (r0 : Nat → va_E) (nn : Nat) (hnn : nn ≤ 40) (hx1 : x 1 0 0 = nI nn) (cnt : Nat) (hcn : cnt ≤ 512) (hx4 : x 4 0 0 = nI cnt) (p0 p1 p2 p3 : Int32) : vx_Met l yL_plain wsL_plain ({ frames := 10, cells := 3, slots := 18, locals := 300 }) (va_Pc [.ref (L 0), .int 18, .int p0, .int p1, .int p2, .int p3] (PW SS g base n L (cw g L x r0))) (va_Qi (fun (r : Int32) (_ : Unit) => ∃ j, j < nn ∧ p0 = nI j ∧ r = poF x (nI j) p1 cnt) (fun (u : Unit) t => PB g n L (cw g L x r0) t) (fun q => base ≤ q)) (QX g base n L (cw g L x r0) (fun E => E = "java/lang/IndexOutOfBoundsException" ∧ (p0.toInt < 0 ∨ nn ≤ p0.toInt))) 3 18 (fun q => base ≤ q) := by
  refine vx_ofW (cc := cL_plain) (maxL := 6) (ret := (some .int)) (by decide) rfl ?_
  intro p e s m args below meth c s₁ B hml hno hv
  obtain ⟨rfl, hPW⟩ := hv
  obtain ⟨hbs, hJ, hP, hK, hE⟩ := id hPW
  have hx := B.exec
  have hb := B.bytes
  have hr := B.returns
  have hts := atoms_spec (ws := wsL_plain) B.pre
  have hown : s.vm.findClass RL = some m.cls := findClass_of_methodNamed B.named
  have hlocks := B.notSynchronized
  have hS : va_S (fun q : Nat => base ≤ q) s.heap s.heap [] := va_S.rf
  have hl := lv_entry ([.ref (L 0), .int 18, .int p0, .int p1, .int p2, .int p3]) (n := 6) (Nat.le_of_ble_eq_true rfl)
  rw [lg_entry_eq]
  generalize (lg_sl ([.ref (L 0), .int 18, .int p0, .int p1, .int p2, .int p3]) ++ List.replicate (6 - (lg_sl ([.ref (L 0), .int 18, .int p0, .int p1, .int p2, .int p3])).length) Slot.unset).toArray = ls at hl ⊢
  have hl : lv_has ls 6 [(0, .ref (L 0)), (1, .int 18), (2, .int p0), (3, .int p1), (4, .int p2), (5, .int p3)] := hl
  refine lv_iload_n hx hb dL_plain_0 rfl (lv_at hl 1 rfl) ?_
  refine lv_tableIn hx hb dL_plain_1 (by decide) (by decide) (by decide) (tgt := 246) (off := 245) (by decide) ?_
  refine lv_aload_n hx hb dL_plain_246 rfl (lv_at hl 0 rfl) ?_
  refine lv_iload_n hx hb dL_plain_247 rfl (lv_at hl 2 rfl) ?_
  refine lv_iload_n hx hb dL_plain_248 rfl (lv_at hl 3 rfl) ?_
  refine wx_xcalli (vx_runV (As := [.int p0, .int p1]) (rest := []) ⟨hx, hb, hml, hown, hts⟩ (k_readIn l hst g base n L (by omega) x r0 nn hnn hx1 cnt hcn hx4 p0 p1) (cwV 2 hts gL_plain_X3_readIn rfl rfl rfl (by decide +kernel) ⟨Nat.le_of_ble_eq_true rfl, Nat.le_of_ble_eq_true rfl⟩) (hPW.preV hP hS (ci := 5) rfl (by omega) cw_d) rfl rfl hl.1 rfl (lv_room (Nat.le_of_ble_eq_true rfl)) dL_plain_249 ⟨Nat.le_of_ble_eq_true rfl, Nat.le_of_ble_eq_true rfl⟩) hS (fun E ce q9 H locs hpx hP hS h1 h2 h3 => ?_) (fun r249 u249 H locs h249 hP hS => ?_)
  · exact wx_out hno hlocks h1 h2 h3 (hpx) hP hS (Nat.le_of_ble_eq_true rfl) (Nat.le_of_ble_eq_true rfl)
  refine W.widen (k := 3) (n := 18) (Nat.le_of_ble_eq_true rfl) (Nat.le_of_ble_eq_true rfl) ?_
  exact vx_ret (W.iret (v := r249) hx hb hr (fun t ht hW => ⟨⟨r249, (), rfl, h249, PB.mk9 hP ht⟩, hS.F ht⟩) hS.2.2 dL_plain_252)

set_option maxHeartbeats 4000000 in
set_option maxRecDepth 100000 in
theorem pl_19 (l : Launch) (hst : l.stackTraces = false) (g : gE) (base n : Nat) (L : Nat → Nat) (hn : 106 ≤ n) (x : St) (r0 : Nat → va_E) (nb : Nat) (hnb : nb ≤ 6) (hx0 : x 0 0 0 = nI nb) (nn : Nat) (hnn : nn ≤ 40) (hx1 : x 1 0 0 = nI nn) (p0 p1 p2 p3 : Int32) : vx_Met l yL_plain wsL_plain ({ frames := 10, cells := 3, slots := 18, locals := 300 }) (va_Pc [.ref (L 0), .int 19, .int p0, .int p1, .int p2, .int p3] (PW SS g base n L (cw g L x r0))) (va_Qi (fun (r : Int32) (_ : Unit) => (0 ≤ p1.toInt ∧ p1.toInt ≤ 3 ∧ p0.toInt ≠ 0) ∧ r = scF x p0 p1 nb nn) (fun (u : Unit) t => PB g n L (cw g L x r0) t) (fun q => base ≤ q)) (QX g base n L (cw g L x r0) (fun E => E = "java/lang/IllegalArgumentException" ∧ (p1.toInt < 0 ∨ 3 < p1.toInt ∨ p0.toInt = 0))) 3 18 (fun q => base ≤ q) := by
  refine vx_ofW (cc := cL_plain) (maxL := 6) (ret := (some .int)) (by decide) rfl ?_
  intro p e s m args below meth c s₁ B hml hno hv
  obtain ⟨rfl, hPW⟩ := hv
  obtain ⟨hbs, hJ, hP, hK, hE⟩ := id hPW
  have hx := B.exec
  have hb := B.bytes
  have hr := B.returns
  have hts := atoms_spec (ws := wsL_plain) B.pre
  have hown : s.vm.findClass RL = some m.cls := findClass_of_methodNamed B.named
  have hlocks := B.notSynchronized
  have hS : va_S (fun q : Nat => base ≤ q) s.heap s.heap [] := va_S.rf
  have hl := lv_entry ([.ref (L 0), .int 19, .int p0, .int p1, .int p2, .int p3]) (n := 6) (Nat.le_of_ble_eq_true rfl)
  rw [lg_entry_eq]
  generalize (lg_sl ([.ref (L 0), .int 19, .int p0, .int p1, .int p2, .int p3]) ++ List.replicate (6 - (lg_sl ([.ref (L 0), .int 19, .int p0, .int p1, .int p2, .int p3])).length) Slot.unset).toArray = ls at hl ⊢
  have hl : lv_has ls 6 [(0, .ref (L 0)), (1, .int 19), (2, .int p0), (3, .int p1), (4, .int p2), (5, .int p3)] := hl
  refine lv_iload_n hx hb dL_plain_0 rfl (lv_at hl 1 rfl) ?_
  refine lv_tableIn hx hb dL_plain_1 (by decide) (by decide) (by decide) (tgt := 253) (off := 252) (by decide) ?_
  refine lv_aload_n hx hb dL_plain_253 rfl (lv_at hl 0 rfl) ?_
  refine lv_iload_n hx hb dL_plain_254 rfl (lv_at hl 2 rfl) ?_
  refine lv_iload_n hx hb dL_plain_255 rfl (lv_at hl 3 rfl) ?_
  refine wx_xcalli (vx_runV (As := [.int p0, .int p1]) (rest := []) ⟨hx, hb, hml, hown, hts⟩ (k_suspects l hst g base n L (by omega) x r0 nb hnb hx0 nn hnn hx1 p0 p1) (cwV 2 hts gL_plain_X3_suspects rfl rfl rfl (by decide +kernel) ⟨Nat.le_of_ble_eq_true rfl, Nat.le_of_ble_eq_true rfl⟩) (hPW.preV hP hS (ci := 5) rfl (by omega) cw_d) rfl rfl hl.1 rfl (lv_room (Nat.le_of_ble_eq_true rfl)) dL_plain_256 ⟨Nat.le_of_ble_eq_true rfl, Nat.le_of_ble_eq_true rfl⟩) hS (fun E ce q9 H locs hpx hP hS h1 h2 h3 => ?_) (fun r256 u256 H locs h256 hP hS => ?_)
  · exact wx_out hno hlocks h1 h2 h3 (hpx) hP hS (Nat.le_of_ble_eq_true rfl) (Nat.le_of_ble_eq_true rfl)
  refine W.widen (k := 3) (n := 18) (Nat.le_of_ble_eq_true rfl) (Nat.le_of_ble_eq_true rfl) ?_
  exact vx_ret (W.iret (v := r256) hx hb hr (fun t ht hW => ⟨⟨r256, (), rfl, h256, PB.mk9 hP ht⟩, hS.F ht⟩) hS.2.2 dL_plain_259)

set_option maxHeartbeats 4000000 in
set_option maxRecDepth 100000 in
theorem pl_20 (l : Launch) (hst : l.stackTraces = false) (g : gE) (base n : Nat) (L : Nat → Nat) (hn : 106 ≤ n) (x : St) (r0 : Nat → va_E) (nb : Nat) (hnb : nb ≤ 6) (hx0 : x 0 0 0 = nI nb) (nn : Nat) (hnn : nn ≤ 40) (hx1 : x 1 0 0 = nI nn) (p0 p1 p2 p3 : Int32) : vx_Met l yL_plain wsL_plain ({ frames := 10, cells := 3, slots := 18, locals := 300 }) (va_Pc [.ref (L 0), .int 20, .int p0, .int p1, .int p2, .int p3] (PW SS g base n L (cw g L x r0))) (va_Qi (fun (r : Int32) (_ : Unit) => (0 ≤ p1.toInt ∧ p1.toInt ≤ 3 ∧ p0.toInt ≠ 0) ∧ ∃ k, k < nn ∧ (suP x k p0 p1 nb ∧ saF x k p0 p1 nb nn = p2) ∧ r = nI k ∧ ∀ j, j < k → ¬ (suP x j p0 p1 nb ∧ saF x j p0 p1 nb nn = p2)) (fun (u : Unit) t => PB g n L (cw g L x r0) t) (fun q => base ≤ q)) (QX g base n L (cw g L x r0) (fun E => (E = "java/lang/IllegalArgumentException" ∧ (p1.toInt < 0 ∨ 3 < p1.toInt ∨ p0.toInt = 0)) ∨ (E = "java/lang/IndexOutOfBoundsException" ∧ (0 ≤ p1.toInt ∧ p1.toInt ≤ 3 ∧ p0.toInt ≠ 0) ∧ ∀ j, j < nn → ¬ (suP x j p0 p1 nb ∧ saF x j p0 p1 nb nn = p2)))) 3 18 (fun q => base ≤ q) := by
  refine vx_ofW (cc := cL_plain) (maxL := 6) (ret := (some .int)) (by decide) rfl ?_
  intro p e s m args below meth c s₁ B hml hno hv
  obtain ⟨rfl, hPW⟩ := hv
  obtain ⟨hbs, hJ, hP, hK, hE⟩ := id hPW
  have hx := B.exec
  have hb := B.bytes
  have hr := B.returns
  have hts := atoms_spec (ws := wsL_plain) B.pre
  have hown : s.vm.findClass RL = some m.cls := findClass_of_methodNamed B.named
  have hlocks := B.notSynchronized
  have hS : va_S (fun q : Nat => base ≤ q) s.heap s.heap [] := va_S.rf
  have hl := lv_entry ([.ref (L 0), .int 20, .int p0, .int p1, .int p2, .int p3]) (n := 6) (Nat.le_of_ble_eq_true rfl)
  rw [lg_entry_eq]
  generalize (lg_sl ([.ref (L 0), .int 20, .int p0, .int p1, .int p2, .int p3]) ++ List.replicate (6 - (lg_sl ([.ref (L 0), .int 20, .int p0, .int p1, .int p2, .int p3])).length) Slot.unset).toArray = ls at hl ⊢
  have hl : lv_has ls 6 [(0, .ref (L 0)), (1, .int 20), (2, .int p0), (3, .int p1), (4, .int p2), (5, .int p3)] := hl
  refine lv_iload_n hx hb dL_plain_0 rfl (lv_at hl 1 rfl) ?_
  refine lv_tableIn hx hb dL_plain_1 (by decide) (by decide) (by decide) (tgt := 260) (off := 259) (by decide) ?_
  refine lv_aload_n hx hb dL_plain_260 rfl (lv_at hl 0 rfl) ?_
  refine lv_iload_n hx hb dL_plain_261 rfl (lv_at hl 2 rfl) ?_
  refine lv_iload_n hx hb dL_plain_262 rfl (lv_at hl 3 rfl) ?_
  refine lv_iload hx hb dL_plain_263 (lv_at hl 4 rfl) ?_
  refine wx_xcalli (vx_runV (As := [.int p0, .int p1, .int p2]) (rest := []) ⟨hx, hb, hml, hown, hts⟩ (k_suspectAt l hst g base n L (by omega) x r0 nb hnb hx0 nn hnn hx1 p0 p1 p2) (cwV 3 hts gL_plain_X3_suspectAt rfl rfl rfl (by decide +kernel) ⟨Nat.le_of_ble_eq_true rfl, Nat.le_of_ble_eq_true rfl⟩) (hPW.preV hP hS (ci := 5) rfl (by omega) cw_d) rfl rfl hl.1 rfl (lv_room (Nat.le_of_ble_eq_true rfl)) dL_plain_265 ⟨Nat.le_of_ble_eq_true rfl, Nat.le_of_ble_eq_true rfl⟩) hS (fun E ce q9 H locs hpx hP hS h1 h2 h3 => ?_) (fun r265 u265 H locs h265 hP hS => ?_)
  · exact wx_out hno hlocks h1 h2 h3 (hpx) hP hS (Nat.le_of_ble_eq_true rfl) (Nat.le_of_ble_eq_true rfl)
  refine W.widen (k := 3) (n := 18) (Nat.le_of_ble_eq_true rfl) (Nat.le_of_ble_eq_true rfl) ?_
  exact vx_ret (W.iret (v := r265) hx hb hr (fun t ht hW => ⟨⟨r265, (), rfl, h265, PB.mk9 hP ht⟩, hS.F ht⟩) hS.2.2 dL_plain_268)

set_option maxHeartbeats 4000000 in
set_option maxRecDepth 100000 in
theorem pl_21 (l : Launch) (hst : l.stackTraces = false) (g : gE) (base n : Nat) (L : Nat → Nat) (hn : 106 ≤ n) (x : St) (r0 : Nat → va_E) (nb nn : Nat) (hG : GI x nb nn) (p0 p1 p2 p3 : Int32) : vx_Met l yL_plain wsL_plain ({ frames := 10, cells := 3, slots := 18, locals := 300 }) (va_Pc [.ref (L 0), .int 21, .int p0, .int p1, .int p2, .int p3] (PW SS g base n L (cw g L x r0))) (va_Qi (fun (r : Int32) (u : St) => (1 ≤ p0.toInt ∧ p0.toInt ≤ 48) ∧ x 3 0 0 + p0 ≤ 2000 ∧ ∃ N, N ≤ 48 ∧ p0 = nI N ∧ u = goF x nb nn N ∧ r = u 3 0 0) (fun (u : St) t => PB g n L (cw g L u r0) t) (fun q => base ≤ q)) (QX g base n L (cw g L x r0) (fun E => (E = "java/lang/IllegalArgumentException" ∧ ¬ (1 ≤ p0.toInt ∧ p0.toInt ≤ 48)) ∨ (E = "java/lang/IllegalStateException" ∧ (1 ≤ p0.toInt ∧ p0.toInt ≤ 48) ∧ ¬ x 3 0 0 + p0 ≤ 2000))) 3 18 (fun q => base ≤ q) := by
  refine vx_ofW (cc := cL_plain) (maxL := 6) (ret := (some .int)) (by decide) rfl ?_
  intro p e s m args below meth c s₁ B hml hno hv
  obtain ⟨rfl, hPW⟩ := hv
  obtain ⟨hbs, hJ, hP, hK, hE⟩ := id hPW
  have hx := B.exec
  have hb := B.bytes
  have hr := B.returns
  have hts := atoms_spec (ws := wsL_plain) B.pre
  have hown : s.vm.findClass RL = some m.cls := findClass_of_methodNamed B.named
  have hlocks := B.notSynchronized
  have hS : va_S (fun q : Nat => base ≤ q) s.heap s.heap [] := va_S.rf
  have hl := lv_entry ([.ref (L 0), .int 21, .int p0, .int p1, .int p2, .int p3]) (n := 6) (Nat.le_of_ble_eq_true rfl)
  rw [lg_entry_eq]
  generalize (lg_sl ([.ref (L 0), .int 21, .int p0, .int p1, .int p2, .int p3]) ++ List.replicate (6 - (lg_sl ([.ref (L 0), .int 21, .int p0, .int p1, .int p2, .int p3])).length) Slot.unset).toArray = ls at hl ⊢
  have hl : lv_has ls 6 [(0, .ref (L 0)), (1, .int 21), (2, .int p0), (3, .int p1), (4, .int p2), (5, .int p3)] := hl
  refine lv_iload_n hx hb dL_plain_0 rfl (lv_at hl 1 rfl) ?_
  refine lv_tableIn hx hb dL_plain_1 (by decide) (by decide) (by decide) (tgt := 269) (off := 268) (by decide) ?_
  refine lv_aload_n hx hb dL_plain_269 rfl (lv_at hl 0 rfl) ?_
  refine lv_iload_n hx hb dL_plain_270 rfl (lv_at hl 2 rfl) ?_
  refine wx_xcalli (vx_runV (As := [.int p0]) (rest := []) ⟨hx, hb, hml, hown, hts⟩ (k_go l hst g base n L (by omega) x r0 nb nn hG p0) (cwV 1 hts gL_plain_X3_go rfl rfl rfl (by decide +kernel) ⟨Nat.le_of_ble_eq_true rfl, Nat.le_of_ble_eq_true rfl⟩) (hPW.preV hP hS (ci := 5) rfl (by omega) cw_d) rfl rfl hl.1 rfl (lv_room (Nat.le_of_ble_eq_true rfl)) dL_plain_271 ⟨Nat.le_of_ble_eq_true rfl, Nat.le_of_ble_eq_true rfl⟩) hS (fun E ce q9 H locs hpx hP hS h1 h2 h3 => ?_) (fun r271 u271 H locs h271 hP hS => ?_)
  · exact wx_out hno hlocks h1 h2 h3 (hpx) hP hS (Nat.le_of_ble_eq_true rfl) (Nat.le_of_ble_eq_true rfl)
  refine W.widen (k := 3) (n := 18) (Nat.le_of_ble_eq_true rfl) (Nat.le_of_ble_eq_true rfl) ?_
  exact vx_ret (W.iret (v := r271) hx hb hr (fun t ht hW => ⟨⟨r271, u271, rfl, h271, PB.mk9 hP ht⟩, hS.F ht⟩) hS.2.2 dL_plain_274)

set_option maxHeartbeats 4000000 in
set_option maxRecDepth 100000 in
theorem pl_22 (l : Launch) (hst : l.stackTraces = false) (g : gE) (base n : Nat) (L : Nat → Nat) (hn : 106 ≤ n) (x : St) (r0 : Nat → va_E) (nb : Nat) (hnb : nb ≤ 6) (hx0 : x 0 0 0 = nI nb) (tcs : Nat → Nat) (htc : ∀ b, b < 6 → tcs b ≤ 1920) (hx19 : ∀ b, b < 6 → x 19 b 0 = nI (tcs b)) (p0 p1 p2 p3 : Int32) : vx_Met l yL_plain wsL_plain ({ frames := 10, cells := 3, slots := 18, locals := 300 }) (va_Pc [.ref (L 0), .int 22, .int p0, .int p1, .int p2, .int p3] (PW SS g base n L (cw g L x r0))) (va_Qi (fun (r : Int32) (_ : Unit) => ∃ j, j < nb ∧ p0 = nI j ∧ (0 ≤ p1.toInt ∧ p1.toInt < 8 ∧ 0 ≤ p2.toInt ∧ p2.toInt < 4) ∧ r = bitF (xorF x j (tcs j)) (8 * p2 + p1)) (fun (u : Unit) t => PB g n L (cw g L x r0) t) (fun q => base ≤ q)) (QX g base n L (cw g L x r0) (fun E => E = "java/lang/IndexOutOfBoundsException" ∧ ((p0.toInt < 0 ∨ nb ≤ p0.toInt) ∨ ¬ (0 ≤ p1.toInt ∧ p1.toInt < 8 ∧ 0 ≤ p2.toInt ∧ p2.toInt < 4)))) 3 18 (fun q => base ≤ q) := by
  refine vx_ofW (cc := cL_plain) (maxL := 6) (ret := (some .int)) (by decide) rfl ?_
  intro p e s m args below meth c s₁ B hml hno hv
  obtain ⟨rfl, hPW⟩ := hv
  obtain ⟨hbs, hJ, hP, hK, hE⟩ := id hPW
  have hx := B.exec
  have hb := B.bytes
  have hr := B.returns
  have hts := atoms_spec (ws := wsL_plain) B.pre
  have hown : s.vm.findClass RL = some m.cls := findClass_of_methodNamed B.named
  have hlocks := B.notSynchronized
  have hS : va_S (fun q : Nat => base ≤ q) s.heap s.heap [] := va_S.rf
  have hl := lv_entry ([.ref (L 0), .int 22, .int p0, .int p1, .int p2, .int p3]) (n := 6) (Nat.le_of_ble_eq_true rfl)
  rw [lg_entry_eq]
  generalize (lg_sl ([.ref (L 0), .int 22, .int p0, .int p1, .int p2, .int p3]) ++ List.replicate (6 - (lg_sl ([.ref (L 0), .int 22, .int p0, .int p1, .int p2, .int p3])).length) Slot.unset).toArray = ls at hl ⊢
  have hl : lv_has ls 6 [(0, .ref (L 0)), (1, .int 22), (2, .int p0), (3, .int p1), (4, .int p2), (5, .int p3)] := hl
  refine lv_iload_n hx hb dL_plain_0 rfl (lv_at hl 1 rfl) ?_
  refine lv_tableIn hx hb dL_plain_1 (by decide) (by decide) (by decide) (tgt := 275) (off := 274) (by decide) ?_
  refine lv_aload_n hx hb dL_plain_275 rfl (lv_at hl 0 rfl) ?_
  refine lv_iload_n hx hb dL_plain_276 rfl (lv_at hl 2 rfl) ?_
  refine lv_iload_n hx hb dL_plain_277 rfl (lv_at hl 3 rfl) ?_
  refine lv_iload hx hb dL_plain_278 (lv_at hl 4 rfl) ?_
  refine wx_xcalli (vx_runV (As := [.int p0, .int p1, .int p2]) (rest := []) ⟨hx, hb, hml, hown, hts⟩ (k_cellAnew l hst g base n L (by omega) x r0 nb hnb hx0 tcs htc hx19 p0 p1 p2) (cwV 3 hts gL_plain_X3_cellAnew rfl rfl rfl (by decide +kernel) ⟨Nat.le_of_ble_eq_true rfl, Nat.le_of_ble_eq_true rfl⟩) (hPW.preV hP hS (ci := 5) rfl (by omega) cw_d) rfl rfl hl.1 rfl (lv_room (Nat.le_of_ble_eq_true rfl)) dL_plain_280 ⟨Nat.le_of_ble_eq_true rfl, Nat.le_of_ble_eq_true rfl⟩) hS (fun E ce q9 H locs hpx hP hS h1 h2 h3 => ?_) (fun r280 u280 H locs h280 hP hS => ?_)
  · exact wx_out hno hlocks h1 h2 h3 (hpx) hP hS (Nat.le_of_ble_eq_true rfl) (Nat.le_of_ble_eq_true rfl)
  refine W.widen (k := 3) (n := 18) (Nat.le_of_ble_eq_true rfl) (Nat.le_of_ble_eq_true rfl) ?_
  exact vx_ret (W.iret (v := r280) hx hb hr (fun t ht hW => ⟨⟨r280, (), rfl, h280, PB.mk9 hP ht⟩, hS.F ht⟩) hS.2.2 dL_plain_283)

set_option maxHeartbeats 4000000 in
set_option maxRecDepth 100000 in
theorem pl_23 (l : Launch) (hst : l.stackTraces = false) (g : gE) (base n : Nat) (L : Nat → Nat) (hn : 106 ≤ n) (x : St) (r0 : Nat → va_E) (nb : Nat) (hnb : nb ≤ 6) (hx0 : x 0 0 0 = nI nb) (p0 p1 p2 p3 : Int32) : vx_Met l yL_plain wsL_plain ({ frames := 10, cells := 3, slots := 18, locals := 300 }) (va_Pc [.ref (L 0), .int 23, .int p0, .int p1, .int p2, .int p3] (PW SS g base n L (cw g L x r0))) (va_Qi (fun (r : Int32) (_ : Unit) => ∃ j, j < nb ∧ p0 = nI j ∧ r = x 16 j 0) (fun (u : Unit) t => PB g n L (cw g L x r0) t) (fun q => base ≤ q)) (QX g base n L (cw g L x r0) (fun E => E = "java/lang/IndexOutOfBoundsException" ∧ (p0.toInt < 0 ∨ nb ≤ p0.toInt))) 3 18 (fun q => base ≤ q) := by
  refine vx_ofW (cc := cL_plain) (maxL := 6) (ret := (some .int)) (by decide) rfl ?_
  intro p e s m args below meth c s₁ B hml hno hv
  obtain ⟨rfl, hPW⟩ := hv
  obtain ⟨hbs, hJ, hP, hK, hE⟩ := id hPW
  have hx := B.exec
  have hb := B.bytes
  have hr := B.returns
  have hts := atoms_spec (ws := wsL_plain) B.pre
  have hown : s.vm.findClass RL = some m.cls := findClass_of_methodNamed B.named
  have hlocks := B.notSynchronized
  have hS : va_S (fun q : Nat => base ≤ q) s.heap s.heap [] := va_S.rf
  have hl := lv_entry ([.ref (L 0), .int 23, .int p0, .int p1, .int p2, .int p3]) (n := 6) (Nat.le_of_ble_eq_true rfl)
  rw [lg_entry_eq]
  generalize (lg_sl ([.ref (L 0), .int 23, .int p0, .int p1, .int p2, .int p3]) ++ List.replicate (6 - (lg_sl ([.ref (L 0), .int 23, .int p0, .int p1, .int p2, .int p3])).length) Slot.unset).toArray = ls at hl ⊢
  have hl : lv_has ls 6 [(0, .ref (L 0)), (1, .int 23), (2, .int p0), (3, .int p1), (4, .int p2), (5, .int p3)] := hl
  refine lv_iload_n hx hb dL_plain_0 rfl (lv_at hl 1 rfl) ?_
  refine lv_tableOut hx hb dL_plain_1 (tgt := 284) (by decide) (by decide) ?_
  refine lv_aload_n hx hb dL_plain_284 rfl (lv_at hl 0 rfl) ?_
  refine lv_iload_n hx hb dL_plain_285 rfl (lv_at hl 2 rfl) ?_
  refine wx_xcalli (vx_runV (As := [.int p0]) (rest := []) ⟨hx, hb, hml, hown, hts⟩ (k_worst l hst g base n L (by omega) x r0 nb hnb hx0 p0) (cwV 1 hts gL_plain_X3_worst rfl rfl rfl (by decide +kernel) ⟨Nat.le_of_ble_eq_true rfl, Nat.le_of_ble_eq_true rfl⟩) (hPW.preV hP hS (ci := 5) rfl (by omega) cw_d) rfl rfl hl.1 rfl (lv_room (Nat.le_of_ble_eq_true rfl)) dL_plain_286 ⟨Nat.le_of_ble_eq_true rfl, Nat.le_of_ble_eq_true rfl⟩) hS (fun E ce q9 H locs hpx hP hS h1 h2 h3 => ?_) (fun r286 u286 H locs h286 hP hS => ?_)
  · exact wx_out hno hlocks h1 h2 h3 (hpx) hP hS (Nat.le_of_ble_eq_true rfl) (Nat.le_of_ble_eq_true rfl)
  refine W.widen (k := 3) (n := 18) (Nat.le_of_ble_eq_true rfl) (Nat.le_of_ble_eq_true rfl) ?_
  exact vx_ret (W.iret (v := r286) hx hb hr (fun t ht hW => ⟨⟨r286, (), rfl, h286, PB.mk9 hP ht⟩, hS.F ht⟩) hS.2.2 dL_plain_289)

