/-! laid by wip/gen -/
set_option maxHeartbeats 4000000 in
set_option maxRecDepth 100000 in
theorem ak_5 (l : Launch) (hst : l.stackTraces = false) (g : gE) (base n : Nat) (L : Nat → Nat) (hn : 106 ≤ n) (x : St) (r0 : Nat → va_E) (nb : Nat) (hnb : nb ≤ 6) (hx0 : x 0 0 0 = nI nb) (hsh : ∀ b, b < 6 → x 12 b 0 = -1 ∨ ∃ k, k < 40 ∧ x 12 b 0 = nI k) (p0 : Int32) : Met l yL_ask wsL_ask ({ frames := 14, cells := 4, slots := 24, locals := 420 }) (va_Pc [.ref (L 0), .int 5, .int p0] (PW SS g base n L (cw g L x r0))) (va_Qi (fun (r : Int32) (u : Unit) => (fun (r : Int32) (_ : Unit) => ∃ j, j < nb ∧ p0 = nI j ∧ r = x 12 j 0) r u ∨ ∃ E, (fun E => E = "java/lang/IndexOutOfBoundsException" ∧ (p0.toInt < 0 ∨ nb ≤ p0.toInt)) E ∧ r = cdE E) (fun (u : Unit) t => PB g n L (cw g L x r0) t) (fun q => base ≤ q)) 4 24 (fun q => base ≤ q) := by
  refine Met.ofW (cc := cL_ask) (maxL := 3) (ret := (some .int)) (by decide) rfl ?_
  intro p e s m args below meth c s₁ B hml hv
  obtain ⟨rfl, hPW⟩ := hv
  obtain ⟨hbs, hJ, hP, hK, hE⟩ := id hPW
  have hx := B.exec
  have hb := B.bytes
  have hr := B.returns
  have hts := atoms_spec (ws := wsL_ask) B.pre
  have hown : s.vm.findClass RL = some m.cls := findClass_of_methodNamed B.named
  have hlocks := B.notSynchronized
  have hS : va_S (fun q : Nat => base ≤ q) s.heap s.heap [] := va_S.rf
  have hl := lv_entry ([.ref (L 0), .int 5, .int p0]) (n := 3) (Nat.le_of_ble_eq_true rfl)
  rw [lg_entry_eq]
  generalize (lg_sl ([.ref (L 0), .int 5, .int p0]) ++ List.replicate (3 - (lg_sl ([.ref (L 0), .int 5, .int p0])).length) Slot.unset).toArray = ls at hl ⊢
  have hl : lv_has ls 3 [(0, .ref (L 0)), (1, .int 5), (2, .int p0)] := hl
  refine lv_aload_n hx hb dL_ask_0 rfl (lv_at hl 0 rfl) ?_
  refine lv_iload_n hx hb dL_ask_1 rfl (lv_at hl 1 rfl) ?_
  refine lv_iload_n hx hb dL_ask_2 rfl (lv_at hl 2 rfl) ?_
  refine lv_iconst (v := 0) hx hb dL_ask_3 (by decide) ?_
  refine lv_iconst (v := 0) hx hb dL_ask_4 (by decide) ?_
  refine lv_iconst (v := 0) hx hb dL_ask_5 (by decide) ?_
  refine wx_calli (vx_runSW (As := [.ref (L 0), .int 5, .int p0, .int 0, .int 0, .int 0]) (rest := []) ⟨hx, hb, hml, hown, hts⟩ (dd_5 l hst g base n L (by omega) x r0 nb hnb hx0 hsh p0 0 0 0) (vx_cwSW 6 hts gL_ask_L_deed rfl rfl rfl (by decide +kernel) ⟨Nat.le_of_ble_eq_true rfl, Nat.le_of_ble_eq_true rfl⟩) (hPW.preS hP hS) rfl rfl hl.1 rfl (lv_room (Nat.le_of_ble_eq_true rfl)) dL_ask_6 ⟨Nat.le_of_ble_eq_true rfl, Nat.le_of_ble_eq_true rfl⟩) hS (fun r6 u6 H locs h6 hP hS => ?_)
  refine W.widen (k := 4) (n := 24) (Nat.le_of_ble_eq_true rfl) (Nat.le_of_ble_eq_true rfl) ?_
  exact W.iret (v := r6) hx hb hr (fun t ht hW => ⟨⟨r6, (), rfl, h6, PB.mk9 hP ht⟩, hS.F ht⟩) hS.2.2 dL_ask_9

set_option maxHeartbeats 4000000 in
set_option maxRecDepth 100000 in
theorem ak_6 (l : Launch) (hst : l.stackTraces = false) (g : gE) (base n : Nat) (L : Nat → Nat) (hn : 106 ≤ n) (x : St) (r0 : Nat → va_E) (nb : Nat) (hnb : nb ≤ 6) (hx0 : x 0 0 0 = nI nb) (p0 : Int32) : Met l yL_ask wsL_ask ({ frames := 14, cells := 4, slots := 24, locals := 420 }) (va_Pc [.ref (L 0), .int 6, .int p0] (PW SS g base n L (cw g L x r0))) (va_Qi (fun (r : Int32) (u : Unit) => (fun (r : Int32) (_ : Unit) => ∃ j, j < nb ∧ p0 = nI j ∧ r = x 13 j 0) r u ∨ ∃ E, (fun E => E = "java/lang/IndexOutOfBoundsException" ∧ (p0.toInt < 0 ∨ nb ≤ p0.toInt)) E ∧ r = cdE E) (fun (u : Unit) t => PB g n L (cw g L x r0) t) (fun q => base ≤ q)) 4 24 (fun q => base ≤ q) := by
  refine Met.ofW (cc := cL_ask) (maxL := 3) (ret := (some .int)) (by decide) rfl ?_
  intro p e s m args below meth c s₁ B hml hv
  obtain ⟨rfl, hPW⟩ := hv
  obtain ⟨hbs, hJ, hP, hK, hE⟩ := id hPW
  have hx := B.exec
  have hb := B.bytes
  have hr := B.returns
  have hts := atoms_spec (ws := wsL_ask) B.pre
  have hown : s.vm.findClass RL = some m.cls := findClass_of_methodNamed B.named
  have hlocks := B.notSynchronized
  have hS : va_S (fun q : Nat => base ≤ q) s.heap s.heap [] := va_S.rf
  have hl := lv_entry ([.ref (L 0), .int 6, .int p0]) (n := 3) (Nat.le_of_ble_eq_true rfl)
  rw [lg_entry_eq]
  generalize (lg_sl ([.ref (L 0), .int 6, .int p0]) ++ List.replicate (3 - (lg_sl ([.ref (L 0), .int 6, .int p0])).length) Slot.unset).toArray = ls at hl ⊢
  have hl : lv_has ls 3 [(0, .ref (L 0)), (1, .int 6), (2, .int p0)] := hl
  refine lv_aload_n hx hb dL_ask_0 rfl (lv_at hl 0 rfl) ?_
  refine lv_iload_n hx hb dL_ask_1 rfl (lv_at hl 1 rfl) ?_
  refine lv_iload_n hx hb dL_ask_2 rfl (lv_at hl 2 rfl) ?_
  refine lv_iconst (v := 0) hx hb dL_ask_3 (by decide) ?_
  refine lv_iconst (v := 0) hx hb dL_ask_4 (by decide) ?_
  refine lv_iconst (v := 0) hx hb dL_ask_5 (by decide) ?_
  refine wx_calli (vx_runSW (As := [.ref (L 0), .int 6, .int p0, .int 0, .int 0, .int 0]) (rest := []) ⟨hx, hb, hml, hown, hts⟩ (dd_6 l hst g base n L (by omega) x r0 nb hnb hx0 p0 0 0 0) (vx_cwSW 6 hts gL_ask_L_deed rfl rfl rfl (by decide +kernel) ⟨Nat.le_of_ble_eq_true rfl, Nat.le_of_ble_eq_true rfl⟩) (hPW.preS hP hS) rfl rfl hl.1 rfl (lv_room (Nat.le_of_ble_eq_true rfl)) dL_ask_6 ⟨Nat.le_of_ble_eq_true rfl, Nat.le_of_ble_eq_true rfl⟩) hS (fun r6 u6 H locs h6 hP hS => ?_)
  refine W.widen (k := 4) (n := 24) (Nat.le_of_ble_eq_true rfl) (Nat.le_of_ble_eq_true rfl) ?_
  exact W.iret (v := r6) hx hb hr (fun t ht hW => ⟨⟨r6, (), rfl, h6, PB.mk9 hP ht⟩, hS.F ht⟩) hS.2.2 dL_ask_9

set_option maxHeartbeats 4000000 in
set_option maxRecDepth 100000 in
theorem ak_23 (l : Launch) (hst : l.stackTraces = false) (g : gE) (base n : Nat) (L : Nat → Nat) (hn : 106 ≤ n) (x : St) (r0 : Nat → va_E) (nb : Nat) (hnb : nb ≤ 6) (hx0 : x 0 0 0 = nI nb) (p0 : Int32) : Met l yL_ask wsL_ask ({ frames := 14, cells := 4, slots := 24, locals := 420 }) (va_Pc [.ref (L 0), .int 23, .int p0] (PW SS g base n L (cw g L x r0))) (va_Qi (fun (r : Int32) (u : Unit) => (fun (r : Int32) (_ : Unit) => ∃ j, j < nb ∧ p0 = nI j ∧ r = x 16 j 0) r u ∨ ∃ E, (fun E => E = "java/lang/IndexOutOfBoundsException" ∧ (p0.toInt < 0 ∨ nb ≤ p0.toInt)) E ∧ r = cdE E) (fun (u : Unit) t => PB g n L (cw g L x r0) t) (fun q => base ≤ q)) 4 24 (fun q => base ≤ q) := by
  refine Met.ofW (cc := cL_ask) (maxL := 3) (ret := (some .int)) (by decide) rfl ?_
  intro p e s m args below meth c s₁ B hml hv
  obtain ⟨rfl, hPW⟩ := hv
  obtain ⟨hbs, hJ, hP, hK, hE⟩ := id hPW
  have hx := B.exec
  have hb := B.bytes
  have hr := B.returns
  have hts := atoms_spec (ws := wsL_ask) B.pre
  have hown : s.vm.findClass RL = some m.cls := findClass_of_methodNamed B.named
  have hlocks := B.notSynchronized
  have hS : va_S (fun q : Nat => base ≤ q) s.heap s.heap [] := va_S.rf
  have hl := lv_entry ([.ref (L 0), .int 23, .int p0]) (n := 3) (Nat.le_of_ble_eq_true rfl)
  rw [lg_entry_eq]
  generalize (lg_sl ([.ref (L 0), .int 23, .int p0]) ++ List.replicate (3 - (lg_sl ([.ref (L 0), .int 23, .int p0])).length) Slot.unset).toArray = ls at hl ⊢
  have hl : lv_has ls 3 [(0, .ref (L 0)), (1, .int 23), (2, .int p0)] := hl
  refine lv_aload_n hx hb dL_ask_0 rfl (lv_at hl 0 rfl) ?_
  refine lv_iload_n hx hb dL_ask_1 rfl (lv_at hl 1 rfl) ?_
  refine lv_iload_n hx hb dL_ask_2 rfl (lv_at hl 2 rfl) ?_
  refine lv_iconst (v := 0) hx hb dL_ask_3 (by decide) ?_
  refine lv_iconst (v := 0) hx hb dL_ask_4 (by decide) ?_
  refine lv_iconst (v := 0) hx hb dL_ask_5 (by decide) ?_
  refine wx_calli (vx_runSW (As := [.ref (L 0), .int 23, .int p0, .int 0, .int 0, .int 0]) (rest := []) ⟨hx, hb, hml, hown, hts⟩ (dd_23 l hst g base n L (by omega) x r0 nb hnb hx0 p0 0 0 0) (vx_cwSW 6 hts gL_ask_L_deed rfl rfl rfl (by decide +kernel) ⟨Nat.le_of_ble_eq_true rfl, Nat.le_of_ble_eq_true rfl⟩) (hPW.preS hP hS) rfl rfl hl.1 rfl (lv_room (Nat.le_of_ble_eq_true rfl)) dL_ask_6 ⟨Nat.le_of_ble_eq_true rfl, Nat.le_of_ble_eq_true rfl⟩) hS (fun r6 u6 H locs h6 hP hS => ?_)
  refine W.widen (k := 4) (n := 24) (Nat.le_of_ble_eq_true rfl) (Nat.le_of_ble_eq_true rfl) ?_
  exact W.iret (v := r6) hx hb hr (fun t ht hW => ⟨⟨r6, (), rfl, h6, PB.mk9 hP ht⟩, hS.F ht⟩) hS.2.2 dL_ask_9

set_option maxHeartbeats 4000000 in
set_option maxRecDepth 100000 in
theorem ak_2 (l : Launch) (hst : l.stackTraces = false) (g : gE) (base n : Nat) (L : Nat → Nat) (hn : 106 ≤ n) (x : St) (r0 : Nat → va_E) (nb : Nat) (hnb : nb ≤ 6) (hx0 : x 0 0 0 = nI nb) (p0 : Int32) : Met l yL_ask wsL_ask ({ frames := 14, cells := 4, slots := 24, locals := 420 }) (va_Pc [.ref (L 0), .int 2, .int p0] (PW SS g base n L (cw g L x r0))) (va_Qi (fun (r : Int32) (u : Unit) => (fun (r : Int32) (_ : Unit) => ∃ j, j < nb ∧ p0 = nI j ∧ r = x 11 j 0) r u ∨ ∃ E, (fun E => E = "java/lang/IndexOutOfBoundsException" ∧ (p0.toInt < 0 ∨ nb ≤ p0.toInt)) E ∧ r = cdE E) (fun (u : Unit) t => PB g n L (cw g L x r0) t) (fun q => base ≤ q)) 4 24 (fun q => base ≤ q) := by
  refine Met.ofW (cc := cL_ask) (maxL := 3) (ret := (some .int)) (by decide) rfl ?_
  intro p e s m args below meth c s₁ B hml hv
  obtain ⟨rfl, hPW⟩ := hv
  obtain ⟨hbs, hJ, hP, hK, hE⟩ := id hPW
  have hx := B.exec
  have hb := B.bytes
  have hr := B.returns
  have hts := atoms_spec (ws := wsL_ask) B.pre
  have hown : s.vm.findClass RL = some m.cls := findClass_of_methodNamed B.named
  have hlocks := B.notSynchronized
  have hS : va_S (fun q : Nat => base ≤ q) s.heap s.heap [] := va_S.rf
  have hl := lv_entry ([.ref (L 0), .int 2, .int p0]) (n := 3) (Nat.le_of_ble_eq_true rfl)
  rw [lg_entry_eq]
  generalize (lg_sl ([.ref (L 0), .int 2, .int p0]) ++ List.replicate (3 - (lg_sl ([.ref (L 0), .int 2, .int p0])).length) Slot.unset).toArray = ls at hl ⊢
  have hl : lv_has ls 3 [(0, .ref (L 0)), (1, .int 2), (2, .int p0)] := hl
  refine lv_aload_n hx hb dL_ask_0 rfl (lv_at hl 0 rfl) ?_
  refine lv_iload_n hx hb dL_ask_1 rfl (lv_at hl 1 rfl) ?_
  refine lv_iload_n hx hb dL_ask_2 rfl (lv_at hl 2 rfl) ?_
  refine lv_iconst (v := 0) hx hb dL_ask_3 (by decide) ?_
  refine lv_iconst (v := 0) hx hb dL_ask_4 (by decide) ?_
  refine lv_iconst (v := 0) hx hb dL_ask_5 (by decide) ?_
  refine wx_calli (vx_runSW (As := [.ref (L 0), .int 2, .int p0, .int 0, .int 0, .int 0]) (rest := []) ⟨hx, hb, hml, hown, hts⟩ (dd_2 l hst g base n L (by omega) x r0 nb hnb hx0 p0 0 0 0) (vx_cwSW 6 hts gL_ask_L_deed rfl rfl rfl (by decide +kernel) ⟨Nat.le_of_ble_eq_true rfl, Nat.le_of_ble_eq_true rfl⟩) (hPW.preS hP hS) rfl rfl hl.1 rfl (lv_room (Nat.le_of_ble_eq_true rfl)) dL_ask_6 ⟨Nat.le_of_ble_eq_true rfl, Nat.le_of_ble_eq_true rfl⟩) hS (fun r6 u6 H locs h6 hP hS => ?_)
  refine W.widen (k := 4) (n := 24) (Nat.le_of_ble_eq_true rfl) (Nat.le_of_ble_eq_true rfl) ?_
  exact W.iret (v := r6) hx hb hr (fun t ht hW => ⟨⟨r6, (), rfl, h6, PB.mk9 hP ht⟩, hS.F ht⟩) hS.2.2 dL_ask_9

set_option maxHeartbeats 4000000 in
set_option maxRecDepth 100000 in
theorem ak_13 (l : Launch) (hst : l.stackTraces = false) (g : gE) (base n : Nat) (L : Nat → Nat) (hn : 106 ≤ n) (x : St) (r0 : Nat → va_E) (nn : Nat) (hnn : nn ≤ 40) (hx1 : x 1 0 0 = nI nn) (p0 : Int32) : Met l yL_ask wsL_ask ({ frames := 14, cells := 4, slots := 24, locals := 420 }) (va_Pc [.ref (L 0), .int 13, .int p0] (PW SS g base n L (cw g L x r0))) (va_Qi (fun (r : Int32) (u : Unit) => (fun (r : Int32) (_ : Unit) => (0 ≤ p0.toInt ∧ p0.toInt ≤ 3) ∧ r = qcF x p0 nn) r u ∨ ∃ E, (fun E => E = "java/lang/IllegalArgumentException" ∧ (p0.toInt < 0 ∨ 3 < p0.toInt)) E ∧ r = cdE E) (fun (u : Unit) t => PB g n L (cw g L x r0) t) (fun q => base ≤ q)) 4 24 (fun q => base ≤ q) := by
  refine Met.ofW (cc := cL_ask) (maxL := 3) (ret := (some .int)) (by decide) rfl ?_
  intro p e s m args below meth c s₁ B hml hv
  obtain ⟨rfl, hPW⟩ := hv
  obtain ⟨hbs, hJ, hP, hK, hE⟩ := id hPW
  have hx := B.exec
  have hb := B.bytes
  have hr := B.returns
  have hts := atoms_spec (ws := wsL_ask) B.pre
  have hown : s.vm.findClass RL = some m.cls := findClass_of_methodNamed B.named
  have hlocks := B.notSynchronized
  have hS : va_S (fun q : Nat => base ≤ q) s.heap s.heap [] := va_S.rf
  have hl := lv_entry ([.ref (L 0), .int 13, .int p0]) (n := 3) (Nat.le_of_ble_eq_true rfl)
  rw [lg_entry_eq]
  generalize (lg_sl ([.ref (L 0), .int 13, .int p0]) ++ List.replicate (3 - (lg_sl ([.ref (L 0), .int 13, .int p0])).length) Slot.unset).toArray = ls at hl ⊢
  have hl : lv_has ls 3 [(0, .ref (L 0)), (1, .int 13), (2, .int p0)] := hl
  refine lv_aload_n hx hb dL_ask_0 rfl (lv_at hl 0 rfl) ?_
  refine lv_iload_n hx hb dL_ask_1 rfl (lv_at hl 1 rfl) ?_
  refine lv_iload_n hx hb dL_ask_2 rfl (lv_at hl 2 rfl) ?_
  refine lv_iconst (v := 0) hx hb dL_ask_3 (by decide) ?_
  refine lv_iconst (v := 0) hx hb dL_ask_4 (by decide) ?_
  refine lv_iconst (v := 0) hx hb dL_ask_5 (by decide) ?_
  refine wx_calli (vx_runSW (As := [.ref (L 0), .int 13, .int p0, .int 0, .int 0, .int 0]) (rest := []) ⟨hx, hb, hml, hown, hts⟩ (dd_13 l hst g base n L (by omega) x r0 nn hnn hx1 p0 0 0 0) (vx_cwSW 6 hts gL_ask_L_deed rfl rfl rfl (by decide +kernel) ⟨Nat.le_of_ble_eq_true rfl, Nat.le_of_ble_eq_true rfl⟩) (hPW.preS hP hS) rfl rfl hl.1 rfl (lv_room (Nat.le_of_ble_eq_true rfl)) dL_ask_6 ⟨Nat.le_of_ble_eq_true rfl, Nat.le_of_ble_eq_true rfl⟩) hS (fun r6 u6 H locs h6 hP hS => ?_)
  refine W.widen (k := 4) (n := 24) (Nat.le_of_ble_eq_true rfl) (Nat.le_of_ble_eq_true rfl) ?_
  exact W.iret (v := r6) hx hb hr (fun t ht hW => ⟨⟨r6, (), rfl, h6, PB.mk9 hP ht⟩, hS.F ht⟩) hS.2.2 dL_ask_9

set_option maxHeartbeats 4000000 in
set_option maxRecDepth 100000 in
theorem ak_15 (l : Launch) (hst : l.stackTraces = false) (g : gE) (base n : Nat) (L : Nat → Nat) (hn : 106 ≤ n) (x : St) (r0 : Nat → va_E) (nn : Nat) (hnn : nn ≤ 40) (hx1 : x 1 0 0 = nI nn) (p0 : Int32) : Met l yL_ask wsL_ask ({ frames := 14, cells := 4, slots := 24, locals := 420 }) (va_Pc [.ref (L 0), .int 15, .int p0] (PW SS g base n L (cw g L x r0))) (va_Qi (fun (r : Int32) (u : Unit) => (fun (r : Int32) (u : Unit) => ∃ v : Int32, (fun (r : Int32) (_ : Unit) => ∃ j, j < nn ∧ p0 = nI j ∧ ((r = 1 ∧ (x 32 j 0 ≤ x 3 0 0 ∧ x 3 0 0 < x 33 j 0)) ∨ (r = 0 ∧ ¬ ((x 32 j 0 ≤ x 3 0 0 ∧ x 3 0 0 < x 33 j 0))))) v () ∧ r = if v = 0 then 0 else 1) r u ∨ ∃ E, (fun E => E = "java/lang/IndexOutOfBoundsException" ∧ (p0.toInt < 0 ∨ nn ≤ p0.toInt)) E ∧ r = cdE E) (fun (u : Unit) t => PB g n L (cw g L x r0) t) (fun q => base ≤ q)) 4 24 (fun q => base ≤ q) := by
  refine Met.ofW (cc := cL_ask) (maxL := 3) (ret := (some .int)) (by decide) rfl ?_
  intro p e s m args below meth c s₁ B hml hv
  obtain ⟨rfl, hPW⟩ := hv
  obtain ⟨hbs, hJ, hP, hK, hE⟩ := id hPW
  have hx := B.exec
  have hb := B.bytes
  have hr := B.returns
  have hts := atoms_spec (ws := wsL_ask) B.pre
  have hown : s.vm.findClass RL = some m.cls := findClass_of_methodNamed B.named
  have hlocks := B.notSynchronized
  have hS : va_S (fun q : Nat => base ≤ q) s.heap s.heap [] := va_S.rf
  have hl := lv_entry ([.ref (L 0), .int 15, .int p0]) (n := 3) (Nat.le_of_ble_eq_true rfl)
  rw [lg_entry_eq]
  generalize (lg_sl ([.ref (L 0), .int 15, .int p0]) ++ List.replicate (3 - (lg_sl ([.ref (L 0), .int 15, .int p0])).length) Slot.unset).toArray = ls at hl ⊢
  have hl : lv_has ls 3 [(0, .ref (L 0)), (1, .int 15), (2, .int p0)] := hl
  refine lv_aload_n hx hb dL_ask_0 rfl (lv_at hl 0 rfl) ?_
  refine lv_iload_n hx hb dL_ask_1 rfl (lv_at hl 1 rfl) ?_
  refine lv_iload_n hx hb dL_ask_2 rfl (lv_at hl 2 rfl) ?_
  refine lv_iconst (v := 0) hx hb dL_ask_3 (by decide) ?_
  refine lv_iconst (v := 0) hx hb dL_ask_4 (by decide) ?_
  refine lv_iconst (v := 0) hx hb dL_ask_5 (by decide) ?_
  refine wx_calli (vx_runSW (As := [.ref (L 0), .int 15, .int p0, .int 0, .int 0, .int 0]) (rest := []) ⟨hx, hb, hml, hown, hts⟩ (dd_15 l hst g base n L (by omega) x r0 nn hnn hx1 p0 0 0 0) (vx_cwSW 6 hts gL_ask_L_deed rfl rfl rfl (by decide +kernel) ⟨Nat.le_of_ble_eq_true rfl, Nat.le_of_ble_eq_true rfl⟩) (hPW.preS hP hS) rfl rfl hl.1 rfl (lv_room (Nat.le_of_ble_eq_true rfl)) dL_ask_6 ⟨Nat.le_of_ble_eq_true rfl, Nat.le_of_ble_eq_true rfl⟩) hS (fun r6 u6 H locs h6 hP hS => ?_)
  refine W.widen (k := 4) (n := 24) (Nat.le_of_ble_eq_true rfl) (Nat.le_of_ble_eq_true rfl) ?_
  exact W.iret (v := r6) hx hb hr (fun t ht hW => ⟨⟨r6, (), rfl, h6, PB.mk9 hP ht⟩, hS.F ht⟩) hS.2.2 dL_ask_9

set_option maxHeartbeats 4000000 in
set_option maxRecDepth 100000 in
theorem ak_21 (l : Launch) (hst : l.stackTraces = false) (g : gE) (base n : Nat) (L : Nat → Nat) (hn : 106 ≤ n) (x : St) (r0 : Nat → va_E) (nb nn : Nat) (hG : GI x nb nn) (p0 : Int32) : Met l yL_ask wsL_ask ({ frames := 14, cells := 4, slots := 24, locals := 420 }) (va_Pc [.ref (L 0), .int 21, .int p0] (PW SS g base n L (cw g L x r0))) (va_Qi (fun (r : Int32) (u : St) => (fun (r : Int32) (u : St) => (1 ≤ p0.toInt ∧ p0.toInt ≤ 48) ∧ x 3 0 0 + p0 ≤ 2000 ∧ ∃ N, N ≤ 48 ∧ p0 = nI N ∧ u = goF x nb nn N ∧ r = u 3 0 0) r u ∨ ∃ E, (fun E => (E = "java/lang/IllegalArgumentException" ∧ ¬ (1 ≤ p0.toInt ∧ p0.toInt ≤ 48)) ∨ (E = "java/lang/IllegalStateException" ∧ (1 ≤ p0.toInt ∧ p0.toInt ≤ 48) ∧ ¬ x 3 0 0 + p0 ≤ 2000)) E ∧ r = cdE E ∧ u = x) (fun (u : St) t => PB g n L (cw g L u r0) t) (fun q => base ≤ q)) 4 24 (fun q => base ≤ q) := by
  refine Met.ofW (cc := cL_ask) (maxL := 3) (ret := (some .int)) (by decide) rfl ?_
  intro p e s m args below meth c s₁ B hml hv
  obtain ⟨rfl, hPW⟩ := hv
  obtain ⟨hbs, hJ, hP, hK, hE⟩ := id hPW
  have hx := B.exec
  have hb := B.bytes
  have hr := B.returns
  have hts := atoms_spec (ws := wsL_ask) B.pre
  have hown : s.vm.findClass RL = some m.cls := findClass_of_methodNamed B.named
  have hlocks := B.notSynchronized
  have hS : va_S (fun q : Nat => base ≤ q) s.heap s.heap [] := va_S.rf
  have hl := lv_entry ([.ref (L 0), .int 21, .int p0]) (n := 3) (Nat.le_of_ble_eq_true rfl)
  rw [lg_entry_eq]
  generalize (lg_sl ([.ref (L 0), .int 21, .int p0]) ++ List.replicate (3 - (lg_sl ([.ref (L 0), .int 21, .int p0])).length) Slot.unset).toArray = ls at hl ⊢
  have hl : lv_has ls 3 [(0, .ref (L 0)), (1, .int 21), (2, .int p0)] := hl
  refine lv_aload_n hx hb dL_ask_0 rfl (lv_at hl 0 rfl) ?_
  refine lv_iload_n hx hb dL_ask_1 rfl (lv_at hl 1 rfl) ?_
  refine lv_iload_n hx hb dL_ask_2 rfl (lv_at hl 2 rfl) ?_
  refine lv_iconst (v := 0) hx hb dL_ask_3 (by decide) ?_
  refine lv_iconst (v := 0) hx hb dL_ask_4 (by decide) ?_
  refine lv_iconst (v := 0) hx hb dL_ask_5 (by decide) ?_
  refine wx_calli (vx_runSW (As := [.ref (L 0), .int 21, .int p0, .int 0, .int 0, .int 0]) (rest := []) ⟨hx, hb, hml, hown, hts⟩ (dd_21 l hst g base n L (by omega) x r0 nb nn hG p0 0 0 0) (vx_cwSW 6 hts gL_ask_L_deed rfl rfl rfl (by decide +kernel) ⟨Nat.le_of_ble_eq_true rfl, Nat.le_of_ble_eq_true rfl⟩) (hPW.preS hP hS) rfl rfl hl.1 rfl (lv_room (Nat.le_of_ble_eq_true rfl)) dL_ask_6 ⟨Nat.le_of_ble_eq_true rfl, Nat.le_of_ble_eq_true rfl⟩) hS (fun r6 u6 H locs h6 hP hS => ?_)
  refine W.widen (k := 4) (n := 24) (Nat.le_of_ble_eq_true rfl) (Nat.le_of_ble_eq_true rfl) ?_
  exact W.iret (v := r6) hx hb hr (fun t ht hW => ⟨⟨r6, u6, rfl, h6, PB.mk9 hP ht⟩, hS.F ht⟩) hS.2.2 dL_ask_9

set_option maxHeartbeats 4000000 in
set_option maxRecDepth 100000 in
theorem at_19 (l : Launch) (hst : l.stackTraces = false) (g : gE) (base n : Nat) (L : Nat → Nat) (hn : 106 ≤ n) (x : St) (r0 : Nat → va_E) (nb : Nat) (hnb : nb ≤ 6) (hx0 : x 0 0 0 = nI nb) (nn : Nat) (hnn : nn ≤ 40) (hx1 : x 1 0 0 = nI nn) (p0 p1 : Int32) : Met l yL_ask2 wsL_ask2 ({ frames := 14, cells := 4, slots := 24, locals := 420 }) (va_Pc [.ref (L 0), .int 19, .int p0, .int p1] (PW SS g base n L (cw g L x r0))) (va_Qi (fun (r : Int32) (u : Unit) => (fun (r : Int32) (_ : Unit) => (0 ≤ p1.toInt ∧ p1.toInt ≤ 3 ∧ p0.toInt ≠ 0) ∧ r = scF x p0 p1 nb nn) r u ∨ ∃ E, (fun E => E = "java/lang/IllegalArgumentException" ∧ (p1.toInt < 0 ∨ 3 < p1.toInt ∨ p0.toInt = 0)) E ∧ r = cdE E) (fun (u : Unit) t => PB g n L (cw g L x r0) t) (fun q => base ≤ q)) 4 24 (fun q => base ≤ q) := by
  refine Met.ofW (cc := cL_ask2) (maxL := 4) (ret := (some .int)) (by decide) rfl ?_
  intro p e s m args below meth c s₁ B hml hv
  obtain ⟨rfl, hPW⟩ := hv
  obtain ⟨hbs, hJ, hP, hK, hE⟩ := id hPW
  have hx := B.exec
  have hb := B.bytes
  have hr := B.returns
  have hts := atoms_spec (ws := wsL_ask2) B.pre
  have hown : s.vm.findClass RL = some m.cls := findClass_of_methodNamed B.named
  have hlocks := B.notSynchronized
  have hS : va_S (fun q : Nat => base ≤ q) s.heap s.heap [] := va_S.rf
  have hl := lv_entry ([.ref (L 0), .int 19, .int p0, .int p1]) (n := 4) (Nat.le_of_ble_eq_true rfl)
  rw [lg_entry_eq]
  generalize (lg_sl ([.ref (L 0), .int 19, .int p0, .int p1]) ++ List.replicate (4 - (lg_sl ([.ref (L 0), .int 19, .int p0, .int p1])).length) Slot.unset).toArray = ls at hl ⊢
  have hl : lv_has ls 4 [(0, .ref (L 0)), (1, .int 19), (2, .int p0), (3, .int p1)] := hl
  refine lv_aload_n hx hb dL_ask2_0 rfl (lv_at hl 0 rfl) ?_
  refine lv_iload_n hx hb dL_ask2_1 rfl (lv_at hl 1 rfl) ?_
  refine lv_iload_n hx hb dL_ask2_2 rfl (lv_at hl 2 rfl) ?_
  refine lv_iload_n hx hb dL_ask2_3 rfl (lv_at hl 3 rfl) ?_
  refine lv_iconst (v := 0) hx hb dL_ask2_4 (by decide) ?_
  refine lv_iconst (v := 0) hx hb dL_ask2_5 (by decide) ?_
  refine wx_calli (vx_runSW (As := [.ref (L 0), .int 19, .int p0, .int p1, .int 0, .int 0]) (rest := []) ⟨hx, hb, hml, hown, hts⟩ (dd_19 l hst g base n L (by omega) x r0 nb hnb hx0 nn hnn hx1 p0 p1 0 0) (vx_cwSW 6 hts gL_ask2_L_deed rfl rfl rfl (by decide +kernel) ⟨Nat.le_of_ble_eq_true rfl, Nat.le_of_ble_eq_true rfl⟩) (hPW.preS hP hS) rfl rfl hl.1 rfl (lv_room (Nat.le_of_ble_eq_true rfl)) dL_ask2_6 ⟨Nat.le_of_ble_eq_true rfl, Nat.le_of_ble_eq_true rfl⟩) hS (fun r6 u6 H locs h6 hP hS => ?_)
  refine W.widen (k := 4) (n := 24) (Nat.le_of_ble_eq_true rfl) (Nat.le_of_ble_eq_true rfl) ?_
  exact W.iret (v := r6) hx hb hr (fun t ht hW => ⟨⟨r6, (), rfl, h6, PB.mk9 hP ht⟩, hS.F ht⟩) hS.2.2 dL_ask2_9

set_option maxHeartbeats 4000000 in
set_option maxRecDepth 100000 in
theorem at_16 (l : Launch) (hst : l.stackTraces = false) (g : gE) (base n : Nat) (L : Nat → Nat) (hn : 106 ≤ n) (x : St) (r0 : Nat → va_E) (nb : Nat) (hnb : nb ≤ 6) (hx0 : x 0 0 0 = nI nb) (hsh : ∀ b, b < 6 → x 12 b 0 = -1 ∨ ∃ k, k < 40 ∧ x 12 b 0 = nI k) (cnt : Nat) (hcn : cnt ≤ 512) (hx4 : x 4 0 0 = nI cnt) (p0 p1 : Int32) : Met l yL_ask2 wsL_ask2 ({ frames := 14, cells := 4, slots := 24, locals := 420 }) (va_Pc [.ref (L 0), .int 16, .int p0, .int p1] (PW SS g base n L (cw g L x r0))) (va_Qi (fun (r : Int32) (u : St) => (fun (r : Int32) (u : St) => ∃ j, j < nb ∧ p0 = nI j ∧ (1 ≤ p1.toInt ∧ p1.toInt ≤ 999) ∧ ((x 12 j 0 = -1 ∧ r = 0 ∧ u = x) ∨ (∃ k, k < 40 ∧ x 12 j 0 = nI k ∧ u = paF x k p0 p1 cnt ∧ r = u 37 k p0.toNatClampNeg))) r u ∨ ∃ E, (fun E => (E = "java/lang/IndexOutOfBoundsException" ∧ (p0.toInt < 0 ∨ nb ≤ p0.toInt)) ∨ (E = "java/lang/IllegalArgumentException" ∧ (∃ j, j < nb ∧ p0 = nI j) ∧ ¬ (1 ≤ p1.toInt ∧ p1.toInt ≤ 999))) E ∧ r = cdE E ∧ u = x) (fun (u : St) t => PB g n L (cw g L u r0) t) (fun q => base ≤ q)) 4 24 (fun q => base ≤ q) := by
  refine Met.ofW (cc := cL_ask2) (maxL := 4) (ret := (some .int)) (by decide) rfl ?_
  intro p e s m args below meth c s₁ B hml hv
  obtain ⟨rfl, hPW⟩ := hv
  obtain ⟨hbs, hJ, hP, hK, hE⟩ := id hPW
  have hx := B.exec
  have hb := B.bytes
  have hr := B.returns
  have hts := atoms_spec (ws := wsL_ask2) B.pre
  have hown : s.vm.findClass RL = some m.cls := findClass_of_methodNamed B.named
  have hlocks := B.notSynchronized
  have hS : va_S (fun q : Nat => base ≤ q) s.heap s.heap [] := va_S.rf
  have hl := lv_entry ([.ref (L 0), .int 16, .int p0, .int p1]) (n := 4) (Nat.le_of_ble_eq_true rfl)
  rw [lg_entry_eq]
  generalize (lg_sl ([.ref (L 0), .int 16, .int p0, .int p1]) ++ List.replicate (4 - (lg_sl ([.ref (L 0), .int 16, .int p0, .int p1])).length) Slot.unset).toArray = ls at hl ⊢
  have hl : lv_has ls 4 [(0, .ref (L 0)), (1, .int 16), (2, .int p0), (3, .int p1)] := hl
  refine lv_aload_n hx hb dL_ask2_0 rfl (lv_at hl 0 rfl) ?_
  refine lv_iload_n hx hb dL_ask2_1 rfl (lv_at hl 1 rfl) ?_
  refine lv_iload_n hx hb dL_ask2_2 rfl (lv_at hl 2 rfl) ?_
  refine lv_iload_n hx hb dL_ask2_3 rfl (lv_at hl 3 rfl) ?_
  refine lv_iconst (v := 0) hx hb dL_ask2_4 (by decide) ?_
  refine lv_iconst (v := 0) hx hb dL_ask2_5 (by decide) ?_
  refine wx_calli (vx_runSW (As := [.ref (L 0), .int 16, .int p0, .int p1, .int 0, .int 0]) (rest := []) ⟨hx, hb, hml, hown, hts⟩ (dd_16 l hst g base n L (by omega) x r0 nb hnb hx0 hsh cnt hcn hx4 p0 p1 0 0) (vx_cwSW 6 hts gL_ask2_L_deed rfl rfl rfl (by decide +kernel) ⟨Nat.le_of_ble_eq_true rfl, Nat.le_of_ble_eq_true rfl⟩) (hPW.preS hP hS) rfl rfl hl.1 rfl (lv_room (Nat.le_of_ble_eq_true rfl)) dL_ask2_6 ⟨Nat.le_of_ble_eq_true rfl, Nat.le_of_ble_eq_true rfl⟩) hS (fun r6 u6 H locs h6 hP hS => ?_)
  refine W.widen (k := 4) (n := 24) (Nat.le_of_ble_eq_true rfl) (Nat.le_of_ble_eq_true rfl) ?_
  exact W.iret (v := r6) hx hb hr (fun t ht hW => ⟨⟨r6, u6, rfl, h6, PB.mk9 hP ht⟩, hS.F ht⟩) hS.2.2 dL_ask2_9

set_option maxHeartbeats 4000000 in
set_option maxRecDepth 100000 in
theorem at_10 (l : Launch) (hst : l.stackTraces = false) (g : gE) (base n : Nat) (L : Nat → Nat) (hn : 106 ≤ n) (x : St) (r0 : Nat → va_E) (nb : Nat) (hnb : nb ≤ 6) (hx0 : x 0 0 0 = nI nb) (nn : Nat) (hnn : nn ≤ 40) (hx1 : x 1 0 0 = nI nn) (hsh : ∀ b, b < 6 → x 12 b 0 = -1 ∨ ∃ k, k < 40 ∧ x 12 b 0 = nI k) (p0 p1 : Int32) : Met l yL_ask2 wsL_ask2 ({ frames := 14, cells := 4, slots := 24, locals := 420 }) (va_Pc [.ref (L 0), .int 10, .int p0, .int p1] (PW SS g base n L (cw g L x r0))) (va_Qi (fun (r : Int32) (u : St) => (fun (r : Int32) (u : St) => ∃ j, j < nn ∧ p0 = nI j ∧ (¬ p1 ≤ x 3 0 0 ∧ p1 ≤ x 33 j 0 ∧ x 34 j 0 = 0) ∧ u = st (st x 35 j 0 1) 33 j 0 p1 ∧ r = btF u j nb) r u ∨ ∃ E, (fun E => (E = "java/lang/IndexOutOfBoundsException" ∧ (p0.toInt < 0 ∨ nn ≤ p0.toInt)) ∨ (∃ j, j < nn ∧ p0 = nI j ∧ ((E = "java/lang/IllegalArgumentException" ∧ (p1 ≤ x 3 0 0 ∨ ¬ p1 ≤ x 33 j 0)) ∨ (E = "java/lang/UnsupportedOperationException" ∧ (¬ p1 ≤ x 3 0 0 ∧ p1 ≤ x 33 j 0) ∧ ¬ x 34 j 0 = 0)))) E ∧ r = cdE E ∧ u = x) (fun (u : St) t => PB g n L (cw g L u r0) t) (fun q => base ≤ q)) 4 24 (fun q => base ≤ q) := by
  refine Met.ofW (cc := cL_ask2) (maxL := 4) (ret := (some .int)) (by decide) rfl ?_
  intro p e s m args below meth c s₁ B hml hv
  obtain ⟨rfl, hPW⟩ := hv
  obtain ⟨hbs, hJ, hP, hK, hE⟩ := id hPW
  have hx := B.exec
  have hb := B.bytes
  have hr := B.returns
  have hts := atoms_spec (ws := wsL_ask2) B.pre
  have hown : s.vm.findClass RL = some m.cls := findClass_of_methodNamed B.named
  have hlocks := B.notSynchronized
  have hS : va_S (fun q : Nat => base ≤ q) s.heap s.heap [] := va_S.rf
  have hl := lv_entry ([.ref (L 0), .int 10, .int p0, .int p1]) (n := 4) (Nat.le_of_ble_eq_true rfl)
  rw [lg_entry_eq]
  generalize (lg_sl ([.ref (L 0), .int 10, .int p0, .int p1]) ++ List.replicate (4 - (lg_sl ([.ref (L 0), .int 10, .int p0, .int p1])).length) Slot.unset).toArray = ls at hl ⊢
  have hl : lv_has ls 4 [(0, .ref (L 0)), (1, .int 10), (2, .int p0), (3, .int p1)] := hl
  refine lv_aload_n hx hb dL_ask2_0 rfl (lv_at hl 0 rfl) ?_
  refine lv_iload_n hx hb dL_ask2_1 rfl (lv_at hl 1 rfl) ?_
  refine lv_iload_n hx hb dL_ask2_2 rfl (lv_at hl 2 rfl) ?_
  refine lv_iload_n hx hb dL_ask2_3 rfl (lv_at hl 3 rfl) ?_
  refine lv_iconst (v := 0) hx hb dL_ask2_4 (by decide) ?_
  refine lv_iconst (v := 0) hx hb dL_ask2_5 (by decide) ?_
  refine wx_calli (vx_runSW (As := [.ref (L 0), .int 10, .int p0, .int p1, .int 0, .int 0]) (rest := []) ⟨hx, hb, hml, hown, hts⟩ (dd_10 l hst g base n L (by omega) x r0 nb hnb hx0 nn hnn hx1 hsh p0 p1 0 0) (vx_cwSW 6 hts gL_ask2_L_deed rfl rfl rfl (by decide +kernel) ⟨Nat.le_of_ble_eq_true rfl, Nat.le_of_ble_eq_true rfl⟩) (hPW.preS hP hS) rfl rfl hl.1 rfl (lv_room (Nat.le_of_ble_eq_true rfl)) dL_ask2_6 ⟨Nat.le_of_ble_eq_true rfl, Nat.le_of_ble_eq_true rfl⟩) hS (fun r6 u6 H locs h6 hP hS => ?_)
  refine W.widen (k := 4) (n := 24) (Nat.le_of_ble_eq_true rfl) (Nat.le_of_ble_eq_true rfl) ?_
  exact W.iret (v := r6) hx hb hr (fun t ht hW => ⟨⟨r6, u6, rfl, h6, PB.mk9 hP ht⟩, hS.F ht⟩) hS.2.2 dL_ask2_9

set_option maxHeartbeats 4000000 in
set_option maxRecDepth 100000 in
theorem at_9 (l : Launch) (hst : l.stackTraces = false) (g : gE) (base n : Nat) (L : Nat → Nat) (hn : 106 ≤ n) (x : St) (r0 : Nat → va_E) (nn : Nat) (hnn : nn ≤ 40) (hx1 : x 1 0 0 = nI nn) (p0 p1 : Int32) : Met l yL_ask2 wsL_ask2 ({ frames := 14, cells := 4, slots := 24, locals := 420 }) (va_Pc [.ref (L 0), .int 9, .int p0, .int p1] (PW SS g base n L (cw g L x r0))) (va_Qi (fun (r : Int32) (u : St) => (fun (r : Int32) (u : St) => ∃ v : Int32, (fun (r : Int32) (u : St) => ∃ j, j < nn ∧ p0 = nI j ∧ (0 ≤ p1.toInt ∧ p1.toInt ≤ 3) ∧ (x 34 j 0 = 0 ∧ x 35 j 0 = 0) ∧ u = piF x j p1 ∧ ((r = 0 ∧ qcP x j p1) ∨ (r = 1 ∧ ¬ qcP x j p1))) v u ∧ r = if v = 0 then 0 else 1) r u ∨ ∃ E, (fun E => (E = "java/lang/IndexOutOfBoundsException" ∧ (p0.toInt < 0 ∨ nn ≤ p0.toInt)) ∨ (∃ j, j < nn ∧ p0 = nI j ∧ ((E = "java/lang/IllegalArgumentException" ∧ (p1.toInt < 0 ∨ 3 < p1.toInt)) ∨ (E = "java/lang/UnsupportedOperationException" ∧ (0 ≤ p1.toInt ∧ p1.toInt ≤ 3) ∧ ¬ (x 34 j 0 = 0 ∧ x 35 j 0 = 0))))) E ∧ r = cdE E ∧ u = x) (fun (u : St) t => PB g n L (cw g L u r0) t) (fun q => base ≤ q)) 4 24 (fun q => base ≤ q) := by
  refine Met.ofW (cc := cL_ask2) (maxL := 4) (ret := (some .int)) (by decide) rfl ?_
  intro p e s m args below meth c s₁ B hml hv
  obtain ⟨rfl, hPW⟩ := hv
  obtain ⟨hbs, hJ, hP, hK, hE⟩ := id hPW
  have hx := B.exec
  have hb := B.bytes
  have hr := B.returns
  have hts := atoms_spec (ws := wsL_ask2) B.pre
  have hown : s.vm.findClass RL = some m.cls := findClass_of_methodNamed B.named
  have hlocks := B.notSynchronized
  have hS : va_S (fun q : Nat => base ≤ q) s.heap s.heap [] := va_S.rf
  have hl := lv_entry ([.ref (L 0), .int 9, .int p0, .int p1]) (n := 4) (Nat.le_of_ble_eq_true rfl)
  rw [lg_entry_eq]
  generalize (lg_sl ([.ref (L 0), .int 9, .int p0, .int p1]) ++ List.replicate (4 - (lg_sl ([.ref (L 0), .int 9, .int p0, .int p1])).length) Slot.unset).toArray = ls at hl ⊢
  have hl : lv_has ls 4 [(0, .ref (L 0)), (1, .int 9), (2, .int p0), (3, .int p1)] := hl
  refine lv_aload_n hx hb dL_ask2_0 rfl (lv_at hl 0 rfl) ?_
  refine lv_iload_n hx hb dL_ask2_1 rfl (lv_at hl 1 rfl) ?_
  refine lv_iload_n hx hb dL_ask2_2 rfl (lv_at hl 2 rfl) ?_
  refine lv_iload_n hx hb dL_ask2_3 rfl (lv_at hl 3 rfl) ?_
  refine lv_iconst (v := 0) hx hb dL_ask2_4 (by decide) ?_
  refine lv_iconst (v := 0) hx hb dL_ask2_5 (by decide) ?_
  refine wx_calli (vx_runSW (As := [.ref (L 0), .int 9, .int p0, .int p1, .int 0, .int 0]) (rest := []) ⟨hx, hb, hml, hown, hts⟩ (dd_9 l hst g base n L (by omega) x r0 nn hnn hx1 p0 p1 0 0) (vx_cwSW 6 hts gL_ask2_L_deed rfl rfl rfl (by decide +kernel) ⟨Nat.le_of_ble_eq_true rfl, Nat.le_of_ble_eq_true rfl⟩) (hPW.preS hP hS) rfl rfl hl.1 rfl (lv_room (Nat.le_of_ble_eq_true rfl)) dL_ask2_6 ⟨Nat.le_of_ble_eq_true rfl, Nat.le_of_ble_eq_true rfl⟩) hS (fun r6 u6 H locs h6 hP hS => ?_)
  refine W.widen (k := 4) (n := 24) (Nat.le_of_ble_eq_true rfl) (Nat.le_of_ble_eq_true rfl) ?_
  exact W.iret (v := r6) hx hb hr (fun t ht hW => ⟨⟨r6, u6, rfl, h6, PB.mk9 hP ht⟩, hS.F ht⟩) hS.2.2 dL_ask2_9

set_option maxHeartbeats 4000000 in
set_option maxRecDepth 100000 in
theorem at_11 (l : Launch) (hst : l.stackTraces = false) (g : gE) (base n : Nat) (L : Nat → Nat) (hn : 106 ≤ n) (x : St) (r0 : Nat → va_E) (nb : Nat) (hnb : nb ≤ 6) (hx0 : x 0 0 0 = nI nb) (nn : Nat) (hnn : nn ≤ 40) (hx1 : x 1 0 0 = nI nn) (hrk : ∀ j, j < 40 → (x 43 0 j).toNatClampNeg < 40) (p0 p1 : Int32) : Met l yL_ask2 wsL_ask2 ({ frames := 14, cells := 4, slots := 24, locals := 420 }) (va_Pc [.ref (L 0), .int 11, .int p0, .int p1] (PW SS g base n L (cw g L x r0))) (va_Qi (fun (r : Int32) (u : St) => (fun (r : Int32) (u : St) => ∃ j, j < nn ∧ p0 = nI j ∧ (p1 ≠ 0 ∧ p1 ≠ x 31 j 0) ∧ (x 34 j 0 = 0 ∧ ¬ x 33 j 0 ≤ x 3 0 0) ∧ nn < 40 ∧ u = mdF x j nn nb p1 ∧ r = nI nn) r u ∨ ∃ E, (fun E => (E = "java/lang/IndexOutOfBoundsException" ∧ (p0.toInt < 0 ∨ nn ≤ p0.toInt)) ∨ (∃ j, j < nn ∧ p0 = nI j ∧ ((E = "java/lang/IllegalArgumentException" ∧ ¬ (p1 ≠ 0 ∧ p1 ≠ x 31 j 0)) ∨ (E = "java/lang/UnsupportedOperationException" ∧ (p1 ≠ 0 ∧ p1 ≠ x 31 j 0) ∧ ¬ (x 34 j 0 = 0 ∧ ¬ x 33 j 0 ≤ x 3 0 0)) ∨ (E = "java/lang/IllegalStateException" ∧ (p1 ≠ 0 ∧ p1 ≠ x 31 j 0) ∧ (x 34 j 0 = 0 ∧ ¬ x 33 j 0 ≤ x 3 0 0) ∧ nn = 40)))) E ∧ r = cdE E ∧ u = x) (fun (u : St) t => PB g n L (cw g L u r0) t) (fun q => base ≤ q)) 4 24 (fun q => base ≤ q) := by
  refine Met.ofW (cc := cL_ask2) (maxL := 4) (ret := (some .int)) (by decide) rfl ?_
  intro p e s m args below meth c s₁ B hml hv
  obtain ⟨rfl, hPW⟩ := hv
  obtain ⟨hbs, hJ, hP, hK, hE⟩ := id hPW
  have hx := B.exec
  have hb := B.bytes
  have hr := B.returns
  have hts := atoms_spec (ws := wsL_ask2) B.pre
  have hown : s.vm.findClass RL = some m.cls := findClass_of_methodNamed B.named
  have hlocks := B.notSynchronized
  have hS : va_S (fun q : Nat => base ≤ q) s.heap s.heap [] := va_S.rf
  have hl := lv_entry ([.ref (L 0), .int 11, .int p0, .int p1]) (n := 4) (Nat.le_of_ble_eq_true rfl)
  rw [lg_entry_eq]
  generalize (lg_sl ([.ref (L 0), .int 11, .int p0, .int p1]) ++ List.replicate (4 - (lg_sl ([.ref (L 0), .int 11, .int p0, .int p1])).length) Slot.unset).toArray = ls at hl ⊢
  have hl : lv_has ls 4 [(0, .ref (L 0)), (1, .int 11), (2, .int p0), (3, .int p1)] := hl
  refine lv_aload_n hx hb dL_ask2_0 rfl (lv_at hl 0 rfl) ?_
  refine lv_iload_n hx hb dL_ask2_1 rfl (lv_at hl 1 rfl) ?_
  refine lv_iload_n hx hb dL_ask2_2 rfl (lv_at hl 2 rfl) ?_
  refine lv_iload_n hx hb dL_ask2_3 rfl (lv_at hl 3 rfl) ?_
  refine lv_iconst (v := 0) hx hb dL_ask2_4 (by decide) ?_
  refine lv_iconst (v := 0) hx hb dL_ask2_5 (by decide) ?_
  refine wx_calli (vx_runSW (As := [.ref (L 0), .int 11, .int p0, .int p1, .int 0, .int 0]) (rest := []) ⟨hx, hb, hml, hown, hts⟩ (dd_11 l hst g base n L (by omega) x r0 nb hnb hx0 nn hnn hx1 hrk p0 p1 0 0) (vx_cwSW 6 hts gL_ask2_L_deed rfl rfl rfl (by decide +kernel) ⟨Nat.le_of_ble_eq_true rfl, Nat.le_of_ble_eq_true rfl⟩) (hPW.preS hP hS) rfl rfl hl.1 rfl (lv_room (Nat.le_of_ble_eq_true rfl)) dL_ask2_6 ⟨Nat.le_of_ble_eq_true rfl, Nat.le_of_ble_eq_true rfl⟩) hS (fun r6 u6 H locs h6 hP hS => ?_)
  refine W.widen (k := 4) (n := 24) (Nat.le_of_ble_eq_true rfl) (Nat.le_of_ble_eq_true rfl) ?_
  exact W.iret (v := r6) hx hb hr (fun t ht hW => ⟨⟨r6, u6, rfl, h6, PB.mk9 hP ht⟩, hS.F ht⟩) hS.2.2 dL_ask2_9

set_option maxHeartbeats 4000000 in
set_option maxRecDepth 100000 in
theorem k_lcell (l : Launch) (hst : l.stackTraces = false) (g : gE) (base n : Nat) (L : Nat → Nat) (w0 : Nat → va_E) (sb sN : Nat) (hsN : sN ≤ 1000) (sx : Nat → Int32) (p0 : Int32) (hp : 0 ≤ p0.toInt) : Met l yL_cell wsL_cell ({ frames := 1, cells := 0, slots := 0, locals := 20 }) (va_Pc [.ref sb, .int p0] (PWs SS g base n L (w0) sb sN sx)) (va_Qi (fun (r : Int32) (_ : Unit) => True) (fun (u : Unit) t => PB g n L (w0) t) (fun q => base ≤ q)) 0 0 (fun q => base ≤ q) := by
  refine Met.ofW (cc := cL_cell) (maxL := 3) (ret := (some .int)) (by decide) rfl ?_
  intro p e s m args below meth c s₁ B hml hv
  obtain ⟨rfl, hPWs⟩ := hv
  have hPW := hPWs.1
  obtain ⟨hbs, hJ, hP, hK, hE⟩ := id hPW
  have hx := B.exec
  have hb := B.bytes
  have hr := B.returns
  have hts := atoms_spec (ws := wsL_cell) B.pre
  have hown : s.vm.findClass RL = some m.cls := findClass_of_methodNamed B.named
  have hlocks := B.notSynchronized
  have hX := hPWs.2.1
  have hbl : sb < s.heap.size := Nat.lt_of_lt_of_le hPWs.2.2 hbs
  have hbA : ¬ (fun q : Nat => base ≤ q) sb := Nat.not_le.mpr hPWs.2.2
  have hS : va_S (fun q : Nat => base ≤ q) s.heap s.heap [] := va_S.rf
  have hl := lv_entry ([.ref sb, .int p0]) (n := 3) (Nat.le_of_ble_eq_true rfl)
  rw [lg_entry_eq]
  generalize (lg_sl ([.ref sb, .int p0]) ++ List.replicate (3 - (lg_sl ([.ref sb, .int p0])).length) Slot.unset).toArray = ls at hl ⊢
  have hl : lv_has ls 3 [(0, .ref sb), (1, .int p0)] := hl
  refine lv_ldc (v := 69069) hx hb hown (hts (.constant RL 7 69069) (by decide +kernel)) dL_cell_0 ?_
  refine lv_iload_n hx hb dL_cell_2 rfl (lv_at hl 1 rfl) ?_
  refine lv_aload_n hx hb dL_cell_3 rfl (lv_at hl 0 rfl) ?_
  refine va_slen hx hb hX hbl hbA hS dL_cell_4 ?_
  refine lv_icmp_ge (tgt := 14) hx hb dL_cell_5 (by decide) (fun c5 => ?_) (fun c5 => ?_)
  · refine lv_iconst (v := 0) hx hb dL_cell_14 (by decide) ?_
    refine lv_sipush (v := 1009) hx hb dL_cell_15 (by decide) ?_
    refine lv_iload_n hx hb dL_cell_18 rfl (lv_at hl 1 rfl) ?_
    refine lv_imul hx hb dL_cell_19 ?_
    refine lv_iadd hx hb dL_cell_20 ?_
    refine lv_imul hx hb dL_cell_21 ?_
    refine lv_sipush (v := 12345) hx hb dL_cell_22 (by decide) ?_
    refine lv_iadd hx hb dL_cell_25 ?_
    refine lv_topi (fun z26 ez26 => ?_)
    refine lv_istore_n (lv' := [(2, .int z26), (0, .ref sb), (1, .int p0)]) hx hb dL_cell_26 rfl hl (by decide) rfl (fun ls hl => ?_)
    refine lv_iload_n hx hb dL_cell_27 rfl (lv_at hl 0 rfl) ?_
    refine lv_iload_n hx hb dL_cell_28 rfl (lv_at hl 0 rfl) ?_
    refine lv_bipush (v := 13) hx hb dL_cell_29 (by decide) ?_
    refine lv_iushr hx hb dL_cell_31 rfl ?_
    refine lv_ixor hx hb dL_cell_32 ?_
    refine lv_ldc (v := 1103515245) hx hb hown (hts (.constant RL 8 1103515245) (by decide +kernel)) dL_cell_33 ?_
    refine lv_imul hx hb dL_cell_35 ?_
    refine lv_topi (fun z36 ez36 => ?_)
    refine lv_istore_n (lv' := [(2, .int z36), (0, .ref sb), (1, .int p0)]) hx hb dL_cell_36 rfl hl (by decide) rfl (fun ls hl => ?_)
    refine lv_iload_n hx hb dL_cell_37 rfl (lv_at hl 0 rfl) ?_
    refine lv_iload_n hx hb dL_cell_38 rfl (lv_at hl 0 rfl) ?_
    refine lv_bipush (v := 16) hx hb dL_cell_39 (by decide) ?_
    refine lv_iushr hx hb dL_cell_41 rfl ?_
    refine lv_ixor hx hb dL_cell_42 ?_
    refine W.widen (k := 0) (n := 0) (Nat.le_of_ble_eq_true rfl) (Nat.le_of_ble_eq_true rfl) ?_
    exact W.iret (v := z36 ^^^ ((z36.toUInt32 >>> ((16 : Int32).toUInt32 &&& Int32.toUInt32 31)).toInt32)) hx hb hr (fun t ht hW => ⟨⟨z36 ^^^ ((z36.toUInt32 >>> ((16 : Int32).toUInt32 &&& Int32.toUInt32 31)).toInt32), (), rfl, trivial, PB.mk9 hP ht⟩, hS.F ht⟩) hS.2.2 dL_cell_43
  · refine lv_aload_n hx hb dL_cell_8 rfl (lv_at hl 0 rfl) ?_
    refine lv_iload_n hx hb dL_cell_9 rfl (lv_at hl 1 rfl) ?_
    refine va_sld hx hb hX hbl hbA hS (i := p0) (vp_in_sc hp hsN c5) dL_cell_10 ?_
    refine lv_goto (tgt := 15) hx hb dL_cell_11 (by decide) ?_
    refine lv_sipush (v := 1009) hx hb dL_cell_15 (by decide) ?_
    refine lv_iload_n hx hb dL_cell_18 rfl (lv_at hl 1 rfl) ?_
    refine lv_imul hx hb dL_cell_19 ?_
    refine lv_iadd hx hb dL_cell_20 ?_
    refine lv_imul hx hb dL_cell_21 ?_
    refine lv_sipush (v := 12345) hx hb dL_cell_22 (by decide) ?_
    refine lv_iadd hx hb dL_cell_25 ?_
    refine lv_topi (fun z26 ez26 => ?_)
    refine lv_istore_n (lv' := [(2, .int z26), (0, .ref sb), (1, .int p0)]) hx hb dL_cell_26 rfl hl (by decide) rfl (fun ls hl => ?_)
    refine lv_iload_n hx hb dL_cell_27 rfl (lv_at hl 0 rfl) ?_
    refine lv_iload_n hx hb dL_cell_28 rfl (lv_at hl 0 rfl) ?_
    refine lv_bipush (v := 13) hx hb dL_cell_29 (by decide) ?_
    refine lv_iushr hx hb dL_cell_31 rfl ?_
    refine lv_ixor hx hb dL_cell_32 ?_
    refine lv_ldc (v := 1103515245) hx hb hown (hts (.constant RL 8 1103515245) (by decide +kernel)) dL_cell_33 ?_
    refine lv_imul hx hb dL_cell_35 ?_
    refine lv_topi (fun z36 ez36 => ?_)
    refine lv_istore_n (lv' := [(2, .int z36), (0, .ref sb), (1, .int p0)]) hx hb dL_cell_36 rfl hl (by decide) rfl (fun ls hl => ?_)
    refine lv_iload_n hx hb dL_cell_37 rfl (lv_at hl 0 rfl) ?_
    refine lv_iload_n hx hb dL_cell_38 rfl (lv_at hl 0 rfl) ?_
    refine lv_bipush (v := 16) hx hb dL_cell_39 (by decide) ?_
    refine lv_iushr hx hb dL_cell_41 rfl ?_
    refine lv_ixor hx hb dL_cell_42 ?_
    refine W.widen (k := 0) (n := 0) (Nat.le_of_ble_eq_true rfl) (Nat.le_of_ble_eq_true rfl) ?_
    exact W.iret (v := z36 ^^^ ((z36.toUInt32 >>> ((16 : Int32).toUInt32 &&& Int32.toUInt32 31)).toInt32)) hx hb hr (fun t ht hW => ⟨⟨z36 ^^^ ((z36.toUInt32 >>> ((16 : Int32).toUInt32 &&& Int32.toUInt32 31)).toInt32), (), rfl, trivial, PB.mk9 hP ht⟩, hS.F ht⟩) hS.2.2 dL_cell_43

set_option maxHeartbeats 4000000 in
set_option maxRecDepth 100000 in
theorem k_pick (l : Launch) (hst : l.stackTraces = false) (g : gE) (base n : Nat) (L : Nat → Nat) (w0 : Nat → va_E) (sb sN : Nat) (hsN : sN ≤ 1000) (sx : Nat → Int32) (p0 p1 : Int32) (hp : 0 ≤ p0.toInt) (hm : 0 < p1.toInt) : Met l yL_pick wsL_pick ({ frames := 2, cells := 0, slots := 0, locals := 60 }) (va_Pc [.ref sb, .int p0, .int p1] (PWs SS g base n L (w0) sb sN sx)) (va_Qi (fun (r : Int32) (_ : Unit) => 0 ≤ r.toInt ∧ r.toInt < p1.toInt) (fun (u : Unit) t => PB g n L (w0) t) (fun q => base ≤ q)) 0 0 (fun q => base ≤ q) := by
  refine Met.ofW (cc := cL_pick) (maxL := 3) (ret := (some .int)) (by decide) rfl ?_
  intro p e s m args below meth c s₁ B hml hv
  obtain ⟨rfl, hPWs⟩ := hv
  have hPW := hPWs.1
  obtain ⟨hbs, hJ, hP, hK, hE⟩ := id hPW
  have hx := B.exec
  have hb := B.bytes
  have hr := B.returns
  have hts := atoms_spec (ws := wsL_pick) B.pre
  have hown : s.vm.findClass RL = some m.cls := findClass_of_methodNamed B.named
  have hlocks := B.notSynchronized
  have hX := hPWs.2.1
  have hbl : sb < s.heap.size := Nat.lt_of_lt_of_le hPWs.2.2 hbs
  have hbA : ¬ (fun q : Nat => base ≤ q) sb := Nat.not_le.mpr hPWs.2.2
  have hS : va_S (fun q : Nat => base ≤ q) s.heap s.heap [] := va_S.rf
  have hl := lv_entry ([.ref sb, .int p0, .int p1]) (n := 3) (Nat.le_of_ble_eq_true rfl)
  rw [lg_entry_eq]
  generalize (lg_sl ([.ref sb, .int p0, .int p1]) ++ List.replicate (3 - (lg_sl ([.ref sb, .int p0, .int p1])).length) Slot.unset).toArray = ls at hl ⊢
  have hl : lv_has ls 3 [(0, .ref sb), (1, .int p0), (2, .int p1)] := hl
  refine lv_aload_n hx hb dL_pick_0 rfl (lv_at hl 0 rfl) ?_
  refine lv_iload_n hx hb dL_pick_1 rfl (lv_at hl 1 rfl) ?_
  refine wx_calli (va_runS (As := [.ref sb, .int p0]) (rest := []) ⟨hx, hb, hml, hown, hts⟩ (k_lcell l hst g base n L (w0) sb sN hsN sx p0 (hp)) (va_cwS 2 hts gL_pick_L_cell rfl rfl rfl (by decide +kernel) ⟨Nat.le_of_ble_eq_true rfl, Nat.le_of_ble_eq_true rfl⟩) (hPWs.preS hP hS) rfl rfl hl.1 rfl (lv_room (Nat.le_of_ble_eq_true rfl)) dL_pick_2 ⟨Nat.le_of_ble_eq_true rfl, Nat.le_of_ble_eq_true rfl⟩) hS (fun r2 u2 H locs h2 hP hS => ?_)
  refine lv_bipush (v := 8) hx hb dL_pick_5 (by decide) ?_
  refine lv_iushr hx hb dL_pick_7 rfl ?_
  refine lv_iload_n hx hb dL_pick_8 rfl (lv_at hl 2 rfl) ?_
  refine lv_irem hx hb dL_pick_9 (fun h9 => by rw [h9] at hm; exact absurd hm (by decide)) ?_
  refine W.widen (k := 0) (n := 0) (Nat.le_of_ble_eq_true rfl) (Nat.le_of_ble_eq_true rfl) ?_
  exact W.iret (v := ((r2.toUInt32 >>> ((8 : Int32).toUInt32 &&& Int32.toUInt32 31)).toInt32) - ((r2.toUInt32 >>> ((8 : Int32).toUInt32 &&& Int32.toUInt32 31)).toInt32) / p1 * p1) hx hb hr (fun t ht hW => ⟨⟨((r2.toUInt32 >>> ((8 : Int32).toUInt32 &&& Int32.toUInt32 31)).toInt32) - ((r2.toUInt32 >>> ((8 : Int32).toUInt32 &&& Int32.toUInt32 31)).toInt32) / p1 * p1, (), rfl, rem_rng (a := jush r2 8) jush_nn hm, PB.mk9 hP ht⟩, hS.F ht⟩) hS.2.2 dL_pick_10

set_option maxHeartbeats 4000000 in
set_option maxRecDepth 100000 in
theorem k_word (l : Launch) (hst : l.stackTraces = false) (g : gE) (base n : Nat) (L : Nat → Nat) (w0 : Nat → va_E) (sb sN : Nat) (hsN : sN ≤ 1000) (sx : Nat → Int32) (p0 : Int32) (hp : 0 ≤ p0.toInt) (hp2 : p0.toInt ≤ 1000) : Met l yL_word wsL_word ({ frames := 3, cells := 0, slots := 0, locals := 110 }) (va_Pc [.ref sb, .int p0] (PWs SS g base n L (w0) sb sN sx)) (va_Qi (fun (r : Int32) (_ : Unit) => r ≠ 0) (fun (u : Unit) t => PB g n L (w0) t) (fun q => base ≤ q)) 0 0 (fun q => base ≤ q) := by
  refine Met.ofW (cc := cL_word) (maxL := 4) (ret := (some .int)) (by decide) rfl ?_
  intro p e s m args below meth c s₁ B hml hv
  obtain ⟨rfl, hPWs⟩ := hv
  have hPW := hPWs.1
  obtain ⟨hbs, hJ, hP, hK, hE⟩ := id hPW
  have hx := B.exec
  have hb := B.bytes
  have hr := B.returns
  have hts := atoms_spec (ws := wsL_word) B.pre
  have hown : s.vm.findClass RL = some m.cls := findClass_of_methodNamed B.named
  have hlocks := B.notSynchronized
  have hX := hPWs.2.1
  have hbl : sb < s.heap.size := Nat.lt_of_lt_of_le hPWs.2.2 hbs
  have hbA : ¬ (fun q : Nat => base ≤ q) sb := Nat.not_le.mpr hPWs.2.2
  have hS : va_S (fun q : Nat => base ≤ q) s.heap s.heap [] := va_S.rf
  have hl := lv_entry ([.ref sb, .int p0]) (n := 4) (Nat.le_of_ble_eq_true rfl)
  rw [lg_entry_eq]
  generalize (lg_sl ([.ref sb, .int p0]) ++ List.replicate (4 - (lg_sl ([.ref sb, .int p0])).length) Slot.unset).toArray = ls at hl ⊢
  have hl : lv_has ls 4 [(0, .ref sb), (1, .int p0)] := hl
  refine lv_aload_n hx hb dL_word_0 rfl (lv_at hl 0 rfl) ?_
  refine lv_iload_n hx hb dL_word_1 rfl (lv_at hl 1 rfl) ?_
  refine lv_iconst (v := 3) hx hb dL_word_2 (by decide) ?_
  refine wx_calli (va_runS (As := [.ref sb, .int p0, .int 3]) (rest := []) ⟨hx, hb, hml, hown, hts⟩ (k_pick l hst g base n L (w0) sb sN hsN sx p0 3 (hp) (by decide)) (va_cwS 3 hts gL_word_L_pick rfl rfl rfl (by decide +kernel) ⟨Nat.le_of_ble_eq_true rfl, Nat.le_of_ble_eq_true rfl⟩) (hPWs.preS hP hS) rfl rfl hl.1 rfl (lv_room (Nat.le_of_ble_eq_true rfl)) dL_word_3 ⟨Nat.le_of_ble_eq_true rfl, Nat.le_of_ble_eq_true rfl⟩) hS (fun r3 u3 H locs h3 hP hS => ?_)
  refine lv_istore_n (lv' := [(2, .int r3), (0, .ref sb), (1, .int p0)]) hx hb dL_word_6 rfl hl (by decide) rfl (fun ls hl => ?_)
  refine lv_iload_n hx hb dL_word_7 rfl (lv_at hl 0 rfl) ?_
  refine lv_if_ne (tgt := 21) hx hb dL_word_8 (by decide) (fun c8 => ?_) (fun c8 => ?_)
  · refine lv_iload_n hx hb dL_word_21 rfl (lv_at hl 0 rfl) ?_
    refine lv_iconst (v := 1) hx hb dL_word_22 (by decide) ?_
    refine lv_icmp_ne (tgt := 44) hx hb dL_word_23 (by decide) (fun c23 => ?_) (fun c23 => ?_)
    · refine lv_iconst (v := 1) hx hb dL_word_44 (by decide) ?_
      refine lv_aload_n hx hb dL_word_45 rfl (lv_at hl 1 rfl) ?_
      refine lv_iload_n hx hb dL_word_46 rfl (lv_at hl 2 rfl) ?_
      refine lv_iconst (v := 1) hx hb dL_word_47 (by decide) ?_
      refine lv_iadd hx hb dL_word_48 ?_
      refine lv_bipush (v := 32) hx hb dL_word_49 (by decide) ?_
      refine wx_calli (va_runS (As := [.ref sb, .int (p0 + 1), .int 32]) (rest := [.int 1]) ⟨hx, hb, hml, hown, hts⟩ (k_pick l hst g base n L (w0) sb sN hsN sx (p0 + 1) 32 ((add_q (p := p0) (n := 1) rfl hp hp2 (by decide)).1) (by decide)) (va_cwS 3 hts gL_word_L_pick rfl rfl rfl (by decide +kernel) ⟨Nat.le_of_ble_eq_true rfl, Nat.le_of_ble_eq_true rfl⟩) (hPWs.preS hP hS) rfl rfl hl.1 rfl (lv_room (Nat.le_of_ble_eq_true rfl)) dL_word_51 ⟨Nat.le_of_ble_eq_true rfl, Nat.le_of_ble_eq_true rfl⟩) hS (fun r51 u51 H locs h51 hP hS => ?_)
      refine lv_ishl hx hb dL_word_54 ?_
      refine lv_istore_n (lv' := [(3, .int (1 <<< (r51 &&& 31))), (2, .int r3), (0, .ref sb), (1, .int p0)]) hx hb dL_word_55 rfl hl (by decide) rfl (fun ls hl => ?_)
      refine lv_iload_n hx hb dL_word_56 rfl (lv_at hl 0 rfl) ?_
      refine lv_if_ne (tgt := 64) hx hb dL_word_57 (by decide) (fun c57 => ?_) (fun c57 => ?_)
      · refine lv_iload_n hx hb dL_word_64 rfl (lv_at hl 0 rfl) ?_
        refine W.widen (k := 0) (n := 0) (Nat.le_of_ble_eq_true rfl) (Nat.le_of_ble_eq_true rfl) ?_
        exact W.iret (v := 1 <<< (r51 &&& 31)) hx hb hr (fun t ht hW => ⟨⟨1 <<< (r51 &&& 31), (), rfl, c57, PB.mk9 hP ht⟩, hS.F ht⟩) hS.2.2 dL_word_65
      · refine lv_iconst (v := 1) hx hb dL_word_60 (by decide) ?_
        refine lv_goto (tgt := 65) hx hb dL_word_61 (by decide) ?_
        refine W.widen (k := 0) (n := 0) (Nat.le_of_ble_eq_true rfl) (Nat.le_of_ble_eq_true rfl) ?_
        exact W.iret (v := 1) hx hb hr (fun t ht hW => ⟨⟨1, (), rfl, (by decide), PB.mk9 hP ht⟩, hS.F ht⟩) hS.2.2 dL_word_65
    · refine lv_aload_n hx hb dL_word_26 rfl (lv_at hl 1 rfl) ?_
      refine lv_iload_n hx hb dL_word_27 rfl (lv_at hl 2 rfl) ?_
      refine lv_iconst (v := 1) hx hb dL_word_28 (by decide) ?_
      refine lv_iadd hx hb dL_word_29 ?_
      refine wx_calli (va_runS (As := [.ref sb, .int (p0 + 1)]) (rest := []) ⟨hx, hb, hml, hown, hts⟩ (k_lcell l hst g base n L (w0) sb sN hsN sx (p0 + 1) ((add_q (p := p0) (n := 1) rfl hp hp2 (by decide)).1)) (va_cwS 2 hts gL_word_L_cell rfl rfl rfl (by decide +kernel) ⟨Nat.le_of_ble_eq_true rfl, Nat.le_of_ble_eq_true rfl⟩) (hPWs.preS hP hS) rfl rfl hl.1 rfl (lv_room (Nat.le_of_ble_eq_true rfl)) dL_word_30 ⟨Nat.le_of_ble_eq_true rfl, Nat.le_of_ble_eq_true rfl⟩) hS (fun r30 u30 H locs h30 hP hS => ?_)
      refine lv_aload_n hx hb dL_word_33 rfl (lv_at hl 1 rfl) ?_
      refine lv_iload_n hx hb dL_word_34 rfl (lv_at hl 2 rfl) ?_
      refine lv_iconst (v := 2) hx hb dL_word_35 (by decide) ?_
      refine lv_iadd hx hb dL_word_36 ?_
      refine wx_calli (va_runS (As := [.ref sb, .int (p0 + 2)]) (rest := [.int r30]) ⟨hx, hb, hml, hown, hts⟩ (k_lcell l hst g base n L (w0) sb sN hsN sx (p0 + 2) ((add_q (p := p0) (n := 2) rfl hp hp2 (by decide)).1)) (va_cwS 2 hts gL_word_L_cell rfl rfl rfl (by decide +kernel) ⟨Nat.le_of_ble_eq_true rfl, Nat.le_of_ble_eq_true rfl⟩) (hPWs.preS hP hS) rfl rfl hl.1 rfl (lv_room (Nat.le_of_ble_eq_true rfl)) dL_word_37 ⟨Nat.le_of_ble_eq_true rfl, Nat.le_of_ble_eq_true rfl⟩) hS (fun r37 u37 H locs h37 hP hS => ?_)
      refine lv_iand hx hb dL_word_40 ?_
      refine lv_goto (tgt := 55) hx hb dL_word_41 (by decide) ?_
      refine lv_istore_n (lv' := [(3, .int (r30 &&& r37)), (2, .int r3), (0, .ref sb), (1, .int p0)]) hx hb dL_word_55 rfl hl (by decide) rfl (fun ls hl => ?_)
      refine lv_iload_n hx hb dL_word_56 rfl (lv_at hl 0 rfl) ?_
      refine lv_if_ne (tgt := 64) hx hb dL_word_57 (by decide) (fun c57 => ?_) (fun c57 => ?_)
      · refine lv_iload_n hx hb dL_word_64 rfl (lv_at hl 0 rfl) ?_
        refine W.widen (k := 0) (n := 0) (Nat.le_of_ble_eq_true rfl) (Nat.le_of_ble_eq_true rfl) ?_
        exact W.iret (v := r30 &&& r37) hx hb hr (fun t ht hW => ⟨⟨r30 &&& r37, (), rfl, c57, PB.mk9 hP ht⟩, hS.F ht⟩) hS.2.2 dL_word_65
      · refine lv_iconst (v := 1) hx hb dL_word_60 (by decide) ?_
        refine lv_goto (tgt := 65) hx hb dL_word_61 (by decide) ?_
        refine W.widen (k := 0) (n := 0) (Nat.le_of_ble_eq_true rfl) (Nat.le_of_ble_eq_true rfl) ?_
        exact W.iret (v := 1) hx hb hr (fun t ht hW => ⟨⟨1, (), rfl, (by decide), PB.mk9 hP ht⟩, hS.F ht⟩) hS.2.2 dL_word_65
  · refine lv_aload_n hx hb dL_word_11 rfl (lv_at hl 1 rfl) ?_
    refine lv_iload_n hx hb dL_word_12 rfl (lv_at hl 2 rfl) ?_
    refine lv_iconst (v := 1) hx hb dL_word_13 (by decide) ?_
    refine lv_iadd hx hb dL_word_14 ?_
    refine wx_calli (va_runS (As := [.ref sb, .int (p0 + 1)]) (rest := []) ⟨hx, hb, hml, hown, hts⟩ (k_lcell l hst g base n L (w0) sb sN hsN sx (p0 + 1) ((add_q (p := p0) (n := 1) rfl hp hp2 (by decide)).1)) (va_cwS 2 hts gL_word_L_cell rfl rfl rfl (by decide +kernel) ⟨Nat.le_of_ble_eq_true rfl, Nat.le_of_ble_eq_true rfl⟩) (hPWs.preS hP hS) rfl rfl hl.1 rfl (lv_room (Nat.le_of_ble_eq_true rfl)) dL_word_15 ⟨Nat.le_of_ble_eq_true rfl, Nat.le_of_ble_eq_true rfl⟩) hS (fun r15 u15 H locs h15 hP hS => ?_)
    refine lv_goto (tgt := 55) hx hb dL_word_18 (by decide) ?_
    refine lv_istore_n (lv' := [(3, .int r15), (2, .int r3), (0, .ref sb), (1, .int p0)]) hx hb dL_word_55 rfl hl (by decide) rfl (fun ls hl => ?_)
    refine lv_iload_n hx hb dL_word_56 rfl (lv_at hl 0 rfl) ?_
    refine lv_if_ne (tgt := 64) hx hb dL_word_57 (by decide) (fun c57 => ?_) (fun c57 => ?_)
    · refine lv_iload_n hx hb dL_word_64 rfl (lv_at hl 0 rfl) ?_
      refine W.widen (k := 0) (n := 0) (Nat.le_of_ble_eq_true rfl) (Nat.le_of_ble_eq_true rfl) ?_
      exact W.iret (v := r15) hx hb hr (fun t ht hW => ⟨⟨r15, (), rfl, c57, PB.mk9 hP ht⟩, hS.F ht⟩) hS.2.2 dL_word_65
    · refine lv_iconst (v := 1) hx hb dL_word_60 (by decide) ?_
      refine lv_goto (tgt := 65) hx hb dL_word_61 (by decide) ?_
      refine W.widen (k := 0) (n := 0) (Nat.le_of_ble_eq_true rfl) (Nat.le_of_ble_eq_true rfl) ?_
      exact W.iret (v := 1) hx hb hr (fun t ht hW => ⟨⟨1, (), rfl, (by decide), PB.mk9 hP ht⟩, hS.F ht⟩) hS.2.2 dL_word_65

set_option maxHeartbeats 4000000 in
set_option maxRecDepth 100000 in
theorem k_lshifted (l : Launch) (hst : l.stackTraces = false) (g : gE) (base n : Nat) (L : Nat → Nat) (w0 : Nat → va_E) (p0 p1 : Int32) (j : Nat) (hj : j ≤ 7) (ej : p1 = nI j) : Met l yL_shifted wsL_shifted ({ frames := 0, cells := 0, slots := 0, locals := 0 }) (va_Pc [.int p0, .int p1] (PW SS g base n L (w0))) (va_Qi (fun (r : Int32) (_ : Unit) => r = shK p0 j) (fun (u : Unit) t => PB g n L (w0) t) (fun q => base ≤ q)) 0 0 (fun q => base ≤ q) := by
  refine Met.ofW (cc := cL_shifted) (maxL := 4) (ret := (some .int)) (by decide) rfl ?_
  intro p e s m args below meth c s₁ B hml hv
  obtain ⟨rfl, hPW⟩ := hv
  obtain ⟨hbs, hJ, hP, hK, hE⟩ := id hPW
  have hx := B.exec
  have hb := B.bytes
  have hr := B.returns
  have hts := atoms_spec (ws := wsL_shifted) B.pre
  have hown : s.vm.findClass RL = some m.cls := findClass_of_methodNamed B.named
  have hlocks := B.notSynchronized
  have hS : va_S (fun q : Nat => base ≤ q) s.heap s.heap [] := va_S.rf
  have hl := lv_entry ([.int p0, .int p1]) (n := 4) (Nat.le_of_ble_eq_true rfl)
  rw [lg_entry_eq]
  generalize (lg_sl ([.int p0, .int p1]) ++ List.replicate (4 - (lg_sl ([.int p0, .int p1])).length) Slot.unset).toArray = ls at hl ⊢
  have hl : lv_has ls 4 [(0, .int p0), (1, .int p1)] := hl
  refine lv_iload_n hx hb dL_shifted_0 rfl (lv_at hl 0 rfl) ?_
  refine lv_istore_n (lv' := [(2, .int p0), (0, .int p0), (1, .int p1)]) hx hb dL_shifted_1 rfl hl (by decide) rfl (fun ls hl => ?_)
  refine lv_iconst (v := 0) hx hb dL_shifted_2 (by decide) ?_
  refine lv_istore_n (lv' := [(3, .int 0), (2, .int p0), (0, .int p0), (1, .int p1)]) hx hb dL_shifted_3 rfl hl (by decide) rfl (fun ls hl => ?_)
  have key4 : ∀ (d k : Nat) (z3 : Int32) (z2 : Int32) (H : Heap) (locs : List Loc) (ls : Array Slot), k + d = j → (z3 = nI k) → (z2 = shK p0 k) → va_P g.1 vwCl (wl n L (w0)) H → va_S (fun q : Nat => base ≤ q) s.heap H locs → lv_has ls 4 [(3, .int z3), (2, .int z2), (0, .int p0), (1, .int p1)] → W p l e (headSpec wsL_shifted ({ frames := 0, cells := 0, slots := 0, locals := 0 })).room s m ([.int p0, .int p1] : List Value).toArray below meth c H locs 0 0 (MQ below (va_Qi (fun (r : Int32) (_ : Unit) => r = shK p0 j) (fun (u : Unit) t => PB g n L (w0) t) (fun q => base ≤ q)) ([.int p0, .int p1] : List Value).toArray s 0 0 (fun q => base ≤ q)) (F0 m 4 ls []) := by
    intro d
    induction d with
    | zero =>
      intro k z3 z2 H locs ls hkd ek3 ek2 hP hS hl
      obtain rfl : j = k := by omega
      subst ek3 ek2
      refine lv_iload_n hx hb dL_shifted_4 rfl (lv_at hl 0 rfl) ?_
      refine lv_iload_n hx hb dL_shifted_5 rfl (lv_at hl 3 rfl) ?_
      refine lv_icmp_ge (tgt := 30) hx hb dL_shifted_6 (by decide) (fun c6 => ?_) (fun c6 => absurd (by rw [ej]; exact nI_le (Nat.le_refl _) (by omega)) c6)
      refine lv_iload_n hx hb dL_shifted_30 rfl (lv_at hl 1 rfl) ?_
      refine W.widen (k := 0) (n := 0) (Nat.le_of_ble_eq_true rfl) (Nat.le_of_ble_eq_true rfl) ?_
      exact W.iret (v := shK p0 j) hx hb hr (fun t ht hW => ⟨⟨shK p0 j, (), rfl, rfl, PB.mk9 hP ht⟩, hS.F ht⟩) hS.2.2 dL_shifted_31
    | succ d ih =>
      intro k z3 z2 H locs ls hkd ek3 ek2 hP hS hl
      have hkN : k < j := by omega
      subst ek3 ek2
      refine lv_iload_n hx hb dL_shifted_4 rfl (lv_at hl 0 rfl) ?_
      refine lv_iload_n hx hb dL_shifted_5 rfl (lv_at hl 3 rfl) ?_
      refine lv_icmp_ge (tgt := 30) hx hb dL_shifted_6 (by decide) (fun c6 => absurd c6 (by rw [ej]; exact nI_ge hkN (by omega))) (fun c6 => ?_)
      refine lv_iload_n hx hb dL_shifted_9 rfl (lv_at hl 1 rfl) ?_
      refine lv_ldc (v := 2139062143) hx hb hown (hts (.constant RL 115 2139062143) (by decide +kernel)) dL_shifted_10 ?_
      refine lv_iand hx hb dL_shifted_12 ?_
      refine lv_iconst (v := 1) hx hb dL_shifted_13 (by decide) ?_
      refine lv_ishl hx hb dL_shifted_14 ?_
      refine lv_iload_n hx hb dL_shifted_15 rfl (lv_at hl 1 rfl) ?_
      refine lv_bipush (v := 7) hx hb dL_shifted_16 (by decide) ?_
      refine lv_iushr hx hb dL_shifted_18 rfl ?_
      refine lv_ldc (v := 16843009) hx hb hown (hts (.constant RL 116 16843009) (by decide +kernel)) dL_shifted_19 ?_
      refine lv_iand hx hb dL_shifted_21 ?_
      refine lv_ior hx hb dL_shifted_22 ?_
      refine lv_istore_n (lv' := [(2, .int ((((shK p0 k) &&& 2139062143) <<< (1 &&& 31)) ||| ((((shK p0 k).toUInt32 >>> ((7 : Int32).toUInt32 &&& Int32.toUInt32 31)).toInt32) &&& 16843009))), (3, .int (nI k)), (0, .int p0), (1, .int p1)]) hx hb dL_shifted_23 rfl hl (by decide) rfl (fun ls hl => ?_)
      obtain ⟨z24, ez24⟩ : ∃ y : Int32, y = nI k + 1 := ⟨_, rfl⟩
      refine lv_iinc (v := z24) (lv' := [(3, .int z24), (2, .int ((((shK p0 k) &&& 2139062143) <<< (1 &&& 31)) ||| ((((shK p0 k).toUInt32 >>> ((7 : Int32).toUInt32 &&& Int32.toUInt32 31)).toInt32) &&& 16843009))), (0, .int p0), (1, .int p1)]) hx hb dL_shifted_24 hl (k := 1) rfl (by rw [ez24]; rfl) (by decide) rfl (fun ls hl => ?_)
      refine lv_goto (tgt := 4) hx hb dL_shifted_27 (by decide) ?_
      exact ih (k + 1) _ _ _ _ _ (by omega) (by rw [ez24, nI_1]) rfl hP hS (lv_sub hl [0, 1, 2, 3] rfl)
  exact key4 j 0 _ _ _ _ _ (by omega) rfl rfl hP hS (lv_sub hl [0, 1, 2, 3] rfl)

