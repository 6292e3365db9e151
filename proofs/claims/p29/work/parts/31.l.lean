/-! laid by wip/gen -/
set_option maxHeartbeats 4000000 in
set_option maxRecDepth 100000 in
theorem kl_addBoard (l : Launch) (hst : l.stackTraces = false) (g : gE) (base n : Nat) (L : Nat → Nat) (hn : 125 ≤ n) (x : St) (r0 : Nat → va_E) (nb : Nat) (hnb : nb ≤ 6) (hx0 : x 0 0 0 = nI nb) (p0 p1 : Int32) (f : Nat → Int64) (ho : r0 123 = .inl (g.2 4, 1, .inr (.inl f))) : Met l yL_addBoard wsL_addBoard ({ frames := 13, cells := 4, slots := 24, locals := 360 }) (va_Pc [.ref (L 0), .int p0, .int p1, .ref (L 123)] (PW SS g base n L (cw g L x r0))) (va_Qi (fun (r : Int32) (u : St × (Nat → va_E)) => (r = 0 ∧ ∃ v : Int32, (fun (r : Int32) (u : St) => (0 ≤ p0.toInt ∧ p0.toInt ≤ 3 ∧ 0 ≤ p1.toInt ∧ p1.toInt ≤ 200) ∧ nb < 6 ∧ u = abF x nb p0 p1 ∧ r = u 0 0 0 - 1) v u.1 ∧ u.1 = u.1 ∧ u.2 = va_up r0 123 (oL g f v.toInt64)) ∨ (r = 1 ∧ (fun E => (E = "java/lang/IllegalArgumentException" ∧ ¬ (0 ≤ p0.toInt ∧ p0.toInt ≤ 3 ∧ 0 ≤ p1.toInt ∧ p1.toInt ≤ 200)) ∨ (E = "java/lang/IllegalStateException" ∧ (0 ≤ p0.toInt ∧ p0.toInt ≤ 3 ∧ 0 ≤ p1.toInt ∧ p1.toInt ≤ 200) ∧ nb = 6)) "java/lang/IllegalArgumentException" ∧ u = (x, r0)) ∨ (r = 2 ∧ (fun E => (E = "java/lang/IllegalArgumentException" ∧ ¬ (0 ≤ p0.toInt ∧ p0.toInt ≤ 3 ∧ 0 ≤ p1.toInt ∧ p1.toInt ≤ 200)) ∨ (E = "java/lang/IllegalStateException" ∧ (0 ≤ p0.toInt ∧ p0.toInt ≤ 3 ∧ 0 ≤ p1.toInt ∧ p1.toInt ≤ 200) ∧ nb = 6)) "java/lang/IllegalStateException" ∧ u = (x, r0))) (fun (u : St × (Nat → va_E)) t => PB g n L (cw g L u.1 u.2) t) (fun q => base ≤ q)) 4 24 (fun q => base ≤ q) := by
  refine va_MetW (cc := cL_addBoard) (maxL := 5) (ret := (some .int)) (by decide) rfl ?_
  intro p e s m args below meth c s₁ B hml hv
  obtain ⟨rfl, hPW⟩ := hv
  obtain ⟨hbs, hJ, hP, hK, hE⟩ := id hPW
  have hx := B.exec
  have hb := B.bytes
  have hr := B.returns
  have hts := atoms_spec (ws := wsL_addBoard) B.pre
  have hown : s.vm.findClass RL = some m.cls := findClass_of_methodNamed B.named
  have hlocks := B.notSynchronized
  have hTB : c.exceptionTable.toList = tableOf [(0, 10, 13, 13), (0, 10, 17, 15)] := vx_table (x := yL_addBoard) B (hts _ List.mem_cons_self)
  have hS : va_S (fun q : Nat => base ≤ q) s.heap s.heap [] := va_S.rf
  have hl := lv_entry ([.ref (L 0), .int p0, .int p1, .ref (L 123)]) (n := 5) (Nat.le_of_ble_eq_true rfl)
  rw [lg_entry_eq]
  generalize (lg_sl ([.ref (L 0), .int p0, .int p1, .ref (L 123)]) ++ List.replicate (5 - (lg_sl ([.ref (L 0), .int p0, .int p1, .ref (L 123)])).length) Slot.unset).toArray = ls at hl ⊢
  have hl : lv_has ls 5 [(0, .ref (L 0)), (1, .int p0), (2, .int p1), (3, .ref (L 123))] := hl
  refine lv_aload_n hx hb dL_addBoard_0 rfl (lv_at hl 3 rfl) ?_
  refine lv_iconst (v := 0) hx hb dL_addBoard_1 (by decide) ?_
  refine lv_aload_n hx hb dL_addBoard_2 rfl (lv_at hl 0 rfl) ?_
  refine lv_iload_n hx hb dL_addBoard_3 rfl (lv_at hl 1 rfl) ?_
  refine lv_iload_n hx hb dL_addBoard_4 rfl (lv_at hl 2 rfl) ?_
  refine wx_xcalli (vx_runV (As := [.int p0, .int p1]) (rest := [.int 0, .ref (L 123)]) ⟨hx, hb, hml, hown, hts⟩ (k_addBoard l hst g base n L (by omega) x r0 nb hnb hx0 p0 p1) (cwV 2 hts gL_addBoard_X3_addBoard rfl rfl rfl (by decide +kernel) ⟨Nat.le_of_ble_eq_true rfl, Nat.le_of_ble_eq_true rfl⟩) (hPW.preV hP hS (ci := 5) rfl (by omega) cw_d) rfl rfl hl.1 rfl (lv_room (Nat.le_of_ble_eq_true rfl)) dL_addBoard_5 ⟨Nat.le_of_ble_eq_true rfl, Nat.le_of_ble_eq_true rfl⟩) hS (fun E ce q9 H locs hpx hP hS h1 h2 h3 => ?_) (fun r5 u5 H locs h5 hP hS => ?_)
  · have hE9 : E = "java/lang/IllegalArgumentException" ∨ E = "java/lang/IllegalStateException" := by rcases id hpx with ⟨rfl, -⟩ | ⟨rfl, -⟩ <;> first | exact Or.inl rfl | exact Or.inr (rfl)
    rcases hE9 with rfl | rfl
    · refine vx_catch (own := RL) (name := "java/lang/IllegalArgumentException") hown [] ⟨0, 10, 13, 13⟩ [⟨0, 10, 17, 15⟩] (hTB.trans rfl) (fun _ h => nomatch h) (by decide) (by decide) (hts (.classLink RL 13 "java/lang/IllegalArgumentException") (by decide +kernel)) (va_Nw.use rfl (hE.1 _ (ng_in (w := .castable "java/lang/IllegalArgumentException" "java/lang/IllegalArgumentException") (by decide +kernel)))) h1 h2 h3 ?_
      refine lv_astore (lv' := [(4, .ref q9), (0, .ref (L 0)), (1, .int p0), (2, .int p1), (3, .ref (L 123))]) hx hb dL_addBoard_13 hl (by decide) rfl (fun ls hl => ?_)
      refine lv_iconst (v := 1) hx hb dL_addBoard_15 (by decide) ?_
      refine W.widen (k := 4) (n := 24) (Nat.le_of_ble_eq_true rfl) (Nat.le_of_ble_eq_true rfl) ?_
      exact W.iret (v := 1) hx hb hr (fun t ht hW => ⟨⟨1, (x, r0), rfl, Or.inr (Or.inl ⟨rfl, hpx, rfl⟩), PB.mk9 hP ht⟩, hS.F ht⟩) hS.2.2 dL_addBoard_16
    · refine vx_catch (own := RL) (name := "java/lang/IllegalStateException") hown [⟨0, 10, 13, 13⟩] ⟨0, 10, 17, 15⟩ [] (hTB.trans rfl) (fun z hz => by rcases List.mem_cons.mp hz with rfl | hz; exact Or.inr ⟨by decide, "java/lang/IllegalArgumentException", (hts (.classLink RL 13 "java/lang/IllegalArgumentException") (by decide +kernel)), hE.2.2.2.2 ("java/lang/IllegalStateException", "java/lang/IllegalArgumentException") (by decide +kernel)⟩; exact absurd hz List.not_mem_nil) (by decide) (by decide) (va_Nw.use rfl (hE.1 _ (ng_in (w := .classLink RL 15 "java/lang/IllegalStateException") (by decide +kernel)))) (va_Nw.use rfl (hE.1 _ (ng_in (w := .castable "java/lang/IllegalStateException" "java/lang/IllegalStateException") (by decide +kernel)))) h1 h2 h3 ?_
      refine lv_astore (lv' := [(4, .ref q9), (0, .ref (L 0)), (1, .int p0), (2, .int p1), (3, .ref (L 123))]) hx hb dL_addBoard_17 hl (by decide) rfl (fun ls hl => ?_)
      refine lv_iconst (v := 2) hx hb dL_addBoard_19 (by decide) ?_
      refine W.widen (k := 4) (n := 24) (Nat.le_of_ble_eq_true rfl) (Nat.le_of_ble_eq_true rfl) ?_
      exact W.iret (v := 2) hx hb hr (fun t ht hW => ⟨⟨2, (x, r0), rfl, Or.inr (Or.inr (⟨rfl, hpx, rfl⟩)), PB.mk9 hP ht⟩, hS.F ht⟩) hS.2.2 dL_addBoard_20
  refine lv_i2l hx hb dL_addBoard_8 rfl ?_
  refine wx_last (D := g.1) (cl := vwCl) (f := f) (w' := cw g L u5 (va_up r0 123 (oL g f r5.toInt64))) hx hb hK hP hJ hS (123) 4 (by omega) ((cw_ge (by decide)).trans ho) rfl (i := 0) (vp_in_nI (n := 0) (by decide) (by decide)) dL_addBoard_9 (cw_rest (by decide)) (fun H locs hP hS => ?_)
  refine lv_goto (tgt := 21) hx hb dL_addBoard_10 (by decide) ?_
  refine lv_iconst (v := 0) hx hb dL_addBoard_21 (by decide) ?_
  refine W.widen (k := 4) (n := 24) (Nat.le_of_ble_eq_true rfl) (Nat.le_of_ble_eq_true rfl) ?_
  exact W.iret (v := 0) hx hb hr (fun t ht hW => ⟨⟨0, (u5, va_up r0 123 (oL g f r5.toInt64)), rfl, Or.inl ⟨rfl, r5, h5, rfl, rfl⟩, PB.mk9 hP ht⟩, hS.F ht⟩) hS.2.2 dL_addBoard_22

set_option maxHeartbeats 4000000 in
set_option maxRecDepth 100000 in
theorem kl_setSun (l : Launch) (hst : l.stackTraces = false) (g : gE) (base n : Nat) (L : Nat → Nat) (hn : 125 ≤ n) (x : St) (r0 : Nat → va_E)  (p0 : Int32) (f : Nat → Int64) (ho : r0 123 = .inl (g.2 4, 1, .inr (.inl f))) : Met l yL_setSun wsL_setSun ({ frames := 13, cells := 4, slots := 24, locals := 360 }) (va_Pc [.ref (L 0), .int p0, .ref (L 123)] (PW SS g base n L (cw g L x r0))) (va_Qi (fun (r : Int32) (u : St × (Nat → va_E)) => (r = 0 ∧ ∃ v : Int32, (fun (r : Int32) (u : St) => (0 ≤ p0.toInt ∧ p0.toInt ≤ 20) ∧ r = x 2 0 0 ∧ u = st x 2 0 0 p0) v u.1 ∧ u.1 = u.1 ∧ u.2 = va_up r0 123 (oL g f v.toInt64)) ∨ (r = 1 ∧ (fun E => E = "java/lang/IllegalArgumentException" ∧ ¬ (0 ≤ p0.toInt ∧ p0.toInt ≤ 20)) "java/lang/IllegalArgumentException" ∧ u = (x, r0))) (fun (u : St × (Nat → va_E)) t => PB g n L (cw g L u.1 u.2) t) (fun q => base ≤ q)) 4 24 (fun q => base ≤ q) := by
  refine va_MetW (cc := cL_setSun) (maxL := 4) (ret := (some .int)) (by decide) rfl ?_
  intro p e s m args below meth c s₁ B hml hv
  obtain ⟨rfl, hPW⟩ := hv
  obtain ⟨hbs, hJ, hP, hK, hE⟩ := id hPW
  have hx := B.exec
  have hb := B.bytes
  have hr := B.returns
  have hts := atoms_spec (ws := wsL_setSun) B.pre
  have hown : s.vm.findClass RL = some m.cls := findClass_of_methodNamed B.named
  have hlocks := B.notSynchronized
  have hTB : c.exceptionTable.toList = tableOf [(0, 9, 12, 13)] := vx_table (x := yL_setSun) B (hts _ List.mem_cons_self)
  have hS : va_S (fun q : Nat => base ≤ q) s.heap s.heap [] := va_S.rf
  have hl := lv_entry ([.ref (L 0), .int p0, .ref (L 123)]) (n := 4) (Nat.le_of_ble_eq_true rfl)
  rw [lg_entry_eq]
  generalize (lg_sl ([.ref (L 0), .int p0, .ref (L 123)]) ++ List.replicate (4 - (lg_sl ([.ref (L 0), .int p0, .ref (L 123)])).length) Slot.unset).toArray = ls at hl ⊢
  have hl : lv_has ls 4 [(0, .ref (L 0)), (1, .int p0), (2, .ref (L 123))] := hl
  refine lv_aload_n hx hb dL_setSun_0 rfl (lv_at hl 2 rfl) ?_
  refine lv_iconst (v := 0) hx hb dL_setSun_1 (by decide) ?_
  refine lv_aload_n hx hb dL_setSun_2 rfl (lv_at hl 0 rfl) ?_
  refine lv_iload_n hx hb dL_setSun_3 rfl (lv_at hl 1 rfl) ?_
  refine wx_xcalli (vx_runV (As := [.int p0]) (rest := [.int 0, .ref (L 123)]) ⟨hx, hb, hml, hown, hts⟩ (k_setSun l hst g base n L (by omega) x r0 p0) (cwV 1 hts gL_setSun_X3_setSun rfl rfl rfl (by decide +kernel) ⟨Nat.le_of_ble_eq_true rfl, Nat.le_of_ble_eq_true rfl⟩) (hPW.preV hP hS (ci := 5) rfl (by omega) cw_d) rfl rfl hl.1 rfl (lv_room (Nat.le_of_ble_eq_true rfl)) dL_setSun_4 ⟨Nat.le_of_ble_eq_true rfl, Nat.le_of_ble_eq_true rfl⟩) hS (fun E ce q9 H locs hpx hP hS h1 h2 h3 => ?_) (fun r4 u4 H locs h4 hP hS => ?_)
  · have hE9 : E = "java/lang/IllegalArgumentException" := by rcases id hpx with ⟨rfl, -⟩ <;> first | exact rfl
    obtain rfl := hE9
    refine vx_catch (own := RL) (name := "java/lang/IllegalArgumentException") hown [] ⟨0, 9, 12, 13⟩ [] (hTB.trans rfl) (fun _ h => nomatch h) (by decide) (by decide) (hts (.classLink RL 13 "java/lang/IllegalArgumentException") (by decide +kernel)) (va_Nw.use rfl (hE.1 _ (ng_in (w := .castable "java/lang/IllegalArgumentException" "java/lang/IllegalArgumentException") (by decide +kernel)))) h1 h2 h3 ?_
    refine lv_astore_n (lv' := [(3, .ref q9), (0, .ref (L 0)), (1, .int p0), (2, .ref (L 123))]) hx hb dL_setSun_12 rfl hl (by decide) rfl (fun ls hl => ?_)
    refine lv_iconst (v := 1) hx hb dL_setSun_13 (by decide) ?_
    refine W.widen (k := 4) (n := 24) (Nat.le_of_ble_eq_true rfl) (Nat.le_of_ble_eq_true rfl) ?_
    exact W.iret (v := 1) hx hb hr (fun t ht hW => ⟨⟨1, (x, r0), rfl, Or.inr (⟨rfl, hpx, rfl⟩), PB.mk9 hP ht⟩, hS.F ht⟩) hS.2.2 dL_setSun_14
  refine lv_i2l hx hb dL_setSun_7 rfl ?_
  refine wx_last (D := g.1) (cl := vwCl) (f := f) (w' := cw g L u4 (va_up r0 123 (oL g f r4.toInt64))) hx hb hK hP hJ hS (123) 4 (by omega) ((cw_ge (by decide)).trans ho) rfl (i := 0) (vp_in_nI (n := 0) (by decide) (by decide)) dL_setSun_8 (cw_rest (by decide)) (fun H locs hP hS => ?_)
  refine lv_goto (tgt := 15) hx hb dL_setSun_9 (by decide) ?_
  refine lv_iconst (v := 0) hx hb dL_setSun_15 (by decide) ?_
  refine W.widen (k := 4) (n := 24) (Nat.le_of_ble_eq_true rfl) (Nat.le_of_ble_eq_true rfl) ?_
  exact W.iret (v := 0) hx hb hr (fun t ht hW => ⟨⟨0, (u4, va_up r0 123 (oL g f r4.toInt64)), rfl, Or.inl ⟨rfl, r4, h4, rfl, rfl⟩, PB.mk9 hP ht⟩, hS.F ht⟩) hS.2.2 dL_setSun_16

set_option maxHeartbeats 4000000 in
set_option maxRecDepth 100000 in
theorem kl_charge (l : Launch) (hst : l.stackTraces = false) (g : gE) (base n : Nat) (L : Nat → Nat) (hn : 125 ≤ n) (x : St) (r0 : Nat → va_E) (nb : Nat) (hnb : nb ≤ 6) (hx0 : x 0 0 0 = nI nb) (p0 : Int32) (f : Nat → Int64) (ho : r0 123 = .inl (g.2 4, 1, .inr (.inl f))) : Met l yL_charge wsL_charge ({ frames := 13, cells := 4, slots := 24, locals := 360 }) (va_Pc [.ref (L 0), .int p0, .ref (L 123)] (PW SS g base n L (cw g L x r0))) (va_Qi (fun (r : Int32) (u : St × (Nat → va_E)) => (r = 0 ∧ ∃ v : Int32, (fun (r : Int32) (_ : Unit) => ∃ j, j < nb ∧ p0 = nI j ∧ r = x 11 j 0) v () ∧ u.1 = x ∧ u.2 = va_up r0 123 (oL g f v.toInt64)) ∨ (r = 1 ∧ (fun E => E = "java/lang/IndexOutOfBoundsException" ∧ (p0.toInt < 0 ∨ nb ≤ p0.toInt)) "java/lang/IndexOutOfBoundsException" ∧ u = (x, r0))) (fun (u : St × (Nat → va_E)) t => PB g n L (cw g L u.1 u.2) t) (fun q => base ≤ q)) 4 24 (fun q => base ≤ q) := by
  refine va_MetW (cc := cL_charge) (maxL := 4) (ret := (some .int)) (by decide) rfl ?_
  intro p e s m args below meth c s₁ B hml hv
  obtain ⟨rfl, hPW⟩ := hv
  obtain ⟨hbs, hJ, hP, hK, hE⟩ := id hPW
  have hx := B.exec
  have hb := B.bytes
  have hr := B.returns
  have hts := atoms_spec (ws := wsL_charge) B.pre
  have hown : s.vm.findClass RL = some m.cls := findClass_of_methodNamed B.named
  have hlocks := B.notSynchronized
  have hTB : c.exceptionTable.toList = tableOf [(0, 9, 12, 24)] := vx_table (x := yL_charge) B (hts _ List.mem_cons_self)
  have hS : va_S (fun q : Nat => base ≤ q) s.heap s.heap [] := va_S.rf
  have hl := lv_entry ([.ref (L 0), .int p0, .ref (L 123)]) (n := 4) (Nat.le_of_ble_eq_true rfl)
  rw [lg_entry_eq]
  generalize (lg_sl ([.ref (L 0), .int p0, .ref (L 123)]) ++ List.replicate (4 - (lg_sl ([.ref (L 0), .int p0, .ref (L 123)])).length) Slot.unset).toArray = ls at hl ⊢
  have hl : lv_has ls 4 [(0, .ref (L 0)), (1, .int p0), (2, .ref (L 123))] := hl
  refine lv_aload_n hx hb dL_charge_0 rfl (lv_at hl 2 rfl) ?_
  refine lv_iconst (v := 0) hx hb dL_charge_1 (by decide) ?_
  refine lv_aload_n hx hb dL_charge_2 rfl (lv_at hl 0 rfl) ?_
  refine lv_iload_n hx hb dL_charge_3 rfl (lv_at hl 1 rfl) ?_
  refine wx_xcalli (vx_runV (As := [.int p0]) (rest := [.int 0, .ref (L 123)]) ⟨hx, hb, hml, hown, hts⟩ (k_charge l hst g base n L (by omega) x r0 nb hnb hx0 p0) (cwV 1 hts gL_charge_X3_charge rfl rfl rfl (by decide +kernel) ⟨Nat.le_of_ble_eq_true rfl, Nat.le_of_ble_eq_true rfl⟩) (hPW.preV hP hS (ci := 5) rfl (by omega) cw_d) rfl rfl hl.1 rfl (lv_room (Nat.le_of_ble_eq_true rfl)) dL_charge_4 ⟨Nat.le_of_ble_eq_true rfl, Nat.le_of_ble_eq_true rfl⟩) hS (fun E ce q9 H locs hpx hP hS h1 h2 h3 => ?_) (fun r4 u4 H locs h4 hP hS => ?_)
  · have hE9 : E = "java/lang/IndexOutOfBoundsException" := by rcases id hpx with ⟨rfl, -⟩ <;> first | exact rfl
    obtain rfl := hE9
    refine vx_catch (own := RL) (name := "java/lang/IndexOutOfBoundsException") hown [] ⟨0, 9, 12, 24⟩ [] (hTB.trans rfl) (fun _ h => nomatch h) (by decide) (by decide) (hts (.classLink RL 24 "java/lang/IndexOutOfBoundsException") (by decide +kernel)) (va_Nw.use rfl (hE.1 _ (ng_in (w := .castable "java/lang/IndexOutOfBoundsException" "java/lang/IndexOutOfBoundsException") (by decide +kernel)))) h1 h2 h3 ?_
    refine lv_astore_n (lv' := [(3, .ref q9), (0, .ref (L 0)), (1, .int p0), (2, .ref (L 123))]) hx hb dL_charge_12 rfl hl (by decide) rfl (fun ls hl => ?_)
    refine lv_iconst (v := 1) hx hb dL_charge_13 (by decide) ?_
    refine W.widen (k := 4) (n := 24) (Nat.le_of_ble_eq_true rfl) (Nat.le_of_ble_eq_true rfl) ?_
    exact W.iret (v := 1) hx hb hr (fun t ht hW => ⟨⟨1, (x, r0), rfl, Or.inr (⟨rfl, hpx, rfl⟩), PB.mk9 hP ht⟩, hS.F ht⟩) hS.2.2 dL_charge_14
  refine lv_i2l hx hb dL_charge_7 rfl ?_
  refine wx_last (D := g.1) (cl := vwCl) (f := f) (w' := cw g L x (va_up r0 123 (oL g f r4.toInt64))) hx hb hK hP hJ hS (123) 4 (by omega) ((cw_ge (by decide)).trans ho) rfl (i := 0) (vp_in_nI (n := 0) (by decide) (by decide)) dL_charge_8 (cw_rest (by decide)) (fun H locs hP hS => ?_)
  refine lv_goto (tgt := 15) hx hb dL_charge_9 (by decide) ?_
  refine lv_iconst (v := 0) hx hb dL_charge_15 (by decide) ?_
  refine W.widen (k := 4) (n := 24) (Nat.le_of_ble_eq_true rfl) (Nat.le_of_ble_eq_true rfl) ?_
  exact W.iret (v := 0) hx hb hr (fun t ht hW => ⟨⟨0, (x, va_up r0 123 (oL g f r4.toInt64)), rfl, Or.inl ⟨rfl, r4, h4, rfl, rfl⟩, PB.mk9 hP ht⟩, hS.F ht⟩) hS.2.2 dL_charge_16

set_option maxHeartbeats 4000000 in
set_option maxRecDepth 100000 in
theorem kl_cell (l : Launch) (hst : l.stackTraces = false) (g : gE) (base n : Nat) (L : Nat → Nat) (hn : 125 ≤ n) (x : St) (r0 : Nat → va_E) (nb : Nat) (hnb : nb ≤ 6) (hx0 : x 0 0 0 = nI nb) (p0 p1 p2 : Int32) (f : Nat → Int64) (ho : r0 123 = .inl (g.2 4, 1, .inr (.inl f))) : Met l yL_cell wsL_cell ({ frames := 13, cells := 4, slots := 24, locals := 360 }) (va_Pc [.ref (L 0), .int p0, .int p1, .int p2, .ref (L 123)] (PW SS g base n L (cw g L x r0))) (va_Qi (fun (r : Int32) (u : St × (Nat → va_E)) => (r = 0 ∧ ∃ v : Int32, (fun (r : Int32) (_ : Unit) => ∃ j, j < nb ∧ p0 = nI j ∧ (0 ≤ p1.toInt ∧ p1.toInt < 8 ∧ 0 ≤ p2.toInt ∧ p2.toInt < 4) ∧ r = bitF (x 15 j 0) (8 * p2 + p1)) v () ∧ u.1 = x ∧ u.2 = va_up r0 123 (oL g f v.toInt64)) ∨ (r = 1 ∧ (fun E => E = "java/lang/IndexOutOfBoundsException" ∧ ((p0.toInt < 0 ∨ nb ≤ p0.toInt) ∨ ¬ (0 ≤ p1.toInt ∧ p1.toInt < 8 ∧ 0 ≤ p2.toInt ∧ p2.toInt < 4))) "java/lang/IndexOutOfBoundsException" ∧ u = (x, r0))) (fun (u : St × (Nat → va_E)) t => PB g n L (cw g L u.1 u.2) t) (fun q => base ≤ q)) 4 24 (fun q => base ≤ q) := by
  refine va_MetW (cc := cL_cell) (maxL := 6) (ret := (some .int)) (by decide) rfl ?_
  intro p e s m args below meth c s₁ B hml hv
  obtain ⟨rfl, hPW⟩ := hv
  obtain ⟨hbs, hJ, hP, hK, hE⟩ := id hPW
  have hx := B.exec
  have hb := B.bytes
  have hr := B.returns
  have hts := atoms_spec (ws := wsL_cell) B.pre
  have hown : s.vm.findClass RL = some m.cls := findClass_of_methodNamed B.named
  have hlocks := B.notSynchronized
  have hTB : c.exceptionTable.toList = tableOf [(0, 12, 15, 24)] := vx_table (x := yL_cell) B (hts _ List.mem_cons_self)
  have hS : va_S (fun q : Nat => base ≤ q) s.heap s.heap [] := va_S.rf
  have hl := lv_entry ([.ref (L 0), .int p0, .int p1, .int p2, .ref (L 123)]) (n := 6) (Nat.le_of_ble_eq_true rfl)
  rw [lg_entry_eq]
  generalize (lg_sl ([.ref (L 0), .int p0, .int p1, .int p2, .ref (L 123)]) ++ List.replicate (6 - (lg_sl ([.ref (L 0), .int p0, .int p1, .int p2, .ref (L 123)])).length) Slot.unset).toArray = ls at hl ⊢
  have hl : lv_has ls 6 [(0, .ref (L 0)), (1, .int p0), (2, .int p1), (3, .int p2), (4, .ref (L 123))] := hl
  refine lv_aload hx hb dL_cell_0 (lv_at hl 4 rfl) ?_
  refine lv_iconst (v := 0) hx hb dL_cell_2 (by decide) ?_
  refine lv_aload_n hx hb dL_cell_3 rfl (lv_at hl 0 rfl) ?_
  refine lv_iload_n hx hb dL_cell_4 rfl (lv_at hl 1 rfl) ?_
  refine lv_iload_n hx hb dL_cell_5 rfl (lv_at hl 2 rfl) ?_
  refine lv_iload_n hx hb dL_cell_6 rfl (lv_at hl 3 rfl) ?_
  refine wx_xcalli (vx_runV (As := [.int p0, .int p1, .int p2]) (rest := [.int 0, .ref (L 123)]) ⟨hx, hb, hml, hown, hts⟩ (k_cell l hst g base n L (by omega) x r0 nb hnb hx0 p0 p1 p2) (cwV 3 hts gL_cell_X3_cell rfl rfl rfl (by decide +kernel) ⟨Nat.le_of_ble_eq_true rfl, Nat.le_of_ble_eq_true rfl⟩) (hPW.preV hP hS (ci := 5) rfl (by omega) cw_d) rfl rfl hl.1 rfl (lv_room (Nat.le_of_ble_eq_true rfl)) dL_cell_7 ⟨Nat.le_of_ble_eq_true rfl, Nat.le_of_ble_eq_true rfl⟩) hS (fun E ce q9 H locs hpx hP hS h1 h2 h3 => ?_) (fun r7 u7 H locs h7 hP hS => ?_)
  · have hE9 : E = "java/lang/IndexOutOfBoundsException" := by rcases id hpx with ⟨rfl, -⟩ <;> first | exact rfl
    obtain rfl := hE9
    refine vx_catch (own := RL) (name := "java/lang/IndexOutOfBoundsException") hown [] ⟨0, 12, 15, 24⟩ [] (hTB.trans rfl) (fun _ h => nomatch h) (by decide) (by decide) (hts (.classLink RL 24 "java/lang/IndexOutOfBoundsException") (by decide +kernel)) (va_Nw.use rfl (hE.1 _ (ng_in (w := .castable "java/lang/IndexOutOfBoundsException" "java/lang/IndexOutOfBoundsException") (by decide +kernel)))) h1 h2 h3 ?_
    refine lv_astore (lv' := [(5, .ref q9), (0, .ref (L 0)), (1, .int p0), (2, .int p1), (3, .int p2), (4, .ref (L 123))]) hx hb dL_cell_15 hl (by decide) rfl (fun ls hl => ?_)
    refine lv_iconst (v := 1) hx hb dL_cell_17 (by decide) ?_
    refine W.widen (k := 4) (n := 24) (Nat.le_of_ble_eq_true rfl) (Nat.le_of_ble_eq_true rfl) ?_
    exact W.iret (v := 1) hx hb hr (fun t ht hW => ⟨⟨1, (x, r0), rfl, Or.inr (⟨rfl, hpx, rfl⟩), PB.mk9 hP ht⟩, hS.F ht⟩) hS.2.2 dL_cell_18
  refine lv_i2l hx hb dL_cell_10 rfl ?_
  refine wx_last (D := g.1) (cl := vwCl) (f := f) (w' := cw g L x (va_up r0 123 (oL g f r7.toInt64))) hx hb hK hP hJ hS (123) 4 (by omega) ((cw_ge (by decide)).trans ho) rfl (i := 0) (vp_in_nI (n := 0) (by decide) (by decide)) dL_cell_11 (cw_rest (by decide)) (fun H locs hP hS => ?_)
  refine lv_goto (tgt := 19) hx hb dL_cell_12 (by decide) ?_
  refine lv_iconst (v := 0) hx hb dL_cell_19 (by decide) ?_
  refine W.widen (k := 4) (n := 24) (Nat.le_of_ble_eq_true rfl) (Nat.le_of_ble_eq_true rfl) ?_
  exact W.iret (v := 0) hx hb hr (fun t ht hW => ⟨⟨0, (x, va_up r0 123 (oL g f r7.toInt64)), rfl, Or.inl ⟨rfl, r7, h7, rfl, rfl⟩, PB.mk9 hP ht⟩, hS.F ht⟩) hS.2.2 dL_cell_20

set_option maxHeartbeats 4000000 in
set_option maxRecDepth 100000 in
theorem kl_wear (l : Launch) (hst : l.stackTraces = false) (g : gE) (base n : Nat) (L : Nat → Nat) (hn : 125 ≤ n) (x : St) (r0 : Nat → va_E) (nb : Nat) (hnb : nb ≤ 6) (hx0 : x 0 0 0 = nI nb) (p0 p1 p2 : Int32) (f : Nat → Int64) (ho : r0 123 = .inl (g.2 4, 1, .inr (.inl f))) : Met l yL_wear wsL_wear ({ frames := 13, cells := 4, slots := 24, locals := 360 }) (va_Pc [.ref (L 0), .int p0, .int p1, .int p2, .ref (L 123)] (PW SS g base n L (cw g L x r0))) (va_Qi (fun (r : Int32) (u : St × (Nat → va_E)) => (r = 0 ∧ ∃ v : Int32, (fun (r : Int32) (_ : Unit) => ∃ j, j < nb ∧ p0 = nI j ∧ (0 ≤ p1.toInt ∧ p1.toInt < 8 ∧ 0 ≤ p2.toInt ∧ p2.toInt < 4) ∧ r = wearF x j (8 * p2 + p1)) v () ∧ u.1 = x ∧ u.2 = va_up r0 123 (oL g f v.toInt64)) ∨ (r = 1 ∧ (fun E => E = "java/lang/IndexOutOfBoundsException" ∧ ((p0.toInt < 0 ∨ nb ≤ p0.toInt) ∨ ¬ (0 ≤ p1.toInt ∧ p1.toInt < 8 ∧ 0 ≤ p2.toInt ∧ p2.toInt < 4))) "java/lang/IndexOutOfBoundsException" ∧ u = (x, r0))) (fun (u : St × (Nat → va_E)) t => PB g n L (cw g L u.1 u.2) t) (fun q => base ≤ q)) 4 24 (fun q => base ≤ q) := by
  refine va_MetW (cc := cL_wear) (maxL := 6) (ret := (some .int)) (by decide) rfl ?_
  intro p e s m args below meth c s₁ B hml hv
  obtain ⟨rfl, hPW⟩ := hv
  obtain ⟨hbs, hJ, hP, hK, hE⟩ := id hPW
  have hx := B.exec
  have hb := B.bytes
  have hr := B.returns
  have hts := atoms_spec (ws := wsL_wear) B.pre
  have hown : s.vm.findClass RL = some m.cls := findClass_of_methodNamed B.named
  have hlocks := B.notSynchronized
  have hTB : c.exceptionTable.toList = tableOf [(0, 12, 15, 24)] := vx_table (x := yL_wear) B (hts _ List.mem_cons_self)
  have hS : va_S (fun q : Nat => base ≤ q) s.heap s.heap [] := va_S.rf
  have hl := lv_entry ([.ref (L 0), .int p0, .int p1, .int p2, .ref (L 123)]) (n := 6) (Nat.le_of_ble_eq_true rfl)
  rw [lg_entry_eq]
  generalize (lg_sl ([.ref (L 0), .int p0, .int p1, .int p2, .ref (L 123)]) ++ List.replicate (6 - (lg_sl ([.ref (L 0), .int p0, .int p1, .int p2, .ref (L 123)])).length) Slot.unset).toArray = ls at hl ⊢
  have hl : lv_has ls 6 [(0, .ref (L 0)), (1, .int p0), (2, .int p1), (3, .int p2), (4, .ref (L 123))] := hl
  refine lv_aload hx hb dL_wear_0 (lv_at hl 4 rfl) ?_
  refine lv_iconst (v := 0) hx hb dL_wear_2 (by decide) ?_
  refine lv_aload_n hx hb dL_wear_3 rfl (lv_at hl 0 rfl) ?_
  refine lv_iload_n hx hb dL_wear_4 rfl (lv_at hl 1 rfl) ?_
  refine lv_iload_n hx hb dL_wear_5 rfl (lv_at hl 2 rfl) ?_
  refine lv_iload_n hx hb dL_wear_6 rfl (lv_at hl 3 rfl) ?_
  refine wx_xcalli (vx_runV (As := [.int p0, .int p1, .int p2]) (rest := [.int 0, .ref (L 123)]) ⟨hx, hb, hml, hown, hts⟩ (k_wear l hst g base n L (by omega) x r0 nb hnb hx0 p0 p1 p2) (cwV 3 hts gL_wear_X3_wear rfl rfl rfl (by decide +kernel) ⟨Nat.le_of_ble_eq_true rfl, Nat.le_of_ble_eq_true rfl⟩) (hPW.preV hP hS (ci := 5) rfl (by omega) cw_d) rfl rfl hl.1 rfl (lv_room (Nat.le_of_ble_eq_true rfl)) dL_wear_7 ⟨Nat.le_of_ble_eq_true rfl, Nat.le_of_ble_eq_true rfl⟩) hS (fun E ce q9 H locs hpx hP hS h1 h2 h3 => ?_) (fun r7 u7 H locs h7 hP hS => ?_)
  · have hE9 : E = "java/lang/IndexOutOfBoundsException" := by rcases id hpx with ⟨rfl, -⟩ <;> first | exact rfl
    obtain rfl := hE9
    refine vx_catch (own := RL) (name := "java/lang/IndexOutOfBoundsException") hown [] ⟨0, 12, 15, 24⟩ [] (hTB.trans rfl) (fun _ h => nomatch h) (by decide) (by decide) (hts (.classLink RL 24 "java/lang/IndexOutOfBoundsException") (by decide +kernel)) (va_Nw.use rfl (hE.1 _ (ng_in (w := .castable "java/lang/IndexOutOfBoundsException" "java/lang/IndexOutOfBoundsException") (by decide +kernel)))) h1 h2 h3 ?_
    refine lv_astore (lv' := [(5, .ref q9), (0, .ref (L 0)), (1, .int p0), (2, .int p1), (3, .int p2), (4, .ref (L 123))]) hx hb dL_wear_15 hl (by decide) rfl (fun ls hl => ?_)
    refine lv_iconst (v := 1) hx hb dL_wear_17 (by decide) ?_
    refine W.widen (k := 4) (n := 24) (Nat.le_of_ble_eq_true rfl) (Nat.le_of_ble_eq_true rfl) ?_
    exact W.iret (v := 1) hx hb hr (fun t ht hW => ⟨⟨1, (x, r0), rfl, Or.inr (⟨rfl, hpx, rfl⟩), PB.mk9 hP ht⟩, hS.F ht⟩) hS.2.2 dL_wear_18
  refine lv_i2l hx hb dL_wear_10 rfl ?_
  refine wx_last (D := g.1) (cl := vwCl) (f := f) (w' := cw g L x (va_up r0 123 (oL g f r7.toInt64))) hx hb hK hP hJ hS (123) 4 (by omega) ((cw_ge (by decide)).trans ho) rfl (i := 0) (vp_in_nI (n := 0) (by decide) (by decide)) dL_wear_11 (cw_rest (by decide)) (fun H locs hP hS => ?_)
  refine lv_goto (tgt := 19) hx hb dL_wear_12 (by decide) ?_
  refine lv_iconst (v := 0) hx hb dL_wear_19 (by decide) ?_
  refine W.widen (k := 4) (n := 24) (Nat.le_of_ble_eq_true rfl) (Nat.le_of_ble_eq_true rfl) ?_
  exact W.iret (v := 0) hx hb hr (fun t ht hW => ⟨⟨0, (x, va_up r0 123 (oL g f r7.toInt64)), rfl, Or.inl ⟨rfl, r7, h7, rfl, rfl⟩, PB.mk9 hP ht⟩, hS.F ht⟩) hS.2.2 dL_wear_20

set_option maxHeartbeats 4000000 in
set_option maxRecDepth 100000 in
theorem kl_shows (l : Launch) (hst : l.stackTraces = false) (g : gE) (base n : Nat) (L : Nat → Nat) (hn : 125 ≤ n) (x : St) (r0 : Nat → va_E) (nb : Nat) (hnb : nb ≤ 6) (hx0 : x 0 0 0 = nI nb) (hsh : ∀ b, b < 6 → x 12 b 0 = -1 ∨ ∃ k, k < 40 ∧ x 12 b 0 = nI k) (p0 : Int32) (f : Nat → Int64) (ho : r0 123 = .inl (g.2 4, 1, .inr (.inl f))) : Met l yL_shows wsL_shows ({ frames := 13, cells := 4, slots := 24, locals := 360 }) (va_Pc [.ref (L 0), .int p0, .ref (L 123)] (PW SS g base n L (cw g L x r0))) (va_Qi (fun (r : Int32) (u : St × (Nat → va_E)) => (r = 0 ∧ ∃ v : Int32, (fun (r : Int32) (_ : Unit) => ∃ j, j < nb ∧ p0 = nI j ∧ r = x 12 j 0) v () ∧ u.1 = x ∧ u.2 = va_up r0 123 (oL g f v.toInt64)) ∨ (r = 1 ∧ (fun E => E = "java/lang/IndexOutOfBoundsException" ∧ (p0.toInt < 0 ∨ nb ≤ p0.toInt)) "java/lang/IndexOutOfBoundsException" ∧ u = (x, r0))) (fun (u : St × (Nat → va_E)) t => PB g n L (cw g L u.1 u.2) t) (fun q => base ≤ q)) 4 24 (fun q => base ≤ q) := by
  refine va_MetW (cc := cL_shows) (maxL := 4) (ret := (some .int)) (by decide) rfl ?_
  intro p e s m args below meth c s₁ B hml hv
  obtain ⟨rfl, hPW⟩ := hv
  obtain ⟨hbs, hJ, hP, hK, hE⟩ := id hPW
  have hx := B.exec
  have hb := B.bytes
  have hr := B.returns
  have hts := atoms_spec (ws := wsL_shows) B.pre
  have hown : s.vm.findClass RL = some m.cls := findClass_of_methodNamed B.named
  have hlocks := B.notSynchronized
  have hTB : c.exceptionTable.toList = tableOf [(0, 9, 12, 24)] := vx_table (x := yL_shows) B (hts _ List.mem_cons_self)
  have hS : va_S (fun q : Nat => base ≤ q) s.heap s.heap [] := va_S.rf
  have hl := lv_entry ([.ref (L 0), .int p0, .ref (L 123)]) (n := 4) (Nat.le_of_ble_eq_true rfl)
  rw [lg_entry_eq]
  generalize (lg_sl ([.ref (L 0), .int p0, .ref (L 123)]) ++ List.replicate (4 - (lg_sl ([.ref (L 0), .int p0, .ref (L 123)])).length) Slot.unset).toArray = ls at hl ⊢
  have hl : lv_has ls 4 [(0, .ref (L 0)), (1, .int p0), (2, .ref (L 123))] := hl
  refine lv_aload_n hx hb dL_shows_0 rfl (lv_at hl 2 rfl) ?_
  refine lv_iconst (v := 0) hx hb dL_shows_1 (by decide) ?_
  refine lv_aload_n hx hb dL_shows_2 rfl (lv_at hl 0 rfl) ?_
  refine lv_iload_n hx hb dL_shows_3 rfl (lv_at hl 1 rfl) ?_
  refine wx_xcalli (vx_runV (As := [.int p0]) (rest := [.int 0, .ref (L 123)]) ⟨hx, hb, hml, hown, hts⟩ (k_shows l hst g base n L (by omega) x r0 nb hnb hx0 hsh p0) (cwV 1 hts gL_shows_X3_shows rfl rfl rfl (by decide +kernel) ⟨Nat.le_of_ble_eq_true rfl, Nat.le_of_ble_eq_true rfl⟩) (hPW.preV hP hS (ci := 5) rfl (by omega) cw_d) rfl rfl hl.1 rfl (lv_room (Nat.le_of_ble_eq_true rfl)) dL_shows_4 ⟨Nat.le_of_ble_eq_true rfl, Nat.le_of_ble_eq_true rfl⟩) hS (fun E ce q9 H locs hpx hP hS h1 h2 h3 => ?_) (fun r4 u4 H locs h4 hP hS => ?_)
  · have hE9 : E = "java/lang/IndexOutOfBoundsException" := by rcases id hpx with ⟨rfl, -⟩ <;> first | exact rfl
    obtain rfl := hE9
    refine vx_catch (own := RL) (name := "java/lang/IndexOutOfBoundsException") hown [] ⟨0, 9, 12, 24⟩ [] (hTB.trans rfl) (fun _ h => nomatch h) (by decide) (by decide) (hts (.classLink RL 24 "java/lang/IndexOutOfBoundsException") (by decide +kernel)) (va_Nw.use rfl (hE.1 _ (ng_in (w := .castable "java/lang/IndexOutOfBoundsException" "java/lang/IndexOutOfBoundsException") (by decide +kernel)))) h1 h2 h3 ?_
    refine lv_astore_n (lv' := [(3, .ref q9), (0, .ref (L 0)), (1, .int p0), (2, .ref (L 123))]) hx hb dL_shows_12 rfl hl (by decide) rfl (fun ls hl => ?_)
    refine lv_iconst (v := 1) hx hb dL_shows_13 (by decide) ?_
    refine W.widen (k := 4) (n := 24) (Nat.le_of_ble_eq_true rfl) (Nat.le_of_ble_eq_true rfl) ?_
    exact W.iret (v := 1) hx hb hr (fun t ht hW => ⟨⟨1, (x, r0), rfl, Or.inr (⟨rfl, hpx, rfl⟩), PB.mk9 hP ht⟩, hS.F ht⟩) hS.2.2 dL_shows_14
  refine lv_i2l hx hb dL_shows_7 rfl ?_
  refine wx_last (D := g.1) (cl := vwCl) (f := f) (w' := cw g L x (va_up r0 123 (oL g f r4.toInt64))) hx hb hK hP hJ hS (123) 4 (by omega) ((cw_ge (by decide)).trans ho) rfl (i := 0) (vp_in_nI (n := 0) (by decide) (by decide)) dL_shows_8 (cw_rest (by decide)) (fun H locs hP hS => ?_)
  refine lv_goto (tgt := 15) hx hb dL_shows_9 (by decide) ?_
  refine lv_iconst (v := 0) hx hb dL_shows_15 (by decide) ?_
  refine W.widen (k := 4) (n := 24) (Nat.le_of_ble_eq_true rfl) (Nat.le_of_ble_eq_true rfl) ?_
  exact W.iret (v := 0) hx hb hr (fun t ht hW => ⟨⟨0, (x, va_up r0 123 (oL g f r4.toInt64)), rfl, Or.inl ⟨rfl, r4, h4, rfl, rfl⟩, PB.mk9 hP ht⟩, hS.F ht⟩) hS.2.2 dL_shows_16

set_option maxHeartbeats 4000000 in
set_option maxRecDepth 100000 in
theorem kl_shift (l : Launch) (hst : l.stackTraces = false) (g : gE) (base n : Nat) (L : Nat → Nat) (hn : 125 ≤ n) (x : St) (r0 : Nat → va_E) (nb : Nat) (hnb : nb ≤ 6) (hx0 : x 0 0 0 = nI nb) (p0 : Int32) (f : Nat → Int64) (ho : r0 123 = .inl (g.2 4, 1, .inr (.inl f))) : Met l yL_shift wsL_shift ({ frames := 13, cells := 4, slots := 24, locals := 360 }) (va_Pc [.ref (L 0), .int p0, .ref (L 123)] (PW SS g base n L (cw g L x r0))) (va_Qi (fun (r : Int32) (u : St × (Nat → va_E)) => (r = 0 ∧ ∃ v : Int32, (fun (r : Int32) (_ : Unit) => ∃ j, j < nb ∧ p0 = nI j ∧ r = x 13 j 0) v () ∧ u.1 = x ∧ u.2 = va_up r0 123 (oL g f v.toInt64)) ∨ (r = 1 ∧ (fun E => E = "java/lang/IndexOutOfBoundsException" ∧ (p0.toInt < 0 ∨ nb ≤ p0.toInt)) "java/lang/IndexOutOfBoundsException" ∧ u = (x, r0))) (fun (u : St × (Nat → va_E)) t => PB g n L (cw g L u.1 u.2) t) (fun q => base ≤ q)) 4 24 (fun q => base ≤ q) := by
  refine va_MetW (cc := cL_shift) (maxL := 4) (ret := (some .int)) (by decide) rfl ?_
  intro p e s m args below meth c s₁ B hml hv
  obtain ⟨rfl, hPW⟩ := hv
  obtain ⟨hbs, hJ, hP, hK, hE⟩ := id hPW
  have hx := B.exec
  have hb := B.bytes
  have hr := B.returns
  have hts := atoms_spec (ws := wsL_shift) B.pre
  have hown : s.vm.findClass RL = some m.cls := findClass_of_methodNamed B.named
  have hlocks := B.notSynchronized
  have hTB : c.exceptionTable.toList = tableOf [(0, 9, 12, 24)] := vx_table (x := yL_shift) B (hts _ List.mem_cons_self)
  have hS : va_S (fun q : Nat => base ≤ q) s.heap s.heap [] := va_S.rf
  have hl := lv_entry ([.ref (L 0), .int p0, .ref (L 123)]) (n := 4) (Nat.le_of_ble_eq_true rfl)
  rw [lg_entry_eq]
  generalize (lg_sl ([.ref (L 0), .int p0, .ref (L 123)]) ++ List.replicate (4 - (lg_sl ([.ref (L 0), .int p0, .ref (L 123)])).length) Slot.unset).toArray = ls at hl ⊢
  have hl : lv_has ls 4 [(0, .ref (L 0)), (1, .int p0), (2, .ref (L 123))] := hl
  refine lv_aload_n hx hb dL_shift_0 rfl (lv_at hl 2 rfl) ?_
  refine lv_iconst (v := 0) hx hb dL_shift_1 (by decide) ?_
  refine lv_aload_n hx hb dL_shift_2 rfl (lv_at hl 0 rfl) ?_
  refine lv_iload_n hx hb dL_shift_3 rfl (lv_at hl 1 rfl) ?_
  refine wx_xcalli (vx_runV (As := [.int p0]) (rest := [.int 0, .ref (L 123)]) ⟨hx, hb, hml, hown, hts⟩ (k_shift l hst g base n L (by omega) x r0 nb hnb hx0 p0) (cwV 1 hts gL_shift_X3_shift rfl rfl rfl (by decide +kernel) ⟨Nat.le_of_ble_eq_true rfl, Nat.le_of_ble_eq_true rfl⟩) (hPW.preV hP hS (ci := 5) rfl (by omega) cw_d) rfl rfl hl.1 rfl (lv_room (Nat.le_of_ble_eq_true rfl)) dL_shift_4 ⟨Nat.le_of_ble_eq_true rfl, Nat.le_of_ble_eq_true rfl⟩) hS (fun E ce q9 H locs hpx hP hS h1 h2 h3 => ?_) (fun r4 u4 H locs h4 hP hS => ?_)
  · have hE9 : E = "java/lang/IndexOutOfBoundsException" := by rcases id hpx with ⟨rfl, -⟩ <;> first | exact rfl
    obtain rfl := hE9
    refine vx_catch (own := RL) (name := "java/lang/IndexOutOfBoundsException") hown [] ⟨0, 9, 12, 24⟩ [] (hTB.trans rfl) (fun _ h => nomatch h) (by decide) (by decide) (hts (.classLink RL 24 "java/lang/IndexOutOfBoundsException") (by decide +kernel)) (va_Nw.use rfl (hE.1 _ (ng_in (w := .castable "java/lang/IndexOutOfBoundsException" "java/lang/IndexOutOfBoundsException") (by decide +kernel)))) h1 h2 h3 ?_
    refine lv_astore_n (lv' := [(3, .ref q9), (0, .ref (L 0)), (1, .int p0), (2, .ref (L 123))]) hx hb dL_shift_12 rfl hl (by decide) rfl (fun ls hl => ?_)
    refine lv_iconst (v := 1) hx hb dL_shift_13 (by decide) ?_
    refine W.widen (k := 4) (n := 24) (Nat.le_of_ble_eq_true rfl) (Nat.le_of_ble_eq_true rfl) ?_
    exact W.iret (v := 1) hx hb hr (fun t ht hW => ⟨⟨1, (x, r0), rfl, Or.inr (⟨rfl, hpx, rfl⟩), PB.mk9 hP ht⟩, hS.F ht⟩) hS.2.2 dL_shift_14
  refine lv_i2l hx hb dL_shift_7 rfl ?_
  refine wx_last (D := g.1) (cl := vwCl) (f := f) (w' := cw g L x (va_up r0 123 (oL g f r4.toInt64))) hx hb hK hP hJ hS (123) 4 (by omega) ((cw_ge (by decide)).trans ho) rfl (i := 0) (vp_in_nI (n := 0) (by decide) (by decide)) dL_shift_8 (cw_rest (by decide)) (fun H locs hP hS => ?_)
  refine lv_goto (tgt := 15) hx hb dL_shift_9 (by decide) ?_
  refine lv_iconst (v := 0) hx hb dL_shift_15 (by decide) ?_
  refine W.widen (k := 4) (n := 24) (Nat.le_of_ble_eq_true rfl) (Nat.le_of_ble_eq_true rfl) ?_
  exact W.iret (v := 0) hx hb hr (fun t ht hW => ⟨⟨0, (x, va_up r0 123 (oL g f r4.toInt64)), rfl, Or.inl ⟨rfl, r4, h4, rfl, rfl⟩, PB.mk9 hP ht⟩, hS.F ht⟩) hS.2.2 dL_shift_16

set_option maxHeartbeats 4000000 in
set_option maxRecDepth 100000 in
theorem kl_sleeps (l : Launch) (hst : l.stackTraces = false) (g : gE) (base n : Nat) (L : Nat → Nat) (hn : 125 ≤ n) (x : St) (r0 : Nat → va_E) (nb : Nat) (hnb : nb ≤ 6) (hx0 : x 0 0 0 = nI nb) (hbz : ∀ b, b < 6 → x 14 b 0 = 0 ∨ x 14 b 0 = 1) (p0 : Int32) (f : Nat → Int64) (ho : r0 123 = .inl (g.2 4, 1, .inr (.inl f))) : Met l yL_sleeps wsL_sleeps ({ frames := 13, cells := 4, slots := 24, locals := 360 }) (va_Pc [.ref (L 0), .int p0, .ref (L 123)] (PW SS g base n L (cw g L x r0))) (va_Qi (fun (r : Int32) (u : St × (Nat → va_E)) => (r = 0 ∧ ∃ v : Int32, (fun (r : Int32) (_ : Unit) => ∃ j, j < nb ∧ p0 = nI j ∧ r = x 14 j 0) v () ∧ u.1 = x ∧ u.2 = va_up r0 123 (oL g f (if v = 0 then 0 else 1))) ∨ (r = 1 ∧ (fun E => E = "java/lang/IndexOutOfBoundsException" ∧ (p0.toInt < 0 ∨ nb ≤ p0.toInt)) "java/lang/IndexOutOfBoundsException" ∧ u = (x, r0))) (fun (u : St × (Nat → va_E)) t => PB g n L (cw g L u.1 u.2) t) (fun q => base ≤ q)) 4 24 (fun q => base ≤ q) := by
  refine va_MetW (cc := cL_sleeps) (maxL := 4) (ret := (some .int)) (by decide) rfl ?_
  intro p e s m args below meth c s₁ B hml hv
  obtain ⟨rfl, hPW⟩ := hv
  obtain ⟨hbs, hJ, hP, hK, hE⟩ := id hPW
  have hx := B.exec
  have hb := B.bytes
  have hr := B.returns
  have hts := atoms_spec (ws := wsL_sleeps) B.pre
  have hown : s.vm.findClass RL = some m.cls := findClass_of_methodNamed B.named
  have hlocks := B.notSynchronized
  have hTB : c.exceptionTable.toList = tableOf [(0, 16, 19, 24)] := vx_table (x := yL_sleeps) B (hts _ List.mem_cons_self)
  have hS : va_S (fun q : Nat => base ≤ q) s.heap s.heap [] := va_S.rf
  have hl := lv_entry ([.ref (L 0), .int p0, .ref (L 123)]) (n := 4) (Nat.le_of_ble_eq_true rfl)
  rw [lg_entry_eq]
  generalize (lg_sl ([.ref (L 0), .int p0, .ref (L 123)]) ++ List.replicate (4 - (lg_sl ([.ref (L 0), .int p0, .ref (L 123)])).length) Slot.unset).toArray = ls at hl ⊢
  have hl : lv_has ls 4 [(0, .ref (L 0)), (1, .int p0), (2, .ref (L 123))] := hl
  refine lv_aload_n hx hb dL_sleeps_0 rfl (lv_at hl 2 rfl) ?_
  refine lv_iconst (v := 0) hx hb dL_sleeps_1 (by decide) ?_
  refine lv_aload_n hx hb dL_sleeps_2 rfl (lv_at hl 0 rfl) ?_
  refine lv_iload_n hx hb dL_sleeps_3 rfl (lv_at hl 1 rfl) ?_
  refine wx_xcalli (vx_runV (As := [.int p0]) (rest := [.int 0, .ref (L 123)]) ⟨hx, hb, hml, hown, hts⟩ (k_sleeps l hst g base n L (by omega) x r0 nb hnb hx0 hbz p0) (cwV 1 hts gL_sleeps_X3_sleeps rfl rfl rfl (by decide +kernel) ⟨Nat.le_of_ble_eq_true rfl, Nat.le_of_ble_eq_true rfl⟩) (hPW.preV hP hS (ci := 5) rfl (by omega) cw_d) rfl rfl hl.1 rfl (lv_room (Nat.le_of_ble_eq_true rfl)) dL_sleeps_4 ⟨Nat.le_of_ble_eq_true rfl, Nat.le_of_ble_eq_true rfl⟩) hS (fun E ce q9 H locs hpx hP hS h1 h2 h3 => ?_) (fun r4 u4 H locs h4 hP hS => ?_)
  · have hE9 : E = "java/lang/IndexOutOfBoundsException" := by rcases id hpx with ⟨rfl, -⟩ <;> first | exact rfl
    obtain rfl := hE9
    refine vx_catch (own := RL) (name := "java/lang/IndexOutOfBoundsException") hown [] ⟨0, 16, 19, 24⟩ [] (hTB.trans rfl) (fun _ h => nomatch h) (by decide) (by decide) (hts (.classLink RL 24 "java/lang/IndexOutOfBoundsException") (by decide +kernel)) (va_Nw.use rfl (hE.1 _ (ng_in (w := .castable "java/lang/IndexOutOfBoundsException" "java/lang/IndexOutOfBoundsException") (by decide +kernel)))) h1 h2 h3 ?_
    refine lv_astore_n (lv' := [(3, .ref q9), (0, .ref (L 0)), (1, .int p0), (2, .ref (L 123))]) hx hb dL_sleeps_19 rfl hl (by decide) rfl (fun ls hl => ?_)
    refine lv_iconst (v := 1) hx hb dL_sleeps_20 (by decide) ?_
    refine W.widen (k := 4) (n := 24) (Nat.le_of_ble_eq_true rfl) (Nat.le_of_ble_eq_true rfl) ?_
    exact W.iret (v := 1) hx hb hr (fun t ht hW => ⟨⟨1, (x, r0), rfl, Or.inr (⟨rfl, hpx, rfl⟩), PB.mk9 hP ht⟩, hS.F ht⟩) hS.2.2 dL_sleeps_21
  refine lv_if_eq (tgt := 14) hx hb dL_sleeps_7 (by decide) (fun c7 => ?_) (fun c7 => ?_)
  · refine lv_lconst (v := 0) hx hb dL_sleeps_14 (by decide) ?_
    refine wx_last (D := g.1) (cl := vwCl) (f := f) (w' := cw g L x (va_up r0 123 (oL g f (0 : Int64)))) hx hb hK hP hJ hS (123) 4 (by omega) ((cw_ge (by decide)).trans ho) rfl (i := 0) (vp_in_nI (n := 0) (by decide) (by decide)) dL_sleeps_15 (cw_rest (by decide)) (fun H locs hP hS => ?_)
    refine lv_goto (tgt := 22) hx hb dL_sleeps_16 (by decide) ?_
    refine lv_iconst (v := 0) hx hb dL_sleeps_22 (by decide) ?_
    refine W.widen (k := 4) (n := 24) (Nat.le_of_ble_eq_true rfl) (Nat.le_of_ble_eq_true rfl) ?_
    exact W.iret (v := 0) hx hb hr (fun t ht hW => ⟨⟨0, (x, va_up r0 123 (oL g f (0 : Int64))), rfl, Or.inl ⟨rfl, r4, h4, rfl, by rw [if_pos c7]⟩, PB.mk9 hP ht⟩, hS.F ht⟩) hS.2.2 dL_sleeps_23
  · refine lv_lconst (v := 1) hx hb dL_sleeps_10 (by decide) ?_
    refine lv_goto (tgt := 15) hx hb dL_sleeps_11 (by decide) ?_
    refine wx_last (D := g.1) (cl := vwCl) (f := f) (w' := cw g L x (va_up r0 123 (oL g f (1 : Int64)))) hx hb hK hP hJ hS (123) 4 (by omega) ((cw_ge (by decide)).trans ho) rfl (i := 0) (vp_in_nI (n := 0) (by decide) (by decide)) dL_sleeps_15 (cw_rest (by decide)) (fun H locs hP hS => ?_)
    refine lv_goto (tgt := 22) hx hb dL_sleeps_16 (by decide) ?_
    refine lv_iconst (v := 0) hx hb dL_sleeps_22 (by decide) ?_
    refine W.widen (k := 4) (n := 24) (Nat.le_of_ble_eq_true rfl) (Nat.le_of_ble_eq_true rfl) ?_
    exact W.iret (v := 0) hx hb hr (fun t ht hW => ⟨⟨0, (x, va_up r0 123 (oL g f (1 : Int64))), rfl, Or.inl ⟨rfl, r4, h4, rfl, by rw [if_neg c7]⟩, PB.mk9 hP ht⟩, hS.F ht⟩) hS.2.2 dL_sleeps_23

set_option maxHeartbeats 4000000 in
set_option maxRecDepth 100000 in
theorem kl_post (l : Launch) (hst : l.stackTraces = false) (g : gE) (base n : Nat) (L : Nat → Nat) (hn : 125 ≤ n) (x : St) (r0 : Nat → va_E) (nn : Nat) (hnn : nn ≤ 40) (hx1 : x 1 0 0 = nI nn) (hrk : ∀ j, j < 40 → (x 43 0 j).toNatClampNeg < 40) (p0 p1 p2 p3 : Int32) (f : Nat → Int64) (ho : r0 123 = .inl (g.2 4, 1, .inr (.inl f))) : Met l yL_post wsL_post ({ frames := 13, cells := 4, slots := 24, locals := 360 }) (va_Pc [.ref (L 0), .int p0, .int p1, .int p2, .int p3, .ref (L 123)] (PW SS g base n L (cw g L x r0))) (va_Qi (fun (r : Int32) (u : St × (Nat → va_E)) => (r = 0 ∧ ∃ v : Int32, (fun (r : Int32) (u : St) => (0 ≤ p0.toInt ∧ p0.toInt ≤ 9 ∧ p1.toInt ≠ 0 ∧ 0 ≤ p2.toInt ∧ p2.toInt < p3.toInt ∧ p3.toInt ≤ 2000) ∧ nn < 40 ∧ u = tkF x nn p0 p1 p2 p3 ∧ r = nI nn) v u.1 ∧ u.1 = u.1 ∧ u.2 = va_up r0 123 (oL g f v.toInt64)) ∨ (r = 1 ∧ (fun E => (E = "java/lang/IllegalArgumentException" ∧ ¬ (0 ≤ p0.toInt ∧ p0.toInt ≤ 9 ∧ p1.toInt ≠ 0 ∧ 0 ≤ p2.toInt ∧ p2.toInt < p3.toInt ∧ p3.toInt ≤ 2000)) ∨ (E = "java/lang/IllegalStateException" ∧ (0 ≤ p0.toInt ∧ p0.toInt ≤ 9 ∧ p1.toInt ≠ 0 ∧ 0 ≤ p2.toInt ∧ p2.toInt < p3.toInt ∧ p3.toInt ≤ 2000) ∧ nn = 40)) "java/lang/IllegalArgumentException" ∧ u = (x, r0)) ∨ (r = 2 ∧ (fun E => (E = "java/lang/IllegalArgumentException" ∧ ¬ (0 ≤ p0.toInt ∧ p0.toInt ≤ 9 ∧ p1.toInt ≠ 0 ∧ 0 ≤ p2.toInt ∧ p2.toInt < p3.toInt ∧ p3.toInt ≤ 2000)) ∨ (E = "java/lang/IllegalStateException" ∧ (0 ≤ p0.toInt ∧ p0.toInt ≤ 9 ∧ p1.toInt ≠ 0 ∧ 0 ≤ p2.toInt ∧ p2.toInt < p3.toInt ∧ p3.toInt ≤ 2000) ∧ nn = 40)) "java/lang/IllegalStateException" ∧ u = (x, r0))) (fun (u : St × (Nat → va_E)) t => PB g n L (cw g L u.1 u.2) t) (fun q => base ≤ q)) 4 24 (fun q => base ≤ q) := by
  refine va_MetW (cc := cL_post) (maxL := 7) (ret := (some .int)) (by decide) rfl ?_
  intro p e s m args below meth c s₁ B hml hv
  obtain ⟨rfl, hPW⟩ := hv
  obtain ⟨hbs, hJ, hP, hK, hE⟩ := id hPW
  have hx := B.exec
  have hb := B.bytes
  have hr := B.returns
  have hts := atoms_spec (ws := wsL_post) B.pre
  have hown : s.vm.findClass RL = some m.cls := findClass_of_methodNamed B.named
  have hlocks := B.notSynchronized
  have hTB : c.exceptionTable.toList = tableOf [(0, 14, 17, 13), (0, 14, 21, 15)] := vx_table (x := yL_post) B (hts _ List.mem_cons_self)
  have hS : va_S (fun q : Nat => base ≤ q) s.heap s.heap [] := va_S.rf
  have hl := lv_entry ([.ref (L 0), .int p0, .int p1, .int p2, .int p3, .ref (L 123)]) (n := 7) (Nat.le_of_ble_eq_true rfl)
  rw [lg_entry_eq]
  generalize (lg_sl ([.ref (L 0), .int p0, .int p1, .int p2, .int p3, .ref (L 123)]) ++ List.replicate (7 - (lg_sl ([.ref (L 0), .int p0, .int p1, .int p2, .int p3, .ref (L 123)])).length) Slot.unset).toArray = ls at hl ⊢
  have hl : lv_has ls 7 [(0, .ref (L 0)), (1, .int p0), (2, .int p1), (3, .int p2), (4, .int p3), (5, .ref (L 123))] := hl
  refine lv_aload hx hb dL_post_0 (lv_at hl 5 rfl) ?_
  refine lv_iconst (v := 0) hx hb dL_post_2 (by decide) ?_
  refine lv_aload_n hx hb dL_post_3 rfl (lv_at hl 0 rfl) ?_
  refine lv_iload_n hx hb dL_post_4 rfl (lv_at hl 1 rfl) ?_
  refine lv_iload_n hx hb dL_post_5 rfl (lv_at hl 2 rfl) ?_
  refine lv_iload_n hx hb dL_post_6 rfl (lv_at hl 3 rfl) ?_
  refine lv_iload hx hb dL_post_7 (lv_at hl 4 rfl) ?_
  refine wx_xcalli (vx_runV (As := [.int p0, .int p1, .int p2, .int p3]) (rest := [.int 0, .ref (L 123)]) ⟨hx, hb, hml, hown, hts⟩ (k_post l hst g base n L (by omega) x r0 nn hnn hx1 hrk p0 p1 p2 p3) (cwV 4 hts gL_post_X3_post rfl rfl rfl (by decide +kernel) ⟨Nat.le_of_ble_eq_true rfl, Nat.le_of_ble_eq_true rfl⟩) (hPW.preV hP hS (ci := 5) rfl (by omega) cw_d) rfl rfl hl.1 rfl (lv_room (Nat.le_of_ble_eq_true rfl)) dL_post_9 ⟨Nat.le_of_ble_eq_true rfl, Nat.le_of_ble_eq_true rfl⟩) hS (fun E ce q9 H locs hpx hP hS h1 h2 h3 => ?_) (fun r9 u9 H locs h9 hP hS => ?_)
  · have hE9 : E = "java/lang/IllegalArgumentException" ∨ E = "java/lang/IllegalStateException" := by rcases id hpx with ⟨rfl, -⟩ | ⟨rfl, -⟩ <;> first | exact Or.inl rfl | exact Or.inr (rfl)
    rcases hE9 with rfl | rfl
    · refine vx_catch (own := RL) (name := "java/lang/IllegalArgumentException") hown [] ⟨0, 14, 17, 13⟩ [⟨0, 14, 21, 15⟩] (hTB.trans rfl) (fun _ h => nomatch h) (by decide) (by decide) (hts (.classLink RL 13 "java/lang/IllegalArgumentException") (by decide +kernel)) (va_Nw.use rfl (hE.1 _ (ng_in (w := .castable "java/lang/IllegalArgumentException" "java/lang/IllegalArgumentException") (by decide +kernel)))) h1 h2 h3 ?_
      refine lv_astore (lv' := [(6, .ref q9), (0, .ref (L 0)), (1, .int p0), (2, .int p1), (3, .int p2), (4, .int p3), (5, .ref (L 123))]) hx hb dL_post_17 hl (by decide) rfl (fun ls hl => ?_)
      refine lv_iconst (v := 1) hx hb dL_post_19 (by decide) ?_
      refine W.widen (k := 4) (n := 24) (Nat.le_of_ble_eq_true rfl) (Nat.le_of_ble_eq_true rfl) ?_
      exact W.iret (v := 1) hx hb hr (fun t ht hW => ⟨⟨1, (x, r0), rfl, Or.inr (Or.inl ⟨rfl, hpx, rfl⟩), PB.mk9 hP ht⟩, hS.F ht⟩) hS.2.2 dL_post_20
    · refine vx_catch (own := RL) (name := "java/lang/IllegalStateException") hown [⟨0, 14, 17, 13⟩] ⟨0, 14, 21, 15⟩ [] (hTB.trans rfl) (fun z hz => by rcases List.mem_cons.mp hz with rfl | hz; exact Or.inr ⟨by decide, "java/lang/IllegalArgumentException", (hts (.classLink RL 13 "java/lang/IllegalArgumentException") (by decide +kernel)), hE.2.2.2.2 ("java/lang/IllegalStateException", "java/lang/IllegalArgumentException") (by decide +kernel)⟩; exact absurd hz List.not_mem_nil) (by decide) (by decide) (va_Nw.use rfl (hE.1 _ (ng_in (w := .classLink RL 15 "java/lang/IllegalStateException") (by decide +kernel)))) (va_Nw.use rfl (hE.1 _ (ng_in (w := .castable "java/lang/IllegalStateException" "java/lang/IllegalStateException") (by decide +kernel)))) h1 h2 h3 ?_
      refine lv_astore (lv' := [(6, .ref q9), (0, .ref (L 0)), (1, .int p0), (2, .int p1), (3, .int p2), (4, .int p3), (5, .ref (L 123))]) hx hb dL_post_21 hl (by decide) rfl (fun ls hl => ?_)
      refine lv_iconst (v := 2) hx hb dL_post_23 (by decide) ?_
      refine W.widen (k := 4) (n := 24) (Nat.le_of_ble_eq_true rfl) (Nat.le_of_ble_eq_true rfl) ?_
      exact W.iret (v := 2) hx hb hr (fun t ht hW => ⟨⟨2, (x, r0), rfl, Or.inr (Or.inr (⟨rfl, hpx, rfl⟩)), PB.mk9 hP ht⟩, hS.F ht⟩) hS.2.2 dL_post_24
  refine lv_i2l hx hb dL_post_12 rfl ?_
  refine wx_last (D := g.1) (cl := vwCl) (f := f) (w' := cw g L u9 (va_up r0 123 (oL g f r9.toInt64))) hx hb hK hP hJ hS (123) 4 (by omega) ((cw_ge (by decide)).trans ho) rfl (i := 0) (vp_in_nI (n := 0) (by decide) (by decide)) dL_post_13 (cw_rest (by decide)) (fun H locs hP hS => ?_)
  refine lv_goto (tgt := 25) hx hb dL_post_14 (by decide) ?_
  refine lv_iconst (v := 0) hx hb dL_post_25 (by decide) ?_
  refine W.widen (k := 4) (n := 24) (Nat.le_of_ble_eq_true rfl) (Nat.le_of_ble_eq_true rfl) ?_
  exact W.iret (v := 0) hx hb hr (fun t ht hW => ⟨⟨0, (u9, va_up r0 123 (oL g f r9.toInt64)), rfl, Or.inl ⟨rfl, r9, h9, rfl, rfl⟩, PB.mk9 hP ht⟩, hS.F ht⟩) hS.2.2 dL_post_26

set_option maxHeartbeats 4000000 in
set_option maxRecDepth 100000 in
theorem kl_queue (l : Launch) (hst : l.stackTraces = false) (g : gE) (base n : Nat) (L : Nat → Nat) (hn : 125 ≤ n) (x : St) (r0 : Nat → va_E) (nn : Nat) (hnn : nn ≤ 40) (hx1 : x 1 0 0 = nI nn) (p0 p1 : Int32) (f : Nat → Int64) (ho : r0 123 = .inl (g.2 4, 1, .inr (.inl f))) : Met l yL_queue wsL_queue ({ frames := 13, cells := 4, slots := 24, locals := 360 }) (va_Pc [.ref (L 0), .int p0, .int p1, .ref (L 123)] (PW SS g base n L (cw g L x r0))) (va_Qi (fun (r : Int32) (u : St × (Nat → va_E)) => (r = 0 ∧ ∃ v : Int32, (fun (r : Int32) (u : St) => ∃ j, j < nn ∧ p0 = nI j ∧ (0 ≤ p1.toInt ∧ p1.toInt ≤ 3) ∧ (x 34 j 0 = 0 ∧ x 35 j 0 = 0) ∧ u = piF x j p1 ∧ ((r = 0 ∧ qcP x j p1) ∨ (r = 1 ∧ ¬ qcP x j p1))) v u.1 ∧ u.1 = u.1 ∧ u.2 = va_up r0 123 (oL g f (if v = 0 then 0 else 1))) ∨ (r = 1 ∧ (fun E => (E = "java/lang/IndexOutOfBoundsException" ∧ (p0.toInt < 0 ∨ nn ≤ p0.toInt)) ∨ (∃ j, j < nn ∧ p0 = nI j ∧ ((E = "java/lang/IllegalArgumentException" ∧ (p1.toInt < 0 ∨ 3 < p1.toInt)) ∨ (E = "java/lang/UnsupportedOperationException" ∧ (0 ≤ p1.toInt ∧ p1.toInt ≤ 3) ∧ ¬ (x 34 j 0 = 0 ∧ x 35 j 0 = 0))))) "java/lang/IndexOutOfBoundsException" ∧ u = (x, r0)) ∨ (r = 2 ∧ (fun E => (E = "java/lang/IndexOutOfBoundsException" ∧ (p0.toInt < 0 ∨ nn ≤ p0.toInt)) ∨ (∃ j, j < nn ∧ p0 = nI j ∧ ((E = "java/lang/IllegalArgumentException" ∧ (p1.toInt < 0 ∨ 3 < p1.toInt)) ∨ (E = "java/lang/UnsupportedOperationException" ∧ (0 ≤ p1.toInt ∧ p1.toInt ≤ 3) ∧ ¬ (x 34 j 0 = 0 ∧ x 35 j 0 = 0))))) "java/lang/IllegalArgumentException" ∧ u = (x, r0)) ∨ (r = 3 ∧ (fun E => (E = "java/lang/IndexOutOfBoundsException" ∧ (p0.toInt < 0 ∨ nn ≤ p0.toInt)) ∨ (∃ j, j < nn ∧ p0 = nI j ∧ ((E = "java/lang/IllegalArgumentException" ∧ (p1.toInt < 0 ∨ 3 < p1.toInt)) ∨ (E = "java/lang/UnsupportedOperationException" ∧ (0 ≤ p1.toInt ∧ p1.toInt ≤ 3) ∧ ¬ (x 34 j 0 = 0 ∧ x 35 j 0 = 0))))) "java/lang/UnsupportedOperationException" ∧ u = (x, r0))) (fun (u : St × (Nat → va_E)) t => PB g n L (cw g L u.1 u.2) t) (fun q => base ≤ q)) 4 24 (fun q => base ≤ q) := by
  refine va_MetW (cc := cL_queue) (maxL := 5) (ret := (some .int)) (by decide) rfl ?_
  intro p e s m args below meth c s₁ B hml hv
  obtain ⟨rfl, hPW⟩ := hv
  obtain ⟨hbs, hJ, hP, hK, hE⟩ := id hPW
  have hx := B.exec
  have hb := B.bytes
  have hr := B.returns
  have hts := atoms_spec (ws := wsL_queue) B.pre
  have hown : s.vm.findClass RL = some m.cls := findClass_of_methodNamed B.named
  have hlocks := B.notSynchronized
  have hTB : c.exceptionTable.toList = tableOf [(0, 17, 20, 24), (0, 17, 24, 13), (0, 17, 28, 51)] := vx_table (x := yL_queue) B (hts _ List.mem_cons_self)
  have hS : va_S (fun q : Nat => base ≤ q) s.heap s.heap [] := va_S.rf
  have hl := lv_entry ([.ref (L 0), .int p0, .int p1, .ref (L 123)]) (n := 5) (Nat.le_of_ble_eq_true rfl)
  rw [lg_entry_eq]
  generalize (lg_sl ([.ref (L 0), .int p0, .int p1, .ref (L 123)]) ++ List.replicate (5 - (lg_sl ([.ref (L 0), .int p0, .int p1, .ref (L 123)])).length) Slot.unset).toArray = ls at hl ⊢
  have hl : lv_has ls 5 [(0, .ref (L 0)), (1, .int p0), (2, .int p1), (3, .ref (L 123))] := hl
  refine lv_aload_n hx hb dL_queue_0 rfl (lv_at hl 3 rfl) ?_
  refine lv_iconst (v := 0) hx hb dL_queue_1 (by decide) ?_
  refine lv_aload_n hx hb dL_queue_2 rfl (lv_at hl 0 rfl) ?_
  refine lv_iload_n hx hb dL_queue_3 rfl (lv_at hl 1 rfl) ?_
  refine lv_iload_n hx hb dL_queue_4 rfl (lv_at hl 2 rfl) ?_
  refine wx_xcalli (vx_runV (As := [.int p0, .int p1]) (rest := [.int 0, .ref (L 123)]) ⟨hx, hb, hml, hown, hts⟩ (k_queue l hst g base n L (by omega) x r0 nn hnn hx1 p0 p1) (cwV 2 hts gL_queue_X3_queue rfl rfl rfl (by decide +kernel) ⟨Nat.le_of_ble_eq_true rfl, Nat.le_of_ble_eq_true rfl⟩) (hPW.preV hP hS (ci := 5) rfl (by omega) cw_d) rfl rfl hl.1 rfl (lv_room (Nat.le_of_ble_eq_true rfl)) dL_queue_5 ⟨Nat.le_of_ble_eq_true rfl, Nat.le_of_ble_eq_true rfl⟩) hS (fun E ce q9 H locs hpx hP hS h1 h2 h3 => ?_) (fun r5 u5 H locs h5 hP hS => ?_)
  · have hE9 : E = "java/lang/IndexOutOfBoundsException" ∨ E = "java/lang/IllegalArgumentException" ∨ E = "java/lang/UnsupportedOperationException" := by rcases id hpx with ⟨rfl, -⟩ | ⟨_, -, -, ⟨rfl, -⟩ | ⟨rfl, -⟩⟩ <;> first | exact Or.inl rfl | exact Or.inr (Or.inl rfl) | exact Or.inr (Or.inr (rfl))
    rcases hE9 with rfl | rfl | rfl
    · refine vx_catch (own := RL) (name := "java/lang/IndexOutOfBoundsException") hown [] ⟨0, 17, 20, 24⟩ [⟨0, 17, 24, 13⟩, ⟨0, 17, 28, 51⟩] (hTB.trans rfl) (fun _ h => nomatch h) (by decide) (by decide) (hts (.classLink RL 24 "java/lang/IndexOutOfBoundsException") (by decide +kernel)) (va_Nw.use rfl (hE.1 _ (ng_in (w := .castable "java/lang/IndexOutOfBoundsException" "java/lang/IndexOutOfBoundsException") (by decide +kernel)))) h1 h2 h3 ?_
      refine lv_astore (lv' := [(4, .ref q9), (0, .ref (L 0)), (1, .int p0), (2, .int p1), (3, .ref (L 123))]) hx hb dL_queue_20 hl (by decide) rfl (fun ls hl => ?_)
      refine lv_iconst (v := 1) hx hb dL_queue_22 (by decide) ?_
      refine W.widen (k := 4) (n := 24) (Nat.le_of_ble_eq_true rfl) (Nat.le_of_ble_eq_true rfl) ?_
      exact W.iret (v := 1) hx hb hr (fun t ht hW => ⟨⟨1, (x, r0), rfl, Or.inr (Or.inl ⟨rfl, hpx, rfl⟩), PB.mk9 hP ht⟩, hS.F ht⟩) hS.2.2 dL_queue_23
    · refine vx_catch (own := RL) (name := "java/lang/IllegalArgumentException") hown [⟨0, 17, 20, 24⟩] ⟨0, 17, 24, 13⟩ [⟨0, 17, 28, 51⟩] (hTB.trans rfl) (fun z hz => by rcases List.mem_cons.mp hz with rfl | hz; exact Or.inr ⟨by decide, "java/lang/IndexOutOfBoundsException", (hts (.classLink RL 24 "java/lang/IndexOutOfBoundsException") (by decide +kernel)), hE.2.2.2.2 ("java/lang/IllegalArgumentException", "java/lang/IndexOutOfBoundsException") (by decide +kernel)⟩; exact absurd hz List.not_mem_nil) (by decide) (by decide) (va_Nw.use rfl (hE.1 _ (ng_in (w := .classLink RL 13 "java/lang/IllegalArgumentException") (by decide +kernel)))) (va_Nw.use rfl (hE.1 _ (ng_in (w := .castable "java/lang/IllegalArgumentException" "java/lang/IllegalArgumentException") (by decide +kernel)))) h1 h2 h3 ?_
      refine lv_astore (lv' := [(4, .ref q9), (0, .ref (L 0)), (1, .int p0), (2, .int p1), (3, .ref (L 123))]) hx hb dL_queue_24 hl (by decide) rfl (fun ls hl => ?_)
      refine lv_iconst (v := 2) hx hb dL_queue_26 (by decide) ?_
      refine W.widen (k := 4) (n := 24) (Nat.le_of_ble_eq_true rfl) (Nat.le_of_ble_eq_true rfl) ?_
      exact W.iret (v := 2) hx hb hr (fun t ht hW => ⟨⟨2, (x, r0), rfl, Or.inr (Or.inr (Or.inl ⟨rfl, hpx, rfl⟩)), PB.mk9 hP ht⟩, hS.F ht⟩) hS.2.2 dL_queue_27
    · refine vx_catch (own := RL) (name := "java/lang/UnsupportedOperationException") hown [⟨0, 17, 20, 24⟩, ⟨0, 17, 24, 13⟩] ⟨0, 17, 28, 51⟩ [] (hTB.trans rfl) (fun z hz => by rcases List.mem_cons.mp hz with rfl | hz; exact Or.inr ⟨by decide, "java/lang/IndexOutOfBoundsException", (hts (.classLink RL 24 "java/lang/IndexOutOfBoundsException") (by decide +kernel)), hE.2.2.2.2 ("java/lang/UnsupportedOperationException", "java/lang/IndexOutOfBoundsException") (by decide +kernel)⟩; rcases List.mem_cons.mp hz with rfl | hz; exact Or.inr ⟨by decide, "java/lang/IllegalArgumentException", (va_Nw.use rfl (hE.1 _ (ng_in (w := .classLink RL 13 "java/lang/IllegalArgumentException") (by decide +kernel)))), hE.2.2.2.2 ("java/lang/UnsupportedOperationException", "java/lang/IllegalArgumentException") (by decide +kernel)⟩; exact absurd hz List.not_mem_nil) (by decide) (by decide) (va_Nw.use rfl (hE.1 _ (ng_in (w := .classLink RL 51 "java/lang/UnsupportedOperationException") (by decide +kernel)))) (va_Nw.use rfl (hE.1 _ (ng_in (w := .castable "java/lang/UnsupportedOperationException" "java/lang/UnsupportedOperationException") (by decide +kernel)))) h1 h2 h3 ?_
      refine lv_astore (lv' := [(4, .ref q9), (0, .ref (L 0)), (1, .int p0), (2, .int p1), (3, .ref (L 123))]) hx hb dL_queue_28 hl (by decide) rfl (fun ls hl => ?_)
      refine lv_iconst (v := 3) hx hb dL_queue_30 (by decide) ?_
      refine W.widen (k := 4) (n := 24) (Nat.le_of_ble_eq_true rfl) (Nat.le_of_ble_eq_true rfl) ?_
      exact W.iret (v := 3) hx hb hr (fun t ht hW => ⟨⟨3, (x, r0), rfl, Or.inr (Or.inr (Or.inr (⟨rfl, hpx, rfl⟩))), PB.mk9 hP ht⟩, hS.F ht⟩) hS.2.2 dL_queue_31
  refine lv_if_eq (tgt := 15) hx hb dL_queue_8 (by decide) (fun c8 => ?_) (fun c8 => ?_)
  · refine lv_lconst (v := 0) hx hb dL_queue_15 (by decide) ?_
    refine wx_last (D := g.1) (cl := vwCl) (f := f) (w' := cw g L u5 (va_up r0 123 (oL g f (0 : Int64)))) hx hb hK hP hJ hS (123) 4 (by omega) ((cw_ge (by decide)).trans ho) rfl (i := 0) (vp_in_nI (n := 0) (by decide) (by decide)) dL_queue_16 (cw_rest (by decide)) (fun H locs hP hS => ?_)
    refine lv_goto (tgt := 32) hx hb dL_queue_17 (by decide) ?_
    refine lv_iconst (v := 0) hx hb dL_queue_32 (by decide) ?_
    refine W.widen (k := 4) (n := 24) (Nat.le_of_ble_eq_true rfl) (Nat.le_of_ble_eq_true rfl) ?_
    exact W.iret (v := 0) hx hb hr (fun t ht hW => ⟨⟨0, (u5, va_up r0 123 (oL g f (0 : Int64))), rfl, Or.inl ⟨rfl, r5, h5, rfl, by rw [if_pos c8]⟩, PB.mk9 hP ht⟩, hS.F ht⟩) hS.2.2 dL_queue_33
  · refine lv_lconst (v := 1) hx hb dL_queue_11 (by decide) ?_
    refine lv_goto (tgt := 16) hx hb dL_queue_12 (by decide) ?_
    refine wx_last (D := g.1) (cl := vwCl) (f := f) (w' := cw g L u5 (va_up r0 123 (oL g f (1 : Int64)))) hx hb hK hP hJ hS (123) 4 (by omega) ((cw_ge (by decide)).trans ho) rfl (i := 0) (vp_in_nI (n := 0) (by decide) (by decide)) dL_queue_16 (cw_rest (by decide)) (fun H locs hP hS => ?_)
    refine lv_goto (tgt := 32) hx hb dL_queue_17 (by decide) ?_
    refine lv_iconst (v := 0) hx hb dL_queue_32 (by decide) ?_
    refine W.widen (k := 4) (n := 24) (Nat.le_of_ble_eq_true rfl) (Nat.le_of_ble_eq_true rfl) ?_
    exact W.iret (v := 0) hx hb hr (fun t ht hW => ⟨⟨0, (u5, va_up r0 123 (oL g f (1 : Int64))), rfl, Or.inl ⟨rfl, r5, h5, rfl, by rw [if_neg c8]⟩, PB.mk9 hP ht⟩, hS.F ht⟩) hS.2.2 dL_queue_33

set_option maxHeartbeats 4000000 in
set_option maxRecDepth 100000 in
theorem kl_takeBack (l : Launch) (hst : l.stackTraces = false) (g : gE) (base n : Nat) (L : Nat → Nat) (hn : 125 ≤ n) (x : St) (r0 : Nat → va_E) (nb : Nat) (hnb : nb ≤ 6) (hx0 : x 0 0 0 = nI nb) (nn : Nat) (hnn : nn ≤ 40) (hx1 : x 1 0 0 = nI nn) (hsh : ∀ b, b < 6 → x 12 b 0 = -1 ∨ ∃ k, k < 40 ∧ x 12 b 0 = nI k) (p0 p1 : Int32) (f : Nat → Int64) (ho : r0 123 = .inl (g.2 4, 1, .inr (.inl f))) : Met l yL_takeBack wsL_takeBack ({ frames := 13, cells := 4, slots := 24, locals := 360 }) (va_Pc [.ref (L 0), .int p0, .int p1, .ref (L 123)] (PW SS g base n L (cw g L x r0))) (va_Qi (fun (r : Int32) (u : St × (Nat → va_E)) => (r = 0 ∧ ∃ v : Int32, (fun (r : Int32) (u : St) => ∃ j, j < nn ∧ p0 = nI j ∧ (¬ p1 ≤ x 3 0 0 ∧ p1 ≤ x 33 j 0 ∧ x 34 j 0 = 0) ∧ u = st (st x 35 j 0 1) 33 j 0 p1 ∧ r = btF u j nb) v u.1 ∧ u.1 = u.1 ∧ u.2 = va_up r0 123 (oL g f v.toInt64)) ∨ (r = 1 ∧ (fun E => (E = "java/lang/IndexOutOfBoundsException" ∧ (p0.toInt < 0 ∨ nn ≤ p0.toInt)) ∨ (∃ j, j < nn ∧ p0 = nI j ∧ ((E = "java/lang/IllegalArgumentException" ∧ (p1 ≤ x 3 0 0 ∨ ¬ p1 ≤ x 33 j 0)) ∨ (E = "java/lang/UnsupportedOperationException" ∧ (¬ p1 ≤ x 3 0 0 ∧ p1 ≤ x 33 j 0) ∧ ¬ x 34 j 0 = 0)))) "java/lang/IndexOutOfBoundsException" ∧ u = (x, r0)) ∨ (r = 2 ∧ (fun E => (E = "java/lang/IndexOutOfBoundsException" ∧ (p0.toInt < 0 ∨ nn ≤ p0.toInt)) ∨ (∃ j, j < nn ∧ p0 = nI j ∧ ((E = "java/lang/IllegalArgumentException" ∧ (p1 ≤ x 3 0 0 ∨ ¬ p1 ≤ x 33 j 0)) ∨ (E = "java/lang/UnsupportedOperationException" ∧ (¬ p1 ≤ x 3 0 0 ∧ p1 ≤ x 33 j 0) ∧ ¬ x 34 j 0 = 0)))) "java/lang/IllegalArgumentException" ∧ u = (x, r0)) ∨ (r = 3 ∧ (fun E => (E = "java/lang/IndexOutOfBoundsException" ∧ (p0.toInt < 0 ∨ nn ≤ p0.toInt)) ∨ (∃ j, j < nn ∧ p0 = nI j ∧ ((E = "java/lang/IllegalArgumentException" ∧ (p1 ≤ x 3 0 0 ∨ ¬ p1 ≤ x 33 j 0)) ∨ (E = "java/lang/UnsupportedOperationException" ∧ (¬ p1 ≤ x 3 0 0 ∧ p1 ≤ x 33 j 0) ∧ ¬ x 34 j 0 = 0)))) "java/lang/UnsupportedOperationException" ∧ u = (x, r0))) (fun (u : St × (Nat → va_E)) t => PB g n L (cw g L u.1 u.2) t) (fun q => base ≤ q)) 4 24 (fun q => base ≤ q) := by
  refine va_MetW (cc := cL_takeBack) (maxL := 5) (ret := (some .int)) (by decide) rfl ?_
  intro p e s m args below meth c s₁ B hml hv
  obtain ⟨rfl, hPW⟩ := hv
  obtain ⟨hbs, hJ, hP, hK, hE⟩ := id hPW
  have hx := B.exec
  have hb := B.bytes
  have hr := B.returns
  have hts := atoms_spec (ws := wsL_takeBack) B.pre
  have hown : s.vm.findClass RL = some m.cls := findClass_of_methodNamed B.named
  have hlocks := B.notSynchronized
  have hTB : c.exceptionTable.toList = tableOf [(0, 10, 13, 24), (0, 10, 17, 13), (0, 10, 21, 51)] := vx_table (x := yL_takeBack) B (hts _ List.mem_cons_self)
  have hS : va_S (fun q : Nat => base ≤ q) s.heap s.heap [] := va_S.rf
  have hl := lv_entry ([.ref (L 0), .int p0, .int p1, .ref (L 123)]) (n := 5) (Nat.le_of_ble_eq_true rfl)
  rw [lg_entry_eq]
  generalize (lg_sl ([.ref (L 0), .int p0, .int p1, .ref (L 123)]) ++ List.replicate (5 - (lg_sl ([.ref (L 0), .int p0, .int p1, .ref (L 123)])).length) Slot.unset).toArray = ls at hl ⊢
  have hl : lv_has ls 5 [(0, .ref (L 0)), (1, .int p0), (2, .int p1), (3, .ref (L 123))] := hl
  refine lv_aload_n hx hb dL_takeBack_0 rfl (lv_at hl 3 rfl) ?_
  refine lv_iconst (v := 0) hx hb dL_takeBack_1 (by decide) ?_
  refine lv_aload_n hx hb dL_takeBack_2 rfl (lv_at hl 0 rfl) ?_
  refine lv_iload_n hx hb dL_takeBack_3 rfl (lv_at hl 1 rfl) ?_
  refine lv_iload_n hx hb dL_takeBack_4 rfl (lv_at hl 2 rfl) ?_
  refine wx_xcalli (vx_runV (As := [.int p0, .int p1]) (rest := [.int 0, .ref (L 123)]) ⟨hx, hb, hml, hown, hts⟩ (k_takeBack l hst g base n L (by omega) x r0 nb hnb hx0 nn hnn hx1 hsh p0 p1) (cwV 2 hts gL_takeBack_X3_takeBack rfl rfl rfl (by decide +kernel) ⟨Nat.le_of_ble_eq_true rfl, Nat.le_of_ble_eq_true rfl⟩) (hPW.preV hP hS (ci := 5) rfl (by omega) cw_d) rfl rfl hl.1 rfl (lv_room (Nat.le_of_ble_eq_true rfl)) dL_takeBack_5 ⟨Nat.le_of_ble_eq_true rfl, Nat.le_of_ble_eq_true rfl⟩) hS (fun E ce q9 H locs hpx hP hS h1 h2 h3 => ?_) (fun r5 u5 H locs h5 hP hS => ?_)
  · have hE9 : E = "java/lang/IndexOutOfBoundsException" ∨ E = "java/lang/IllegalArgumentException" ∨ E = "java/lang/UnsupportedOperationException" := by rcases id hpx with ⟨rfl, -⟩ | ⟨_, -, -, ⟨rfl, -⟩ | ⟨rfl, -⟩⟩ <;> first | exact Or.inl rfl | exact Or.inr (Or.inl rfl) | exact Or.inr (Or.inr (rfl))
    rcases hE9 with rfl | rfl | rfl
    · refine vx_catch (own := RL) (name := "java/lang/IndexOutOfBoundsException") hown [] ⟨0, 10, 13, 24⟩ [⟨0, 10, 17, 13⟩, ⟨0, 10, 21, 51⟩] (hTB.trans rfl) (fun _ h => nomatch h) (by decide) (by decide) (hts (.classLink RL 24 "java/lang/IndexOutOfBoundsException") (by decide +kernel)) (va_Nw.use rfl (hE.1 _ (ng_in (w := .castable "java/lang/IndexOutOfBoundsException" "java/lang/IndexOutOfBoundsException") (by decide +kernel)))) h1 h2 h3 ?_
      refine lv_astore (lv' := [(4, .ref q9), (0, .ref (L 0)), (1, .int p0), (2, .int p1), (3, .ref (L 123))]) hx hb dL_takeBack_13 hl (by decide) rfl (fun ls hl => ?_)
      refine lv_iconst (v := 1) hx hb dL_takeBack_15 (by decide) ?_
      refine W.widen (k := 4) (n := 24) (Nat.le_of_ble_eq_true rfl) (Nat.le_of_ble_eq_true rfl) ?_
      exact W.iret (v := 1) hx hb hr (fun t ht hW => ⟨⟨1, (x, r0), rfl, Or.inr (Or.inl ⟨rfl, hpx, rfl⟩), PB.mk9 hP ht⟩, hS.F ht⟩) hS.2.2 dL_takeBack_16
    · refine vx_catch (own := RL) (name := "java/lang/IllegalArgumentException") hown [⟨0, 10, 13, 24⟩] ⟨0, 10, 17, 13⟩ [⟨0, 10, 21, 51⟩] (hTB.trans rfl) (fun z hz => by rcases List.mem_cons.mp hz with rfl | hz; exact Or.inr ⟨by decide, "java/lang/IndexOutOfBoundsException", (hts (.classLink RL 24 "java/lang/IndexOutOfBoundsException") (by decide +kernel)), hE.2.2.2.2 ("java/lang/IllegalArgumentException", "java/lang/IndexOutOfBoundsException") (by decide +kernel)⟩; exact absurd hz List.not_mem_nil) (by decide) (by decide) (va_Nw.use rfl (hE.1 _ (ng_in (w := .classLink RL 13 "java/lang/IllegalArgumentException") (by decide +kernel)))) (va_Nw.use rfl (hE.1 _ (ng_in (w := .castable "java/lang/IllegalArgumentException" "java/lang/IllegalArgumentException") (by decide +kernel)))) h1 h2 h3 ?_
      refine lv_astore (lv' := [(4, .ref q9), (0, .ref (L 0)), (1, .int p0), (2, .int p1), (3, .ref (L 123))]) hx hb dL_takeBack_17 hl (by decide) rfl (fun ls hl => ?_)
      refine lv_iconst (v := 2) hx hb dL_takeBack_19 (by decide) ?_
      refine W.widen (k := 4) (n := 24) (Nat.le_of_ble_eq_true rfl) (Nat.le_of_ble_eq_true rfl) ?_
      exact W.iret (v := 2) hx hb hr (fun t ht hW => ⟨⟨2, (x, r0), rfl, Or.inr (Or.inr (Or.inl ⟨rfl, hpx, rfl⟩)), PB.mk9 hP ht⟩, hS.F ht⟩) hS.2.2 dL_takeBack_20
    · refine vx_catch (own := RL) (name := "java/lang/UnsupportedOperationException") hown [⟨0, 10, 13, 24⟩, ⟨0, 10, 17, 13⟩] ⟨0, 10, 21, 51⟩ [] (hTB.trans rfl) (fun z hz => by rcases List.mem_cons.mp hz with rfl | hz; exact Or.inr ⟨by decide, "java/lang/IndexOutOfBoundsException", (hts (.classLink RL 24 "java/lang/IndexOutOfBoundsException") (by decide +kernel)), hE.2.2.2.2 ("java/lang/UnsupportedOperationException", "java/lang/IndexOutOfBoundsException") (by decide +kernel)⟩; rcases List.mem_cons.mp hz with rfl | hz; exact Or.inr ⟨by decide, "java/lang/IllegalArgumentException", (va_Nw.use rfl (hE.1 _ (ng_in (w := .classLink RL 13 "java/lang/IllegalArgumentException") (by decide +kernel)))), hE.2.2.2.2 ("java/lang/UnsupportedOperationException", "java/lang/IllegalArgumentException") (by decide +kernel)⟩; exact absurd hz List.not_mem_nil) (by decide) (by decide) (va_Nw.use rfl (hE.1 _ (ng_in (w := .classLink RL 51 "java/lang/UnsupportedOperationException") (by decide +kernel)))) (va_Nw.use rfl (hE.1 _ (ng_in (w := .castable "java/lang/UnsupportedOperationException" "java/lang/UnsupportedOperationException") (by decide +kernel)))) h1 h2 h3 ?_
      refine lv_astore (lv' := [(4, .ref q9), (0, .ref (L 0)), (1, .int p0), (2, .int p1), (3, .ref (L 123))]) hx hb dL_takeBack_21 hl (by decide) rfl (fun ls hl => ?_)
      refine lv_iconst (v := 3) hx hb dL_takeBack_23 (by decide) ?_
      refine W.widen (k := 4) (n := 24) (Nat.le_of_ble_eq_true rfl) (Nat.le_of_ble_eq_true rfl) ?_
      exact W.iret (v := 3) hx hb hr (fun t ht hW => ⟨⟨3, (x, r0), rfl, Or.inr (Or.inr (Or.inr (⟨rfl, hpx, rfl⟩))), PB.mk9 hP ht⟩, hS.F ht⟩) hS.2.2 dL_takeBack_24
  refine lv_i2l hx hb dL_takeBack_8 rfl ?_
  refine wx_last (D := g.1) (cl := vwCl) (f := f) (w' := cw g L u5 (va_up r0 123 (oL g f r5.toInt64))) hx hb hK hP hJ hS (123) 4 (by omega) ((cw_ge (by decide)).trans ho) rfl (i := 0) (vp_in_nI (n := 0) (by decide) (by decide)) dL_takeBack_9 (cw_rest (by decide)) (fun H locs hP hS => ?_)
  refine lv_goto (tgt := 25) hx hb dL_takeBack_10 (by decide) ?_
  refine lv_iconst (v := 0) hx hb dL_takeBack_25 (by decide) ?_
  refine W.widen (k := 4) (n := 24) (Nat.le_of_ble_eq_true rfl) (Nat.le_of_ble_eq_true rfl) ?_
  exact W.iret (v := 0) hx hb hr (fun t ht hW => ⟨⟨0, (u5, va_up r0 123 (oL g f r5.toInt64)), rfl, Or.inl ⟨rfl, r5, h5, rfl, rfl⟩, PB.mk9 hP ht⟩, hS.F ht⟩) hS.2.2 dL_takeBack_26

set_option maxHeartbeats 4000000 in
set_option maxRecDepth 100000 in
theorem kl_mend (l : Launch) (hst : l.stackTraces = false) (g : gE) (base n : Nat) (L : Nat → Nat) (hn : 125 ≤ n) (x : St) (r0 : Nat → va_E) (nb : Nat) (hnb : nb ≤ 6) (hx0 : x 0 0 0 = nI nb) (nn : Nat) (hnn : nn ≤ 40) (hx1 : x 1 0 0 = nI nn) (hrk : ∀ j, j < 40 → (x 43 0 j).toNatClampNeg < 40) (p0 p1 : Int32) (f : Nat → Int64) (ho : r0 123 = .inl (g.2 4, 1, .inr (.inl f))) : Met l yL_mend wsL_mend ({ frames := 13, cells := 4, slots := 24, locals := 360 }) (va_Pc [.ref (L 0), .int p0, .int p1, .ref (L 123)] (PW SS g base n L (cw g L x r0))) (va_Qi (fun (r : Int32) (u : St × (Nat → va_E)) => (r = 0 ∧ ∃ v : Int32, (fun (r : Int32) (u : St) => ∃ j, j < nn ∧ p0 = nI j ∧ (p1 ≠ 0 ∧ p1 ≠ x 31 j 0) ∧ (x 34 j 0 = 0 ∧ ¬ x 33 j 0 ≤ x 3 0 0) ∧ nn < 40 ∧ u = mdF x j nn nb p1 ∧ r = nI nn) v u.1 ∧ u.1 = u.1 ∧ u.2 = va_up r0 123 (oL g f v.toInt64)) ∨ (r = 1 ∧ (fun E => (E = "java/lang/IndexOutOfBoundsException" ∧ (p0.toInt < 0 ∨ nn ≤ p0.toInt)) ∨ (∃ j, j < nn ∧ p0 = nI j ∧ ((E = "java/lang/IllegalArgumentException" ∧ ¬ (p1 ≠ 0 ∧ p1 ≠ x 31 j 0)) ∨ (E = "java/lang/UnsupportedOperationException" ∧ (p1 ≠ 0 ∧ p1 ≠ x 31 j 0) ∧ ¬ (x 34 j 0 = 0 ∧ ¬ x 33 j 0 ≤ x 3 0 0)) ∨ (E = "java/lang/IllegalStateException" ∧ (p1 ≠ 0 ∧ p1 ≠ x 31 j 0) ∧ (x 34 j 0 = 0 ∧ ¬ x 33 j 0 ≤ x 3 0 0) ∧ nn = 40)))) "java/lang/IndexOutOfBoundsException" ∧ u = (x, r0)) ∨ (r = 2 ∧ (fun E => (E = "java/lang/IndexOutOfBoundsException" ∧ (p0.toInt < 0 ∨ nn ≤ p0.toInt)) ∨ (∃ j, j < nn ∧ p0 = nI j ∧ ((E = "java/lang/IllegalArgumentException" ∧ ¬ (p1 ≠ 0 ∧ p1 ≠ x 31 j 0)) ∨ (E = "java/lang/UnsupportedOperationException" ∧ (p1 ≠ 0 ∧ p1 ≠ x 31 j 0) ∧ ¬ (x 34 j 0 = 0 ∧ ¬ x 33 j 0 ≤ x 3 0 0)) ∨ (E = "java/lang/IllegalStateException" ∧ (p1 ≠ 0 ∧ p1 ≠ x 31 j 0) ∧ (x 34 j 0 = 0 ∧ ¬ x 33 j 0 ≤ x 3 0 0) ∧ nn = 40)))) "java/lang/IllegalArgumentException" ∧ u = (x, r0)) ∨ (r = 3 ∧ (fun E => (E = "java/lang/IndexOutOfBoundsException" ∧ (p0.toInt < 0 ∨ nn ≤ p0.toInt)) ∨ (∃ j, j < nn ∧ p0 = nI j ∧ ((E = "java/lang/IllegalArgumentException" ∧ ¬ (p1 ≠ 0 ∧ p1 ≠ x 31 j 0)) ∨ (E = "java/lang/UnsupportedOperationException" ∧ (p1 ≠ 0 ∧ p1 ≠ x 31 j 0) ∧ ¬ (x 34 j 0 = 0 ∧ ¬ x 33 j 0 ≤ x 3 0 0)) ∨ (E = "java/lang/IllegalStateException" ∧ (p1 ≠ 0 ∧ p1 ≠ x 31 j 0) ∧ (x 34 j 0 = 0 ∧ ¬ x 33 j 0 ≤ x 3 0 0) ∧ nn = 40)))) "java/lang/UnsupportedOperationException" ∧ u = (x, r0)) ∨ (r = 4 ∧ (fun E => (E = "java/lang/IndexOutOfBoundsException" ∧ (p0.toInt < 0 ∨ nn ≤ p0.toInt)) ∨ (∃ j, j < nn ∧ p0 = nI j ∧ ((E = "java/lang/IllegalArgumentException" ∧ ¬ (p1 ≠ 0 ∧ p1 ≠ x 31 j 0)) ∨ (E = "java/lang/UnsupportedOperationException" ∧ (p1 ≠ 0 ∧ p1 ≠ x 31 j 0) ∧ ¬ (x 34 j 0 = 0 ∧ ¬ x 33 j 0 ≤ x 3 0 0)) ∨ (E = "java/lang/IllegalStateException" ∧ (p1 ≠ 0 ∧ p1 ≠ x 31 j 0) ∧ (x 34 j 0 = 0 ∧ ¬ x 33 j 0 ≤ x 3 0 0) ∧ nn = 40)))) "java/lang/IllegalStateException" ∧ u = (x, r0))) (fun (u : St × (Nat → va_E)) t => PB g n L (cw g L u.1 u.2) t) (fun q => base ≤ q)) 4 24 (fun q => base ≤ q) := by
  refine va_MetW (cc := cL_mend) (maxL := 5) (ret := (some .int)) (by decide) rfl ?_
  intro p e s m args below meth c s₁ B hml hv
  obtain ⟨rfl, hPW⟩ := hv
  obtain ⟨hbs, hJ, hP, hK, hE⟩ := id hPW
  have hx := B.exec
  have hb := B.bytes
  have hr := B.returns
  have hts := atoms_spec (ws := wsL_mend) B.pre
  have hown : s.vm.findClass RL = some m.cls := findClass_of_methodNamed B.named
  have hlocks := B.notSynchronized
  have hTB : c.exceptionTable.toList = tableOf [(0, 10, 13, 24), (0, 10, 17, 13), (0, 10, 21, 51), (0, 10, 25, 15)] := vx_table (x := yL_mend) B (hts _ List.mem_cons_self)
  have hS : va_S (fun q : Nat => base ≤ q) s.heap s.heap [] := va_S.rf
  have hl := lv_entry ([.ref (L 0), .int p0, .int p1, .ref (L 123)]) (n := 5) (Nat.le_of_ble_eq_true rfl)
  rw [lg_entry_eq]
  generalize (lg_sl ([.ref (L 0), .int p0, .int p1, .ref (L 123)]) ++ List.replicate (5 - (lg_sl ([.ref (L 0), .int p0, .int p1, .ref (L 123)])).length) Slot.unset).toArray = ls at hl ⊢
  have hl : lv_has ls 5 [(0, .ref (L 0)), (1, .int p0), (2, .int p1), (3, .ref (L 123))] := hl
  refine lv_aload_n hx hb dL_mend_0 rfl (lv_at hl 3 rfl) ?_
  refine lv_iconst (v := 0) hx hb dL_mend_1 (by decide) ?_
  refine lv_aload_n hx hb dL_mend_2 rfl (lv_at hl 0 rfl) ?_
  refine lv_iload_n hx hb dL_mend_3 rfl (lv_at hl 1 rfl) ?_
  refine lv_iload_n hx hb dL_mend_4 rfl (lv_at hl 2 rfl) ?_
  refine wx_xcalli (vx_runV (As := [.int p0, .int p1]) (rest := [.int 0, .ref (L 123)]) ⟨hx, hb, hml, hown, hts⟩ (k_mend l hst g base n L (by omega) x r0 nb hnb hx0 nn hnn hx1 hrk p0 p1) (cwV 2 hts gL_mend_X3_mend rfl rfl rfl (by decide +kernel) ⟨Nat.le_of_ble_eq_true rfl, Nat.le_of_ble_eq_true rfl⟩) (hPW.preV hP hS (ci := 5) rfl (by omega) cw_d) rfl rfl hl.1 rfl (lv_room (Nat.le_of_ble_eq_true rfl)) dL_mend_5 ⟨Nat.le_of_ble_eq_true rfl, Nat.le_of_ble_eq_true rfl⟩) hS (fun E ce q9 H locs hpx hP hS h1 h2 h3 => ?_) (fun r5 u5 H locs h5 hP hS => ?_)
  · have hE9 : E = "java/lang/IndexOutOfBoundsException" ∨ E = "java/lang/IllegalArgumentException" ∨ E = "java/lang/UnsupportedOperationException" ∨ E = "java/lang/IllegalStateException" := by rcases id hpx with ⟨rfl, -⟩ | ⟨_, -, -, ⟨rfl, -⟩ | ⟨rfl, -⟩ | ⟨rfl, -⟩⟩ <;> first | exact Or.inl rfl | exact Or.inr (Or.inl rfl) | exact Or.inr (Or.inr (Or.inl rfl)) | exact Or.inr (Or.inr (Or.inr (rfl)))
    rcases hE9 with rfl | rfl | rfl | rfl
    · refine vx_catch (own := RL) (name := "java/lang/IndexOutOfBoundsException") hown [] ⟨0, 10, 13, 24⟩ [⟨0, 10, 17, 13⟩, ⟨0, 10, 21, 51⟩, ⟨0, 10, 25, 15⟩] (hTB.trans rfl) (fun _ h => nomatch h) (by decide) (by decide) (hts (.classLink RL 24 "java/lang/IndexOutOfBoundsException") (by decide +kernel)) (va_Nw.use rfl (hE.1 _ (ng_in (w := .castable "java/lang/IndexOutOfBoundsException" "java/lang/IndexOutOfBoundsException") (by decide +kernel)))) h1 h2 h3 ?_
      refine lv_astore (lv' := [(4, .ref q9), (0, .ref (L 0)), (1, .int p0), (2, .int p1), (3, .ref (L 123))]) hx hb dL_mend_13 hl (by decide) rfl (fun ls hl => ?_)
      refine lv_iconst (v := 1) hx hb dL_mend_15 (by decide) ?_
      refine W.widen (k := 4) (n := 24) (Nat.le_of_ble_eq_true rfl) (Nat.le_of_ble_eq_true rfl) ?_
      exact W.iret (v := 1) hx hb hr (fun t ht hW => ⟨⟨1, (x, r0), rfl, Or.inr (Or.inl ⟨rfl, hpx, rfl⟩), PB.mk9 hP ht⟩, hS.F ht⟩) hS.2.2 dL_mend_16
    · refine vx_catch (own := RL) (name := "java/lang/IllegalArgumentException") hown [⟨0, 10, 13, 24⟩] ⟨0, 10, 17, 13⟩ [⟨0, 10, 21, 51⟩, ⟨0, 10, 25, 15⟩] (hTB.trans rfl) (fun z hz => by rcases List.mem_cons.mp hz with rfl | hz; exact Or.inr ⟨by decide, "java/lang/IndexOutOfBoundsException", (hts (.classLink RL 24 "java/lang/IndexOutOfBoundsException") (by decide +kernel)), hE.2.2.2.2 ("java/lang/IllegalArgumentException", "java/lang/IndexOutOfBoundsException") (by decide +kernel)⟩; exact absurd hz List.not_mem_nil) (by decide) (by decide) (va_Nw.use rfl (hE.1 _ (ng_in (w := .classLink RL 13 "java/lang/IllegalArgumentException") (by decide +kernel)))) (va_Nw.use rfl (hE.1 _ (ng_in (w := .castable "java/lang/IllegalArgumentException" "java/lang/IllegalArgumentException") (by decide +kernel)))) h1 h2 h3 ?_
      refine lv_astore (lv' := [(4, .ref q9), (0, .ref (L 0)), (1, .int p0), (2, .int p1), (3, .ref (L 123))]) hx hb dL_mend_17 hl (by decide) rfl (fun ls hl => ?_)
      refine lv_iconst (v := 2) hx hb dL_mend_19 (by decide) ?_
      refine W.widen (k := 4) (n := 24) (Nat.le_of_ble_eq_true rfl) (Nat.le_of_ble_eq_true rfl) ?_
      exact W.iret (v := 2) hx hb hr (fun t ht hW => ⟨⟨2, (x, r0), rfl, Or.inr (Or.inr (Or.inl ⟨rfl, hpx, rfl⟩)), PB.mk9 hP ht⟩, hS.F ht⟩) hS.2.2 dL_mend_20
    · refine vx_catch (own := RL) (name := "java/lang/UnsupportedOperationException") hown [⟨0, 10, 13, 24⟩, ⟨0, 10, 17, 13⟩] ⟨0, 10, 21, 51⟩ [⟨0, 10, 25, 15⟩] (hTB.trans rfl) (fun z hz => by rcases List.mem_cons.mp hz with rfl | hz; exact Or.inr ⟨by decide, "java/lang/IndexOutOfBoundsException", (hts (.classLink RL 24 "java/lang/IndexOutOfBoundsException") (by decide +kernel)), hE.2.2.2.2 ("java/lang/UnsupportedOperationException", "java/lang/IndexOutOfBoundsException") (by decide +kernel)⟩; rcases List.mem_cons.mp hz with rfl | hz; exact Or.inr ⟨by decide, "java/lang/IllegalArgumentException", (va_Nw.use rfl (hE.1 _ (ng_in (w := .classLink RL 13 "java/lang/IllegalArgumentException") (by decide +kernel)))), hE.2.2.2.2 ("java/lang/UnsupportedOperationException", "java/lang/IllegalArgumentException") (by decide +kernel)⟩; exact absurd hz List.not_mem_nil) (by decide) (by decide) (va_Nw.use rfl (hE.1 _ (ng_in (w := .classLink RL 51 "java/lang/UnsupportedOperationException") (by decide +kernel)))) (va_Nw.use rfl (hE.1 _ (ng_in (w := .castable "java/lang/UnsupportedOperationException" "java/lang/UnsupportedOperationException") (by decide +kernel)))) h1 h2 h3 ?_
      refine lv_astore (lv' := [(4, .ref q9), (0, .ref (L 0)), (1, .int p0), (2, .int p1), (3, .ref (L 123))]) hx hb dL_mend_21 hl (by decide) rfl (fun ls hl => ?_)
      refine lv_iconst (v := 3) hx hb dL_mend_23 (by decide) ?_
      refine W.widen (k := 4) (n := 24) (Nat.le_of_ble_eq_true rfl) (Nat.le_of_ble_eq_true rfl) ?_
      exact W.iret (v := 3) hx hb hr (fun t ht hW => ⟨⟨3, (x, r0), rfl, Or.inr (Or.inr (Or.inr (Or.inl ⟨rfl, hpx, rfl⟩))), PB.mk9 hP ht⟩, hS.F ht⟩) hS.2.2 dL_mend_24
    · refine vx_catch (own := RL) (name := "java/lang/IllegalStateException") hown [⟨0, 10, 13, 24⟩, ⟨0, 10, 17, 13⟩, ⟨0, 10, 21, 51⟩] ⟨0, 10, 25, 15⟩ [] (hTB.trans rfl) (fun z hz => by rcases List.mem_cons.mp hz with rfl | hz; exact Or.inr ⟨by decide, "java/lang/IndexOutOfBoundsException", (hts (.classLink RL 24 "java/lang/IndexOutOfBoundsException") (by decide +kernel)), hE.2.2.2.2 ("java/lang/IllegalStateException", "java/lang/IndexOutOfBoundsException") (by decide +kernel)⟩; rcases List.mem_cons.mp hz with rfl | hz; exact Or.inr ⟨by decide, "java/lang/IllegalArgumentException", (va_Nw.use rfl (hE.1 _ (ng_in (w := .classLink RL 13 "java/lang/IllegalArgumentException") (by decide +kernel)))), hE.2.2.2.2 ("java/lang/IllegalStateException", "java/lang/IllegalArgumentException") (by decide +kernel)⟩; rcases List.mem_cons.mp hz with rfl | hz; exact Or.inr ⟨by decide, "java/lang/UnsupportedOperationException", (va_Nw.use rfl (hE.1 _ (ng_in (w := .classLink RL 51 "java/lang/UnsupportedOperationException") (by decide +kernel)))), hE.2.2.2.2 ("java/lang/IllegalStateException", "java/lang/UnsupportedOperationException") (by decide +kernel)⟩; exact absurd hz List.not_mem_nil) (by decide) (by decide) (va_Nw.use rfl (hE.1 _ (ng_in (w := .classLink RL 15 "java/lang/IllegalStateException") (by decide +kernel)))) (va_Nw.use rfl (hE.1 _ (ng_in (w := .castable "java/lang/IllegalStateException" "java/lang/IllegalStateException") (by decide +kernel)))) h1 h2 h3 ?_
      refine lv_astore (lv' := [(4, .ref q9), (0, .ref (L 0)), (1, .int p0), (2, .int p1), (3, .ref (L 123))]) hx hb dL_mend_25 hl (by decide) rfl (fun ls hl => ?_)
      refine lv_iconst (v := 4) hx hb dL_mend_27 (by decide) ?_
      refine W.widen (k := 4) (n := 24) (Nat.le_of_ble_eq_true rfl) (Nat.le_of_ble_eq_true rfl) ?_
      exact W.iret (v := 4) hx hb hr (fun t ht hW => ⟨⟨4, (x, r0), rfl, Or.inr (Or.inr (Or.inr (Or.inr (⟨rfl, hpx, rfl⟩)))), PB.mk9 hP ht⟩, hS.F ht⟩) hS.2.2 dL_mend_28
  refine lv_i2l hx hb dL_mend_8 rfl ?_
  refine wx_last (D := g.1) (cl := vwCl) (f := f) (w' := cw g L u5 (va_up r0 123 (oL g f r5.toInt64))) hx hb hK hP hJ hS (123) 4 (by omega) ((cw_ge (by decide)).trans ho) rfl (i := 0) (vp_in_nI (n := 0) (by decide) (by decide)) dL_mend_9 (cw_rest (by decide)) (fun H locs hP hS => ?_)
  refine lv_goto (tgt := 29) hx hb dL_mend_10 (by decide) ?_
  refine lv_iconst (v := 0) hx hb dL_mend_29 (by decide) ?_
  refine W.widen (k := 4) (n := 24) (Nat.le_of_ble_eq_true rfl) (Nat.le_of_ble_eq_true rfl) ?_
  exact W.iret (v := 0) hx hb hr (fun t ht hW => ⟨⟨0, (u5, va_up r0 123 (oL g f r5.toInt64)), rfl, Or.inl ⟨rfl, r5, h5, rfl, rfl⟩, PB.mk9 hP ht⟩, hS.F ht⟩) hS.2.2 dL_mend_30

set_option maxHeartbeats 4000000 in
set_option maxRecDepth 100000 in
theorem kl_deny (l : Launch) (hst : l.stackTraces = false) (g : gE) (base n : Nat) (L : Nat → Nat) (hn : 125 ≤ n) (x : St) (r0 : Nat → va_E) (nn : Nat) (hnn : nn ≤ 40) (hx1 : x 1 0 0 = nI nn) (hrk : ∀ j, j < 40 → (x 43 0 j).toNatClampNeg < 40) (p0 p1 p2 : Int32) (f : Nat → Int64) (ho : r0 123 = .inl (g.2 4, 1, .inr (.inl f))) : Met l yL_deny wsL_deny ({ frames := 13, cells := 4, slots := 24, locals := 360 }) (va_Pc [.ref (L 0), .int p0, .int p1, .int p2, .ref (L 123)] (PW SS g base n L (cw g L x r0))) (va_Qi (fun (r : Int32) (u : St × (Nat → va_E)) => (r = 0 ∧ ∃ v : Int32, (fun (r : Int32) (u : St) => ((0 ≤ p1.toInt ∧ p1.toInt ≤ 3) ∧ (p0.toInt ≠ 0 ∧ p0.toInt ≠ -1) ∧ ¬ p2 ≤ x 3 0 0 ∧ p2.toInt ≤ 2000) ∧ nn < 40 ∧ u = piF (tkF x nn 10 (p0 ^^^ (-1)) (x 3 0 0) p2) nn p1 ∧ r = nI nn) v u.1 ∧ u.1 = u.1 ∧ u.2 = va_up r0 123 (oL g f v.toInt64)) ∨ (r = 1 ∧ (fun E => (E = "java/lang/IllegalArgumentException" ∧ ¬ ((0 ≤ p1.toInt ∧ p1.toInt ≤ 3) ∧ (p0.toInt ≠ 0 ∧ p0.toInt ≠ -1) ∧ ¬ p2 ≤ x 3 0 0 ∧ p2.toInt ≤ 2000)) ∨ (E = "java/lang/IllegalStateException" ∧ ((0 ≤ p1.toInt ∧ p1.toInt ≤ 3) ∧ (p0.toInt ≠ 0 ∧ p0.toInt ≠ -1) ∧ ¬ p2 ≤ x 3 0 0 ∧ p2.toInt ≤ 2000) ∧ nn = 40)) "java/lang/IllegalArgumentException" ∧ u = (x, r0)) ∨ (r = 2 ∧ (fun E => (E = "java/lang/IllegalArgumentException" ∧ ¬ ((0 ≤ p1.toInt ∧ p1.toInt ≤ 3) ∧ (p0.toInt ≠ 0 ∧ p0.toInt ≠ -1) ∧ ¬ p2 ≤ x 3 0 0 ∧ p2.toInt ≤ 2000)) ∨ (E = "java/lang/IllegalStateException" ∧ ((0 ≤ p1.toInt ∧ p1.toInt ≤ 3) ∧ (p0.toInt ≠ 0 ∧ p0.toInt ≠ -1) ∧ ¬ p2 ≤ x 3 0 0 ∧ p2.toInt ≤ 2000) ∧ nn = 40)) "java/lang/IllegalStateException" ∧ u = (x, r0))) (fun (u : St × (Nat → va_E)) t => PB g n L (cw g L u.1 u.2) t) (fun q => base ≤ q)) 4 24 (fun q => base ≤ q) := by
  refine va_MetW (cc := cL_deny) (maxL := 6) (ret := (some .int)) (by decide) rfl ?_
  intro p e s m args below meth c s₁ B hml hv
  obtain ⟨rfl, hPW⟩ := hv
  obtain ⟨hbs, hJ, hP, hK, hE⟩ := id hPW
  have hx := B.exec
  have hb := B.bytes
  have hr := B.returns
  have hts := atoms_spec (ws := wsL_deny) B.pre
  have hown : s.vm.findClass RL = some m.cls := findClass_of_methodNamed B.named
  have hlocks := B.notSynchronized
  have hTB : c.exceptionTable.toList = tableOf [(0, 12, 15, 13), (0, 12, 19, 15)] := vx_table (x := yL_deny) B (hts _ List.mem_cons_self)
  have hS : va_S (fun q : Nat => base ≤ q) s.heap s.heap [] := va_S.rf
  have hl := lv_entry ([.ref (L 0), .int p0, .int p1, .int p2, .ref (L 123)]) (n := 6) (Nat.le_of_ble_eq_true rfl)
  rw [lg_entry_eq]
  generalize (lg_sl ([.ref (L 0), .int p0, .int p1, .int p2, .ref (L 123)]) ++ List.replicate (6 - (lg_sl ([.ref (L 0), .int p0, .int p1, .int p2, .ref (L 123)])).length) Slot.unset).toArray = ls at hl ⊢
  have hl : lv_has ls 6 [(0, .ref (L 0)), (1, .int p0), (2, .int p1), (3, .int p2), (4, .ref (L 123))] := hl
  refine lv_aload hx hb dL_deny_0 (lv_at hl 4 rfl) ?_
  refine lv_iconst (v := 0) hx hb dL_deny_2 (by decide) ?_
  refine lv_aload_n hx hb dL_deny_3 rfl (lv_at hl 0 rfl) ?_
  refine lv_iload_n hx hb dL_deny_4 rfl (lv_at hl 1 rfl) ?_
  refine lv_iload_n hx hb dL_deny_5 rfl (lv_at hl 2 rfl) ?_
  refine lv_iload_n hx hb dL_deny_6 rfl (lv_at hl 3 rfl) ?_
  refine wx_xcalli (vx_runV (As := [.int p0, .int p1, .int p2]) (rest := [.int 0, .ref (L 123)]) ⟨hx, hb, hml, hown, hts⟩ (k_deny l hst g base n L (by omega) x r0 nn hnn hx1 hrk p0 p1 p2) (cwV 3 hts gL_deny_X3_deny rfl rfl rfl (by decide +kernel) ⟨Nat.le_of_ble_eq_true rfl, Nat.le_of_ble_eq_true rfl⟩) (hPW.preV hP hS (ci := 5) rfl (by omega) cw_d) rfl rfl hl.1 rfl (lv_room (Nat.le_of_ble_eq_true rfl)) dL_deny_7 ⟨Nat.le_of_ble_eq_true rfl, Nat.le_of_ble_eq_true rfl⟩) hS (fun E ce q9 H locs hpx hP hS h1 h2 h3 => ?_) (fun r7 u7 H locs h7 hP hS => ?_)
  · have hE9 : E = "java/lang/IllegalArgumentException" ∨ E = "java/lang/IllegalStateException" := by rcases id hpx with ⟨rfl, -⟩ | ⟨rfl, -⟩ <;> first | exact Or.inl rfl | exact Or.inr (rfl)
    rcases hE9 with rfl | rfl
    · refine vx_catch (own := RL) (name := "java/lang/IllegalArgumentException") hown [] ⟨0, 12, 15, 13⟩ [⟨0, 12, 19, 15⟩] (hTB.trans rfl) (fun _ h => nomatch h) (by decide) (by decide) (hts (.classLink RL 13 "java/lang/IllegalArgumentException") (by decide +kernel)) (va_Nw.use rfl (hE.1 _ (ng_in (w := .castable "java/lang/IllegalArgumentException" "java/lang/IllegalArgumentException") (by decide +kernel)))) h1 h2 h3 ?_
      refine lv_astore (lv' := [(5, .ref q9), (0, .ref (L 0)), (1, .int p0), (2, .int p1), (3, .int p2), (4, .ref (L 123))]) hx hb dL_deny_15 hl (by decide) rfl (fun ls hl => ?_)
      refine lv_iconst (v := 1) hx hb dL_deny_17 (by decide) ?_
      refine W.widen (k := 4) (n := 24) (Nat.le_of_ble_eq_true rfl) (Nat.le_of_ble_eq_true rfl) ?_
      exact W.iret (v := 1) hx hb hr (fun t ht hW => ⟨⟨1, (x, r0), rfl, Or.inr (Or.inl ⟨rfl, hpx, rfl⟩), PB.mk9 hP ht⟩, hS.F ht⟩) hS.2.2 dL_deny_18
    · refine vx_catch (own := RL) (name := "java/lang/IllegalStateException") hown [⟨0, 12, 15, 13⟩] ⟨0, 12, 19, 15⟩ [] (hTB.trans rfl) (fun z hz => by rcases List.mem_cons.mp hz with rfl | hz; exact Or.inr ⟨by decide, "java/lang/IllegalArgumentException", (hts (.classLink RL 13 "java/lang/IllegalArgumentException") (by decide +kernel)), hE.2.2.2.2 ("java/lang/IllegalStateException", "java/lang/IllegalArgumentException") (by decide +kernel)⟩; exact absurd hz List.not_mem_nil) (by decide) (by decide) (va_Nw.use rfl (hE.1 _ (ng_in (w := .classLink RL 15 "java/lang/IllegalStateException") (by decide +kernel)))) (va_Nw.use rfl (hE.1 _ (ng_in (w := .castable "java/lang/IllegalStateException" "java/lang/IllegalStateException") (by decide +kernel)))) h1 h2 h3 ?_
      refine lv_astore (lv' := [(5, .ref q9), (0, .ref (L 0)), (1, .int p0), (2, .int p1), (3, .int p2), (4, .ref (L 123))]) hx hb dL_deny_19 hl (by decide) rfl (fun ls hl => ?_)
      refine lv_iconst (v := 2) hx hb dL_deny_21 (by decide) ?_
      refine W.widen (k := 4) (n := 24) (Nat.le_of_ble_eq_true rfl) (Nat.le_of_ble_eq_true rfl) ?_
      exact W.iret (v := 2) hx hb hr (fun t ht hW => ⟨⟨2, (x, r0), rfl, Or.inr (Or.inr (⟨rfl, hpx, rfl⟩)), PB.mk9 hP ht⟩, hS.F ht⟩) hS.2.2 dL_deny_22
  refine lv_i2l hx hb dL_deny_10 rfl ?_
  refine wx_last (D := g.1) (cl := vwCl) (f := f) (w' := cw g L u7 (va_up r0 123 (oL g f r7.toInt64))) hx hb hK hP hJ hS (123) 4 (by omega) ((cw_ge (by decide)).trans ho) rfl (i := 0) (vp_in_nI (n := 0) (by decide) (by decide)) dL_deny_11 (cw_rest (by decide)) (fun H locs hP hS => ?_)
  refine lv_goto (tgt := 23) hx hb dL_deny_12 (by decide) ?_
  refine lv_iconst (v := 0) hx hb dL_deny_23 (by decide) ?_
  refine W.widen (k := 4) (n := 24) (Nat.le_of_ble_eq_true rfl) (Nat.le_of_ble_eq_true rfl) ?_
  exact W.iret (v := 0) hx hb hr (fun t ht hW => ⟨⟨0, (u7, va_up r0 123 (oL g f r7.toInt64)), rfl, Or.inl ⟨rfl, r7, h7, rfl, rfl⟩, PB.mk9 hP ht⟩, hS.F ht⟩) hS.2.2 dL_deny_24

set_option maxHeartbeats 4000000 in
set_option maxRecDepth 100000 in
theorem kl_queued (l : Launch) (hst : l.stackTraces = false) (g : gE) (base n : Nat) (L : Nat → Nat) (hn : 125 ≤ n) (x : St) (r0 : Nat → va_E) (nn : Nat) (hnn : nn ≤ 40) (hx1 : x 1 0 0 = nI nn) (p0 : Int32) (f : Nat → Int64) (ho : r0 123 = .inl (g.2 4, 1, .inr (.inl f))) : Met l yL_queued wsL_queued ({ frames := 13, cells := 4, slots := 24, locals := 360 }) (va_Pc [.ref (L 0), .int p0, .ref (L 123)] (PW SS g base n L (cw g L x r0))) (va_Qi (fun (r : Int32) (u : St × (Nat → va_E)) => (r = 0 ∧ ∃ v : Int32, (fun (r : Int32) (_ : Unit) => (0 ≤ p0.toInt ∧ p0.toInt ≤ 3) ∧ r = qcF x p0 nn) v () ∧ u.1 = x ∧ u.2 = va_up r0 123 (oL g f v.toInt64)) ∨ (r = 1 ∧ (fun E => E = "java/lang/IllegalArgumentException" ∧ (p0.toInt < 0 ∨ 3 < p0.toInt)) "java/lang/IllegalArgumentException" ∧ u = (x, r0))) (fun (u : St × (Nat → va_E)) t => PB g n L (cw g L u.1 u.2) t) (fun q => base ≤ q)) 4 24 (fun q => base ≤ q) := by
  refine va_MetW (cc := cL_queued) (maxL := 4) (ret := (some .int)) (by decide) rfl ?_
  intro p e s m args below meth c s₁ B hml hv
  obtain ⟨rfl, hPW⟩ := hv
  obtain ⟨hbs, hJ, hP, hK, hE⟩ := id hPW
  have hx := B.exec
  have hb := B.bytes
  have hr := B.returns
  have hts := atoms_spec (ws := wsL_queued) B.pre
  have hown : s.vm.findClass RL = some m.cls := findClass_of_methodNamed B.named
  have hlocks := B.notSynchronized
  have hTB : c.exceptionTable.toList = tableOf [(0, 9, 12, 13)] := vx_table (x := yL_queued) B (hts _ List.mem_cons_self)
  have hS : va_S (fun q : Nat => base ≤ q) s.heap s.heap [] := va_S.rf
  have hl := lv_entry ([.ref (L 0), .int p0, .ref (L 123)]) (n := 4) (Nat.le_of_ble_eq_true rfl)
  rw [lg_entry_eq]
  generalize (lg_sl ([.ref (L 0), .int p0, .ref (L 123)]) ++ List.replicate (4 - (lg_sl ([.ref (L 0), .int p0, .ref (L 123)])).length) Slot.unset).toArray = ls at hl ⊢
  have hl : lv_has ls 4 [(0, .ref (L 0)), (1, .int p0), (2, .ref (L 123))] := hl
  refine lv_aload_n hx hb dL_queued_0 rfl (lv_at hl 2 rfl) ?_
  refine lv_iconst (v := 0) hx hb dL_queued_1 (by decide) ?_
  refine lv_aload_n hx hb dL_queued_2 rfl (lv_at hl 0 rfl) ?_
  refine lv_iload_n hx hb dL_queued_3 rfl (lv_at hl 1 rfl) ?_
  refine wx_xcalli (vx_runV (As := [.int p0]) (rest := [.int 0, .ref (L 123)]) ⟨hx, hb, hml, hown, hts⟩ (k_queued l hst g base n L (by omega) x r0 nn hnn hx1 p0) (cwV 1 hts gL_queued_X3_queued rfl rfl rfl (by decide +kernel) ⟨Nat.le_of_ble_eq_true rfl, Nat.le_of_ble_eq_true rfl⟩) (hPW.preV hP hS (ci := 5) rfl (by omega) cw_d) rfl rfl hl.1 rfl (lv_room (Nat.le_of_ble_eq_true rfl)) dL_queued_4 ⟨Nat.le_of_ble_eq_true rfl, Nat.le_of_ble_eq_true rfl⟩) hS (fun E ce q9 H locs hpx hP hS h1 h2 h3 => ?_) (fun r4 u4 H locs h4 hP hS => ?_)
  · have hE9 : E = "java/lang/IllegalArgumentException" := by rcases id hpx with ⟨rfl, -⟩ <;> first | exact rfl
    obtain rfl := hE9
    refine vx_catch (own := RL) (name := "java/lang/IllegalArgumentException") hown [] ⟨0, 9, 12, 13⟩ [] (hTB.trans rfl) (fun _ h => nomatch h) (by decide) (by decide) (hts (.classLink RL 13 "java/lang/IllegalArgumentException") (by decide +kernel)) (va_Nw.use rfl (hE.1 _ (ng_in (w := .castable "java/lang/IllegalArgumentException" "java/lang/IllegalArgumentException") (by decide +kernel)))) h1 h2 h3 ?_
    refine lv_astore_n (lv' := [(3, .ref q9), (0, .ref (L 0)), (1, .int p0), (2, .ref (L 123))]) hx hb dL_queued_12 rfl hl (by decide) rfl (fun ls hl => ?_)
    refine lv_iconst (v := 1) hx hb dL_queued_13 (by decide) ?_
    refine W.widen (k := 4) (n := 24) (Nat.le_of_ble_eq_true rfl) (Nat.le_of_ble_eq_true rfl) ?_
    exact W.iret (v := 1) hx hb hr (fun t ht hW => ⟨⟨1, (x, r0), rfl, Or.inr (⟨rfl, hpx, rfl⟩), PB.mk9 hP ht⟩, hS.F ht⟩) hS.2.2 dL_queued_14
  refine lv_i2l hx hb dL_queued_7 rfl ?_
  refine wx_last (D := g.1) (cl := vwCl) (f := f) (w' := cw g L x (va_up r0 123 (oL g f r4.toInt64))) hx hb hK hP hJ hS (123) 4 (by omega) ((cw_ge (by decide)).trans ho) rfl (i := 0) (vp_in_nI (n := 0) (by decide) (by decide)) dL_queued_8 (cw_rest (by decide)) (fun H locs hP hS => ?_)
  refine lv_goto (tgt := 15) hx hb dL_queued_9 (by decide) ?_
  refine lv_iconst (v := 0) hx hb dL_queued_15 (by decide) ?_
  refine W.widen (k := 4) (n := 24) (Nat.le_of_ble_eq_true rfl) (Nat.le_of_ble_eq_true rfl) ?_
  exact W.iret (v := 0) hx hb hr (fun t ht hW => ⟨⟨0, (x, va_up r0 123 (oL g f r4.toInt64)), rfl, Or.inl ⟨rfl, r4, h4, rfl, rfl⟩, PB.mk9 hP ht⟩, hS.F ht⟩) hS.2.2 dL_queued_16

