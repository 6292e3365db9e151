/-! laid by wip/gen -/
set_option maxHeartbeats 4000000 in
set_option maxRecDepth 100000 in
theorem kl_queuedAt (l : Launch) (hst : l.stackTraces = false) (g : gE) (base n : Nat) (L : Nat → Nat) (hn : 125 ≤ n) (x : St) (r0 : Nat → va_E) (nn : Nat) (hnn : nn ≤ 40) (hx1 : x 1 0 0 = nI nn) (hrk : ∀ j, j < 40 → (x 43 0 j).toNatClampNeg < 40) (p0 p1 : Int32) (f : Nat → Int64) (ho : r0 123 = .inl (g.2 4, 1, .inr (.inl f))) : Met l yL_queuedAt wsL_queuedAt ({ frames := 13, cells := 4, slots := 24, locals := 360 }) (va_Pc [.ref (L 0), .int p0, .int p1, .ref (L 123)] (PW SS g base n L (cw g L x r0))) (va_Qi (fun (r : Int32) (u : St × (Nat → va_E)) => (r = 0 ∧ ∃ v : Int32, (fun (r : Int32) (_ : Unit) => (0 ≤ p0.toInt ∧ p0.toInt ≤ 3) ∧ ∃ k, k < nn ∧ (qcP x (x 43 0 k).toNatClampNeg p0 ∧ qrF x p0 k = p1) ∧ r = nI (x 43 0 k).toNatClampNeg ∧ ∀ j, j < k → ¬ (qcP x (x 43 0 j).toNatClampNeg p0 ∧ qrF x p0 j = p1)) v () ∧ u.1 = x ∧ u.2 = va_up r0 123 (oL g f v.toInt64)) ∨ (r = 1 ∧ (fun E => (E = "java/lang/IllegalArgumentException" ∧ (p0.toInt < 0 ∨ 3 < p0.toInt)) ∨ (E = "java/lang/IndexOutOfBoundsException" ∧ (0 ≤ p0.toInt ∧ p0.toInt ≤ 3) ∧ ∀ j, j < nn → ¬ (qcP x (x 43 0 j).toNatClampNeg p0 ∧ qrF x p0 j = p1))) "java/lang/IllegalArgumentException" ∧ u = (x, r0)) ∨ (r = 2 ∧ (fun E => (E = "java/lang/IllegalArgumentException" ∧ (p0.toInt < 0 ∨ 3 < p0.toInt)) ∨ (E = "java/lang/IndexOutOfBoundsException" ∧ (0 ≤ p0.toInt ∧ p0.toInt ≤ 3) ∧ ∀ j, j < nn → ¬ (qcP x (x 43 0 j).toNatClampNeg p0 ∧ qrF x p0 j = p1))) "java/lang/IndexOutOfBoundsException" ∧ u = (x, r0))) (fun (u : St × (Nat → va_E)) t => PB g n L (cw g L u.1 u.2) t) (fun q => base ≤ q)) 4 24 (fun q => base ≤ q) := by
  refine va_MetW (cc := cL_queuedAt) (maxL := 5) (ret := (some .int)) (by decide) rfl ?_
  intro p e s m args below meth c s₁ B hml hv
  obtain ⟨rfl, hPW⟩ := hv
  obtain ⟨hbs, hJ, hP, hK, hE⟩ := id hPW
  have hx := B.exec
  have hb := B.bytes
  have hr := B.returns
  have hts := atoms_spec (ws := wsL_queuedAt) B.pre
  have hown : s.vm.findClass RL = some m.cls := findClass_of_methodNamed B.named
  have hlocks := B.notSynchronized
  have hTB : c.exceptionTable.toList = tableOf [(0, 10, 13, 13), (0, 10, 17, 24)] := vx_table (x := yL_queuedAt) B (hts _ List.mem_cons_self)
  have hS : va_S (fun q : Nat => base ≤ q) s.heap s.heap [] := va_S.rf
  have hl := lv_entry ([.ref (L 0), .int p0, .int p1, .ref (L 123)]) (n := 5) (Nat.le_of_ble_eq_true rfl)
  rw [lg_entry_eq]
  generalize (lg_sl ([.ref (L 0), .int p0, .int p1, .ref (L 123)]) ++ List.replicate (5 - (lg_sl ([.ref (L 0), .int p0, .int p1, .ref (L 123)])).length) Slot.unset).toArray = ls at hl ⊢
  have hl : lv_has ls 5 [(0, .ref (L 0)), (1, .int p0), (2, .int p1), (3, .ref (L 123))] := hl
  refine lv_aload_n hx hb dL_queuedAt_0 rfl (lv_at hl 3 rfl) ?_
  refine lv_iconst (v := 0) hx hb dL_queuedAt_1 (by decide) ?_
  refine lv_aload_n hx hb dL_queuedAt_2 rfl (lv_at hl 0 rfl) ?_
  refine lv_iload_n hx hb dL_queuedAt_3 rfl (lv_at hl 1 rfl) ?_
  refine lv_iload_n hx hb dL_queuedAt_4 rfl (lv_at hl 2 rfl) ?_
  refine wx_xcalli (vx_runV (As := [.int p0, .int p1]) (rest := [.int 0, .ref (L 123)]) ⟨hx, hb, hml, hown, hts⟩ (k_queuedAt l hst g base n L (by omega) x r0 nn hnn hx1 hrk p0 p1) (cwV 2 hts gL_queuedAt_X3_queuedAt rfl rfl rfl (by decide +kernel) ⟨Nat.le_of_ble_eq_true rfl, Nat.le_of_ble_eq_true rfl⟩) (hPW.preV hP hS (ci := 5) rfl (by omega) cw_d) rfl rfl hl.1 rfl (lv_room (Nat.le_of_ble_eq_true rfl)) dL_queuedAt_5 ⟨Nat.le_of_ble_eq_true rfl, Nat.le_of_ble_eq_true rfl⟩) hS (fun E ce q9 H locs hpx hP hS h1 h2 h3 => ?_) (fun r5 u5 H locs h5 hP hS => ?_)
  · have hE9 : E = "java/lang/IllegalArgumentException" ∨ E = "java/lang/IndexOutOfBoundsException" := by rcases id hpx with ⟨rfl, -⟩ | ⟨rfl, -⟩ <;> first | exact Or.inl rfl | exact Or.inr (rfl)
    rcases hE9 with rfl | rfl
    · refine vx_catch (own := RL) (name := "java/lang/IllegalArgumentException") hown [] ⟨0, 10, 13, 13⟩ [⟨0, 10, 17, 24⟩] (hTB.trans rfl) (fun _ h => nomatch h) (by decide) (by decide) (hts (.classLink RL 13 "java/lang/IllegalArgumentException") (by decide +kernel)) (va_Nw.use rfl (hE.1 _ (ng_in (w := .castable "java/lang/IllegalArgumentException" "java/lang/IllegalArgumentException") (by decide +kernel)))) h1 h2 h3 ?_
      refine lv_astore (lv' := [(4, .ref q9), (0, .ref (L 0)), (1, .int p0), (2, .int p1), (3, .ref (L 123))]) hx hb dL_queuedAt_13 hl (by decide) rfl (fun ls hl => ?_)
      refine lv_iconst (v := 1) hx hb dL_queuedAt_15 (by decide) ?_
      refine W.widen (k := 4) (n := 24) (Nat.le_of_ble_eq_true rfl) (Nat.le_of_ble_eq_true rfl) ?_
      exact W.iret (v := 1) hx hb hr (fun t ht hW => ⟨⟨1, (x, r0), rfl, Or.inr (Or.inl ⟨rfl, hpx, rfl⟩), PB.mk9 hP ht⟩, hS.F ht⟩) hS.2.2 dL_queuedAt_16
    · refine vx_catch (own := RL) (name := "java/lang/IndexOutOfBoundsException") hown [⟨0, 10, 13, 13⟩] ⟨0, 10, 17, 24⟩ [] (hTB.trans rfl) (fun z hz => by rcases List.mem_cons.mp hz with rfl | hz; exact Or.inr ⟨by decide, "java/lang/IllegalArgumentException", (hts (.classLink RL 13 "java/lang/IllegalArgumentException") (by decide +kernel)), hE.2.2.2.2 ("java/lang/IndexOutOfBoundsException", "java/lang/IllegalArgumentException") (by decide +kernel)⟩; exact absurd hz List.not_mem_nil) (by decide) (by decide) (va_Nw.use rfl (hE.1 _ (ng_in (w := .classLink RL 24 "java/lang/IndexOutOfBoundsException") (by decide +kernel)))) (va_Nw.use rfl (hE.1 _ (ng_in (w := .castable "java/lang/IndexOutOfBoundsException" "java/lang/IndexOutOfBoundsException") (by decide +kernel)))) h1 h2 h3 ?_
      refine lv_astore (lv' := [(4, .ref q9), (0, .ref (L 0)), (1, .int p0), (2, .int p1), (3, .ref (L 123))]) hx hb dL_queuedAt_17 hl (by decide) rfl (fun ls hl => ?_)
      refine lv_iconst (v := 2) hx hb dL_queuedAt_19 (by decide) ?_
      refine W.widen (k := 4) (n := 24) (Nat.le_of_ble_eq_true rfl) (Nat.le_of_ble_eq_true rfl) ?_
      exact W.iret (v := 2) hx hb hr (fun t ht hW => ⟨⟨2, (x, r0), rfl, Or.inr (Or.inr (⟨rfl, hpx, rfl⟩)), PB.mk9 hP ht⟩, hS.F ht⟩) hS.2.2 dL_queuedAt_20
  refine lv_i2l hx hb dL_queuedAt_8 rfl ?_
  refine wx_last (D := g.1) (cl := vwCl) (f := f) (w' := cw g L x (va_up r0 123 (oL g f r5.toInt64))) hx hb hK hP hJ hS (123) 4 (by omega) ((cw_ge (by decide)).trans ho) rfl (i := 0) (vp_in_nI (n := 0) (by decide) (by decide)) dL_queuedAt_9 (cw_rest (by decide)) (fun H locs hP hS => ?_)
  refine lv_goto (tgt := 21) hx hb dL_queuedAt_10 (by decide) ?_
  refine lv_iconst (v := 0) hx hb dL_queuedAt_21 (by decide) ?_
  refine W.widen (k := 4) (n := 24) (Nat.le_of_ble_eq_true rfl) (Nat.le_of_ble_eq_true rfl) ?_
  exact W.iret (v := 0) hx hb hr (fun t ht hW => ⟨⟨0, (x, va_up r0 123 (oL g f r5.toInt64)), rfl, Or.inl ⟨rfl, r5, h5, rfl, rfl⟩, PB.mk9 hP ht⟩, hS.F ht⟩) hS.2.2 dL_queuedAt_22

set_option maxHeartbeats 4000000 in
set_option maxRecDepth 100000 in
theorem kl_isDue (l : Launch) (hst : l.stackTraces = false) (g : gE) (base n : Nat) (L : Nat → Nat) (hn : 125 ≤ n) (x : St) (r0 : Nat → va_E) (nn : Nat) (hnn : nn ≤ 40) (hx1 : x 1 0 0 = nI nn) (p0 : Int32) (f : Nat → Int64) (ho : r0 123 = .inl (g.2 4, 1, .inr (.inl f))) : Met l yL_isDue wsL_isDue ({ frames := 13, cells := 4, slots := 24, locals := 360 }) (va_Pc [.ref (L 0), .int p0, .ref (L 123)] (PW SS g base n L (cw g L x r0))) (va_Qi (fun (r : Int32) (u : St × (Nat → va_E)) => (r = 0 ∧ ∃ v : Int32, (fun (r : Int32) (_ : Unit) => ∃ j, j < nn ∧ p0 = nI j ∧ ((r = 1 ∧ (x 32 j 0 ≤ x 3 0 0 ∧ x 3 0 0 < x 33 j 0)) ∨ (r = 0 ∧ ¬ ((x 32 j 0 ≤ x 3 0 0 ∧ x 3 0 0 < x 33 j 0))))) v () ∧ u.1 = x ∧ u.2 = va_up r0 123 (oL g f (if v = 0 then 0 else 1))) ∨ (r = 1 ∧ (fun E => E = "java/lang/IndexOutOfBoundsException" ∧ (p0.toInt < 0 ∨ nn ≤ p0.toInt)) "java/lang/IndexOutOfBoundsException" ∧ u = (x, r0))) (fun (u : St × (Nat → va_E)) t => PB g n L (cw g L u.1 u.2) t) (fun q => base ≤ q)) 4 24 (fun q => base ≤ q) := by
  refine va_MetW (cc := cL_isDue) (maxL := 4) (ret := (some .int)) (by decide) rfl ?_
  intro p e s m args below meth c s₁ B hml hv
  obtain ⟨rfl, hPW⟩ := hv
  obtain ⟨hbs, hJ, hP, hK, hE⟩ := id hPW
  have hx := B.exec
  have hb := B.bytes
  have hr := B.returns
  have hts := atoms_spec (ws := wsL_isDue) B.pre
  have hown : s.vm.findClass RL = some m.cls := findClass_of_methodNamed B.named
  have hlocks := B.notSynchronized
  have hTB : c.exceptionTable.toList = tableOf [(0, 16, 19, 24)] := vx_table (x := yL_isDue) B (hts _ List.mem_cons_self)
  have hS : va_S (fun q : Nat => base ≤ q) s.heap s.heap [] := va_S.rf
  have hl := lv_entry ([.ref (L 0), .int p0, .ref (L 123)]) (n := 4) (Nat.le_of_ble_eq_true rfl)
  rw [lg_entry_eq]
  generalize (lg_sl ([.ref (L 0), .int p0, .ref (L 123)]) ++ List.replicate (4 - (lg_sl ([.ref (L 0), .int p0, .ref (L 123)])).length) Slot.unset).toArray = ls at hl ⊢
  have hl : lv_has ls 4 [(0, .ref (L 0)), (1, .int p0), (2, .ref (L 123))] := hl
  refine lv_aload_n hx hb dL_isDue_0 rfl (lv_at hl 2 rfl) ?_
  refine lv_iconst (v := 0) hx hb dL_isDue_1 (by decide) ?_
  refine lv_aload_n hx hb dL_isDue_2 rfl (lv_at hl 0 rfl) ?_
  refine lv_iload_n hx hb dL_isDue_3 rfl (lv_at hl 1 rfl) ?_
  refine wx_xcalli (vx_runV (As := [.int p0]) (rest := [.int 0, .ref (L 123)]) ⟨hx, hb, hml, hown, hts⟩ (k_isDue l hst g base n L (by omega) x r0 nn hnn hx1 p0) (cwV 1 hts gL_isDue_X3_isDue rfl rfl rfl (by decide +kernel) ⟨Nat.le_of_ble_eq_true rfl, Nat.le_of_ble_eq_true rfl⟩) (hPW.preV hP hS (ci := 5) rfl (by omega) cw_d) rfl rfl hl.1 rfl (lv_room (Nat.le_of_ble_eq_true rfl)) dL_isDue_4 ⟨Nat.le_of_ble_eq_true rfl, Nat.le_of_ble_eq_true rfl⟩) hS (fun E ce q9 H locs hpx hP hS h1 h2 h3 => ?_) (fun r4 u4 H locs h4 hP hS => ?_)
  · have hE9 : E = "java/lang/IndexOutOfBoundsException" := by rcases id hpx with ⟨rfl, -⟩ <;> first | exact rfl
    obtain rfl := hE9
    refine vx_catch (own := RL) (name := "java/lang/IndexOutOfBoundsException") hown [] ⟨0, 16, 19, 24⟩ [] (hTB.trans rfl) (fun _ h => nomatch h) (by decide) (by decide) (hts (.classLink RL 24 "java/lang/IndexOutOfBoundsException") (by decide +kernel)) (va_Nw.use rfl (hE.1 _ (ng_in (w := .castable "java/lang/IndexOutOfBoundsException" "java/lang/IndexOutOfBoundsException") (by decide +kernel)))) h1 h2 h3 ?_
    refine lv_astore_n (lv' := [(3, .ref q9), (0, .ref (L 0)), (1, .int p0), (2, .ref (L 123))]) hx hb dL_isDue_19 rfl hl (by decide) rfl (fun ls hl => ?_)
    refine lv_iconst (v := 1) hx hb dL_isDue_20 (by decide) ?_
    refine W.widen (k := 4) (n := 24) (Nat.le_of_ble_eq_true rfl) (Nat.le_of_ble_eq_true rfl) ?_
    exact W.iret (v := 1) hx hb hr (fun t ht hW => ⟨⟨1, (x, r0), rfl, Or.inr (⟨rfl, hpx, rfl⟩), PB.mk9 hP ht⟩, hS.F ht⟩) hS.2.2 dL_isDue_21
  refine lv_if_eq (tgt := 14) hx hb dL_isDue_7 (by decide) (fun c7 => ?_) (fun c7 => ?_)
  · refine lv_lconst (v := 0) hx hb dL_isDue_14 (by decide) ?_
    refine wx_last (D := g.1) (cl := vwCl) (f := f) (w' := cw g L x (va_up r0 123 (oL g f (0 : Int64)))) hx hb hK hP hJ hS (123) 4 (by omega) ((cw_ge (by decide)).trans ho) rfl (i := 0) (vp_in_nI (n := 0) (by decide) (by decide)) dL_isDue_15 (cw_rest (by decide)) (fun H locs hP hS => ?_)
    refine lv_goto (tgt := 22) hx hb dL_isDue_16 (by decide) ?_
    refine lv_iconst (v := 0) hx hb dL_isDue_22 (by decide) ?_
    refine W.widen (k := 4) (n := 24) (Nat.le_of_ble_eq_true rfl) (Nat.le_of_ble_eq_true rfl) ?_
    exact W.iret (v := 0) hx hb hr (fun t ht hW => ⟨⟨0, (x, va_up r0 123 (oL g f (0 : Int64))), rfl, Or.inl ⟨rfl, r4, h4, rfl, by rw [if_pos c7]⟩, PB.mk9 hP ht⟩, hS.F ht⟩) hS.2.2 dL_isDue_23
  · refine lv_lconst (v := 1) hx hb dL_isDue_10 (by decide) ?_
    refine lv_goto (tgt := 15) hx hb dL_isDue_11 (by decide) ?_
    refine wx_last (D := g.1) (cl := vwCl) (f := f) (w' := cw g L x (va_up r0 123 (oL g f (1 : Int64)))) hx hb hK hP hJ hS (123) 4 (by omega) ((cw_ge (by decide)).trans ho) rfl (i := 0) (vp_in_nI (n := 0) (by decide) (by decide)) dL_isDue_15 (cw_rest (by decide)) (fun H locs hP hS => ?_)
    refine lv_goto (tgt := 22) hx hb dL_isDue_16 (by decide) ?_
    refine lv_iconst (v := 0) hx hb dL_isDue_22 (by decide) ?_
    refine W.widen (k := 4) (n := 24) (Nat.le_of_ble_eq_true rfl) (Nat.le_of_ble_eq_true rfl) ?_
    exact W.iret (v := 0) hx hb hr (fun t ht hW => ⟨⟨0, (x, va_up r0 123 (oL g f (1 : Int64))), rfl, Or.inl ⟨rfl, r4, h4, rfl, by rw [if_neg c7]⟩, PB.mk9 hP ht⟩, hS.F ht⟩) hS.2.2 dL_isDue_23

set_option maxHeartbeats 4000000 in
set_option maxRecDepth 100000 in
theorem kl_pass (l : Launch) (hst : l.stackTraces = false) (g : gE) (base n : Nat) (L : Nat → Nat) (hn : 125 ≤ n) (x : St) (r0 : Nat → va_E) (nb : Nat) (hnb : nb ≤ 6) (hx0 : x 0 0 0 = nI nb) (hsh : ∀ b, b < 6 → x 12 b 0 = -1 ∨ ∃ k, k < 40 ∧ x 12 b 0 = nI k) (cnt : Nat) (hcn : cnt ≤ 512) (hx4 : x 4 0 0 = nI cnt) (p0 p1 : Int32) (f : Nat → Int64) (ho : r0 123 = .inl (g.2 4, 1, .inr (.inl f))) : Met l yL_pass wsL_pass ({ frames := 13, cells := 4, slots := 24, locals := 360 }) (va_Pc [.ref (L 0), .int p0, .int p1, .ref (L 123)] (PW SS g base n L (cw g L x r0))) (va_Qi (fun (r : Int32) (u : St × (Nat → va_E)) => (r = 0 ∧ ∃ v : Int32, (fun (r : Int32) (u : St) => ∃ j, j < nb ∧ p0 = nI j ∧ (1 ≤ p1.toInt ∧ p1.toInt ≤ 999) ∧ ((x 12 j 0 = -1 ∧ r = 0 ∧ u = x) ∨ (∃ k, k < 40 ∧ x 12 j 0 = nI k ∧ u = paF x k p0 p1 cnt ∧ r = u 37 k p0.toNatClampNeg))) v u.1 ∧ u.1 = u.1 ∧ u.2 = va_up r0 123 (oL g f v.toInt64)) ∨ (r = 1 ∧ (fun E => (E = "java/lang/IndexOutOfBoundsException" ∧ (p0.toInt < 0 ∨ nb ≤ p0.toInt)) ∨ (E = "java/lang/IllegalArgumentException" ∧ (∃ j, j < nb ∧ p0 = nI j) ∧ ¬ (1 ≤ p1.toInt ∧ p1.toInt ≤ 999))) "java/lang/IndexOutOfBoundsException" ∧ u = (x, r0)) ∨ (r = 2 ∧ (fun E => (E = "java/lang/IndexOutOfBoundsException" ∧ (p0.toInt < 0 ∨ nb ≤ p0.toInt)) ∨ (E = "java/lang/IllegalArgumentException" ∧ (∃ j, j < nb ∧ p0 = nI j) ∧ ¬ (1 ≤ p1.toInt ∧ p1.toInt ≤ 999))) "java/lang/IllegalArgumentException" ∧ u = (x, r0))) (fun (u : St × (Nat → va_E)) t => PB g n L (cw g L u.1 u.2) t) (fun q => base ≤ q)) 4 24 (fun q => base ≤ q) := by
  refine va_MetW (cc := cL_pass) (maxL := 5) (ret := (some .int)) (by decide) rfl ?_
  intro p e s m args below meth c s₁ B hml hv
  obtain ⟨rfl, hPW⟩ := hv
  obtain ⟨hbs, hJ, hP, hK, hE⟩ := id hPW
  have hx := B.exec
  have hb := B.bytes
  have hr := B.returns
  have hts := atoms_spec (ws := wsL_pass) B.pre
  have hown : s.vm.findClass RL = some m.cls := findClass_of_methodNamed B.named
  have hlocks := B.notSynchronized
  have hTB : c.exceptionTable.toList = tableOf [(0, 10, 13, 24), (0, 10, 17, 13)] := vx_table (x := yL_pass) B (hts _ List.mem_cons_self)
  have hS : va_S (fun q : Nat => base ≤ q) s.heap s.heap [] := va_S.rf
  have hl := lv_entry ([.ref (L 0), .int p0, .int p1, .ref (L 123)]) (n := 5) (Nat.le_of_ble_eq_true rfl)
  rw [lg_entry_eq]
  generalize (lg_sl ([.ref (L 0), .int p0, .int p1, .ref (L 123)]) ++ List.replicate (5 - (lg_sl ([.ref (L 0), .int p0, .int p1, .ref (L 123)])).length) Slot.unset).toArray = ls at hl ⊢
  have hl : lv_has ls 5 [(0, .ref (L 0)), (1, .int p0), (2, .int p1), (3, .ref (L 123))] := hl
  refine lv_aload_n hx hb dL_pass_0 rfl (lv_at hl 3 rfl) ?_
  refine lv_iconst (v := 0) hx hb dL_pass_1 (by decide) ?_
  refine lv_aload_n hx hb dL_pass_2 rfl (lv_at hl 0 rfl) ?_
  refine lv_iload_n hx hb dL_pass_3 rfl (lv_at hl 1 rfl) ?_
  refine lv_iload_n hx hb dL_pass_4 rfl (lv_at hl 2 rfl) ?_
  refine wx_xcalli (vx_runV (As := [.int p0, .int p1]) (rest := [.int 0, .ref (L 123)]) ⟨hx, hb, hml, hown, hts⟩ (k_pass l hst g base n L (by omega) x r0 nb hnb hx0 hsh cnt hcn hx4 p0 p1) (cwV 2 hts gL_pass_X3_pass rfl rfl rfl (by decide +kernel) ⟨Nat.le_of_ble_eq_true rfl, Nat.le_of_ble_eq_true rfl⟩) (hPW.preV hP hS (ci := 5) rfl (by omega) cw_d) rfl rfl hl.1 rfl (lv_room (Nat.le_of_ble_eq_true rfl)) dL_pass_5 ⟨Nat.le_of_ble_eq_true rfl, Nat.le_of_ble_eq_true rfl⟩) hS (fun E ce q9 H locs hpx hP hS h1 h2 h3 => ?_) (fun r5 u5 H locs h5 hP hS => ?_)
  · have hE9 : E = "java/lang/IndexOutOfBoundsException" ∨ E = "java/lang/IllegalArgumentException" := by rcases id hpx with ⟨rfl, -⟩ | ⟨rfl, -⟩ <;> first | exact Or.inl rfl | exact Or.inr (rfl)
    rcases hE9 with rfl | rfl
    · refine vx_catch (own := RL) (name := "java/lang/IndexOutOfBoundsException") hown [] ⟨0, 10, 13, 24⟩ [⟨0, 10, 17, 13⟩] (hTB.trans rfl) (fun _ h => nomatch h) (by decide) (by decide) (hts (.classLink RL 24 "java/lang/IndexOutOfBoundsException") (by decide +kernel)) (va_Nw.use rfl (hE.1 _ (ng_in (w := .castable "java/lang/IndexOutOfBoundsException" "java/lang/IndexOutOfBoundsException") (by decide +kernel)))) h1 h2 h3 ?_
      refine lv_astore (lv' := [(4, .ref q9), (0, .ref (L 0)), (1, .int p0), (2, .int p1), (3, .ref (L 123))]) hx hb dL_pass_13 hl (by decide) rfl (fun ls hl => ?_)
      refine lv_iconst (v := 1) hx hb dL_pass_15 (by decide) ?_
      refine W.widen (k := 4) (n := 24) (Nat.le_of_ble_eq_true rfl) (Nat.le_of_ble_eq_true rfl) ?_
      exact W.iret (v := 1) hx hb hr (fun t ht hW => ⟨⟨1, (x, r0), rfl, Or.inr (Or.inl ⟨rfl, hpx, rfl⟩), PB.mk9 hP ht⟩, hS.F ht⟩) hS.2.2 dL_pass_16
    · refine vx_catch (own := RL) (name := "java/lang/IllegalArgumentException") hown [⟨0, 10, 13, 24⟩] ⟨0, 10, 17, 13⟩ [] (hTB.trans rfl) (fun z hz => by rcases List.mem_cons.mp hz with rfl | hz; exact Or.inr ⟨by decide, "java/lang/IndexOutOfBoundsException", (hts (.classLink RL 24 "java/lang/IndexOutOfBoundsException") (by decide +kernel)), hE.2.2.2.2 ("java/lang/IllegalArgumentException", "java/lang/IndexOutOfBoundsException") (by decide +kernel)⟩; exact absurd hz List.not_mem_nil) (by decide) (by decide) (va_Nw.use rfl (hE.1 _ (ng_in (w := .classLink RL 13 "java/lang/IllegalArgumentException") (by decide +kernel)))) (va_Nw.use rfl (hE.1 _ (ng_in (w := .castable "java/lang/IllegalArgumentException" "java/lang/IllegalArgumentException") (by decide +kernel)))) h1 h2 h3 ?_
      refine lv_astore (lv' := [(4, .ref q9), (0, .ref (L 0)), (1, .int p0), (2, .int p1), (3, .ref (L 123))]) hx hb dL_pass_17 hl (by decide) rfl (fun ls hl => ?_)
      refine lv_iconst (v := 2) hx hb dL_pass_19 (by decide) ?_
      refine W.widen (k := 4) (n := 24) (Nat.le_of_ble_eq_true rfl) (Nat.le_of_ble_eq_true rfl) ?_
      exact W.iret (v := 2) hx hb hr (fun t ht hW => ⟨⟨2, (x, r0), rfl, Or.inr (Or.inr (⟨rfl, hpx, rfl⟩)), PB.mk9 hP ht⟩, hS.F ht⟩) hS.2.2 dL_pass_20
  refine lv_i2l hx hb dL_pass_8 rfl ?_
  refine wx_last (D := g.1) (cl := vwCl) (f := f) (w' := cw g L u5 (va_up r0 123 (oL g f r5.toInt64))) hx hb hK hP hJ hS (123) 4 (by omega) ((cw_ge (by decide)).trans ho) rfl (i := 0) (vp_in_nI (n := 0) (by decide) (by decide)) dL_pass_9 (cw_rest (by decide)) (fun H locs hP hS => ?_)
  refine lv_goto (tgt := 21) hx hb dL_pass_10 (by decide) ?_
  refine lv_iconst (v := 0) hx hb dL_pass_21 (by decide) ?_
  refine W.widen (k := 4) (n := 24) (Nat.le_of_ble_eq_true rfl) (Nat.le_of_ble_eq_true rfl) ?_
  exact W.iret (v := 0) hx hb hr (fun t ht hW => ⟨⟨0, (u5, va_up r0 123 (oL g f r5.toInt64)), rfl, Or.inl ⟨rfl, r5, h5, rfl, rfl⟩, PB.mk9 hP ht⟩, hS.F ht⟩) hS.2.2 dL_pass_22

set_option maxHeartbeats 4000000 in
set_option maxRecDepth 100000 in
theorem kl_readers (l : Launch) (hst : l.stackTraces = false) (g : gE) (base n : Nat) (L : Nat → Nat) (hn : 125 ≤ n) (x : St) (r0 : Nat → va_E) (nb : Nat) (hnb : nb ≤ 6) (hx0 : x 0 0 0 = nI nb) (nn : Nat) (hnn : nn ≤ 40) (hx1 : x 1 0 0 = nI nn) (p0 p1 : Int32) (f : Nat → Int64) (ho : r0 123 = .inl (g.2 4, 1, .inr (.inl f))) : Met l yL_readers wsL_readers ({ frames := 13, cells := 4, slots := 24, locals := 360 }) (va_Pc [.ref (L 0), .int p0, .int p1, .ref (L 123)] (PW SS g base n L (cw g L x r0))) (va_Qi (fun (r : Int32) (u : St × (Nat → va_E)) => (r = 0 ∧ ∃ v : Int32, (fun (r : Int32) (_ : Unit) => ∃ j, j < nn ∧ p0 = nI j ∧ (0 ≤ p1.toInt ∧ p1.toInt ≤ 3) ∧ r = riF x j p1 nb) v () ∧ u.1 = x ∧ u.2 = va_up r0 123 (oL g f v.toInt64)) ∨ (r = 1 ∧ (fun E => (E = "java/lang/IndexOutOfBoundsException" ∧ (p0.toInt < 0 ∨ nn ≤ p0.toInt)) ∨ (E = "java/lang/IllegalArgumentException" ∧ (∃ j, j < nn ∧ p0 = nI j) ∧ (p1.toInt < 0 ∨ 3 < p1.toInt))) "java/lang/IndexOutOfBoundsException" ∧ u = (x, r0)) ∨ (r = 2 ∧ (fun E => (E = "java/lang/IndexOutOfBoundsException" ∧ (p0.toInt < 0 ∨ nn ≤ p0.toInt)) ∨ (E = "java/lang/IllegalArgumentException" ∧ (∃ j, j < nn ∧ p0 = nI j) ∧ (p1.toInt < 0 ∨ 3 < p1.toInt))) "java/lang/IllegalArgumentException" ∧ u = (x, r0))) (fun (u : St × (Nat → va_E)) t => PB g n L (cw g L u.1 u.2) t) (fun q => base ≤ q)) 4 24 (fun q => base ≤ q) := by
  refine va_MetW (cc := cL_readers) (maxL := 5) (ret := (some .int)) (by decide) rfl ?_
  intro p e s m args below meth c s₁ B hml hv
  obtain ⟨rfl, hPW⟩ := hv
  obtain ⟨hbs, hJ, hP, hK, hE⟩ := id hPW
  have hx := B.exec
  have hb := B.bytes
  have hr := B.returns
  have hts := atoms_spec (ws := wsL_readers) B.pre
  have hown : s.vm.findClass RL = some m.cls := findClass_of_methodNamed B.named
  have hlocks := B.notSynchronized
  have hTB : c.exceptionTable.toList = tableOf [(0, 10, 13, 24), (0, 10, 17, 13)] := vx_table (x := yL_readers) B (hts _ List.mem_cons_self)
  have hS : va_S (fun q : Nat => base ≤ q) s.heap s.heap [] := va_S.rf
  have hl := lv_entry ([.ref (L 0), .int p0, .int p1, .ref (L 123)]) (n := 5) (Nat.le_of_ble_eq_true rfl)
  rw [lg_entry_eq]
  generalize (lg_sl ([.ref (L 0), .int p0, .int p1, .ref (L 123)]) ++ List.replicate (5 - (lg_sl ([.ref (L 0), .int p0, .int p1, .ref (L 123)])).length) Slot.unset).toArray = ls at hl ⊢
  have hl : lv_has ls 5 [(0, .ref (L 0)), (1, .int p0), (2, .int p1), (3, .ref (L 123))] := hl
  refine lv_aload_n hx hb dL_readers_0 rfl (lv_at hl 3 rfl) ?_
  refine lv_iconst (v := 0) hx hb dL_readers_1 (by decide) ?_
  refine lv_aload_n hx hb dL_readers_2 rfl (lv_at hl 0 rfl) ?_
  refine lv_iload_n hx hb dL_readers_3 rfl (lv_at hl 1 rfl) ?_
  refine lv_iload_n hx hb dL_readers_4 rfl (lv_at hl 2 rfl) ?_
  refine wx_xcalli (vx_runV (As := [.int p0, .int p1]) (rest := [.int 0, .ref (L 123)]) ⟨hx, hb, hml, hown, hts⟩ (k_readers l hst g base n L (by omega) x r0 nb hnb hx0 nn hnn hx1 p0 p1) (cwV 2 hts gL_readers_X3_readers rfl rfl rfl (by decide +kernel) ⟨Nat.le_of_ble_eq_true rfl, Nat.le_of_ble_eq_true rfl⟩) (hPW.preV hP hS (ci := 5) rfl (by omega) cw_d) rfl rfl hl.1 rfl (lv_room (Nat.le_of_ble_eq_true rfl)) dL_readers_5 ⟨Nat.le_of_ble_eq_true rfl, Nat.le_of_ble_eq_true rfl⟩) hS (fun E ce q9 H locs hpx hP hS h1 h2 h3 => ?_) (fun r5 u5 H locs h5 hP hS => ?_)
  · have hE9 : E = "java/lang/IndexOutOfBoundsException" ∨ E = "java/lang/IllegalArgumentException" := by rcases id hpx with ⟨rfl, -⟩ | ⟨rfl, -⟩ <;> first | exact Or.inl rfl | exact Or.inr (rfl)
    rcases hE9 with rfl | rfl
    · refine vx_catch (own := RL) (name := "java/lang/IndexOutOfBoundsException") hown [] ⟨0, 10, 13, 24⟩ [⟨0, 10, 17, 13⟩] (hTB.trans rfl) (fun _ h => nomatch h) (by decide) (by decide) (hts (.classLink RL 24 "java/lang/IndexOutOfBoundsException") (by decide +kernel)) (va_Nw.use rfl (hE.1 _ (ng_in (w := .castable "java/lang/IndexOutOfBoundsException" "java/lang/IndexOutOfBoundsException") (by decide +kernel)))) h1 h2 h3 ?_
      refine lv_astore (lv' := [(4, .ref q9), (0, .ref (L 0)), (1, .int p0), (2, .int p1), (3, .ref (L 123))]) hx hb dL_readers_13 hl (by decide) rfl (fun ls hl => ?_)
      refine lv_iconst (v := 1) hx hb dL_readers_15 (by decide) ?_
      refine W.widen (k := 4) (n := 24) (Nat.le_of_ble_eq_true rfl) (Nat.le_of_ble_eq_true rfl) ?_
      exact W.iret (v := 1) hx hb hr (fun t ht hW => ⟨⟨1, (x, r0), rfl, Or.inr (Or.inl ⟨rfl, hpx, rfl⟩), PB.mk9 hP ht⟩, hS.F ht⟩) hS.2.2 dL_readers_16
    · refine vx_catch (own := RL) (name := "java/lang/IllegalArgumentException") hown [⟨0, 10, 13, 24⟩] ⟨0, 10, 17, 13⟩ [] (hTB.trans rfl) (fun z hz => by rcases List.mem_cons.mp hz with rfl | hz; exact Or.inr ⟨by decide, "java/lang/IndexOutOfBoundsException", (hts (.classLink RL 24 "java/lang/IndexOutOfBoundsException") (by decide +kernel)), hE.2.2.2.2 ("java/lang/IllegalArgumentException", "java/lang/IndexOutOfBoundsException") (by decide +kernel)⟩; exact absurd hz List.not_mem_nil) (by decide) (by decide) (va_Nw.use rfl (hE.1 _ (ng_in (w := .classLink RL 13 "java/lang/IllegalArgumentException") (by decide +kernel)))) (va_Nw.use rfl (hE.1 _ (ng_in (w := .castable "java/lang/IllegalArgumentException" "java/lang/IllegalArgumentException") (by decide +kernel)))) h1 h2 h3 ?_
      refine lv_astore (lv' := [(4, .ref q9), (0, .ref (L 0)), (1, .int p0), (2, .int p1), (3, .ref (L 123))]) hx hb dL_readers_17 hl (by decide) rfl (fun ls hl => ?_)
      refine lv_iconst (v := 2) hx hb dL_readers_19 (by decide) ?_
      refine W.widen (k := 4) (n := 24) (Nat.le_of_ble_eq_true rfl) (Nat.le_of_ble_eq_true rfl) ?_
      exact W.iret (v := 2) hx hb hr (fun t ht hW => ⟨⟨2, (x, r0), rfl, Or.inr (Or.inr (⟨rfl, hpx, rfl⟩)), PB.mk9 hP ht⟩, hS.F ht⟩) hS.2.2 dL_readers_20
  refine lv_i2l hx hb dL_readers_8 rfl ?_
  refine wx_last (D := g.1) (cl := vwCl) (f := f) (w' := cw g L x (va_up r0 123 (oL g f r5.toInt64))) hx hb hK hP hJ hS (123) 4 (by omega) ((cw_ge (by decide)).trans ho) rfl (i := 0) (vp_in_nI (n := 0) (by decide) (by decide)) dL_readers_9 (cw_rest (by decide)) (fun H locs hP hS => ?_)
  refine lv_goto (tgt := 21) hx hb dL_readers_10 (by decide) ?_
  refine lv_iconst (v := 0) hx hb dL_readers_21 (by decide) ?_
  refine W.widen (k := 4) (n := 24) (Nat.le_of_ble_eq_true rfl) (Nat.le_of_ble_eq_true rfl) ?_
  exact W.iret (v := 0) hx hb hr (fun t ht hW => ⟨⟨0, (x, va_up r0 123 (oL g f r5.toInt64)), rfl, Or.inl ⟨rfl, r5, h5, rfl, rfl⟩, PB.mk9 hP ht⟩, hS.F ht⟩) hS.2.2 dL_readers_22

set_option maxHeartbeats 4000000 in
set_option maxRecDepth 100000 in
theorem kl_readIn (l : Launch) (hst : l.stackTraces = false) (g : gE) (base n : Nat) (L : Nat → Nat) (hn : 125 ≤ n) (x : St) (r0 : Nat → va_E) (nn : Nat) (hnn : nn ≤ 40) (hx1 : x 1 0 0 = nI nn) (cnt : Nat) (hcn : cnt ≤ 512) (hx4 : x 4 0 0 = nI cnt) (p0 p1 : Int32) (f : Nat → Int64) (ho : r0 123 = .inl (g.2 4, 1, .inr (.inl f))) : Met l yL_readIn wsL_readIn ({ frames := 13, cells := 4, slots := 24, locals := 360 }) (va_Pc [.ref (L 0), .int p0, .int p1, .ref (L 123)] (PW SS g base n L (cw g L x r0))) (va_Qi (fun (r : Int32) (u : St × (Nat → va_E)) => (r = 0 ∧ ∃ v : Int32, (fun (r : Int32) (_ : Unit) => ∃ j, j < nn ∧ p0 = nI j ∧ r = poF x (nI j) p1 cnt) v () ∧ u.1 = x ∧ u.2 = va_up r0 123 (oL g f v.toInt64)) ∨ (r = 1 ∧ (fun E => E = "java/lang/IndexOutOfBoundsException" ∧ (p0.toInt < 0 ∨ nn ≤ p0.toInt)) "java/lang/IndexOutOfBoundsException" ∧ u = (x, r0))) (fun (u : St × (Nat → va_E)) t => PB g n L (cw g L u.1 u.2) t) (fun q => base ≤ q)) 4 24 (fun q => base ≤ q) := by
  refine va_MetW (cc := cL_readIn) (maxL := 5) (ret := (some .int)) (by decide) rfl ?_
  intro p e s m args below meth c s₁ B hml hv
  obtain ⟨rfl, hPW⟩ := hv
  obtain ⟨hbs, hJ, hP, hK, hE⟩ := id hPW
  have hx := B.exec
  have hb := B.bytes
  have hr := B.returns
  have hts := atoms_spec (ws := wsL_readIn) B.pre
  have hown : s.vm.findClass RL = some m.cls := findClass_of_methodNamed B.named
  have hlocks := B.notSynchronized
  have hTB : c.exceptionTable.toList = tableOf [(0, 10, 13, 24)] := vx_table (x := yL_readIn) B (hts _ List.mem_cons_self)
  have hS : va_S (fun q : Nat => base ≤ q) s.heap s.heap [] := va_S.rf
  have hl := lv_entry ([.ref (L 0), .int p0, .int p1, .ref (L 123)]) (n := 5) (Nat.le_of_ble_eq_true rfl)
  rw [lg_entry_eq]
  generalize (lg_sl ([.ref (L 0), .int p0, .int p1, .ref (L 123)]) ++ List.replicate (5 - (lg_sl ([.ref (L 0), .int p0, .int p1, .ref (L 123)])).length) Slot.unset).toArray = ls at hl ⊢
  have hl : lv_has ls 5 [(0, .ref (L 0)), (1, .int p0), (2, .int p1), (3, .ref (L 123))] := hl
  refine lv_aload_n hx hb dL_readIn_0 rfl (lv_at hl 3 rfl) ?_
  refine lv_iconst (v := 0) hx hb dL_readIn_1 (by decide) ?_
  refine lv_aload_n hx hb dL_readIn_2 rfl (lv_at hl 0 rfl) ?_
  refine lv_iload_n hx hb dL_readIn_3 rfl (lv_at hl 1 rfl) ?_
  refine lv_iload_n hx hb dL_readIn_4 rfl (lv_at hl 2 rfl) ?_
  refine wx_xcalli (vx_runV (As := [.int p0, .int p1]) (rest := [.int 0, .ref (L 123)]) ⟨hx, hb, hml, hown, hts⟩ (k_readIn l hst g base n L (by omega) x r0 nn hnn hx1 cnt hcn hx4 p0 p1) (cwV 2 hts gL_readIn_X3_readIn rfl rfl rfl (by decide +kernel) ⟨Nat.le_of_ble_eq_true rfl, Nat.le_of_ble_eq_true rfl⟩) (hPW.preV hP hS (ci := 5) rfl (by omega) cw_d) rfl rfl hl.1 rfl (lv_room (Nat.le_of_ble_eq_true rfl)) dL_readIn_5 ⟨Nat.le_of_ble_eq_true rfl, Nat.le_of_ble_eq_true rfl⟩) hS (fun E ce q9 H locs hpx hP hS h1 h2 h3 => ?_) (fun r5 u5 H locs h5 hP hS => ?_)
  · have hE9 : E = "java/lang/IndexOutOfBoundsException" := by rcases id hpx with ⟨rfl, -⟩ <;> first | exact rfl
    obtain rfl := hE9
    refine vx_catch (own := RL) (name := "java/lang/IndexOutOfBoundsException") hown [] ⟨0, 10, 13, 24⟩ [] (hTB.trans rfl) (fun _ h => nomatch h) (by decide) (by decide) (hts (.classLink RL 24 "java/lang/IndexOutOfBoundsException") (by decide +kernel)) (va_Nw.use rfl (hE.1 _ (ng_in (w := .castable "java/lang/IndexOutOfBoundsException" "java/lang/IndexOutOfBoundsException") (by decide +kernel)))) h1 h2 h3 ?_
    refine lv_astore (lv' := [(4, .ref q9), (0, .ref (L 0)), (1, .int p0), (2, .int p1), (3, .ref (L 123))]) hx hb dL_readIn_13 hl (by decide) rfl (fun ls hl => ?_)
    refine lv_iconst (v := 1) hx hb dL_readIn_15 (by decide) ?_
    refine W.widen (k := 4) (n := 24) (Nat.le_of_ble_eq_true rfl) (Nat.le_of_ble_eq_true rfl) ?_
    exact W.iret (v := 1) hx hb hr (fun t ht hW => ⟨⟨1, (x, r0), rfl, Or.inr (⟨rfl, hpx, rfl⟩), PB.mk9 hP ht⟩, hS.F ht⟩) hS.2.2 dL_readIn_16
  refine lv_i2l hx hb dL_readIn_8 rfl ?_
  refine wx_last (D := g.1) (cl := vwCl) (f := f) (w' := cw g L x (va_up r0 123 (oL g f r5.toInt64))) hx hb hK hP hJ hS (123) 4 (by omega) ((cw_ge (by decide)).trans ho) rfl (i := 0) (vp_in_nI (n := 0) (by decide) (by decide)) dL_readIn_9 (cw_rest (by decide)) (fun H locs hP hS => ?_)
  refine lv_goto (tgt := 17) hx hb dL_readIn_10 (by decide) ?_
  refine lv_iconst (v := 0) hx hb dL_readIn_17 (by decide) ?_
  refine W.widen (k := 4) (n := 24) (Nat.le_of_ble_eq_true rfl) (Nat.le_of_ble_eq_true rfl) ?_
  exact W.iret (v := 0) hx hb hr (fun t ht hW => ⟨⟨0, (x, va_up r0 123 (oL g f r5.toInt64)), rfl, Or.inl ⟨rfl, r5, h5, rfl, rfl⟩, PB.mk9 hP ht⟩, hS.F ht⟩) hS.2.2 dL_readIn_18

set_option maxHeartbeats 4000000 in
set_option maxRecDepth 100000 in
theorem kl_suspects (l : Launch) (hst : l.stackTraces = false) (g : gE) (base n : Nat) (L : Nat → Nat) (hn : 125 ≤ n) (x : St) (r0 : Nat → va_E) (nb : Nat) (hnb : nb ≤ 6) (hx0 : x 0 0 0 = nI nb) (nn : Nat) (hnn : nn ≤ 40) (hx1 : x 1 0 0 = nI nn) (p0 p1 : Int32) (f : Nat → Int64) (ho : r0 123 = .inl (g.2 4, 1, .inr (.inl f))) : Met l yL_suspects wsL_suspects ({ frames := 13, cells := 4, slots := 24, locals := 360 }) (va_Pc [.ref (L 0), .int p0, .int p1, .ref (L 123)] (PW SS g base n L (cw g L x r0))) (va_Qi (fun (r : Int32) (u : St × (Nat → va_E)) => (r = 0 ∧ ∃ v : Int32, (fun (r : Int32) (_ : Unit) => (0 ≤ p1.toInt ∧ p1.toInt ≤ 3 ∧ p0.toInt ≠ 0) ∧ r = scF x p0 p1 nb nn) v () ∧ u.1 = x ∧ u.2 = va_up r0 123 (oL g f v.toInt64)) ∨ (r = 1 ∧ (fun E => E = "java/lang/IllegalArgumentException" ∧ (p1.toInt < 0 ∨ 3 < p1.toInt ∨ p0.toInt = 0)) "java/lang/IllegalArgumentException" ∧ u = (x, r0))) (fun (u : St × (Nat → va_E)) t => PB g n L (cw g L u.1 u.2) t) (fun q => base ≤ q)) 4 24 (fun q => base ≤ q) := by
  refine va_MetW (cc := cL_suspects) (maxL := 5) (ret := (some .int)) (by decide) rfl ?_
  intro p e s m args below meth c s₁ B hml hv
  obtain ⟨rfl, hPW⟩ := hv
  obtain ⟨hbs, hJ, hP, hK, hE⟩ := id hPW
  have hx := B.exec
  have hb := B.bytes
  have hr := B.returns
  have hts := atoms_spec (ws := wsL_suspects) B.pre
  have hown : s.vm.findClass RL = some m.cls := findClass_of_methodNamed B.named
  have hlocks := B.notSynchronized
  have hTB : c.exceptionTable.toList = tableOf [(0, 10, 13, 13)] := vx_table (x := yL_suspects) B (hts _ List.mem_cons_self)
  have hS : va_S (fun q : Nat => base ≤ q) s.heap s.heap [] := va_S.rf
  have hl := lv_entry ([.ref (L 0), .int p0, .int p1, .ref (L 123)]) (n := 5) (Nat.le_of_ble_eq_true rfl)
  rw [lg_entry_eq]
  generalize (lg_sl ([.ref (L 0), .int p0, .int p1, .ref (L 123)]) ++ List.replicate (5 - (lg_sl ([.ref (L 0), .int p0, .int p1, .ref (L 123)])).length) Slot.unset).toArray = ls at hl ⊢
  have hl : lv_has ls 5 [(0, .ref (L 0)), (1, .int p0), (2, .int p1), (3, .ref (L 123))] := hl
  refine lv_aload_n hx hb dL_suspects_0 rfl (lv_at hl 3 rfl) ?_
  refine lv_iconst (v := 0) hx hb dL_suspects_1 (by decide) ?_
  refine lv_aload_n hx hb dL_suspects_2 rfl (lv_at hl 0 rfl) ?_
  refine lv_iload_n hx hb dL_suspects_3 rfl (lv_at hl 1 rfl) ?_
  refine lv_iload_n hx hb dL_suspects_4 rfl (lv_at hl 2 rfl) ?_
  refine wx_xcalli (vx_runV (As := [.int p0, .int p1]) (rest := [.int 0, .ref (L 123)]) ⟨hx, hb, hml, hown, hts⟩ (k_suspects l hst g base n L (by omega) x r0 nb hnb hx0 nn hnn hx1 p0 p1) (cwV 2 hts gL_suspects_X3_suspects rfl rfl rfl (by decide +kernel) ⟨Nat.le_of_ble_eq_true rfl, Nat.le_of_ble_eq_true rfl⟩) (hPW.preV hP hS (ci := 5) rfl (by omega) cw_d) rfl rfl hl.1 rfl (lv_room (Nat.le_of_ble_eq_true rfl)) dL_suspects_5 ⟨Nat.le_of_ble_eq_true rfl, Nat.le_of_ble_eq_true rfl⟩) hS (fun E ce q9 H locs hpx hP hS h1 h2 h3 => ?_) (fun r5 u5 H locs h5 hP hS => ?_)
  · have hE9 : E = "java/lang/IllegalArgumentException" := by rcases id hpx with ⟨rfl, -⟩ <;> first | exact rfl
    obtain rfl := hE9
    refine vx_catch (own := RL) (name := "java/lang/IllegalArgumentException") hown [] ⟨0, 10, 13, 13⟩ [] (hTB.trans rfl) (fun _ h => nomatch h) (by decide) (by decide) (hts (.classLink RL 13 "java/lang/IllegalArgumentException") (by decide +kernel)) (va_Nw.use rfl (hE.1 _ (ng_in (w := .castable "java/lang/IllegalArgumentException" "java/lang/IllegalArgumentException") (by decide +kernel)))) h1 h2 h3 ?_
    refine lv_astore (lv' := [(4, .ref q9), (0, .ref (L 0)), (1, .int p0), (2, .int p1), (3, .ref (L 123))]) hx hb dL_suspects_13 hl (by decide) rfl (fun ls hl => ?_)
    refine lv_iconst (v := 1) hx hb dL_suspects_15 (by decide) ?_
    refine W.widen (k := 4) (n := 24) (Nat.le_of_ble_eq_true rfl) (Nat.le_of_ble_eq_true rfl) ?_
    exact W.iret (v := 1) hx hb hr (fun t ht hW => ⟨⟨1, (x, r0), rfl, Or.inr (⟨rfl, hpx, rfl⟩), PB.mk9 hP ht⟩, hS.F ht⟩) hS.2.2 dL_suspects_16
  refine lv_i2l hx hb dL_suspects_8 rfl ?_
  refine wx_last (D := g.1) (cl := vwCl) (f := f) (w' := cw g L x (va_up r0 123 (oL g f r5.toInt64))) hx hb hK hP hJ hS (123) 4 (by omega) ((cw_ge (by decide)).trans ho) rfl (i := 0) (vp_in_nI (n := 0) (by decide) (by decide)) dL_suspects_9 (cw_rest (by decide)) (fun H locs hP hS => ?_)
  refine lv_goto (tgt := 17) hx hb dL_suspects_10 (by decide) ?_
  refine lv_iconst (v := 0) hx hb dL_suspects_17 (by decide) ?_
  refine W.widen (k := 4) (n := 24) (Nat.le_of_ble_eq_true rfl) (Nat.le_of_ble_eq_true rfl) ?_
  exact W.iret (v := 0) hx hb hr (fun t ht hW => ⟨⟨0, (x, va_up r0 123 (oL g f r5.toInt64)), rfl, Or.inl ⟨rfl, r5, h5, rfl, rfl⟩, PB.mk9 hP ht⟩, hS.F ht⟩) hS.2.2 dL_suspects_18

set_option maxHeartbeats 4000000 in
set_option maxRecDepth 100000 in
theorem kl_suspectAt (l : Launch) (hst : l.stackTraces = false) (g : gE) (base n : Nat) (L : Nat → Nat) (hn : 125 ≤ n) (x : St) (r0 : Nat → va_E) (nb : Nat) (hnb : nb ≤ 6) (hx0 : x 0 0 0 = nI nb) (nn : Nat) (hnn : nn ≤ 40) (hx1 : x 1 0 0 = nI nn) (p0 p1 p2 : Int32) (f : Nat → Int64) (ho : r0 123 = .inl (g.2 4, 1, .inr (.inl f))) : Met l yL_suspectAt wsL_suspectAt ({ frames := 13, cells := 4, slots := 24, locals := 360 }) (va_Pc [.ref (L 0), .int p0, .int p1, .int p2, .ref (L 123)] (PW SS g base n L (cw g L x r0))) (va_Qi (fun (r : Int32) (u : St × (Nat → va_E)) => (r = 0 ∧ ∃ v : Int32, (fun (r : Int32) (_ : Unit) => (0 ≤ p1.toInt ∧ p1.toInt ≤ 3 ∧ p0.toInt ≠ 0) ∧ ∃ k, k < nn ∧ (suP x k p0 p1 nb ∧ saF x k p0 p1 nb nn = p2) ∧ r = nI k ∧ ∀ j, j < k → ¬ (suP x j p0 p1 nb ∧ saF x j p0 p1 nb nn = p2)) v () ∧ u.1 = x ∧ u.2 = va_up r0 123 (oL g f v.toInt64)) ∨ (r = 1 ∧ (fun E => (E = "java/lang/IllegalArgumentException" ∧ (p1.toInt < 0 ∨ 3 < p1.toInt ∨ p0.toInt = 0)) ∨ (E = "java/lang/IndexOutOfBoundsException" ∧ (0 ≤ p1.toInt ∧ p1.toInt ≤ 3 ∧ p0.toInt ≠ 0) ∧ ∀ j, j < nn → ¬ (suP x j p0 p1 nb ∧ saF x j p0 p1 nb nn = p2))) "java/lang/IllegalArgumentException" ∧ u = (x, r0)) ∨ (r = 2 ∧ (fun E => (E = "java/lang/IllegalArgumentException" ∧ (p1.toInt < 0 ∨ 3 < p1.toInt ∨ p0.toInt = 0)) ∨ (E = "java/lang/IndexOutOfBoundsException" ∧ (0 ≤ p1.toInt ∧ p1.toInt ≤ 3 ∧ p0.toInt ≠ 0) ∧ ∀ j, j < nn → ¬ (suP x j p0 p1 nb ∧ saF x j p0 p1 nb nn = p2))) "java/lang/IndexOutOfBoundsException" ∧ u = (x, r0))) (fun (u : St × (Nat → va_E)) t => PB g n L (cw g L u.1 u.2) t) (fun q => base ≤ q)) 4 24 (fun q => base ≤ q) := by
  refine va_MetW (cc := cL_suspectAt) (maxL := 6) (ret := (some .int)) (by decide) rfl ?_
  intro p e s m args below meth c s₁ B hml hv
  obtain ⟨rfl, hPW⟩ := hv
  obtain ⟨hbs, hJ, hP, hK, hE⟩ := id hPW
  have hx := B.exec
  have hb := B.bytes
  have hr := B.returns
  have hts := atoms_spec (ws := wsL_suspectAt) B.pre
  have hown : s.vm.findClass RL = some m.cls := findClass_of_methodNamed B.named
  have hlocks := B.notSynchronized
  have hTB : c.exceptionTable.toList = tableOf [(0, 12, 15, 13), (0, 12, 19, 24)] := vx_table (x := yL_suspectAt) B (hts _ List.mem_cons_self)
  have hS : va_S (fun q : Nat => base ≤ q) s.heap s.heap [] := va_S.rf
  have hl := lv_entry ([.ref (L 0), .int p0, .int p1, .int p2, .ref (L 123)]) (n := 6) (Nat.le_of_ble_eq_true rfl)
  rw [lg_entry_eq]
  generalize (lg_sl ([.ref (L 0), .int p0, .int p1, .int p2, .ref (L 123)]) ++ List.replicate (6 - (lg_sl ([.ref (L 0), .int p0, .int p1, .int p2, .ref (L 123)])).length) Slot.unset).toArray = ls at hl ⊢
  have hl : lv_has ls 6 [(0, .ref (L 0)), (1, .int p0), (2, .int p1), (3, .int p2), (4, .ref (L 123))] := hl
  refine lv_aload hx hb dL_suspectAt_0 (lv_at hl 4 rfl) ?_
  refine lv_iconst (v := 0) hx hb dL_suspectAt_2 (by decide) ?_
  refine lv_aload_n hx hb dL_suspectAt_3 rfl (lv_at hl 0 rfl) ?_
  refine lv_iload_n hx hb dL_suspectAt_4 rfl (lv_at hl 1 rfl) ?_
  refine lv_iload_n hx hb dL_suspectAt_5 rfl (lv_at hl 2 rfl) ?_
  refine lv_iload_n hx hb dL_suspectAt_6 rfl (lv_at hl 3 rfl) ?_
  refine wx_xcalli (vx_runV (As := [.int p0, .int p1, .int p2]) (rest := [.int 0, .ref (L 123)]) ⟨hx, hb, hml, hown, hts⟩ (k_suspectAt l hst g base n L (by omega) x r0 nb hnb hx0 nn hnn hx1 p0 p1 p2) (cwV 3 hts gL_suspectAt_X3_suspectAt rfl rfl rfl (by decide +kernel) ⟨Nat.le_of_ble_eq_true rfl, Nat.le_of_ble_eq_true rfl⟩) (hPW.preV hP hS (ci := 5) rfl (by omega) cw_d) rfl rfl hl.1 rfl (lv_room (Nat.le_of_ble_eq_true rfl)) dL_suspectAt_7 ⟨Nat.le_of_ble_eq_true rfl, Nat.le_of_ble_eq_true rfl⟩) hS (fun E ce q9 H locs hpx hP hS h1 h2 h3 => ?_) (fun r7 u7 H locs h7 hP hS => ?_)
  · have hE9 : E = "java/lang/IllegalArgumentException" ∨ E = "java/lang/IndexOutOfBoundsException" := by rcases id hpx with ⟨rfl, -⟩ | ⟨rfl, -⟩ <;> first | exact Or.inl rfl | exact Or.inr (rfl)
    rcases hE9 with rfl | rfl
    · refine vx_catch (own := RL) (name := "java/lang/IllegalArgumentException") hown [] ⟨0, 12, 15, 13⟩ [⟨0, 12, 19, 24⟩] (hTB.trans rfl) (fun _ h => nomatch h) (by decide) (by decide) (hts (.classLink RL 13 "java/lang/IllegalArgumentException") (by decide +kernel)) (va_Nw.use rfl (hE.1 _ (ng_in (w := .castable "java/lang/IllegalArgumentException" "java/lang/IllegalArgumentException") (by decide +kernel)))) h1 h2 h3 ?_
      refine lv_astore (lv' := [(5, .ref q9), (0, .ref (L 0)), (1, .int p0), (2, .int p1), (3, .int p2), (4, .ref (L 123))]) hx hb dL_suspectAt_15 hl (by decide) rfl (fun ls hl => ?_)
      refine lv_iconst (v := 1) hx hb dL_suspectAt_17 (by decide) ?_
      refine W.widen (k := 4) (n := 24) (Nat.le_of_ble_eq_true rfl) (Nat.le_of_ble_eq_true rfl) ?_
      exact W.iret (v := 1) hx hb hr (fun t ht hW => ⟨⟨1, (x, r0), rfl, Or.inr (Or.inl ⟨rfl, hpx, rfl⟩), PB.mk9 hP ht⟩, hS.F ht⟩) hS.2.2 dL_suspectAt_18
    · refine vx_catch (own := RL) (name := "java/lang/IndexOutOfBoundsException") hown [⟨0, 12, 15, 13⟩] ⟨0, 12, 19, 24⟩ [] (hTB.trans rfl) (fun z hz => by rcases List.mem_cons.mp hz with rfl | hz; exact Or.inr ⟨by decide, "java/lang/IllegalArgumentException", (hts (.classLink RL 13 "java/lang/IllegalArgumentException") (by decide +kernel)), hE.2.2.2.2 ("java/lang/IndexOutOfBoundsException", "java/lang/IllegalArgumentException") (by decide +kernel)⟩; exact absurd hz List.not_mem_nil) (by decide) (by decide) (va_Nw.use rfl (hE.1 _ (ng_in (w := .classLink RL 24 "java/lang/IndexOutOfBoundsException") (by decide +kernel)))) (va_Nw.use rfl (hE.1 _ (ng_in (w := .castable "java/lang/IndexOutOfBoundsException" "java/lang/IndexOutOfBoundsException") (by decide +kernel)))) h1 h2 h3 ?_
      refine lv_astore (lv' := [(5, .ref q9), (0, .ref (L 0)), (1, .int p0), (2, .int p1), (3, .int p2), (4, .ref (L 123))]) hx hb dL_suspectAt_19 hl (by decide) rfl (fun ls hl => ?_)
      refine lv_iconst (v := 2) hx hb dL_suspectAt_21 (by decide) ?_
      refine W.widen (k := 4) (n := 24) (Nat.le_of_ble_eq_true rfl) (Nat.le_of_ble_eq_true rfl) ?_
      exact W.iret (v := 2) hx hb hr (fun t ht hW => ⟨⟨2, (x, r0), rfl, Or.inr (Or.inr (⟨rfl, hpx, rfl⟩)), PB.mk9 hP ht⟩, hS.F ht⟩) hS.2.2 dL_suspectAt_22
  refine lv_i2l hx hb dL_suspectAt_10 rfl ?_
  refine wx_last (D := g.1) (cl := vwCl) (f := f) (w' := cw g L x (va_up r0 123 (oL g f r7.toInt64))) hx hb hK hP hJ hS (123) 4 (by omega) ((cw_ge (by decide)).trans ho) rfl (i := 0) (vp_in_nI (n := 0) (by decide) (by decide)) dL_suspectAt_11 (cw_rest (by decide)) (fun H locs hP hS => ?_)
  refine lv_goto (tgt := 23) hx hb dL_suspectAt_12 (by decide) ?_
  refine lv_iconst (v := 0) hx hb dL_suspectAt_23 (by decide) ?_
  refine W.widen (k := 4) (n := 24) (Nat.le_of_ble_eq_true rfl) (Nat.le_of_ble_eq_true rfl) ?_
  exact W.iret (v := 0) hx hb hr (fun t ht hW => ⟨⟨0, (x, va_up r0 123 (oL g f r7.toInt64)), rfl, Or.inl ⟨rfl, r7, h7, rfl, rfl⟩, PB.mk9 hP ht⟩, hS.F ht⟩) hS.2.2 dL_suspectAt_24

set_option maxHeartbeats 4000000 in
set_option maxRecDepth 100000 in
theorem kl_go (l : Launch) (hst : l.stackTraces = false) (g : gE) (base n : Nat) (L : Nat → Nat) (hn : 125 ≤ n) (x : St) (r0 : Nat → va_E) (nb nn : Nat) (hG : GI x nb nn) (p0 : Int32) (f : Nat → Int64) (ho : r0 123 = .inl (g.2 4, 1, .inr (.inl f))) : Met l yL_go wsL_go ({ frames := 13, cells := 4, slots := 24, locals := 360 }) (va_Pc [.ref (L 0), .int p0, .ref (L 123)] (PW SS g base n L (cw g L x r0))) (va_Qi (fun (r : Int32) (u : St × (Nat → va_E)) => (r = 0 ∧ ∃ v : Int32, (fun (r : Int32) (u : St) => (1 ≤ p0.toInt ∧ p0.toInt ≤ 48) ∧ x 3 0 0 + p0 ≤ 2000 ∧ ∃ N, N ≤ 48 ∧ p0 = nI N ∧ u = goF x nb nn N ∧ r = u 3 0 0) v u.1 ∧ u.1 = u.1 ∧ u.2 = va_up r0 123 (oL g f v.toInt64)) ∨ (r = 1 ∧ (fun E => (E = "java/lang/IllegalArgumentException" ∧ ¬ (1 ≤ p0.toInt ∧ p0.toInt ≤ 48)) ∨ (E = "java/lang/IllegalStateException" ∧ (1 ≤ p0.toInt ∧ p0.toInt ≤ 48) ∧ ¬ x 3 0 0 + p0 ≤ 2000)) "java/lang/IllegalArgumentException" ∧ u = (x, r0)) ∨ (r = 2 ∧ (fun E => (E = "java/lang/IllegalArgumentException" ∧ ¬ (1 ≤ p0.toInt ∧ p0.toInt ≤ 48)) ∨ (E = "java/lang/IllegalStateException" ∧ (1 ≤ p0.toInt ∧ p0.toInt ≤ 48) ∧ ¬ x 3 0 0 + p0 ≤ 2000)) "java/lang/IllegalStateException" ∧ u = (x, r0))) (fun (u : St × (Nat → va_E)) t => PB g n L (cw g L u.1 u.2) t) (fun q => base ≤ q)) 4 24 (fun q => base ≤ q) := by
  refine va_MetW (cc := cL_go) (maxL := 4) (ret := (some .int)) (by decide) rfl ?_
  intro p e s m args below meth c s₁ B hml hv
  obtain ⟨rfl, hPW⟩ := hv
  obtain ⟨hbs, hJ, hP, hK, hE⟩ := id hPW
  have hx := B.exec
  have hb := B.bytes
  have hr := B.returns
  have hts := atoms_spec (ws := wsL_go) B.pre
  have hown : s.vm.findClass RL = some m.cls := findClass_of_methodNamed B.named
  have hlocks := B.notSynchronized
  have hTB : c.exceptionTable.toList = tableOf [(0, 9, 12, 13), (0, 9, 15, 15)] := vx_table (x := yL_go) B (hts _ List.mem_cons_self)
  have hS : va_S (fun q : Nat => base ≤ q) s.heap s.heap [] := va_S.rf
  have hl := lv_entry ([.ref (L 0), .int p0, .ref (L 123)]) (n := 4) (Nat.le_of_ble_eq_true rfl)
  rw [lg_entry_eq]
  generalize (lg_sl ([.ref (L 0), .int p0, .ref (L 123)]) ++ List.replicate (4 - (lg_sl ([.ref (L 0), .int p0, .ref (L 123)])).length) Slot.unset).toArray = ls at hl ⊢
  have hl : lv_has ls 4 [(0, .ref (L 0)), (1, .int p0), (2, .ref (L 123))] := hl
  refine lv_aload_n hx hb dL_go_0 rfl (lv_at hl 2 rfl) ?_
  refine lv_iconst (v := 0) hx hb dL_go_1 (by decide) ?_
  refine lv_aload_n hx hb dL_go_2 rfl (lv_at hl 0 rfl) ?_
  refine lv_iload_n hx hb dL_go_3 rfl (lv_at hl 1 rfl) ?_
  refine wx_xcalli (vx_runV (As := [.int p0]) (rest := [.int 0, .ref (L 123)]) ⟨hx, hb, hml, hown, hts⟩ (k_go l hst g base n L (by omega) x r0 nb nn hG p0) (cwV 1 hts gL_go_X3_go rfl rfl rfl (by decide +kernel) ⟨Nat.le_of_ble_eq_true rfl, Nat.le_of_ble_eq_true rfl⟩) (hPW.preV hP hS (ci := 5) rfl (by omega) cw_d) rfl rfl hl.1 rfl (lv_room (Nat.le_of_ble_eq_true rfl)) dL_go_4 ⟨Nat.le_of_ble_eq_true rfl, Nat.le_of_ble_eq_true rfl⟩) hS (fun E ce q9 H locs hpx hP hS h1 h2 h3 => ?_) (fun r4 u4 H locs h4 hP hS => ?_)
  · have hE9 : E = "java/lang/IllegalArgumentException" ∨ E = "java/lang/IllegalStateException" := by rcases id hpx with ⟨rfl, -⟩ | ⟨rfl, -⟩ <;> first | exact Or.inl rfl | exact Or.inr (rfl)
    rcases hE9 with rfl | rfl
    · refine vx_catch (own := RL) (name := "java/lang/IllegalArgumentException") hown [] ⟨0, 9, 12, 13⟩ [⟨0, 9, 15, 15⟩] (hTB.trans rfl) (fun _ h => nomatch h) (by decide) (by decide) (hts (.classLink RL 13 "java/lang/IllegalArgumentException") (by decide +kernel)) (va_Nw.use rfl (hE.1 _ (ng_in (w := .castable "java/lang/IllegalArgumentException" "java/lang/IllegalArgumentException") (by decide +kernel)))) h1 h2 h3 ?_
      refine lv_astore_n (lv' := [(3, .ref q9), (0, .ref (L 0)), (1, .int p0), (2, .ref (L 123))]) hx hb dL_go_12 rfl hl (by decide) rfl (fun ls hl => ?_)
      refine lv_iconst (v := 1) hx hb dL_go_13 (by decide) ?_
      refine W.widen (k := 4) (n := 24) (Nat.le_of_ble_eq_true rfl) (Nat.le_of_ble_eq_true rfl) ?_
      exact W.iret (v := 1) hx hb hr (fun t ht hW => ⟨⟨1, (x, r0), rfl, Or.inr (Or.inl ⟨rfl, hpx, rfl⟩), PB.mk9 hP ht⟩, hS.F ht⟩) hS.2.2 dL_go_14
    · refine vx_catch (own := RL) (name := "java/lang/IllegalStateException") hown [⟨0, 9, 12, 13⟩] ⟨0, 9, 15, 15⟩ [] (hTB.trans rfl) (fun z hz => by rcases List.mem_cons.mp hz with rfl | hz; exact Or.inr ⟨by decide, "java/lang/IllegalArgumentException", (hts (.classLink RL 13 "java/lang/IllegalArgumentException") (by decide +kernel)), hE.2.2.2.2 ("java/lang/IllegalStateException", "java/lang/IllegalArgumentException") (by decide +kernel)⟩; exact absurd hz List.not_mem_nil) (by decide) (by decide) (va_Nw.use rfl (hE.1 _ (ng_in (w := .classLink RL 15 "java/lang/IllegalStateException") (by decide +kernel)))) (va_Nw.use rfl (hE.1 _ (ng_in (w := .castable "java/lang/IllegalStateException" "java/lang/IllegalStateException") (by decide +kernel)))) h1 h2 h3 ?_
      refine lv_astore_n (lv' := [(3, .ref q9), (0, .ref (L 0)), (1, .int p0), (2, .ref (L 123))]) hx hb dL_go_15 rfl hl (by decide) rfl (fun ls hl => ?_)
      refine lv_iconst (v := 2) hx hb dL_go_16 (by decide) ?_
      refine W.widen (k := 4) (n := 24) (Nat.le_of_ble_eq_true rfl) (Nat.le_of_ble_eq_true rfl) ?_
      exact W.iret (v := 2) hx hb hr (fun t ht hW => ⟨⟨2, (x, r0), rfl, Or.inr (Or.inr (⟨rfl, hpx, rfl⟩)), PB.mk9 hP ht⟩, hS.F ht⟩) hS.2.2 dL_go_17
  refine lv_i2l hx hb dL_go_7 rfl ?_
  refine wx_last (D := g.1) (cl := vwCl) (f := f) (w' := cw g L u4 (va_up r0 123 (oL g f r4.toInt64))) hx hb hK hP hJ hS (123) 4 (by omega) ((cw_ge (by decide)).trans ho) rfl (i := 0) (vp_in_nI (n := 0) (by decide) (by decide)) dL_go_8 (cw_rest (by decide)) (fun H locs hP hS => ?_)
  refine lv_goto (tgt := 18) hx hb dL_go_9 (by decide) ?_
  refine lv_iconst (v := 0) hx hb dL_go_18 (by decide) ?_
  refine W.widen (k := 4) (n := 24) (Nat.le_of_ble_eq_true rfl) (Nat.le_of_ble_eq_true rfl) ?_
  exact W.iret (v := 0) hx hb hr (fun t ht hW => ⟨⟨0, (u4, va_up r0 123 (oL g f r4.toInt64)), rfl, Or.inl ⟨rfl, r4, h4, rfl, rfl⟩, PB.mk9 hP ht⟩, hS.F ht⟩) hS.2.2 dL_go_19

set_option maxHeartbeats 4000000 in
set_option maxRecDepth 100000 in
theorem kl_cellAnew (l : Launch) (hst : l.stackTraces = false) (g : gE) (base n : Nat) (L : Nat → Nat) (hn : 125 ≤ n) (x : St) (r0 : Nat → va_E) (nb : Nat) (hnb : nb ≤ 6) (hx0 : x 0 0 0 = nI nb) (tcs : Nat → Nat) (htc : ∀ b, b < 6 → tcs b ≤ 1920) (hx19 : ∀ b, b < 6 → x 19 b 0 = nI (tcs b)) (p0 p1 p2 : Int32) (f : Nat → Int64) (ho : r0 123 = .inl (g.2 4, 1, .inr (.inl f))) : Met l yL_cellAnew wsL_cellAnew ({ frames := 13, cells := 4, slots := 24, locals := 360 }) (va_Pc [.ref (L 0), .int p0, .int p1, .int p2, .ref (L 123)] (PW SS g base n L (cw g L x r0))) (va_Qi (fun (r : Int32) (u : St × (Nat → va_E)) => (r = 0 ∧ ∃ v : Int32, (fun (r : Int32) (_ : Unit) => ∃ j, j < nb ∧ p0 = nI j ∧ (0 ≤ p1.toInt ∧ p1.toInt < 8 ∧ 0 ≤ p2.toInt ∧ p2.toInt < 4) ∧ r = bitF (xorF x j (tcs j)) (8 * p2 + p1)) v () ∧ u.1 = x ∧ u.2 = va_up r0 123 (oL g f v.toInt64)) ∨ (r = 1 ∧ (fun E => E = "java/lang/IndexOutOfBoundsException" ∧ ((p0.toInt < 0 ∨ nb ≤ p0.toInt) ∨ ¬ (0 ≤ p1.toInt ∧ p1.toInt < 8 ∧ 0 ≤ p2.toInt ∧ p2.toInt < 4))) "java/lang/IndexOutOfBoundsException" ∧ u = (x, r0))) (fun (u : St × (Nat → va_E)) t => PB g n L (cw g L u.1 u.2) t) (fun q => base ≤ q)) 4 24 (fun q => base ≤ q) := by
  refine va_MetW (cc := cL_cellAnew) (maxL := 6) (ret := (some .int)) (by decide) rfl ?_
  intro p e s m args below meth c s₁ B hml hv
  obtain ⟨rfl, hPW⟩ := hv
  obtain ⟨hbs, hJ, hP, hK, hE⟩ := id hPW
  have hx := B.exec
  have hb := B.bytes
  have hr := B.returns
  have hts := atoms_spec (ws := wsL_cellAnew) B.pre
  have hown : s.vm.findClass RL = some m.cls := findClass_of_methodNamed B.named
  have hlocks := B.notSynchronized
  have hTB : c.exceptionTable.toList = tableOf [(0, 12, 15, 24)] := vx_table (x := yL_cellAnew) B (hts _ List.mem_cons_self)
  have hS : va_S (fun q : Nat => base ≤ q) s.heap s.heap [] := va_S.rf
  have hl := lv_entry ([.ref (L 0), .int p0, .int p1, .int p2, .ref (L 123)]) (n := 6) (Nat.le_of_ble_eq_true rfl)
  rw [lg_entry_eq]
  generalize (lg_sl ([.ref (L 0), .int p0, .int p1, .int p2, .ref (L 123)]) ++ List.replicate (6 - (lg_sl ([.ref (L 0), .int p0, .int p1, .int p2, .ref (L 123)])).length) Slot.unset).toArray = ls at hl ⊢
  have hl : lv_has ls 6 [(0, .ref (L 0)), (1, .int p0), (2, .int p1), (3, .int p2), (4, .ref (L 123))] := hl
  refine lv_aload hx hb dL_cellAnew_0 (lv_at hl 4 rfl) ?_
  refine lv_iconst (v := 0) hx hb dL_cellAnew_2 (by decide) ?_
  refine lv_aload_n hx hb dL_cellAnew_3 rfl (lv_at hl 0 rfl) ?_
  refine lv_iload_n hx hb dL_cellAnew_4 rfl (lv_at hl 1 rfl) ?_
  refine lv_iload_n hx hb dL_cellAnew_5 rfl (lv_at hl 2 rfl) ?_
  refine lv_iload_n hx hb dL_cellAnew_6 rfl (lv_at hl 3 rfl) ?_
  refine wx_xcalli (vx_runV (As := [.int p0, .int p1, .int p2]) (rest := [.int 0, .ref (L 123)]) ⟨hx, hb, hml, hown, hts⟩ (k_cellAnew l hst g base n L (by omega) x r0 nb hnb hx0 tcs htc hx19 p0 p1 p2) (cwV 3 hts gL_cellAnew_X3_cellAnew rfl rfl rfl (by decide +kernel) ⟨Nat.le_of_ble_eq_true rfl, Nat.le_of_ble_eq_true rfl⟩) (hPW.preV hP hS (ci := 5) rfl (by omega) cw_d) rfl rfl hl.1 rfl (lv_room (Nat.le_of_ble_eq_true rfl)) dL_cellAnew_7 ⟨Nat.le_of_ble_eq_true rfl, Nat.le_of_ble_eq_true rfl⟩) hS (fun E ce q9 H locs hpx hP hS h1 h2 h3 => ?_) (fun r7 u7 H locs h7 hP hS => ?_)
  · have hE9 : E = "java/lang/IndexOutOfBoundsException" := by rcases id hpx with ⟨rfl, -⟩ <;> first | exact rfl
    obtain rfl := hE9
    refine vx_catch (own := RL) (name := "java/lang/IndexOutOfBoundsException") hown [] ⟨0, 12, 15, 24⟩ [] (hTB.trans rfl) (fun _ h => nomatch h) (by decide) (by decide) (hts (.classLink RL 24 "java/lang/IndexOutOfBoundsException") (by decide +kernel)) (va_Nw.use rfl (hE.1 _ (ng_in (w := .castable "java/lang/IndexOutOfBoundsException" "java/lang/IndexOutOfBoundsException") (by decide +kernel)))) h1 h2 h3 ?_
    refine lv_astore (lv' := [(5, .ref q9), (0, .ref (L 0)), (1, .int p0), (2, .int p1), (3, .int p2), (4, .ref (L 123))]) hx hb dL_cellAnew_15 hl (by decide) rfl (fun ls hl => ?_)
    refine lv_iconst (v := 1) hx hb dL_cellAnew_17 (by decide) ?_
    refine W.widen (k := 4) (n := 24) (Nat.le_of_ble_eq_true rfl) (Nat.le_of_ble_eq_true rfl) ?_
    exact W.iret (v := 1) hx hb hr (fun t ht hW => ⟨⟨1, (x, r0), rfl, Or.inr (⟨rfl, hpx, rfl⟩), PB.mk9 hP ht⟩, hS.F ht⟩) hS.2.2 dL_cellAnew_18
  refine lv_i2l hx hb dL_cellAnew_10 rfl ?_
  refine wx_last (D := g.1) (cl := vwCl) (f := f) (w' := cw g L x (va_up r0 123 (oL g f r7.toInt64))) hx hb hK hP hJ hS (123) 4 (by omega) ((cw_ge (by decide)).trans ho) rfl (i := 0) (vp_in_nI (n := 0) (by decide) (by decide)) dL_cellAnew_11 (cw_rest (by decide)) (fun H locs hP hS => ?_)
  refine lv_goto (tgt := 19) hx hb dL_cellAnew_12 (by decide) ?_
  refine lv_iconst (v := 0) hx hb dL_cellAnew_19 (by decide) ?_
  refine W.widen (k := 4) (n := 24) (Nat.le_of_ble_eq_true rfl) (Nat.le_of_ble_eq_true rfl) ?_
  exact W.iret (v := 0) hx hb hr (fun t ht hW => ⟨⟨0, (x, va_up r0 123 (oL g f r7.toInt64)), rfl, Or.inl ⟨rfl, r7, h7, rfl, rfl⟩, PB.mk9 hP ht⟩, hS.F ht⟩) hS.2.2 dL_cellAnew_20

set_option maxHeartbeats 4000000 in
set_option maxRecDepth 100000 in
theorem kl_worst (l : Launch) (hst : l.stackTraces = false) (g : gE) (base n : Nat) (L : Nat → Nat) (hn : 125 ≤ n) (x : St) (r0 : Nat → va_E) (nb : Nat) (hnb : nb ≤ 6) (hx0 : x 0 0 0 = nI nb) (p0 : Int32) (f : Nat → Int64) (ho : r0 123 = .inl (g.2 4, 1, .inr (.inl f))) : Met l yL_worst wsL_worst ({ frames := 13, cells := 4, slots := 24, locals := 360 }) (va_Pc [.ref (L 0), .int p0, .ref (L 123)] (PW SS g base n L (cw g L x r0))) (va_Qi (fun (r : Int32) (u : St × (Nat → va_E)) => (r = 0 ∧ ∃ v : Int32, (fun (r : Int32) (_ : Unit) => ∃ j, j < nb ∧ p0 = nI j ∧ r = x 16 j 0) v () ∧ u.1 = x ∧ u.2 = va_up r0 123 (oL g f v.toInt64)) ∨ (r = 1 ∧ (fun E => E = "java/lang/IndexOutOfBoundsException" ∧ (p0.toInt < 0 ∨ nb ≤ p0.toInt)) "java/lang/IndexOutOfBoundsException" ∧ u = (x, r0))) (fun (u : St × (Nat → va_E)) t => PB g n L (cw g L u.1 u.2) t) (fun q => base ≤ q)) 4 24 (fun q => base ≤ q) := by
  refine va_MetW (cc := cL_worst) (maxL := 4) (ret := (some .int)) (by decide) rfl ?_
  intro p e s m args below meth c s₁ B hml hv
  obtain ⟨rfl, hPW⟩ := hv
  obtain ⟨hbs, hJ, hP, hK, hE⟩ := id hPW
  have hx := B.exec
  have hb := B.bytes
  have hr := B.returns
  have hts := atoms_spec (ws := wsL_worst) B.pre
  have hown : s.vm.findClass RL = some m.cls := findClass_of_methodNamed B.named
  have hlocks := B.notSynchronized
  have hTB : c.exceptionTable.toList = tableOf [(0, 9, 12, 24)] := vx_table (x := yL_worst) B (hts _ List.mem_cons_self)
  have hS : va_S (fun q : Nat => base ≤ q) s.heap s.heap [] := va_S.rf
  have hl := lv_entry ([.ref (L 0), .int p0, .ref (L 123)]) (n := 4) (Nat.le_of_ble_eq_true rfl)
  rw [lg_entry_eq]
  generalize (lg_sl ([.ref (L 0), .int p0, .ref (L 123)]) ++ List.replicate (4 - (lg_sl ([.ref (L 0), .int p0, .ref (L 123)])).length) Slot.unset).toArray = ls at hl ⊢
  have hl : lv_has ls 4 [(0, .ref (L 0)), (1, .int p0), (2, .ref (L 123))] := hl
  refine lv_aload_n hx hb dL_worst_0 rfl (lv_at hl 2 rfl) ?_
  refine lv_iconst (v := 0) hx hb dL_worst_1 (by decide) ?_
  refine lv_aload_n hx hb dL_worst_2 rfl (lv_at hl 0 rfl) ?_
  refine lv_iload_n hx hb dL_worst_3 rfl (lv_at hl 1 rfl) ?_
  refine wx_xcalli (vx_runV (As := [.int p0]) (rest := [.int 0, .ref (L 123)]) ⟨hx, hb, hml, hown, hts⟩ (k_worst l hst g base n L (by omega) x r0 nb hnb hx0 p0) (cwV 1 hts gL_worst_X3_worst rfl rfl rfl (by decide +kernel) ⟨Nat.le_of_ble_eq_true rfl, Nat.le_of_ble_eq_true rfl⟩) (hPW.preV hP hS (ci := 5) rfl (by omega) cw_d) rfl rfl hl.1 rfl (lv_room (Nat.le_of_ble_eq_true rfl)) dL_worst_4 ⟨Nat.le_of_ble_eq_true rfl, Nat.le_of_ble_eq_true rfl⟩) hS (fun E ce q9 H locs hpx hP hS h1 h2 h3 => ?_) (fun r4 u4 H locs h4 hP hS => ?_)
  · have hE9 : E = "java/lang/IndexOutOfBoundsException" := by rcases id hpx with ⟨rfl, -⟩ <;> first | exact rfl
    obtain rfl := hE9
    refine vx_catch (own := RL) (name := "java/lang/IndexOutOfBoundsException") hown [] ⟨0, 9, 12, 24⟩ [] (hTB.trans rfl) (fun _ h => nomatch h) (by decide) (by decide) (hts (.classLink RL 24 "java/lang/IndexOutOfBoundsException") (by decide +kernel)) (va_Nw.use rfl (hE.1 _ (ng_in (w := .castable "java/lang/IndexOutOfBoundsException" "java/lang/IndexOutOfBoundsException") (by decide +kernel)))) h1 h2 h3 ?_
    refine lv_astore_n (lv' := [(3, .ref q9), (0, .ref (L 0)), (1, .int p0), (2, .ref (L 123))]) hx hb dL_worst_12 rfl hl (by decide) rfl (fun ls hl => ?_)
    refine lv_iconst (v := 1) hx hb dL_worst_13 (by decide) ?_
    refine W.widen (k := 4) (n := 24) (Nat.le_of_ble_eq_true rfl) (Nat.le_of_ble_eq_true rfl) ?_
    exact W.iret (v := 1) hx hb hr (fun t ht hW => ⟨⟨1, (x, r0), rfl, Or.inr (⟨rfl, hpx, rfl⟩), PB.mk9 hP ht⟩, hS.F ht⟩) hS.2.2 dL_worst_14
  refine lv_i2l hx hb dL_worst_7 rfl ?_
  refine wx_last (D := g.1) (cl := vwCl) (f := f) (w' := cw g L x (va_up r0 123 (oL g f r4.toInt64))) hx hb hK hP hJ hS (123) 4 (by omega) ((cw_ge (by decide)).trans ho) rfl (i := 0) (vp_in_nI (n := 0) (by decide) (by decide)) dL_worst_8 (cw_rest (by decide)) (fun H locs hP hS => ?_)
  refine lv_goto (tgt := 15) hx hb dL_worst_9 (by decide) ?_
  refine lv_iconst (v := 0) hx hb dL_worst_15 (by decide) ?_
  refine W.widen (k := 4) (n := 24) (Nat.le_of_ble_eq_true rfl) (Nat.le_of_ble_eq_true rfl) ?_
  exact W.iret (v := 0) hx hb hr (fun t ht hW => ⟨⟨0, (x, va_up r0 123 (oL g f r4.toInt64)), rfl, Or.inl ⟨rfl, r4, h4, rfl, rfl⟩, PB.mk9 hP ht⟩, hS.F ht⟩) hS.2.2 dL_worst_16

set_option maxHeartbeats 4000000 in
set_option maxRecDepth 100000 in
theorem kl_shownShare (l : Launch) (hst : l.stackTraces = false) (g : gE) (base n : Nat) (L : Nat → Nat) (hn : 125 ≤ n) (x : St) (r0 : Nat → va_E) (nb : Nat) (hnb : nb ≤ 6) (hx0 : x 0 0 0 = nI nb) (hsh : ∀ b, b < 6 → x 12 b 0 = -1 ∨ ∃ k, k < 40 ∧ x 12 b 0 = nI k) (hfn : nb ≠ 0 → vf_n32 (FP.fdiv (FP.i2f (ssF x nb)) (FP.i2f (x 0 0 0)))) (hfd : nb ≠ 0 → vf_n64 (FP.f2d (FP.fdiv (FP.i2f (ssF x nb)) (FP.i2f (x 0 0 0))))) (f : Nat → UInt64) (ho : r0 124 = .inl (g.2 5, 1, .inr (.inr (.inr (.inl f))))) : Met l yL_shownShare wsL_shownShare ({ frames := 13, cells := 4, slots := 24, locals := 360 }) (va_Pc [.ref (L 0), .ref (L 124)] (PW SS g base n L (cw g L x r0))) (va_Qi (fun (r : Int32) (u : St × (Nat → va_E)) => (r = 0 ∧ ∃ v : UInt32, (fun (r : UInt32) (_ : Unit) => nb ≠ 0 ∧ r = FP.fdiv (FP.i2f (ssF x nb)) (FP.i2f (x 0 0 0))) v () ∧ u.1 = x ∧ u.2 = va_up r0 124 (oD g f (FP.f2d v))) ∨ (r = 1 ∧ (fun E => E = "java/lang/ArithmeticException" ∧ nb = 0) "java/lang/ArithmeticException" ∧ u = (x, r0))) (fun (u : St × (Nat → va_E)) t => PB g n L (cw g L u.1 u.2) t) (fun q => base ≤ q)) 4 24 (fun q => base ≤ q) := by
  refine va_MetW (cc := cL_shownShare) (maxL := 3) (ret := (some .int)) (by decide) rfl ?_
  intro p e s m args below meth c s₁ B hml hv
  obtain ⟨rfl, hPW⟩ := hv
  obtain ⟨hbs, hJ, hP, hK, hE⟩ := id hPW
  have hx := B.exec
  have hb := B.bytes
  have hr := B.returns
  have hts := atoms_spec (ws := wsL_shownShare) B.pre
  have hown : s.vm.findClass RL = some m.cls := findClass_of_methodNamed B.named
  have hlocks := B.notSynchronized
  have hTB : c.exceptionTable.toList = tableOf [(0, 8, 11, 99)] := vx_table (x := yL_shownShare) B (hts _ List.mem_cons_self)
  have hS : va_S (fun q : Nat => base ≤ q) s.heap s.heap [] := va_S.rf
  have hl := lv_entry ([.ref (L 0), .ref (L 124)]) (n := 3) (Nat.le_of_ble_eq_true rfl)
  rw [lg_entry_eq]
  generalize (lg_sl ([.ref (L 0), .ref (L 124)]) ++ List.replicate (3 - (lg_sl ([.ref (L 0), .ref (L 124)])).length) Slot.unset).toArray = ls at hl ⊢
  have hl : lv_has ls 3 [(0, .ref (L 0)), (1, .ref (L 124))] := hl
  refine lv_aload_n hx hb dL_shownShare_0 rfl (lv_at hl 1 rfl) ?_
  refine lv_iconst (v := 0) hx hb dL_shownShare_1 (by decide) ?_
  refine lv_aload_n hx hb dL_shownShare_2 rfl (lv_at hl 0 rfl) ?_
  refine wx_xcallf (vx_runV (As := []) (rest := [.int 0, .ref (L 124)]) ⟨hx, hb, hml, hown, hts⟩ (k_shownShare l hst g base n L (by omega) x r0 nb hnb hx0 hsh hfn) (cwV 0 hts gL_shownShare_X3_shownShare rfl rfl rfl (by decide +kernel) ⟨Nat.le_of_ble_eq_true rfl, Nat.le_of_ble_eq_true rfl⟩) (hPW.preV hP hS (ci := 5) rfl (by omega) cw_d) rfl rfl hl.1 rfl (lv_room (Nat.le_of_ble_eq_true rfl)) dL_shownShare_3 ⟨Nat.le_of_ble_eq_true rfl, Nat.le_of_ble_eq_true rfl⟩) hS (fun E ce q9 H locs hpx hP hS h1 h2 h3 => ?_) (fun r3 u3 H locs h3 hP hS => ?_)
  · have hE9 : E = "java/lang/ArithmeticException" := by rcases id hpx with ⟨rfl, -⟩ <;> first | exact rfl
    obtain rfl := hE9
    refine vx_catch (own := RL) (name := "java/lang/ArithmeticException") hown [] ⟨0, 8, 11, 99⟩ [] (hTB.trans rfl) (fun _ h => nomatch h) (by decide) (by decide) (hts (.classLink RL 99 "java/lang/ArithmeticException") (by decide +kernel)) (va_Nw.use rfl (hE.1 _ (ng_in (w := .castable "java/lang/ArithmeticException" "java/lang/ArithmeticException") (by decide +kernel)))) h1 h2 h3 ?_
    refine lv_astore_n (lv' := [(2, .ref q9), (0, .ref (L 0)), (1, .ref (L 124))]) hx hb dL_shownShare_11 rfl hl (by decide) rfl (fun ls hl => ?_)
    refine lv_iconst (v := 1) hx hb dL_shownShare_12 (by decide) ?_
    refine W.widen (k := 4) (n := 24) (Nat.le_of_ble_eq_true rfl) (Nat.le_of_ble_eq_true rfl) ?_
    exact W.iret (v := 1) hx hb hr (fun t ht hW => ⟨⟨1, (x, r0), rfl, Or.inr (⟨rfl, hpx, rfl⟩), PB.mk9 hP ht⟩, hS.F ht⟩) hS.2.2 dL_shownShare_13
  refine lv_f2d hx hb dL_shownShare_6 (by have h9 := h3; first | exact (by obtain ⟨h8, rfl⟩ := h9; exact hfd h8) | exact hfd h9.1) ?_
  refine wx_dast (D := g.1) (cl := vwCl) (f := f) (w' := cw g L x (va_up r0 124 (oD g f (FP.f2d r3)))) hx hb hK hP hJ hS (124) 5 (by omega) ((cw_ge (by decide)).trans ho) rfl (i := 0) (vp_in_nI (n := 0) (by decide) (by decide)) dL_shownShare_7 (cw_rest2 (by decide)) (fun H locs hP hS => ?_)
  refine lv_goto (tgt := 14) hx hb dL_shownShare_8 (by decide) ?_
  refine lv_iconst (v := 0) hx hb dL_shownShare_14 (by decide) ?_
  refine W.widen (k := 4) (n := 24) (Nat.le_of_ble_eq_true rfl) (Nat.le_of_ble_eq_true rfl) ?_
  exact W.iret (v := 0) hx hb hr (fun t ht hW => ⟨⟨0, (x, va_up r0 124 (oD g f (FP.f2d r3))), rfl, Or.inl ⟨rfl, r3, h3, rfl, rfl⟩, PB.mk9 hP ht⟩, hS.F ht⟩) hS.2.2 dL_shownShare_15

set_option maxHeartbeats 4000000 in
set_option maxRecDepth 100000 in
theorem kl_meanWear (l : Launch) (hst : l.stackTraces = false) (g : gE) (base n : Nat) (L : Nat → Nat) (hn : 125 ≤ n) (x : St) (r0 : Nat → va_E) (nb : Nat) (hnb : nb ≤ 6) (hx0 : x 0 0 0 = nI nb) (hfn : nb ≠ 0 → vf_n64 (FP.ddiv (FP.l2d (chgF x nb)) (FP.i2d (x 0 0 0 * 32)))) (f : Nat → UInt64) (ho : r0 124 = .inl (g.2 5, 1, .inr (.inr (.inr (.inl f))))) : Met l yL_meanWear wsL_meanWear ({ frames := 13, cells := 4, slots := 24, locals := 360 }) (va_Pc [.ref (L 0), .ref (L 124)] (PW SS g base n L (cw g L x r0))) (va_Qi (fun (r : Int32) (u : St × (Nat → va_E)) => (r = 0 ∧ ∃ v : UInt64, (fun (r : UInt64) (_ : Unit) => nb ≠ 0 ∧ r = FP.ddiv (FP.l2d (chgF x nb)) (FP.i2d (x 0 0 0 * 32))) v () ∧ u.1 = x ∧ u.2 = va_up r0 124 (oD g f v)) ∨ (r = 1 ∧ (fun E => E = "java/lang/ArithmeticException" ∧ nb = 0) "java/lang/ArithmeticException" ∧ u = (x, r0))) (fun (u : St × (Nat → va_E)) t => PB g n L (cw g L u.1 u.2) t) (fun q => base ≤ q)) 4 24 (fun q => base ≤ q) := by
  refine va_MetW (cc := cL_meanWear) (maxL := 3) (ret := (some .int)) (by decide) rfl ?_
  intro p e s m args below meth c s₁ B hml hv
  obtain ⟨rfl, hPW⟩ := hv
  obtain ⟨hbs, hJ, hP, hK, hE⟩ := id hPW
  have hx := B.exec
  have hb := B.bytes
  have hr := B.returns
  have hts := atoms_spec (ws := wsL_meanWear) B.pre
  have hown : s.vm.findClass RL = some m.cls := findClass_of_methodNamed B.named
  have hlocks := B.notSynchronized
  have hTB : c.exceptionTable.toList = tableOf [(0, 7, 10, 99)] := vx_table (x := yL_meanWear) B (hts _ List.mem_cons_self)
  have hS : va_S (fun q : Nat => base ≤ q) s.heap s.heap [] := va_S.rf
  have hl := lv_entry ([.ref (L 0), .ref (L 124)]) (n := 3) (Nat.le_of_ble_eq_true rfl)
  rw [lg_entry_eq]
  generalize (lg_sl ([.ref (L 0), .ref (L 124)]) ++ List.replicate (3 - (lg_sl ([.ref (L 0), .ref (L 124)])).length) Slot.unset).toArray = ls at hl ⊢
  have hl : lv_has ls 3 [(0, .ref (L 0)), (1, .ref (L 124))] := hl
  refine lv_aload_n hx hb dL_meanWear_0 rfl (lv_at hl 1 rfl) ?_
  refine lv_iconst (v := 0) hx hb dL_meanWear_1 (by decide) ?_
  refine lv_aload_n hx hb dL_meanWear_2 rfl (lv_at hl 0 rfl) ?_
  refine wx_xcalld (vx_runV (As := []) (rest := [.int 0, .ref (L 124)]) ⟨hx, hb, hml, hown, hts⟩ (k_meanWear l hst g base n L (by omega) x r0 nb hnb hx0 hfn) (cwV 0 hts gL_meanWear_X3_meanWear rfl rfl rfl (by decide +kernel) ⟨Nat.le_of_ble_eq_true rfl, Nat.le_of_ble_eq_true rfl⟩) (hPW.preV hP hS (ci := 5) rfl (by omega) cw_d) rfl rfl hl.1 rfl (lv_room (Nat.le_of_ble_eq_true rfl)) dL_meanWear_3 ⟨Nat.le_of_ble_eq_true rfl, Nat.le_of_ble_eq_true rfl⟩) hS (fun E ce q9 H locs hpx hP hS h1 h2 h3 => ?_) (fun r3 u3 H locs h3 hP hS => ?_)
  · have hE9 : E = "java/lang/ArithmeticException" := by rcases id hpx with ⟨rfl, -⟩ <;> first | exact rfl
    obtain rfl := hE9
    refine vx_catch (own := RL) (name := "java/lang/ArithmeticException") hown [] ⟨0, 7, 10, 99⟩ [] (hTB.trans rfl) (fun _ h => nomatch h) (by decide) (by decide) (hts (.classLink RL 99 "java/lang/ArithmeticException") (by decide +kernel)) (va_Nw.use rfl (hE.1 _ (ng_in (w := .castable "java/lang/ArithmeticException" "java/lang/ArithmeticException") (by decide +kernel)))) h1 h2 h3 ?_
    refine lv_astore_n (lv' := [(2, .ref q9), (0, .ref (L 0)), (1, .ref (L 124))]) hx hb dL_meanWear_10 rfl hl (by decide) rfl (fun ls hl => ?_)
    refine lv_iconst (v := 1) hx hb dL_meanWear_11 (by decide) ?_
    refine W.widen (k := 4) (n := 24) (Nat.le_of_ble_eq_true rfl) (Nat.le_of_ble_eq_true rfl) ?_
    exact W.iret (v := 1) hx hb hr (fun t ht hW => ⟨⟨1, (x, r0), rfl, Or.inr (⟨rfl, hpx, rfl⟩), PB.mk9 hP ht⟩, hS.F ht⟩) hS.2.2 dL_meanWear_12
  refine wx_dast (D := g.1) (cl := vwCl) (f := f) (w' := cw g L x (va_up r0 124 (oD g f r3))) hx hb hK hP hJ hS (124) 5 (by omega) ((cw_ge (by decide)).trans ho) rfl (i := 0) (vp_in_nI (n := 0) (by decide) (by decide)) dL_meanWear_6 (cw_rest2 (by decide)) (fun H locs hP hS => ?_)
  refine lv_goto (tgt := 13) hx hb dL_meanWear_7 (by decide) ?_
  refine lv_iconst (v := 0) hx hb dL_meanWear_13 (by decide) ?_
  refine W.widen (k := 4) (n := 24) (Nat.le_of_ble_eq_true rfl) (Nat.le_of_ble_eq_true rfl) ?_
  exact W.iret (v := 0) hx hb hr (fun t ht hW => ⟨⟨0, (x, va_up r0 124 (oD g f r3)), rfl, Or.inl ⟨rfl, r3, h3, rfl, rfl⟩, PB.mk9 hP ht⟩, hS.F ht⟩) hS.2.2 dL_meanWear_14

