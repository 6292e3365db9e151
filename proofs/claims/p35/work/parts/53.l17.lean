/-! laid by wip/gen -/
set_option maxHeartbeats 4000000 in
set_option maxRecDepth 100000 in
theorem dd_0 (l : Launch) (hst : l.stackTraces = false) (g : gE) (base n : Nat) (L : Nat → Nat) (hn : 106 ≤ n) (x : St) (r0 : Nat → va_E) (nb : Nat) (hnb : nb ≤ 6) (hx0 : x 0 0 0 = nI nb) (p0 p1 p2 p3 : Int32) : Met l yL_deed wsL_deed ({ frames := 13, cells := 4, slots := 24, locals := 380 }) (va_Pc [.ref (L 0), .int 0, .int p0, .int p1, .int p2, .int p3] (PW SS g base n L (cw g L x r0))) (va_Qi (fun (r : Int32) (u : St) => (fun (r : Int32) (u : St) => (0 ≤ p0.toInt ∧ p0.toInt ≤ 3 ∧ 0 ≤ p1.toInt ∧ p1.toInt ≤ 200) ∧ nb < 6 ∧ u = abF x nb p0 p1 ∧ r = u 0 0 0 - 1) r u ∨ ∃ E, (fun E => (E = "java/lang/IllegalArgumentException" ∧ ¬ (0 ≤ p0.toInt ∧ p0.toInt ≤ 3 ∧ 0 ≤ p1.toInt ∧ p1.toInt ≤ 200)) ∨ (E = "java/lang/IllegalStateException" ∧ (0 ≤ p0.toInt ∧ p0.toInt ≤ 3 ∧ 0 ≤ p1.toInt ∧ p1.toInt ≤ 200) ∧ nb = 6)) E ∧ r = cdE E ∧ u = x) (fun (u : St) t => PB g n L (cw g L u r0) t) (fun q => base ≤ q)) 4 24 (fun q => base ≤ q) := by
  refine va_MetW (cc := cL_deed) (maxL := 7) (ret := (some .int)) (by decide) rfl ?_
  intro p e s m args below meth c s₁ B hml hv
  obtain ⟨rfl, hPW⟩ := hv
  obtain ⟨hbs, hJ, hP, hK, hE⟩ := id hPW
  have hx := B.exec
  have hb := B.bytes
  have hr := B.returns
  have hts := atoms_spec (ws := wsL_deed) B.pre
  have hown : s.vm.findClass RL = some m.cls := findClass_of_methodNamed B.named
  have hlocks := B.notSynchronized
  have hTB : c.exceptionTable.toList = tableOf [(0, 11, 12, 102), (0, 11, 18, 104), (0, 11, 24, 106), (0, 11, 30, 108), (0, 11, 36, 110)] := vx_table (x := yL_deed) B (hts _ List.mem_cons_self)
  have hS : va_S (fun q : Nat => base ≤ q) s.heap s.heap [] := va_S.rf
  have hl := lv_entry ([.ref (L 0), .int 0, .int p0, .int p1, .int p2, .int p3]) (n := 7) (Nat.le_of_ble_eq_true rfl)
  rw [lg_entry_eq]
  generalize (lg_sl ([.ref (L 0), .int 0, .int p0, .int p1, .int p2, .int p3]) ++ List.replicate (7 - (lg_sl ([.ref (L 0), .int 0, .int p0, .int p1, .int p2, .int p3])).length) Slot.unset).toArray = ls at hl ⊢
  have hl : lv_has ls 7 [(0, .ref (L 0)), (1, .int 0), (2, .int p0), (3, .int p1), (4, .int p2), (5, .int p3)] := hl
  refine lv_aload_n hx hb dL_deed_0 rfl (lv_at hl 0 rfl) ?_
  refine lv_iload_n hx hb dL_deed_1 rfl (lv_at hl 1 rfl) ?_
  refine lv_iload_n hx hb dL_deed_2 rfl (lv_at hl 2 rfl) ?_
  refine lv_iload_n hx hb dL_deed_3 rfl (lv_at hl 3 rfl) ?_
  refine lv_iload hx hb dL_deed_4 (lv_at hl 4 rfl) ?_
  refine lv_iload hx hb dL_deed_6 (lv_at hl 5 rfl) ?_
  refine wx_xcalli (vx_runS (As := [.ref (L 0), .int 0, .int p0, .int p1, .int p2, .int p3]) (rest := []) ⟨hx, hb, hml, hown, hts⟩ (pl_0 l hst g base n L (by omega) x r0 nb hnb hx0 p0 p1 p2 p3) (va_cwS 6 hts gL_deed_L_plain rfl rfl rfl (by decide +kernel) ⟨Nat.le_of_ble_eq_true rfl, Nat.le_of_ble_eq_true rfl⟩) (hPW.preS hP hS) rfl rfl hl.1 rfl (lv_room (Nat.le_of_ble_eq_true rfl)) dL_deed_8 ⟨Nat.le_of_ble_eq_true rfl, Nat.le_of_ble_eq_true rfl⟩) hS (fun E ce q9 H locs hpx hP hS h1 h2 h3 => ?_) (fun r8 u8 H locs h8 hP hS => ?_)
  · have hE9 : E = "java/lang/IllegalArgumentException" ∨ E = "java/lang/IllegalStateException" := by rcases id hpx with ⟨rfl, -⟩ | ⟨rfl, -⟩ <;> first | exact Or.inl rfl | exact Or.inr (rfl)
    rcases hE9 with rfl | rfl
    · refine vx_catch (own := RL) (name := "java/lang/IllegalArgumentException") hown [⟨0, 11, 12, 102⟩] ⟨0, 11, 18, 104⟩ [⟨0, 11, 24, 106⟩, ⟨0, 11, 30, 108⟩, ⟨0, 11, 36, 110⟩] (hTB.trans rfl) (fun z hz => by rcases List.mem_cons.mp hz with rfl | hz; exact Or.inr ⟨by decide, "java/lang/IndexOutOfBoundsException", (hts (.classLink RL 102 "java/lang/IndexOutOfBoundsException") (by decide +kernel)), hE.2.2.2.2 ("java/lang/IllegalArgumentException", "java/lang/IndexOutOfBoundsException") (by decide +kernel)⟩; exact absurd hz List.not_mem_nil) (by decide) (by decide) (va_Nw.use rfl (hE.1 _ (ng_in (w := .classLink RL 104 "java/lang/IllegalArgumentException") (by decide +kernel)))) (va_Nw.use rfl (hE.1 _ (ng_in (w := .castable "java/lang/IllegalArgumentException" "java/lang/IllegalArgumentException") (by decide +kernel)))) h1 h2 h3 ?_
      refine lv_astore (lv' := [(6, .ref q9), (0, .ref (L 0)), (1, .int 0), (2, .int p0), (3, .int p1), (4, .int p2), (5, .int p3)]) hx hb dL_deed_18 hl (by decide) rfl (fun ls hl => ?_)
      refine lv_sipush (v := (-2002)) hx hb dL_deed_20 (by decide) ?_
      refine W.widen (k := 4) (n := 24) (Nat.le_of_ble_eq_true rfl) (Nat.le_of_ble_eq_true rfl) ?_
      exact W.iret (v := (-2002)) hx hb hr (fun t ht hW => ⟨⟨(-2002), x, rfl, Or.inr ⟨_, hpx, (by decide +kernel), rfl⟩, PB.mk9 hP ht⟩, hS.F ht⟩) hS.2.2 dL_deed_23
    · refine vx_catch (own := RL) (name := "java/lang/IllegalStateException") hown [⟨0, 11, 12, 102⟩, ⟨0, 11, 18, 104⟩, ⟨0, 11, 24, 106⟩, ⟨0, 11, 30, 108⟩] ⟨0, 11, 36, 110⟩ [] (hTB.trans rfl) (fun z hz => by rcases List.mem_cons.mp hz with rfl | hz; exact Or.inr ⟨by decide, "java/lang/IndexOutOfBoundsException", (hts (.classLink RL 102 "java/lang/IndexOutOfBoundsException") (by decide +kernel)), hE.2.2.2.2 ("java/lang/IllegalStateException", "java/lang/IndexOutOfBoundsException") (by decide +kernel)⟩; rcases List.mem_cons.mp hz with rfl | hz; exact Or.inr ⟨by decide, "java/lang/IllegalArgumentException", (va_Nw.use rfl (hE.1 _ (ng_in (w := .classLink RL 104 "java/lang/IllegalArgumentException") (by decide +kernel)))), hE.2.2.2.2 ("java/lang/IllegalStateException", "java/lang/IllegalArgumentException") (by decide +kernel)⟩; rcases List.mem_cons.mp hz with rfl | hz; exact Or.inr ⟨by decide, "java/lang/UnsupportedOperationException", (va_Nw.use rfl (hE.1 _ (ng_in (w := .classLink RL 106 "java/lang/UnsupportedOperationException") (by decide +kernel)))), hE.2.2.2.2 ("java/lang/IllegalStateException", "java/lang/UnsupportedOperationException") (by decide +kernel)⟩; rcases List.mem_cons.mp hz with rfl | hz; exact Or.inr ⟨by decide, "java/lang/ArithmeticException", (va_Nw.use rfl (hE.1 _ (ng_in (w := .classLink RL 108 "java/lang/ArithmeticException") (by decide +kernel)))), hE.2.2.2.2 ("java/lang/IllegalStateException", "java/lang/ArithmeticException") (by decide +kernel)⟩; exact absurd hz List.not_mem_nil) (by decide) (by decide) (va_Nw.use rfl (hE.1 _ (ng_in (w := .classLink RL 110 "java/lang/IllegalStateException") (by decide +kernel)))) (va_Nw.use rfl (hE.1 _ (ng_in (w := .castable "java/lang/IllegalStateException" "java/lang/IllegalStateException") (by decide +kernel)))) h1 h2 h3 ?_
      refine lv_astore (lv' := [(6, .ref q9), (0, .ref (L 0)), (1, .int 0), (2, .int p0), (3, .int p1), (4, .int p2), (5, .int p3)]) hx hb dL_deed_36 hl (by decide) rfl (fun ls hl => ?_)
      refine lv_sipush (v := (-2003)) hx hb dL_deed_38 (by decide) ?_
      refine W.widen (k := 4) (n := 24) (Nat.le_of_ble_eq_true rfl) (Nat.le_of_ble_eq_true rfl) ?_
      exact W.iret (v := (-2003)) hx hb hr (fun t ht hW => ⟨⟨(-2003), x, rfl, Or.inr ⟨_, hpx, (by decide +kernel), rfl⟩, PB.mk9 hP ht⟩, hS.F ht⟩) hS.2.2 dL_deed_41
  refine W.widen (k := 4) (n := 24) (Nat.le_of_ble_eq_true rfl) (Nat.le_of_ble_eq_true rfl) ?_
  exact W.iret (v := r8) hx hb hr (fun t ht hW => ⟨⟨r8, u8, rfl, Or.inl h8, PB.mk9 hP ht⟩, hS.F ht⟩) hS.2.2 dL_deed_11

set_option maxHeartbeats 4000000 in
set_option maxRecDepth 100000 in
theorem dd_1 (l : Launch) (hst : l.stackTraces = false) (g : gE) (base n : Nat) (L : Nat → Nat) (hn : 106 ≤ n) (x : St) (r0 : Nat → va_E)  (p0 p1 p2 p3 : Int32) : Met l yL_deed wsL_deed ({ frames := 13, cells := 4, slots := 24, locals := 380 }) (va_Pc [.ref (L 0), .int 1, .int p0, .int p1, .int p2, .int p3] (PW SS g base n L (cw g L x r0))) (va_Qi (fun (r : Int32) (u : St) => (fun (r : Int32) (u : St) => (0 ≤ p0.toInt ∧ p0.toInt ≤ 20) ∧ r = x 2 0 0 ∧ u = st x 2 0 0 p0) r u ∨ ∃ E, (fun E => E = "java/lang/IllegalArgumentException" ∧ ¬ (0 ≤ p0.toInt ∧ p0.toInt ≤ 20)) E ∧ r = cdE E ∧ u = x) (fun (u : St) t => PB g n L (cw g L u r0) t) (fun q => base ≤ q)) 4 24 (fun q => base ≤ q) := by
  refine va_MetW (cc := cL_deed) (maxL := 7) (ret := (some .int)) (by decide) rfl ?_
  intro p e s m args below meth c s₁ B hml hv
  obtain ⟨rfl, hPW⟩ := hv
  obtain ⟨hbs, hJ, hP, hK, hE⟩ := id hPW
  have hx := B.exec
  have hb := B.bytes
  have hr := B.returns
  have hts := atoms_spec (ws := wsL_deed) B.pre
  have hown : s.vm.findClass RL = some m.cls := findClass_of_methodNamed B.named
  have hlocks := B.notSynchronized
  have hTB : c.exceptionTable.toList = tableOf [(0, 11, 12, 102), (0, 11, 18, 104), (0, 11, 24, 106), (0, 11, 30, 108), (0, 11, 36, 110)] := vx_table (x := yL_deed) B (hts _ List.mem_cons_self)
  have hS : va_S (fun q : Nat => base ≤ q) s.heap s.heap [] := va_S.rf
  have hl := lv_entry ([.ref (L 0), .int 1, .int p0, .int p1, .int p2, .int p3]) (n := 7) (Nat.le_of_ble_eq_true rfl)
  rw [lg_entry_eq]
  generalize (lg_sl ([.ref (L 0), .int 1, .int p0, .int p1, .int p2, .int p3]) ++ List.replicate (7 - (lg_sl ([.ref (L 0), .int 1, .int p0, .int p1, .int p2, .int p3])).length) Slot.unset).toArray = ls at hl ⊢
  have hl : lv_has ls 7 [(0, .ref (L 0)), (1, .int 1), (2, .int p0), (3, .int p1), (4, .int p2), (5, .int p3)] := hl
  refine lv_aload_n hx hb dL_deed_0 rfl (lv_at hl 0 rfl) ?_
  refine lv_iload_n hx hb dL_deed_1 rfl (lv_at hl 1 rfl) ?_
  refine lv_iload_n hx hb dL_deed_2 rfl (lv_at hl 2 rfl) ?_
  refine lv_iload_n hx hb dL_deed_3 rfl (lv_at hl 3 rfl) ?_
  refine lv_iload hx hb dL_deed_4 (lv_at hl 4 rfl) ?_
  refine lv_iload hx hb dL_deed_6 (lv_at hl 5 rfl) ?_
  refine wx_xcalli (vx_runS (As := [.ref (L 0), .int 1, .int p0, .int p1, .int p2, .int p3]) (rest := []) ⟨hx, hb, hml, hown, hts⟩ (pl_1 l hst g base n L (by omega) x r0  p0 p1 p2 p3) (va_cwS 6 hts gL_deed_L_plain rfl rfl rfl (by decide +kernel) ⟨Nat.le_of_ble_eq_true rfl, Nat.le_of_ble_eq_true rfl⟩) (hPW.preS hP hS) rfl rfl hl.1 rfl (lv_room (Nat.le_of_ble_eq_true rfl)) dL_deed_8 ⟨Nat.le_of_ble_eq_true rfl, Nat.le_of_ble_eq_true rfl⟩) hS (fun E ce q9 H locs hpx hP hS h1 h2 h3 => ?_) (fun r8 u8 H locs h8 hP hS => ?_)
  · have hE9 : E = "java/lang/IllegalArgumentException" := by rcases id hpx with ⟨rfl, -⟩ <;> first | exact rfl
    obtain rfl := hE9
    refine vx_catch (own := RL) (name := "java/lang/IllegalArgumentException") hown [⟨0, 11, 12, 102⟩] ⟨0, 11, 18, 104⟩ [⟨0, 11, 24, 106⟩, ⟨0, 11, 30, 108⟩, ⟨0, 11, 36, 110⟩] (hTB.trans rfl) (fun z hz => by rcases List.mem_cons.mp hz with rfl | hz; exact Or.inr ⟨by decide, "java/lang/IndexOutOfBoundsException", (hts (.classLink RL 102 "java/lang/IndexOutOfBoundsException") (by decide +kernel)), hE.2.2.2.2 ("java/lang/IllegalArgumentException", "java/lang/IndexOutOfBoundsException") (by decide +kernel)⟩; exact absurd hz List.not_mem_nil) (by decide) (by decide) (va_Nw.use rfl (hE.1 _ (ng_in (w := .classLink RL 104 "java/lang/IllegalArgumentException") (by decide +kernel)))) (va_Nw.use rfl (hE.1 _ (ng_in (w := .castable "java/lang/IllegalArgumentException" "java/lang/IllegalArgumentException") (by decide +kernel)))) h1 h2 h3 ?_
    refine lv_astore (lv' := [(6, .ref q9), (0, .ref (L 0)), (1, .int 1), (2, .int p0), (3, .int p1), (4, .int p2), (5, .int p3)]) hx hb dL_deed_18 hl (by decide) rfl (fun ls hl => ?_)
    refine lv_sipush (v := (-2002)) hx hb dL_deed_20 (by decide) ?_
    refine W.widen (k := 4) (n := 24) (Nat.le_of_ble_eq_true rfl) (Nat.le_of_ble_eq_true rfl) ?_
    exact W.iret (v := (-2002)) hx hb hr (fun t ht hW => ⟨⟨(-2002), x, rfl, Or.inr ⟨_, hpx, (by decide +kernel), rfl⟩, PB.mk9 hP ht⟩, hS.F ht⟩) hS.2.2 dL_deed_23
  refine W.widen (k := 4) (n := 24) (Nat.le_of_ble_eq_true rfl) (Nat.le_of_ble_eq_true rfl) ?_
  exact W.iret (v := r8) hx hb hr (fun t ht hW => ⟨⟨r8, u8, rfl, Or.inl h8, PB.mk9 hP ht⟩, hS.F ht⟩) hS.2.2 dL_deed_11

set_option maxHeartbeats 4000000 in
set_option maxRecDepth 100000 in
theorem dd_2 (l : Launch) (hst : l.stackTraces = false) (g : gE) (base n : Nat) (L : Nat → Nat) (hn : 106 ≤ n) (x : St) (r0 : Nat → va_E) (nb : Nat) (hnb : nb ≤ 6) (hx0 : x 0 0 0 = nI nb) (p0 p1 p2 p3 : Int32) : Met l yL_deed wsL_deed ({ frames := 13, cells := 4, slots := 24, locals := 380 }) (va_Pc [.ref (L 0), .int 2, .int p0, .int p1, .int p2, .int p3] (PW SS g base n L (cw g L x r0))) (va_Qi (fun (r : Int32) (u : Unit) => (fun (r : Int32) (_ : Unit) => ∃ j, j < nb ∧ p0 = nI j ∧ r = x 11 j 0) r u ∨ ∃ E, (fun E => E = "java/lang/IndexOutOfBoundsException" ∧ (p0.toInt < 0 ∨ nb ≤ p0.toInt)) E ∧ r = cdE E) (fun (u : Unit) t => PB g n L (cw g L x r0) t) (fun q => base ≤ q)) 4 24 (fun q => base ≤ q) := by
  refine va_MetW (cc := cL_deed) (maxL := 7) (ret := (some .int)) (by decide) rfl ?_
  intro p e s m args below meth c s₁ B hml hv
  obtain ⟨rfl, hPW⟩ := hv
  obtain ⟨hbs, hJ, hP, hK, hE⟩ := id hPW
  have hx := B.exec
  have hb := B.bytes
  have hr := B.returns
  have hts := atoms_spec (ws := wsL_deed) B.pre
  have hown : s.vm.findClass RL = some m.cls := findClass_of_methodNamed B.named
  have hlocks := B.notSynchronized
  have hTB : c.exceptionTable.toList = tableOf [(0, 11, 12, 102), (0, 11, 18, 104), (0, 11, 24, 106), (0, 11, 30, 108), (0, 11, 36, 110)] := vx_table (x := yL_deed) B (hts _ List.mem_cons_self)
  have hS : va_S (fun q : Nat => base ≤ q) s.heap s.heap [] := va_S.rf
  have hl := lv_entry ([.ref (L 0), .int 2, .int p0, .int p1, .int p2, .int p3]) (n := 7) (Nat.le_of_ble_eq_true rfl)
  rw [lg_entry_eq]
  generalize (lg_sl ([.ref (L 0), .int 2, .int p0, .int p1, .int p2, .int p3]) ++ List.replicate (7 - (lg_sl ([.ref (L 0), .int 2, .int p0, .int p1, .int p2, .int p3])).length) Slot.unset).toArray = ls at hl ⊢
  have hl : lv_has ls 7 [(0, .ref (L 0)), (1, .int 2), (2, .int p0), (3, .int p1), (4, .int p2), (5, .int p3)] := hl
  refine lv_aload_n hx hb dL_deed_0 rfl (lv_at hl 0 rfl) ?_
  refine lv_iload_n hx hb dL_deed_1 rfl (lv_at hl 1 rfl) ?_
  refine lv_iload_n hx hb dL_deed_2 rfl (lv_at hl 2 rfl) ?_
  refine lv_iload_n hx hb dL_deed_3 rfl (lv_at hl 3 rfl) ?_
  refine lv_iload hx hb dL_deed_4 (lv_at hl 4 rfl) ?_
  refine lv_iload hx hb dL_deed_6 (lv_at hl 5 rfl) ?_
  refine wx_xcalli (vx_runS (As := [.ref (L 0), .int 2, .int p0, .int p1, .int p2, .int p3]) (rest := []) ⟨hx, hb, hml, hown, hts⟩ (pl_2 l hst g base n L (by omega) x r0 nb hnb hx0 p0 p1 p2 p3) (va_cwS 6 hts gL_deed_L_plain rfl rfl rfl (by decide +kernel) ⟨Nat.le_of_ble_eq_true rfl, Nat.le_of_ble_eq_true rfl⟩) (hPW.preS hP hS) rfl rfl hl.1 rfl (lv_room (Nat.le_of_ble_eq_true rfl)) dL_deed_8 ⟨Nat.le_of_ble_eq_true rfl, Nat.le_of_ble_eq_true rfl⟩) hS (fun E ce q9 H locs hpx hP hS h1 h2 h3 => ?_) (fun r8 u8 H locs h8 hP hS => ?_)
  · have hE9 : E = "java/lang/IndexOutOfBoundsException" := by rcases id hpx with ⟨rfl, -⟩ <;> first | exact rfl
    obtain rfl := hE9
    refine vx_catch (own := RL) (name := "java/lang/IndexOutOfBoundsException") hown [] ⟨0, 11, 12, 102⟩ [⟨0, 11, 18, 104⟩, ⟨0, 11, 24, 106⟩, ⟨0, 11, 30, 108⟩, ⟨0, 11, 36, 110⟩] (hTB.trans rfl) (fun _ h => nomatch h) (by decide) (by decide) (hts (.classLink RL 102 "java/lang/IndexOutOfBoundsException") (by decide +kernel)) (va_Nw.use rfl (hE.1 _ (ng_in (w := .castable "java/lang/IndexOutOfBoundsException" "java/lang/IndexOutOfBoundsException") (by decide +kernel)))) h1 h2 h3 ?_
    refine lv_astore (lv' := [(6, .ref q9), (0, .ref (L 0)), (1, .int 2), (2, .int p0), (3, .int p1), (4, .int p2), (5, .int p3)]) hx hb dL_deed_12 hl (by decide) rfl (fun ls hl => ?_)
    refine lv_sipush (v := (-2001)) hx hb dL_deed_14 (by decide) ?_
    refine W.widen (k := 4) (n := 24) (Nat.le_of_ble_eq_true rfl) (Nat.le_of_ble_eq_true rfl) ?_
    exact W.iret (v := (-2001)) hx hb hr (fun t ht hW => ⟨⟨(-2001), (), rfl, Or.inr ⟨_, hpx, (by decide +kernel)⟩, PB.mk9 hP ht⟩, hS.F ht⟩) hS.2.2 dL_deed_17
  refine W.widen (k := 4) (n := 24) (Nat.le_of_ble_eq_true rfl) (Nat.le_of_ble_eq_true rfl) ?_
  exact W.iret (v := r8) hx hb hr (fun t ht hW => ⟨⟨r8, (), rfl, Or.inl h8, PB.mk9 hP ht⟩, hS.F ht⟩) hS.2.2 dL_deed_11

set_option maxHeartbeats 4000000 in
set_option maxRecDepth 100000 in
theorem dd_3 (l : Launch) (hst : l.stackTraces = false) (g : gE) (base n : Nat) (L : Nat → Nat) (hn : 106 ≤ n) (x : St) (r0 : Nat → va_E) (nb : Nat) (hnb : nb ≤ 6) (hx0 : x 0 0 0 = nI nb) (p0 p1 p2 p3 : Int32) : Met l yL_deed wsL_deed ({ frames := 13, cells := 4, slots := 24, locals := 380 }) (va_Pc [.ref (L 0), .int 3, .int p0, .int p1, .int p2, .int p3] (PW SS g base n L (cw g L x r0))) (va_Qi (fun (r : Int32) (u : Unit) => (fun (r : Int32) (_ : Unit) => ∃ j, j < nb ∧ p0 = nI j ∧ (0 ≤ p1.toInt ∧ p1.toInt < 8 ∧ 0 ≤ p2.toInt ∧ p2.toInt < 4) ∧ r = bitF (x 15 j 0) (8 * p2 + p1)) r u ∨ ∃ E, (fun E => E = "java/lang/IndexOutOfBoundsException" ∧ ((p0.toInt < 0 ∨ nb ≤ p0.toInt) ∨ ¬ (0 ≤ p1.toInt ∧ p1.toInt < 8 ∧ 0 ≤ p2.toInt ∧ p2.toInt < 4))) E ∧ r = cdE E) (fun (u : Unit) t => PB g n L (cw g L x r0) t) (fun q => base ≤ q)) 4 24 (fun q => base ≤ q) := by
  refine va_MetW (cc := cL_deed) (maxL := 7) (ret := (some .int)) (by decide) rfl ?_
  intro p e s m args below meth c s₁ B hml hv
  obtain ⟨rfl, hPW⟩ := hv
  obtain ⟨hbs, hJ, hP, hK, hE⟩ := id hPW
  have hx := B.exec
  have hb := B.bytes
  have hr := B.returns
  have hts := atoms_spec (ws := wsL_deed) B.pre
  have hown : s.vm.findClass RL = some m.cls := findClass_of_methodNamed B.named
  have hlocks := B.notSynchronized
  have hTB : c.exceptionTable.toList = tableOf [(0, 11, 12, 102), (0, 11, 18, 104), (0, 11, 24, 106), (0, 11, 30, 108), (0, 11, 36, 110)] := vx_table (x := yL_deed) B (hts _ List.mem_cons_self)
  have hS : va_S (fun q : Nat => base ≤ q) s.heap s.heap [] := va_S.rf
  have hl := lv_entry ([.ref (L 0), .int 3, .int p0, .int p1, .int p2, .int p3]) (n := 7) (Nat.le_of_ble_eq_true rfl)
  rw [lg_entry_eq]
  generalize (lg_sl ([.ref (L 0), .int 3, .int p0, .int p1, .int p2, .int p3]) ++ List.replicate (7 - (lg_sl ([.ref (L 0), .int 3, .int p0, .int p1, .int p2, .int p3])).length) Slot.unset).toArray = ls at hl ⊢
  have hl : lv_has ls 7 [(0, .ref (L 0)), (1, .int 3), (2, .int p0), (3, .int p1), (4, .int p2), (5, .int p3)] := hl
  refine lv_aload_n hx hb dL_deed_0 rfl (lv_at hl 0 rfl) ?_
  refine lv_iload_n hx hb dL_deed_1 rfl (lv_at hl 1 rfl) ?_
  refine lv_iload_n hx hb dL_deed_2 rfl (lv_at hl 2 rfl) ?_
  refine lv_iload_n hx hb dL_deed_3 rfl (lv_at hl 3 rfl) ?_
  refine lv_iload hx hb dL_deed_4 (lv_at hl 4 rfl) ?_
  refine lv_iload hx hb dL_deed_6 (lv_at hl 5 rfl) ?_
  refine wx_xcalli (vx_runS (As := [.ref (L 0), .int 3, .int p0, .int p1, .int p2, .int p3]) (rest := []) ⟨hx, hb, hml, hown, hts⟩ (pl_3 l hst g base n L (by omega) x r0 nb hnb hx0 p0 p1 p2 p3) (va_cwS 6 hts gL_deed_L_plain rfl rfl rfl (by decide +kernel) ⟨Nat.le_of_ble_eq_true rfl, Nat.le_of_ble_eq_true rfl⟩) (hPW.preS hP hS) rfl rfl hl.1 rfl (lv_room (Nat.le_of_ble_eq_true rfl)) dL_deed_8 ⟨Nat.le_of_ble_eq_true rfl, Nat.le_of_ble_eq_true rfl⟩) hS (fun E ce q9 H locs hpx hP hS h1 h2 h3 => ?_) (fun r8 u8 H locs h8 hP hS => ?_)
  · have hE9 : E = "java/lang/IndexOutOfBoundsException" := by rcases id hpx with ⟨rfl, -⟩ <;> first | exact rfl
    obtain rfl := hE9
    refine vx_catch (own := RL) (name := "java/lang/IndexOutOfBoundsException") hown [] ⟨0, 11, 12, 102⟩ [⟨0, 11, 18, 104⟩, ⟨0, 11, 24, 106⟩, ⟨0, 11, 30, 108⟩, ⟨0, 11, 36, 110⟩] (hTB.trans rfl) (fun _ h => nomatch h) (by decide) (by decide) (hts (.classLink RL 102 "java/lang/IndexOutOfBoundsException") (by decide +kernel)) (va_Nw.use rfl (hE.1 _ (ng_in (w := .castable "java/lang/IndexOutOfBoundsException" "java/lang/IndexOutOfBoundsException") (by decide +kernel)))) h1 h2 h3 ?_
    refine lv_astore (lv' := [(6, .ref q9), (0, .ref (L 0)), (1, .int 3), (2, .int p0), (3, .int p1), (4, .int p2), (5, .int p3)]) hx hb dL_deed_12 hl (by decide) rfl (fun ls hl => ?_)
    refine lv_sipush (v := (-2001)) hx hb dL_deed_14 (by decide) ?_
    refine W.widen (k := 4) (n := 24) (Nat.le_of_ble_eq_true rfl) (Nat.le_of_ble_eq_true rfl) ?_
    exact W.iret (v := (-2001)) hx hb hr (fun t ht hW => ⟨⟨(-2001), (), rfl, Or.inr ⟨_, hpx, (by decide +kernel)⟩, PB.mk9 hP ht⟩, hS.F ht⟩) hS.2.2 dL_deed_17
  refine W.widen (k := 4) (n := 24) (Nat.le_of_ble_eq_true rfl) (Nat.le_of_ble_eq_true rfl) ?_
  exact W.iret (v := r8) hx hb hr (fun t ht hW => ⟨⟨r8, (), rfl, Or.inl h8, PB.mk9 hP ht⟩, hS.F ht⟩) hS.2.2 dL_deed_11

set_option maxHeartbeats 4000000 in
set_option maxRecDepth 100000 in
theorem dd_4 (l : Launch) (hst : l.stackTraces = false) (g : gE) (base n : Nat) (L : Nat → Nat) (hn : 106 ≤ n) (x : St) (r0 : Nat → va_E) (nb : Nat) (hnb : nb ≤ 6) (hx0 : x 0 0 0 = nI nb) (p0 p1 p2 p3 : Int32) : Met l yL_deed wsL_deed ({ frames := 13, cells := 4, slots := 24, locals := 380 }) (va_Pc [.ref (L 0), .int 4, .int p0, .int p1, .int p2, .int p3] (PW SS g base n L (cw g L x r0))) (va_Qi (fun (r : Int32) (u : Unit) => (fun (r : Int32) (_ : Unit) => ∃ j, j < nb ∧ p0 = nI j ∧ (0 ≤ p1.toInt ∧ p1.toInt < 8 ∧ 0 ≤ p2.toInt ∧ p2.toInt < 4) ∧ r = wearF x j (8 * p2 + p1)) r u ∨ ∃ E, (fun E => E = "java/lang/IndexOutOfBoundsException" ∧ ((p0.toInt < 0 ∨ nb ≤ p0.toInt) ∨ ¬ (0 ≤ p1.toInt ∧ p1.toInt < 8 ∧ 0 ≤ p2.toInt ∧ p2.toInt < 4))) E ∧ r = cdE E) (fun (u : Unit) t => PB g n L (cw g L x r0) t) (fun q => base ≤ q)) 4 24 (fun q => base ≤ q) := by
  refine va_MetW (cc := cL_deed) (maxL := 7) (ret := (some .int)) (by decide) rfl ?_
  intro p e s m args below meth c s₁ B hml hv
  obtain ⟨rfl, hPW⟩ := hv
  obtain ⟨hbs, hJ, hP, hK, hE⟩ := id hPW
  have hx := B.exec
  have hb := B.bytes
  have hr := B.returns
  have hts := atoms_spec (ws := wsL_deed) B.pre
  have hown : s.vm.findClass RL = some m.cls := findClass_of_methodNamed B.named
  have hlocks := B.notSynchronized
  have hTB : c.exceptionTable.toList = tableOf [(0, 11, 12, 102), (0, 11, 18, 104), (0, 11, 24, 106), (0, 11, 30, 108), (0, 11, 36, 110)] := vx_table (x := yL_deed) B (hts _ List.mem_cons_self)
  have hS : va_S (fun q : Nat => base ≤ q) s.heap s.heap [] := va_S.rf
  have hl := lv_entry ([.ref (L 0), .int 4, .int p0, .int p1, .int p2, .int p3]) (n := 7) (Nat.le_of_ble_eq_true rfl)
  rw [lg_entry_eq]
  generalize (lg_sl ([.ref (L 0), .int 4, .int p0, .int p1, .int p2, .int p3]) ++ List.replicate (7 - (lg_sl ([.ref (L 0), .int 4, .int p0, .int p1, .int p2, .int p3])).length) Slot.unset).toArray = ls at hl ⊢
  have hl : lv_has ls 7 [(0, .ref (L 0)), (1, .int 4), (2, .int p0), (3, .int p1), (4, .int p2), (5, .int p3)] := hl
  refine lv_aload_n hx hb dL_deed_0 rfl (lv_at hl 0 rfl) ?_
  refine lv_iload_n hx hb dL_deed_1 rfl (lv_at hl 1 rfl) ?_
  refine lv_iload_n hx hb dL_deed_2 rfl (lv_at hl 2 rfl) ?_
  refine lv_iload_n hx hb dL_deed_3 rfl (lv_at hl 3 rfl) ?_
  refine lv_iload hx hb dL_deed_4 (lv_at hl 4 rfl) ?_
  refine lv_iload hx hb dL_deed_6 (lv_at hl 5 rfl) ?_
  refine wx_xcalli (vx_runS (As := [.ref (L 0), .int 4, .int p0, .int p1, .int p2, .int p3]) (rest := []) ⟨hx, hb, hml, hown, hts⟩ (pl_4 l hst g base n L (by omega) x r0 nb hnb hx0 p0 p1 p2 p3) (va_cwS 6 hts gL_deed_L_plain rfl rfl rfl (by decide +kernel) ⟨Nat.le_of_ble_eq_true rfl, Nat.le_of_ble_eq_true rfl⟩) (hPW.preS hP hS) rfl rfl hl.1 rfl (lv_room (Nat.le_of_ble_eq_true rfl)) dL_deed_8 ⟨Nat.le_of_ble_eq_true rfl, Nat.le_of_ble_eq_true rfl⟩) hS (fun E ce q9 H locs hpx hP hS h1 h2 h3 => ?_) (fun r8 u8 H locs h8 hP hS => ?_)
  · have hE9 : E = "java/lang/IndexOutOfBoundsException" := by rcases id hpx with ⟨rfl, -⟩ <;> first | exact rfl
    obtain rfl := hE9
    refine vx_catch (own := RL) (name := "java/lang/IndexOutOfBoundsException") hown [] ⟨0, 11, 12, 102⟩ [⟨0, 11, 18, 104⟩, ⟨0, 11, 24, 106⟩, ⟨0, 11, 30, 108⟩, ⟨0, 11, 36, 110⟩] (hTB.trans rfl) (fun _ h => nomatch h) (by decide) (by decide) (hts (.classLink RL 102 "java/lang/IndexOutOfBoundsException") (by decide +kernel)) (va_Nw.use rfl (hE.1 _ (ng_in (w := .castable "java/lang/IndexOutOfBoundsException" "java/lang/IndexOutOfBoundsException") (by decide +kernel)))) h1 h2 h3 ?_
    refine lv_astore (lv' := [(6, .ref q9), (0, .ref (L 0)), (1, .int 4), (2, .int p0), (3, .int p1), (4, .int p2), (5, .int p3)]) hx hb dL_deed_12 hl (by decide) rfl (fun ls hl => ?_)
    refine lv_sipush (v := (-2001)) hx hb dL_deed_14 (by decide) ?_
    refine W.widen (k := 4) (n := 24) (Nat.le_of_ble_eq_true rfl) (Nat.le_of_ble_eq_true rfl) ?_
    exact W.iret (v := (-2001)) hx hb hr (fun t ht hW => ⟨⟨(-2001), (), rfl, Or.inr ⟨_, hpx, (by decide +kernel)⟩, PB.mk9 hP ht⟩, hS.F ht⟩) hS.2.2 dL_deed_17
  refine W.widen (k := 4) (n := 24) (Nat.le_of_ble_eq_true rfl) (Nat.le_of_ble_eq_true rfl) ?_
  exact W.iret (v := r8) hx hb hr (fun t ht hW => ⟨⟨r8, (), rfl, Or.inl h8, PB.mk9 hP ht⟩, hS.F ht⟩) hS.2.2 dL_deed_11

set_option maxHeartbeats 4000000 in
set_option maxRecDepth 100000 in
theorem dd_5 (l : Launch) (hst : l.stackTraces = false) (g : gE) (base n : Nat) (L : Nat → Nat) (hn : 106 ≤ n) (x : St) (r0 : Nat → va_E) (nb : Nat) (hnb : nb ≤ 6) (hx0 : x 0 0 0 = nI nb) (hsh : ∀ b, b < 6 → x 12 b 0 = -1 ∨ ∃ k, k < 40 ∧ x 12 b 0 = nI k) (p0 p1 p2 p3 : Int32) : Met l yL_deed wsL_deed ({ frames := 13, cells := 4, slots := 24, locals := 380 }) (va_Pc [.ref (L 0), .int 5, .int p0, .int p1, .int p2, .int p3] (PW SS g base n L (cw g L x r0))) (va_Qi (fun (r : Int32) (u : Unit) => (fun (r : Int32) (_ : Unit) => ∃ j, j < nb ∧ p0 = nI j ∧ r = x 12 j 0) r u ∨ ∃ E, (fun E => E = "java/lang/IndexOutOfBoundsException" ∧ (p0.toInt < 0 ∨ nb ≤ p0.toInt)) E ∧ r = cdE E) (fun (u : Unit) t => PB g n L (cw g L x r0) t) (fun q => base ≤ q)) 4 24 (fun q => base ≤ q) := by
  refine va_MetW (cc := cL_deed) (maxL := 7) (ret := (some .int)) (by decide) rfl ?_
  intro p e s m args below meth c s₁ B hml hv
  obtain ⟨rfl, hPW⟩ := hv
  obtain ⟨hbs, hJ, hP, hK, hE⟩ := id hPW
  have hx := B.exec
  have hb := B.bytes
  have hr := B.returns
  have hts := atoms_spec (ws := wsL_deed) B.pre
  have hown : s.vm.findClass RL = some m.cls := findClass_of_methodNamed B.named
  have hlocks := B.notSynchronized
  have hTB : c.exceptionTable.toList = tableOf [(0, 11, 12, 102), (0, 11, 18, 104), (0, 11, 24, 106), (0, 11, 30, 108), (0, 11, 36, 110)] := vx_table (x := yL_deed) B (hts _ List.mem_cons_self)
  have hS : va_S (fun q : Nat => base ≤ q) s.heap s.heap [] := va_S.rf
  have hl := lv_entry ([.ref (L 0), .int 5, .int p0, .int p1, .int p2, .int p3]) (n := 7) (Nat.le_of_ble_eq_true rfl)
  rw [lg_entry_eq]
  generalize (lg_sl ([.ref (L 0), .int 5, .int p0, .int p1, .int p2, .int p3]) ++ List.replicate (7 - (lg_sl ([.ref (L 0), .int 5, .int p0, .int p1, .int p2, .int p3])).length) Slot.unset).toArray = ls at hl ⊢
  have hl : lv_has ls 7 [(0, .ref (L 0)), (1, .int 5), (2, .int p0), (3, .int p1), (4, .int p2), (5, .int p3)] := hl
  refine lv_aload_n hx hb dL_deed_0 rfl (lv_at hl 0 rfl) ?_
  refine lv_iload_n hx hb dL_deed_1 rfl (lv_at hl 1 rfl) ?_
  refine lv_iload_n hx hb dL_deed_2 rfl (lv_at hl 2 rfl) ?_
  refine lv_iload_n hx hb dL_deed_3 rfl (lv_at hl 3 rfl) ?_
  refine lv_iload hx hb dL_deed_4 (lv_at hl 4 rfl) ?_
  refine lv_iload hx hb dL_deed_6 (lv_at hl 5 rfl) ?_
  refine wx_xcalli (vx_runS (As := [.ref (L 0), .int 5, .int p0, .int p1, .int p2, .int p3]) (rest := []) ⟨hx, hb, hml, hown, hts⟩ (pl_5 l hst g base n L (by omega) x r0 nb hnb hx0 hsh p0 p1 p2 p3) (va_cwS 6 hts gL_deed_L_plain rfl rfl rfl (by decide +kernel) ⟨Nat.le_of_ble_eq_true rfl, Nat.le_of_ble_eq_true rfl⟩) (hPW.preS hP hS) rfl rfl hl.1 rfl (lv_room (Nat.le_of_ble_eq_true rfl)) dL_deed_8 ⟨Nat.le_of_ble_eq_true rfl, Nat.le_of_ble_eq_true rfl⟩) hS (fun E ce q9 H locs hpx hP hS h1 h2 h3 => ?_) (fun r8 u8 H locs h8 hP hS => ?_)
  · have hE9 : E = "java/lang/IndexOutOfBoundsException" := by rcases id hpx with ⟨rfl, -⟩ <;> first | exact rfl
    obtain rfl := hE9
    refine vx_catch (own := RL) (name := "java/lang/IndexOutOfBoundsException") hown [] ⟨0, 11, 12, 102⟩ [⟨0, 11, 18, 104⟩, ⟨0, 11, 24, 106⟩, ⟨0, 11, 30, 108⟩, ⟨0, 11, 36, 110⟩] (hTB.trans rfl) (fun _ h => nomatch h) (by decide) (by decide) (hts (.classLink RL 102 "java/lang/IndexOutOfBoundsException") (by decide +kernel)) (va_Nw.use rfl (hE.1 _ (ng_in (w := .castable "java/lang/IndexOutOfBoundsException" "java/lang/IndexOutOfBoundsException") (by decide +kernel)))) h1 h2 h3 ?_
    refine lv_astore (lv' := [(6, .ref q9), (0, .ref (L 0)), (1, .int 5), (2, .int p0), (3, .int p1), (4, .int p2), (5, .int p3)]) hx hb dL_deed_12 hl (by decide) rfl (fun ls hl => ?_)
    refine lv_sipush (v := (-2001)) hx hb dL_deed_14 (by decide) ?_
    refine W.widen (k := 4) (n := 24) (Nat.le_of_ble_eq_true rfl) (Nat.le_of_ble_eq_true rfl) ?_
    exact W.iret (v := (-2001)) hx hb hr (fun t ht hW => ⟨⟨(-2001), (), rfl, Or.inr ⟨_, hpx, (by decide +kernel)⟩, PB.mk9 hP ht⟩, hS.F ht⟩) hS.2.2 dL_deed_17
  refine W.widen (k := 4) (n := 24) (Nat.le_of_ble_eq_true rfl) (Nat.le_of_ble_eq_true rfl) ?_
  exact W.iret (v := r8) hx hb hr (fun t ht hW => ⟨⟨r8, (), rfl, Or.inl h8, PB.mk9 hP ht⟩, hS.F ht⟩) hS.2.2 dL_deed_11

set_option maxHeartbeats 4000000 in
set_option maxRecDepth 100000 in
theorem dd_6 (l : Launch) (hst : l.stackTraces = false) (g : gE) (base n : Nat) (L : Nat → Nat) (hn : 106 ≤ n) (x : St) (r0 : Nat → va_E) (nb : Nat) (hnb : nb ≤ 6) (hx0 : x 0 0 0 = nI nb) (p0 p1 p2 p3 : Int32) : Met l yL_deed wsL_deed ({ frames := 13, cells := 4, slots := 24, locals := 380 }) (va_Pc [.ref (L 0), .int 6, .int p0, .int p1, .int p2, .int p3] (PW SS g base n L (cw g L x r0))) (va_Qi (fun (r : Int32) (u : Unit) => (fun (r : Int32) (_ : Unit) => ∃ j, j < nb ∧ p0 = nI j ∧ r = x 13 j 0) r u ∨ ∃ E, (fun E => E = "java/lang/IndexOutOfBoundsException" ∧ (p0.toInt < 0 ∨ nb ≤ p0.toInt)) E ∧ r = cdE E) (fun (u : Unit) t => PB g n L (cw g L x r0) t) (fun q => base ≤ q)) 4 24 (fun q => base ≤ q) := by
  refine va_MetW (cc := cL_deed) (maxL := 7) (ret := (some .int)) (by decide) rfl ?_
  intro p e s m args below meth c s₁ B hml hv
  obtain ⟨rfl, hPW⟩ := hv
  obtain ⟨hbs, hJ, hP, hK, hE⟩ := id hPW
  have hx := B.exec
  have hb := B.bytes
  have hr := B.returns
  have hts := atoms_spec (ws := wsL_deed) B.pre
  have hown : s.vm.findClass RL = some m.cls := findClass_of_methodNamed B.named
  have hlocks := B.notSynchronized
  have hTB : c.exceptionTable.toList = tableOf [(0, 11, 12, 102), (0, 11, 18, 104), (0, 11, 24, 106), (0, 11, 30, 108), (0, 11, 36, 110)] := vx_table (x := yL_deed) B (hts _ List.mem_cons_self)
  have hS : va_S (fun q : Nat => base ≤ q) s.heap s.heap [] := va_S.rf
  have hl := lv_entry ([.ref (L 0), .int 6, .int p0, .int p1, .int p2, .int p3]) (n := 7) (Nat.le_of_ble_eq_true rfl)
  rw [lg_entry_eq]
  generalize (lg_sl ([.ref (L 0), .int 6, .int p0, .int p1, .int p2, .int p3]) ++ List.replicate (7 - (lg_sl ([.ref (L 0), .int 6, .int p0, .int p1, .int p2, .int p3])).length) Slot.unset).toArray = ls at hl ⊢
  have hl : lv_has ls 7 [(0, .ref (L 0)), (1, .int 6), (2, .int p0), (3, .int p1), (4, .int p2), (5, .int p3)] := hl
  refine lv_aload_n hx hb dL_deed_0 rfl (lv_at hl 0 rfl) ?_
  refine lv_iload_n hx hb dL_deed_1 rfl (lv_at hl 1 rfl) ?_
  refine lv_iload_n hx hb dL_deed_2 rfl (lv_at hl 2 rfl) ?_
  refine lv_iload_n hx hb dL_deed_3 rfl (lv_at hl 3 rfl) ?_
  refine lv_iload hx hb dL_deed_4 (lv_at hl 4 rfl) ?_
  refine lv_iload hx hb dL_deed_6 (lv_at hl 5 rfl) ?_
  refine wx_xcalli (vx_runS (As := [.ref (L 0), .int 6, .int p0, .int p1, .int p2, .int p3]) (rest := []) ⟨hx, hb, hml, hown, hts⟩ (pl_6 l hst g base n L (by omega) x r0 nb hnb hx0 p0 p1 p2 p3) (va_cwS 6 hts gL_deed_L_plain rfl rfl rfl (by decide +kernel) ⟨Nat.le_of_ble_eq_true rfl, Nat.le_of_ble_eq_true rfl⟩) (hPW.preS hP hS) rfl rfl hl.1 rfl (lv_room (Nat.le_of_ble_eq_true rfl)) dL_deed_8 ⟨Nat.le_of_ble_eq_true rfl, Nat.le_of_ble_eq_true rfl⟩) hS (fun E ce q9 H locs hpx hP hS h1 h2 h3 => ?_) (fun r8 u8 H locs h8 hP hS => ?_)
  · have hE9 : E = "java/lang/IndexOutOfBoundsException" := by rcases id hpx with ⟨rfl, -⟩ <;> first | exact rfl
    obtain rfl := hE9
    refine vx_catch (own := RL) (name := "java/lang/IndexOutOfBoundsException") hown [] ⟨0, 11, 12, 102⟩ [⟨0, 11, 18, 104⟩, ⟨0, 11, 24, 106⟩, ⟨0, 11, 30, 108⟩, ⟨0, 11, 36, 110⟩] (hTB.trans rfl) (fun _ h => nomatch h) (by decide) (by decide) (hts (.classLink RL 102 "java/lang/IndexOutOfBoundsException") (by decide +kernel)) (va_Nw.use rfl (hE.1 _ (ng_in (w := .castable "java/lang/IndexOutOfBoundsException" "java/lang/IndexOutOfBoundsException") (by decide +kernel)))) h1 h2 h3 ?_
    refine lv_astore (lv' := [(6, .ref q9), (0, .ref (L 0)), (1, .int 6), (2, .int p0), (3, .int p1), (4, .int p2), (5, .int p3)]) hx hb dL_deed_12 hl (by decide) rfl (fun ls hl => ?_)
    refine lv_sipush (v := (-2001)) hx hb dL_deed_14 (by decide) ?_
    refine W.widen (k := 4) (n := 24) (Nat.le_of_ble_eq_true rfl) (Nat.le_of_ble_eq_true rfl) ?_
    exact W.iret (v := (-2001)) hx hb hr (fun t ht hW => ⟨⟨(-2001), (), rfl, Or.inr ⟨_, hpx, (by decide +kernel)⟩, PB.mk9 hP ht⟩, hS.F ht⟩) hS.2.2 dL_deed_17
  refine W.widen (k := 4) (n := 24) (Nat.le_of_ble_eq_true rfl) (Nat.le_of_ble_eq_true rfl) ?_
  exact W.iret (v := r8) hx hb hr (fun t ht hW => ⟨⟨r8, (), rfl, Or.inl h8, PB.mk9 hP ht⟩, hS.F ht⟩) hS.2.2 dL_deed_11

set_option maxHeartbeats 4000000 in
set_option maxRecDepth 100000 in
theorem dd_8 (l : Launch) (hst : l.stackTraces = false) (g : gE) (base n : Nat) (L : Nat → Nat) (hn : 106 ≤ n) (x : St) (r0 : Nat → va_E) (nn : Nat) (hnn : nn ≤ 40) (hx1 : x 1 0 0 = nI nn) (hrk : ∀ j, j < 40 → (x 43 0 j).toNatClampNeg < 40) (p0 p1 p2 p3 : Int32) : Met l yL_deed wsL_deed ({ frames := 13, cells := 4, slots := 24, locals := 380 }) (va_Pc [.ref (L 0), .int 8, .int p0, .int p1, .int p2, .int p3] (PW SS g base n L (cw g L x r0))) (va_Qi (fun (r : Int32) (u : St) => (fun (r : Int32) (u : St) => (0 ≤ p0.toInt ∧ p0.toInt ≤ 9 ∧ p1.toInt ≠ 0 ∧ 0 ≤ p2.toInt ∧ p2.toInt < p3.toInt ∧ p3.toInt ≤ 2000) ∧ nn < 40 ∧ u = tkF x nn p0 p1 p2 p3 ∧ r = nI nn) r u ∨ ∃ E, (fun E => (E = "java/lang/IllegalArgumentException" ∧ ¬ (0 ≤ p0.toInt ∧ p0.toInt ≤ 9 ∧ p1.toInt ≠ 0 ∧ 0 ≤ p2.toInt ∧ p2.toInt < p3.toInt ∧ p3.toInt ≤ 2000)) ∨ (E = "java/lang/IllegalStateException" ∧ (0 ≤ p0.toInt ∧ p0.toInt ≤ 9 ∧ p1.toInt ≠ 0 ∧ 0 ≤ p2.toInt ∧ p2.toInt < p3.toInt ∧ p3.toInt ≤ 2000) ∧ nn = 40)) E ∧ r = cdE E ∧ u = x) (fun (u : St) t => PB g n L (cw g L u r0) t) (fun q => base ≤ q)) 4 24 (fun q => base ≤ q) := by
  refine va_MetW (cc := cL_deed) (maxL := 7) (ret := (some .int)) (by decide) rfl ?_
  intro p e s m args below meth c s₁ B hml hv
  obtain ⟨rfl, hPW⟩ := hv
  obtain ⟨hbs, hJ, hP, hK, hE⟩ := id hPW
  have hx := B.exec
  have hb := B.bytes
  have hr := B.returns
  have hts := atoms_spec (ws := wsL_deed) B.pre
  have hown : s.vm.findClass RL = some m.cls := findClass_of_methodNamed B.named
  have hlocks := B.notSynchronized
  have hTB : c.exceptionTable.toList = tableOf [(0, 11, 12, 102), (0, 11, 18, 104), (0, 11, 24, 106), (0, 11, 30, 108), (0, 11, 36, 110)] := vx_table (x := yL_deed) B (hts _ List.mem_cons_self)
  have hS : va_S (fun q : Nat => base ≤ q) s.heap s.heap [] := va_S.rf
  have hl := lv_entry ([.ref (L 0), .int 8, .int p0, .int p1, .int p2, .int p3]) (n := 7) (Nat.le_of_ble_eq_true rfl)
  rw [lg_entry_eq]
  generalize (lg_sl ([.ref (L 0), .int 8, .int p0, .int p1, .int p2, .int p3]) ++ List.replicate (7 - (lg_sl ([.ref (L 0), .int 8, .int p0, .int p1, .int p2, .int p3])).length) Slot.unset).toArray = ls at hl ⊢
  have hl : lv_has ls 7 [(0, .ref (L 0)), (1, .int 8), (2, .int p0), (3, .int p1), (4, .int p2), (5, .int p3)] := hl
  refine lv_aload_n hx hb dL_deed_0 rfl (lv_at hl 0 rfl) ?_
  refine lv_iload_n hx hb dL_deed_1 rfl (lv_at hl 1 rfl) ?_
  refine lv_iload_n hx hb dL_deed_2 rfl (lv_at hl 2 rfl) ?_
  refine lv_iload_n hx hb dL_deed_3 rfl (lv_at hl 3 rfl) ?_
  refine lv_iload hx hb dL_deed_4 (lv_at hl 4 rfl) ?_
  refine lv_iload hx hb dL_deed_6 (lv_at hl 5 rfl) ?_
  refine wx_xcalli (vx_runS (As := [.ref (L 0), .int 8, .int p0, .int p1, .int p2, .int p3]) (rest := []) ⟨hx, hb, hml, hown, hts⟩ (pl_8 l hst g base n L (by omega) x r0 nn hnn hx1 hrk p0 p1 p2 p3) (va_cwS 6 hts gL_deed_L_plain rfl rfl rfl (by decide +kernel) ⟨Nat.le_of_ble_eq_true rfl, Nat.le_of_ble_eq_true rfl⟩) (hPW.preS hP hS) rfl rfl hl.1 rfl (lv_room (Nat.le_of_ble_eq_true rfl)) dL_deed_8 ⟨Nat.le_of_ble_eq_true rfl, Nat.le_of_ble_eq_true rfl⟩) hS (fun E ce q9 H locs hpx hP hS h1 h2 h3 => ?_) (fun r8 u8 H locs h8 hP hS => ?_)
  · have hE9 : E = "java/lang/IllegalArgumentException" ∨ E = "java/lang/IllegalStateException" := by rcases id hpx with ⟨rfl, -⟩ | ⟨rfl, -⟩ <;> first | exact Or.inl rfl | exact Or.inr (rfl)
    rcases hE9 with rfl | rfl
    · refine vx_catch (own := RL) (name := "java/lang/IllegalArgumentException") hown [⟨0, 11, 12, 102⟩] ⟨0, 11, 18, 104⟩ [⟨0, 11, 24, 106⟩, ⟨0, 11, 30, 108⟩, ⟨0, 11, 36, 110⟩] (hTB.trans rfl) (fun z hz => by rcases List.mem_cons.mp hz with rfl | hz; exact Or.inr ⟨by decide, "java/lang/IndexOutOfBoundsException", (hts (.classLink RL 102 "java/lang/IndexOutOfBoundsException") (by decide +kernel)), hE.2.2.2.2 ("java/lang/IllegalArgumentException", "java/lang/IndexOutOfBoundsException") (by decide +kernel)⟩; exact absurd hz List.not_mem_nil) (by decide) (by decide) (va_Nw.use rfl (hE.1 _ (ng_in (w := .classLink RL 104 "java/lang/IllegalArgumentException") (by decide +kernel)))) (va_Nw.use rfl (hE.1 _ (ng_in (w := .castable "java/lang/IllegalArgumentException" "java/lang/IllegalArgumentException") (by decide +kernel)))) h1 h2 h3 ?_
      refine lv_astore (lv' := [(6, .ref q9), (0, .ref (L 0)), (1, .int 8), (2, .int p0), (3, .int p1), (4, .int p2), (5, .int p3)]) hx hb dL_deed_18 hl (by decide) rfl (fun ls hl => ?_)
      refine lv_sipush (v := (-2002)) hx hb dL_deed_20 (by decide) ?_
      refine W.widen (k := 4) (n := 24) (Nat.le_of_ble_eq_true rfl) (Nat.le_of_ble_eq_true rfl) ?_
      exact W.iret (v := (-2002)) hx hb hr (fun t ht hW => ⟨⟨(-2002), x, rfl, Or.inr ⟨_, hpx, (by decide +kernel), rfl⟩, PB.mk9 hP ht⟩, hS.F ht⟩) hS.2.2 dL_deed_23
    · refine vx_catch (own := RL) (name := "java/lang/IllegalStateException") hown [⟨0, 11, 12, 102⟩, ⟨0, 11, 18, 104⟩, ⟨0, 11, 24, 106⟩, ⟨0, 11, 30, 108⟩] ⟨0, 11, 36, 110⟩ [] (hTB.trans rfl) (fun z hz => by rcases List.mem_cons.mp hz with rfl | hz; exact Or.inr ⟨by decide, "java/lang/IndexOutOfBoundsException", (hts (.classLink RL 102 "java/lang/IndexOutOfBoundsException") (by decide +kernel)), hE.2.2.2.2 ("java/lang/IllegalStateException", "java/lang/IndexOutOfBoundsException") (by decide +kernel)⟩; rcases List.mem_cons.mp hz with rfl | hz; exact Or.inr ⟨by decide, "java/lang/IllegalArgumentException", (va_Nw.use rfl (hE.1 _ (ng_in (w := .classLink RL 104 "java/lang/IllegalArgumentException") (by decide +kernel)))), hE.2.2.2.2 ("java/lang/IllegalStateException", "java/lang/IllegalArgumentException") (by decide +kernel)⟩; rcases List.mem_cons.mp hz with rfl | hz; exact Or.inr ⟨by decide, "java/lang/UnsupportedOperationException", (va_Nw.use rfl (hE.1 _ (ng_in (w := .classLink RL 106 "java/lang/UnsupportedOperationException") (by decide +kernel)))), hE.2.2.2.2 ("java/lang/IllegalStateException", "java/lang/UnsupportedOperationException") (by decide +kernel)⟩; rcases List.mem_cons.mp hz with rfl | hz; exact Or.inr ⟨by decide, "java/lang/ArithmeticException", (va_Nw.use rfl (hE.1 _ (ng_in (w := .classLink RL 108 "java/lang/ArithmeticException") (by decide +kernel)))), hE.2.2.2.2 ("java/lang/IllegalStateException", "java/lang/ArithmeticException") (by decide +kernel)⟩; exact absurd hz List.not_mem_nil) (by decide) (by decide) (va_Nw.use rfl (hE.1 _ (ng_in (w := .classLink RL 110 "java/lang/IllegalStateException") (by decide +kernel)))) (va_Nw.use rfl (hE.1 _ (ng_in (w := .castable "java/lang/IllegalStateException" "java/lang/IllegalStateException") (by decide +kernel)))) h1 h2 h3 ?_
      refine lv_astore (lv' := [(6, .ref q9), (0, .ref (L 0)), (1, .int 8), (2, .int p0), (3, .int p1), (4, .int p2), (5, .int p3)]) hx hb dL_deed_36 hl (by decide) rfl (fun ls hl => ?_)
      refine lv_sipush (v := (-2003)) hx hb dL_deed_38 (by decide) ?_
      refine W.widen (k := 4) (n := 24) (Nat.le_of_ble_eq_true rfl) (Nat.le_of_ble_eq_true rfl) ?_
      exact W.iret (v := (-2003)) hx hb hr (fun t ht hW => ⟨⟨(-2003), x, rfl, Or.inr ⟨_, hpx, (by decide +kernel), rfl⟩, PB.mk9 hP ht⟩, hS.F ht⟩) hS.2.2 dL_deed_41
  refine W.widen (k := 4) (n := 24) (Nat.le_of_ble_eq_true rfl) (Nat.le_of_ble_eq_true rfl) ?_
  exact W.iret (v := r8) hx hb hr (fun t ht hW => ⟨⟨r8, u8, rfl, Or.inl h8, PB.mk9 hP ht⟩, hS.F ht⟩) hS.2.2 dL_deed_11

set_option maxHeartbeats 4000000 in
set_option maxRecDepth 100000 in
theorem dd_9 (l : Launch) (hst : l.stackTraces = false) (g : gE) (base n : Nat) (L : Nat → Nat) (hn : 106 ≤ n) (x : St) (r0 : Nat → va_E) (nn : Nat) (hnn : nn ≤ 40) (hx1 : x 1 0 0 = nI nn) (p0 p1 p2 p3 : Int32) : Met l yL_deed wsL_deed ({ frames := 13, cells := 4, slots := 24, locals := 380 }) (va_Pc [.ref (L 0), .int 9, .int p0, .int p1, .int p2, .int p3] (PW SS g base n L (cw g L x r0))) (va_Qi (fun (r : Int32) (u : St) => (fun (r : Int32) (u : St) => ∃ v : Int32, (fun (r : Int32) (u : St) => ∃ j, j < nn ∧ p0 = nI j ∧ (0 ≤ p1.toInt ∧ p1.toInt ≤ 3) ∧ (x 34 j 0 = 0 ∧ x 35 j 0 = 0) ∧ u = piF x j p1 ∧ ((r = 0 ∧ qcP x j p1) ∨ (r = 1 ∧ ¬ qcP x j p1))) v u ∧ r = if v = 0 then 0 else 1) r u ∨ ∃ E, (fun E => (E = "java/lang/IndexOutOfBoundsException" ∧ (p0.toInt < 0 ∨ nn ≤ p0.toInt)) ∨ (∃ j, j < nn ∧ p0 = nI j ∧ ((E = "java/lang/IllegalArgumentException" ∧ (p1.toInt < 0 ∨ 3 < p1.toInt)) ∨ (E = "java/lang/UnsupportedOperationException" ∧ (0 ≤ p1.toInt ∧ p1.toInt ≤ 3) ∧ ¬ (x 34 j 0 = 0 ∧ x 35 j 0 = 0))))) E ∧ r = cdE E ∧ u = x) (fun (u : St) t => PB g n L (cw g L u r0) t) (fun q => base ≤ q)) 4 24 (fun q => base ≤ q) := by
  refine va_MetW (cc := cL_deed) (maxL := 7) (ret := (some .int)) (by decide) rfl ?_
  intro p e s m args below meth c s₁ B hml hv
  obtain ⟨rfl, hPW⟩ := hv
  obtain ⟨hbs, hJ, hP, hK, hE⟩ := id hPW
  have hx := B.exec
  have hb := B.bytes
  have hr := B.returns
  have hts := atoms_spec (ws := wsL_deed) B.pre
  have hown : s.vm.findClass RL = some m.cls := findClass_of_methodNamed B.named
  have hlocks := B.notSynchronized
  have hTB : c.exceptionTable.toList = tableOf [(0, 11, 12, 102), (0, 11, 18, 104), (0, 11, 24, 106), (0, 11, 30, 108), (0, 11, 36, 110)] := vx_table (x := yL_deed) B (hts _ List.mem_cons_self)
  have hS : va_S (fun q : Nat => base ≤ q) s.heap s.heap [] := va_S.rf
  have hl := lv_entry ([.ref (L 0), .int 9, .int p0, .int p1, .int p2, .int p3]) (n := 7) (Nat.le_of_ble_eq_true rfl)
  rw [lg_entry_eq]
  generalize (lg_sl ([.ref (L 0), .int 9, .int p0, .int p1, .int p2, .int p3]) ++ List.replicate (7 - (lg_sl ([.ref (L 0), .int 9, .int p0, .int p1, .int p2, .int p3])).length) Slot.unset).toArray = ls at hl ⊢
  have hl : lv_has ls 7 [(0, .ref (L 0)), (1, .int 9), (2, .int p0), (3, .int p1), (4, .int p2), (5, .int p3)] := hl
  refine lv_aload_n hx hb dL_deed_0 rfl (lv_at hl 0 rfl) ?_
  refine lv_iload_n hx hb dL_deed_1 rfl (lv_at hl 1 rfl) ?_
  refine lv_iload_n hx hb dL_deed_2 rfl (lv_at hl 2 rfl) ?_
  refine lv_iload_n hx hb dL_deed_3 rfl (lv_at hl 3 rfl) ?_
  refine lv_iload hx hb dL_deed_4 (lv_at hl 4 rfl) ?_
  refine lv_iload hx hb dL_deed_6 (lv_at hl 5 rfl) ?_
  refine wx_xcalli (vx_runS (As := [.ref (L 0), .int 9, .int p0, .int p1, .int p2, .int p3]) (rest := []) ⟨hx, hb, hml, hown, hts⟩ (pl_9 l hst g base n L (by omega) x r0 nn hnn hx1 p0 p1 p2 p3) (va_cwS 6 hts gL_deed_L_plain rfl rfl rfl (by decide +kernel) ⟨Nat.le_of_ble_eq_true rfl, Nat.le_of_ble_eq_true rfl⟩) (hPW.preS hP hS) rfl rfl hl.1 rfl (lv_room (Nat.le_of_ble_eq_true rfl)) dL_deed_8 ⟨Nat.le_of_ble_eq_true rfl, Nat.le_of_ble_eq_true rfl⟩) hS (fun E ce q9 H locs hpx hP hS h1 h2 h3 => ?_) (fun r8 u8 H locs h8 hP hS => ?_)
  · have hE9 : E = "java/lang/IndexOutOfBoundsException" ∨ E = "java/lang/IllegalArgumentException" ∨ E = "java/lang/UnsupportedOperationException" := by rcases id hpx with ⟨rfl, -⟩ | ⟨_, -, -, ⟨rfl, -⟩ | ⟨rfl, -⟩⟩ <;> first | exact Or.inl rfl | exact Or.inr (Or.inl rfl) | exact Or.inr (Or.inr (rfl))
    rcases hE9 with rfl | rfl | rfl
    · refine vx_catch (own := RL) (name := "java/lang/IndexOutOfBoundsException") hown [] ⟨0, 11, 12, 102⟩ [⟨0, 11, 18, 104⟩, ⟨0, 11, 24, 106⟩, ⟨0, 11, 30, 108⟩, ⟨0, 11, 36, 110⟩] (hTB.trans rfl) (fun _ h => nomatch h) (by decide) (by decide) (hts (.classLink RL 102 "java/lang/IndexOutOfBoundsException") (by decide +kernel)) (va_Nw.use rfl (hE.1 _ (ng_in (w := .castable "java/lang/IndexOutOfBoundsException" "java/lang/IndexOutOfBoundsException") (by decide +kernel)))) h1 h2 h3 ?_
      refine lv_astore (lv' := [(6, .ref q9), (0, .ref (L 0)), (1, .int 9), (2, .int p0), (3, .int p1), (4, .int p2), (5, .int p3)]) hx hb dL_deed_12 hl (by decide) rfl (fun ls hl => ?_)
      refine lv_sipush (v := (-2001)) hx hb dL_deed_14 (by decide) ?_
      refine W.widen (k := 4) (n := 24) (Nat.le_of_ble_eq_true rfl) (Nat.le_of_ble_eq_true rfl) ?_
      exact W.iret (v := (-2001)) hx hb hr (fun t ht hW => ⟨⟨(-2001), x, rfl, Or.inr ⟨_, hpx, (by decide +kernel), rfl⟩, PB.mk9 hP ht⟩, hS.F ht⟩) hS.2.2 dL_deed_17
    · refine vx_catch (own := RL) (name := "java/lang/IllegalArgumentException") hown [⟨0, 11, 12, 102⟩] ⟨0, 11, 18, 104⟩ [⟨0, 11, 24, 106⟩, ⟨0, 11, 30, 108⟩, ⟨0, 11, 36, 110⟩] (hTB.trans rfl) (fun z hz => by rcases List.mem_cons.mp hz with rfl | hz; exact Or.inr ⟨by decide, "java/lang/IndexOutOfBoundsException", (hts (.classLink RL 102 "java/lang/IndexOutOfBoundsException") (by decide +kernel)), hE.2.2.2.2 ("java/lang/IllegalArgumentException", "java/lang/IndexOutOfBoundsException") (by decide +kernel)⟩; exact absurd hz List.not_mem_nil) (by decide) (by decide) (va_Nw.use rfl (hE.1 _ (ng_in (w := .classLink RL 104 "java/lang/IllegalArgumentException") (by decide +kernel)))) (va_Nw.use rfl (hE.1 _ (ng_in (w := .castable "java/lang/IllegalArgumentException" "java/lang/IllegalArgumentException") (by decide +kernel)))) h1 h2 h3 ?_
      refine lv_astore (lv' := [(6, .ref q9), (0, .ref (L 0)), (1, .int 9), (2, .int p0), (3, .int p1), (4, .int p2), (5, .int p3)]) hx hb dL_deed_18 hl (by decide) rfl (fun ls hl => ?_)
      refine lv_sipush (v := (-2002)) hx hb dL_deed_20 (by decide) ?_
      refine W.widen (k := 4) (n := 24) (Nat.le_of_ble_eq_true rfl) (Nat.le_of_ble_eq_true rfl) ?_
      exact W.iret (v := (-2002)) hx hb hr (fun t ht hW => ⟨⟨(-2002), x, rfl, Or.inr ⟨_, hpx, (by decide +kernel), rfl⟩, PB.mk9 hP ht⟩, hS.F ht⟩) hS.2.2 dL_deed_23
    · refine vx_catch (own := RL) (name := "java/lang/UnsupportedOperationException") hown [⟨0, 11, 12, 102⟩, ⟨0, 11, 18, 104⟩] ⟨0, 11, 24, 106⟩ [⟨0, 11, 30, 108⟩, ⟨0, 11, 36, 110⟩] (hTB.trans rfl) (fun z hz => by rcases List.mem_cons.mp hz with rfl | hz; exact Or.inr ⟨by decide, "java/lang/IndexOutOfBoundsException", (hts (.classLink RL 102 "java/lang/IndexOutOfBoundsException") (by decide +kernel)), hE.2.2.2.2 ("java/lang/UnsupportedOperationException", "java/lang/IndexOutOfBoundsException") (by decide +kernel)⟩; rcases List.mem_cons.mp hz with rfl | hz; exact Or.inr ⟨by decide, "java/lang/IllegalArgumentException", (va_Nw.use rfl (hE.1 _ (ng_in (w := .classLink RL 104 "java/lang/IllegalArgumentException") (by decide +kernel)))), hE.2.2.2.2 ("java/lang/UnsupportedOperationException", "java/lang/IllegalArgumentException") (by decide +kernel)⟩; exact absurd hz List.not_mem_nil) (by decide) (by decide) (va_Nw.use rfl (hE.1 _ (ng_in (w := .classLink RL 106 "java/lang/UnsupportedOperationException") (by decide +kernel)))) (va_Nw.use rfl (hE.1 _ (ng_in (w := .castable "java/lang/UnsupportedOperationException" "java/lang/UnsupportedOperationException") (by decide +kernel)))) h1 h2 h3 ?_
      refine lv_astore (lv' := [(6, .ref q9), (0, .ref (L 0)), (1, .int 9), (2, .int p0), (3, .int p1), (4, .int p2), (5, .int p3)]) hx hb dL_deed_24 hl (by decide) rfl (fun ls hl => ?_)
      refine lv_sipush (v := (-2004)) hx hb dL_deed_26 (by decide) ?_
      refine W.widen (k := 4) (n := 24) (Nat.le_of_ble_eq_true rfl) (Nat.le_of_ble_eq_true rfl) ?_
      exact W.iret (v := (-2004)) hx hb hr (fun t ht hW => ⟨⟨(-2004), x, rfl, Or.inr ⟨_, hpx, (by decide +kernel), rfl⟩, PB.mk9 hP ht⟩, hS.F ht⟩) hS.2.2 dL_deed_29
  refine W.widen (k := 4) (n := 24) (Nat.le_of_ble_eq_true rfl) (Nat.le_of_ble_eq_true rfl) ?_
  exact W.iret (v := r8) hx hb hr (fun t ht hW => ⟨⟨r8, u8, rfl, Or.inl h8, PB.mk9 hP ht⟩, hS.F ht⟩) hS.2.2 dL_deed_11

set_option maxHeartbeats 4000000 in
set_option maxRecDepth 100000 in
theorem dd_10 (l : Launch) (hst : l.stackTraces = false) (g : gE) (base n : Nat) (L : Nat → Nat) (hn : 106 ≤ n) (x : St) (r0 : Nat → va_E) (nb : Nat) (hnb : nb ≤ 6) (hx0 : x 0 0 0 = nI nb) (nn : Nat) (hnn : nn ≤ 40) (hx1 : x 1 0 0 = nI nn) (hsh : ∀ b, b < 6 → x 12 b 0 = -1 ∨ ∃ k, k < 40 ∧ x 12 b 0 = nI k) (p0 p1 p2 p3 : Int32) : Met l yL_deed wsL_deed ({ frames := 13, cells := 4, slots := 24, locals := 380 }) (va_Pc [.ref (L 0), .int 10, .int p0, .int p1, .int p2, .int p3] (PW SS g base n L (cw g L x r0))) (va_Qi (fun (r : Int32) (u : St) => (fun (r : Int32) (u : St) => ∃ j, j < nn ∧ p0 = nI j ∧ (¬ p1 ≤ x 3 0 0 ∧ p1 ≤ x 33 j 0 ∧ x 34 j 0 = 0) ∧ u = st (st x 35 j 0 1) 33 j 0 p1 ∧ r = btF u j nb) r u ∨ ∃ E, (fun E => (E = "java/lang/IndexOutOfBoundsException" ∧ (p0.toInt < 0 ∨ nn ≤ p0.toInt)) ∨ (∃ j, j < nn ∧ p0 = nI j ∧ ((E = "java/lang/IllegalArgumentException" ∧ (p1 ≤ x 3 0 0 ∨ ¬ p1 ≤ x 33 j 0)) ∨ (E = "java/lang/UnsupportedOperationException" ∧ (¬ p1 ≤ x 3 0 0 ∧ p1 ≤ x 33 j 0) ∧ ¬ x 34 j 0 = 0)))) E ∧ r = cdE E ∧ u = x) (fun (u : St) t => PB g n L (cw g L u r0) t) (fun q => base ≤ q)) 4 24 (fun q => base ≤ q) := by
  refine va_MetW (cc := cL_deed) (maxL := 7) (ret := (some .int)) (by decide) rfl ?_
  intro p e s m args below meth c s₁ B hml hv
  obtain ⟨rfl, hPW⟩ := hv
  obtain ⟨hbs, hJ, hP, hK, hE⟩ := id hPW
  have hx := B.exec
  have hb := B.bytes
  have hr := B.returns
  have hts := atoms_spec (ws := wsL_deed) B.pre
  have hown : s.vm.findClass RL = some m.cls := findClass_of_methodNamed B.named
  have hlocks := B.notSynchronized
  have hTB : c.exceptionTable.toList = tableOf [(0, 11, 12, 102), (0, 11, 18, 104), (0, 11, 24, 106), (0, 11, 30, 108), (0, 11, 36, 110)] := vx_table (x := yL_deed) B (hts _ List.mem_cons_self)
  have hS : va_S (fun q : Nat => base ≤ q) s.heap s.heap [] := va_S.rf
  have hl := lv_entry ([.ref (L 0), .int 10, .int p0, .int p1, .int p2, .int p3]) (n := 7) (Nat.le_of_ble_eq_true rfl)
  rw [lg_entry_eq]
  generalize (lg_sl ([.ref (L 0), .int 10, .int p0, .int p1, .int p2, .int p3]) ++ List.replicate (7 - (lg_sl ([.ref (L 0), .int 10, .int p0, .int p1, .int p2, .int p3])).length) Slot.unset).toArray = ls at hl ⊢
  have hl : lv_has ls 7 [(0, .ref (L 0)), (1, .int 10), (2, .int p0), (3, .int p1), (4, .int p2), (5, .int p3)] := hl
  refine lv_aload_n hx hb dL_deed_0 rfl (lv_at hl 0 rfl) ?_
  refine lv_iload_n hx hb dL_deed_1 rfl (lv_at hl 1 rfl) ?_
  refine lv_iload_n hx hb dL_deed_2 rfl (lv_at hl 2 rfl) ?_
  refine lv_iload_n hx hb dL_deed_3 rfl (lv_at hl 3 rfl) ?_
  refine lv_iload hx hb dL_deed_4 (lv_at hl 4 rfl) ?_
  refine lv_iload hx hb dL_deed_6 (lv_at hl 5 rfl) ?_
  refine wx_xcalli (vx_runS (As := [.ref (L 0), .int 10, .int p0, .int p1, .int p2, .int p3]) (rest := []) ⟨hx, hb, hml, hown, hts⟩ (pl_10 l hst g base n L (by omega) x r0 nb hnb hx0 nn hnn hx1 hsh p0 p1 p2 p3) (va_cwS 6 hts gL_deed_L_plain rfl rfl rfl (by decide +kernel) ⟨Nat.le_of_ble_eq_true rfl, Nat.le_of_ble_eq_true rfl⟩) (hPW.preS hP hS) rfl rfl hl.1 rfl (lv_room (Nat.le_of_ble_eq_true rfl)) dL_deed_8 ⟨Nat.le_of_ble_eq_true rfl, Nat.le_of_ble_eq_true rfl⟩) hS (fun E ce q9 H locs hpx hP hS h1 h2 h3 => ?_) (fun r8 u8 H locs h8 hP hS => ?_)
  · have hE9 : E = "java/lang/IndexOutOfBoundsException" ∨ E = "java/lang/IllegalArgumentException" ∨ E = "java/lang/UnsupportedOperationException" := by rcases id hpx with ⟨rfl, -⟩ | ⟨_, -, -, ⟨rfl, -⟩ | ⟨rfl, -⟩⟩ <;> first | exact Or.inl rfl | exact Or.inr (Or.inl rfl) | exact Or.inr (Or.inr (rfl))
    rcases hE9 with rfl | rfl | rfl
    · refine vx_catch (own := RL) (name := "java/lang/IndexOutOfBoundsException") hown [] ⟨0, 11, 12, 102⟩ [⟨0, 11, 18, 104⟩, ⟨0, 11, 24, 106⟩, ⟨0, 11, 30, 108⟩, ⟨0, 11, 36, 110⟩] (hTB.trans rfl) (fun _ h => nomatch h) (by decide) (by decide) (hts (.classLink RL 102 "java/lang/IndexOutOfBoundsException") (by decide +kernel)) (va_Nw.use rfl (hE.1 _ (ng_in (w := .castable "java/lang/IndexOutOfBoundsException" "java/lang/IndexOutOfBoundsException") (by decide +kernel)))) h1 h2 h3 ?_
      refine lv_astore (lv' := [(6, .ref q9), (0, .ref (L 0)), (1, .int 10), (2, .int p0), (3, .int p1), (4, .int p2), (5, .int p3)]) hx hb dL_deed_12 hl (by decide) rfl (fun ls hl => ?_)
      refine lv_sipush (v := (-2001)) hx hb dL_deed_14 (by decide) ?_
      refine W.widen (k := 4) (n := 24) (Nat.le_of_ble_eq_true rfl) (Nat.le_of_ble_eq_true rfl) ?_
      exact W.iret (v := (-2001)) hx hb hr (fun t ht hW => ⟨⟨(-2001), x, rfl, Or.inr ⟨_, hpx, (by decide +kernel), rfl⟩, PB.mk9 hP ht⟩, hS.F ht⟩) hS.2.2 dL_deed_17
    · refine vx_catch (own := RL) (name := "java/lang/IllegalArgumentException") hown [⟨0, 11, 12, 102⟩] ⟨0, 11, 18, 104⟩ [⟨0, 11, 24, 106⟩, ⟨0, 11, 30, 108⟩, ⟨0, 11, 36, 110⟩] (hTB.trans rfl) (fun z hz => by rcases List.mem_cons.mp hz with rfl | hz; exact Or.inr ⟨by decide, "java/lang/IndexOutOfBoundsException", (hts (.classLink RL 102 "java/lang/IndexOutOfBoundsException") (by decide +kernel)), hE.2.2.2.2 ("java/lang/IllegalArgumentException", "java/lang/IndexOutOfBoundsException") (by decide +kernel)⟩; exact absurd hz List.not_mem_nil) (by decide) (by decide) (va_Nw.use rfl (hE.1 _ (ng_in (w := .classLink RL 104 "java/lang/IllegalArgumentException") (by decide +kernel)))) (va_Nw.use rfl (hE.1 _ (ng_in (w := .castable "java/lang/IllegalArgumentException" "java/lang/IllegalArgumentException") (by decide +kernel)))) h1 h2 h3 ?_
      refine lv_astore (lv' := [(6, .ref q9), (0, .ref (L 0)), (1, .int 10), (2, .int p0), (3, .int p1), (4, .int p2), (5, .int p3)]) hx hb dL_deed_18 hl (by decide) rfl (fun ls hl => ?_)
      refine lv_sipush (v := (-2002)) hx hb dL_deed_20 (by decide) ?_
      refine W.widen (k := 4) (n := 24) (Nat.le_of_ble_eq_true rfl) (Nat.le_of_ble_eq_true rfl) ?_
      exact W.iret (v := (-2002)) hx hb hr (fun t ht hW => ⟨⟨(-2002), x, rfl, Or.inr ⟨_, hpx, (by decide +kernel), rfl⟩, PB.mk9 hP ht⟩, hS.F ht⟩) hS.2.2 dL_deed_23
    · refine vx_catch (own := RL) (name := "java/lang/UnsupportedOperationException") hown [⟨0, 11, 12, 102⟩, ⟨0, 11, 18, 104⟩] ⟨0, 11, 24, 106⟩ [⟨0, 11, 30, 108⟩, ⟨0, 11, 36, 110⟩] (hTB.trans rfl) (fun z hz => by rcases List.mem_cons.mp hz with rfl | hz; exact Or.inr ⟨by decide, "java/lang/IndexOutOfBoundsException", (hts (.classLink RL 102 "java/lang/IndexOutOfBoundsException") (by decide +kernel)), hE.2.2.2.2 ("java/lang/UnsupportedOperationException", "java/lang/IndexOutOfBoundsException") (by decide +kernel)⟩; rcases List.mem_cons.mp hz with rfl | hz; exact Or.inr ⟨by decide, "java/lang/IllegalArgumentException", (va_Nw.use rfl (hE.1 _ (ng_in (w := .classLink RL 104 "java/lang/IllegalArgumentException") (by decide +kernel)))), hE.2.2.2.2 ("java/lang/UnsupportedOperationException", "java/lang/IllegalArgumentException") (by decide +kernel)⟩; exact absurd hz List.not_mem_nil) (by decide) (by decide) (va_Nw.use rfl (hE.1 _ (ng_in (w := .classLink RL 106 "java/lang/UnsupportedOperationException") (by decide +kernel)))) (va_Nw.use rfl (hE.1 _ (ng_in (w := .castable "java/lang/UnsupportedOperationException" "java/lang/UnsupportedOperationException") (by decide +kernel)))) h1 h2 h3 ?_
      refine lv_astore (lv' := [(6, .ref q9), (0, .ref (L 0)), (1, .int 10), (2, .int p0), (3, .int p1), (4, .int p2), (5, .int p3)]) hx hb dL_deed_24 hl (by decide) rfl (fun ls hl => ?_)
      refine lv_sipush (v := (-2004)) hx hb dL_deed_26 (by decide) ?_
      refine W.widen (k := 4) (n := 24) (Nat.le_of_ble_eq_true rfl) (Nat.le_of_ble_eq_true rfl) ?_
      exact W.iret (v := (-2004)) hx hb hr (fun t ht hW => ⟨⟨(-2004), x, rfl, Or.inr ⟨_, hpx, (by decide +kernel), rfl⟩, PB.mk9 hP ht⟩, hS.F ht⟩) hS.2.2 dL_deed_29
  refine W.widen (k := 4) (n := 24) (Nat.le_of_ble_eq_true rfl) (Nat.le_of_ble_eq_true rfl) ?_
  exact W.iret (v := r8) hx hb hr (fun t ht hW => ⟨⟨r8, u8, rfl, Or.inl h8, PB.mk9 hP ht⟩, hS.F ht⟩) hS.2.2 dL_deed_11

set_option maxHeartbeats 4000000 in
set_option maxRecDepth 100000 in
theorem dd_11 (l : Launch) (hst : l.stackTraces = false) (g : gE) (base n : Nat) (L : Nat → Nat) (hn : 106 ≤ n) (x : St) (r0 : Nat → va_E) (nb : Nat) (hnb : nb ≤ 6) (hx0 : x 0 0 0 = nI nb) (nn : Nat) (hnn : nn ≤ 40) (hx1 : x 1 0 0 = nI nn) (hrk : ∀ j, j < 40 → (x 43 0 j).toNatClampNeg < 40) (p0 p1 p2 p3 : Int32) : Met l yL_deed wsL_deed ({ frames := 13, cells := 4, slots := 24, locals := 380 }) (va_Pc [.ref (L 0), .int 11, .int p0, .int p1, .int p2, .int p3] (PW SS g base n L (cw g L x r0))) (va_Qi (fun (r : Int32) (u : St) => (fun (r : Int32) (u : St) => ∃ j, j < nn ∧ p0 = nI j ∧ (p1 ≠ 0 ∧ p1 ≠ x 31 j 0) ∧ (x 34 j 0 = 0 ∧ ¬ x 33 j 0 ≤ x 3 0 0) ∧ nn < 40 ∧ u = mdF x j nn nb p1 ∧ r = nI nn) r u ∨ ∃ E, (fun E => (E = "java/lang/IndexOutOfBoundsException" ∧ (p0.toInt < 0 ∨ nn ≤ p0.toInt)) ∨ (∃ j, j < nn ∧ p0 = nI j ∧ ((E = "java/lang/IllegalArgumentException" ∧ ¬ (p1 ≠ 0 ∧ p1 ≠ x 31 j 0)) ∨ (E = "java/lang/UnsupportedOperationException" ∧ (p1 ≠ 0 ∧ p1 ≠ x 31 j 0) ∧ ¬ (x 34 j 0 = 0 ∧ ¬ x 33 j 0 ≤ x 3 0 0)) ∨ (E = "java/lang/IllegalStateException" ∧ (p1 ≠ 0 ∧ p1 ≠ x 31 j 0) ∧ (x 34 j 0 = 0 ∧ ¬ x 33 j 0 ≤ x 3 0 0) ∧ nn = 40)))) E ∧ r = cdE E ∧ u = x) (fun (u : St) t => PB g n L (cw g L u r0) t) (fun q => base ≤ q)) 4 24 (fun q => base ≤ q) := by
  refine va_MetW (cc := cL_deed) (maxL := 7) (ret := (some .int)) (by decide) rfl ?_
  intro p e s m args below meth c s₁ B hml hv
  obtain ⟨rfl, hPW⟩ := hv
  obtain ⟨hbs, hJ, hP, hK, hE⟩ := id hPW
  have hx := B.exec
  have hb := B.bytes
  have hr := B.returns
  have hts := atoms_spec (ws := wsL_deed) B.pre
  have hown : s.vm.findClass RL = some m.cls := findClass_of_methodNamed B.named
  have hlocks := B.notSynchronized
  have hTB : c.exceptionTable.toList = tableOf [(0, 11, 12, 102), (0, 11, 18, 104), (0, 11, 24, 106), (0, 11, 30, 108), (0, 11, 36, 110)] := vx_table (x := yL_deed) B (hts _ List.mem_cons_self)
  have hS : va_S (fun q : Nat => base ≤ q) s.heap s.heap [] := va_S.rf
  have hl := lv_entry ([.ref (L 0), .int 11, .int p0, .int p1, .int p2, .int p3]) (n := 7) (Nat.le_of_ble_eq_true rfl)
  rw [lg_entry_eq]
  generalize (lg_sl ([.ref (L 0), .int 11, .int p0, .int p1, .int p2, .int p3]) ++ List.replicate (7 - (lg_sl ([.ref (L 0), .int 11, .int p0, .int p1, .int p2, .int p3])).length) Slot.unset).toArray = ls at hl ⊢
  have hl : lv_has ls 7 [(0, .ref (L 0)), (1, .int 11), (2, .int p0), (3, .int p1), (4, .int p2), (5, .int p3)] := hl
  refine lv_aload_n hx hb dL_deed_0 rfl (lv_at hl 0 rfl) ?_
  refine lv_iload_n hx hb dL_deed_1 rfl (lv_at hl 1 rfl) ?_
  refine lv_iload_n hx hb dL_deed_2 rfl (lv_at hl 2 rfl) ?_
  refine lv_iload_n hx hb dL_deed_3 rfl (lv_at hl 3 rfl) ?_
  refine lv_iload hx hb dL_deed_4 (lv_at hl 4 rfl) ?_
  refine lv_iload hx hb dL_deed_6 (lv_at hl 5 rfl) ?_
  refine wx_xcalli (vx_runS (As := [.ref (L 0), .int 11, .int p0, .int p1, .int p2, .int p3]) (rest := []) ⟨hx, hb, hml, hown, hts⟩ (pl_11 l hst g base n L (by omega) x r0 nb hnb hx0 nn hnn hx1 hrk p0 p1 p2 p3) (va_cwS 6 hts gL_deed_L_plain rfl rfl rfl (by decide +kernel) ⟨Nat.le_of_ble_eq_true rfl, Nat.le_of_ble_eq_true rfl⟩) (hPW.preS hP hS) rfl rfl hl.1 rfl (lv_room (Nat.le_of_ble_eq_true rfl)) dL_deed_8 ⟨Nat.le_of_ble_eq_true rfl, Nat.le_of_ble_eq_true rfl⟩) hS (fun E ce q9 H locs hpx hP hS h1 h2 h3 => ?_) (fun r8 u8 H locs h8 hP hS => ?_)
  · have hE9 : E = "java/lang/IndexOutOfBoundsException" ∨ E = "java/lang/IllegalArgumentException" ∨ E = "java/lang/UnsupportedOperationException" ∨ E = "java/lang/IllegalStateException" := by rcases id hpx with ⟨rfl, -⟩ | ⟨_, -, -, ⟨rfl, -⟩ | ⟨rfl, -⟩ | ⟨rfl, -⟩⟩ <;> first | exact Or.inl rfl | exact Or.inr (Or.inl rfl) | exact Or.inr (Or.inr (Or.inl rfl)) | exact Or.inr (Or.inr (Or.inr (rfl)))
    rcases hE9 with rfl | rfl | rfl | rfl
    · refine vx_catch (own := RL) (name := "java/lang/IndexOutOfBoundsException") hown [] ⟨0, 11, 12, 102⟩ [⟨0, 11, 18, 104⟩, ⟨0, 11, 24, 106⟩, ⟨0, 11, 30, 108⟩, ⟨0, 11, 36, 110⟩] (hTB.trans rfl) (fun _ h => nomatch h) (by decide) (by decide) (hts (.classLink RL 102 "java/lang/IndexOutOfBoundsException") (by decide +kernel)) (va_Nw.use rfl (hE.1 _ (ng_in (w := .castable "java/lang/IndexOutOfBoundsException" "java/lang/IndexOutOfBoundsException") (by decide +kernel)))) h1 h2 h3 ?_
      refine lv_astore (lv' := [(6, .ref q9), (0, .ref (L 0)), (1, .int 11), (2, .int p0), (3, .int p1), (4, .int p2), (5, .int p3)]) hx hb dL_deed_12 hl (by decide) rfl (fun ls hl => ?_)
      refine lv_sipush (v := (-2001)) hx hb dL_deed_14 (by decide) ?_
      refine W.widen (k := 4) (n := 24) (Nat.le_of_ble_eq_true rfl) (Nat.le_of_ble_eq_true rfl) ?_
      exact W.iret (v := (-2001)) hx hb hr (fun t ht hW => ⟨⟨(-2001), x, rfl, Or.inr ⟨_, hpx, (by decide +kernel), rfl⟩, PB.mk9 hP ht⟩, hS.F ht⟩) hS.2.2 dL_deed_17
    · refine vx_catch (own := RL) (name := "java/lang/IllegalArgumentException") hown [⟨0, 11, 12, 102⟩] ⟨0, 11, 18, 104⟩ [⟨0, 11, 24, 106⟩, ⟨0, 11, 30, 108⟩, ⟨0, 11, 36, 110⟩] (hTB.trans rfl) (fun z hz => by rcases List.mem_cons.mp hz with rfl | hz; exact Or.inr ⟨by decide, "java/lang/IndexOutOfBoundsException", (hts (.classLink RL 102 "java/lang/IndexOutOfBoundsException") (by decide +kernel)), hE.2.2.2.2 ("java/lang/IllegalArgumentException", "java/lang/IndexOutOfBoundsException") (by decide +kernel)⟩; exact absurd hz List.not_mem_nil) (by decide) (by decide) (va_Nw.use rfl (hE.1 _ (ng_in (w := .classLink RL 104 "java/lang/IllegalArgumentException") (by decide +kernel)))) (va_Nw.use rfl (hE.1 _ (ng_in (w := .castable "java/lang/IllegalArgumentException" "java/lang/IllegalArgumentException") (by decide +kernel)))) h1 h2 h3 ?_
      refine lv_astore (lv' := [(6, .ref q9), (0, .ref (L 0)), (1, .int 11), (2, .int p0), (3, .int p1), (4, .int p2), (5, .int p3)]) hx hb dL_deed_18 hl (by decide) rfl (fun ls hl => ?_)
      refine lv_sipush (v := (-2002)) hx hb dL_deed_20 (by decide) ?_
      refine W.widen (k := 4) (n := 24) (Nat.le_of_ble_eq_true rfl) (Nat.le_of_ble_eq_true rfl) ?_
      exact W.iret (v := (-2002)) hx hb hr (fun t ht hW => ⟨⟨(-2002), x, rfl, Or.inr ⟨_, hpx, (by decide +kernel), rfl⟩, PB.mk9 hP ht⟩, hS.F ht⟩) hS.2.2 dL_deed_23
    · refine vx_catch (own := RL) (name := "java/lang/UnsupportedOperationException") hown [⟨0, 11, 12, 102⟩, ⟨0, 11, 18, 104⟩] ⟨0, 11, 24, 106⟩ [⟨0, 11, 30, 108⟩, ⟨0, 11, 36, 110⟩] (hTB.trans rfl) (fun z hz => by rcases List.mem_cons.mp hz with rfl | hz; exact Or.inr ⟨by decide, "java/lang/IndexOutOfBoundsException", (hts (.classLink RL 102 "java/lang/IndexOutOfBoundsException") (by decide +kernel)), hE.2.2.2.2 ("java/lang/UnsupportedOperationException", "java/lang/IndexOutOfBoundsException") (by decide +kernel)⟩; rcases List.mem_cons.mp hz with rfl | hz; exact Or.inr ⟨by decide, "java/lang/IllegalArgumentException", (va_Nw.use rfl (hE.1 _ (ng_in (w := .classLink RL 104 "java/lang/IllegalArgumentException") (by decide +kernel)))), hE.2.2.2.2 ("java/lang/UnsupportedOperationException", "java/lang/IllegalArgumentException") (by decide +kernel)⟩; exact absurd hz List.not_mem_nil) (by decide) (by decide) (va_Nw.use rfl (hE.1 _ (ng_in (w := .classLink RL 106 "java/lang/UnsupportedOperationException") (by decide +kernel)))) (va_Nw.use rfl (hE.1 _ (ng_in (w := .castable "java/lang/UnsupportedOperationException" "java/lang/UnsupportedOperationException") (by decide +kernel)))) h1 h2 h3 ?_
      refine lv_astore (lv' := [(6, .ref q9), (0, .ref (L 0)), (1, .int 11), (2, .int p0), (3, .int p1), (4, .int p2), (5, .int p3)]) hx hb dL_deed_24 hl (by decide) rfl (fun ls hl => ?_)
      refine lv_sipush (v := (-2004)) hx hb dL_deed_26 (by decide) ?_
      refine W.widen (k := 4) (n := 24) (Nat.le_of_ble_eq_true rfl) (Nat.le_of_ble_eq_true rfl) ?_
      exact W.iret (v := (-2004)) hx hb hr (fun t ht hW => ⟨⟨(-2004), x, rfl, Or.inr ⟨_, hpx, (by decide +kernel), rfl⟩, PB.mk9 hP ht⟩, hS.F ht⟩) hS.2.2 dL_deed_29
    · refine vx_catch (own := RL) (name := "java/lang/IllegalStateException") hown [⟨0, 11, 12, 102⟩, ⟨0, 11, 18, 104⟩, ⟨0, 11, 24, 106⟩, ⟨0, 11, 30, 108⟩] ⟨0, 11, 36, 110⟩ [] (hTB.trans rfl) (fun z hz => by rcases List.mem_cons.mp hz with rfl | hz; exact Or.inr ⟨by decide, "java/lang/IndexOutOfBoundsException", (hts (.classLink RL 102 "java/lang/IndexOutOfBoundsException") (by decide +kernel)), hE.2.2.2.2 ("java/lang/IllegalStateException", "java/lang/IndexOutOfBoundsException") (by decide +kernel)⟩; rcases List.mem_cons.mp hz with rfl | hz; exact Or.inr ⟨by decide, "java/lang/IllegalArgumentException", (va_Nw.use rfl (hE.1 _ (ng_in (w := .classLink RL 104 "java/lang/IllegalArgumentException") (by decide +kernel)))), hE.2.2.2.2 ("java/lang/IllegalStateException", "java/lang/IllegalArgumentException") (by decide +kernel)⟩; rcases List.mem_cons.mp hz with rfl | hz; exact Or.inr ⟨by decide, "java/lang/UnsupportedOperationException", (va_Nw.use rfl (hE.1 _ (ng_in (w := .classLink RL 106 "java/lang/UnsupportedOperationException") (by decide +kernel)))), hE.2.2.2.2 ("java/lang/IllegalStateException", "java/lang/UnsupportedOperationException") (by decide +kernel)⟩; rcases List.mem_cons.mp hz with rfl | hz; exact Or.inr ⟨by decide, "java/lang/ArithmeticException", (va_Nw.use rfl (hE.1 _ (ng_in (w := .classLink RL 108 "java/lang/ArithmeticException") (by decide +kernel)))), hE.2.2.2.2 ("java/lang/IllegalStateException", "java/lang/ArithmeticException") (by decide +kernel)⟩; exact absurd hz List.not_mem_nil) (by decide) (by decide) (va_Nw.use rfl (hE.1 _ (ng_in (w := .classLink RL 110 "java/lang/IllegalStateException") (by decide +kernel)))) (va_Nw.use rfl (hE.1 _ (ng_in (w := .castable "java/lang/IllegalStateException" "java/lang/IllegalStateException") (by decide +kernel)))) h1 h2 h3 ?_
      refine lv_astore (lv' := [(6, .ref q9), (0, .ref (L 0)), (1, .int 11), (2, .int p0), (3, .int p1), (4, .int p2), (5, .int p3)]) hx hb dL_deed_36 hl (by decide) rfl (fun ls hl => ?_)
      refine lv_sipush (v := (-2003)) hx hb dL_deed_38 (by decide) ?_
      refine W.widen (k := 4) (n := 24) (Nat.le_of_ble_eq_true rfl) (Nat.le_of_ble_eq_true rfl) ?_
      exact W.iret (v := (-2003)) hx hb hr (fun t ht hW => ⟨⟨(-2003), x, rfl, Or.inr ⟨_, hpx, (by decide +kernel), rfl⟩, PB.mk9 hP ht⟩, hS.F ht⟩) hS.2.2 dL_deed_41
  refine W.widen (k := 4) (n := 24) (Nat.le_of_ble_eq_true rfl) (Nat.le_of_ble_eq_true rfl) ?_
  exact W.iret (v := r8) hx hb hr (fun t ht hW => ⟨⟨r8, u8, rfl, Or.inl h8, PB.mk9 hP ht⟩, hS.F ht⟩) hS.2.2 dL_deed_11

set_option maxHeartbeats 4000000 in
set_option maxRecDepth 100000 in
theorem dd_13 (l : Launch) (hst : l.stackTraces = false) (g : gE) (base n : Nat) (L : Nat → Nat) (hn : 106 ≤ n) (x : St) (r0 : Nat → va_E) (nn : Nat) (hnn : nn ≤ 40) (hx1 : x 1 0 0 = nI nn) (p0 p1 p2 p3 : Int32) : Met l yL_deed wsL_deed ({ frames := 13, cells := 4, slots := 24, locals := 380 }) (va_Pc [.ref (L 0), .int 13, .int p0, .int p1, .int p2, .int p3] (PW SS g base n L (cw g L x r0))) (va_Qi (fun (r : Int32) (u : Unit) => (fun (r : Int32) (_ : Unit) => (0 ≤ p0.toInt ∧ p0.toInt ≤ 3) ∧ r = qcF x p0 nn) r u ∨ ∃ E, (fun E => E = "java/lang/IllegalArgumentException" ∧ (p0.toInt < 0 ∨ 3 < p0.toInt)) E ∧ r = cdE E) (fun (u : Unit) t => PB g n L (cw g L x r0) t) (fun q => base ≤ q)) 4 24 (fun q => base ≤ q) := by
  refine va_MetW (cc := cL_deed) (maxL := 7) (ret := (some .int)) (by decide) rfl ?_
  intro p e s m args below meth c s₁ B hml hv
  obtain ⟨rfl, hPW⟩ := hv
  obtain ⟨hbs, hJ, hP, hK, hE⟩ := id hPW
  have hx := B.exec
  have hb := B.bytes
  have hr := B.returns
  have hts := atoms_spec (ws := wsL_deed) B.pre
  have hown : s.vm.findClass RL = some m.cls := findClass_of_methodNamed B.named
  have hlocks := B.notSynchronized
  have hTB : c.exceptionTable.toList = tableOf [(0, 11, 12, 102), (0, 11, 18, 104), (0, 11, 24, 106), (0, 11, 30, 108), (0, 11, 36, 110)] := vx_table (x := yL_deed) B (hts _ List.mem_cons_self)
  have hS : va_S (fun q : Nat => base ≤ q) s.heap s.heap [] := va_S.rf
  have hl := lv_entry ([.ref (L 0), .int 13, .int p0, .int p1, .int p2, .int p3]) (n := 7) (Nat.le_of_ble_eq_true rfl)
  rw [lg_entry_eq]
  generalize (lg_sl ([.ref (L 0), .int 13, .int p0, .int p1, .int p2, .int p3]) ++ List.replicate (7 - (lg_sl ([.ref (L 0), .int 13, .int p0, .int p1, .int p2, .int p3])).length) Slot.unset).toArray = ls at hl ⊢
  have hl : lv_has ls 7 [(0, .ref (L 0)), (1, .int 13), (2, .int p0), (3, .int p1), (4, .int p2), (5, .int p3)] := hl
  refine lv_aload_n hx hb dL_deed_0 rfl (lv_at hl 0 rfl) ?_
  refine lv_iload_n hx hb dL_deed_1 rfl (lv_at hl 1 rfl) ?_
  refine lv_iload_n hx hb dL_deed_2 rfl (lv_at hl 2 rfl) ?_
  refine lv_iload_n hx hb dL_deed_3 rfl (lv_at hl 3 rfl) ?_
  refine lv_iload hx hb dL_deed_4 (lv_at hl 4 rfl) ?_
  refine lv_iload hx hb dL_deed_6 (lv_at hl 5 rfl) ?_
  refine wx_xcalli (vx_runS (As := [.ref (L 0), .int 13, .int p0, .int p1, .int p2, .int p3]) (rest := []) ⟨hx, hb, hml, hown, hts⟩ (pl_13 l hst g base n L (by omega) x r0 nn hnn hx1 p0 p1 p2 p3) (va_cwS 6 hts gL_deed_L_plain rfl rfl rfl (by decide +kernel) ⟨Nat.le_of_ble_eq_true rfl, Nat.le_of_ble_eq_true rfl⟩) (hPW.preS hP hS) rfl rfl hl.1 rfl (lv_room (Nat.le_of_ble_eq_true rfl)) dL_deed_8 ⟨Nat.le_of_ble_eq_true rfl, Nat.le_of_ble_eq_true rfl⟩) hS (fun E ce q9 H locs hpx hP hS h1 h2 h3 => ?_) (fun r8 u8 H locs h8 hP hS => ?_)
  · have hE9 : E = "java/lang/IllegalArgumentException" := by rcases id hpx with ⟨rfl, -⟩ <;> first | exact rfl
    obtain rfl := hE9
    refine vx_catch (own := RL) (name := "java/lang/IllegalArgumentException") hown [⟨0, 11, 12, 102⟩] ⟨0, 11, 18, 104⟩ [⟨0, 11, 24, 106⟩, ⟨0, 11, 30, 108⟩, ⟨0, 11, 36, 110⟩] (hTB.trans rfl) (fun z hz => by rcases List.mem_cons.mp hz with rfl | hz; exact Or.inr ⟨by decide, "java/lang/IndexOutOfBoundsException", (hts (.classLink RL 102 "java/lang/IndexOutOfBoundsException") (by decide +kernel)), hE.2.2.2.2 ("java/lang/IllegalArgumentException", "java/lang/IndexOutOfBoundsException") (by decide +kernel)⟩; exact absurd hz List.not_mem_nil) (by decide) (by decide) (va_Nw.use rfl (hE.1 _ (ng_in (w := .classLink RL 104 "java/lang/IllegalArgumentException") (by decide +kernel)))) (va_Nw.use rfl (hE.1 _ (ng_in (w := .castable "java/lang/IllegalArgumentException" "java/lang/IllegalArgumentException") (by decide +kernel)))) h1 h2 h3 ?_
    refine lv_astore (lv' := [(6, .ref q9), (0, .ref (L 0)), (1, .int 13), (2, .int p0), (3, .int p1), (4, .int p2), (5, .int p3)]) hx hb dL_deed_18 hl (by decide) rfl (fun ls hl => ?_)
    refine lv_sipush (v := (-2002)) hx hb dL_deed_20 (by decide) ?_
    refine W.widen (k := 4) (n := 24) (Nat.le_of_ble_eq_true rfl) (Nat.le_of_ble_eq_true rfl) ?_
    exact W.iret (v := (-2002)) hx hb hr (fun t ht hW => ⟨⟨(-2002), (), rfl, Or.inr ⟨_, hpx, (by decide +kernel)⟩, PB.mk9 hP ht⟩, hS.F ht⟩) hS.2.2 dL_deed_23
  refine W.widen (k := 4) (n := 24) (Nat.le_of_ble_eq_true rfl) (Nat.le_of_ble_eq_true rfl) ?_
  exact W.iret (v := r8) hx hb hr (fun t ht hW => ⟨⟨r8, (), rfl, Or.inl h8, PB.mk9 hP ht⟩, hS.F ht⟩) hS.2.2 dL_deed_11

set_option maxHeartbeats 4000000 in
set_option maxRecDepth 100000 in
theorem dd_14 (l : Launch) (hst : l.stackTraces = false) (g : gE) (base n : Nat) (L : Nat → Nat) (hn : 106 ≤ n) (x : St) (r0 : Nat → va_E) (nn : Nat) (hnn : nn ≤ 40) (hx1 : x 1 0 0 = nI nn) (hrk : ∀ j, j < 40 → (x 43 0 j).toNatClampNeg < 40) (p0 p1 p2 p3 : Int32) : Met l yL_deed wsL_deed ({ frames := 13, cells := 4, slots := 24, locals := 380 }) (va_Pc [.ref (L 0), .int 14, .int p0, .int p1, .int p2, .int p3] (PW SS g base n L (cw g L x r0))) (va_Qi (fun (r : Int32) (u : Unit) => (fun (r : Int32) (_ : Unit) => (0 ≤ p0.toInt ∧ p0.toInt ≤ 3) ∧ ∃ k, k < nn ∧ (qcP x (x 43 0 k).toNatClampNeg p0 ∧ qrF x p0 k = p1) ∧ r = nI (x 43 0 k).toNatClampNeg ∧ ∀ j, j < k → ¬ (qcP x (x 43 0 j).toNatClampNeg p0 ∧ qrF x p0 j = p1)) r u ∨ ∃ E, (fun E => (E = "java/lang/IllegalArgumentException" ∧ (p0.toInt < 0 ∨ 3 < p0.toInt)) ∨ (E = "java/lang/IndexOutOfBoundsException" ∧ (0 ≤ p0.toInt ∧ p0.toInt ≤ 3) ∧ ∀ j, j < nn → ¬ (qcP x (x 43 0 j).toNatClampNeg p0 ∧ qrF x p0 j = p1))) E ∧ r = cdE E) (fun (u : Unit) t => PB g n L (cw g L x r0) t) (fun q => base ≤ q)) 4 24 (fun q => base ≤ q) := by
  refine va_MetW (cc := cL_deed) (maxL := 7) (ret := (some .int)) (by decide) rfl ?_
  intro p e s m args below meth c s₁ B hml hv
  obtain ⟨rfl, hPW⟩ := hv
  obtain ⟨hbs, hJ, hP, hK, hE⟩ := id hPW
  have hx := B.exec
  have hb := B.bytes
  have hr := B.returns
  have hts := atoms_spec (ws := wsL_deed) B.pre
  have hown : s.vm.findClass RL = some m.cls := findClass_of_methodNamed B.named
  have hlocks := B.notSynchronized
  have hTB : c.exceptionTable.toList = tableOf [(0, 11, 12, 102), (0, 11, 18, 104), (0, 11, 24, 106), (0, 11, 30, 108), (0, 11, 36, 110)] := vx_table (x := yL_deed) B (hts _ List.mem_cons_self)
  have hS : va_S (fun q : Nat => base ≤ q) s.heap s.heap [] := va_S.rf
  have hl := lv_entry ([.ref (L 0), .int 14, .int p0, .int p1, .int p2, .int p3]) (n := 7) (Nat.le_of_ble_eq_true rfl)
  rw [lg_entry_eq]
  generalize (lg_sl ([.ref (L 0), .int 14, .int p0, .int p1, .int p2, .int p3]) ++ List.replicate (7 - (lg_sl ([.ref (L 0), .int 14, .int p0, .int p1, .int p2, .int p3])).length) Slot.unset).toArray = ls at hl ⊢
  have hl : lv_has ls 7 [(0, .ref (L 0)), (1, .int 14), (2, .int p0), (3, .int p1), (4, .int p2), (5, .int p3)] := hl
  refine lv_aload_n hx hb dL_deed_0 rfl (lv_at hl 0 rfl) ?_
  refine lv_iload_n hx hb dL_deed_1 rfl (lv_at hl 1 rfl) ?_
  refine lv_iload_n hx hb dL_deed_2 rfl (lv_at hl 2 rfl) ?_
  refine lv_iload_n hx hb dL_deed_3 rfl (lv_at hl 3 rfl) ?_
  refine lv_iload hx hb dL_deed_4 (lv_at hl 4 rfl) ?_
  refine lv_iload hx hb dL_deed_6 (lv_at hl 5 rfl) ?_
  refine wx_xcalli (vx_runS (As := [.ref (L 0), .int 14, .int p0, .int p1, .int p2, .int p3]) (rest := []) ⟨hx, hb, hml, hown, hts⟩ (pl_14 l hst g base n L (by omega) x r0 nn hnn hx1 hrk p0 p1 p2 p3) (va_cwS 6 hts gL_deed_L_plain rfl rfl rfl (by decide +kernel) ⟨Nat.le_of_ble_eq_true rfl, Nat.le_of_ble_eq_true rfl⟩) (hPW.preS hP hS) rfl rfl hl.1 rfl (lv_room (Nat.le_of_ble_eq_true rfl)) dL_deed_8 ⟨Nat.le_of_ble_eq_true rfl, Nat.le_of_ble_eq_true rfl⟩) hS (fun E ce q9 H locs hpx hP hS h1 h2 h3 => ?_) (fun r8 u8 H locs h8 hP hS => ?_)
  · have hE9 : E = "java/lang/IllegalArgumentException" ∨ E = "java/lang/IndexOutOfBoundsException" := by rcases id hpx with ⟨rfl, -⟩ | ⟨rfl, -⟩ <;> first | exact Or.inl rfl | exact Or.inr (rfl)
    rcases hE9 with rfl | rfl
    · refine vx_catch (own := RL) (name := "java/lang/IllegalArgumentException") hown [⟨0, 11, 12, 102⟩] ⟨0, 11, 18, 104⟩ [⟨0, 11, 24, 106⟩, ⟨0, 11, 30, 108⟩, ⟨0, 11, 36, 110⟩] (hTB.trans rfl) (fun z hz => by rcases List.mem_cons.mp hz with rfl | hz; exact Or.inr ⟨by decide, "java/lang/IndexOutOfBoundsException", (hts (.classLink RL 102 "java/lang/IndexOutOfBoundsException") (by decide +kernel)), hE.2.2.2.2 ("java/lang/IllegalArgumentException", "java/lang/IndexOutOfBoundsException") (by decide +kernel)⟩; exact absurd hz List.not_mem_nil) (by decide) (by decide) (va_Nw.use rfl (hE.1 _ (ng_in (w := .classLink RL 104 "java/lang/IllegalArgumentException") (by decide +kernel)))) (va_Nw.use rfl (hE.1 _ (ng_in (w := .castable "java/lang/IllegalArgumentException" "java/lang/IllegalArgumentException") (by decide +kernel)))) h1 h2 h3 ?_
      refine lv_astore (lv' := [(6, .ref q9), (0, .ref (L 0)), (1, .int 14), (2, .int p0), (3, .int p1), (4, .int p2), (5, .int p3)]) hx hb dL_deed_18 hl (by decide) rfl (fun ls hl => ?_)
      refine lv_sipush (v := (-2002)) hx hb dL_deed_20 (by decide) ?_
      refine W.widen (k := 4) (n := 24) (Nat.le_of_ble_eq_true rfl) (Nat.le_of_ble_eq_true rfl) ?_
      exact W.iret (v := (-2002)) hx hb hr (fun t ht hW => ⟨⟨(-2002), (), rfl, Or.inr ⟨_, hpx, (by decide +kernel)⟩, PB.mk9 hP ht⟩, hS.F ht⟩) hS.2.2 dL_deed_23
    · refine vx_catch (own := RL) (name := "java/lang/IndexOutOfBoundsException") hown [] ⟨0, 11, 12, 102⟩ [⟨0, 11, 18, 104⟩, ⟨0, 11, 24, 106⟩, ⟨0, 11, 30, 108⟩, ⟨0, 11, 36, 110⟩] (hTB.trans rfl) (fun _ h => nomatch h) (by decide) (by decide) (hts (.classLink RL 102 "java/lang/IndexOutOfBoundsException") (by decide +kernel)) (va_Nw.use rfl (hE.1 _ (ng_in (w := .castable "java/lang/IndexOutOfBoundsException" "java/lang/IndexOutOfBoundsException") (by decide +kernel)))) h1 h2 h3 ?_
      refine lv_astore (lv' := [(6, .ref q9), (0, .ref (L 0)), (1, .int 14), (2, .int p0), (3, .int p1), (4, .int p2), (5, .int p3)]) hx hb dL_deed_12 hl (by decide) rfl (fun ls hl => ?_)
      refine lv_sipush (v := (-2001)) hx hb dL_deed_14 (by decide) ?_
      refine W.widen (k := 4) (n := 24) (Nat.le_of_ble_eq_true rfl) (Nat.le_of_ble_eq_true rfl) ?_
      exact W.iret (v := (-2001)) hx hb hr (fun t ht hW => ⟨⟨(-2001), (), rfl, Or.inr ⟨_, hpx, (by decide +kernel)⟩, PB.mk9 hP ht⟩, hS.F ht⟩) hS.2.2 dL_deed_17
  refine W.widen (k := 4) (n := 24) (Nat.le_of_ble_eq_true rfl) (Nat.le_of_ble_eq_true rfl) ?_
  exact W.iret (v := r8) hx hb hr (fun t ht hW => ⟨⟨r8, (), rfl, Or.inl h8, PB.mk9 hP ht⟩, hS.F ht⟩) hS.2.2 dL_deed_11

set_option maxHeartbeats 4000000 in
set_option maxRecDepth 100000 in
theorem dd_15 (l : Launch) (hst : l.stackTraces = false) (g : gE) (base n : Nat) (L : Nat → Nat) (hn : 106 ≤ n) (x : St) (r0 : Nat → va_E) (nn : Nat) (hnn : nn ≤ 40) (hx1 : x 1 0 0 = nI nn) (p0 p1 p2 p3 : Int32) : Met l yL_deed wsL_deed ({ frames := 13, cells := 4, slots := 24, locals := 380 }) (va_Pc [.ref (L 0), .int 15, .int p0, .int p1, .int p2, .int p3] (PW SS g base n L (cw g L x r0))) (va_Qi (fun (r : Int32) (u : Unit) => (fun (r : Int32) (u : Unit) => ∃ v : Int32, (fun (r : Int32) (_ : Unit) => ∃ j, j < nn ∧ p0 = nI j ∧ ((r = 1 ∧ (x 32 j 0 ≤ x 3 0 0 ∧ x 3 0 0 < x 33 j 0)) ∨ (r = 0 ∧ ¬ ((x 32 j 0 ≤ x 3 0 0 ∧ x 3 0 0 < x 33 j 0))))) v () ∧ r = if v = 0 then 0 else 1) r u ∨ ∃ E, (fun E => E = "java/lang/IndexOutOfBoundsException" ∧ (p0.toInt < 0 ∨ nn ≤ p0.toInt)) E ∧ r = cdE E) (fun (u : Unit) t => PB g n L (cw g L x r0) t) (fun q => base ≤ q)) 4 24 (fun q => base ≤ q) := by
  refine va_MetW (cc := cL_deed) (maxL := 7) (ret := (some .int)) (by decide) rfl ?_
  intro p e s m args below meth c s₁ B hml hv
  obtain ⟨rfl, hPW⟩ := hv
  obtain ⟨hbs, hJ, hP, hK, hE⟩ := id hPW
  have hx := B.exec
  have hb := B.bytes
  have hr := B.returns
  have hts := atoms_spec (ws := wsL_deed) B.pre
  have hown : s.vm.findClass RL = some m.cls := findClass_of_methodNamed B.named
  have hlocks := B.notSynchronized
  have hTB : c.exceptionTable.toList = tableOf [(0, 11, 12, 102), (0, 11, 18, 104), (0, 11, 24, 106), (0, 11, 30, 108), (0, 11, 36, 110)] := vx_table (x := yL_deed) B (hts _ List.mem_cons_self)
  have hS : va_S (fun q : Nat => base ≤ q) s.heap s.heap [] := va_S.rf
  have hl := lv_entry ([.ref (L 0), .int 15, .int p0, .int p1, .int p2, .int p3]) (n := 7) (Nat.le_of_ble_eq_true rfl)
  rw [lg_entry_eq]
  generalize (lg_sl ([.ref (L 0), .int 15, .int p0, .int p1, .int p2, .int p3]) ++ List.replicate (7 - (lg_sl ([.ref (L 0), .int 15, .int p0, .int p1, .int p2, .int p3])).length) Slot.unset).toArray = ls at hl ⊢
  have hl : lv_has ls 7 [(0, .ref (L 0)), (1, .int 15), (2, .int p0), (3, .int p1), (4, .int p2), (5, .int p3)] := hl
  refine lv_aload_n hx hb dL_deed_0 rfl (lv_at hl 0 rfl) ?_
  refine lv_iload_n hx hb dL_deed_1 rfl (lv_at hl 1 rfl) ?_
  refine lv_iload_n hx hb dL_deed_2 rfl (lv_at hl 2 rfl) ?_
  refine lv_iload_n hx hb dL_deed_3 rfl (lv_at hl 3 rfl) ?_
  refine lv_iload hx hb dL_deed_4 (lv_at hl 4 rfl) ?_
  refine lv_iload hx hb dL_deed_6 (lv_at hl 5 rfl) ?_
  refine wx_xcalli (vx_runS (As := [.ref (L 0), .int 15, .int p0, .int p1, .int p2, .int p3]) (rest := []) ⟨hx, hb, hml, hown, hts⟩ (pl_15 l hst g base n L (by omega) x r0 nn hnn hx1 p0 p1 p2 p3) (va_cwS 6 hts gL_deed_L_plain rfl rfl rfl (by decide +kernel) ⟨Nat.le_of_ble_eq_true rfl, Nat.le_of_ble_eq_true rfl⟩) (hPW.preS hP hS) rfl rfl hl.1 rfl (lv_room (Nat.le_of_ble_eq_true rfl)) dL_deed_8 ⟨Nat.le_of_ble_eq_true rfl, Nat.le_of_ble_eq_true rfl⟩) hS (fun E ce q9 H locs hpx hP hS h1 h2 h3 => ?_) (fun r8 u8 H locs h8 hP hS => ?_)
  · have hE9 : E = "java/lang/IndexOutOfBoundsException" := by rcases id hpx with ⟨rfl, -⟩ <;> first | exact rfl
    obtain rfl := hE9
    refine vx_catch (own := RL) (name := "java/lang/IndexOutOfBoundsException") hown [] ⟨0, 11, 12, 102⟩ [⟨0, 11, 18, 104⟩, ⟨0, 11, 24, 106⟩, ⟨0, 11, 30, 108⟩, ⟨0, 11, 36, 110⟩] (hTB.trans rfl) (fun _ h => nomatch h) (by decide) (by decide) (hts (.classLink RL 102 "java/lang/IndexOutOfBoundsException") (by decide +kernel)) (va_Nw.use rfl (hE.1 _ (ng_in (w := .castable "java/lang/IndexOutOfBoundsException" "java/lang/IndexOutOfBoundsException") (by decide +kernel)))) h1 h2 h3 ?_
    refine lv_astore (lv' := [(6, .ref q9), (0, .ref (L 0)), (1, .int 15), (2, .int p0), (3, .int p1), (4, .int p2), (5, .int p3)]) hx hb dL_deed_12 hl (by decide) rfl (fun ls hl => ?_)
    refine lv_sipush (v := (-2001)) hx hb dL_deed_14 (by decide) ?_
    refine W.widen (k := 4) (n := 24) (Nat.le_of_ble_eq_true rfl) (Nat.le_of_ble_eq_true rfl) ?_
    exact W.iret (v := (-2001)) hx hb hr (fun t ht hW => ⟨⟨(-2001), (), rfl, Or.inr ⟨_, hpx, (by decide +kernel)⟩, PB.mk9 hP ht⟩, hS.F ht⟩) hS.2.2 dL_deed_17
  refine W.widen (k := 4) (n := 24) (Nat.le_of_ble_eq_true rfl) (Nat.le_of_ble_eq_true rfl) ?_
  exact W.iret (v := r8) hx hb hr (fun t ht hW => ⟨⟨r8, (), rfl, Or.inl h8, PB.mk9 hP ht⟩, hS.F ht⟩) hS.2.2 dL_deed_11

set_option maxHeartbeats 4000000 in
set_option maxRecDepth 100000 in
theorem dd_16 (l : Launch) (hst : l.stackTraces = false) (g : gE) (base n : Nat) (L : Nat → Nat) (hn : 106 ≤ n) (x : St) (r0 : Nat → va_E) (nb : Nat) (hnb : nb ≤ 6) (hx0 : x 0 0 0 = nI nb) (hsh : ∀ b, b < 6 → x 12 b 0 = -1 ∨ ∃ k, k < 40 ∧ x 12 b 0 = nI k) (cnt : Nat) (hcn : cnt ≤ 512) (hx4 : x 4 0 0 = nI cnt) (p0 p1 p2 p3 : Int32) : Met l yL_deed wsL_deed ({ frames := 13, cells := 4, slots := 24, locals := 380 }) (va_Pc [.ref (L 0), .int 16, .int p0, .int p1, .int p2, .int p3] (PW SS g base n L (cw g L x r0))) (va_Qi (fun (r : Int32) (u : St) => (fun (r : Int32) (u : St) => ∃ j, j < nb ∧ p0 = nI j ∧ (1 ≤ p1.toInt ∧ p1.toInt ≤ 999) ∧ ((x 12 j 0 = -1 ∧ r = 0 ∧ u = x) ∨ (∃ k, k < 40 ∧ x 12 j 0 = nI k ∧ u = paF x k p0 p1 cnt ∧ r = u 37 k p0.toNatClampNeg))) r u ∨ ∃ E, (fun E => (E = "java/lang/IndexOutOfBoundsException" ∧ (p0.toInt < 0 ∨ nb ≤ p0.toInt)) ∨ (E = "java/lang/IllegalArgumentException" ∧ (∃ j, j < nb ∧ p0 = nI j) ∧ ¬ (1 ≤ p1.toInt ∧ p1.toInt ≤ 999))) E ∧ r = cdE E ∧ u = x) (fun (u : St) t => PB g n L (cw g L u r0) t) (fun q => base ≤ q)) 4 24 (fun q => base ≤ q) := by
  refine va_MetW (cc := cL_deed) (maxL := 7) (ret := (some .int)) (by decide) rfl ?_
  intro p e s m args below meth c s₁ B hml hv
  obtain ⟨rfl, hPW⟩ := hv
  obtain ⟨hbs, hJ, hP, hK, hE⟩ := id hPW
  have hx := B.exec
  have hb := B.bytes
  have hr := B.returns
  have hts := atoms_spec (ws := wsL_deed) B.pre
  have hown : s.vm.findClass RL = some m.cls := findClass_of_methodNamed B.named
  have hlocks := B.notSynchronized
  have hTB : c.exceptionTable.toList = tableOf [(0, 11, 12, 102), (0, 11, 18, 104), (0, 11, 24, 106), (0, 11, 30, 108), (0, 11, 36, 110)] := vx_table (x := yL_deed) B (hts _ List.mem_cons_self)
  have hS : va_S (fun q : Nat => base ≤ q) s.heap s.heap [] := va_S.rf
  have hl := lv_entry ([.ref (L 0), .int 16, .int p0, .int p1, .int p2, .int p3]) (n := 7) (Nat.le_of_ble_eq_true rfl)
  rw [lg_entry_eq]
  generalize (lg_sl ([.ref (L 0), .int 16, .int p0, .int p1, .int p2, .int p3]) ++ List.replicate (7 - (lg_sl ([.ref (L 0), .int 16, .int p0, .int p1, .int p2, .int p3])).length) Slot.unset).toArray = ls at hl ⊢
  have hl : lv_has ls 7 [(0, .ref (L 0)), (1, .int 16), (2, .int p0), (3, .int p1), (4, .int p2), (5, .int p3)] := hl
  refine lv_aload_n hx hb dL_deed_0 rfl (lv_at hl 0 rfl) ?_
  refine lv_iload_n hx hb dL_deed_1 rfl (lv_at hl 1 rfl) ?_
  refine lv_iload_n hx hb dL_deed_2 rfl (lv_at hl 2 rfl) ?_
  refine lv_iload_n hx hb dL_deed_3 rfl (lv_at hl 3 rfl) ?_
  refine lv_iload hx hb dL_deed_4 (lv_at hl 4 rfl) ?_
  refine lv_iload hx hb dL_deed_6 (lv_at hl 5 rfl) ?_
  refine wx_xcalli (vx_runS (As := [.ref (L 0), .int 16, .int p0, .int p1, .int p2, .int p3]) (rest := []) ⟨hx, hb, hml, hown, hts⟩ (pl_16 l hst g base n L (by omega) x r0 nb hnb hx0 hsh cnt hcn hx4 p0 p1 p2 p3) (va_cwS 6 hts gL_deed_L_plain rfl rfl rfl (by decide +kernel) ⟨Nat.le_of_ble_eq_true rfl, Nat.le_of_ble_eq_true rfl⟩) (hPW.preS hP hS) rfl rfl hl.1 rfl (lv_room (Nat.le_of_ble_eq_true rfl)) dL_deed_8 ⟨Nat.le_of_ble_eq_true rfl, Nat.le_of_ble_eq_true rfl⟩) hS (fun E ce q9 H locs hpx hP hS h1 h2 h3 => ?_) (fun r8 u8 H locs h8 hP hS => ?_)
  · have hE9 : E = "java/lang/IndexOutOfBoundsException" ∨ E = "java/lang/IllegalArgumentException" := by rcases id hpx with ⟨rfl, -⟩ | ⟨rfl, -⟩ <;> first | exact Or.inl rfl | exact Or.inr (rfl)
    rcases hE9 with rfl | rfl
    · refine vx_catch (own := RL) (name := "java/lang/IndexOutOfBoundsException") hown [] ⟨0, 11, 12, 102⟩ [⟨0, 11, 18, 104⟩, ⟨0, 11, 24, 106⟩, ⟨0, 11, 30, 108⟩, ⟨0, 11, 36, 110⟩] (hTB.trans rfl) (fun _ h => nomatch h) (by decide) (by decide) (hts (.classLink RL 102 "java/lang/IndexOutOfBoundsException") (by decide +kernel)) (va_Nw.use rfl (hE.1 _ (ng_in (w := .castable "java/lang/IndexOutOfBoundsException" "java/lang/IndexOutOfBoundsException") (by decide +kernel)))) h1 h2 h3 ?_
      refine lv_astore (lv' := [(6, .ref q9), (0, .ref (L 0)), (1, .int 16), (2, .int p0), (3, .int p1), (4, .int p2), (5, .int p3)]) hx hb dL_deed_12 hl (by decide) rfl (fun ls hl => ?_)
      refine lv_sipush (v := (-2001)) hx hb dL_deed_14 (by decide) ?_
      refine W.widen (k := 4) (n := 24) (Nat.le_of_ble_eq_true rfl) (Nat.le_of_ble_eq_true rfl) ?_
      exact W.iret (v := (-2001)) hx hb hr (fun t ht hW => ⟨⟨(-2001), x, rfl, Or.inr ⟨_, hpx, (by decide +kernel), rfl⟩, PB.mk9 hP ht⟩, hS.F ht⟩) hS.2.2 dL_deed_17
    · refine vx_catch (own := RL) (name := "java/lang/IllegalArgumentException") hown [⟨0, 11, 12, 102⟩] ⟨0, 11, 18, 104⟩ [⟨0, 11, 24, 106⟩, ⟨0, 11, 30, 108⟩, ⟨0, 11, 36, 110⟩] (hTB.trans rfl) (fun z hz => by rcases List.mem_cons.mp hz with rfl | hz; exact Or.inr ⟨by decide, "java/lang/IndexOutOfBoundsException", (hts (.classLink RL 102 "java/lang/IndexOutOfBoundsException") (by decide +kernel)), hE.2.2.2.2 ("java/lang/IllegalArgumentException", "java/lang/IndexOutOfBoundsException") (by decide +kernel)⟩; exact absurd hz List.not_mem_nil) (by decide) (by decide) (va_Nw.use rfl (hE.1 _ (ng_in (w := .classLink RL 104 "java/lang/IllegalArgumentException") (by decide +kernel)))) (va_Nw.use rfl (hE.1 _ (ng_in (w := .castable "java/lang/IllegalArgumentException" "java/lang/IllegalArgumentException") (by decide +kernel)))) h1 h2 h3 ?_
      refine lv_astore (lv' := [(6, .ref q9), (0, .ref (L 0)), (1, .int 16), (2, .int p0), (3, .int p1), (4, .int p2), (5, .int p3)]) hx hb dL_deed_18 hl (by decide) rfl (fun ls hl => ?_)
      refine lv_sipush (v := (-2002)) hx hb dL_deed_20 (by decide) ?_
      refine W.widen (k := 4) (n := 24) (Nat.le_of_ble_eq_true rfl) (Nat.le_of_ble_eq_true rfl) ?_
      exact W.iret (v := (-2002)) hx hb hr (fun t ht hW => ⟨⟨(-2002), x, rfl, Or.inr ⟨_, hpx, (by decide +kernel), rfl⟩, PB.mk9 hP ht⟩, hS.F ht⟩) hS.2.2 dL_deed_23
  refine W.widen (k := 4) (n := 24) (Nat.le_of_ble_eq_true rfl) (Nat.le_of_ble_eq_true rfl) ?_
  exact W.iret (v := r8) hx hb hr (fun t ht hW => ⟨⟨r8, u8, rfl, Or.inl h8, PB.mk9 hP ht⟩, hS.F ht⟩) hS.2.2 dL_deed_11

set_option maxHeartbeats 4000000 in
set_option maxRecDepth 100000 in
theorem dd_17 (l : Launch) (hst : l.stackTraces = false) (g : gE) (base n : Nat) (L : Nat → Nat) (hn : 106 ≤ n) (x : St) (r0 : Nat → va_E) (nb : Nat) (hnb : nb ≤ 6) (hx0 : x 0 0 0 = nI nb) (nn : Nat) (hnn : nn ≤ 40) (hx1 : x 1 0 0 = nI nn) (p0 p1 p2 p3 : Int32) : Met l yL_deed wsL_deed ({ frames := 13, cells := 4, slots := 24, locals := 380 }) (va_Pc [.ref (L 0), .int 17, .int p0, .int p1, .int p2, .int p3] (PW SS g base n L (cw g L x r0))) (va_Qi (fun (r : Int32) (u : Unit) => (fun (r : Int32) (_ : Unit) => ∃ j, j < nn ∧ p0 = nI j ∧ (0 ≤ p1.toInt ∧ p1.toInt ≤ 3) ∧ r = riF x j p1 nb) r u ∨ ∃ E, (fun E => (E = "java/lang/IndexOutOfBoundsException" ∧ (p0.toInt < 0 ∨ nn ≤ p0.toInt)) ∨ (E = "java/lang/IllegalArgumentException" ∧ (∃ j, j < nn ∧ p0 = nI j) ∧ (p1.toInt < 0 ∨ 3 < p1.toInt))) E ∧ r = cdE E) (fun (u : Unit) t => PB g n L (cw g L x r0) t) (fun q => base ≤ q)) 4 24 (fun q => base ≤ q) := by
  refine va_MetW (cc := cL_deed) (maxL := 7) (ret := (some .int)) (by decide) rfl ?_
  intro p e s m args below meth c s₁ B hml hv
  obtain ⟨rfl, hPW⟩ := hv
  obtain ⟨hbs, hJ, hP, hK, hE⟩ := id hPW
  have hx := B.exec
  have hb := B.bytes
  have hr := B.returns
  have hts := atoms_spec (ws := wsL_deed) B.pre
  have hown : s.vm.findClass RL = some m.cls := findClass_of_methodNamed B.named
  have hlocks := B.notSynchronized
  have hTB : c.exceptionTable.toList = tableOf [(0, 11, 12, 102), (0, 11, 18, 104), (0, 11, 24, 106), (0, 11, 30, 108), (0, 11, 36, 110)] := vx_table (x := yL_deed) B (hts _ List.mem_cons_self)
  have hS : va_S (fun q : Nat => base ≤ q) s.heap s.heap [] := va_S.rf
  have hl := lv_entry ([.ref (L 0), .int 17, .int p0, .int p1, .int p2, .int p3]) (n := 7) (Nat.le_of_ble_eq_true rfl)
  rw [lg_entry_eq]
  generalize (lg_sl ([.ref (L 0), .int 17, .int p0, .int p1, .int p2, .int p3]) ++ List.replicate (7 - (lg_sl ([.ref (L 0), .int 17, .int p0, .int p1, .int p2, .int p3])).length) Slot.unset).toArray = ls at hl ⊢
  have hl : lv_has ls 7 [(0, .ref (L 0)), (1, .int 17), (2, .int p0), (3, .int p1), (4, .int p2), (5, .int p3)] := hl
  refine lv_aload_n hx hb dL_deed_0 rfl (lv_at hl 0 rfl) ?_
  refine lv_iload_n hx hb dL_deed_1 rfl (lv_at hl 1 rfl) ?_
  refine lv_iload_n hx hb dL_deed_2 rfl (lv_at hl 2 rfl) ?_
  refine lv_iload_n hx hb dL_deed_3 rfl (lv_at hl 3 rfl) ?_
  refine lv_iload hx hb dL_deed_4 (lv_at hl 4 rfl) ?_
  refine lv_iload hx hb dL_deed_6 (lv_at hl 5 rfl) ?_
  refine wx_xcalli (vx_runS (As := [.ref (L 0), .int 17, .int p0, .int p1, .int p2, .int p3]) (rest := []) ⟨hx, hb, hml, hown, hts⟩ (pl_17 l hst g base n L (by omega) x r0 nb hnb hx0 nn hnn hx1 p0 p1 p2 p3) (va_cwS 6 hts gL_deed_L_plain rfl rfl rfl (by decide +kernel) ⟨Nat.le_of_ble_eq_true rfl, Nat.le_of_ble_eq_true rfl⟩) (hPW.preS hP hS) rfl rfl hl.1 rfl (lv_room (Nat.le_of_ble_eq_true rfl)) dL_deed_8 ⟨Nat.le_of_ble_eq_true rfl, Nat.le_of_ble_eq_true rfl⟩) hS (fun E ce q9 H locs hpx hP hS h1 h2 h3 => ?_) (fun r8 u8 H locs h8 hP hS => ?_)
  · have hE9 : E = "java/lang/IndexOutOfBoundsException" ∨ E = "java/lang/IllegalArgumentException" := by rcases id hpx with ⟨rfl, -⟩ | ⟨rfl, -⟩ <;> first | exact Or.inl rfl | exact Or.inr (rfl)
    rcases hE9 with rfl | rfl
    · refine vx_catch (own := RL) (name := "java/lang/IndexOutOfBoundsException") hown [] ⟨0, 11, 12, 102⟩ [⟨0, 11, 18, 104⟩, ⟨0, 11, 24, 106⟩, ⟨0, 11, 30, 108⟩, ⟨0, 11, 36, 110⟩] (hTB.trans rfl) (fun _ h => nomatch h) (by decide) (by decide) (hts (.classLink RL 102 "java/lang/IndexOutOfBoundsException") (by decide +kernel)) (va_Nw.use rfl (hE.1 _ (ng_in (w := .castable "java/lang/IndexOutOfBoundsException" "java/lang/IndexOutOfBoundsException") (by decide +kernel)))) h1 h2 h3 ?_
      refine lv_astore (lv' := [(6, .ref q9), (0, .ref (L 0)), (1, .int 17), (2, .int p0), (3, .int p1), (4, .int p2), (5, .int p3)]) hx hb dL_deed_12 hl (by decide) rfl (fun ls hl => ?_)
      refine lv_sipush (v := (-2001)) hx hb dL_deed_14 (by decide) ?_
      refine W.widen (k := 4) (n := 24) (Nat.le_of_ble_eq_true rfl) (Nat.le_of_ble_eq_true rfl) ?_
      exact W.iret (v := (-2001)) hx hb hr (fun t ht hW => ⟨⟨(-2001), (), rfl, Or.inr ⟨_, hpx, (by decide +kernel)⟩, PB.mk9 hP ht⟩, hS.F ht⟩) hS.2.2 dL_deed_17
    · refine vx_catch (own := RL) (name := "java/lang/IllegalArgumentException") hown [⟨0, 11, 12, 102⟩] ⟨0, 11, 18, 104⟩ [⟨0, 11, 24, 106⟩, ⟨0, 11, 30, 108⟩, ⟨0, 11, 36, 110⟩] (hTB.trans rfl) (fun z hz => by rcases List.mem_cons.mp hz with rfl | hz; exact Or.inr ⟨by decide, "java/lang/IndexOutOfBoundsException", (hts (.classLink RL 102 "java/lang/IndexOutOfBoundsException") (by decide +kernel)), hE.2.2.2.2 ("java/lang/IllegalArgumentException", "java/lang/IndexOutOfBoundsException") (by decide +kernel)⟩; exact absurd hz List.not_mem_nil) (by decide) (by decide) (va_Nw.use rfl (hE.1 _ (ng_in (w := .classLink RL 104 "java/lang/IllegalArgumentException") (by decide +kernel)))) (va_Nw.use rfl (hE.1 _ (ng_in (w := .castable "java/lang/IllegalArgumentException" "java/lang/IllegalArgumentException") (by decide +kernel)))) h1 h2 h3 ?_
      refine lv_astore (lv' := [(6, .ref q9), (0, .ref (L 0)), (1, .int 17), (2, .int p0), (3, .int p1), (4, .int p2), (5, .int p3)]) hx hb dL_deed_18 hl (by decide) rfl (fun ls hl => ?_)
      refine lv_sipush (v := (-2002)) hx hb dL_deed_20 (by decide) ?_
      refine W.widen (k := 4) (n := 24) (Nat.le_of_ble_eq_true rfl) (Nat.le_of_ble_eq_true rfl) ?_
      exact W.iret (v := (-2002)) hx hb hr (fun t ht hW => ⟨⟨(-2002), (), rfl, Or.inr ⟨_, hpx, (by decide +kernel)⟩, PB.mk9 hP ht⟩, hS.F ht⟩) hS.2.2 dL_deed_23
  refine W.widen (k := 4) (n := 24) (Nat.le_of_ble_eq_true rfl) (Nat.le_of_ble_eq_true rfl) ?_
  exact W.iret (v := r8) hx hb hr (fun t ht hW => ⟨⟨r8, (), rfl, Or.inl h8, PB.mk9 hP ht⟩, hS.F ht⟩) hS.2.2 dL_deed_11

set_option maxHeartbeats 4000000 in
set_option maxRecDepth 100000 in
theorem dd_18 (l : Launch) (hst : l.stackTraces = false) (g : gE) (base n : Nat) (L : Nat → Nat) (hn : 106 ≤ n) (x : St) (r0 : Nat → va_E) (nn : Nat) (hnn : nn ≤ 40) (hx1 : x 1 0 0 = nI nn) (cnt : Nat) (hcn : cnt ≤ 512) (hx4 : x 4 0 0 = nI cnt) (p0 p1 p2 p3 : Int32) : Met l yL_deed wsL_deed ({ frames := 13, cells := 4, slots := 24, locals := 380 }) (va_Pc [.ref (L 0), .int 18, .int p0, .int p1, .int p2, .int p3] (PW SS g base n L (cw g L x r0))) (va_Qi (fun (r : Int32) (u : Unit) => (fun (r : Int32) (_ : Unit) => ∃ j, j < nn ∧ p0 = nI j ∧ r = poF x (nI j) p1 cnt) r u ∨ ∃ E, (fun E => E = "java/lang/IndexOutOfBoundsException" ∧ (p0.toInt < 0 ∨ nn ≤ p0.toInt)) E ∧ r = cdE E) (fun (u : Unit) t => PB g n L (cw g L x r0) t) (fun q => base ≤ q)) 4 24 (fun q => base ≤ q) := by
  refine va_MetW (cc := cL_deed) (maxL := 7) (ret := (some .int)) (by decide) rfl ?_
  intro p e s m args below meth c s₁ B hml hv
  obtain ⟨rfl, hPW⟩ := hv
  obtain ⟨hbs, hJ, hP, hK, hE⟩ := id hPW
  have hx := B.exec
  have hb := B.bytes
  have hr := B.returns
  have hts := atoms_spec (ws := wsL_deed) B.pre
  have hown : s.vm.findClass RL = some m.cls := findClass_of_methodNamed B.named
  have hlocks := B.notSynchronized
  have hTB : c.exceptionTable.toList = tableOf [(0, 11, 12, 102), (0, 11, 18, 104), (0, 11, 24, 106), (0, 11, 30, 108), (0, 11, 36, 110)] := vx_table (x := yL_deed) B (hts _ List.mem_cons_self)
  have hS : va_S (fun q : Nat => base ≤ q) s.heap s.heap [] := va_S.rf
  have hl := lv_entry ([.ref (L 0), .int 18, .int p0, .int p1, .int p2, .int p3]) (n := 7) (Nat.le_of_ble_eq_true rfl)
  rw [lg_entry_eq]
  generalize (lg_sl ([.ref (L 0), .int 18, .int p0, .int p1, .int p2, .int p3]) ++ List.replicate (7 - (lg_sl ([.ref (L 0), .int 18, .int p0, .int p1, .int p2, .int p3])).length) Slot.unset).toArray = ls at hl ⊢
  have hl : lv_has ls 7 [(0, .ref (L 0)), (1, .int 18), (2, .int p0), (3, .int p1), (4, .int p2), (5, .int p3)] := hl
  refine lv_aload_n hx hb dL_deed_0 rfl (lv_at hl 0 rfl) ?_
  refine lv_iload_n hx hb dL_deed_1 rfl (lv_at hl 1 rfl) ?_
  refine lv_iload_n hx hb dL_deed_2 rfl (lv_at hl 2 rfl) ?_
  refine lv_iload_n hx hb dL_deed_3 rfl (lv_at hl 3 rfl) ?_
  refine lv_iload hx hb dL_deed_4 (lv_at hl 4 rfl) ?_
  refine lv_iload hx hb dL_deed_6 (lv_at hl 5 rfl) ?_
  refine wx_xcalli (vx_runS (As := [.ref (L 0), .int 18, .int p0, .int p1, .int p2, .int p3]) (rest := []) ⟨hx, hb, hml, hown, hts⟩ (pl_18 l hst g base n L (by omega) x r0 nn hnn hx1 cnt hcn hx4 p0 p1 p2 p3) (va_cwS 6 hts gL_deed_L_plain rfl rfl rfl (by decide +kernel) ⟨Nat.le_of_ble_eq_true rfl, Nat.le_of_ble_eq_true rfl⟩) (hPW.preS hP hS) rfl rfl hl.1 rfl (lv_room (Nat.le_of_ble_eq_true rfl)) dL_deed_8 ⟨Nat.le_of_ble_eq_true rfl, Nat.le_of_ble_eq_true rfl⟩) hS (fun E ce q9 H locs hpx hP hS h1 h2 h3 => ?_) (fun r8 u8 H locs h8 hP hS => ?_)
  · have hE9 : E = "java/lang/IndexOutOfBoundsException" := by rcases id hpx with ⟨rfl, -⟩ <;> first | exact rfl
    obtain rfl := hE9
    refine vx_catch (own := RL) (name := "java/lang/IndexOutOfBoundsException") hown [] ⟨0, 11, 12, 102⟩ [⟨0, 11, 18, 104⟩, ⟨0, 11, 24, 106⟩, ⟨0, 11, 30, 108⟩, ⟨0, 11, 36, 110⟩] (hTB.trans rfl) (fun _ h => nomatch h) (by decide) (by decide) (hts (.classLink RL 102 "java/lang/IndexOutOfBoundsException") (by decide +kernel)) (va_Nw.use rfl (hE.1 _ (ng_in (w := .castable "java/lang/IndexOutOfBoundsException" "java/lang/IndexOutOfBoundsException") (by decide +kernel)))) h1 h2 h3 ?_
    refine lv_astore (lv' := [(6, .ref q9), (0, .ref (L 0)), (1, .int 18), (2, .int p0), (3, .int p1), (4, .int p2), (5, .int p3)]) hx hb dL_deed_12 hl (by decide) rfl (fun ls hl => ?_)
    refine lv_sipush (v := (-2001)) hx hb dL_deed_14 (by decide) ?_
    refine W.widen (k := 4) (n := 24) (Nat.le_of_ble_eq_true rfl) (Nat.le_of_ble_eq_true rfl) ?_
    exact W.iret (v := (-2001)) hx hb hr (fun t ht hW => ⟨⟨(-2001), (), rfl, Or.inr ⟨_, hpx, (by decide +kernel)⟩, PB.mk9 hP ht⟩, hS.F ht⟩) hS.2.2 dL_deed_17
  refine W.widen (k := 4) (n := 24) (Nat.le_of_ble_eq_true rfl) (Nat.le_of_ble_eq_true rfl) ?_
  exact W.iret (v := r8) hx hb hr (fun t ht hW => ⟨⟨r8, (), rfl, Or.inl h8, PB.mk9 hP ht⟩, hS.F ht⟩) hS.2.2 dL_deed_11

set_option maxHeartbeats 4000000 in
set_option maxRecDepth 100000 in
theorem dd_19 (l : Launch) (hst : l.stackTraces = false) (g : gE) (base n : Nat) (L : Nat → Nat) (hn : 106 ≤ n) (x : St) (r0 : Nat → va_E) (nb : Nat) (hnb : nb ≤ 6) (hx0 : x 0 0 0 = nI nb) (nn : Nat) (hnn : nn ≤ 40) (hx1 : x 1 0 0 = nI nn) (p0 p1 p2 p3 : Int32) : Met l yL_deed wsL_deed ({ frames := 13, cells := 4, slots := 24, locals := 380 }) (va_Pc [.ref (L 0), .int 19, .int p0, .int p1, .int p2, .int p3] (PW SS g base n L (cw g L x r0))) (va_Qi (fun (r : Int32) (u : Unit) => (fun (r : Int32) (_ : Unit) => (0 ≤ p1.toInt ∧ p1.toInt ≤ 3 ∧ p0.toInt ≠ 0) ∧ r = scF x p0 p1 nb nn) r u ∨ ∃ E, (fun E => E = "java/lang/IllegalArgumentException" ∧ (p1.toInt < 0 ∨ 3 < p1.toInt ∨ p0.toInt = 0)) E ∧ r = cdE E) (fun (u : Unit) t => PB g n L (cw g L x r0) t) (fun q => base ≤ q)) 4 24 (fun q => base ≤ q) := by
  refine va_MetW (cc := cL_deed) (maxL := 7) (ret := (some .int)) (by decide) rfl ?_
  intro p e s m args below meth c s₁ B hml hv
  obtain ⟨rfl, hPW⟩ := hv
  obtain ⟨hbs, hJ, hP, hK, hE⟩ := id hPW
  have hx := B.exec
  have hb := B.bytes
  have hr := B.returns
  have hts := atoms_spec (ws := wsL_deed) B.pre
  have hown : s.vm.findClass RL = some m.cls := findClass_of_methodNamed B.named
  have hlocks := B.notSynchronized
  have hTB : c.exceptionTable.toList = tableOf [(0, 11, 12, 102), (0, 11, 18, 104), (0, 11, 24, 106), (0, 11, 30, 108), (0, 11, 36, 110)] := vx_table (x := yL_deed) B (hts _ List.mem_cons_self)
  have hS : va_S (fun q : Nat => base ≤ q) s.heap s.heap [] := va_S.rf
  have hl := lv_entry ([.ref (L 0), .int 19, .int p0, .int p1, .int p2, .int p3]) (n := 7) (Nat.le_of_ble_eq_true rfl)
  rw [lg_entry_eq]
  generalize (lg_sl ([.ref (L 0), .int 19, .int p0, .int p1, .int p2, .int p3]) ++ List.replicate (7 - (lg_sl ([.ref (L 0), .int 19, .int p0, .int p1, .int p2, .int p3])).length) Slot.unset).toArray = ls at hl ⊢
  have hl : lv_has ls 7 [(0, .ref (L 0)), (1, .int 19), (2, .int p0), (3, .int p1), (4, .int p2), (5, .int p3)] := hl
  refine lv_aload_n hx hb dL_deed_0 rfl (lv_at hl 0 rfl) ?_
  refine lv_iload_n hx hb dL_deed_1 rfl (lv_at hl 1 rfl) ?_
  refine lv_iload_n hx hb dL_deed_2 rfl (lv_at hl 2 rfl) ?_
  refine lv_iload_n hx hb dL_deed_3 rfl (lv_at hl 3 rfl) ?_
  refine lv_iload hx hb dL_deed_4 (lv_at hl 4 rfl) ?_
  refine lv_iload hx hb dL_deed_6 (lv_at hl 5 rfl) ?_
  refine wx_xcalli (vx_runS (As := [.ref (L 0), .int 19, .int p0, .int p1, .int p2, .int p3]) (rest := []) ⟨hx, hb, hml, hown, hts⟩ (pl_19 l hst g base n L (by omega) x r0 nb hnb hx0 nn hnn hx1 p0 p1 p2 p3) (va_cwS 6 hts gL_deed_L_plain rfl rfl rfl (by decide +kernel) ⟨Nat.le_of_ble_eq_true rfl, Nat.le_of_ble_eq_true rfl⟩) (hPW.preS hP hS) rfl rfl hl.1 rfl (lv_room (Nat.le_of_ble_eq_true rfl)) dL_deed_8 ⟨Nat.le_of_ble_eq_true rfl, Nat.le_of_ble_eq_true rfl⟩) hS (fun E ce q9 H locs hpx hP hS h1 h2 h3 => ?_) (fun r8 u8 H locs h8 hP hS => ?_)
  · have hE9 : E = "java/lang/IllegalArgumentException" := by rcases id hpx with ⟨rfl, -⟩ <;> first | exact rfl
    obtain rfl := hE9
    refine vx_catch (own := RL) (name := "java/lang/IllegalArgumentException") hown [⟨0, 11, 12, 102⟩] ⟨0, 11, 18, 104⟩ [⟨0, 11, 24, 106⟩, ⟨0, 11, 30, 108⟩, ⟨0, 11, 36, 110⟩] (hTB.trans rfl) (fun z hz => by rcases List.mem_cons.mp hz with rfl | hz; exact Or.inr ⟨by decide, "java/lang/IndexOutOfBoundsException", (hts (.classLink RL 102 "java/lang/IndexOutOfBoundsException") (by decide +kernel)), hE.2.2.2.2 ("java/lang/IllegalArgumentException", "java/lang/IndexOutOfBoundsException") (by decide +kernel)⟩; exact absurd hz List.not_mem_nil) (by decide) (by decide) (va_Nw.use rfl (hE.1 _ (ng_in (w := .classLink RL 104 "java/lang/IllegalArgumentException") (by decide +kernel)))) (va_Nw.use rfl (hE.1 _ (ng_in (w := .castable "java/lang/IllegalArgumentException" "java/lang/IllegalArgumentException") (by decide +kernel)))) h1 h2 h3 ?_
    refine lv_astore (lv' := [(6, .ref q9), (0, .ref (L 0)), (1, .int 19), (2, .int p0), (3, .int p1), (4, .int p2), (5, .int p3)]) hx hb dL_deed_18 hl (by decide) rfl (fun ls hl => ?_)
    refine lv_sipush (v := (-2002)) hx hb dL_deed_20 (by decide) ?_
    refine W.widen (k := 4) (n := 24) (Nat.le_of_ble_eq_true rfl) (Nat.le_of_ble_eq_true rfl) ?_
    exact W.iret (v := (-2002)) hx hb hr (fun t ht hW => ⟨⟨(-2002), (), rfl, Or.inr ⟨_, hpx, (by decide +kernel)⟩, PB.mk9 hP ht⟩, hS.F ht⟩) hS.2.2 dL_deed_23
  refine W.widen (k := 4) (n := 24) (Nat.le_of_ble_eq_true rfl) (Nat.le_of_ble_eq_true rfl) ?_
  exact W.iret (v := r8) hx hb hr (fun t ht hW => ⟨⟨r8, (), rfl, Or.inl h8, PB.mk9 hP ht⟩, hS.F ht⟩) hS.2.2 dL_deed_11

set_option maxHeartbeats 4000000 in
set_option maxRecDepth 100000 in
theorem dd_20 (l : Launch) (hst : l.stackTraces = false) (g : gE) (base n : Nat) (L : Nat → Nat) (hn : 106 ≤ n) (x : St) (r0 : Nat → va_E) (nb : Nat) (hnb : nb ≤ 6) (hx0 : x 0 0 0 = nI nb) (nn : Nat) (hnn : nn ≤ 40) (hx1 : x 1 0 0 = nI nn) (p0 p1 p2 p3 : Int32) : Met l yL_deed wsL_deed ({ frames := 13, cells := 4, slots := 24, locals := 380 }) (va_Pc [.ref (L 0), .int 20, .int p0, .int p1, .int p2, .int p3] (PW SS g base n L (cw g L x r0))) (va_Qi (fun (r : Int32) (u : Unit) => (fun (r : Int32) (_ : Unit) => (0 ≤ p1.toInt ∧ p1.toInt ≤ 3 ∧ p0.toInt ≠ 0) ∧ ∃ k, k < nn ∧ (suP x k p0 p1 nb ∧ saF x k p0 p1 nb nn = p2) ∧ r = nI k ∧ ∀ j, j < k → ¬ (suP x j p0 p1 nb ∧ saF x j p0 p1 nb nn = p2)) r u ∨ ∃ E, (fun E => (E = "java/lang/IllegalArgumentException" ∧ (p1.toInt < 0 ∨ 3 < p1.toInt ∨ p0.toInt = 0)) ∨ (E = "java/lang/IndexOutOfBoundsException" ∧ (0 ≤ p1.toInt ∧ p1.toInt ≤ 3 ∧ p0.toInt ≠ 0) ∧ ∀ j, j < nn → ¬ (suP x j p0 p1 nb ∧ saF x j p0 p1 nb nn = p2))) E ∧ r = cdE E) (fun (u : Unit) t => PB g n L (cw g L x r0) t) (fun q => base ≤ q)) 4 24 (fun q => base ≤ q) := by
  refine va_MetW (cc := cL_deed) (maxL := 7) (ret := (some .int)) (by decide) rfl ?_
  intro p e s m args below meth c s₁ B hml hv
  obtain ⟨rfl, hPW⟩ := hv
  obtain ⟨hbs, hJ, hP, hK, hE⟩ := id hPW
  have hx := B.exec
  have hb := B.bytes
  have hr := B.returns
  have hts := atoms_spec (ws := wsL_deed) B.pre
  have hown : s.vm.findClass RL = some m.cls := findClass_of_methodNamed B.named
  have hlocks := B.notSynchronized
  have hTB : c.exceptionTable.toList = tableOf [(0, 11, 12, 102), (0, 11, 18, 104), (0, 11, 24, 106), (0, 11, 30, 108), (0, 11, 36, 110)] := vx_table (x := yL_deed) B (hts _ List.mem_cons_self)
  have hS : va_S (fun q : Nat => base ≤ q) s.heap s.heap [] := va_S.rf
  have hl := lv_entry ([.ref (L 0), .int 20, .int p0, .int p1, .int p2, .int p3]) (n := 7) (Nat.le_of_ble_eq_true rfl)
  rw [lg_entry_eq]
  generalize (lg_sl ([.ref (L 0), .int 20, .int p0, .int p1, .int p2, .int p3]) ++ List.replicate (7 - (lg_sl ([.ref (L 0), .int 20, .int p0, .int p1, .int p2, .int p3])).length) Slot.unset).toArray = ls at hl ⊢
  have hl : lv_has ls 7 [(0, .ref (L 0)), (1, .int 20), (2, .int p0), (3, .int p1), (4, .int p2), (5, .int p3)] := hl
  refine lv_aload_n hx hb dL_deed_0 rfl (lv_at hl 0 rfl) ?_
  refine lv_iload_n hx hb dL_deed_1 rfl (lv_at hl 1 rfl) ?_
  refine lv_iload_n hx hb dL_deed_2 rfl (lv_at hl 2 rfl) ?_
  refine lv_iload_n hx hb dL_deed_3 rfl (lv_at hl 3 rfl) ?_
  refine lv_iload hx hb dL_deed_4 (lv_at hl 4 rfl) ?_
  refine lv_iload hx hb dL_deed_6 (lv_at hl 5 rfl) ?_
  refine wx_xcalli (vx_runS (As := [.ref (L 0), .int 20, .int p0, .int p1, .int p2, .int p3]) (rest := []) ⟨hx, hb, hml, hown, hts⟩ (pl_20 l hst g base n L (by omega) x r0 nb hnb hx0 nn hnn hx1 p0 p1 p2 p3) (va_cwS 6 hts gL_deed_L_plain rfl rfl rfl (by decide +kernel) ⟨Nat.le_of_ble_eq_true rfl, Nat.le_of_ble_eq_true rfl⟩) (hPW.preS hP hS) rfl rfl hl.1 rfl (lv_room (Nat.le_of_ble_eq_true rfl)) dL_deed_8 ⟨Nat.le_of_ble_eq_true rfl, Nat.le_of_ble_eq_true rfl⟩) hS (fun E ce q9 H locs hpx hP hS h1 h2 h3 => ?_) (fun r8 u8 H locs h8 hP hS => ?_)
  · have hE9 : E = "java/lang/IllegalArgumentException" ∨ E = "java/lang/IndexOutOfBoundsException" := by rcases id hpx with ⟨rfl, -⟩ | ⟨rfl, -⟩ <;> first | exact Or.inl rfl | exact Or.inr (rfl)
    rcases hE9 with rfl | rfl
    · refine vx_catch (own := RL) (name := "java/lang/IllegalArgumentException") hown [⟨0, 11, 12, 102⟩] ⟨0, 11, 18, 104⟩ [⟨0, 11, 24, 106⟩, ⟨0, 11, 30, 108⟩, ⟨0, 11, 36, 110⟩] (hTB.trans rfl) (fun z hz => by rcases List.mem_cons.mp hz with rfl | hz; exact Or.inr ⟨by decide, "java/lang/IndexOutOfBoundsException", (hts (.classLink RL 102 "java/lang/IndexOutOfBoundsException") (by decide +kernel)), hE.2.2.2.2 ("java/lang/IllegalArgumentException", "java/lang/IndexOutOfBoundsException") (by decide +kernel)⟩; exact absurd hz List.not_mem_nil) (by decide) (by decide) (va_Nw.use rfl (hE.1 _ (ng_in (w := .classLink RL 104 "java/lang/IllegalArgumentException") (by decide +kernel)))) (va_Nw.use rfl (hE.1 _ (ng_in (w := .castable "java/lang/IllegalArgumentException" "java/lang/IllegalArgumentException") (by decide +kernel)))) h1 h2 h3 ?_
      refine lv_astore (lv' := [(6, .ref q9), (0, .ref (L 0)), (1, .int 20), (2, .int p0), (3, .int p1), (4, .int p2), (5, .int p3)]) hx hb dL_deed_18 hl (by decide) rfl (fun ls hl => ?_)
      refine lv_sipush (v := (-2002)) hx hb dL_deed_20 (by decide) ?_
      refine W.widen (k := 4) (n := 24) (Nat.le_of_ble_eq_true rfl) (Nat.le_of_ble_eq_true rfl) ?_
      exact W.iret (v := (-2002)) hx hb hr (fun t ht hW => ⟨⟨(-2002), (), rfl, Or.inr ⟨_, hpx, (by decide +kernel)⟩, PB.mk9 hP ht⟩, hS.F ht⟩) hS.2.2 dL_deed_23
    · refine vx_catch (own := RL) (name := "java/lang/IndexOutOfBoundsException") hown [] ⟨0, 11, 12, 102⟩ [⟨0, 11, 18, 104⟩, ⟨0, 11, 24, 106⟩, ⟨0, 11, 30, 108⟩, ⟨0, 11, 36, 110⟩] (hTB.trans rfl) (fun _ h => nomatch h) (by decide) (by decide) (hts (.classLink RL 102 "java/lang/IndexOutOfBoundsException") (by decide +kernel)) (va_Nw.use rfl (hE.1 _ (ng_in (w := .castable "java/lang/IndexOutOfBoundsException" "java/lang/IndexOutOfBoundsException") (by decide +kernel)))) h1 h2 h3 ?_
      refine lv_astore (lv' := [(6, .ref q9), (0, .ref (L 0)), (1, .int 20), (2, .int p0), (3, .int p1), (4, .int p2), (5, .int p3)]) hx hb dL_deed_12 hl (by decide) rfl (fun ls hl => ?_)
      refine lv_sipush (v := (-2001)) hx hb dL_deed_14 (by decide) ?_
      refine W.widen (k := 4) (n := 24) (Nat.le_of_ble_eq_true rfl) (Nat.le_of_ble_eq_true rfl) ?_
      exact W.iret (v := (-2001)) hx hb hr (fun t ht hW => ⟨⟨(-2001), (), rfl, Or.inr ⟨_, hpx, (by decide +kernel)⟩, PB.mk9 hP ht⟩, hS.F ht⟩) hS.2.2 dL_deed_17
  refine W.widen (k := 4) (n := 24) (Nat.le_of_ble_eq_true rfl) (Nat.le_of_ble_eq_true rfl) ?_
  exact W.iret (v := r8) hx hb hr (fun t ht hW => ⟨⟨r8, (), rfl, Or.inl h8, PB.mk9 hP ht⟩, hS.F ht⟩) hS.2.2 dL_deed_11

set_option maxHeartbeats 4000000 in
set_option maxRecDepth 100000 in
theorem dd_21 (l : Launch) (hst : l.stackTraces = false) (g : gE) (base n : Nat) (L : Nat → Nat) (hn : 106 ≤ n) (x : St) (r0 : Nat → va_E) (nb nn : Nat) (hG : GI x nb nn) (p0 p1 p2 p3 : Int32) : Met l yL_deed wsL_deed ({ frames := 13, cells := 4, slots := 24, locals := 380 }) (va_Pc [.ref (L 0), .int 21, .int p0, .int p1, .int p2, .int p3] (PW SS g base n L (cw g L x r0))) (va_Qi (fun (r : Int32) (u : St) => (fun (r : Int32) (u : St) => (1 ≤ p0.toInt ∧ p0.toInt ≤ 48) ∧ x 3 0 0 + p0 ≤ 2000 ∧ ∃ N, N ≤ 48 ∧ p0 = nI N ∧ u = goF x nb nn N ∧ r = u 3 0 0) r u ∨ ∃ E, (fun E => (E = "java/lang/IllegalArgumentException" ∧ ¬ (1 ≤ p0.toInt ∧ p0.toInt ≤ 48)) ∨ (E = "java/lang/IllegalStateException" ∧ (1 ≤ p0.toInt ∧ p0.toInt ≤ 48) ∧ ¬ x 3 0 0 + p0 ≤ 2000)) E ∧ r = cdE E ∧ u = x) (fun (u : St) t => PB g n L (cw g L u r0) t) (fun q => base ≤ q)) 4 24 (fun q => base ≤ q) := by
  refine va_MetW (cc := cL_deed) (maxL := 7) (ret := (some .int)) (by decide) rfl ?_
  intro p e s m args below meth c s₁ B hml hv
  obtain ⟨rfl, hPW⟩ := hv
  obtain ⟨hbs, hJ, hP, hK, hE⟩ := id hPW
  have hx := B.exec
  have hb := B.bytes
  have hr := B.returns
  have hts := atoms_spec (ws := wsL_deed) B.pre
  have hown : s.vm.findClass RL = some m.cls := findClass_of_methodNamed B.named
  have hlocks := B.notSynchronized
  have hTB : c.exceptionTable.toList = tableOf [(0, 11, 12, 102), (0, 11, 18, 104), (0, 11, 24, 106), (0, 11, 30, 108), (0, 11, 36, 110)] := vx_table (x := yL_deed) B (hts _ List.mem_cons_self)
  have hS : va_S (fun q : Nat => base ≤ q) s.heap s.heap [] := va_S.rf
  have hl := lv_entry ([.ref (L 0), .int 21, .int p0, .int p1, .int p2, .int p3]) (n := 7) (Nat.le_of_ble_eq_true rfl)
  rw [lg_entry_eq]
  generalize (lg_sl ([.ref (L 0), .int 21, .int p0, .int p1, .int p2, .int p3]) ++ List.replicate (7 - (lg_sl ([.ref (L 0), .int 21, .int p0, .int p1, .int p2, .int p3])).length) Slot.unset).toArray = ls at hl ⊢
  have hl : lv_has ls 7 [(0, .ref (L 0)), (1, .int 21), (2, .int p0), (3, .int p1), (4, .int p2), (5, .int p3)] := hl
  refine lv_aload_n hx hb dL_deed_0 rfl (lv_at hl 0 rfl) ?_
  refine lv_iload_n hx hb dL_deed_1 rfl (lv_at hl 1 rfl) ?_
  refine lv_iload_n hx hb dL_deed_2 rfl (lv_at hl 2 rfl) ?_
  refine lv_iload_n hx hb dL_deed_3 rfl (lv_at hl 3 rfl) ?_
  refine lv_iload hx hb dL_deed_4 (lv_at hl 4 rfl) ?_
  refine lv_iload hx hb dL_deed_6 (lv_at hl 5 rfl) ?_
  refine wx_xcalli (vx_runS (As := [.ref (L 0), .int 21, .int p0, .int p1, .int p2, .int p3]) (rest := []) ⟨hx, hb, hml, hown, hts⟩ (pl_21 l hst g base n L (by omega) x r0 nb nn hG p0 p1 p2 p3) (va_cwS 6 hts gL_deed_L_plain rfl rfl rfl (by decide +kernel) ⟨Nat.le_of_ble_eq_true rfl, Nat.le_of_ble_eq_true rfl⟩) (hPW.preS hP hS) rfl rfl hl.1 rfl (lv_room (Nat.le_of_ble_eq_true rfl)) dL_deed_8 ⟨Nat.le_of_ble_eq_true rfl, Nat.le_of_ble_eq_true rfl⟩) hS (fun E ce q9 H locs hpx hP hS h1 h2 h3 => ?_) (fun r8 u8 H locs h8 hP hS => ?_)
  · have hE9 : E = "java/lang/IllegalArgumentException" ∨ E = "java/lang/IllegalStateException" := by rcases id hpx with ⟨rfl, -⟩ | ⟨rfl, -⟩ <;> first | exact Or.inl rfl | exact Or.inr (rfl)
    rcases hE9 with rfl | rfl
    · refine vx_catch (own := RL) (name := "java/lang/IllegalArgumentException") hown [⟨0, 11, 12, 102⟩] ⟨0, 11, 18, 104⟩ [⟨0, 11, 24, 106⟩, ⟨0, 11, 30, 108⟩, ⟨0, 11, 36, 110⟩] (hTB.trans rfl) (fun z hz => by rcases List.mem_cons.mp hz with rfl | hz; exact Or.inr ⟨by decide, "java/lang/IndexOutOfBoundsException", (hts (.classLink RL 102 "java/lang/IndexOutOfBoundsException") (by decide +kernel)), hE.2.2.2.2 ("java/lang/IllegalArgumentException", "java/lang/IndexOutOfBoundsException") (by decide +kernel)⟩; exact absurd hz List.not_mem_nil) (by decide) (by decide) (va_Nw.use rfl (hE.1 _ (ng_in (w := .classLink RL 104 "java/lang/IllegalArgumentException") (by decide +kernel)))) (va_Nw.use rfl (hE.1 _ (ng_in (w := .castable "java/lang/IllegalArgumentException" "java/lang/IllegalArgumentException") (by decide +kernel)))) h1 h2 h3 ?_
      refine lv_astore (lv' := [(6, .ref q9), (0, .ref (L 0)), (1, .int 21), (2, .int p0), (3, .int p1), (4, .int p2), (5, .int p3)]) hx hb dL_deed_18 hl (by decide) rfl (fun ls hl => ?_)
      refine lv_sipush (v := (-2002)) hx hb dL_deed_20 (by decide) ?_
      refine W.widen (k := 4) (n := 24) (Nat.le_of_ble_eq_true rfl) (Nat.le_of_ble_eq_true rfl) ?_
      exact W.iret (v := (-2002)) hx hb hr (fun t ht hW => ⟨⟨(-2002), x, rfl, Or.inr ⟨_, hpx, (by decide +kernel), rfl⟩, PB.mk9 hP ht⟩, hS.F ht⟩) hS.2.2 dL_deed_23
    · refine vx_catch (own := RL) (name := "java/lang/IllegalStateException") hown [⟨0, 11, 12, 102⟩, ⟨0, 11, 18, 104⟩, ⟨0, 11, 24, 106⟩, ⟨0, 11, 30, 108⟩] ⟨0, 11, 36, 110⟩ [] (hTB.trans rfl) (fun z hz => by rcases List.mem_cons.mp hz with rfl | hz; exact Or.inr ⟨by decide, "java/lang/IndexOutOfBoundsException", (hts (.classLink RL 102 "java/lang/IndexOutOfBoundsException") (by decide +kernel)), hE.2.2.2.2 ("java/lang/IllegalStateException", "java/lang/IndexOutOfBoundsException") (by decide +kernel)⟩; rcases List.mem_cons.mp hz with rfl | hz; exact Or.inr ⟨by decide, "java/lang/IllegalArgumentException", (va_Nw.use rfl (hE.1 _ (ng_in (w := .classLink RL 104 "java/lang/IllegalArgumentException") (by decide +kernel)))), hE.2.2.2.2 ("java/lang/IllegalStateException", "java/lang/IllegalArgumentException") (by decide +kernel)⟩; rcases List.mem_cons.mp hz with rfl | hz; exact Or.inr ⟨by decide, "java/lang/UnsupportedOperationException", (va_Nw.use rfl (hE.1 _ (ng_in (w := .classLink RL 106 "java/lang/UnsupportedOperationException") (by decide +kernel)))), hE.2.2.2.2 ("java/lang/IllegalStateException", "java/lang/UnsupportedOperationException") (by decide +kernel)⟩; rcases List.mem_cons.mp hz with rfl | hz; exact Or.inr ⟨by decide, "java/lang/ArithmeticException", (va_Nw.use rfl (hE.1 _ (ng_in (w := .classLink RL 108 "java/lang/ArithmeticException") (by decide +kernel)))), hE.2.2.2.2 ("java/lang/IllegalStateException", "java/lang/ArithmeticException") (by decide +kernel)⟩; exact absurd hz List.not_mem_nil) (by decide) (by decide) (va_Nw.use rfl (hE.1 _ (ng_in (w := .classLink RL 110 "java/lang/IllegalStateException") (by decide +kernel)))) (va_Nw.use rfl (hE.1 _ (ng_in (w := .castable "java/lang/IllegalStateException" "java/lang/IllegalStateException") (by decide +kernel)))) h1 h2 h3 ?_
      refine lv_astore (lv' := [(6, .ref q9), (0, .ref (L 0)), (1, .int 21), (2, .int p0), (3, .int p1), (4, .int p2), (5, .int p3)]) hx hb dL_deed_36 hl (by decide) rfl (fun ls hl => ?_)
      refine lv_sipush (v := (-2003)) hx hb dL_deed_38 (by decide) ?_
      refine W.widen (k := 4) (n := 24) (Nat.le_of_ble_eq_true rfl) (Nat.le_of_ble_eq_true rfl) ?_
      exact W.iret (v := (-2003)) hx hb hr (fun t ht hW => ⟨⟨(-2003), x, rfl, Or.inr ⟨_, hpx, (by decide +kernel), rfl⟩, PB.mk9 hP ht⟩, hS.F ht⟩) hS.2.2 dL_deed_41
  refine W.widen (k := 4) (n := 24) (Nat.le_of_ble_eq_true rfl) (Nat.le_of_ble_eq_true rfl) ?_
  exact W.iret (v := r8) hx hb hr (fun t ht hW => ⟨⟨r8, u8, rfl, Or.inl h8, PB.mk9 hP ht⟩, hS.F ht⟩) hS.2.2 dL_deed_11

set_option maxHeartbeats 4000000 in
set_option maxRecDepth 100000 in
theorem dd_22 (l : Launch) (hst : l.stackTraces = false) (g : gE) (base n : Nat) (L : Nat → Nat) (hn : 106 ≤ n) (x : St) (r0 : Nat → va_E) (nb : Nat) (hnb : nb ≤ 6) (hx0 : x 0 0 0 = nI nb) (tcs : Nat → Nat) (htc : ∀ b, b < 6 → tcs b ≤ 1920) (hx19 : ∀ b, b < 6 → x 19 b 0 = nI (tcs b)) (p0 p1 p2 p3 : Int32) : Met l yL_deed wsL_deed ({ frames := 13, cells := 4, slots := 24, locals := 380 }) (va_Pc [.ref (L 0), .int 22, .int p0, .int p1, .int p2, .int p3] (PW SS g base n L (cw g L x r0))) (va_Qi (fun (r : Int32) (u : Unit) => (fun (r : Int32) (_ : Unit) => ∃ j, j < nb ∧ p0 = nI j ∧ (0 ≤ p1.toInt ∧ p1.toInt < 8 ∧ 0 ≤ p2.toInt ∧ p2.toInt < 4) ∧ r = bitF (xorF x j (tcs j)) (8 * p2 + p1)) r u ∨ ∃ E, (fun E => E = "java/lang/IndexOutOfBoundsException" ∧ ((p0.toInt < 0 ∨ nb ≤ p0.toInt) ∨ ¬ (0 ≤ p1.toInt ∧ p1.toInt < 8 ∧ 0 ≤ p2.toInt ∧ p2.toInt < 4))) E ∧ r = cdE E) (fun (u : Unit) t => PB g n L (cw g L x r0) t) (fun q => base ≤ q)) 4 24 (fun q => base ≤ q) := by
  refine va_MetW (cc := cL_deed) (maxL := 7) (ret := (some .int)) (by decide) rfl ?_
  intro p e s m args below meth c s₁ B hml hv
  obtain ⟨rfl, hPW⟩ := hv
  obtain ⟨hbs, hJ, hP, hK, hE⟩ := id hPW
  have hx := B.exec
  have hb := B.bytes
  have hr := B.returns
  have hts := atoms_spec (ws := wsL_deed) B.pre
  have hown : s.vm.findClass RL = some m.cls := findClass_of_methodNamed B.named
  have hlocks := B.notSynchronized
  have hTB : c.exceptionTable.toList = tableOf [(0, 11, 12, 102), (0, 11, 18, 104), (0, 11, 24, 106), (0, 11, 30, 108), (0, 11, 36, 110)] := vx_table (x := yL_deed) B (hts _ List.mem_cons_self)
  have hS : va_S (fun q : Nat => base ≤ q) s.heap s.heap [] := va_S.rf
  have hl := lv_entry ([.ref (L 0), .int 22, .int p0, .int p1, .int p2, .int p3]) (n := 7) (Nat.le_of_ble_eq_true rfl)
  rw [lg_entry_eq]
  generalize (lg_sl ([.ref (L 0), .int 22, .int p0, .int p1, .int p2, .int p3]) ++ List.replicate (7 - (lg_sl ([.ref (L 0), .int 22, .int p0, .int p1, .int p2, .int p3])).length) Slot.unset).toArray = ls at hl ⊢
  have hl : lv_has ls 7 [(0, .ref (L 0)), (1, .int 22), (2, .int p0), (3, .int p1), (4, .int p2), (5, .int p3)] := hl
  refine lv_aload_n hx hb dL_deed_0 rfl (lv_at hl 0 rfl) ?_
  refine lv_iload_n hx hb dL_deed_1 rfl (lv_at hl 1 rfl) ?_
  refine lv_iload_n hx hb dL_deed_2 rfl (lv_at hl 2 rfl) ?_
  refine lv_iload_n hx hb dL_deed_3 rfl (lv_at hl 3 rfl) ?_
  refine lv_iload hx hb dL_deed_4 (lv_at hl 4 rfl) ?_
  refine lv_iload hx hb dL_deed_6 (lv_at hl 5 rfl) ?_
  refine wx_xcalli (vx_runS (As := [.ref (L 0), .int 22, .int p0, .int p1, .int p2, .int p3]) (rest := []) ⟨hx, hb, hml, hown, hts⟩ (pl_22 l hst g base n L (by omega) x r0 nb hnb hx0 tcs htc hx19 p0 p1 p2 p3) (va_cwS 6 hts gL_deed_L_plain rfl rfl rfl (by decide +kernel) ⟨Nat.le_of_ble_eq_true rfl, Nat.le_of_ble_eq_true rfl⟩) (hPW.preS hP hS) rfl rfl hl.1 rfl (lv_room (Nat.le_of_ble_eq_true rfl)) dL_deed_8 ⟨Nat.le_of_ble_eq_true rfl, Nat.le_of_ble_eq_true rfl⟩) hS (fun E ce q9 H locs hpx hP hS h1 h2 h3 => ?_) (fun r8 u8 H locs h8 hP hS => ?_)
  · have hE9 : E = "java/lang/IndexOutOfBoundsException" := by rcases id hpx with ⟨rfl, -⟩ <;> first | exact rfl
    obtain rfl := hE9
    refine vx_catch (own := RL) (name := "java/lang/IndexOutOfBoundsException") hown [] ⟨0, 11, 12, 102⟩ [⟨0, 11, 18, 104⟩, ⟨0, 11, 24, 106⟩, ⟨0, 11, 30, 108⟩, ⟨0, 11, 36, 110⟩] (hTB.trans rfl) (fun _ h => nomatch h) (by decide) (by decide) (hts (.classLink RL 102 "java/lang/IndexOutOfBoundsException") (by decide +kernel)) (va_Nw.use rfl (hE.1 _ (ng_in (w := .castable "java/lang/IndexOutOfBoundsException" "java/lang/IndexOutOfBoundsException") (by decide +kernel)))) h1 h2 h3 ?_
    refine lv_astore (lv' := [(6, .ref q9), (0, .ref (L 0)), (1, .int 22), (2, .int p0), (3, .int p1), (4, .int p2), (5, .int p3)]) hx hb dL_deed_12 hl (by decide) rfl (fun ls hl => ?_)
    refine lv_sipush (v := (-2001)) hx hb dL_deed_14 (by decide) ?_
    refine W.widen (k := 4) (n := 24) (Nat.le_of_ble_eq_true rfl) (Nat.le_of_ble_eq_true rfl) ?_
    exact W.iret (v := (-2001)) hx hb hr (fun t ht hW => ⟨⟨(-2001), (), rfl, Or.inr ⟨_, hpx, (by decide +kernel)⟩, PB.mk9 hP ht⟩, hS.F ht⟩) hS.2.2 dL_deed_17
  refine W.widen (k := 4) (n := 24) (Nat.le_of_ble_eq_true rfl) (Nat.le_of_ble_eq_true rfl) ?_
  exact W.iret (v := r8) hx hb hr (fun t ht hW => ⟨⟨r8, (), rfl, Or.inl h8, PB.mk9 hP ht⟩, hS.F ht⟩) hS.2.2 dL_deed_11

set_option maxHeartbeats 4000000 in
set_option maxRecDepth 100000 in
theorem dd_23 (l : Launch) (hst : l.stackTraces = false) (g : gE) (base n : Nat) (L : Nat → Nat) (hn : 106 ≤ n) (x : St) (r0 : Nat → va_E) (nb : Nat) (hnb : nb ≤ 6) (hx0 : x 0 0 0 = nI nb) (p0 p1 p2 p3 : Int32) : Met l yL_deed wsL_deed ({ frames := 13, cells := 4, slots := 24, locals := 380 }) (va_Pc [.ref (L 0), .int 23, .int p0, .int p1, .int p2, .int p3] (PW SS g base n L (cw g L x r0))) (va_Qi (fun (r : Int32) (u : Unit) => (fun (r : Int32) (_ : Unit) => ∃ j, j < nb ∧ p0 = nI j ∧ r = x 16 j 0) r u ∨ ∃ E, (fun E => E = "java/lang/IndexOutOfBoundsException" ∧ (p0.toInt < 0 ∨ nb ≤ p0.toInt)) E ∧ r = cdE E) (fun (u : Unit) t => PB g n L (cw g L x r0) t) (fun q => base ≤ q)) 4 24 (fun q => base ≤ q) := by
  refine va_MetW (cc := cL_deed) (maxL := 7) (ret := (some .int)) (by decide) rfl ?_
  intro p e s m args below meth c s₁ B hml hv
  obtain ⟨rfl, hPW⟩ := hv
  obtain ⟨hbs, hJ, hP, hK, hE⟩ := id hPW
  have hx := B.exec
  have hb := B.bytes
  have hr := B.returns
  have hts := atoms_spec (ws := wsL_deed) B.pre
  have hown : s.vm.findClass RL = some m.cls := findClass_of_methodNamed B.named
  have hlocks := B.notSynchronized
  have hTB : c.exceptionTable.toList = tableOf [(0, 11, 12, 102), (0, 11, 18, 104), (0, 11, 24, 106), (0, 11, 30, 108), (0, 11, 36, 110)] := vx_table (x := yL_deed) B (hts _ List.mem_cons_self)
  have hS : va_S (fun q : Nat => base ≤ q) s.heap s.heap [] := va_S.rf
  have hl := lv_entry ([.ref (L 0), .int 23, .int p0, .int p1, .int p2, .int p3]) (n := 7) (Nat.le_of_ble_eq_true rfl)
  rw [lg_entry_eq]
  generalize (lg_sl ([.ref (L 0), .int 23, .int p0, .int p1, .int p2, .int p3]) ++ List.replicate (7 - (lg_sl ([.ref (L 0), .int 23, .int p0, .int p1, .int p2, .int p3])).length) Slot.unset).toArray = ls at hl ⊢
  have hl : lv_has ls 7 [(0, .ref (L 0)), (1, .int 23), (2, .int p0), (3, .int p1), (4, .int p2), (5, .int p3)] := hl
  refine lv_aload_n hx hb dL_deed_0 rfl (lv_at hl 0 rfl) ?_
  refine lv_iload_n hx hb dL_deed_1 rfl (lv_at hl 1 rfl) ?_
  refine lv_iload_n hx hb dL_deed_2 rfl (lv_at hl 2 rfl) ?_
  refine lv_iload_n hx hb dL_deed_3 rfl (lv_at hl 3 rfl) ?_
  refine lv_iload hx hb dL_deed_4 (lv_at hl 4 rfl) ?_
  refine lv_iload hx hb dL_deed_6 (lv_at hl 5 rfl) ?_
  refine wx_xcalli (vx_runS (As := [.ref (L 0), .int 23, .int p0, .int p1, .int p2, .int p3]) (rest := []) ⟨hx, hb, hml, hown, hts⟩ (pl_23 l hst g base n L (by omega) x r0 nb hnb hx0 p0 p1 p2 p3) (va_cwS 6 hts gL_deed_L_plain rfl rfl rfl (by decide +kernel) ⟨Nat.le_of_ble_eq_true rfl, Nat.le_of_ble_eq_true rfl⟩) (hPW.preS hP hS) rfl rfl hl.1 rfl (lv_room (Nat.le_of_ble_eq_true rfl)) dL_deed_8 ⟨Nat.le_of_ble_eq_true rfl, Nat.le_of_ble_eq_true rfl⟩) hS (fun E ce q9 H locs hpx hP hS h1 h2 h3 => ?_) (fun r8 u8 H locs h8 hP hS => ?_)
  · have hE9 : E = "java/lang/IndexOutOfBoundsException" := by rcases id hpx with ⟨rfl, -⟩ <;> first | exact rfl
    obtain rfl := hE9
    refine vx_catch (own := RL) (name := "java/lang/IndexOutOfBoundsException") hown [] ⟨0, 11, 12, 102⟩ [⟨0, 11, 18, 104⟩, ⟨0, 11, 24, 106⟩, ⟨0, 11, 30, 108⟩, ⟨0, 11, 36, 110⟩] (hTB.trans rfl) (fun _ h => nomatch h) (by decide) (by decide) (hts (.classLink RL 102 "java/lang/IndexOutOfBoundsException") (by decide +kernel)) (va_Nw.use rfl (hE.1 _ (ng_in (w := .castable "java/lang/IndexOutOfBoundsException" "java/lang/IndexOutOfBoundsException") (by decide +kernel)))) h1 h2 h3 ?_
    refine lv_astore (lv' := [(6, .ref q9), (0, .ref (L 0)), (1, .int 23), (2, .int p0), (3, .int p1), (4, .int p2), (5, .int p3)]) hx hb dL_deed_12 hl (by decide) rfl (fun ls hl => ?_)
    refine lv_sipush (v := (-2001)) hx hb dL_deed_14 (by decide) ?_
    refine W.widen (k := 4) (n := 24) (Nat.le_of_ble_eq_true rfl) (Nat.le_of_ble_eq_true rfl) ?_
    exact W.iret (v := (-2001)) hx hb hr (fun t ht hW => ⟨⟨(-2001), (), rfl, Or.inr ⟨_, hpx, (by decide +kernel)⟩, PB.mk9 hP ht⟩, hS.F ht⟩) hS.2.2 dL_deed_17
  refine W.widen (k := 4) (n := 24) (Nat.le_of_ble_eq_true rfl) (Nat.le_of_ble_eq_true rfl) ?_
  exact W.iret (v := r8) hx hb hr (fun t ht hW => ⟨⟨r8, (), rfl, Or.inl h8, PB.mk9 hP ht⟩, hS.F ht⟩) hS.2.2 dL_deed_11

