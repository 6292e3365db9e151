/-! laid by wip/gen/p1spec.py -/
set_option maxHeartbeats 4000000 in
set_option maxRecDepth 100000 in
theorem k_checkDistrict (l : Launch) (hst : l.stackTraces = false) (g : gE) (base n : Nat) (L : Nat → Nat) (w0 : Nat → va_E) (p0 : Int32) : vx_Met l yX3_checkDistrict wsX3_checkDistrict ({ frames := 6, cells := 1, slots := 6, locals := 100 }) (va_Pc [.int p0] (PW SS g base n L (w0))) (va_Qv (fun (_ : Unit) => 0 ≤ p0.toInt ∧ p0.toInt ≤ 3) (fun (u : Unit) t => PB g n L (w0) t) (fun q => base ≤ q)) (QX g base n L (w0) (fun E => E = "java/lang/IllegalArgumentException" ∧ (p0.toInt < 0 ∨ 3 < p0.toInt))) 1 6 (fun q => base ≤ q) := by
  refine vx_ofW (cc := cX3_checkDistrict) (maxL := 1) (ret := none) (by decide) rfl ?_
  intro p e s m args below meth c s₁ B hml hno hv
  obtain ⟨rfl, hPW⟩ := hv
  obtain ⟨hbs, hJ, hP, hK, hE⟩ := id hPW
  have hx := B.exec
  have hb := B.bytes
  have hr := B.returns
  have hts := atoms_spec (ws := wsX3_checkDistrict) B.pre
  have hown : s.vm.findClass RX3 = some m.cls := findClass_of_methodNamed B.named
  have hlocks := B.notSynchronized
  have hS : va_S (fun q : Nat => base ≤ q) s.heap s.heap [] := va_S.rf
  have hl := lv_entry ([.int p0]) (n := 1) (Nat.le_of_ble_eq_true rfl)
  rw [lg_entry_eq]
  generalize (lg_sl ([.int p0]) ++ List.replicate (1 - (lg_sl ([.int p0])).length) Slot.unset).toArray = ls at hl ⊢
  have hl : lv_has ls 1 [(0, .int p0)] := hl
  refine lv_iload_n hx hb dX3_checkDistrict_0 rfl (lv_at hl 0 rfl) ?_
  refine lv_if_lt (tgt := 9) hx hb dX3_checkDistrict_1 (by decide) (fun c1 => ?_) (fun c1 => ?_)
  · exact wx_throwSW (ik := 51) (is := 257) (ic := 55) (own := RX3) (cls := "java/lang/IllegalArgumentException") (text := "there is no such district") (names := ["java/lang/RuntimeException", "java/lang/Exception"]) hx hb hst hPW hown (by decide +kernel) (by decide +kernel) (hts (.classLink RX3 51 "java/lang/IllegalArgumentException") (by decide +kernel)) (hts (.initialized "java/lang/IllegalArgumentException") (by decide +kernel)) (by decide +kernel) (fun w hw => hts w (List.mem_cons_of_mem _ (List.mem_append_right _ hw))) (by decide +kernel) (by decide +kernel) hP hS (hl.1.trans hml.symm) dX3_checkDistrict_9 dX3_checkDistrict_12 dX3_checkDistrict_13 dX3_checkDistrict_16 dX3_checkDistrict_19 hno (Nat.lt_of_lt_of_le (Nat.lt_succ_self _) (Nat.le_of_ble_eq_true rfl)) (Nat.le_of_ble_eq_true rfl) (Nat.le_of_ble_eq_true rfl) (Nat.le_of_ble_eq_true rfl) hlocks (⟨rfl, (by revert c1; simp only [Int32.lt_iff_toInt_lt, Int32.le_iff_toInt_le, ← Int32.toInt_inj, i_0, i_1, i_2, i_3, i_4, i_6, i_9, i_20, i_32, i_40, i_48, i_60, i_200, i_999, i_2000, i_m1]; omega)⟩) (Nat.le_of_ble_eq_true rfl) (Nat.le_of_ble_eq_true rfl)
  · refine lv_iload_n hx hb dX3_checkDistrict_4 rfl (lv_at hl 0 rfl) ?_
    refine lv_iconst (v := 4) hx hb dX3_checkDistrict_5 (by decide) ?_
    refine lv_icmp_lt (tgt := 20) hx hb dX3_checkDistrict_6 (by decide) (fun c6 => ?_) (fun c6 => ?_)
    · refine W.widen (k := 1) (n := 6) (Nat.le_of_ble_eq_true rfl) (Nat.le_of_ble_eq_true rfl) ?_
      exact vx_ret (W.vret hx hb hr (fun t ht hW => ⟨⟨(), rfl, (by revert c1 c6; simp only [Int32.lt_iff_toInt_lt, Int32.le_iff_toInt_le, ← Int32.toInt_inj, i_0, i_1, i_2, i_3, i_4, i_6, i_9, i_20, i_32, i_40, i_48, i_60, i_200, i_999, i_2000, i_m1]; omega), PB.mk9 hP ht⟩, hS.F ht⟩) hS.2.2 dX3_checkDistrict_20)
    · exact wx_throwSW (ik := 51) (is := 257) (ic := 55) (own := RX3) (cls := "java/lang/IllegalArgumentException") (text := "there is no such district") (names := ["java/lang/RuntimeException", "java/lang/Exception"]) hx hb hst hPW hown (by decide +kernel) (by decide +kernel) (hts (.classLink RX3 51 "java/lang/IllegalArgumentException") (by decide +kernel)) (hts (.initialized "java/lang/IllegalArgumentException") (by decide +kernel)) (by decide +kernel) (fun w hw => hts w (List.mem_cons_of_mem _ (List.mem_append_right _ hw))) (by decide +kernel) (by decide +kernel) hP hS (hl.1.trans hml.symm) dX3_checkDistrict_9 dX3_checkDistrict_12 dX3_checkDistrict_13 dX3_checkDistrict_16 dX3_checkDistrict_19 hno (Nat.lt_of_lt_of_le (Nat.lt_succ_self _) (Nat.le_of_ble_eq_true rfl)) (Nat.le_of_ble_eq_true rfl) (Nat.le_of_ble_eq_true rfl) (Nat.le_of_ble_eq_true rfl) hlocks (⟨rfl, (by revert c1 c6; simp only [Int32.lt_iff_toInt_lt, Int32.le_iff_toInt_le, ← Int32.toInt_inj, i_0, i_1, i_2, i_3, i_4, i_6, i_9, i_20, i_32, i_40, i_48, i_60, i_200, i_999, i_2000, i_m1]; omega)⟩) (Nat.le_of_ble_eq_true rfl) (Nat.le_of_ble_eq_true rfl)

set_option maxHeartbeats 4000000 in
set_option maxRecDepth 100000 in
theorem k_checkRumour (l : Launch) (hst : l.stackTraces = false) (g : gE) (base n : Nat) (L : Nat → Nat) (w0 : Nat → va_E) (p0 p1 : Int32) : vx_Met l yX3_checkRumour wsX3_checkRumour ({ frames := 7, cells := 2, slots := 12, locals := 140 }) (va_Pc [.int p0, .int p1] (PW SS g base n L (w0))) (va_Qv (fun (_ : Unit) => 0 ≤ p1.toInt ∧ p1.toInt ≤ 3 ∧ p0.toInt ≠ 0) (fun (u : Unit) t => PB g n L (w0) t) (fun q => base ≤ q)) (QX g base n L (w0) (fun E => E = "java/lang/IllegalArgumentException" ∧ (p1.toInt < 0 ∨ 3 < p1.toInt ∨ p0.toInt = 0))) 2 12 (fun q => base ≤ q) := by
  refine vx_ofW (cc := cX3_checkRumour) (maxL := 2) (ret := none) (by decide) rfl ?_
  intro p e s m args below meth c s₁ B hml hno hv
  obtain ⟨rfl, hPW⟩ := hv
  obtain ⟨hbs, hJ, hP, hK, hE⟩ := id hPW
  have hx := B.exec
  have hb := B.bytes
  have hr := B.returns
  have hts := atoms_spec (ws := wsX3_checkRumour) B.pre
  have hown : s.vm.findClass RX3 = some m.cls := findClass_of_methodNamed B.named
  have hlocks := B.notSynchronized
  have hS : va_S (fun q : Nat => base ≤ q) s.heap s.heap [] := va_S.rf
  have hl := lv_entry ([.int p0, .int p1]) (n := 2) (Nat.le_of_ble_eq_true rfl)
  rw [lg_entry_eq]
  generalize (lg_sl ([.int p0, .int p1]) ++ List.replicate (2 - (lg_sl ([.int p0, .int p1])).length) Slot.unset).toArray = ls at hl ⊢
  have hl : lv_has ls 2 [(0, .int p0), (1, .int p1)] := hl
  refine lv_iload_n hx hb dX3_checkRumour_0 rfl (lv_at hl 1 rfl) ?_
  refine wx_xcallv (vx_runS (As := [.int p1]) (rest := []) ⟨hx, hb, hml, hown, hts⟩ (k_checkDistrict l hst g base n L (w0) p1) (va_cwS 1 hts gX3_checkRumour_X3_checkDistrict rfl rfl rfl (by decide +kernel) ⟨Nat.le_of_ble_eq_true rfl, Nat.le_of_ble_eq_true rfl⟩) (hPW.preS hP hS) rfl rfl hl.1 rfl (lv_room (Nat.le_of_ble_eq_true rfl)) dX3_checkRumour_1 ⟨Nat.le_of_ble_eq_true rfl, Nat.le_of_ble_eq_true rfl⟩) hS (fun E ce q9 H locs hpx hP hS h1 h2 h3 => ?_) (fun u1 H locs h1 hP hS => ?_)
  · exact wx_out hno hlocks h1 h2 h3 (⟨hpx.1, (by have h9 := hpx.2; omega)⟩) hP hS (Nat.le_of_ble_eq_true rfl) (Nat.le_of_ble_eq_true rfl)
  refine lv_iload_n hx hb dX3_checkRumour_4 rfl (lv_at hl 0 rfl) ?_
  refine lv_if_ne (tgt := 19) hx hb dX3_checkRumour_5 (by decide) (fun c5 => ?_) (fun c5 => ?_)
  · refine W.widen (k := 2) (n := 12) (Nat.le_of_ble_eq_true rfl) (Nat.le_of_ble_eq_true rfl) ?_
    exact vx_ret (W.vret hx hb hr (fun t ht hW => ⟨⟨(), rfl, (by revert h1 c5; simp only [Int32.lt_iff_toInt_lt, Int32.le_iff_toInt_le, ← Int32.toInt_inj, i_0, i_1, i_2, i_3, i_4, i_6, i_9, i_20, i_32, i_40, i_48, i_60, i_200, i_999, i_2000, i_m1]; omega), PB.mk9 hP ht⟩, hS.F ht⟩) hS.2.2 dX3_checkRumour_19)
  · exact wx_throwSW (ik := 51) (is := 259) (ic := 55) (own := RX3) (cls := "java/lang/IllegalArgumentException") (text := "the rumour is 0") (names := ["java/lang/RuntimeException", "java/lang/Exception"]) hx hb hst hPW hown (by decide +kernel) (by decide +kernel) (hts (.classLink RX3 51 "java/lang/IllegalArgumentException") (by decide +kernel)) (hts (.initialized "java/lang/IllegalArgumentException") (by decide +kernel)) (by decide +kernel) (fun w hw => hts w (List.mem_cons_of_mem _ (List.mem_append_right _ hw))) (by decide +kernel) (by decide +kernel) hP hS (hl.1.trans hml.symm) dX3_checkRumour_8 dX3_checkRumour_11 dX3_checkRumour_12 dX3_checkRumour_15 dX3_checkRumour_18 hno (Nat.lt_of_lt_of_le (Nat.lt_succ_self _) (Nat.le_of_ble_eq_true rfl)) (Nat.le_of_ble_eq_true rfl) (Nat.le_of_ble_eq_true rfl) (Nat.le_of_ble_eq_true rfl) hlocks (⟨rfl, (by revert h1 c5; simp only [Int32.lt_iff_toInt_lt, Int32.le_iff_toInt_le, ← Int32.toInt_inj, i_0, i_1, i_2, i_3, i_4, i_6, i_9, i_20, i_32, i_40, i_48, i_60, i_200, i_999, i_2000, i_m1]; omega)⟩) (Nat.le_of_ble_eq_true rfl) (Nat.le_of_ble_eq_true rfl)

set_option maxHeartbeats 4000000 in
set_option maxRecDepth 100000 in
theorem k_boardAt (l : Launch) (hst : l.stackTraces = false) (g : gE) (base n : Nat) (L : Nat → Nat) (hn : 106 ≤ n) (x : St) (r0 : Nat → va_E) (nb : Nat) (hnb : nb ≤ 6) (hx0 : x 0 0 0 = nI nb) (p0 : Int32) : vx_Met l yX3_boardAt wsX3_boardAt ({ frames := 6, cells := 1, slots := 6, locals := 100 }) (va_Pc [.ref (L 0), .int p0] (PW SS g base n L (cw g L x r0))) (va_Qr (fun (u : Nat) => u < nb ∧ p0 = nI u) (BR g n L (fun u => 8 + 3 * u) (fun (u : Nat) => cw g L x r0)) (fun q => base ≤ q)) (QX g base n L (cw g L x r0) (fun E => E = "java/lang/IndexOutOfBoundsException" ∧ (p0.toInt < 0 ∨ nb ≤ p0.toInt))) 1 6 (fun q => base ≤ q) := by
  refine vx_ofW (cc := cX3_boardAt) (maxL := 2) (ret := (some (.object "FerroDesk$Board"))) (by decide) rfl ?_
  intro p e s m args below meth c s₁ B hml hno hv
  obtain ⟨rfl, hPW⟩ := hv
  obtain ⟨hbs, hJ, hP, hK, hE⟩ := id hPW
  have hx := B.exec
  have hb := B.bytes
  have hr := B.returns
  have hts := atoms_spec (ws := wsX3_boardAt) B.pre
  have hown : s.vm.findClass RX3 = some m.cls := findClass_of_methodNamed B.named
  have hlocks := B.notSynchronized
  have hS : va_S (fun q : Nat => base ≤ q) s.heap s.heap [] := va_S.rf
  have hl := lv_entry ([.ref (L 0), .int p0]) (n := 2) (Nat.le_of_ble_eq_true rfl)
  rw [lg_entry_eq]
  generalize (lg_sl ([.ref (L 0), .int p0]) ++ List.replicate (2 - (lg_sl ([.ref (L 0), .int p0])).length) Slot.unset).toArray = ls at hl ⊢
  have hl : lv_has ls 2 [(0, .ref (L 0)), (1, .int p0)] := hl
  have iX3 : ∀ w ∈ wsX30, w ∈ wsX3_boardAt := by decide +kernel
  refine lv_iload_n hx hb dX3_boardAt_0 rfl (lv_at hl 1 rfl) ?_
  refine lv_if_lt (tgt := 12) hx hb dX3_boardAt_1 (by decide) (fun c1 => ?_) (fun c1 => ?_)
  · exact wx_throwS (ik := 180) (is := 251) (ic := 184) (own := RX3) (cls := "java/lang/IndexOutOfBoundsException") (text := "there is no such board") (names := ["java/lang/RuntimeException", "java/lang/Exception"]) hx hb hst hPW hown (by decide +kernel) (by decide +kernel) (hts (.classLink RX3 180 "java/lang/IndexOutOfBoundsException") (by decide +kernel)) (hts (.initialized "java/lang/IndexOutOfBoundsException") (by decide +kernel)) (by decide +kernel) (fun w hw => hts w (List.mem_cons_of_mem _ (List.mem_append_right _ hw))) (by decide +kernel) (by decide +kernel) hP hS (hl.1.trans hml.symm) dX3_boardAt_12 dX3_boardAt_15 dX3_boardAt_16 dX3_boardAt_18 dX3_boardAt_21 hno (Nat.lt_of_lt_of_le (Nat.lt_succ_self _) (Nat.le_of_ble_eq_true rfl)) (Nat.le_of_ble_eq_true rfl) (Nat.le_of_ble_eq_true rfl) (Nat.le_of_ble_eq_true rfl) hlocks (⟨rfl, (by exact Or.inl (by rw [Int32.lt_iff_toInt_lt] at c1; exact c1))⟩) (Nat.le_of_ble_eq_true rfl) (Nat.le_of_ble_eq_true rfl)
  · refine lv_iload_n hx hb dX3_boardAt_4 rfl (lv_at hl 1 rfl) ?_
    refine lv_aload_n hx hb dX3_boardAt_5 rfl (lv_at hl 0 rfl) ?_
    refine wx_get (D := g.1) (cl := vwCl) (ci := 5) (v := .int (x 0 0 0)) (C := RX3) (T := TX3) (N := 8) hx hb hts iX3 hown hK hP (0) (by omega) cw_d rfl 1 (by decide) (hts (.fieldLink RX3 15 "FerroDesk" "boardCount" "I") (by decide +kernel)) (fun _ h9 => h9) rfl dX3_boardAt_6 ?_
    refine lv_icmp_lt (tgt := 22) hx hb dX3_boardAt_9 (by decide) (fun c9 => ?_) (fun c9 => ?_)
    · refine lv_aload_n hx hb dX3_boardAt_22 rfl (lv_at hl 0 rfl) ?_
      refine wx_get (D := g.1) (cl := vwCl) (ci := 5) (v := .ref (L 1)) (C := RX3) (T := TX3) (N := 8) hx hb hts iX3 hown hK hP (0) (by omega) cw_d rfl 0 (by decide) (hts (.fieldLink RX3 11 "FerroDesk" "boards" "[LFerroDesk$Board;") (by decide +kernel)) (fun _ h9 => h9) rfl dX3_boardAt_23 ?_
      refine lv_iload_n hx hb dX3_boardAt_26 rfl (lv_at hl 1 rfl) ?_
      obtain ⟨j, hj, ej⟩ := bd_in (k := nb) c1 (by rw [hx0] at c9; exact c9) (by omega)
      refine wx_aald (D := g.1) (cl := vwCl) (f := fun j => if j < 6 then some (L (8 + 3 * j)) else none) (a := L (8 + 3 * j)) hx hb hK hP (1) 1 (by omega) cw_1 rfl (i := p0) (by rw [ej]; exact vp_in_nI (by omega) (by decide)) (by rw [ej, nI_clamp (by omega), if_pos (by omega)]) dX3_boardAt_27 ?_
      refine W.widen (k := 1) (n := 6) (Nat.le_of_ble_eq_true rfl) (Nat.le_of_ble_eq_true rfl) ?_
      exact vx_ret (W.aret (v := .ref (L (8 + 3 * j))) hx hb hr (Or.inl ⟨_, rfl⟩) (Or.inr ⟨_, rfl⟩) (fun t ht hW => ⟨⟨j, _, rfl, ⟨hj, ej⟩, rfl, PB.mk9 hP ht⟩, hS.F ht⟩) hS.2.2 dX3_boardAt_28)
    · exact wx_throwS (ik := 180) (is := 251) (ic := 184) (own := RX3) (cls := "java/lang/IndexOutOfBoundsException") (text := "there is no such board") (names := ["java/lang/RuntimeException", "java/lang/Exception"]) hx hb hst hPW hown (by decide +kernel) (by decide +kernel) (hts (.classLink RX3 180 "java/lang/IndexOutOfBoundsException") (by decide +kernel)) (hts (.initialized "java/lang/IndexOutOfBoundsException") (by decide +kernel)) (by decide +kernel) (fun w hw => hts w (List.mem_cons_of_mem _ (List.mem_append_right _ hw))) (by decide +kernel) (by decide +kernel) hP hS (hl.1.trans hml.symm) dX3_boardAt_12 dX3_boardAt_15 dX3_boardAt_16 dX3_boardAt_18 dX3_boardAt_21 hno (Nat.lt_of_lt_of_le (Nat.lt_succ_self _) (Nat.le_of_ble_eq_true rfl)) (Nat.le_of_ble_eq_true rfl) (Nat.le_of_ble_eq_true rfl) (Nat.le_of_ble_eq_true rfl) hlocks (⟨rfl, (by exact Or.inr (by rw [hx0, Int32.lt_iff_toInt_lt, nI_toInt (by omega)] at c9; omega))⟩) (Nat.le_of_ble_eq_true rfl) (Nat.le_of_ble_eq_true rfl)

set_option maxHeartbeats 4000000 in
set_option maxRecDepth 100000 in
theorem k_noticeAt (l : Launch) (hst : l.stackTraces = false) (g : gE) (base n : Nat) (L : Nat → Nat) (hn : 106 ≤ n) (x : St) (r0 : Nat → va_E) (nb : Nat) (hnb : nb ≤ 40) (hx1 : x 1 0 0 = nI nb) (p0 : Int32) : vx_Met l yX3_noticeAt wsX3_noticeAt ({ frames := 6, cells := 1, slots := 6, locals := 100 }) (va_Pc [.ref (L 0), .int p0] (PW SS g base n L (cw g L x r0))) (va_Qr (fun (u : Nat) => u < nb ∧ p0 = nI u) (BR g n L (fun u => 26 + 2 * u) (fun (u : Nat) => cw g L x r0)) (fun q => base ≤ q)) (QX g base n L (cw g L x r0) (fun E => E = "java/lang/IndexOutOfBoundsException" ∧ (p0.toInt < 0 ∨ nb ≤ p0.toInt))) 1 6 (fun q => base ≤ q) := by
  refine vx_ofW (cc := cX3_noticeAt) (maxL := 2) (ret := (some (.object "FerroDesk$Notice"))) (by decide) rfl ?_
  intro p e s m args below meth c s₁ B hml hno hv
  obtain ⟨rfl, hPW⟩ := hv
  obtain ⟨hbs, hJ, hP, hK, hE⟩ := id hPW
  have hx := B.exec
  have hb := B.bytes
  have hr := B.returns
  have hts := atoms_spec (ws := wsX3_noticeAt) B.pre
  have hown : s.vm.findClass RX3 = some m.cls := findClass_of_methodNamed B.named
  have hlocks := B.notSynchronized
  have hS : va_S (fun q : Nat => base ≤ q) s.heap s.heap [] := va_S.rf
  have hl := lv_entry ([.ref (L 0), .int p0]) (n := 2) (Nat.le_of_ble_eq_true rfl)
  rw [lg_entry_eq]
  generalize (lg_sl ([.ref (L 0), .int p0]) ++ List.replicate (2 - (lg_sl ([.ref (L 0), .int p0])).length) Slot.unset).toArray = ls at hl ⊢
  have hl : lv_has ls 2 [(0, .ref (L 0)), (1, .int p0)] := hl
  have iX3 : ∀ w ∈ wsX30, w ∈ wsX3_noticeAt := by decide +kernel
  refine lv_iload_n hx hb dX3_noticeAt_0 rfl (lv_at hl 1 rfl) ?_
  refine lv_if_lt (tgt := 12) hx hb dX3_noticeAt_1 (by decide) (fun c1 => ?_) (fun c1 => ?_)
  · exact wx_throwS (ik := 180) (is := 253) (ic := 184) (own := RX3) (cls := "java/lang/IndexOutOfBoundsException") (text := "there is no such notice") (names := ["java/lang/RuntimeException", "java/lang/Exception"]) hx hb hst hPW hown (by decide +kernel) (by decide +kernel) (hts (.classLink RX3 180 "java/lang/IndexOutOfBoundsException") (by decide +kernel)) (hts (.initialized "java/lang/IndexOutOfBoundsException") (by decide +kernel)) (by decide +kernel) (fun w hw => hts w (List.mem_cons_of_mem _ (List.mem_append_right _ hw))) (by decide +kernel) (by decide +kernel) hP hS (hl.1.trans hml.symm) dX3_noticeAt_12 dX3_noticeAt_15 dX3_noticeAt_16 dX3_noticeAt_18 dX3_noticeAt_21 hno (Nat.lt_of_lt_of_le (Nat.lt_succ_self _) (Nat.le_of_ble_eq_true rfl)) (Nat.le_of_ble_eq_true rfl) (Nat.le_of_ble_eq_true rfl) (Nat.le_of_ble_eq_true rfl) hlocks (⟨rfl, (by exact Or.inl (by rw [Int32.lt_iff_toInt_lt] at c1; exact c1))⟩) (Nat.le_of_ble_eq_true rfl) (Nat.le_of_ble_eq_true rfl)
  · refine lv_iload_n hx hb dX3_noticeAt_4 rfl (lv_at hl 1 rfl) ?_
    refine lv_aload_n hx hb dX3_noticeAt_5 rfl (lv_at hl 0 rfl) ?_
    refine wx_get (D := g.1) (cl := vwCl) (ci := 5) (v := .int (x 1 0 0)) (C := RX3) (T := TX3) (N := 8) hx hb hts iX3 hown hK hP (0) (by omega) cw_d rfl 4 (by decide) (hts (.fieldLink RX3 28 "FerroDesk" "noticeCount" "I") (by decide +kernel)) (fun _ h9 => h9) rfl dX3_noticeAt_6 ?_
    refine lv_icmp_lt (tgt := 22) hx hb dX3_noticeAt_9 (by decide) (fun c9 => ?_) (fun c9 => ?_)
    · refine lv_aload_n hx hb dX3_noticeAt_22 rfl (lv_at hl 0 rfl) ?_
      refine wx_get (D := g.1) (cl := vwCl) (ci := 5) (v := .ref (L 2)) (C := RX3) (T := TX3) (N := 8) hx hb hts iX3 hown hK hP (0) (by omega) cw_d rfl 2 (by decide) (hts (.fieldLink RX3 21 "FerroDesk" "notices" "[LFerroDesk$Notice;") (by decide +kernel)) (fun _ h9 => h9) rfl dX3_noticeAt_23 ?_
      refine lv_iload_n hx hb dX3_noticeAt_26 rfl (lv_at hl 1 rfl) ?_
      obtain ⟨j, hj, ej⟩ := bd_in (k := nb) c1 (by rw [hx1] at c9; exact c9) (by omega)
      refine wx_aald (D := g.1) (cl := vwCl) (f := fun j => if j < 40 then some (L (26 + 2 * j)) else none) (a := L (26 + 2 * j)) hx hb hK hP (2) 2 (by omega) cw_2 rfl (i := p0) (by rw [ej]; exact vp_in_nI (by omega) (by decide)) (by rw [ej, nI_clamp (by omega), if_pos (by omega)]) dX3_noticeAt_27 ?_
      refine W.widen (k := 1) (n := 6) (Nat.le_of_ble_eq_true rfl) (Nat.le_of_ble_eq_true rfl) ?_
      exact vx_ret (W.aret (v := .ref (L (26 + 2 * j))) hx hb hr (Or.inl ⟨_, rfl⟩) (Or.inr ⟨_, rfl⟩) (fun t ht hW => ⟨⟨j, _, rfl, ⟨hj, ej⟩, rfl, PB.mk9 hP ht⟩, hS.F ht⟩) hS.2.2 dX3_noticeAt_28)
    · exact wx_throwS (ik := 180) (is := 253) (ic := 184) (own := RX3) (cls := "java/lang/IndexOutOfBoundsException") (text := "there is no such notice") (names := ["java/lang/RuntimeException", "java/lang/Exception"]) hx hb hst hPW hown (by decide +kernel) (by decide +kernel) (hts (.classLink RX3 180 "java/lang/IndexOutOfBoundsException") (by decide +kernel)) (hts (.initialized "java/lang/IndexOutOfBoundsException") (by decide +kernel)) (by decide +kernel) (fun w hw => hts w (List.mem_cons_of_mem _ (List.mem_append_right _ hw))) (by decide +kernel) (by decide +kernel) hP hS (hl.1.trans hml.symm) dX3_noticeAt_12 dX3_noticeAt_15 dX3_noticeAt_16 dX3_noticeAt_18 dX3_noticeAt_21 hno (Nat.lt_of_lt_of_le (Nat.lt_succ_self _) (Nat.le_of_ble_eq_true rfl)) (Nat.le_of_ble_eq_true rfl) (Nat.le_of_ble_eq_true rfl) (Nat.le_of_ble_eq_true rfl) hlocks (⟨rfl, (by exact Or.inr (by rw [hx1, Int32.lt_iff_toInt_lt, nI_toInt (by omega)] at c9; omega))⟩) (Nat.le_of_ble_eq_true rfl) (Nat.le_of_ble_eq_true rfl)

set_option maxHeartbeats 4000000 in
set_option maxRecDepth 100000 in
theorem k_settle (l : Launch) (hst : l.stackTraces = false) (g : gE) (base n : Nat) (L : Nat → Nat) (hn : 106 ≤ n) (x : St) (r0 : Nat → va_E) (i : Nat) (hi : i < 6) (p0 p1 : Int32) : Met l yX0_settle wsX0_settle ({ frames := 0, cells := 0, slots := 0, locals := 0 }) (va_Pc [.ref (L (8 + 3 * i)), .int p0, .int p1] (PW SS g base n L (cw g L x r0))) (va_Qv (fun (u : St) => u = st (st x 10 i 0 p0) 11 i 0 p1) (fun (u : St) t => PB g n L (cw g L u r0) t) (fun q => base ≤ q)) 0 0 (fun q => base ≤ q) := by
  refine Met.ofW (cc := cX0_settle) (maxL := 3) (ret := none) (by decide) rfl ?_
  intro p e s m args below meth c s₁ B hml hv
  obtain ⟨rfl, hPW⟩ := hv
  obtain ⟨hbs, hJ, hP, hK, hE⟩ := id hPW
  have hx := B.exec
  have hb := B.bytes
  have hr := B.returns
  have hts := atoms_spec (ws := wsX0_settle) B.pre
  have hown : s.vm.findClass RX0 = some m.cls := findClass_of_methodNamed B.named
  have hlocks := B.notSynchronized
  have hS : va_S (fun q : Nat => base ≤ q) s.heap s.heap [] := va_S.rf
  have hl := lv_entry ([.ref (L (8 + 3 * i)), .int p0, .int p1]) (n := 3) (Nat.le_of_ble_eq_true rfl)
  rw [lg_entry_eq]
  generalize (lg_sl ([.ref (L (8 + 3 * i)), .int p0, .int p1]) ++ List.replicate (3 - (lg_sl ([.ref (L (8 + 3 * i)), .int p0, .int p1])).length) Slot.unset).toArray = ls at hl ⊢
  have hl : lv_has ls 3 [(0, .ref (L (8 + 3 * i))), (1, .int p0), (2, .int p1)] := hl
  have iX0 : ∀ w ∈ wsX00, w ∈ wsX0_settle := by decide +kernel
  refine lv_aload_n hx hb dX0_settle_0 rfl (lv_at hl 0 rfl) ?_
  refine lv_iload_n hx hb dX0_settle_1 rfl (lv_at hl 1 rfl) ?_
  refine wx_put (D := g.1) (cl := vwCl) (ci := 2) (v := .int p0) (ty := .int) (w' := cw g L (st x 10 i 0 p0) r0) (C := RX0) (T := TX0) (N := 12) hx hb hts iX0 tyX0 tyX0_ok nmX0 hown hK hP hJ hS (8 + 3 * i) (by omega) (cw_b (by omega)) rfl 0 (by decide) (hts (.fieldLink RX0 9 "FerroDesk$Board" "district" "I") (by decide +kernel)) (fun _ h9 => h9) rfl (by decide +kernel) rfl rfl (Nat.le_of_ble_eq_true rfl) dX0_settle_2 (cw_put (r := 10) (i := i) (j := 0) rfl (by omega) ((dk_b (by omega)).trans (by simp [bF, st]))) (fun H locs hP hS => ?_)
  refine lv_aload_n hx hb dX0_settle_5 rfl (lv_at hl 0 rfl) ?_
  refine lv_iload_n hx hb dX0_settle_6 rfl (lv_at hl 2 rfl) ?_
  refine wx_put (D := g.1) (cl := vwCl) (ci := 2) (v := .int p1) (ty := .int) (w' := cw g L (st (st x 10 i 0 p0) 11 i 0 p1) r0) (C := RX0) (T := TX0) (N := 12) hx hb hts iX0 tyX0 tyX0_ok nmX0 hown hK hP hJ hS (8 + 3 * i) (by omega) (cw_b (by omega)) rfl 1 (by decide) (hts (.fieldLink RX0 15 "FerroDesk$Board" "charge" "I") (by decide +kernel)) (fun _ h9 => h9) rfl (by decide +kernel) rfl rfl (Nat.le_of_ble_eq_true rfl) dX0_settle_7 (cw_put (r := 11) (i := i) (j := 0) rfl (by omega) ((dk_b (by omega)).trans (by simp [bF, st]))) (fun H locs hP hS => ?_)
  refine W.widen (k := 0) (n := 0) (Nat.le_of_ble_eq_true rfl) (Nat.le_of_ble_eq_true rfl) ?_
  exact W.vret hx hb hr (fun t ht hW => ⟨⟨(st (st x 10 i 0 p0) 11 i 0 p1), rfl, rfl, PB.mk9 hP ht⟩, hS.F ht⟩) hS.2.2 dX0_settle_10

set_option maxHeartbeats 4000000 in
set_option maxRecDepth 100000 in
theorem k_fill (l : Launch) (hst : l.stackTraces = false) (g : gE) (base n : Nat) (L : Nat → Nat) (hn : 106 ≤ n) (x : St) (r0 : Nat → va_E) (i : Nat) (hi : i < 40) (p0 p1 p2 p3 : Int32) : Met l yX1_fill wsX1_fill ({ frames := 0, cells := 0, slots := 0, locals := 0 }) (va_Pc [.ref (L (26 + 2 * i)), .int p0, .int p1, .int p2, .int p3] (PW SS g base n L (cw g L x r0))) (va_Qv (fun (u : St) => u = st (st (st (st x 30 i 0 p0) 31 i 0 p1) 32 i 0 p2) 33 i 0 p3) (fun (u : St) t => PB g n L (cw g L u r0) t) (fun q => base ≤ q)) 0 0 (fun q => base ≤ q) := by
  refine Met.ofW (cc := cX1_fill) (maxL := 5) (ret := none) (by decide) rfl ?_
  intro p e s m args below meth c s₁ B hml hv
  obtain ⟨rfl, hPW⟩ := hv
  obtain ⟨hbs, hJ, hP, hK, hE⟩ := id hPW
  have hx := B.exec
  have hb := B.bytes
  have hr := B.returns
  have hts := atoms_spec (ws := wsX1_fill) B.pre
  have hown : s.vm.findClass RX1 = some m.cls := findClass_of_methodNamed B.named
  have hlocks := B.notSynchronized
  have hS : va_S (fun q : Nat => base ≤ q) s.heap s.heap [] := va_S.rf
  have hl := lv_entry ([.ref (L (26 + 2 * i)), .int p0, .int p1, .int p2, .int p3]) (n := 5) (Nat.le_of_ble_eq_true rfl)
  rw [lg_entry_eq]
  generalize (lg_sl ([.ref (L (26 + 2 * i)), .int p0, .int p1, .int p2, .int p3]) ++ List.replicate (5 - (lg_sl ([.ref (L (26 + 2 * i)), .int p0, .int p1, .int p2, .int p3])).length) Slot.unset).toArray = ls at hl ⊢
  have hl : lv_has ls 5 [(0, .ref (L (26 + 2 * i))), (1, .int p0), (2, .int p1), (3, .int p2), (4, .int p3)] := hl
  have iX1 : ∀ w ∈ wsX10, w ∈ wsX1_fill := by decide +kernel
  refine lv_aload_n hx hb dX1_fill_0 rfl (lv_at hl 0 rfl) ?_
  refine lv_iload_n hx hb dX1_fill_1 rfl (lv_at hl 1 rfl) ?_
  refine wx_put (D := g.1) (cl := vwCl) (ci := 3) (v := .int p0) (ty := .int) (w' := cw g L (st x 30 i 0 p0) r0) (C := RX1) (T := TX1) (N := 9) hx hb hts iX1 tyX1 tyX1_ok nmX1 hown hK hP hJ hS (26 + 2 * i) (by omega) (cw_n (by omega)) rfl 2 (by decide) (hts (.fieldLink RX1 15 "FerroDesk$Notice" "rank" "I") (by decide +kernel)) (fun _ h9 => h9) rfl (by decide +kernel) rfl rfl (Nat.le_of_ble_eq_true rfl) dX1_fill_2 (cw_put (r := 30) (i := i) (j := 0) rfl (by omega) (dk_n.trans (by simp [nF, st]))) (fun H locs hP hS => ?_)
  refine lv_aload_n hx hb dX1_fill_5 rfl (lv_at hl 0 rfl) ?_
  refine lv_iload_n hx hb dX1_fill_6 rfl (lv_at hl 2 rfl) ?_
  refine wx_put (D := g.1) (cl := vwCl) (ci := 3) (v := .int p1) (ty := .int) (w' := cw g L (st (st x 30 i 0 p0) 31 i 0 p1) r0) (C := RX1) (T := TX1) (N := 9) hx hb hts iX1 tyX1 tyX1_ok nmX1 hown hK hP hJ hS (26 + 2 * i) (by omega) (cw_n (by omega)) rfl 3 (by decide) (hts (.fieldLink RX1 19 "FerroDesk$Notice" "picture" "I") (by decide +kernel)) (fun _ h9 => h9) rfl (by decide +kernel) rfl rfl (Nat.le_of_ble_eq_true rfl) dX1_fill_7 (cw_put (r := 31) (i := i) (j := 0) rfl (by omega) (dk_n.trans (by simp [nF, st]))) (fun H locs hP hS => ?_)
  refine lv_aload_n hx hb dX1_fill_10 rfl (lv_at hl 0 rfl) ?_
  refine lv_iload_n hx hb dX1_fill_11 rfl (lv_at hl 3 rfl) ?_
  refine wx_put (D := g.1) (cl := vwCl) (ci := 3) (v := .int p2) (ty := .int) (w' := cw g L (st (st (st x 30 i 0 p0) 31 i 0 p1) 32 i 0 p2) r0) (C := RX1) (T := TX1) (N := 9) hx hb hts iX1 tyX1 tyX1_ok nmX1 hown hK hP hJ hS (26 + 2 * i) (by omega) (cw_n (by omega)) rfl 4 (by decide) (hts (.fieldLink RX1 22 "FerroDesk$Notice" "from" "I") (by decide +kernel)) (fun _ h9 => h9) rfl (by decide +kernel) rfl rfl (Nat.le_of_ble_eq_true rfl) dX1_fill_12 (cw_put (r := 32) (i := i) (j := 0) rfl (by omega) (dk_n.trans (by simp [nF, st]))) (fun H locs hP hS => ?_)
  refine lv_aload_n hx hb dX1_fill_15 rfl (lv_at hl 0 rfl) ?_
  refine lv_iload hx hb dX1_fill_16 (lv_at hl 4 rfl) ?_
  refine wx_put (D := g.1) (cl := vwCl) (ci := 3) (v := .int p3) (ty := .int) (w' := cw g L (st (st (st (st x 30 i 0 p0) 31 i 0 p1) 32 i 0 p2) 33 i 0 p3) r0) (C := RX1) (T := TX1) (N := 9) hx hb hts iX1 tyX1 tyX1_ok nmX1 hown hK hP hJ hS (26 + 2 * i) (by omega) (cw_n (by omega)) rfl 5 (by decide) (hts (.fieldLink RX1 25 "FerroDesk$Notice" "till" "I") (by decide +kernel)) (fun _ h9 => h9) rfl (by decide +kernel) rfl rfl (Nat.le_of_ble_eq_true rfl) dX1_fill_18 (cw_put (r := 33) (i := i) (j := 0) rfl (by omega) (dk_n.trans (by simp [nF, st]))) (fun H locs hP hS => ?_)
  refine W.widen (k := 0) (n := 0) (Nat.le_of_ble_eq_true rfl) (Nat.le_of_ble_eq_true rfl) ?_
  exact W.vret hx hb hr (fun t ht hW => ⟨⟨(st (st (st (st x 30 i 0 p0) 31 i 0 p1) 32 i 0 p2) 33 i 0 p3), rfl, rfl, PB.mk9 hP ht⟩, hS.F ht⟩) hS.2.2 dX1_fill_21

set_option maxHeartbeats 4000000 in
set_option maxRecDepth 100000 in
theorem k_putInto (l : Launch) (hst : l.stackTraces = false) (g : gE) (base n : Nat) (L : Nat → Nat) (hn : 106 ≤ n) (x : St) (r0 : Nat → va_E) (i : Nat) (hi : i < 40) (p0 : Int32) : Met l yX1_putInto wsX1_putInto ({ frames := 0, cells := 0, slots := 0, locals := 0 }) (va_Pc [.ref (L (26 + 2 * i)), .int p0] (PW SS g base n L (cw g L x r0))) (va_Qv (fun (u : St) => u = st x 36 i 0 (x 36 i 0 ||| (1 <<< (p0 &&& 31)))) (fun (u : St) t => PB g n L (cw g L u r0) t) (fun q => base ≤ q)) 0 0 (fun q => base ≤ q) := by
  refine Met.ofW (cc := cX1_putInto) (maxL := 2) (ret := none) (by decide) rfl ?_
  intro p e s m args below meth c s₁ B hml hv
  obtain ⟨rfl, hPW⟩ := hv
  obtain ⟨hbs, hJ, hP, hK, hE⟩ := id hPW
  have hx := B.exec
  have hb := B.bytes
  have hr := B.returns
  have hts := atoms_spec (ws := wsX1_putInto) B.pre
  have hown : s.vm.findClass RX1 = some m.cls := findClass_of_methodNamed B.named
  have hlocks := B.notSynchronized
  have hS : va_S (fun q : Nat => base ≤ q) s.heap s.heap [] := va_S.rf
  have hl := lv_entry ([.ref (L (26 + 2 * i)), .int p0]) (n := 2) (Nat.le_of_ble_eq_true rfl)
  rw [lg_entry_eq]
  generalize (lg_sl ([.ref (L (26 + 2 * i)), .int p0]) ++ List.replicate (2 - (lg_sl ([.ref (L (26 + 2 * i)), .int p0])).length) Slot.unset).toArray = ls at hl ⊢
  have hl : lv_has ls 2 [(0, .ref (L (26 + 2 * i))), (1, .int p0)] := hl
  have iX1 : ∀ w ∈ wsX10, w ∈ wsX1_putInto := by decide +kernel
  refine lv_aload_n hx hb dX1_putInto_0 rfl (lv_at hl 0 rfl) ?_
  refine lv_dup hx hb dX1_putInto_1 rfl ?_
  refine wx_get (D := g.1) (cl := vwCl) (ci := 3) (v := .int (x 36 i 0)) (C := RX1) (T := TX1) (N := 9) hx hb hts iX1 hown hK hP (26 + 2 * i) (by omega) (cw_n (by omega)) rfl 8 (by decide) (hts (.fieldLink RX1 35 "FerroDesk$Notice" "districts" "I") (by decide +kernel)) (fun _ h9 => h9) rfl dX1_putInto_2 ?_
  refine lv_iconst (v := 1) hx hb dX1_putInto_5 (by decide) ?_
  refine lv_iload_n hx hb dX1_putInto_6 rfl (lv_at hl 1 rfl) ?_
  refine lv_ishl hx hb dX1_putInto_7 ?_
  refine lv_ior hx hb dX1_putInto_8 ?_
  refine wx_put (D := g.1) (cl := vwCl) (ci := 3) (v := .int ((x 36 i 0) ||| (1 <<< (p0 &&& 31)))) (ty := .int) (w' := cw g L (st x 36 i 0 ((x 36 i 0) ||| (1 <<< (p0 &&& 31)))) r0) (C := RX1) (T := TX1) (N := 9) hx hb hts iX1 tyX1 tyX1_ok nmX1 hown hK hP hJ hS (26 + 2 * i) (by omega) (cw_n (by omega)) rfl 8 (by decide) (hts (.fieldLink RX1 35 "FerroDesk$Notice" "districts" "I") (by decide +kernel)) (fun _ h9 => h9) rfl (by decide +kernel) rfl rfl (Nat.le_of_ble_eq_true rfl) dX1_putInto_9 (cw_put (r := 36) (i := i) (j := 0) rfl (by omega) (dk_n.trans (by simp [nF, st]))) (fun H locs hP hS => ?_)
  refine W.widen (k := 0) (n := 0) (Nat.le_of_ble_eq_true rfl) (Nat.le_of_ble_eq_true rfl) ?_
  exact W.vret hx hb hr (fun t ht hW => ⟨⟨(st x 36 i 0 ((x 36 i 0) ||| (1 <<< (p0 &&& 31)))), rfl, rfl, PB.mk9 hP ht⟩, hS.F ht⟩) hS.2.2 dX1_putInto_12

set_option maxHeartbeats 4000000 in
set_option maxRecDepth 100000 in
theorem kp_take (l : Launch) (hst : l.stackTraces = false) (g : gE) (base n : Nat) (L : Nat → Nat) (hn : 106 ≤ n) (x : St) (r0 : Nat → va_E) (hx0 : x 0 0 0 = nI 0) (hx1 : x 1 0 0 = nI 0) (hx2 : x 2 0 0 = 2) (hx3 : x 3 0 0 = nI 0) (p0 p1 p2 p3 : Int32) : Met l yX3_take wsX3_take ({ frames := 2, cells := 0, slots := 0, locals := 40 }) (va_Pc [.ref (L 0), .int p0, .int p1, .int p2, .int p3] (PW SS g base n L (cw g L x r0))) (va_Qr (fun (_ : St) => True) (BR g n L (fun _ => 26 + 2 * 0) (fun (u : St) => cw g L u r0)) (fun q => base ≤ q)) 0 0 (fun q => base ≤ q) := by
  refine Met.ofW (cc := cX3_take) (maxL := 7) (ret := (some (.object "FerroDesk$Notice"))) (by decide) rfl ?_
  intro p e s m args below meth c s₁ B hml hv
  obtain ⟨rfl, hPW⟩ := hv
  obtain ⟨hbs, hJ, hP, hK, hE⟩ := id hPW
  have hx := B.exec
  have hb := B.bytes
  have hr := B.returns
  have hts := atoms_spec (ws := wsX3_take) B.pre
  have hown : s.vm.findClass RX3 = some m.cls := findClass_of_methodNamed B.named
  have hlocks := B.notSynchronized
  have hS : va_S (fun q : Nat => base ≤ q) s.heap s.heap [] := va_S.rf
  have hl := lv_entry ([.ref (L 0), .int p0, .int p1, .int p2, .int p3]) (n := 7) (Nat.le_of_ble_eq_true rfl)
  rw [lg_entry_eq]
  generalize (lg_sl ([.ref (L 0), .int p0, .int p1, .int p2, .int p3]) ++ List.replicate (7 - (lg_sl ([.ref (L 0), .int p0, .int p1, .int p2, .int p3])).length) Slot.unset).toArray = ls at hl ⊢
  have hl : lv_has ls 7 [(0, .ref (L 0)), (1, .int p0), (2, .int p1), (3, .int p2), (4, .int p3)] := hl
  have iX3 : ∀ w ∈ wsX30, w ∈ wsX3_take := by decide +kernel
  refine lv_aload_n hx hb dX3_take_0 rfl (lv_at hl 0 rfl) ?_
  refine wx_get (D := g.1) (cl := vwCl) (ci := 5) (v := .int (x 1 0 0)) (C := RX3) (T := TX3) (N := 8) hx hb hts iX3 hown hK hP (0) (by omega) cw_d rfl 4 (by decide) (hts (.fieldLink RX3 28 "FerroDesk" "noticeCount" "I") (by decide +kernel)) (fun _ h9 => h9) rfl dX3_take_1 ?_
  refine lv_bipush (v := 40) hx hb dX3_take_4 (by decide) ?_
  refine lv_icmp_lt (tgt := 20) hx hb dX3_take_6 (by decide) (fun c6 => ?_) (fun c6 => absurd (by rw [hx1]; decide) c6)
  refine lv_aload_n hx hb dX3_take_20 rfl (lv_at hl 0 rfl) ?_
  refine wx_get (D := g.1) (cl := vwCl) (ci := 5) (v := .ref (L 2)) (C := RX3) (T := TX3) (N := 8) hx hb hts iX3 hown hK hP (0) (by omega) cw_d rfl 2 (by decide) (hts (.fieldLink RX3 21 "FerroDesk" "notices" "[LFerroDesk$Notice;") (by decide +kernel)) (fun _ h9 => h9) rfl dX3_take_21 ?_
  refine lv_aload_n hx hb dX3_take_24 rfl (lv_at hl 0 rfl) ?_
  refine wx_get (D := g.1) (cl := vwCl) (ci := 5) (v := .int (x 1 0 0)) (C := RX3) (T := TX3) (N := 8) hx hb hts iX3 hown hK hP (0) (by omega) cw_d rfl 4 (by decide) (hts (.fieldLink RX3 28 "FerroDesk" "noticeCount" "I") (by decide +kernel)) (fun _ h9 => h9) rfl dX3_take_25 ?_
  refine wx_aald (D := g.1) (cl := vwCl) (f := fun j => if j < 40 then some (L (26 + 2 * j)) else none) (a := L (26 + 2 * 0)) hx hb hK hP (2) 2 (by omega) cw_2 rfl (i := x 1 0 0) (by rw [hx1]; exact vp_in_nI (by decide) (by decide)) (by rw [hx1]; rfl) dX3_take_28 ?_
  refine lv_astore (lv' := [(5, .ref (L (26 + 2 * 0))), (0, .ref (L 0)), (1, .int p0), (2, .int p1), (3, .int p2), (4, .int p3)]) hx hb dX3_take_29 hl (by decide) rfl (fun ls hl => ?_)
  refine lv_aload hx hb dX3_take_31 (lv_at hl 0 rfl) ?_
  refine lv_iload_n hx hb dX3_take_33 rfl (lv_at hl 2 rfl) ?_
  refine lv_iload_n hx hb dX3_take_34 rfl (lv_at hl 3 rfl) ?_
  refine lv_iload_n hx hb dX3_take_35 rfl (lv_at hl 4 rfl) ?_
  refine lv_iload hx hb dX3_take_36 (lv_at hl 5 rfl) ?_
  refine wx_callv (va_runV (As := [.int p0, .int p1, .int p2, .int p3]) (rest := []) ⟨hx, hb, hml, hown, hts⟩ (k_fill l hst g base n L (by omega) x r0 0 (by omega) p0 p1 p2 p3) (cwV 4 hts gX3_take_X1_fill rfl rfl rfl (by decide +kernel) ⟨Nat.le_of_ble_eq_true rfl, Nat.le_of_ble_eq_true rfl⟩) (hPW.preV hP hS (ci := 3) rfl (by omega) (cw_n (by omega))) rfl rfl hl.1 rfl (lv_room (Nat.le_of_ble_eq_true rfl)) dX3_take_38 ⟨Nat.le_of_ble_eq_true rfl, Nat.le_of_ble_eq_true rfl⟩) hS (fun u38 H locs h38 hP hS => ?_)
  have hix : u38 1 0 0 = nI 0 := by rw [h38]; simp [st, hx1]
  refine lv_aload_n hx hb dX3_take_41 rfl (lv_at hl 1 rfl) ?_
  refine wx_get (D := g.1) (cl := vwCl) (ci := 5) (v := .int (u38 1 0 0)) (C := RX3) (T := TX3) (N := 8) hx hb hts iX3 hown hK hP (0) (by omega) cw_d rfl 4 (by decide) (hts (.fieldLink RX3 28 "FerroDesk" "noticeCount" "I") (by decide +kernel)) (fun _ h9 => h9) rfl dX3_take_42 ?_
  refine lv_istore (lv' := [(6, .int (u38 1 0 0)), (5, .ref (L (26 + 2 * 0))), (0, .ref (L 0)), (1, .int p0), (2, .int p1), (3, .int p2), (4, .int p3)]) hx hb dX3_take_45 hl (by decide) rfl (fun ls hl => ?_)
  refine lv_iload hx hb dX3_take_47 (lv_at hl 0 rfl) ?_
  refine lv_if_le (tgt := 90) hx hb dX3_take_49 (by decide) (fun c49 => ?_) (fun c49 => absurd (by rw [hix]; decide) c49)
  refine lv_aload_n hx hb dX3_take_90 rfl (lv_at hl 2 rfl) ?_
  refine wx_get (D := g.1) (cl := vwCl) (ci := 5) (v := .ref (L 3)) (C := RX3) (T := TX3) (N := 8) hx hb hts iX3 hown hK hP (0) (by omega) cw_d rfl 3 (by decide) (hts (.fieldLink RX3 25 "FerroDesk" "ranked" "[LFerroDesk$Notice;") (by decide +kernel)) (fun _ h9 => h9) rfl dX3_take_91 ?_
  refine lv_iload hx hb dX3_take_94 (lv_at hl 0 rfl) ?_
  refine lv_aload hx hb dX3_take_96 (lv_at hl 1 rfl) ?_
  refine wx_aast (D := g.1) (cl := vwCl) (f := fun j => if j < 40 then some (L (26 + 2 * (u38 43 0 j).toNatClampNeg)) else none) (w' := cw g L (st u38 43 0 0 (nI 0)) r0) hx hb hK hP hJ hS (3) 2 (26 + 2 * 0) 3 (by omega) (by omega) cw_3 rfl (cw_n (by omega)) rfl (i := u38 1 0 0) (by rw [hix]; exact vp_in_nI (by decide) (by decide)) dX3_take_98 (cw_put (r := 43) (i := 0) (j := 0) rfl (by omega) (by rw [hix]; exact rk_put (j := 0) (k := 0) (by decide) (by decide))) (fun H locs hP hS => ?_)
  refine lv_aload_n hx hb dX3_take_99 rfl (lv_at hl 2 rfl) ?_
  refine lv_dup hx hb dX3_take_100 rfl ?_
  refine wx_get (D := g.1) (cl := vwCl) (ci := 5) (v := .int ((st u38 43 0 0 (nI 0)) 1 0 0)) (C := RX3) (T := TX3) (N := 8) hx hb hts iX3 hown hK hP (0) (by omega) cw_d rfl 4 (by decide) (hts (.fieldLink RX3 28 "FerroDesk" "noticeCount" "I") (by decide +kernel)) (fun _ h9 => h9) rfl dX3_take_101 ?_
  refine lv_iconst (v := 1) hx hb dX3_take_104 (by decide) ?_
  refine lv_iadd hx hb dX3_take_105 ?_
  refine wx_put (D := g.1) (cl := vwCl) (ci := 5) (v := .int (((st u38 43 0 0 (nI 0)) 1 0 0) + 1)) (ty := .int) (w' := cw g L (st (st u38 43 0 0 (nI 0)) 1 0 0 (((st u38 43 0 0 (nI 0)) 1 0 0) + 1)) r0) (C := RX3) (T := TX3) (N := 8) hx hb hts iX3 tyX3 tyX3_ok nmX3 hown hK hP hJ hS (0) (by omega) cw_d rfl 4 (by decide) (hts (.fieldLink RX3 28 "FerroDesk" "noticeCount" "I") (by decide +kernel)) (fun _ h9 => h9) rfl (by decide +kernel) rfl rfl (Nat.le_of_ble_eq_true rfl) dX3_take_106 (cw_put (r := 1) (i := 0) (j := 0) rfl (by omega) (dk_0.trans (by simp [dF, st]))) (fun H locs hP hS => ?_)
  refine lv_aload hx hb dX3_take_109 (lv_at hl 1 rfl) ?_
  refine W.widen (k := 0) (n := 0) (Nat.le_of_ble_eq_true rfl) (Nat.le_of_ble_eq_true rfl) ?_
  exact W.aret (v := .ref (L (26 + 2 * 0))) hx hb hr (Or.inl ⟨_, rfl⟩) (Or.inr ⟨_, rfl⟩) (fun t ht hW => ⟨⟨(st (st u38 43 0 0 (nI 0)) 1 0 0 (((st u38 43 0 0 (nI 0)) 1 0 0) + 1)), _, rfl, trivial, rfl, PB.mk9 hP ht⟩, hS.F ht⟩) hS.2.2 dX3_take_111
