/-! laid by wip/gen -/
set_option maxHeartbeats 4000000 in
set_option maxRecDepth 100000 in
theorem k_checkDistrict (l : Launch) (hst : l.stackTraces = false) (g : gE) (base n : Nat) (L : Nat → Nat) (w0 : Nat → va_E) (p0 : Int32) : vx_Met l yX3_checkDistrict wsX3_checkDistrict ({ frames := 6, cells := 1, slots := 6, locals := 100 }) (va_Pc [.int p0] (PW SS g base n L (w0))) (va_Qv (fun (_ : Unit) => 0 ≤ p0.toInt ∧ p0.toInt ≤ 3) (fun (u : Unit) t => PB g n L (w0) t) (fun q => base ≤ q)) (QX g base n L (w0) (fun E => E = "java/lang/IllegalArgumentException" ∧ (p0.toInt < 0 ∨ 3 < p0.toInt))) 1 6 (fun q => base ≤ q) := by
  refine vx_ofW (cc := cX3_checkDistrict) (maxL := 1) (ret := none) (by decide) rfl ?_
  intro p e s m args below meth c s₁ B hml hno hv
  obtain ⟨rfl, hPW⟩ := hv
  obtain ⟨hbs, hJ, hP, hK, hE⟩ := id hPW
  have hx := B.exec
  have hb := B.bytes
  have hr := B.returns
  have hts := atoms_spec (ws := wsX3_checkDistrict) B.pre
  have hown : s.vm.findClass RX3 = some m.cls := findClass_of_methodNamed B.named
  have hlocks := B.notSynchronized
  have hS : va_S (fun q : Nat => base ≤ q) s.heap s.heap [] := va_S.rf
  have hl := lv_entry ([.int p0]) (n := 1) (Nat.le_of_ble_eq_true rfl)
  rw [lg_entry_eq]
  generalize (lg_sl ([.int p0]) ++ List.replicate (1 - (lg_sl ([.int p0])).length) Slot.unset).toArray = ls at hl ⊢
  have hl : lv_has ls 1 [(0, .int p0)] := hl
  refine lv_iload_n hx hb dX3_checkDistrict_0 rfl (lv_at hl 0 rfl) ?_
  refine lv_if_lt (tgt := 9) hx hb dX3_checkDistrict_1 (by decide) (fun c1 => ?_) (fun c1 => ?_)
  · exact wx_throwSW (ik := 51) (is := 257) (ic := 55) (own := RX3) (cls := "java/lang/IllegalArgumentException") (text := "there is no such district") (names := ["java/lang/RuntimeException", "java/lang/Exception"]) hx hb hst hPW hown (by decide +kernel) (by decide +kernel) (hts (.classLink RX3 51 "java/lang/IllegalArgumentException") (by decide +kernel)) (hts (.initialized "java/lang/IllegalArgumentException") (by decide +kernel)) (by decide +kernel) (fun w hw => hts w (List.mem_cons_of_mem _ (List.mem_append_right _ hw))) (by decide +kernel) (by decide +kernel) hP hS (hl.1.trans hml.symm) dX3_checkDistrict_9 dX3_checkDistrict_12 dX3_checkDistrict_13 dX3_checkDistrict_16 dX3_checkDistrict_19 hno (Nat.lt_of_lt_of_le (Nat.lt_succ_self _) (Nat.le_of_ble_eq_true rfl)) (Nat.le_of_ble_eq_true rfl) (Nat.le_of_ble_eq_true rfl) (Nat.le_of_ble_eq_true rfl) hlocks (⟨rfl, (by revert c1; (try simp only [Int32.lt_iff_toInt_lt, Int32.le_iff_toInt_le, ← Int32.toInt_inj, i_0, i_1, i_2, i_3, i_4, i_6, i_9, i_20, i_32, i_40, i_48, i_60, i_200, i_999, i_2000, i_m1]); omega)⟩) (Nat.le_of_ble_eq_true rfl) (Nat.le_of_ble_eq_true rfl)
  · refine lv_iload_n hx hb dX3_checkDistrict_4 rfl (lv_at hl 0 rfl) ?_
    refine lv_iconst (v := 4) hx hb dX3_checkDistrict_5 (by decide) ?_
    refine lv_icmp_lt (tgt := 20) hx hb dX3_checkDistrict_6 (by decide) (fun c6 => ?_) (fun c6 => ?_)
    · refine W.widen (k := 1) (n := 6) (Nat.le_of_ble_eq_true rfl) (Nat.le_of_ble_eq_true rfl) ?_
      exact vx_ret (W.vret hx hb hr (fun t ht hW => ⟨⟨(), rfl, (by revert c1 c6; (try simp only [Int32.lt_iff_toInt_lt, Int32.le_iff_toInt_le, ← Int32.toInt_inj, i_0, i_1, i_2, i_3, i_4, i_6, i_9, i_20, i_32, i_40, i_48, i_60, i_200, i_999, i_2000, i_m1]); omega), PB.mk9 hP ht⟩, hS.F ht⟩) hS.2.2 dX3_checkDistrict_20)
    · exact wx_throwSW (ik := 51) (is := 257) (ic := 55) (own := RX3) (cls := "java/lang/IllegalArgumentException") (text := "there is no such district") (names := ["java/lang/RuntimeException", "java/lang/Exception"]) hx hb hst hPW hown (by decide +kernel) (by decide +kernel) (hts (.classLink RX3 51 "java/lang/IllegalArgumentException") (by decide +kernel)) (hts (.initialized "java/lang/IllegalArgumentException") (by decide +kernel)) (by decide +kernel) (fun w hw => hts w (List.mem_cons_of_mem _ (List.mem_append_right _ hw))) (by decide +kernel) (by decide +kernel) hP hS (hl.1.trans hml.symm) dX3_checkDistrict_9 dX3_checkDistrict_12 dX3_checkDistrict_13 dX3_checkDistrict_16 dX3_checkDistrict_19 hno (Nat.lt_of_lt_of_le (Nat.lt_succ_self _) (Nat.le_of_ble_eq_true rfl)) (Nat.le_of_ble_eq_true rfl) (Nat.le_of_ble_eq_true rfl) (Nat.le_of_ble_eq_true rfl) hlocks (⟨rfl, (by revert c1 c6; (try simp only [Int32.lt_iff_toInt_lt, Int32.le_iff_toInt_le, ← Int32.toInt_inj, i_0, i_1, i_2, i_3, i_4, i_6, i_9, i_20, i_32, i_40, i_48, i_60, i_200, i_999, i_2000, i_m1]); omega)⟩) (Nat.le_of_ble_eq_true rfl) (Nat.le_of_ble_eq_true rfl)

set_option maxHeartbeats 4000000 in
set_option maxRecDepth 100000 in
theorem k_checkRumour (l : Launch) (hst : l.stackTraces = false) (g : gE) (base n : Nat) (L : Nat → Nat) (w0 : Nat → va_E) (p0 p1 : Int32) : vx_Met l yX3_checkRumour wsX3_checkRumour ({ frames := 7, cells := 2, slots := 12, locals := 140 }) (va_Pc [.int p0, .int p1] (PW SS g base n L (w0))) (va_Qv (fun (_ : Unit) => 0 ≤ p1.toInt ∧ p1.toInt ≤ 3 ∧ p0.toInt ≠ 0) (fun (u : Unit) t => PB g n L (w0) t) (fun q => base ≤ q)) (QX g base n L (w0) (fun E => E = "java/lang/IllegalArgumentException" ∧ (p1.toInt < 0 ∨ 3 < p1.toInt ∨ p0.toInt = 0))) 2 12 (fun q => base ≤ q) := by
  refine vx_ofW (cc := cX3_checkRumour) (maxL := 2) (ret := none) (by decide) rfl ?_
  intro p e s m args below meth c s₁ B hml hno hv
  obtain ⟨rfl, hPW⟩ := hv
  obtain ⟨hbs, hJ, hP, hK, hE⟩ := id hPW
  have hx := B.exec
  have hb := B.bytes
  have hr := B.returns
  have hts := atoms_spec (ws := wsX3_checkRumour) B.pre
  have hown : s.vm.findClass RX3 = some m.cls := findClass_of_methodNamed B.named
  have hlocks := B.notSynchronized
  have hS : va_S (fun q : Nat => base ≤ q) s.heap s.heap [] := va_S.rf
  have hl := lv_entry ([.int p0, .int p1]) (n := 2) (Nat.le_of_ble_eq_true rfl)
  rw [lg_entry_eq]
  generalize (lg_sl ([.int p0, .int p1]) ++ List.replicate (2 - (lg_sl ([.int p0, .int p1])).length) Slot.unset).toArray = ls at hl ⊢
  have hl : lv_has ls 2 [(0, .int p0), (1, .int p1)] := hl
  refine lv_iload_n hx hb dX3_checkRumour_0 rfl (lv_at hl 1 rfl) ?_
  refine wx_xcallv (vx_runS (As := [.int p1]) (rest := []) ⟨hx, hb, hml, hown, hts⟩ (k_checkDistrict l hst g base n L (w0) p1) (va_cwS 1 hts gX3_checkRumour_X3_checkDistrict rfl rfl rfl (by decide +kernel) ⟨Nat.le_of_ble_eq_true rfl, Nat.le_of_ble_eq_true rfl⟩) (hPW.preS hP hS) rfl rfl hl.1 rfl (lv_room (Nat.le_of_ble_eq_true rfl)) dX3_checkRumour_1 ⟨Nat.le_of_ble_eq_true rfl, Nat.le_of_ble_eq_true rfl⟩) hS (fun E ce q9 H locs hpx hP hS h1 h2 h3 => ?_) (fun u1 H locs h1 hP hS => ?_)
  · exact wx_out hno hlocks h1 h2 h3 (⟨hpx.1, (by have h9 := hpx.2; omega)⟩) hP hS (Nat.le_of_ble_eq_true rfl) (Nat.le_of_ble_eq_true rfl)
  refine lv_iload_n hx hb dX3_checkRumour_4 rfl (lv_at hl 0 rfl) ?_
  refine lv_if_ne (tgt := 19) hx hb dX3_checkRumour_5 (by decide) (fun c5 => ?_) (fun c5 => ?_)
  · refine W.widen (k := 2) (n := 12) (Nat.le_of_ble_eq_true rfl) (Nat.le_of_ble_eq_true rfl) ?_
    exact vx_ret (W.vret hx hb hr (fun t ht hW => ⟨⟨(), rfl, (by revert h1 c5; (try simp only [Int32.lt_iff_toInt_lt, Int32.le_iff_toInt_le, ← Int32.toInt_inj, i_0, i_1, i_2, i_3, i_4, i_6, i_9, i_20, i_32, i_40, i_48, i_60, i_200, i_999, i_2000, i_m1]); omega), PB.mk9 hP ht⟩, hS.F ht⟩) hS.2.2 dX3_checkRumour_19)
  · exact wx_throwSW (ik := 51) (is := 259) (ic := 55) (own := RX3) (cls := "java/lang/IllegalArgumentException") (text := "the rumour is 0") (names := ["java/lang/RuntimeException", "java/lang/Exception"]) hx hb hst hPW hown (by decide +kernel) (by decide +kernel) (hts (.classLink RX3 51 "java/lang/IllegalArgumentException") (by decide +kernel)) (hts (.initialized "java/lang/IllegalArgumentException") (by decide +kernel)) (by decide +kernel) (fun w hw => hts w (List.mem_cons_of_mem _ (List.mem_append_right _ hw))) (by decide +kernel) (by decide +kernel) hP hS (hl.1.trans hml.symm) dX3_checkRumour_8 dX3_checkRumour_11 dX3_checkRumour_12 dX3_checkRumour_15 dX3_checkRumour_18 hno (Nat.lt_of_lt_of_le (Nat.lt_succ_self _) (Nat.le_of_ble_eq_true rfl)) (Nat.le_of_ble_eq_true rfl) (Nat.le_of_ble_eq_true rfl) (Nat.le_of_ble_eq_true rfl) hlocks (⟨rfl, (by revert h1 c5; (try simp only [Int32.lt_iff_toInt_lt, Int32.le_iff_toInt_le, ← Int32.toInt_inj, i_0, i_1, i_2, i_3, i_4, i_6, i_9, i_20, i_32, i_40, i_48, i_60, i_200, i_999, i_2000, i_m1]); omega)⟩) (Nat.le_of_ble_eq_true rfl) (Nat.le_of_ble_eq_true rfl)

set_option maxHeartbeats 4000000 in
set_option maxRecDepth 100000 in
theorem k_boardAt (l : Launch) (hst : l.stackTraces = false) (g : gE) (base n : Nat) (L : Nat → Nat) (hn : 106 ≤ n) (x : St) (r0 : Nat → va_E) (nb : Nat) (hnb : nb ≤ 6) (hx0 : x 0 0 0 = nI nb) (p0 : Int32) : vx_Met l yX3_boardAt wsX3_boardAt ({ frames := 6, cells := 1, slots := 6, locals := 100 }) (va_Pc [.ref (L 0), .int p0] (PW SS g base n L (cw g L x r0))) (va_Qr (fun (u : Nat) => u < nb ∧ p0 = nI u) (BR g n L (fun u => 8 + 3 * u) (fun (u : Nat) => cw g L x r0)) (fun q => base ≤ q)) (QX g base n L (cw g L x r0) (fun E => E = "java/lang/IndexOutOfBoundsException" ∧ (p0.toInt < 0 ∨ nb ≤ p0.toInt))) 1 6 (fun q => base ≤ q) := by
  refine vx_ofW (cc := cX3_boardAt) (maxL := 2) (ret := (some (.object "FerroDesk$Board"))) (by decide) rfl ?_
  intro p e s m args below meth c s₁ B hml hno hv
  obtain ⟨rfl, hPW⟩ := hv
  obtain ⟨hbs, hJ, hP, hK, hE⟩ := id hPW
  have hx := B.exec
  have hb := B.bytes
  have hr := B.returns
  have hts := atoms_spec (ws := wsX3_boardAt) B.pre
  have hown : s.vm.findClass RX3 = some m.cls := findClass_of_methodNamed B.named
  have hlocks := B.notSynchronized
  have hS : va_S (fun q : Nat => base ≤ q) s.heap s.heap [] := va_S.rf
  have hl := lv_entry ([.ref (L 0), .int p0]) (n := 2) (Nat.le_of_ble_eq_true rfl)
  rw [lg_entry_eq]
  generalize (lg_sl ([.ref (L 0), .int p0]) ++ List.replicate (2 - (lg_sl ([.ref (L 0), .int p0])).length) Slot.unset).toArray = ls at hl ⊢
  have hl : lv_has ls 2 [(0, .ref (L 0)), (1, .int p0)] := hl
  have iX3 : ∀ w ∈ wsX30, w ∈ wsX3_boardAt := by decide +kernel
  refine lv_iload_n hx hb dX3_boardAt_0 rfl (lv_at hl 1 rfl) ?_
  refine lv_if_lt (tgt := 12) hx hb dX3_boardAt_1 (by decide) (fun c1 => ?_) (fun c1 => ?_)
  · exact wx_throwS (ik := 180) (is := 251) (ic := 184) (own := RX3) (cls := "java/lang/IndexOutOfBoundsException") (text := "there is no such board") (names := ["java/lang/RuntimeException", "java/lang/Exception"]) hx hb hst hPW hown (by decide +kernel) (by decide +kernel) (hts (.classLink RX3 180 "java/lang/IndexOutOfBoundsException") (by decide +kernel)) (hts (.initialized "java/lang/IndexOutOfBoundsException") (by decide +kernel)) (by decide +kernel) (fun w hw => hts w (List.mem_cons_of_mem _ (List.mem_append_right _ hw))) (by decide +kernel) (by decide +kernel) hP hS (hl.1.trans hml.symm) dX3_boardAt_12 dX3_boardAt_15 dX3_boardAt_16 dX3_boardAt_18 dX3_boardAt_21 hno (Nat.lt_of_lt_of_le (Nat.lt_succ_self _) (Nat.le_of_ble_eq_true rfl)) (Nat.le_of_ble_eq_true rfl) (Nat.le_of_ble_eq_true rfl) (Nat.le_of_ble_eq_true rfl) hlocks (⟨rfl, (by exact Or.inl (by rw [Int32.lt_iff_toInt_lt] at c1; exact c1))⟩) (Nat.le_of_ble_eq_true rfl) (Nat.le_of_ble_eq_true rfl)
  · refine lv_iload_n hx hb dX3_boardAt_4 rfl (lv_at hl 1 rfl) ?_
    refine lv_aload_n hx hb dX3_boardAt_5 rfl (lv_at hl 0 rfl) ?_
    refine wx_get (D := g.1) (cl := vwCl) (ci := 5) (v := .int (x 0 0 0)) (C := RX3) (T := TX3) (N := 8) hx hb hts iX3 hown hK hP (0) (by omega) cw_d rfl 1 (by decide) (hts (.fieldLink RX3 15 "FerroDesk" "boardCount" "I") (by decide +kernel)) (fun _ h9 => h9) rfl dX3_boardAt_6 ?_
    refine lv_icmp_lt (tgt := 22) hx hb dX3_boardAt_9 (by decide) (fun c9 => ?_) (fun c9 => ?_)
    · refine lv_aload_n hx hb dX3_boardAt_22 rfl (lv_at hl 0 rfl) ?_
      refine wx_get (D := g.1) (cl := vwCl) (ci := 5) (v := .ref (L 1)) (C := RX3) (T := TX3) (N := 8) hx hb hts iX3 hown hK hP (0) (by omega) cw_d rfl 0 (by decide) (hts (.fieldLink RX3 11 "FerroDesk" "boards" "[LFerroDesk$Board;") (by decide +kernel)) (fun _ h9 => h9) rfl dX3_boardAt_23 ?_
      refine lv_iload_n hx hb dX3_boardAt_26 rfl (lv_at hl 1 rfl) ?_
      obtain ⟨j, hj, ej⟩ := bd_in (k := nb) c1 (by rw [hx0] at c9; exact c9) (by omega)
      refine wx_aald (D := g.1) (cl := vwCl) (f := fun j => if j < 6 then some (L (8 + 3 * j)) else none) (a := L (8 + 3 * j)) hx hb hK hP (1) 1 (by omega) cw_1 rfl (i := p0) (by rw [ej]; exact vp_in_nI (by omega) (by decide)) (by rw [ej, nI_clamp (by omega), if_pos (by omega)]) dX3_boardAt_27 ?_
      refine W.widen (k := 1) (n := 6) (Nat.le_of_ble_eq_true rfl) (Nat.le_of_ble_eq_true rfl) ?_
      exact vx_ret (W.aret (v := .ref (L (8 + 3 * j))) hx hb hr (Or.inl ⟨_, rfl⟩) (Or.inr ⟨_, rfl⟩) (fun t ht hW => ⟨⟨j, _, rfl, ⟨hj, ej⟩, rfl, PB.mk9 hP ht⟩, hS.F ht⟩) hS.2.2 dX3_boardAt_28)
    · exact wx_throwS (ik := 180) (is := 251) (ic := 184) (own := RX3) (cls := "java/lang/IndexOutOfBoundsException") (text := "there is no such board") (names := ["java/lang/RuntimeException", "java/lang/Exception"]) hx hb hst hPW hown (by decide +kernel) (by decide +kernel) (hts (.classLink RX3 180 "java/lang/IndexOutOfBoundsException") (by decide +kernel)) (hts (.initialized "java/lang/IndexOutOfBoundsException") (by decide +kernel)) (by decide +kernel) (fun w hw => hts w (List.mem_cons_of_mem _ (List.mem_append_right _ hw))) (by decide +kernel) (by decide +kernel) hP hS (hl.1.trans hml.symm) dX3_boardAt_12 dX3_boardAt_15 dX3_boardAt_16 dX3_boardAt_18 dX3_boardAt_21 hno (Nat.lt_of_lt_of_le (Nat.lt_succ_self _) (Nat.le_of_ble_eq_true rfl)) (Nat.le_of_ble_eq_true rfl) (Nat.le_of_ble_eq_true rfl) (Nat.le_of_ble_eq_true rfl) hlocks (⟨rfl, (by exact Or.inr (by rw [hx0, Int32.lt_iff_toInt_lt, nI_toInt (by omega)] at c9; omega))⟩) (Nat.le_of_ble_eq_true rfl) (Nat.le_of_ble_eq_true rfl)

set_option maxHeartbeats 4000000 in
set_option maxRecDepth 100000 in
theorem k_noticeAt (l : Launch) (hst : l.stackTraces = false) (g : gE) (base n : Nat) (L : Nat → Nat) (hn : 106 ≤ n) (x : St) (r0 : Nat → va_E) (nb : Nat) (hnb : nb ≤ 40) (hx1 : x 1 0 0 = nI nb) (p0 : Int32) : vx_Met l yX3_noticeAt wsX3_noticeAt ({ frames := 6, cells := 1, slots := 6, locals := 100 }) (va_Pc [.ref (L 0), .int p0] (PW SS g base n L (cw g L x r0))) (va_Qr (fun (u : Nat) => u < nb ∧ p0 = nI u) (BR g n L (fun u => 26 + 2 * u) (fun (u : Nat) => cw g L x r0)) (fun q => base ≤ q)) (QX g base n L (cw g L x r0) (fun E => E = "java/lang/IndexOutOfBoundsException" ∧ (p0.toInt < 0 ∨ nb ≤ p0.toInt))) 1 6 (fun q => base ≤ q) := by
  refine vx_ofW (cc := cX3_noticeAt) (maxL := 2) (ret := (some (.object "FerroDesk$Notice"))) (by decide) rfl ?_
  intro p e s m args below meth c s₁ B hml hno hv
  obtain ⟨rfl, hPW⟩ := hv
  obtain ⟨hbs, hJ, hP, hK, hE⟩ := id hPW
  have hx := B.exec
  have hb := B.bytes
  have hr := B.returns
  have hts := atoms_spec (ws := wsX3_noticeAt) B.pre
  have hown : s.vm.findClass RX3 = some m.cls := findClass_of_methodNamed B.named
  have hlocks := B.notSynchronized
  have hS : va_S (fun q : Nat => base ≤ q) s.heap s.heap [] := va_S.rf
  have hl := lv_entry ([.ref (L 0), .int p0]) (n := 2) (Nat.le_of_ble_eq_true rfl)
  rw [lg_entry_eq]
  generalize (lg_sl ([.ref (L 0), .int p0]) ++ List.replicate (2 - (lg_sl ([.ref (L 0), .int p0])).length) Slot.unset).toArray = ls at hl ⊢
  have hl : lv_has ls 2 [(0, .ref (L 0)), (1, .int p0)] := hl
  have iX3 : ∀ w ∈ wsX30, w ∈ wsX3_noticeAt := by decide +kernel
  refine lv_iload_n hx hb dX3_noticeAt_0 rfl (lv_at hl 1 rfl) ?_
  refine lv_if_lt (tgt := 12) hx hb dX3_noticeAt_1 (by decide) (fun c1 => ?_) (fun c1 => ?_)
  · exact wx_throwS (ik := 180) (is := 253) (ic := 184) (own := RX3) (cls := "java/lang/IndexOutOfBoundsException") (text := "there is no such notice") (names := ["java/lang/RuntimeException", "java/lang/Exception"]) hx hb hst hPW hown (by decide +kernel) (by decide +kernel) (hts (.classLink RX3 180 "java/lang/IndexOutOfBoundsException") (by decide +kernel)) (hts (.initialized "java/lang/IndexOutOfBoundsException") (by decide +kernel)) (by decide +kernel) (fun w hw => hts w (List.mem_cons_of_mem _ (List.mem_append_right _ hw))) (by decide +kernel) (by decide +kernel) hP hS (hl.1.trans hml.symm) dX3_noticeAt_12 dX3_noticeAt_15 dX3_noticeAt_16 dX3_noticeAt_18 dX3_noticeAt_21 hno (Nat.lt_of_lt_of_le (Nat.lt_succ_self _) (Nat.le_of_ble_eq_true rfl)) (Nat.le_of_ble_eq_true rfl) (Nat.le_of_ble_eq_true rfl) (Nat.le_of_ble_eq_true rfl) hlocks (⟨rfl, (by exact Or.inl (by rw [Int32.lt_iff_toInt_lt] at c1; exact c1))⟩) (Nat.le_of_ble_eq_true rfl) (Nat.le_of_ble_eq_true rfl)
  · refine lv_iload_n hx hb dX3_noticeAt_4 rfl (lv_at hl 1 rfl) ?_
    refine lv_aload_n hx hb dX3_noticeAt_5 rfl (lv_at hl 0 rfl) ?_
    refine wx_get (D := g.1) (cl := vwCl) (ci := 5) (v := .int (x 1 0 0)) (C := RX3) (T := TX3) (N := 8) hx hb hts iX3 hown hK hP (0) (by omega) cw_d rfl 4 (by decide) (hts (.fieldLink RX3 28 "FerroDesk" "noticeCount" "I") (by decide +kernel)) (fun _ h9 => h9) rfl dX3_noticeAt_6 ?_
    refine lv_icmp_lt (tgt := 22) hx hb dX3_noticeAt_9 (by decide) (fun c9 => ?_) (fun c9 => ?_)
    · refine lv_aload_n hx hb dX3_noticeAt_22 rfl (lv_at hl 0 rfl) ?_
      refine wx_get (D := g.1) (cl := vwCl) (ci := 5) (v := .ref (L 2)) (C := RX3) (T := TX3) (N := 8) hx hb hts iX3 hown hK hP (0) (by omega) cw_d rfl 2 (by decide) (hts (.fieldLink RX3 21 "FerroDesk" "notices" "[LFerroDesk$Notice;") (by decide +kernel)) (fun _ h9 => h9) rfl dX3_noticeAt_23 ?_
      refine lv_iload_n hx hb dX3_noticeAt_26 rfl (lv_at hl 1 rfl) ?_
      obtain ⟨j, hj, ej⟩ := bd_in (k := nb) c1 (by rw [hx1] at c9; exact c9) (by omega)
      refine wx_aald (D := g.1) (cl := vwCl) (f := fun j => if j < 40 then some (L (26 + 2 * j)) else none) (a := L (26 + 2 * j)) hx hb hK hP (2) 2 (by omega) cw_2 rfl (i := p0) (by rw [ej]; exact vp_in_nI (by omega) (by decide)) (by rw [ej, nI_clamp (by omega), if_pos (by omega)]) dX3_noticeAt_27 ?_
      refine W.widen (k := 1) (n := 6) (Nat.le_of_ble_eq_true rfl) (Nat.le_of_ble_eq_true rfl) ?_
      exact vx_ret (W.aret (v := .ref (L (26 + 2 * j))) hx hb hr (Or.inl ⟨_, rfl⟩) (Or.inr ⟨_, rfl⟩) (fun t ht hW => ⟨⟨j, _, rfl, ⟨hj, ej⟩, rfl, PB.mk9 hP ht⟩, hS.F ht⟩) hS.2.2 dX3_noticeAt_28)
    · exact wx_throwS (ik := 180) (is := 253) (ic := 184) (own := RX3) (cls := "java/lang/IndexOutOfBoundsException") (text := "there is no such notice") (names := ["java/lang/RuntimeException", "java/lang/Exception"]) hx hb hst hPW hown (by decide +kernel) (by decide +kernel) (hts (.classLink RX3 180 "java/lang/IndexOutOfBoundsException") (by decide +kernel)) (hts (.initialized "java/lang/IndexOutOfBoundsException") (by decide +kernel)) (by decide +kernel) (fun w hw => hts w (List.mem_cons_of_mem _ (List.mem_append_right _ hw))) (by decide +kernel) (by decide +kernel) hP hS (hl.1.trans hml.symm) dX3_noticeAt_12 dX3_noticeAt_15 dX3_noticeAt_16 dX3_noticeAt_18 dX3_noticeAt_21 hno (Nat.lt_of_lt_of_le (Nat.lt_succ_self _) (Nat.le_of_ble_eq_true rfl)) (Nat.le_of_ble_eq_true rfl) (Nat.le_of_ble_eq_true rfl) (Nat.le_of_ble_eq_true rfl) hlocks (⟨rfl, (by exact Or.inr (by rw [hx1, Int32.lt_iff_toInt_lt, nI_toInt (by omega)] at c9; omega))⟩) (Nat.le_of_ble_eq_true rfl) (Nat.le_of_ble_eq_true rfl)

set_option maxHeartbeats 4000000 in
set_option maxRecDepth 100000 in
theorem k_settle (l : Launch) (hst : l.stackTraces = false) (g : gE) (base n : Nat) (L : Nat → Nat) (hn : 106 ≤ n) (x : St) (r0 : Nat → va_E) (i : Nat) (hi : i < 6) (p0 p1 : Int32) : Met l yX0_settle wsX0_settle ({ frames := 0, cells := 0, slots := 0, locals := 0 }) (va_Pc [.ref (L (8 + 3 * i)), .int p0, .int p1] (PW SS g base n L (cw g L x r0))) (va_Qv (fun (u : St) => u = st (st x 10 i 0 p0) 11 i 0 p1) (fun (u : St) t => PB g n L (cw g L u r0) t) (fun q => base ≤ q)) 0 0 (fun q => base ≤ q) := by
  refine Met.ofW (cc := cX0_settle) (maxL := 3) (ret := none) (by decide) rfl ?_
  intro p e s m args below meth c s₁ B hml hv
  obtain ⟨rfl, hPW⟩ := hv
  obtain ⟨hbs, hJ, hP, hK, hE⟩ := id hPW
  have hx := B.exec
  have hb := B.bytes
  have hr := B.returns
  have hts := atoms_spec (ws := wsX0_settle) B.pre
  have hown : s.vm.findClass RX0 = some m.cls := findClass_of_methodNamed B.named
  have hlocks := B.notSynchronized
  have hS : va_S (fun q : Nat => base ≤ q) s.heap s.heap [] := va_S.rf
  have hl := lv_entry ([.ref (L (8 + 3 * i)), .int p0, .int p1]) (n := 3) (Nat.le_of_ble_eq_true rfl)
  rw [lg_entry_eq]
  generalize (lg_sl ([.ref (L (8 + 3 * i)), .int p0, .int p1]) ++ List.replicate (3 - (lg_sl ([.ref (L (8 + 3 * i)), .int p0, .int p1])).length) Slot.unset).toArray = ls at hl ⊢
  have hl : lv_has ls 3 [(0, .ref (L (8 + 3 * i))), (1, .int p0), (2, .int p1)] := hl
  have iX0 : ∀ w ∈ wsX00, w ∈ wsX0_settle := by decide +kernel
  refine lv_aload_n hx hb dX0_settle_0 rfl (lv_at hl 0 rfl) ?_
  refine lv_iload_n hx hb dX0_settle_1 rfl (lv_at hl 1 rfl) ?_
  refine wx_put (D := g.1) (cl := vwCl) (ci := 2) (v := .int p0) (ty := .int) (w' := cw g L (st x 10 i 0 p0) r0) (C := RX0) (T := TX0) (N := 12) hx hb hts iX0 tyX0 tyX0_ok nmX0 hown hK hP hJ hS (8 + 3 * i) (by omega) (cw_b (by omega)) rfl 0 (by decide) (hts (.fieldLink RX0 9 "FerroDesk$Board" "district" "I") (by decide +kernel)) (fun _ h9 => h9) rfl (by decide +kernel) rfl rfl (Nat.le_of_ble_eq_true rfl) dX0_settle_2 (cw_put (r := 10) (i := i) (j := 0) rfl (by omega) ((dk_b (by omega)).trans (by simp [bF, st]))) (fun H locs hP hS => ?_)
  refine lv_aload_n hx hb dX0_settle_5 rfl (lv_at hl 0 rfl) ?_
  refine lv_iload_n hx hb dX0_settle_6 rfl (lv_at hl 2 rfl) ?_
  refine wx_put (D := g.1) (cl := vwCl) (ci := 2) (v := .int p1) (ty := .int) (w' := cw g L (st (st x 10 i 0 p0) 11 i 0 p1) r0) (C := RX0) (T := TX0) (N := 12) hx hb hts iX0 tyX0 tyX0_ok nmX0 hown hK hP hJ hS (8 + 3 * i) (by omega) (cw_b (by omega)) rfl 1 (by decide) (hts (.fieldLink RX0 15 "FerroDesk$Board" "charge" "I") (by decide +kernel)) (fun _ h9 => h9) rfl (by decide +kernel) rfl rfl (Nat.le_of_ble_eq_true rfl) dX0_settle_7 (cw_put (r := 11) (i := i) (j := 0) rfl (by omega) ((dk_b (by omega)).trans (by simp [bF, st]))) (fun H locs hP hS => ?_)
  refine W.widen (k := 0) (n := 0) (Nat.le_of_ble_eq_true rfl) (Nat.le_of_ble_eq_true rfl) ?_
  exact W.vret hx hb hr (fun t ht hW => ⟨⟨(st (st x 10 i 0 p0) 11 i 0 p1), rfl, rfl, PB.mk9 hP ht⟩, hS.F ht⟩) hS.2.2 dX0_settle_10

set_option maxHeartbeats 4000000 in
set_option maxRecDepth 100000 in
theorem k_fill (l : Launch) (hst : l.stackTraces = false) (g : gE) (base n : Nat) (L : Nat → Nat) (hn : 106 ≤ n) (x : St) (r0 : Nat → va_E) (i : Nat) (hi : i < 40) (p0 p1 p2 p3 : Int32) : Met l yX1_fill wsX1_fill ({ frames := 0, cells := 0, slots := 0, locals := 0 }) (va_Pc [.ref (L (26 + 2 * i)), .int p0, .int p1, .int p2, .int p3] (PW SS g base n L (cw g L x r0))) (va_Qv (fun (u : St) => u = st (st (st (st x 30 i 0 p0) 31 i 0 p1) 32 i 0 p2) 33 i 0 p3) (fun (u : St) t => PB g n L (cw g L u r0) t) (fun q => base ≤ q)) 0 0 (fun q => base ≤ q) := by
  refine Met.ofW (cc := cX1_fill) (maxL := 5) (ret := none) (by decide) rfl ?_
  intro p e s m args below meth c s₁ B hml hv
  obtain ⟨rfl, hPW⟩ := hv
  obtain ⟨hbs, hJ, hP, hK, hE⟩ := id hPW
  have hx := B.exec
  have hb := B.bytes
  have hr := B.returns
  have hts := atoms_spec (ws := wsX1_fill) B.pre
  have hown : s.vm.findClass RX1 = some m.cls := findClass_of_methodNamed B.named
  have hlocks := B.notSynchronized
  have hS : va_S (fun q : Nat => base ≤ q) s.heap s.heap [] := va_S.rf
  have hl := lv_entry ([.ref (L (26 + 2 * i)), .int p0, .int p1, .int p2, .int p3]) (n := 5) (Nat.le_of_ble_eq_true rfl)
  rw [lg_entry_eq]
  generalize (lg_sl ([.ref (L (26 + 2 * i)), .int p0, .int p1, .int p2, .int p3]) ++ List.replicate (5 - (lg_sl ([.ref (L (26 + 2 * i)), .int p0, .int p1, .int p2, .int p3])).length) Slot.unset).toArray = ls at hl ⊢
  have hl : lv_has ls 5 [(0, .ref (L (26 + 2 * i))), (1, .int p0), (2, .int p1), (3, .int p2), (4, .int p3)] := hl
  have iX1 : ∀ w ∈ wsX10, w ∈ wsX1_fill := by decide +kernel
  refine lv_aload_n hx hb dX1_fill_0 rfl (lv_at hl 0 rfl) ?_
  refine lv_iload_n hx hb dX1_fill_1 rfl (lv_at hl 1 rfl) ?_
  refine wx_put (D := g.1) (cl := vwCl) (ci := 3) (v := .int p0) (ty := .int) (w' := cw g L (st x 30 i 0 p0) r0) (C := RX1) (T := TX1) (N := 9) hx hb hts iX1 tyX1 tyX1_ok nmX1 hown hK hP hJ hS (26 + 2 * i) (by omega) (cw_n (by omega)) rfl 2 (by decide) (hts (.fieldLink RX1 15 "FerroDesk$Notice" "rank" "I") (by decide +kernel)) (fun _ h9 => h9) rfl (by decide +kernel) rfl rfl (Nat.le_of_ble_eq_true rfl) dX1_fill_2 (cw_put (r := 30) (i := i) (j := 0) rfl (by omega) (dk_n.trans (by simp [nF, st]))) (fun H locs hP hS => ?_)
  refine lv_aload_n hx hb dX1_fill_5 rfl (lv_at hl 0 rfl) ?_
  refine lv_iload_n hx hb dX1_fill_6 rfl (lv_at hl 2 rfl) ?_
  refine wx_put (D := g.1) (cl := vwCl) (ci := 3) (v := .int p1) (ty := .int) (w' := cw g L (st (st x 30 i 0 p0) 31 i 0 p1) r0) (C := RX1) (T := TX1) (N := 9) hx hb hts iX1 tyX1 tyX1_ok nmX1 hown hK hP hJ hS (26 + 2 * i) (by omega) (cw_n (by omega)) rfl 3 (by decide) (hts (.fieldLink RX1 19 "FerroDesk$Notice" "picture" "I") (by decide +kernel)) (fun _ h9 => h9) rfl (by decide +kernel) rfl rfl (Nat.le_of_ble_eq_true rfl) dX1_fill_7 (cw_put (r := 31) (i := i) (j := 0) rfl (by omega) (dk_n.trans (by simp [nF, st]))) (fun H locs hP hS => ?_)
  refine lv_aload_n hx hb dX1_fill_10 rfl (lv_at hl 0 rfl) ?_
  refine lv_iload_n hx hb dX1_fill_11 rfl (lv_at hl 3 rfl) ?_
  refine wx_put (D := g.1) (cl := vwCl) (ci := 3) (v := .int p2) (ty := .int) (w' := cw g L (st (st (st x 30 i 0 p0) 31 i 0 p1) 32 i 0 p2) r0) (C := RX1) (T := TX1) (N := 9) hx hb hts iX1 tyX1 tyX1_ok nmX1 hown hK hP hJ hS (26 + 2 * i) (by omega) (cw_n (by omega)) rfl 4 (by decide) (hts (.fieldLink RX1 22 "FerroDesk$Notice" "from" "I") (by decide +kernel)) (fun _ h9 => h9) rfl (by decide +kernel) rfl rfl (Nat.le_of_ble_eq_true rfl) dX1_fill_12 (cw_put (r := 32) (i := i) (j := 0) rfl (by omega) (dk_n.trans (by simp [nF, st]))) (fun H locs hP hS => ?_)
  refine lv_aload_n hx hb dX1_fill_15 rfl (lv_at hl 0 rfl) ?_
  refine lv_iload hx hb dX1_fill_16 (lv_at hl 4 rfl) ?_
  refine wx_put (D := g.1) (cl := vwCl) (ci := 3) (v := .int p3) (ty := .int) (w' := cw g L (st (st (st (st x 30 i 0 p0) 31 i 0 p1) 32 i 0 p2) 33 i 0 p3) r0) (C := RX1) (T := TX1) (N := 9) hx hb hts iX1 tyX1 tyX1_ok nmX1 hown hK hP hJ hS (26 + 2 * i) (by omega) (cw_n (by omega)) rfl 5 (by decide) (hts (.fieldLink RX1 25 "FerroDesk$Notice" "till" "I") (by decide +kernel)) (fun _ h9 => h9) rfl (by decide +kernel) rfl rfl (Nat.le_of_ble_eq_true rfl) dX1_fill_18 (cw_put (r := 33) (i := i) (j := 0) rfl (by omega) (dk_n.trans (by simp [nF, st]))) (fun H locs hP hS => ?_)
  refine W.widen (k := 0) (n := 0) (Nat.le_of_ble_eq_true rfl) (Nat.le_of_ble_eq_true rfl) ?_
  exact W.vret hx hb hr (fun t ht hW => ⟨⟨(st (st (st (st x 30 i 0 p0) 31 i 0 p1) 32 i 0 p2) 33 i 0 p3), rfl, rfl, PB.mk9 hP ht⟩, hS.F ht⟩) hS.2.2 dX1_fill_21

set_option maxHeartbeats 4000000 in
set_option maxRecDepth 100000 in
theorem k_putInto (l : Launch) (hst : l.stackTraces = false) (g : gE) (base n : Nat) (L : Nat → Nat) (hn : 106 ≤ n) (x : St) (r0 : Nat → va_E) (i : Nat) (hi : i < 40) (p0 : Int32) : Met l yX1_putInto wsX1_putInto ({ frames := 0, cells := 0, slots := 0, locals := 0 }) (va_Pc [.ref (L (26 + 2 * i)), .int p0] (PW SS g base n L (cw g L x r0))) (va_Qv (fun (u : St) => u = st x 36 i 0 (x 36 i 0 ||| (1 <<< (p0 &&& 31)))) (fun (u : St) t => PB g n L (cw g L u r0) t) (fun q => base ≤ q)) 0 0 (fun q => base ≤ q) := by
  refine Met.ofW (cc := cX1_putInto) (maxL := 2) (ret := none) (by decide) rfl ?_
  intro p e s m args below meth c s₁ B hml hv
  obtain ⟨rfl, hPW⟩ := hv
  obtain ⟨hbs, hJ, hP, hK, hE⟩ := id hPW
  have hx := B.exec
  have hb := B.bytes
  have hr := B.returns
  have hts := atoms_spec (ws := wsX1_putInto) B.pre
  have hown : s.vm.findClass RX1 = some m.cls := findClass_of_methodNamed B.named
  have hlocks := B.notSynchronized
  have hS : va_S (fun q : Nat => base ≤ q) s.heap s.heap [] := va_S.rf
  have hl := lv_entry ([.ref (L (26 + 2 * i)), .int p0]) (n := 2) (Nat.le_of_ble_eq_true rfl)
  rw [lg_entry_eq]
  generalize (lg_sl ([.ref (L (26 + 2 * i)), .int p0]) ++ List.replicate (2 - (lg_sl ([.ref (L (26 + 2 * i)), .int p0])).length) Slot.unset).toArray = ls at hl ⊢
  have hl : lv_has ls 2 [(0, .ref (L (26 + 2 * i))), (1, .int p0)] := hl
  have iX1 : ∀ w ∈ wsX10, w ∈ wsX1_putInto := by decide +kernel
  refine lv_aload_n hx hb dX1_putInto_0 rfl (lv_at hl 0 rfl) ?_
  refine lv_dup hx hb dX1_putInto_1 rfl ?_
  refine wx_get (D := g.1) (cl := vwCl) (ci := 3) (v := .int (x 36 i 0)) (C := RX1) (T := TX1) (N := 9) hx hb hts iX1 hown hK hP (26 + 2 * i) (by omega) (cw_n (by omega)) rfl 8 (by decide) (hts (.fieldLink RX1 35 "FerroDesk$Notice" "districts" "I") (by decide +kernel)) (fun _ h9 => h9) rfl dX1_putInto_2 ?_
  refine lv_iconst (v := 1) hx hb dX1_putInto_5 (by decide) ?_
  refine lv_iload_n hx hb dX1_putInto_6 rfl (lv_at hl 1 rfl) ?_
  refine lv_ishl hx hb dX1_putInto_7 ?_
  refine lv_ior hx hb dX1_putInto_8 ?_
  refine wx_put (D := g.1) (cl := vwCl) (ci := 3) (v := .int ((x 36 i 0) ||| (1 <<< (p0 &&& 31)))) (ty := .int) (w' := cw g L (st x 36 i 0 ((x 36 i 0) ||| (1 <<< (p0 &&& 31)))) r0) (C := RX1) (T := TX1) (N := 9) hx hb hts iX1 tyX1 tyX1_ok nmX1 hown hK hP hJ hS (26 + 2 * i) (by omega) (cw_n (by omega)) rfl 8 (by decide) (hts (.fieldLink RX1 35 "FerroDesk$Notice" "districts" "I") (by decide +kernel)) (fun _ h9 => h9) rfl (by decide +kernel) rfl rfl (Nat.le_of_ble_eq_true rfl) dX1_putInto_9 (cw_put (r := 36) (i := i) (j := 0) rfl (by omega) (dk_n.trans (by simp [nF, st]))) (fun H locs hP hS => ?_)
  refine W.widen (k := 0) (n := 0) (Nat.le_of_ble_eq_true rfl) (Nat.le_of_ble_eq_true rfl) ?_
  exact W.vret hx hb hr (fun t ht hW => ⟨⟨(st x 36 i 0 ((x 36 i 0) ||| (1 <<< (p0 &&& 31)))), rfl, rfl, PB.mk9 hP ht⟩, hS.F ht⟩) hS.2.2 dX1_putInto_12

set_option maxHeartbeats 4000000 in
set_option maxRecDepth 100000 in
theorem k_find (l : Launch) (hst : l.stackTraces = false) (g : gE) (base n : Nat) (L : Nat → Nat) (hn : 106 ≤ n) (x : St) (r0 : Nat → va_E) (cnt : Nat) (hcn : cnt ≤ 512) (hx4 : x 4 0 0 = nI cnt) (p0 p1 : Int32) : Met l yX2_find wsX2_find ({ frames := 0, cells := 0, slots := 0, locals := 0 }) (va_Pc [.ref (L 4), .int p0, .int p1] (PW SS g base n L (cw g L x r0))) (va_Qi (fun (r : Int32) (_ : Unit) => r = fdF x p0 p1 cnt) (fun (u : Unit) t => PB g n L (cw g L x r0) t) (fun q => base ≤ q)) 0 0 (fun q => base ≤ q) := by
  refine Met.ofW (cc := cX2_find) (maxL := 4) (ret := (some .int)) (by decide) rfl ?_
  intro p e s m args below meth c s₁ B hml hv
  obtain ⟨rfl, hPW⟩ := hv
  obtain ⟨hbs, hJ, hP, hK, hE⟩ := id hPW
  have hx := B.exec
  have hb := B.bytes
  have hr := B.returns
  have hts := atoms_spec (ws := wsX2_find) B.pre
  have hown : s.vm.findClass RX2 = some m.cls := findClass_of_methodNamed B.named
  have hlocks := B.notSynchronized
  have hS : va_S (fun q : Nat => base ≤ q) s.heap s.heap [] := va_S.rf
  have hl := lv_entry ([.ref (L 4), .int p0, .int p1]) (n := 4) (Nat.le_of_ble_eq_true rfl)
  rw [lg_entry_eq]
  generalize (lg_sl ([.ref (L 4), .int p0, .int p1]) ++ List.replicate (4 - (lg_sl ([.ref (L 4), .int p0, .int p1])).length) Slot.unset).toArray = ls at hl ⊢
  have hl : lv_has ls 4 [(0, .ref (L 4)), (1, .int p0), (2, .int p1)] := hl
  have iX2 : ∀ w ∈ wsX20, w ∈ wsX2_find := by decide +kernel
  refine lv_iconst (v := 0) hx hb dX2_find_0 (by decide) ?_
  refine lv_istore_n (lv' := [(3, .int 0), (0, .ref (L 4)), (1, .int p0), (2, .int p1)]) hx hb dX2_find_1 rfl hl (by decide) rfl (fun ls hl => ?_)
  have key2 : ∀ (d k : Nat) (z3 : Int32) (H : Heap) (locs : List Loc) (ls : Array Slot), k + d = cnt → (z3 = nI k) → (fdF x p0 p1 k = -1) → va_P g.1 vwCl (wl n L (cw g L x r0)) H → va_S (fun q : Nat => base ≤ q) s.heap H locs → lv_has ls 4 [(3, .int z3), (0, .ref (L 4)), (1, .int p0), (2, .int p1)] → W p l e (headSpec wsX2_find ({ frames := 0, cells := 0, slots := 0, locals := 0 })).room s m ([.ref (L 4), .int p0, .int p1] : List Value).toArray below meth c H locs 0 0 (MQ below (va_Qi (fun (r : Int32) (_ : Unit) => r = fdF x p0 p1 cnt) (fun (u : Unit) t => PB g n L (cw g L x r0) t) (fun q => base ≤ q)) ([.ref (L 4), .int p0, .int p1] : List Value).toArray s 0 0 (fun q => base ≤ q)) (F0 m 2 ls []) := by
    intro d
    induction d with
    | zero =>
      intro k z3 H locs ls hkd ek3 hfd hP hS hl
      obtain rfl : cnt = k := by omega
      subst ek3
      refine lv_iload_n hx hb dX2_find_2 rfl (lv_at hl 0 rfl) ?_
      refine lv_aload_n hx hb dX2_find_3 rfl (lv_at hl 1 rfl) ?_
      refine wx_get (D := g.1) (cl := vwCl) (ci := 4) (v := .int (x 4 0 0)) (C := RX2) (T := TX2) (N := 4) hx hb hts iX2 hown hK hP (4) (by omega) cw_r rfl 3 (by decide) (hts (.fieldLink RX2 21 "FerroDesk$Readings" "count" "I") (by decide +kernel)) (fun _ h9 => h9) rfl dX2_find_4 ?_
      refine lv_icmp_ge (tgt := 38) hx hb dX2_find_7 (by decide) (fun c7 => ?_) (fun c7 => absurd (by rw [hx4]; exact nI_le (Nat.le_refl _) (by omega)) c7)
      refine lv_iconst (v := (-1)) hx hb dX2_find_38 (by decide) ?_
      refine W.widen (k := 0) (n := 0) (Nat.le_of_ble_eq_true rfl) (Nat.le_of_ble_eq_true rfl) ?_
      exact W.iret (v := (-1)) hx hb hr (fun t ht hW => ⟨⟨(-1), (), rfl, hfd.symm, PB.mk9 hP ht⟩, hS.F ht⟩) hS.2.2 dX2_find_39
    | succ d ih =>
      intro k z3 H locs ls hkd ek3 hfd hP hS hl
      have hkN : k < cnt := by omega
      subst ek3
      refine lv_iload_n hx hb dX2_find_2 rfl (lv_at hl 0 rfl) ?_
      refine lv_aload_n hx hb dX2_find_3 rfl (lv_at hl 1 rfl) ?_
      refine wx_get (D := g.1) (cl := vwCl) (ci := 4) (v := .int (x 4 0 0)) (C := RX2) (T := TX2) (N := 4) hx hb hts iX2 hown hK hP (4) (by omega) cw_r rfl 3 (by decide) (hts (.fieldLink RX2 21 "FerroDesk$Readings" "count" "I") (by decide +kernel)) (fun _ h9 => h9) rfl dX2_find_4 ?_
      refine lv_icmp_ge (tgt := 38) hx hb dX2_find_7 (by decide) (fun c7 => absurd c7 (by rw [hx4]; exact nI_ge hkN (by omega))) (fun c7 => ?_)
      refine lv_aload_n hx hb dX2_find_10 rfl (lv_at hl 1 rfl) ?_
      refine wx_get (D := g.1) (cl := vwCl) (ci := 4) (v := .ref (L 5)) (C := RX2) (T := TX2) (N := 4) hx hb hts iX2 hown hK hP (4) (by omega) cw_r rfl 0 (by decide) (hts (.fieldLink RX2 9 "FerroDesk$Readings" "noticeOf" "[I") (by decide +kernel)) (fun _ h9 => h9) rfl dX2_find_11 ?_
      refine lv_iload_n hx hb dX2_find_14 rfl (lv_at hl 0 rfl) ?_
      refine wx_ialdv (D := g.1) (cl := vwCl) (f := fun j => x 40 0 j) (v := x 40 0 k) hx hb hK hP (5) 0 (by omega) cw_5 rfl (i := nI k) (vp_in_nI (by omega) (by decide)) (by rw [nI_clamp (show k < 2 ^ 31 by omega)]) dX2_find_15 ?_
      refine lv_iload_n hx hb dX2_find_16 rfl (lv_at hl 2 rfl) ?_
      refine lv_icmp_ne (tgt := 32) hx hb dX2_find_17 (by decide) (fun c17 => ?_) (fun c17 => ?_)
      · obtain ⟨z32, ez32⟩ : ∃ y : Int32, y = nI k + 1 := ⟨_, rfl⟩
        refine lv_iinc (v := z32) (lv' := [(3, .int z32), (0, .ref (L 4)), (1, .int p0), (2, .int p1)]) hx hb dX2_find_32 hl (k := 0) rfl (by rw [ez32]; rfl) (by decide) rfl (fun ls hl => ?_)
        refine lv_goto (tgt := 2) hx hb dX2_find_35 (by decide) ?_
        exact ih (k + 1) _ _ _ _ (by omega) (by rw [ez32, nI_1]) (fd_no hfd (fun h9 => c17 h9.1)) hP hS (lv_sub hl [0, 1, 2, 3] rfl)
      · refine lv_aload_n hx hb dX2_find_20 rfl (lv_at hl 1 rfl) ?_
        refine wx_get (D := g.1) (cl := vwCl) (ci := 4) (v := .ref (L 6)) (C := RX2) (T := TX2) (N := 4) hx hb hts iX2 hown hK hP (4) (by omega) cw_r rfl 1 (by decide) (hts (.fieldLink RX2 15 "FerroDesk$Readings" "hourOf" "[I") (by decide +kernel)) (fun _ h9 => h9) rfl dX2_find_21 ?_
        refine lv_iload_n hx hb dX2_find_24 rfl (lv_at hl 0 rfl) ?_
        refine wx_ialdv (D := g.1) (cl := vwCl) (f := fun j => x 41 0 j) (v := x 41 0 k) hx hb hK hP (6) 0 (by omega) cw_6 rfl (i := nI k) (vp_in_nI (by omega) (by decide)) (by rw [nI_clamp (show k < 2 ^ 31 by omega)]) dX2_find_25 ?_
        refine lv_iload_n hx hb dX2_find_26 rfl (lv_at hl 3 rfl) ?_
        refine lv_icmp_ne (tgt := 32) hx hb dX2_find_27 (by decide) (fun c27 => ?_) (fun c27 => ?_)
        · obtain ⟨z32, ez32⟩ : ∃ y : Int32, y = nI k + 1 := ⟨_, rfl⟩
          refine lv_iinc (v := z32) (lv' := [(3, .int z32), (0, .ref (L 4)), (1, .int p0), (2, .int p1)]) hx hb dX2_find_32 hl (k := 0) rfl (by rw [ez32]; rfl) (by decide) rfl (fun ls hl => ?_)
          refine lv_goto (tgt := 2) hx hb dX2_find_35 (by decide) ?_
          exact ih (k + 1) _ _ _ _ (by omega) (by rw [ez32, nI_1]) (fd_no hfd (fun h9 => c27 h9.2)) hP hS (lv_sub hl [0, 1, 2, 3] rfl)
        · refine lv_iload_n hx hb dX2_find_30 rfl (lv_at hl 0 rfl) ?_
          refine W.widen (k := 0) (n := 0) (Nat.le_of_ble_eq_true rfl) (Nat.le_of_ble_eq_true rfl) ?_
          exact W.iret (v := nI k) hx hb hr (fun t ht hW => ⟨⟨nI k, (), rfl, (fd_at hfd ⟨c17, c27⟩ hkN (by omega)).symm, PB.mk9 hP ht⟩, hS.F ht⟩) hS.2.2 dX2_find_31
  exact key2 cnt 0 _ _ _ _ (by omega) rfl rfl hP hS (lv_sub hl [0, 1, 2, 3] rfl)

set_option maxHeartbeats 4000000 in
set_option maxRecDepth 100000 in
theorem k_peopleOf (l : Launch) (hst : l.stackTraces = false) (g : gE) (base n : Nat) (L : Nat → Nat) (hn : 106 ≤ n) (x : St) (r0 : Nat → va_E) (cnt : Nat) (hcn : cnt ≤ 512) (hx4 : x 4 0 0 = nI cnt) (p0 p1 : Int32) : Met l yX2_peopleOf wsX2_peopleOf ({ frames := 1, cells := 0, slots := 0, locals := 40 }) (va_Pc [.ref (L 4), .int p0, .int p1] (PW SS g base n L (cw g L x r0))) (va_Qi (fun (r : Int32) (_ : Unit) => r = poF x p0 p1 cnt) (fun (u : Unit) t => PB g n L (cw g L x r0) t) (fun q => base ≤ q)) 0 0 (fun q => base ≤ q) := by
  refine Met.ofW (cc := cX2_peopleOf) (maxL := 4) (ret := (some .int)) (by decide) rfl ?_
  intro p e s m args below meth c s₁ B hml hv
  obtain ⟨rfl, hPW⟩ := hv
  obtain ⟨hbs, hJ, hP, hK, hE⟩ := id hPW
  have hx := B.exec
  have hb := B.bytes
  have hr := B.returns
  have hts := atoms_spec (ws := wsX2_peopleOf) B.pre
  have hown : s.vm.findClass RX2 = some m.cls := findClass_of_methodNamed B.named
  have hlocks := B.notSynchronized
  have hS : va_S (fun q : Nat => base ≤ q) s.heap s.heap [] := va_S.rf
  have hl := lv_entry ([.ref (L 4), .int p0, .int p1]) (n := 4) (Nat.le_of_ble_eq_true rfl)
  rw [lg_entry_eq]
  generalize (lg_sl ([.ref (L 4), .int p0, .int p1]) ++ List.replicate (4 - (lg_sl ([.ref (L 4), .int p0, .int p1])).length) Slot.unset).toArray = ls at hl ⊢
  have hl : lv_has ls 4 [(0, .ref (L 4)), (1, .int p0), (2, .int p1)] := hl
  have iX2 : ∀ w ∈ wsX20, w ∈ wsX2_peopleOf := by decide +kernel
  refine lv_aload_n hx hb dX2_peopleOf_0 rfl (lv_at hl 0 rfl) ?_
  refine lv_iload_n hx hb dX2_peopleOf_1 rfl (lv_at hl 1 rfl) ?_
  refine lv_iload_n hx hb dX2_peopleOf_2 rfl (lv_at hl 2 rfl) ?_
  refine wx_calli (va_runV (As := [.int p0, .int p1]) (rest := []) ⟨hx, hb, hml, hown, hts⟩ (k_find l hst g base n L (by omega) x r0 cnt hcn hx4 p0 p1) (cwV 2 hts gX2_peopleOf_X2_find rfl rfl rfl (by decide +kernel) ⟨Nat.le_of_ble_eq_true rfl, Nat.le_of_ble_eq_true rfl⟩) (hPW.preV hP hS (ci := 4) rfl (by omega) cw_r) rfl rfl hl.1 rfl (lv_room (Nat.le_of_ble_eq_true rfl)) dX2_peopleOf_3 ⟨Nat.le_of_ble_eq_true rfl, Nat.le_of_ble_eq_true rfl⟩) hS (fun r3 u3 H locs h3 hP hS => ?_)
  obtain rfl := h3
  refine lv_istore_n (lv' := [(3, .int (fdF x p0 p1 cnt)), (0, .ref (L 4)), (1, .int p0), (2, .int p1)]) hx hb dX2_peopleOf_6 rfl hl (by decide) rfl (fun ls hl => ?_)
  refine lv_iload_n hx hb dX2_peopleOf_7 rfl (lv_at hl 0 rfl) ?_
  refine lv_if_lt (tgt := 18) hx hb dX2_peopleOf_8 (by decide) (fun c8 => ?_) (fun c8 => ?_)
  · refine lv_iconst (v := 0) hx hb dX2_peopleOf_18 (by decide) ?_
    refine lv_goto (tgt := 28) hx hb dX2_peopleOf_19 (by decide) ?_
    refine W.widen (k := 0) (n := 0) (Nat.le_of_ble_eq_true rfl) (Nat.le_of_ble_eq_true rfl) ?_
    exact W.iret (v := 0) hx hb hr (fun t ht hW => ⟨⟨0, (), rfl, (by simp only [poF, c8, if_true, if_false]), PB.mk9 hP ht⟩, hS.F ht⟩) hS.2.2 dX2_peopleOf_28
  · refine lv_iload_n hx hb dX2_peopleOf_11 rfl (lv_at hl 0 rfl) ?_
    refine lv_sipush (v := 512) hx hb dX2_peopleOf_12 (by decide) ?_
    refine lv_icmp_lt (tgt := 22) hx hb dX2_peopleOf_15 (by decide) (fun c15 => ?_) (fun c15 => ?_)
    · refine lv_aload_n hx hb dX2_peopleOf_22 rfl (lv_at hl 1 rfl) ?_
      refine wx_get (D := g.1) (cl := vwCl) (ci := 4) (v := .ref (L 7)) (C := RX2) (T := TX2) (N := 4) hx hb hts iX2 hown hK hP (4) (by omega) cw_r rfl 2 (by decide) (hts (.fieldLink RX2 18 "FerroDesk$Readings" "people" "[I") (by decide +kernel)) (fun _ h9 => h9) rfl dX2_peopleOf_23 ?_
      refine lv_iload_n hx hb dX2_peopleOf_26 rfl (lv_at hl 0 rfl) ?_
      refine wx_ialdv (D := g.1) (cl := vwCl) (f := fun j => x 42 0 j) (v := x 42 0 ((fdF x p0 p1 cnt).toNatClampNeg)) hx hb hK hP (7) 0 (by omega) cw_7 rfl (i := fdF x p0 p1 cnt) (cell_in2 c8 c15) (rfl) dX2_peopleOf_27 ?_
      refine W.widen (k := 0) (n := 0) (Nat.le_of_ble_eq_true rfl) (Nat.le_of_ble_eq_true rfl) ?_
      exact W.iret (v := x 42 0 ((fdF x p0 p1 cnt).toNatClampNeg)) hx hb hr (fun t ht hW => ⟨⟨x 42 0 ((fdF x p0 p1 cnt).toNatClampNeg), (), rfl, (by simp only [poF, c8, c15, if_true, if_false]), PB.mk9 hP ht⟩, hS.F ht⟩) hS.2.2 dX2_peopleOf_28
    · refine lv_iconst (v := 0) hx hb dX2_peopleOf_18 (by decide) ?_
      refine lv_goto (tgt := 28) hx hb dX2_peopleOf_19 (by decide) ?_
      refine W.widen (k := 0) (n := 0) (Nat.le_of_ble_eq_true rfl) (Nat.le_of_ble_eq_true rfl) ?_
      exact W.iret (v := 0) hx hb hr (fun t ht hW => ⟨⟨0, (), rfl, (by simp only [poF, c8, c15, if_true, if_false]), PB.mk9 hP ht⟩, hS.F ht⟩) hS.2.2 dX2_peopleOf_28

set_option maxHeartbeats 4000000 in
set_option maxRecDepth 100000 in
theorem k_write (l : Launch) (hst : l.stackTraces = false) (g : gE) (base n : Nat) (L : Nat → Nat) (hn : 106 ≤ n) (x : St) (r0 : Nat → va_E) (cnt : Nat) (hcn : cnt ≤ 512) (hx4 : x 4 0 0 = nI cnt) (p0 p1 p2 : Int32) : Met l yX2_write wsX2_write ({ frames := 1, cells := 0, slots := 0, locals := 40 }) (va_Pc [.ref (L 4), .int p0, .int p1, .int p2] (PW SS g base n L (cw g L x r0))) (va_Qv (fun (u : St) => u = wrF x p0 p1 p2 cnt) (fun (u : St) t => PB g n L (cw g L u r0) t) (fun q => base ≤ q)) 0 0 (fun q => base ≤ q) := by
  refine Met.ofW (cc := cX2_write) (maxL := 5) (ret := none) (by decide) rfl ?_
  intro p e s m args below meth c s₁ B hml hv
  obtain ⟨rfl, hPW⟩ := hv
  obtain ⟨hbs, hJ, hP, hK, hE⟩ := id hPW
  have hx := B.exec
  have hb := B.bytes
  have hr := B.returns
  have hts := atoms_spec (ws := wsX2_write) B.pre
  have hown : s.vm.findClass RX2 = some m.cls := findClass_of_methodNamed B.named
  have hlocks := B.notSynchronized
  have hS : va_S (fun q : Nat => base ≤ q) s.heap s.heap [] := va_S.rf
  have hl := lv_entry ([.ref (L 4), .int p0, .int p1, .int p2]) (n := 5) (Nat.le_of_ble_eq_true rfl)
  rw [lg_entry_eq]
  generalize (lg_sl ([.ref (L 4), .int p0, .int p1, .int p2]) ++ List.replicate (5 - (lg_sl ([.ref (L 4), .int p0, .int p1, .int p2])).length) Slot.unset).toArray = ls at hl ⊢
  have hl : lv_has ls 5 [(0, .ref (L 4)), (1, .int p0), (2, .int p1), (3, .int p2)] := hl
  have iX2 : ∀ w ∈ wsX20, w ∈ wsX2_write := by decide +kernel
  refine lv_aload_n hx hb dX2_write_0 rfl (lv_at hl 0 rfl) ?_
  refine lv_iload_n hx hb dX2_write_1 rfl (lv_at hl 1 rfl) ?_
  refine lv_iload_n hx hb dX2_write_2 rfl (lv_at hl 2 rfl) ?_
  refine wx_calli (va_runV (As := [.int p0, .int p1]) (rest := []) ⟨hx, hb, hml, hown, hts⟩ (k_find l hst g base n L (by omega) x r0 cnt hcn hx4 p0 p1) (cwV 2 hts gX2_write_X2_find rfl rfl rfl (by decide +kernel) ⟨Nat.le_of_ble_eq_true rfl, Nat.le_of_ble_eq_true rfl⟩) (hPW.preV hP hS (ci := 4) rfl (by omega) cw_r) rfl rfl hl.1 rfl (lv_room (Nat.le_of_ble_eq_true rfl)) dX2_write_3 ⟨Nat.le_of_ble_eq_true rfl, Nat.le_of_ble_eq_true rfl⟩) hS (fun r3 u3 H locs h3 hP hS => ?_)
  obtain rfl := h3
  refine lv_istore (lv' := [(4, .int (fdF x p0 p1 cnt)), (0, .ref (L 4)), (1, .int p0), (2, .int p1), (3, .int p2)]) hx hb dX2_write_6 hl (by decide) rfl (fun ls hl => ?_)
  refine lv_iload hx hb dX2_write_8 (lv_at hl 0 rfl) ?_
  refine lv_iconst (v := (-1)) hx hb dX2_write_10 (by decide) ?_
  refine lv_icmp_ne (tgt := 56) hx hb dX2_write_11 (by decide) (fun c11 => ?_) (fun c11 => ?_)
  · refine lv_iload hx hb dX2_write_56 (lv_at hl 0 rfl) ?_
    refine lv_if_lt (tgt := 80) hx hb dX2_write_58 (by decide) (fun c58 => ?_) (fun c58 => ?_)
    · refine W.widen (k := 0) (n := 0) (Nat.le_of_ble_eq_true rfl) (Nat.le_of_ble_eq_true rfl) ?_
      exact W.vret hx hb hr (fun t ht hW => ⟨⟨x, rfl, ((wrF_0 c11).trans (wr2_0 c58)).symm, PB.mk9 hP ht⟩, hS.F ht⟩) hS.2.2 dX2_write_80
    · refine lv_iload hx hb dX2_write_61 (lv_at hl 0 rfl) ?_
      refine lv_sipush (v := 512) hx hb dX2_write_63 (by decide) ?_
      refine lv_icmp_ge (tgt := 80) hx hb dX2_write_66 (by decide) (fun c66 => ?_) (fun c66 => ?_)
      · refine W.widen (k := 0) (n := 0) (Nat.le_of_ble_eq_true rfl) (Nat.le_of_ble_eq_true rfl) ?_
        exact W.vret hx hb hr (fun t ht hW => ⟨⟨x, rfl, ((wrF_0 c11).trans (wr2_1 c58 c66)).symm, PB.mk9 hP ht⟩, hS.F ht⟩) hS.2.2 dX2_write_80
      · refine lv_aload_n hx hb dX2_write_69 rfl (lv_at hl 1 rfl) ?_
        refine wx_get (D := g.1) (cl := vwCl) (ci := 4) (v := .ref (L 7)) (C := RX2) (T := TX2) (N := 4) hx hb hts iX2 hown hK hP (4) (by omega) cw_r rfl 2 (by decide) (hts (.fieldLink RX2 18 "FerroDesk$Readings" "people" "[I") (by decide +kernel)) (fun _ h9 => h9) rfl dX2_write_70 ?_
        refine lv_iload hx hb dX2_write_73 (lv_at hl 0 rfl) ?_
        refine lv_dup2_11 hx hb dX2_write_75 rfl rfl ?_
        refine wx_ialdv (D := g.1) (cl := vwCl) (f := fun j => x 42 0 j) (v := x 42 0 ((fdF x p0 p1 cnt).toNatClampNeg)) hx hb hK hP (7) 0 (by omega) cw_7 rfl (i := fdF x p0 p1 cnt) (cell_in2 c58 (Int32.not_le.mp c66)) (rfl) dX2_write_76 ?_
        refine lv_iload_n hx hb dX2_write_77 rfl (lv_at hl 4 rfl) ?_
        refine lv_iadd hx hb dX2_write_78 ?_
        refine wx_iast (D := g.1) (cl := vwCl) (f := fun j => x 42 0 j) (w' := cw g L (st x 42 0 ((fdF x p0 p1 cnt).toNatClampNeg) ((x 42 0 ((fdF x p0 p1 cnt).toNatClampNeg)) + p2)) r0) hx hb hK hP hJ hS (7) 0 (by omega) cw_7 rfl (i := fdF x p0 p1 cnt) (cell_in2 c58 (Int32.not_le.mp c66)) dX2_write_79 (cw_st7) (fun H locs hP hS => ?_)
        refine W.widen (k := 0) (n := 0) (Nat.le_of_ble_eq_true rfl) (Nat.le_of_ble_eq_true rfl) ?_
        exact W.vret hx hb hr (fun t ht hW => ⟨⟨(st x 42 0 ((fdF x p0 p1 cnt).toNatClampNeg) ((x 42 0 ((fdF x p0 p1 cnt).toNatClampNeg)) + p2)), rfl, ((wrF_0 c11).trans (wr2_2 c58 c66)).symm, PB.mk9 hP ht⟩, hS.F ht⟩) hS.2.2 dX2_write_80
  · refine lv_aload_n hx hb dX2_write_14 rfl (lv_at hl 1 rfl) ?_
    refine wx_get (D := g.1) (cl := vwCl) (ci := 4) (v := .int (x 4 0 0)) (C := RX2) (T := TX2) (N := 4) hx hb hts iX2 hown hK hP (4) (by omega) cw_r rfl 3 (by decide) (hts (.fieldLink RX2 21 "FerroDesk$Readings" "count" "I") (by decide +kernel)) (fun _ h9 => h9) rfl dX2_write_15 ?_
    refine lv_sipush (v := 512) hx hb dX2_write_18 (by decide) ?_
    refine lv_icmp_ge (tgt := 56) hx hb dX2_write_21 (by decide) (fun c21 => ?_) (fun c21 => ?_)
    · refine lv_iload hx hb dX2_write_56 (lv_at hl 0 rfl) ?_
      refine lv_if_lt (tgt := 80) hx hb dX2_write_58 (by decide) (fun c58 => ?_) (fun c58 => ?_)
      · refine W.widen (k := 0) (n := 0) (Nat.le_of_ble_eq_true rfl) (Nat.le_of_ble_eq_true rfl) ?_
        exact W.vret hx hb hr (fun t ht hW => ⟨⟨x, rfl, ((wrF_1 c11 c21).trans (wr2_0 c58)).symm, PB.mk9 hP ht⟩, hS.F ht⟩) hS.2.2 dX2_write_80
      · refine lv_iload hx hb dX2_write_61 (lv_at hl 0 rfl) ?_
        refine lv_sipush (v := 512) hx hb dX2_write_63 (by decide) ?_
        refine lv_icmp_ge (tgt := 80) hx hb dX2_write_66 (by decide) (fun c66 => ?_) (fun c66 => ?_)
        · refine W.widen (k := 0) (n := 0) (Nat.le_of_ble_eq_true rfl) (Nat.le_of_ble_eq_true rfl) ?_
          exact W.vret hx hb hr (fun t ht hW => ⟨⟨x, rfl, ((wrF_1 c11 c21).trans (wr2_1 c58 c66)).symm, PB.mk9 hP ht⟩, hS.F ht⟩) hS.2.2 dX2_write_80
        · refine lv_aload_n hx hb dX2_write_69 rfl (lv_at hl 1 rfl) ?_
          refine wx_get (D := g.1) (cl := vwCl) (ci := 4) (v := .ref (L 7)) (C := RX2) (T := TX2) (N := 4) hx hb hts iX2 hown hK hP (4) (by omega) cw_r rfl 2 (by decide) (hts (.fieldLink RX2 18 "FerroDesk$Readings" "people" "[I") (by decide +kernel)) (fun _ h9 => h9) rfl dX2_write_70 ?_
          refine lv_iload hx hb dX2_write_73 (lv_at hl 0 rfl) ?_
          refine lv_dup2_11 hx hb dX2_write_75 rfl rfl ?_
          refine wx_ialdv (D := g.1) (cl := vwCl) (f := fun j => x 42 0 j) (v := x 42 0 ((fdF x p0 p1 cnt).toNatClampNeg)) hx hb hK hP (7) 0 (by omega) cw_7 rfl (i := fdF x p0 p1 cnt) (cell_in2 c58 (Int32.not_le.mp c66)) (rfl) dX2_write_76 ?_
          refine lv_iload_n hx hb dX2_write_77 rfl (lv_at hl 4 rfl) ?_
          refine lv_iadd hx hb dX2_write_78 ?_
          refine wx_iast (D := g.1) (cl := vwCl) (f := fun j => x 42 0 j) (w' := cw g L (st x 42 0 ((fdF x p0 p1 cnt).toNatClampNeg) ((x 42 0 ((fdF x p0 p1 cnt).toNatClampNeg)) + p2)) r0) hx hb hK hP hJ hS (7) 0 (by omega) cw_7 rfl (i := fdF x p0 p1 cnt) (cell_in2 c58 (Int32.not_le.mp c66)) dX2_write_79 (cw_st7) (fun H locs hP hS => ?_)
          refine W.widen (k := 0) (n := 0) (Nat.le_of_ble_eq_true rfl) (Nat.le_of_ble_eq_true rfl) ?_
          exact W.vret hx hb hr (fun t ht hW => ⟨⟨(st x 42 0 ((fdF x p0 p1 cnt).toNatClampNeg) ((x 42 0 ((fdF x p0 p1 cnt).toNatClampNeg)) + p2)), rfl, ((wrF_1 c11 c21).trans (wr2_2 c58 c66)).symm, PB.mk9 hP ht⟩, hS.F ht⟩) hS.2.2 dX2_write_80
    · refine lv_aload_n hx hb dX2_write_24 rfl (lv_at hl 1 rfl) ?_
      refine wx_get (D := g.1) (cl := vwCl) (ci := 4) (v := .int (x 4 0 0)) (C := RX2) (T := TX2) (N := 4) hx hb hts iX2 hown hK hP (4) (by omega) cw_r rfl 3 (by decide) (hts (.fieldLink RX2 21 "FerroDesk$Readings" "count" "I") (by decide +kernel)) (fun _ h9 => h9) rfl dX2_write_25 ?_
      refine lv_istore (lv' := [(4, .int (x 4 0 0)), (0, .ref (L 4)), (1, .int p0), (2, .int p1), (3, .int p2)]) hx hb dX2_write_28 hl (by decide) rfl (fun ls hl => ?_)
      refine lv_aload_n hx hb dX2_write_30 rfl (lv_at hl 1 rfl) ?_
      refine wx_get (D := g.1) (cl := vwCl) (ci := 4) (v := .ref (L 5)) (C := RX2) (T := TX2) (N := 4) hx hb hts iX2 hown hK hP (4) (by omega) cw_r rfl 0 (by decide) (hts (.fieldLink RX2 9 "FerroDesk$Readings" "noticeOf" "[I") (by decide +kernel)) (fun _ h9 => h9) rfl dX2_write_31 ?_
      refine lv_iload hx hb dX2_write_34 (lv_at hl 0 rfl) ?_
      refine lv_iload_n hx hb dX2_write_36 rfl (lv_at hl 2 rfl) ?_
      refine wx_iast (D := g.1) (cl := vwCl) (f := fun j => x 40 0 j) (w' := cw g L (st x 40 0 ((x 4 0 0).toNatClampNeg) p0) r0) hx hb hK hP hJ hS (5) 0 (by omega) cw_5 rfl (i := x 4 0 0) (rd_in hcn hx4 c21) dX2_write_37 (cw_st5) (fun H locs hP hS => ?_)
      refine lv_aload_n hx hb dX2_write_38 rfl (lv_at hl 1 rfl) ?_
      refine wx_get (D := g.1) (cl := vwCl) (ci := 4) (v := .ref (L 6)) (C := RX2) (T := TX2) (N := 4) hx hb hts iX2 hown hK hP (4) (by omega) cw_r rfl 1 (by decide) (hts (.fieldLink RX2 15 "FerroDesk$Readings" "hourOf" "[I") (by decide +kernel)) (fun _ h9 => h9) rfl dX2_write_39 ?_
      refine lv_iload hx hb dX2_write_42 (lv_at hl 0 rfl) ?_
      refine lv_iload_n hx hb dX2_write_44 rfl (lv_at hl 3 rfl) ?_
      refine wx_iast (D := g.1) (cl := vwCl) (f := fun j => (st x 40 0 ((x 4 0 0).toNatClampNeg) p0) 41 0 j) (w' := cw g L (st (st x 40 0 ((x 4 0 0).toNatClampNeg) p0) 41 0 ((x 4 0 0).toNatClampNeg) p1) r0) hx hb hK hP hJ hS (6) 0 (by omega) cw_6 rfl (i := x 4 0 0) (rd_in hcn hx4 c21) dX2_write_45 (cw_st6) (fun H locs hP hS => ?_)
      refine lv_aload_n hx hb dX2_write_46 rfl (lv_at hl 1 rfl) ?_
      refine lv_dup hx hb dX2_write_47 rfl ?_
      refine wx_get (D := g.1) (cl := vwCl) (ci := 4) (v := .int ((st (st x 40 0 ((x 4 0 0).toNatClampNeg) p0) 41 0 ((x 4 0 0).toNatClampNeg) p1) 4 0 0)) (C := RX2) (T := TX2) (N := 4) hx hb hts iX2 hown hK hP (4) (by omega) cw_r rfl 3 (by decide) (hts (.fieldLink RX2 21 "FerroDesk$Readings" "count" "I") (by decide +kernel)) (fun _ h9 => h9) rfl dX2_write_48 ?_
      refine lv_iconst (v := 1) hx hb dX2_write_51 (by decide) ?_
      refine lv_iadd hx hb dX2_write_52 ?_
      refine wx_put (D := g.1) (cl := vwCl) (ci := 4) (v := .int (((st (st x 40 0 ((x 4 0 0).toNatClampNeg) p0) 41 0 ((x 4 0 0).toNatClampNeg) p1) 4 0 0) + 1)) (ty := .int) (w' := cw g L (st (st (st x 40 0 ((x 4 0 0).toNatClampNeg) p0) 41 0 ((x 4 0 0).toNatClampNeg) p1) 4 0 0 (((st (st x 40 0 ((x 4 0 0).toNatClampNeg) p0) 41 0 ((x 4 0 0).toNatClampNeg) p1) 4 0 0) + 1)) r0) (C := RX2) (T := TX2) (N := 4) hx hb hts iX2 tyX2 tyX2_ok nmX2 hown hK hP hJ hS (4) (by omega) cw_r rfl 3 (by decide) (hts (.fieldLink RX2 21 "FerroDesk$Readings" "count" "I") (by decide +kernel)) (fun _ h9 => h9) rfl (by decide +kernel) rfl rfl (Nat.le_of_ble_eq_true rfl) dX2_write_53 (cw_put (r := 4) (i := 0) (j := 0) rfl (by omega) (dk_4.trans (by simp [rF, st]))) (fun H locs hP hS => ?_)
      refine lv_iload hx hb dX2_write_56 (lv_at hl 0 rfl) ?_
      refine lv_if_lt (tgt := 80) hx hb dX2_write_58 (by decide) (fun c58 => ?_) (fun c58 => ?_)
      · refine W.widen (k := 0) (n := 0) (Nat.le_of_ble_eq_true rfl) (Nat.le_of_ble_eq_true rfl) ?_
        exact W.vret hx hb hr (fun t ht hW => ⟨⟨(st (st (st x 40 0 ((x 4 0 0).toNatClampNeg) p0) 41 0 ((x 4 0 0).toNatClampNeg) p1) 4 0 0 (((st (st x 40 0 ((x 4 0 0).toNatClampNeg) p0) 41 0 ((x 4 0 0).toNatClampNeg) p1) 4 0 0) + 1)), rfl, ((wrF_2 c11 c21).trans (wr2_0 c58)).symm, PB.mk9 hP ht⟩, hS.F ht⟩) hS.2.2 dX2_write_80
      · refine lv_iload hx hb dX2_write_61 (lv_at hl 0 rfl) ?_
        refine lv_sipush (v := 512) hx hb dX2_write_63 (by decide) ?_
        refine lv_icmp_ge (tgt := 80) hx hb dX2_write_66 (by decide) (fun c66 => ?_) (fun c66 => ?_)
        · refine W.widen (k := 0) (n := 0) (Nat.le_of_ble_eq_true rfl) (Nat.le_of_ble_eq_true rfl) ?_
          exact W.vret hx hb hr (fun t ht hW => ⟨⟨(st (st (st x 40 0 ((x 4 0 0).toNatClampNeg) p0) 41 0 ((x 4 0 0).toNatClampNeg) p1) 4 0 0 (((st (st x 40 0 ((x 4 0 0).toNatClampNeg) p0) 41 0 ((x 4 0 0).toNatClampNeg) p1) 4 0 0) + 1)), rfl, ((wrF_2 c11 c21).trans (wr2_1 c58 c66)).symm, PB.mk9 hP ht⟩, hS.F ht⟩) hS.2.2 dX2_write_80
        · refine lv_aload_n hx hb dX2_write_69 rfl (lv_at hl 1 rfl) ?_
          refine wx_get (D := g.1) (cl := vwCl) (ci := 4) (v := .ref (L 7)) (C := RX2) (T := TX2) (N := 4) hx hb hts iX2 hown hK hP (4) (by omega) cw_r rfl 2 (by decide) (hts (.fieldLink RX2 18 "FerroDesk$Readings" "people" "[I") (by decide +kernel)) (fun _ h9 => h9) rfl dX2_write_70 ?_
          refine lv_iload hx hb dX2_write_73 (lv_at hl 0 rfl) ?_
          refine lv_dup2_11 hx hb dX2_write_75 rfl rfl ?_
          refine wx_ialdv (D := g.1) (cl := vwCl) (f := fun j => (st (st (st x 40 0 ((x 4 0 0).toNatClampNeg) p0) 41 0 ((x 4 0 0).toNatClampNeg) p1) 4 0 0 (((st (st x 40 0 ((x 4 0 0).toNatClampNeg) p0) 41 0 ((x 4 0 0).toNatClampNeg) p1) 4 0 0) + 1)) 42 0 j) (v := (st (st (st x 40 0 ((x 4 0 0).toNatClampNeg) p0) 41 0 ((x 4 0 0).toNatClampNeg) p1) 4 0 0 (((st (st x 40 0 ((x 4 0 0).toNatClampNeg) p0) 41 0 ((x 4 0 0).toNatClampNeg) p1) 4 0 0) + 1)) 42 0 ((x 4 0 0).toNatClampNeg)) hx hb hK hP (7) 0 (by omega) cw_7 rfl (i := x 4 0 0) (cell_in2 c58 (Int32.not_le.mp c66)) (rfl) dX2_write_76 ?_
          refine lv_iload_n hx hb dX2_write_77 rfl (lv_at hl 4 rfl) ?_
          refine lv_iadd hx hb dX2_write_78 ?_
          refine wx_iast (D := g.1) (cl := vwCl) (f := fun j => (st (st (st x 40 0 ((x 4 0 0).toNatClampNeg) p0) 41 0 ((x 4 0 0).toNatClampNeg) p1) 4 0 0 (((st (st x 40 0 ((x 4 0 0).toNatClampNeg) p0) 41 0 ((x 4 0 0).toNatClampNeg) p1) 4 0 0) + 1)) 42 0 j) (w' := cw g L (st (st (st (st x 40 0 ((x 4 0 0).toNatClampNeg) p0) 41 0 ((x 4 0 0).toNatClampNeg) p1) 4 0 0 (((st (st x 40 0 ((x 4 0 0).toNatClampNeg) p0) 41 0 ((x 4 0 0).toNatClampNeg) p1) 4 0 0) + 1)) 42 0 ((x 4 0 0).toNatClampNeg) (((st (st (st x 40 0 ((x 4 0 0).toNatClampNeg) p0) 41 0 ((x 4 0 0).toNatClampNeg) p1) 4 0 0 (((st (st x 40 0 ((x 4 0 0).toNatClampNeg) p0) 41 0 ((x 4 0 0).toNatClampNeg) p1) 4 0 0) + 1)) 42 0 ((x 4 0 0).toNatClampNeg)) + p2)) r0) hx hb hK hP hJ hS (7) 0 (by omega) cw_7 rfl (i := x 4 0 0) (cell_in2 c58 (Int32.not_le.mp c66)) dX2_write_79 (cw_st7) (fun H locs hP hS => ?_)
          refine W.widen (k := 0) (n := 0) (Nat.le_of_ble_eq_true rfl) (Nat.le_of_ble_eq_true rfl) ?_
          exact W.vret hx hb hr (fun t ht hW => ⟨⟨(st (st (st (st x 40 0 ((x 4 0 0).toNatClampNeg) p0) 41 0 ((x 4 0 0).toNatClampNeg) p1) 4 0 0 (((st (st x 40 0 ((x 4 0 0).toNatClampNeg) p0) 41 0 ((x 4 0 0).toNatClampNeg) p1) 4 0 0) + 1)) 42 0 ((x 4 0 0).toNatClampNeg) (((st (st (st x 40 0 ((x 4 0 0).toNatClampNeg) p0) 41 0 ((x 4 0 0).toNatClampNeg) p1) 4 0 0 (((st (st x 40 0 ((x 4 0 0).toNatClampNeg) p0) 41 0 ((x 4 0 0).toNatClampNeg) p1) 4 0 0) + 1)) 42 0 ((x 4 0 0).toNatClampNeg)) + p2)), rfl, ((wrF_2 c11 c21).trans (wr2_2 c58 c66)).symm, PB.mk9 hP ht⟩, hS.F ht⟩) hS.2.2 dX2_write_80

set_option maxHeartbeats 4000000 in
set_option maxRecDepth 100000 in
theorem k_readersIn (l : Launch) (hst : l.stackTraces = false) (g : gE) (base n : Nat) (L : Nat → Nat) (hn : 106 ≤ n) (x : St) (r0 : Nat → va_E) (nb : Nat) (hnb : nb ≤ 6) (hx0 : x 0 0 0 = nI nb) (k0 : Nat) (hk0 : k0 < 40) (p0 : Int32) : Met l yX3_readersIn wsX3_readersIn ({ frames := 0, cells := 0, slots := 0, locals := 0 }) (va_Pc [.ref (L 0), .ref (L (26 + 2 * k0)), .int p0] (PW SS g base n L (cw g L x r0))) (va_Qi (fun (r : Int32) (_ : Unit) => r = riF x k0 p0 nb) (fun (u : Unit) t => PB g n L (cw g L x r0) t) (fun q => base ≤ q)) 0 0 (fun q => base ≤ q) := by
  refine Met.ofW (cc := cX3_readersIn) (maxL := 5) (ret := (some .int)) (by decide) rfl ?_
  intro p e s m args below meth c s₁ B hml hv
  obtain ⟨rfl, hPW⟩ := hv
  obtain ⟨hbs, hJ, hP, hK, hE⟩ := id hPW
  have hx := B.exec
  have hb := B.bytes
  have hr := B.returns
  have hts := atoms_spec (ws := wsX3_readersIn) B.pre
  have hown : s.vm.findClass RX3 = some m.cls := findClass_of_methodNamed B.named
  have hlocks := B.notSynchronized
  have hS : va_S (fun q : Nat => base ≤ q) s.heap s.heap [] := va_S.rf
  have hl := lv_entry ([.ref (L 0), .ref (L (26 + 2 * k0)), .int p0]) (n := 5) (Nat.le_of_ble_eq_true rfl)
  rw [lg_entry_eq]
  generalize (lg_sl ([.ref (L 0), .ref (L (26 + 2 * k0)), .int p0]) ++ List.replicate (5 - (lg_sl ([.ref (L 0), .ref (L (26 + 2 * k0)), .int p0])).length) Slot.unset).toArray = ls at hl ⊢
  have hl : lv_has ls 5 [(0, .ref (L 0)), (1, .ref (L (26 + 2 * k0))), (2, .int p0)] := hl
  have iX0 : ∀ w ∈ wsX00, w ∈ wsX3_readersIn := by decide +kernel
  have iX1 : ∀ w ∈ wsX10, w ∈ wsX3_readersIn := by decide +kernel
  have iX3 : ∀ w ∈ wsX30, w ∈ wsX3_readersIn := by decide +kernel
  refine lv_iconst (v := 0) hx hb dX3_readersIn_0 (by decide) ?_
  refine lv_istore_n (lv' := [(3, .int 0), (0, .ref (L 0)), (1, .ref (L (26 + 2 * k0))), (2, .int p0)]) hx hb dX3_readersIn_1 rfl hl (by decide) rfl (fun ls hl => ?_)
  refine lv_iconst (v := 0) hx hb dX3_readersIn_2 (by decide) ?_
  refine lv_istore (lv' := [(4, .int 0), (3, .int 0), (0, .ref (L 0)), (1, .ref (L (26 + 2 * k0))), (2, .int p0)]) hx hb dX3_readersIn_3 hl (by decide) rfl (fun ls hl => ?_)
  have key5 : ∀ (d k : Nat) (z4 : Int32) (z3 : Int32) (H : Heap) (locs : List Loc) (ls : Array Slot), k + d = nb → (z4 = nI k) → (z3 = riF x k0 p0 k) → va_P g.1 vwCl (wl n L (cw g L x r0)) H → va_S (fun q : Nat => base ≤ q) s.heap H locs → lv_has ls 5 [(4, .int z4), (3, .int z3), (0, .ref (L 0)), (1, .ref (L (26 + 2 * k0))), (2, .int p0)] → W p l e (headSpec wsX3_readersIn ({ frames := 0, cells := 0, slots := 0, locals := 0 })).room s m ([.ref (L 0), .ref (L (26 + 2 * k0)), .int p0] : List Value).toArray below meth c H locs 0 0 (MQ below (va_Qi (fun (r : Int32) (_ : Unit) => r = riF x k0 p0 nb) (fun (u : Unit) t => PB g n L (cw g L x r0) t) (fun q => base ≤ q)) ([.ref (L 0), .ref (L (26 + 2 * k0)), .int p0] : List Value).toArray s 0 0 (fun q => base ≤ q)) (F0 m 5 ls []) := by
    intro d
    induction d with
    | zero =>
      intro k z4 z3 H locs ls hkd ek4 ek3 hP hS hl
      obtain rfl : nb = k := by omega
      subst ek4 ek3
      refine lv_iload hx hb dX3_readersIn_5 (lv_at hl 0 rfl) ?_
      refine lv_aload_n hx hb dX3_readersIn_7 rfl (lv_at hl 2 rfl) ?_
      refine wx_get (D := g.1) (cl := vwCl) (ci := 5) (v := .int (x 0 0 0)) (C := RX3) (T := TX3) (N := 8) hx hb hts iX3 hown hK hP (0) (by omega) cw_d rfl 1 (by decide) (hts (.fieldLink RX3 15 "FerroDesk" "boardCount" "I") (by decide +kernel)) (fun _ h9 => h9) rfl dX3_readersIn_8 ?_
      refine lv_icmp_ge (tgt := 44) hx hb dX3_readersIn_11 (by decide) (fun c11 => ?_) (fun c11 => absurd (by rw [hx0]; exact nI_le (Nat.le_refl _) (by omega)) c11)
      refine lv_iload_n hx hb dX3_readersIn_44 rfl (lv_at hl 1 rfl) ?_
      refine W.widen (k := 0) (n := 0) (Nat.le_of_ble_eq_true rfl) (Nat.le_of_ble_eq_true rfl) ?_
      exact W.iret (v := riF x k0 p0 nb) hx hb hr (fun t ht hW => ⟨⟨riF x k0 p0 nb, (), rfl, rfl, PB.mk9 hP ht⟩, hS.F ht⟩) hS.2.2 dX3_readersIn_45
    | succ d ih =>
      intro k z4 z3 H locs ls hkd ek4 ek3 hP hS hl
      have hkN : k < nb := by omega
      subst ek4 ek3
      refine lv_iload hx hb dX3_readersIn_5 (lv_at hl 0 rfl) ?_
      refine lv_aload_n hx hb dX3_readersIn_7 rfl (lv_at hl 2 rfl) ?_
      refine wx_get (D := g.1) (cl := vwCl) (ci := 5) (v := .int (x 0 0 0)) (C := RX3) (T := TX3) (N := 8) hx hb hts iX3 hown hK hP (0) (by omega) cw_d rfl 1 (by decide) (hts (.fieldLink RX3 15 "FerroDesk" "boardCount" "I") (by decide +kernel)) (fun _ h9 => h9) rfl dX3_readersIn_8 ?_
      refine lv_icmp_ge (tgt := 44) hx hb dX3_readersIn_11 (by decide) (fun c11 => absurd c11 (by rw [hx0]; exact nI_ge hkN (by omega))) (fun c11 => ?_)
      refine lv_aload_n hx hb dX3_readersIn_14 rfl (lv_at hl 2 rfl) ?_
      refine wx_get (D := g.1) (cl := vwCl) (ci := 5) (v := .ref (L 1)) (C := RX3) (T := TX3) (N := 8) hx hb hts iX3 hown hK hP (0) (by omega) cw_d rfl 0 (by decide) (hts (.fieldLink RX3 11 "FerroDesk" "boards" "[LFerroDesk$Board;") (by decide +kernel)) (fun _ h9 => h9) rfl dX3_readersIn_15 ?_
      refine lv_iload hx hb dX3_readersIn_18 (lv_at hl 0 rfl) ?_
      refine wx_aald (D := g.1) (cl := vwCl) (f := fun j => if j < 6 then some (L (8 + 3 * j)) else none) (a := L (8 + 3 * k)) hx hb hK hP (1) 1 (by omega) cw_1 rfl (i := nI k) (vp_in_nI (by omega) (by decide)) (by rw [nI_clamp (show k < 2 ^ 31 by omega)]; exact if_pos (by omega)) dX3_readersIn_20 ?_
      refine wx_getN (D := g.1) (cl := vwCl) (ci := 2) (v := .int (x 10 k 0)) (C := RX0) (T := TX0) (N := 12) hx hb hts iX0 hown hK hP (8 + 3 * k) (by omega) (cw_b (by omega)) rfl 0 (by decide) (hE.1 _ (ng_in (w := (Cond.fieldLinkNest "FerroDesk" 267 "FerroDesk$Board" "district" "I" "FerroDesk")) (by decide +kernel))) (fun _ h9 => h9) rfl dX3_readersIn_21 ?_
      refine lv_iload_n hx hb dX3_readersIn_24 rfl (lv_at hl 4 rfl) ?_
      refine lv_icmp_ne (tgt := 38) hx hb dX3_readersIn_25 (by decide) (fun c25 => ?_) (fun c25 => ?_)
      · obtain ⟨z38, ez38⟩ : ∃ y : Int32, y = nI k + 1 := ⟨_, rfl⟩
        refine lv_iinc (v := z38) (lv' := [(4, .int z38), (3, .int (riF x k0 p0 k)), (0, .ref (L 0)), (1, .ref (L (26 + 2 * k0))), (2, .int p0)]) hx hb dX3_readersIn_38 hl (k := 0) rfl (by rw [ez38]; rfl) (by decide) rfl (fun ls hl => ?_)
        refine lv_goto (tgt := 5) hx hb dX3_readersIn_41 (by decide) ?_
        exact ih (k + 1) _ _ _ _ _ (by omega) (by rw [ez38, nI_1]) ((ri_f c25).symm) hP hS (lv_sub hl [0, 1, 2, 3, 4] rfl)
      · refine lv_iload_n hx hb dX3_readersIn_28 rfl (lv_at hl 1 rfl) ?_
        refine lv_aload_n hx hb dX3_readersIn_29 rfl (lv_at hl 3 rfl) ?_
        refine wx_getN (D := g.1) (cl := vwCl) (ci := 3) (v := .ref (L (27 + 2 * k0))) (C := RX1) (T := TX1) (N := 9) hx hb hts iX1 hown hK hP (26 + 2 * k0) (by omega) (cw_n (by omega)) rfl 1 (by decide) (hE.1 _ (ng_in (w := (Cond.fieldLinkNest "FerroDesk" 190 "FerroDesk$Notice" "readersAt" "[I" "FerroDesk")) (by decide +kernel))) (fun _ h9 => h9) rfl dX3_readersIn_30 ?_
        refine lv_iload hx hb dX3_readersIn_33 (lv_at hl 0 rfl) ?_
        refine wx_ialdv (D := g.1) (cl := vwCl) (f := fun j => x 37 k0 j) (v := x 37 k0 k) hx hb hK hP (27 + 2 * k0) 0 (by omega) (cw_nr (by omega)) rfl (i := nI k) (vp_in_nI (by omega) (by decide)) (by rw [nI_clamp (show k < 2 ^ 31 by omega)]) dX3_readersIn_35 ?_
        refine lv_iadd hx hb dX3_readersIn_36 ?_
        refine lv_istore_n (lv' := [(3, .int ((riF x k0 p0 k) + (x 37 k0 k))), (4, .int (nI k)), (0, .ref (L 0)), (1, .ref (L (26 + 2 * k0))), (2, .int p0)]) hx hb dX3_readersIn_37 rfl hl (by decide) rfl (fun ls hl => ?_)
        obtain ⟨z38, ez38⟩ : ∃ y : Int32, y = nI k + 1 := ⟨_, rfl⟩
        refine lv_iinc (v := z38) (lv' := [(4, .int z38), (3, .int ((riF x k0 p0 k) + (x 37 k0 k))), (0, .ref (L 0)), (1, .ref (L (26 + 2 * k0))), (2, .int p0)]) hx hb dX3_readersIn_38 hl (k := 1) rfl (by rw [ez38]; rfl) (by decide) rfl (fun ls hl => ?_)
        refine lv_goto (tgt := 5) hx hb dX3_readersIn_41 (by decide) ?_
        exact ih (k + 1) _ _ _ _ _ (by omega) (by rw [ez38, nI_1]) ((ri_t c25).symm) hP hS (lv_sub hl [0, 1, 2, 3, 4] rfl)
  exact key5 nb 0 _ _ _ _ _ (by omega) rfl rfl hP hS (lv_sub hl [0, 1, 2, 3, 4] rfl)

set_option maxHeartbeats 4000000 in
set_option maxRecDepth 100000 in
theorem k_boardsThatShow (l : Launch) (hst : l.stackTraces = false) (g : gE) (base n : Nat) (L : Nat → Nat) (hn : 106 ≤ n) (x : St) (r0 : Nat → va_E) (nb : Nat) (hnb : nb ≤ 6) (hx0 : x 0 0 0 = nI nb) (hsh : ∀ b, b < 6 → x 12 b 0 = -1 ∨ ∃ k, k < 40 ∧ x 12 b 0 = nI k) (k0 : Nat) (hk0 : k0 < 40) : Met l yX3_boardsThatShow wsX3_boardsThatShow ({ frames := 0, cells := 0, slots := 0, locals := 0 }) (va_Pc [.ref (L 0), .ref (L (26 + 2 * k0))] (PW SS g base n L (cw g L x r0))) (va_Qi (fun (r : Int32) (_ : Unit) => r = btF x k0 nb) (fun (u : Unit) t => PB g n L (cw g L x r0) t) (fun q => base ≤ q)) 0 0 (fun q => base ≤ q) := by
  refine Met.ofW (cc := cX3_boardsThatShow) (maxL := 4) (ret := (some .int)) (by decide) rfl ?_
  intro p e s m args below meth c s₁ B hml hv
  obtain ⟨rfl, hPW⟩ := hv
  obtain ⟨hbs, hJ, hP, hK, hE⟩ := id hPW
  have hx := B.exec
  have hb := B.bytes
  have hr := B.returns
  have hts := atoms_spec (ws := wsX3_boardsThatShow) B.pre
  have hown : s.vm.findClass RX3 = some m.cls := findClass_of_methodNamed B.named
  have hlocks := B.notSynchronized
  have hS : va_S (fun q : Nat => base ≤ q) s.heap s.heap [] := va_S.rf
  have hl := lv_entry ([.ref (L 0), .ref (L (26 + 2 * k0))]) (n := 4) (Nat.le_of_ble_eq_true rfl)
  rw [lg_entry_eq]
  generalize (lg_sl ([.ref (L 0), .ref (L (26 + 2 * k0))]) ++ List.replicate (4 - (lg_sl ([.ref (L 0), .ref (L (26 + 2 * k0))])).length) Slot.unset).toArray = ls at hl ⊢
  have hl : lv_has ls 4 [(0, .ref (L 0)), (1, .ref (L (26 + 2 * k0)))] := hl
  have iX0 : ∀ w ∈ wsX00, w ∈ wsX3_boardsThatShow := by decide +kernel
  have iX3 : ∀ w ∈ wsX30, w ∈ wsX3_boardsThatShow := by decide +kernel
  refine lv_iconst (v := 0) hx hb dX3_boardsThatShow_0 (by decide) ?_
  refine lv_istore_n (lv' := [(2, .int 0), (0, .ref (L 0)), (1, .ref (L (26 + 2 * k0)))]) hx hb dX3_boardsThatShow_1 rfl hl (by decide) rfl (fun ls hl => ?_)
  refine lv_iconst (v := 0) hx hb dX3_boardsThatShow_2 (by decide) ?_
  refine lv_istore_n (lv' := [(3, .int 0), (2, .int 0), (0, .ref (L 0)), (1, .ref (L (26 + 2 * k0)))]) hx hb dX3_boardsThatShow_3 rfl hl (by decide) rfl (fun ls hl => ?_)
  have key4 : ∀ (d k : Nat) (z3 : Int32) (z2 : Int32) (H : Heap) (locs : List Loc) (ls : Array Slot), k + d = nb → (z3 = nI k) → (z2 = btF x k0 k) → va_P g.1 vwCl (wl n L (cw g L x r0)) H → va_S (fun q : Nat => base ≤ q) s.heap H locs → lv_has ls 4 [(3, .int z3), (2, .int z2), (0, .ref (L 0)), (1, .ref (L (26 + 2 * k0)))] → W p l e (headSpec wsX3_boardsThatShow ({ frames := 0, cells := 0, slots := 0, locals := 0 })).room s m ([.ref (L 0), .ref (L (26 + 2 * k0))] : List Value).toArray below meth c H locs 0 0 (MQ below (va_Qi (fun (r : Int32) (_ : Unit) => r = btF x k0 nb) (fun (u : Unit) t => PB g n L (cw g L x r0) t) (fun q => base ≤ q)) ([.ref (L 0), .ref (L (26 + 2 * k0))] : List Value).toArray s 0 0 (fun q => base ≤ q)) (F0 m 4 ls []) := by
    intro d
    induction d with
    | zero =>
      intro k z3 z2 H locs ls hkd ek3 ek2 hP hS hl
      obtain rfl : nb = k := by omega
      subst ek3 ek2
      refine lv_iload_n hx hb dX3_boardsThatShow_4 rfl (lv_at hl 0 rfl) ?_
      refine lv_aload_n hx hb dX3_boardsThatShow_5 rfl (lv_at hl 2 rfl) ?_
      refine wx_get (D := g.1) (cl := vwCl) (ci := 5) (v := .int (x 0 0 0)) (C := RX3) (T := TX3) (N := 8) hx hb hts iX3 hown hK hP (0) (by omega) cw_d rfl 1 (by decide) (hts (.fieldLink RX3 15 "FerroDesk" "boardCount" "I") (by decide +kernel)) (fun _ h9 => h9) rfl dX3_boardsThatShow_6 ?_
      refine lv_icmp_ge (tgt := 34) hx hb dX3_boardsThatShow_9 (by decide) (fun c9 => ?_) (fun c9 => absurd (by rw [hx0]; exact nI_le (Nat.le_refl _) (by omega)) c9)
      refine lv_iload_n hx hb dX3_boardsThatShow_34 rfl (lv_at hl 1 rfl) ?_
      refine W.widen (k := 0) (n := 0) (Nat.le_of_ble_eq_true rfl) (Nat.le_of_ble_eq_true rfl) ?_
      exact W.iret (v := btF x k0 nb) hx hb hr (fun t ht hW => ⟨⟨btF x k0 nb, (), rfl, rfl, PB.mk9 hP ht⟩, hS.F ht⟩) hS.2.2 dX3_boardsThatShow_35
    | succ d ih =>
      intro k z3 z2 H locs ls hkd ek3 ek2 hP hS hl
      have hkN : k < nb := by omega
      subst ek3 ek2
      refine lv_iload_n hx hb dX3_boardsThatShow_4 rfl (lv_at hl 0 rfl) ?_
      refine lv_aload_n hx hb dX3_boardsThatShow_5 rfl (lv_at hl 2 rfl) ?_
      refine wx_get (D := g.1) (cl := vwCl) (ci := 5) (v := .int (x 0 0 0)) (C := RX3) (T := TX3) (N := 8) hx hb hts iX3 hown hK hP (0) (by omega) cw_d rfl 1 (by decide) (hts (.fieldLink RX3 15 "FerroDesk" "boardCount" "I") (by decide +kernel)) (fun _ h9 => h9) rfl dX3_boardsThatShow_6 ?_
      refine lv_icmp_ge (tgt := 34) hx hb dX3_boardsThatShow_9 (by decide) (fun c9 => absurd c9 (by rw [hx0]; exact nI_ge hkN (by omega))) (fun c9 => ?_)
      refine lv_aload_n hx hb dX3_boardsThatShow_12 rfl (lv_at hl 2 rfl) ?_
      refine wx_get (D := g.1) (cl := vwCl) (ci := 5) (v := .ref (L 1)) (C := RX3) (T := TX3) (N := 8) hx hb hts iX3 hown hK hP (0) (by omega) cw_d rfl 0 (by decide) (hts (.fieldLink RX3 11 "FerroDesk" "boards" "[LFerroDesk$Board;") (by decide +kernel)) (fun _ h9 => h9) rfl dX3_boardsThatShow_13 ?_
      refine lv_iload_n hx hb dX3_boardsThatShow_16 rfl (lv_at hl 0 rfl) ?_
      refine wx_aald (D := g.1) (cl := vwCl) (f := fun j => if j < 6 then some (L (8 + 3 * j)) else none) (a := L (8 + 3 * k)) hx hb hK hP (1) 1 (by omega) cw_1 rfl (i := nI k) (vp_in_nI (by omega) (by decide)) (by rw [nI_clamp (show k < 2 ^ 31 by omega)]; exact if_pos (by omega)) dX3_boardsThatShow_17 ?_
      refine wx_getN (D := g.1) (cl := vwCl) (ci := 2) (v := va_rf (shw L (x 12 k 0))) (C := RX0) (T := TX0) (N := 12) hx hb hts iX0 hown hK hP (8 + 3 * k) (by omega) (cw_b (by omega)) rfl 2 (by decide) (hE.1 _ (ng_in (w := (Cond.fieldLinkNest "FerroDesk" 90 "FerroDesk$Board" "shown" "LFerroDesk$Notice;" "FerroDesk")) (by decide +kernel))) (fun _ h9 => h9) rfl dX3_boardsThatShow_18 ?_
      refine lv_aload_n hx hb dX3_boardsThatShow_21 rfl (lv_at hl 3 rfl) ?_
      refine lv_acmp_ne (rx := shw L (x 12 k 0)) (ry := some (L (26 + 2 * k0))) (tgt := 28) hx hb dX3_boardsThatShow_22 (by decide) (fun c22 => ?_) (fun c22 => ?_)
      · obtain ⟨z28, ez28⟩ : ∃ y : Int32, y = nI k + 1 := ⟨_, rfl⟩
        refine lv_iinc (v := z28) (lv' := [(3, .int z28), (2, .int (btF x k0 k)), (0, .ref (L 0)), (1, .ref (L (26 + 2 * k0)))]) hx hb dX3_boardsThatShow_28 hl (k := 0) rfl (by rw [ez28]; rfl) (by decide) rfl (fun ls hl => ?_)
        refine lv_goto (tgt := 4) hx hb dX3_boardsThatShow_31 (by decide) ?_
        exact ih (k + 1) _ _ _ _ _ (by omega) (by rw [ez28, nI_1]) ((bt_f (fun h9 => c22 (by rw [h9]; exact shw_nI (k := k0) (by omega)))).symm) hP hS (lv_sub hl [0, 1, 2, 3] rfl)
      · obtain ⟨z25, ez25⟩ : ∃ y : Int32, y = btF x k0 k + 1 := ⟨_, rfl⟩
        refine lv_iinc (v := z25) (lv' := [(2, .int z25), (3, .int (nI k)), (0, .ref (L 0)), (1, .ref (L (26 + 2 * k0)))]) hx hb dX3_boardsThatShow_25 hl (k := 1) rfl (by rw [ez25]; rfl) (by decide) rfl (fun ls hl => ?_)
        obtain ⟨z28, ez28⟩ : ∃ y : Int32, y = nI k + 1 := ⟨_, rfl⟩
        refine lv_iinc (v := z28) (lv' := [(3, .int z28), (2, .int z25), (0, .ref (L 0)), (1, .ref (L (26 + 2 * k0)))]) hx hb dX3_boardsThatShow_28 hl (k := 1) rfl (by rw [ez28]; rfl) (by decide) rfl (fun ls hl => ?_)
        refine lv_goto (tgt := 4) hx hb dX3_boardsThatShow_31 (by decide) ?_
        exact ih (k + 1) _ _ _ _ _ (by omega) (by rw [ez28, nI_1]) (by rw [bt_t (shw_is hJ (by omega) hk0 (hsh k (by omega)) c22)]; simp only [ez25, ez28]) hP hS (lv_sub hl [0, 1, 2, 3] rfl)
  exact key4 nb 0 _ _ _ _ _ (by omega) rfl rfl hP hS (lv_sub hl [0, 1, 2, 3] rfl)

