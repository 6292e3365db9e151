/-! laid by wip/gen/p1spec.py -/
set_option maxHeartbeats 4000000 in
set_option maxRecDepth 100000 in
theorem kp_addBoard (l : Launch) (hst : l.stackTraces = false) (g : gE) (base n : Nat) (L : Nat → Nat) (hn : 106 ≤ n) (x : St) (r0 : Nat → va_E) (hx0 : x 0 0 0 = nI 0) (hx1 : x 1 0 0 = nI 0) (hx2 : x 2 0 0 = 2) (hx3 : x 3 0 0 = nI 0) (p0 p1 : Int32) : vx_Met l yX3_addBoard wsX3_addBoard ({ frames := 8, cells := 3, slots := 18, locals := 180 }) (va_Pc [.ref (L 0), .int p0, .int p1] (PW SS g base n L (cw g L x r0))) (va_Qi (fun (r : Int32) (_ : St) => ¬ (p0.toInt < 0 ∨ 3 < p0.toInt ∨ p1.toInt < 0 ∨ 200 < p1.toInt) ∧ r = 0) (fun (u : St) t => PB g n L (cw g L u r0) t) (fun q => base ≤ q)) (QX g base n L (cw g L x r0) (fun E => E = "java/lang/IllegalArgumentException" ∧ (p0.toInt < 0 ∨ 3 < p0.toInt ∨ p1.toInt < 0 ∨ 200 < p1.toInt))) 3 18 (fun q => base ≤ q) := by
  refine vx_ofW (cc := cX3_addBoard) (maxL := 3) (ret := (some .int)) (by decide) rfl ?_
  intro p e s m args below meth c s₁ B hml hno hv
  obtain ⟨rfl, hPW⟩ := hv
  obtain ⟨hbs, hJ, hP, hK, hE⟩ := id hPW
  have hx := B.exec
  have hb := B.bytes
  have hr := B.returns
  have hts := atoms_spec (ws := wsX3_addBoard) B.pre
  have hown : s.vm.findClass RX3 = some m.cls := findClass_of_methodNamed B.named
  have hlocks := B.notSynchronized
  have hS : va_S (fun q : Nat => base ≤ q) s.heap s.heap [] := va_S.rf
  have hl := lv_entry ([.ref (L 0), .int p0, .int p1]) (n := 3) (Nat.le_of_ble_eq_true rfl)
  rw [lg_entry_eq]
  generalize (lg_sl ([.ref (L 0), .int p0, .int p1]) ++ List.replicate (3 - (lg_sl ([.ref (L 0), .int p0, .int p1])).length) Slot.unset).toArray = ls at hl ⊢
  have hl : lv_has ls 3 [(0, .ref (L 0)), (1, .int p0), (2, .int p1)] := hl
  have iX3 : ∀ w ∈ wsX30, w ∈ wsX3_addBoard := by decide +kernel
  have hx3i : (x 3 0 0).toInt = 0 := by rw [hx3]; decide
  refine lv_iload_n hx hb dX3_addBoard_0 rfl (lv_at hl 1 rfl) ?_
  refine wx_xcallv (vx_runS (As := [.int p0]) (rest := []) ⟨hx, hb, hml, hown, hts⟩ (k_checkDistrict l hst g base n L (cw g L x r0) p0) (va_cwS 1 hts gX3_addBoard_X3_checkDistrict rfl rfl rfl (by decide +kernel) ⟨Nat.le_of_ble_eq_true rfl, Nat.le_of_ble_eq_true rfl⟩) (hPW.preS hP hS) rfl rfl hl.1 rfl (lv_room (Nat.le_of_ble_eq_true rfl)) dX3_addBoard_1 ⟨Nat.le_of_ble_eq_true rfl, Nat.le_of_ble_eq_true rfl⟩) hS (fun E ce q9 H locs hpx hP hS h1 h2 h3 => ?_) (fun u1 H locs h1 hP hS => ?_)
  · exact wx_out hno hlocks h1 h2 h3 (⟨hpx.1, (by have h9 := hpx.2; omega)⟩) hP hS (Nat.le_of_ble_eq_true rfl) (Nat.le_of_ble_eq_true rfl)
  refine lv_iload_n hx hb dX3_addBoard_4 rfl (lv_at hl 2 rfl) ?_
  refine lv_if_lt (tgt := 15) hx hb dX3_addBoard_5 (by decide) (fun c5 => ?_) (fun c5 => ?_)
  · exact wx_throwS (ik := 51) (is := 53) (ic := 55) (own := RX3) (cls := "java/lang/IllegalArgumentException") (text := "the charge is not 0 to 200") (names := ["java/lang/RuntimeException", "java/lang/Exception"]) hx hb hst hPW hown (by decide +kernel) (by decide +kernel) (hts (.classLink RX3 51 "java/lang/IllegalArgumentException") (by decide +kernel)) (hts (.initialized "java/lang/IllegalArgumentException") (by decide +kernel)) (by decide +kernel) (fun w hw => hts w (List.mem_cons_of_mem _ (List.mem_append_left _ (List.mem_append_right _ hw)))) (by decide +kernel) (by decide +kernel) hP hS (hl.1.trans hml.symm) dX3_addBoard_15 dX3_addBoard_18 dX3_addBoard_19 dX3_addBoard_21 dX3_addBoard_24 hno (Nat.lt_of_lt_of_le (Nat.lt_succ_self _) (Nat.le_of_ble_eq_true rfl)) (Nat.le_of_ble_eq_true rfl) (Nat.le_of_ble_eq_true rfl) (Nat.le_of_ble_eq_true rfl) hlocks (⟨rfl, (by revert h1 c5; (try simp only [Int32.lt_iff_toInt_lt, Int32.le_iff_toInt_le, ← Int32.toInt_inj, i_0, i_1, i_2, i_3, i_4, i_6, i_9, i_20, i_32, i_40, i_48, i_60, i_200, i_999, i_2000, i_m1]); omega)⟩) (Nat.le_of_ble_eq_true rfl) (Nat.le_of_ble_eq_true rfl)
  · refine lv_iload_n hx hb dX3_addBoard_8 rfl (lv_at hl 2 rfl) ?_
    refine lv_sipush (v := 200) hx hb dX3_addBoard_9 (by decide) ?_
    refine lv_icmp_le (tgt := 25) hx hb dX3_addBoard_12 (by decide) (fun c12 => ?_) (fun c12 => ?_)
    · refine lv_aload_n hx hb dX3_addBoard_25 rfl (lv_at hl 0 rfl) ?_
      refine wx_get (D := g.1) (cl := vwCl) (ci := 5) (v := .int (x 0 0 0)) (C := RX3) (T := TX3) (N := 8) hx hb hts iX3 hown hK hP (0) (by omega) cw_d rfl 1 (by decide) (hts (.fieldLink RX3 15 "FerroDesk" "boardCount" "I") (by decide +kernel)) (fun _ h9 => h9) rfl dX3_addBoard_26 ?_
      refine lv_bipush (v := 6) hx hb dX3_addBoard_29 (by decide) ?_
      refine lv_icmp_lt (tgt := 44) hx hb dX3_addBoard_31 (by decide) (fun c31 => ?_) (fun c31 => absurd (by rw [hx0]; decide) c31)
      refine lv_aload_n hx hb dX3_addBoard_44 rfl (lv_at hl 0 rfl) ?_
      refine wx_get (D := g.1) (cl := vwCl) (ci := 5) (v := .ref (L 1)) (C := RX3) (T := TX3) (N := 8) hx hb hts iX3 hown hK hP (0) (by omega) cw_d rfl 0 (by decide) (hts (.fieldLink RX3 11 "FerroDesk" "boards" "[LFerroDesk$Board;") (by decide +kernel)) (fun _ h9 => h9) rfl dX3_addBoard_45 ?_
      refine lv_aload_n hx hb dX3_addBoard_48 rfl (lv_at hl 0 rfl) ?_
      refine wx_get (D := g.1) (cl := vwCl) (ci := 5) (v := .int (x 0 0 0)) (C := RX3) (T := TX3) (N := 8) hx hb hts iX3 hown hK hP (0) (by omega) cw_d rfl 1 (by decide) (hts (.fieldLink RX3 15 "FerroDesk" "boardCount" "I") (by decide +kernel)) (fun _ h9 => h9) rfl dX3_addBoard_49 ?_
      refine wx_aald (D := g.1) (cl := vwCl) (f := fun j => if j < 6 then some (L (8 + 3 * j)) else none) (a := L (8 + 3 * 0)) hx hb hK hP (1) 1 (by omega) cw_1 rfl (i := x 0 0 0) (by rw [hx0]; exact vp_in_nI (by decide) (by decide)) (by rw [hx0]; rfl) dX3_addBoard_52 ?_
      refine lv_iload_n hx hb dX3_addBoard_53 rfl (lv_at hl 1 rfl) ?_
      refine lv_iload_n hx hb dX3_addBoard_54 rfl (lv_at hl 2 rfl) ?_
      refine wx_callv (va_runV (As := [.int p0, .int p1]) (rest := []) ⟨hx, hb, hml, hown, hts⟩ (k_settle l hst g base n L (by omega) x r0 0 (by omega) p0 p1) (cwV 2 hts gX3_addBoard_X0_settle rfl rfl rfl (by decide +kernel) ⟨Nat.le_of_ble_eq_true rfl, Nat.le_of_ble_eq_true rfl⟩) (hPW.preV hP hS (ci := 2) rfl (by omega) (cw_b (by omega))) rfl rfl hl.1 rfl (lv_room (Nat.le_of_ble_eq_true rfl)) dX3_addBoard_55 ⟨Nat.le_of_ble_eq_true rfl, Nat.le_of_ble_eq_true rfl⟩) hS (fun u55 H locs h55 hP hS => ?_)
      refine lv_aload_n hx hb dX3_addBoard_58 rfl (lv_at hl 0 rfl) ?_
      refine lv_dup hx hb dX3_addBoard_59 rfl ?_
      refine wx_get (D := g.1) (cl := vwCl) (ci := 5) (v := .int (u55 0 0 0)) (C := RX3) (T := TX3) (N := 8) hx hb hts iX3 hown hK hP (0) (by omega) cw_d rfl 1 (by decide) (hts (.fieldLink RX3 15 "FerroDesk" "boardCount" "I") (by decide +kernel)) (fun _ h9 => h9) rfl dX3_addBoard_60 ?_
      refine lv_iconst (v := 1) hx hb dX3_addBoard_63 (by decide) ?_
      refine lv_iadd hx hb dX3_addBoard_64 ?_
      refine wx_put (D := g.1) (cl := vwCl) (ci := 5) (v := .int ((u55 0 0 0) + 1)) (ty := .int) (w' := cw g L (st u55 0 0 0 ((u55 0 0 0) + 1)) r0) (C := RX3) (T := TX3) (N := 8) hx hb hts iX3 tyX3 tyX3_ok nmX3 hown hK hP hJ hS (0) (by omega) cw_d rfl 1 (by decide) (hts (.fieldLink RX3 15 "FerroDesk" "boardCount" "I") (by decide +kernel)) (fun _ h9 => h9) rfl (by decide +kernel) rfl rfl (Nat.le_of_ble_eq_true rfl) dX3_addBoard_65 (cw_put (r := 0) (i := 0) (j := 0) rfl (by omega) (dk_0.trans (by simp [dF, st]))) (fun H locs hP hS => ?_)
      refine lv_aload_n hx hb dX3_addBoard_68 rfl (lv_at hl 0 rfl) ?_
      refine wx_get (D := g.1) (cl := vwCl) (ci := 5) (v := .int ((st u55 0 0 0 ((u55 0 0 0) + 1)) 0 0 0)) (C := RX3) (T := TX3) (N := 8) hx hb hts iX3 hown hK hP (0) (by omega) cw_d rfl 1 (by decide) (hts (.fieldLink RX3 15 "FerroDesk" "boardCount" "I") (by decide +kernel)) (fun _ h9 => h9) rfl dX3_addBoard_69 ?_
      refine lv_iconst (v := 1) hx hb dX3_addBoard_72 (by decide) ?_
      refine lv_isub hx hb dX3_addBoard_73 ?_
      refine W.widen (k := 3) (n := 18) (Nat.le_of_ble_eq_true rfl) (Nat.le_of_ble_eq_true rfl) ?_
      exact vx_ret (W.iret (v := ((st u55 0 0 0 ((u55 0 0 0) + 1)) 0 0 0) - 1) hx hb hr (fun t ht hW => ⟨⟨((st u55 0 0 0 ((u55 0 0 0) + 1)) 0 0 0) - 1, (st u55 0 0 0 ((u55 0 0 0) + 1)), rfl, ⟨(by revert h1 c5 c12; (try simp only [Int32.lt_iff_toInt_lt, Int32.le_iff_toInt_le, ← Int32.toInt_inj, i_0, i_1, i_2, i_3, i_4, i_6, i_9, i_20, i_32, i_40, i_48, i_60, i_200, i_999, i_2000, i_m1]); omega), (by rw [st_eq, h55, st_ne (by decide), st_ne (by decide), hx0]; decide)⟩, PB.mk9 hP ht⟩, hS.F ht⟩) hS.2.2 dX3_addBoard_74)
    · exact wx_throwS (ik := 51) (is := 53) (ic := 55) (own := RX3) (cls := "java/lang/IllegalArgumentException") (text := "the charge is not 0 to 200") (names := ["java/lang/RuntimeException", "java/lang/Exception"]) hx hb hst hPW hown (by decide +kernel) (by decide +kernel) (hts (.classLink RX3 51 "java/lang/IllegalArgumentException") (by decide +kernel)) (hts (.initialized "java/lang/IllegalArgumentException") (by decide +kernel)) (by decide +kernel) (fun w hw => hts w (List.mem_cons_of_mem _ (List.mem_append_left _ (List.mem_append_right _ hw)))) (by decide +kernel) (by decide +kernel) hP hS (hl.1.trans hml.symm) dX3_addBoard_15 dX3_addBoard_18 dX3_addBoard_19 dX3_addBoard_21 dX3_addBoard_24 hno (Nat.lt_of_lt_of_le (Nat.lt_succ_self _) (Nat.le_of_ble_eq_true rfl)) (Nat.le_of_ble_eq_true rfl) (Nat.le_of_ble_eq_true rfl) (Nat.le_of_ble_eq_true rfl) hlocks (⟨rfl, (by revert h1 c5 c12; (try simp only [Int32.lt_iff_toInt_lt, Int32.le_iff_toInt_le, ← Int32.toInt_inj, i_0, i_1, i_2, i_3, i_4, i_6, i_9, i_20, i_32, i_40, i_48, i_60, i_200, i_999, i_2000, i_m1]); omega)⟩) (Nat.le_of_ble_eq_true rfl) (Nat.le_of_ble_eq_true rfl)

set_option maxHeartbeats 4000000 in
set_option maxRecDepth 100000 in
theorem kp_setSun (l : Launch) (hst : l.stackTraces = false) (g : gE) (base n : Nat) (L : Nat → Nat) (hn : 106 ≤ n) (x : St) (r0 : Nat → va_E) (hx0 : x 0 0 0 = nI 0) (hx1 : x 1 0 0 = nI 0) (hx2 : x 2 0 0 = 2) (hx3 : x 3 0 0 = nI 0) (p0 : Int32) : vx_Met l yX3_setSun wsX3_setSun ({ frames := 8, cells := 3, slots := 18, locals := 180 }) (va_Pc [.ref (L 0), .int p0] (PW SS g base n L (cw g L x r0))) (va_Qi (fun (r : Int32) (_ : St) => ¬ (p0.toInt < 0 ∨ 20 < p0.toInt) ∧ r = 2) (fun (u : St) t => PB g n L (cw g L u r0) t) (fun q => base ≤ q)) (QX g base n L (cw g L x r0) (fun E => E = "java/lang/IllegalArgumentException" ∧ (p0.toInt < 0 ∨ 20 < p0.toInt))) 3 18 (fun q => base ≤ q) := by
  refine vx_ofW (cc := cX3_setSun) (maxL := 3) (ret := (some .int)) (by decide) rfl ?_
  intro p e s m args below meth c s₁ B hml hno hv
  obtain ⟨rfl, hPW⟩ := hv
  obtain ⟨hbs, hJ, hP, hK, hE⟩ := id hPW
  have hx := B.exec
  have hb := B.bytes
  have hr := B.returns
  have hts := atoms_spec (ws := wsX3_setSun) B.pre
  have hown : s.vm.findClass RX3 = some m.cls := findClass_of_methodNamed B.named
  have hlocks := B.notSynchronized
  have hS : va_S (fun q : Nat => base ≤ q) s.heap s.heap [] := va_S.rf
  have hl := lv_entry ([.ref (L 0), .int p0]) (n := 3) (Nat.le_of_ble_eq_true rfl)
  rw [lg_entry_eq]
  generalize (lg_sl ([.ref (L 0), .int p0]) ++ List.replicate (3 - (lg_sl ([.ref (L 0), .int p0])).length) Slot.unset).toArray = ls at hl ⊢
  have hl : lv_has ls 3 [(0, .ref (L 0)), (1, .int p0)] := hl
  have iX3 : ∀ w ∈ wsX30, w ∈ wsX3_setSun := by decide +kernel
  have hx3i : (x 3 0 0).toInt = 0 := by rw [hx3]; decide
  refine lv_iload_n hx hb dX3_setSun_0 rfl (lv_at hl 1 rfl) ?_
  refine lv_if_lt (tgt := 10) hx hb dX3_setSun_1 (by decide) (fun c1 => ?_) (fun c1 => ?_)
  · exact wx_throwS (ik := 51) (is := 67) (ic := 55) (own := RX3) (cls := "java/lang/IllegalArgumentException") (text := "the sun is not 0 to 20") (names := ["java/lang/RuntimeException", "java/lang/Exception"]) hx hb hst hPW hown (by decide +kernel) (by decide +kernel) (hts (.classLink RX3 51 "java/lang/IllegalArgumentException") (by decide +kernel)) (hts (.initialized "java/lang/IllegalArgumentException") (by decide +kernel)) (by decide +kernel) (fun w hw => hts w (List.mem_cons_of_mem _ (List.mem_append_right _ hw))) (by decide +kernel) (by decide +kernel) hP hS (hl.1.trans hml.symm) dX3_setSun_10 dX3_setSun_13 dX3_setSun_14 dX3_setSun_16 dX3_setSun_19 hno (Nat.lt_of_lt_of_le (Nat.lt_succ_self _) (Nat.le_of_ble_eq_true rfl)) (Nat.le_of_ble_eq_true rfl) (Nat.le_of_ble_eq_true rfl) (Nat.le_of_ble_eq_true rfl) hlocks (⟨rfl, (by revert c1; (try simp only [Int32.lt_iff_toInt_lt, Int32.le_iff_toInt_le, ← Int32.toInt_inj, i_0, i_1, i_2, i_3, i_4, i_6, i_9, i_20, i_32, i_40, i_48, i_60, i_200, i_999, i_2000, i_m1]); omega)⟩) (Nat.le_of_ble_eq_true rfl) (Nat.le_of_ble_eq_true rfl)
  · refine lv_iload_n hx hb dX3_setSun_4 rfl (lv_at hl 1 rfl) ?_
    refine lv_bipush (v := 20) hx hb dX3_setSun_5 (by decide) ?_
    refine lv_icmp_le (tgt := 20) hx hb dX3_setSun_7 (by decide) (fun c7 => ?_) (fun c7 => ?_)
    · refine lv_aload_n hx hb dX3_setSun_20 rfl (lv_at hl 0 rfl) ?_
      refine wx_get (D := g.1) (cl := vwCl) (ci := 5) (v := .int (x 2 0 0)) (C := RX3) (T := TX3) (N := 8) hx hb hts iX3 hown hK hP (0) (by omega) cw_d rfl 6 (by decide) (hts (.fieldLink RX3 38 "FerroDesk" "sun" "I") (by decide +kernel)) (fun _ h9 => h9) rfl dX3_setSun_21 ?_
      refine lv_istore_n (lv' := [(2, .int (x 2 0 0)), (0, .ref (L 0)), (1, .int p0)]) hx hb dX3_setSun_24 rfl hl (by decide) rfl (fun ls hl => ?_)
      refine lv_aload_n hx hb dX3_setSun_25 rfl (lv_at hl 1 rfl) ?_
      refine lv_iload_n hx hb dX3_setSun_26 rfl (lv_at hl 2 rfl) ?_
      refine wx_put (D := g.1) (cl := vwCl) (ci := 5) (v := .int p0) (ty := .int) (w' := cw g L (st x 2 0 0 p0) r0) (C := RX3) (T := TX3) (N := 8) hx hb hts iX3 tyX3 tyX3_ok nmX3 hown hK hP hJ hS (0) (by omega) cw_d rfl 6 (by decide) (hts (.fieldLink RX3 38 "FerroDesk" "sun" "I") (by decide +kernel)) (fun _ h9 => h9) rfl (by decide +kernel) rfl rfl (Nat.le_of_ble_eq_true rfl) dX3_setSun_27 (cw_put (r := 2) (i := 0) (j := 0) rfl (by omega) (dk_0.trans (by simp [dF, st]))) (fun H locs hP hS => ?_)
      refine lv_iload_n hx hb dX3_setSun_30 rfl (lv_at hl 0 rfl) ?_
      refine W.widen (k := 3) (n := 18) (Nat.le_of_ble_eq_true rfl) (Nat.le_of_ble_eq_true rfl) ?_
      exact vx_ret (W.iret (v := x 2 0 0) hx hb hr (fun t ht hW => ⟨⟨x 2 0 0, (st x 2 0 0 p0), rfl, ⟨(by revert c1 c7; (try simp only [Int32.lt_iff_toInt_lt, Int32.le_iff_toInt_le, ← Int32.toInt_inj, i_0, i_1, i_2, i_3, i_4, i_6, i_9, i_20, i_32, i_40, i_48, i_60, i_200, i_999, i_2000, i_m1]); omega), hx2⟩, PB.mk9 hP ht⟩, hS.F ht⟩) hS.2.2 dX3_setSun_31)
    · exact wx_throwS (ik := 51) (is := 67) (ic := 55) (own := RX3) (cls := "java/lang/IllegalArgumentException") (text := "the sun is not 0 to 20") (names := ["java/lang/RuntimeException", "java/lang/Exception"]) hx hb hst hPW hown (by decide +kernel) (by decide +kernel) (hts (.classLink RX3 51 "java/lang/IllegalArgumentException") (by decide +kernel)) (hts (.initialized "java/lang/IllegalArgumentException") (by decide +kernel)) (by decide +kernel) (fun w hw => hts w (List.mem_cons_of_mem _ (List.mem_append_right _ hw))) (by decide +kernel) (by decide +kernel) hP hS (hl.1.trans hml.symm) dX3_setSun_10 dX3_setSun_13 dX3_setSun_14 dX3_setSun_16 dX3_setSun_19 hno (Nat.lt_of_lt_of_le (Nat.lt_succ_self _) (Nat.le_of_ble_eq_true rfl)) (Nat.le_of_ble_eq_true rfl) (Nat.le_of_ble_eq_true rfl) (Nat.le_of_ble_eq_true rfl) hlocks (⟨rfl, (by revert c1 c7; (try simp only [Int32.lt_iff_toInt_lt, Int32.le_iff_toInt_le, ← Int32.toInt_inj, i_0, i_1, i_2, i_3, i_4, i_6, i_9, i_20, i_32, i_40, i_48, i_60, i_200, i_999, i_2000, i_m1]); omega)⟩) (Nat.le_of_ble_eq_true rfl) (Nat.le_of_ble_eq_true rfl)

set_option maxHeartbeats 4000000 in
set_option maxRecDepth 100000 in
theorem kp_charge (l : Launch) (hst : l.stackTraces = false) (g : gE) (base n : Nat) (L : Nat → Nat) (hn : 106 ≤ n) (x : St) (r0 : Nat → va_E) (hx0 : x 0 0 0 = nI 0) (hx1 : x 1 0 0 = nI 0) (hx2 : x 2 0 0 = 2) (hx3 : x 3 0 0 = nI 0) (p0 : Int32) : vx_Met l yX3_charge wsX3_charge ({ frames := 8, cells := 3, slots := 18, locals := 180 }) (va_Pc [.ref (L 0), .int p0] (PW SS g base n L (cw g L x r0))) (va_Qi (fun (r : Int32) (_ : St) => False) (fun (u : St) t => PB g n L (cw g L u r0) t) (fun q => base ≤ q)) (QX g base n L (cw g L x r0) (fun E => E = "java/lang/IndexOutOfBoundsException")) 3 18 (fun q => base ≤ q) := by
  refine vx_ofW (cc := cX3_charge) (maxL := 2) (ret := (some .int)) (by decide) rfl ?_
  intro p e s m args below meth c s₁ B hml hno hv
  obtain ⟨rfl, hPW⟩ := hv
  obtain ⟨hbs, hJ, hP, hK, hE⟩ := id hPW
  have hx := B.exec
  have hb := B.bytes
  have hr := B.returns
  have hts := atoms_spec (ws := wsX3_charge) B.pre
  have hown : s.vm.findClass RX3 = some m.cls := findClass_of_methodNamed B.named
  have hlocks := B.notSynchronized
  have hS : va_S (fun q : Nat => base ≤ q) s.heap s.heap [] := va_S.rf
  have hl := lv_entry ([.ref (L 0), .int p0]) (n := 2) (Nat.le_of_ble_eq_true rfl)
  rw [lg_entry_eq]
  generalize (lg_sl ([.ref (L 0), .int p0]) ++ List.replicate (2 - (lg_sl ([.ref (L 0), .int p0])).length) Slot.unset).toArray = ls at hl ⊢
  have hl : lv_has ls 2 [(0, .ref (L 0)), (1, .int p0)] := hl
  have hx3i : (x 3 0 0).toInt = 0 := by rw [hx3]; decide
  refine lv_aload_n hx hb dX3_charge_0 rfl (lv_at hl 0 rfl) ?_
  refine lv_iload_n hx hb dX3_charge_1 rfl (lv_at hl 1 rfl) ?_
  refine wx_xcallr (G := fun u => 8 + 3 * u) (vx_runV (As := [.int p0]) (rest := []) ⟨hx, hb, hml, hown, hts⟩ (k_boardAt l hst g base n L (by omega) x r0 0 (by omega) hx0 p0) (cwV 1 hts gX3_charge_X3_boardAt rfl rfl rfl (by decide +kernel) ⟨Nat.le_of_ble_eq_true rfl, Nat.le_of_ble_eq_true rfl⟩) (hPW.preV hP hS (ci := 5) rfl (by omega) cw_d) rfl rfl hl.1 rfl (lv_room (Nat.le_of_ble_eq_true rfl)) dX3_charge_2 ⟨Nat.le_of_ble_eq_true rfl, Nat.le_of_ble_eq_true rfl⟩) hS (fun E ce q9 H locs hpx hP hS h1 h2 h3 => ?_) (fun u2 H locs h2 hP hS => ?_)
  · exact wx_out hno hlocks h1 h2 h3 (hpx.1) hP hS (Nat.le_of_ble_eq_true rfl) (Nat.le_of_ble_eq_true rfl)
  exact absurd h2.1 (Nat.not_lt_zero _)

set_option maxHeartbeats 4000000 in
set_option maxRecDepth 100000 in
theorem kp_cell (l : Launch) (hst : l.stackTraces = false) (g : gE) (base n : Nat) (L : Nat → Nat) (hn : 106 ≤ n) (x : St) (r0 : Nat → va_E) (hx0 : x 0 0 0 = nI 0) (hx1 : x 1 0 0 = nI 0) (hx2 : x 2 0 0 = 2) (hx3 : x 3 0 0 = nI 0) (p0 p1 p2 : Int32) : vx_Met l yX3_cell wsX3_cell ({ frames := 8, cells := 3, slots := 18, locals := 180 }) (va_Pc [.ref (L 0), .int p0, .int p1, .int p2] (PW SS g base n L (cw g L x r0))) (va_Qi (fun (r : Int32) (_ : St) => False) (fun (u : St) t => PB g n L (cw g L u r0) t) (fun q => base ≤ q)) (QX g base n L (cw g L x r0) (fun E => E = "java/lang/IndexOutOfBoundsException")) 3 18 (fun q => base ≤ q) := by
  refine vx_ofW (cc := cX3_cell) (maxL := 5) (ret := (some .int)) (by decide) rfl ?_
  intro p e s m args below meth c s₁ B hml hno hv
  obtain ⟨rfl, hPW⟩ := hv
  obtain ⟨hbs, hJ, hP, hK, hE⟩ := id hPW
  have hx := B.exec
  have hb := B.bytes
  have hr := B.returns
  have hts := atoms_spec (ws := wsX3_cell) B.pre
  have hown : s.vm.findClass RX3 = some m.cls := findClass_of_methodNamed B.named
  have hlocks := B.notSynchronized
  have hS : va_S (fun q : Nat => base ≤ q) s.heap s.heap [] := va_S.rf
  have hl := lv_entry ([.ref (L 0), .int p0, .int p1, .int p2]) (n := 5) (Nat.le_of_ble_eq_true rfl)
  rw [lg_entry_eq]
  generalize (lg_sl ([.ref (L 0), .int p0, .int p1, .int p2]) ++ List.replicate (5 - (lg_sl ([.ref (L 0), .int p0, .int p1, .int p2])).length) Slot.unset).toArray = ls at hl ⊢
  have hl : lv_has ls 5 [(0, .ref (L 0)), (1, .int p0), (2, .int p1), (3, .int p2)] := hl
  have hx3i : (x 3 0 0).toInt = 0 := by rw [hx3]; decide
  refine lv_aload_n hx hb dX3_cell_0 rfl (lv_at hl 0 rfl) ?_
  refine lv_iload_n hx hb dX3_cell_1 rfl (lv_at hl 1 rfl) ?_
  refine wx_xcallr (G := fun u => 8 + 3 * u) (vx_runV (As := [.int p0]) (rest := []) ⟨hx, hb, hml, hown, hts⟩ (k_boardAt l hst g base n L (by omega) x r0 0 (by omega) hx0 p0) (cwV 1 hts gX3_cell_X3_boardAt rfl rfl rfl (by decide +kernel) ⟨Nat.le_of_ble_eq_true rfl, Nat.le_of_ble_eq_true rfl⟩) (hPW.preV hP hS (ci := 5) rfl (by omega) cw_d) rfl rfl hl.1 rfl (lv_room (Nat.le_of_ble_eq_true rfl)) dX3_cell_2 ⟨Nat.le_of_ble_eq_true rfl, Nat.le_of_ble_eq_true rfl⟩) hS (fun E ce q9 H locs hpx hP hS h1 h2 h3 => ?_) (fun u2 H locs h2 hP hS => ?_)
  · exact wx_out hno hlocks h1 h2 h3 (hpx.1) hP hS (Nat.le_of_ble_eq_true rfl) (Nat.le_of_ble_eq_true rfl)
  exact absurd h2.1 (Nat.not_lt_zero _)

set_option maxHeartbeats 4000000 in
set_option maxRecDepth 100000 in
theorem kp_wear (l : Launch) (hst : l.stackTraces = false) (g : gE) (base n : Nat) (L : Nat → Nat) (hn : 106 ≤ n) (x : St) (r0 : Nat → va_E) (hx0 : x 0 0 0 = nI 0) (hx1 : x 1 0 0 = nI 0) (hx2 : x 2 0 0 = 2) (hx3 : x 3 0 0 = nI 0) (p0 p1 p2 : Int32) : vx_Met l yX3_wear wsX3_wear ({ frames := 8, cells := 3, slots := 18, locals := 180 }) (va_Pc [.ref (L 0), .int p0, .int p1, .int p2] (PW SS g base n L (cw g L x r0))) (va_Qi (fun (r : Int32) (_ : St) => False) (fun (u : St) t => PB g n L (cw g L u r0) t) (fun q => base ≤ q)) (QX g base n L (cw g L x r0) (fun E => E = "java/lang/IndexOutOfBoundsException")) 3 18 (fun q => base ≤ q) := by
  refine vx_ofW (cc := cX3_wear) (maxL := 5) (ret := (some .int)) (by decide) rfl ?_
  intro p e s m args below meth c s₁ B hml hno hv
  obtain ⟨rfl, hPW⟩ := hv
  obtain ⟨hbs, hJ, hP, hK, hE⟩ := id hPW
  have hx := B.exec
  have hb := B.bytes
  have hr := B.returns
  have hts := atoms_spec (ws := wsX3_wear) B.pre
  have hown : s.vm.findClass RX3 = some m.cls := findClass_of_methodNamed B.named
  have hlocks := B.notSynchronized
  have hS : va_S (fun q : Nat => base ≤ q) s.heap s.heap [] := va_S.rf
  have hl := lv_entry ([.ref (L 0), .int p0, .int p1, .int p2]) (n := 5) (Nat.le_of_ble_eq_true rfl)
  rw [lg_entry_eq]
  generalize (lg_sl ([.ref (L 0), .int p0, .int p1, .int p2]) ++ List.replicate (5 - (lg_sl ([.ref (L 0), .int p0, .int p1, .int p2])).length) Slot.unset).toArray = ls at hl ⊢
  have hl : lv_has ls 5 [(0, .ref (L 0)), (1, .int p0), (2, .int p1), (3, .int p2)] := hl
  have hx3i : (x 3 0 0).toInt = 0 := by rw [hx3]; decide
  refine lv_aload_n hx hb dX3_wear_0 rfl (lv_at hl 0 rfl) ?_
  refine lv_iload_n hx hb dX3_wear_1 rfl (lv_at hl 1 rfl) ?_
  refine wx_xcallr (G := fun u => 8 + 3 * u) (vx_runV (As := [.int p0]) (rest := []) ⟨hx, hb, hml, hown, hts⟩ (k_boardAt l hst g base n L (by omega) x r0 0 (by omega) hx0 p0) (cwV 1 hts gX3_wear_X3_boardAt rfl rfl rfl (by decide +kernel) ⟨Nat.le_of_ble_eq_true rfl, Nat.le_of_ble_eq_true rfl⟩) (hPW.preV hP hS (ci := 5) rfl (by omega) cw_d) rfl rfl hl.1 rfl (lv_room (Nat.le_of_ble_eq_true rfl)) dX3_wear_2 ⟨Nat.le_of_ble_eq_true rfl, Nat.le_of_ble_eq_true rfl⟩) hS (fun E ce q9 H locs hpx hP hS h1 h2 h3 => ?_) (fun u2 H locs h2 hP hS => ?_)
  · exact wx_out hno hlocks h1 h2 h3 (hpx.1) hP hS (Nat.le_of_ble_eq_true rfl) (Nat.le_of_ble_eq_true rfl)
  exact absurd h2.1 (Nat.not_lt_zero _)

set_option maxHeartbeats 4000000 in
set_option maxRecDepth 100000 in
theorem kp_shows (l : Launch) (hst : l.stackTraces = false) (g : gE) (base n : Nat) (L : Nat → Nat) (hn : 106 ≤ n) (x : St) (r0 : Nat → va_E) (hx0 : x 0 0 0 = nI 0) (hx1 : x 1 0 0 = nI 0) (hx2 : x 2 0 0 = 2) (hx3 : x 3 0 0 = nI 0) (p0 : Int32) : vx_Met l yX3_shows wsX3_shows ({ frames := 8, cells := 3, slots := 18, locals := 180 }) (va_Pc [.ref (L 0), .int p0] (PW SS g base n L (cw g L x r0))) (va_Qi (fun (r : Int32) (_ : St) => False) (fun (u : St) t => PB g n L (cw g L u r0) t) (fun q => base ≤ q)) (QX g base n L (cw g L x r0) (fun E => E = "java/lang/IndexOutOfBoundsException")) 3 18 (fun q => base ≤ q) := by
  refine vx_ofW (cc := cX3_shows) (maxL := 3) (ret := (some .int)) (by decide) rfl ?_
  intro p e s m args below meth c s₁ B hml hno hv
  obtain ⟨rfl, hPW⟩ := hv
  obtain ⟨hbs, hJ, hP, hK, hE⟩ := id hPW
  have hx := B.exec
  have hb := B.bytes
  have hr := B.returns
  have hts := atoms_spec (ws := wsX3_shows) B.pre
  have hown : s.vm.findClass RX3 = some m.cls := findClass_of_methodNamed B.named
  have hlocks := B.notSynchronized
  have hS : va_S (fun q : Nat => base ≤ q) s.heap s.heap [] := va_S.rf
  have hl := lv_entry ([.ref (L 0), .int p0]) (n := 3) (Nat.le_of_ble_eq_true rfl)
  rw [lg_entry_eq]
  generalize (lg_sl ([.ref (L 0), .int p0]) ++ List.replicate (3 - (lg_sl ([.ref (L 0), .int p0])).length) Slot.unset).toArray = ls at hl ⊢
  have hl : lv_has ls 3 [(0, .ref (L 0)), (1, .int p0)] := hl
  have hx3i : (x 3 0 0).toInt = 0 := by rw [hx3]; decide
  refine lv_aload_n hx hb dX3_shows_0 rfl (lv_at hl 0 rfl) ?_
  refine lv_iload_n hx hb dX3_shows_1 rfl (lv_at hl 1 rfl) ?_
  refine wx_xcallr (G := fun u => 8 + 3 * u) (vx_runV (As := [.int p0]) (rest := []) ⟨hx, hb, hml, hown, hts⟩ (k_boardAt l hst g base n L (by omega) x r0 0 (by omega) hx0 p0) (cwV 1 hts gX3_shows_X3_boardAt rfl rfl rfl (by decide +kernel) ⟨Nat.le_of_ble_eq_true rfl, Nat.le_of_ble_eq_true rfl⟩) (hPW.preV hP hS (ci := 5) rfl (by omega) cw_d) rfl rfl hl.1 rfl (lv_room (Nat.le_of_ble_eq_true rfl)) dX3_shows_2 ⟨Nat.le_of_ble_eq_true rfl, Nat.le_of_ble_eq_true rfl⟩) hS (fun E ce q9 H locs hpx hP hS h1 h2 h3 => ?_) (fun u2 H locs h2 hP hS => ?_)
  · exact wx_out hno hlocks h1 h2 h3 (hpx.1) hP hS (Nat.le_of_ble_eq_true rfl) (Nat.le_of_ble_eq_true rfl)
  exact absurd h2.1 (Nat.not_lt_zero _)

set_option maxHeartbeats 4000000 in
set_option maxRecDepth 100000 in
theorem kp_shift (l : Launch) (hst : l.stackTraces = false) (g : gE) (base n : Nat) (L : Nat → Nat) (hn : 106 ≤ n) (x : St) (r0 : Nat → va_E) (hx0 : x 0 0 0 = nI 0) (hx1 : x 1 0 0 = nI 0) (hx2 : x 2 0 0 = 2) (hx3 : x 3 0 0 = nI 0) (p0 : Int32) : vx_Met l yX3_shift wsX3_shift ({ frames := 8, cells := 3, slots := 18, locals := 180 }) (va_Pc [.ref (L 0), .int p0] (PW SS g base n L (cw g L x r0))) (va_Qi (fun (r : Int32) (_ : St) => False) (fun (u : St) t => PB g n L (cw g L u r0) t) (fun q => base ≤ q)) (QX g base n L (cw g L x r0) (fun E => E = "java/lang/IndexOutOfBoundsException")) 3 18 (fun q => base ≤ q) := by
  refine vx_ofW (cc := cX3_shift) (maxL := 2) (ret := (some .int)) (by decide) rfl ?_
  intro p e s m args below meth c s₁ B hml hno hv
  obtain ⟨rfl, hPW⟩ := hv
  obtain ⟨hbs, hJ, hP, hK, hE⟩ := id hPW
  have hx := B.exec
  have hb := B.bytes
  have hr := B.returns
  have hts := atoms_spec (ws := wsX3_shift) B.pre
  have hown : s.vm.findClass RX3 = some m.cls := findClass_of_methodNamed B.named
  have hlocks := B.notSynchronized
  have hS : va_S (fun q : Nat => base ≤ q) s.heap s.heap [] := va_S.rf
  have hl := lv_entry ([.ref (L 0), .int p0]) (n := 2) (Nat.le_of_ble_eq_true rfl)
  rw [lg_entry_eq]
  generalize (lg_sl ([.ref (L 0), .int p0]) ++ List.replicate (2 - (lg_sl ([.ref (L 0), .int p0])).length) Slot.unset).toArray = ls at hl ⊢
  have hl : lv_has ls 2 [(0, .ref (L 0)), (1, .int p0)] := hl
  have hx3i : (x 3 0 0).toInt = 0 := by rw [hx3]; decide
  refine lv_aload_n hx hb dX3_shift_0 rfl (lv_at hl 0 rfl) ?_
  refine lv_iload_n hx hb dX3_shift_1 rfl (lv_at hl 1 rfl) ?_
  refine wx_xcallr (G := fun u => 8 + 3 * u) (vx_runV (As := [.int p0]) (rest := []) ⟨hx, hb, hml, hown, hts⟩ (k_boardAt l hst g base n L (by omega) x r0 0 (by omega) hx0 p0) (cwV 1 hts gX3_shift_X3_boardAt rfl rfl rfl (by decide +kernel) ⟨Nat.le_of_ble_eq_true rfl, Nat.le_of_ble_eq_true rfl⟩) (hPW.preV hP hS (ci := 5) rfl (by omega) cw_d) rfl rfl hl.1 rfl (lv_room (Nat.le_of_ble_eq_true rfl)) dX3_shift_2 ⟨Nat.le_of_ble_eq_true rfl, Nat.le_of_ble_eq_true rfl⟩) hS (fun E ce q9 H locs hpx hP hS h1 h2 h3 => ?_) (fun u2 H locs h2 hP hS => ?_)
  · exact wx_out hno hlocks h1 h2 h3 (hpx.1) hP hS (Nat.le_of_ble_eq_true rfl) (Nat.le_of_ble_eq_true rfl)
  exact absurd h2.1 (Nat.not_lt_zero _)

set_option maxHeartbeats 4000000 in
set_option maxRecDepth 100000 in
theorem kp_worst (l : Launch) (hst : l.stackTraces = false) (g : gE) (base n : Nat) (L : Nat → Nat) (hn : 106 ≤ n) (x : St) (r0 : Nat → va_E) (hx0 : x 0 0 0 = nI 0) (hx1 : x 1 0 0 = nI 0) (hx2 : x 2 0 0 = 2) (hx3 : x 3 0 0 = nI 0) (p0 : Int32) : vx_Met l yX3_worst wsX3_worst ({ frames := 8, cells := 3, slots := 18, locals := 180 }) (va_Pc [.ref (L 0), .int p0] (PW SS g base n L (cw g L x r0))) (va_Qi (fun (r : Int32) (_ : St) => False) (fun (u : St) t => PB g n L (cw g L u r0) t) (fun q => base ≤ q)) (QX g base n L (cw g L x r0) (fun E => E = "java/lang/IndexOutOfBoundsException")) 3 18 (fun q => base ≤ q) := by
  refine vx_ofW (cc := cX3_worst) (maxL := 2) (ret := (some .int)) (by decide) rfl ?_
  intro p e s m args below meth c s₁ B hml hno hv
  obtain ⟨rfl, hPW⟩ := hv
  obtain ⟨hbs, hJ, hP, hK, hE⟩ := id hPW
  have hx := B.exec
  have hb := B.bytes
  have hr := B.returns
  have hts := atoms_spec (ws := wsX3_worst) B.pre
  have hown : s.vm.findClass RX3 = some m.cls := findClass_of_methodNamed B.named
  have hlocks := B.notSynchronized
  have hS : va_S (fun q : Nat => base ≤ q) s.heap s.heap [] := va_S.rf
  have hl := lv_entry ([.ref (L 0), .int p0]) (n := 2) (Nat.le_of_ble_eq_true rfl)
  rw [lg_entry_eq]
  generalize (lg_sl ([.ref (L 0), .int p0]) ++ List.replicate (2 - (lg_sl ([.ref (L 0), .int p0])).length) Slot.unset).toArray = ls at hl ⊢
  have hl : lv_has ls 2 [(0, .ref (L 0)), (1, .int p0)] := hl
  have hx3i : (x 3 0 0).toInt = 0 := by rw [hx3]; decide
  refine lv_aload_n hx hb dX3_worst_0 rfl (lv_at hl 0 rfl) ?_
  refine lv_iload_n hx hb dX3_worst_1 rfl (lv_at hl 1 rfl) ?_
  refine wx_xcallr (G := fun u => 8 + 3 * u) (vx_runV (As := [.int p0]) (rest := []) ⟨hx, hb, hml, hown, hts⟩ (k_boardAt l hst g base n L (by omega) x r0 0 (by omega) hx0 p0) (cwV 1 hts gX3_worst_X3_boardAt rfl rfl rfl (by decide +kernel) ⟨Nat.le_of_ble_eq_true rfl, Nat.le_of_ble_eq_true rfl⟩) (hPW.preV hP hS (ci := 5) rfl (by omega) cw_d) rfl rfl hl.1 rfl (lv_room (Nat.le_of_ble_eq_true rfl)) dX3_worst_2 ⟨Nat.le_of_ble_eq_true rfl, Nat.le_of_ble_eq_true rfl⟩) hS (fun E ce q9 H locs hpx hP hS h1 h2 h3 => ?_) (fun u2 H locs h2 hP hS => ?_)
  · exact wx_out hno hlocks h1 h2 h3 (hpx.1) hP hS (Nat.le_of_ble_eq_true rfl) (Nat.le_of_ble_eq_true rfl)
  exact absurd h2.1 (Nat.not_lt_zero _)

set_option maxHeartbeats 4000000 in
set_option maxRecDepth 100000 in
theorem kp_pass (l : Launch) (hst : l.stackTraces = false) (g : gE) (base n : Nat) (L : Nat → Nat) (hn : 106 ≤ n) (x : St) (r0 : Nat → va_E) (hx0 : x 0 0 0 = nI 0) (hx1 : x 1 0 0 = nI 0) (hx2 : x 2 0 0 = 2) (hx3 : x 3 0 0 = nI 0) (p0 p1 : Int32) : vx_Met l yX3_pass wsX3_pass ({ frames := 8, cells := 3, slots := 18, locals := 180 }) (va_Pc [.ref (L 0), .int p0, .int p1] (PW SS g base n L (cw g L x r0))) (va_Qi (fun (r : Int32) (_ : St) => False) (fun (u : St) t => PB g n L (cw g L u r0) t) (fun q => base ≤ q)) (QX g base n L (cw g L x r0) (fun E => E = "java/lang/IndexOutOfBoundsException")) 3 18 (fun q => base ≤ q) := by
  refine vx_ofW (cc := cX3_pass) (maxL := 4) (ret := (some .int)) (by decide) rfl ?_
  intro p e s m args below meth c s₁ B hml hno hv
  obtain ⟨rfl, hPW⟩ := hv
  obtain ⟨hbs, hJ, hP, hK, hE⟩ := id hPW
  have hx := B.exec
  have hb := B.bytes
  have hr := B.returns
  have hts := atoms_spec (ws := wsX3_pass) B.pre
  have hown : s.vm.findClass RX3 = some m.cls := findClass_of_methodNamed B.named
  have hlocks := B.notSynchronized
  have hS : va_S (fun q : Nat => base ≤ q) s.heap s.heap [] := va_S.rf
  have hl := lv_entry ([.ref (L 0), .int p0, .int p1]) (n := 4) (Nat.le_of_ble_eq_true rfl)
  rw [lg_entry_eq]
  generalize (lg_sl ([.ref (L 0), .int p0, .int p1]) ++ List.replicate (4 - (lg_sl ([.ref (L 0), .int p0, .int p1])).length) Slot.unset).toArray = ls at hl ⊢
  have hl : lv_has ls 4 [(0, .ref (L 0)), (1, .int p0), (2, .int p1)] := hl
  have hx3i : (x 3 0 0).toInt = 0 := by rw [hx3]; decide
  refine lv_aload_n hx hb dX3_pass_0 rfl (lv_at hl 0 rfl) ?_
  refine lv_iload_n hx hb dX3_pass_1 rfl (lv_at hl 1 rfl) ?_
  refine wx_xcallr (G := fun u => 8 + 3 * u) (vx_runV (As := [.int p0]) (rest := []) ⟨hx, hb, hml, hown, hts⟩ (k_boardAt l hst g base n L (by omega) x r0 0 (by omega) hx0 p0) (cwV 1 hts gX3_pass_X3_boardAt rfl rfl rfl (by decide +kernel) ⟨Nat.le_of_ble_eq_true rfl, Nat.le_of_ble_eq_true rfl⟩) (hPW.preV hP hS (ci := 5) rfl (by omega) cw_d) rfl rfl hl.1 rfl (lv_room (Nat.le_of_ble_eq_true rfl)) dX3_pass_2 ⟨Nat.le_of_ble_eq_true rfl, Nat.le_of_ble_eq_true rfl⟩) hS (fun E ce q9 H locs hpx hP hS h1 h2 h3 => ?_) (fun u2 H locs h2 hP hS => ?_)
  · exact wx_out hno hlocks h1 h2 h3 (hpx.1) hP hS (Nat.le_of_ble_eq_true rfl) (Nat.le_of_ble_eq_true rfl)
  exact absurd h2.1 (Nat.not_lt_zero _)

set_option maxHeartbeats 4000000 in
set_option maxRecDepth 100000 in
theorem kp_cellAnew (l : Launch) (hst : l.stackTraces = false) (g : gE) (base n : Nat) (L : Nat → Nat) (hn : 106 ≤ n) (x : St) (r0 : Nat → va_E) (hx0 : x 0 0 0 = nI 0) (hx1 : x 1 0 0 = nI 0) (hx2 : x 2 0 0 = 2) (hx3 : x 3 0 0 = nI 0) (p0 p1 p2 : Int32) : vx_Met l yX3_cellAnew wsX3_cellAnew ({ frames := 8, cells := 3, slots := 18, locals := 180 }) (va_Pc [.ref (L 0), .int p0, .int p1, .int p2] (PW SS g base n L (cw g L x r0))) (va_Qi (fun (r : Int32) (_ : St) => False) (fun (u : St) t => PB g n L (cw g L u r0) t) (fun q => base ≤ q)) (QX g base n L (cw g L x r0) (fun E => E = "java/lang/IndexOutOfBoundsException")) 3 18 (fun q => base ≤ q) := by
  refine vx_ofW (cc := cX3_cellAnew) (maxL := 5) (ret := (some .int)) (by decide) rfl ?_
  intro p e s m args below meth c s₁ B hml hno hv
  obtain ⟨rfl, hPW⟩ := hv
  obtain ⟨hbs, hJ, hP, hK, hE⟩ := id hPW
  have hx := B.exec
  have hb := B.bytes
  have hr := B.returns
  have hts := atoms_spec (ws := wsX3_cellAnew) B.pre
  have hown : s.vm.findClass RX3 = some m.cls := findClass_of_methodNamed B.named
  have hlocks := B.notSynchronized
  have hS : va_S (fun q : Nat => base ≤ q) s.heap s.heap [] := va_S.rf
  have hl := lv_entry ([.ref (L 0), .int p0, .int p1, .int p2]) (n := 5) (Nat.le_of_ble_eq_true rfl)
  rw [lg_entry_eq]
  generalize (lg_sl ([.ref (L 0), .int p0, .int p1, .int p2]) ++ List.replicate (5 - (lg_sl ([.ref (L 0), .int p0, .int p1, .int p2])).length) Slot.unset).toArray = ls at hl ⊢
  have hl : lv_has ls 5 [(0, .ref (L 0)), (1, .int p0), (2, .int p1), (3, .int p2)] := hl
  have hx3i : (x 3 0 0).toInt = 0 := by rw [hx3]; decide
  refine lv_aload_n hx hb dX3_cellAnew_0 rfl (lv_at hl 0 rfl) ?_
  refine lv_iload_n hx hb dX3_cellAnew_1 rfl (lv_at hl 1 rfl) ?_
  refine wx_xcallr (G := fun u => 8 + 3 * u) (vx_runV (As := [.int p0]) (rest := []) ⟨hx, hb, hml, hown, hts⟩ (k_boardAt l hst g base n L (by omega) x r0 0 (by omega) hx0 p0) (cwV 1 hts gX3_cellAnew_X3_boardAt rfl rfl rfl (by decide +kernel) ⟨Nat.le_of_ble_eq_true rfl, Nat.le_of_ble_eq_true rfl⟩) (hPW.preV hP hS (ci := 5) rfl (by omega) cw_d) rfl rfl hl.1 rfl (lv_room (Nat.le_of_ble_eq_true rfl)) dX3_cellAnew_2 ⟨Nat.le_of_ble_eq_true rfl, Nat.le_of_ble_eq_true rfl⟩) hS (fun E ce q9 H locs hpx hP hS h1 h2 h3 => ?_) (fun u2 H locs h2 hP hS => ?_)
  · exact wx_out hno hlocks h1 h2 h3 (hpx.1) hP hS (Nat.le_of_ble_eq_true rfl) (Nat.le_of_ble_eq_true rfl)
  exact absurd h2.1 (Nat.not_lt_zero _)

set_option maxHeartbeats 4000000 in
set_option maxRecDepth 100000 in
theorem kp_queue (l : Launch) (hst : l.stackTraces = false) (g : gE) (base n : Nat) (L : Nat → Nat) (hn : 106 ≤ n) (x : St) (r0 : Nat → va_E) (hx0 : x 0 0 0 = nI 0) (hx1 : x 1 0 0 = nI 0) (hx2 : x 2 0 0 = 2) (hx3 : x 3 0 0 = nI 0) (p0 p1 : Int32) : vx_Met l yX3_queue wsX3_queue ({ frames := 8, cells := 3, slots := 18, locals := 180 }) (va_Pc [.ref (L 0), .int p0, .int p1] (PW SS g base n L (cw g L x r0))) (va_Qi (fun (r : Int32) (_ : St) => False) (fun (u : St) t => PB g n L (cw g L u r0) t) (fun q => base ≤ q)) (QX g base n L (cw g L x r0) (fun E => E = "java/lang/IndexOutOfBoundsException")) 3 18 (fun q => base ≤ q) := by
  refine vx_ofW (cc := cX3_queue) (maxL := 5) (ret := (some .boolean)) (by decide) rfl ?_
  intro p e s m args below meth c s₁ B hml hno hv
  obtain ⟨rfl, hPW⟩ := hv
  obtain ⟨hbs, hJ, hP, hK, hE⟩ := id hPW
  have hx := B.exec
  have hb := B.bytes
  have hr := B.returns
  have hts := atoms_spec (ws := wsX3_queue) B.pre
  have hown : s.vm.findClass RX3 = some m.cls := findClass_of_methodNamed B.named
  have hlocks := B.notSynchronized
  have hS : va_S (fun q : Nat => base ≤ q) s.heap s.heap [] := va_S.rf
  have hl := lv_entry ([.ref (L 0), .int p0, .int p1]) (n := 5) (Nat.le_of_ble_eq_true rfl)
  rw [lg_entry_eq]
  generalize (lg_sl ([.ref (L 0), .int p0, .int p1]) ++ List.replicate (5 - (lg_sl ([.ref (L 0), .int p0, .int p1])).length) Slot.unset).toArray = ls at hl ⊢
  have hl : lv_has ls 5 [(0, .ref (L 0)), (1, .int p0), (2, .int p1)] := hl
  have hx3i : (x 3 0 0).toInt = 0 := by rw [hx3]; decide
  refine lv_aload_n hx hb dX3_queue_0 rfl (lv_at hl 0 rfl) ?_
  refine lv_iload_n hx hb dX3_queue_1 rfl (lv_at hl 1 rfl) ?_
  refine wx_xcallr (G := fun u => 26 + 2 * u) (vx_runV (As := [.int p0]) (rest := []) ⟨hx, hb, hml, hown, hts⟩ (k_noticeAt l hst g base n L (by omega) x r0 0 (by omega) hx1 p0) (cwV 1 hts gX3_queue_X3_noticeAt rfl rfl rfl (by decide +kernel) ⟨Nat.le_of_ble_eq_true rfl, Nat.le_of_ble_eq_true rfl⟩) (hPW.preV hP hS (ci := 5) rfl (by omega) cw_d) rfl rfl hl.1 rfl (lv_room (Nat.le_of_ble_eq_true rfl)) dX3_queue_2 ⟨Nat.le_of_ble_eq_true rfl, Nat.le_of_ble_eq_true rfl⟩) hS (fun E ce q9 H locs hpx hP hS h1 h2 h3 => ?_) (fun u2 H locs h2 hP hS => ?_)
  · exact wx_out hno hlocks h1 h2 h3 (hpx.1) hP hS (Nat.le_of_ble_eq_true rfl) (Nat.le_of_ble_eq_true rfl)
  exact absurd h2.1 (Nat.not_lt_zero _)

set_option maxHeartbeats 4000000 in
set_option maxRecDepth 100000 in
theorem kp_takeBack (l : Launch) (hst : l.stackTraces = false) (g : gE) (base n : Nat) (L : Nat → Nat) (hn : 106 ≤ n) (x : St) (r0 : Nat → va_E) (hx0 : x 0 0 0 = nI 0) (hx1 : x 1 0 0 = nI 0) (hx2 : x 2 0 0 = 2) (hx3 : x 3 0 0 = nI 0) (p0 p1 : Int32) : vx_Met l yX3_takeBack wsX3_takeBack ({ frames := 8, cells := 3, slots := 18, locals := 180 }) (va_Pc [.ref (L 0), .int p0, .int p1] (PW SS g base n L (cw g L x r0))) (va_Qi (fun (r : Int32) (_ : St) => False) (fun (u : St) t => PB g n L (cw g L u r0) t) (fun q => base ≤ q)) (QX g base n L (cw g L x r0) (fun E => E = "java/lang/IndexOutOfBoundsException")) 3 18 (fun q => base ≤ q) := by
  refine vx_ofW (cc := cX3_takeBack) (maxL := 4) (ret := (some .int)) (by decide) rfl ?_
  intro p e s m args below meth c s₁ B hml hno hv
  obtain ⟨rfl, hPW⟩ := hv
  obtain ⟨hbs, hJ, hP, hK, hE⟩ := id hPW
  have hx := B.exec
  have hb := B.bytes
  have hr := B.returns
  have hts := atoms_spec (ws := wsX3_takeBack) B.pre
  have hown : s.vm.findClass RX3 = some m.cls := findClass_of_methodNamed B.named
  have hlocks := B.notSynchronized
  have hS : va_S (fun q : Nat => base ≤ q) s.heap s.heap [] := va_S.rf
  have hl := lv_entry ([.ref (L 0), .int p0, .int p1]) (n := 4) (Nat.le_of_ble_eq_true rfl)
  rw [lg_entry_eq]
  generalize (lg_sl ([.ref (L 0), .int p0, .int p1]) ++ List.replicate (4 - (lg_sl ([.ref (L 0), .int p0, .int p1])).length) Slot.unset).toArray = ls at hl ⊢
  have hl : lv_has ls 4 [(0, .ref (L 0)), (1, .int p0), (2, .int p1)] := hl
  have hx3i : (x 3 0 0).toInt = 0 := by rw [hx3]; decide
  refine lv_aload_n hx hb dX3_takeBack_0 rfl (lv_at hl 0 rfl) ?_
  refine lv_iload_n hx hb dX3_takeBack_1 rfl (lv_at hl 1 rfl) ?_
  refine wx_xcallr (G := fun u => 26 + 2 * u) (vx_runV (As := [.int p0]) (rest := []) ⟨hx, hb, hml, hown, hts⟩ (k_noticeAt l hst g base n L (by omega) x r0 0 (by omega) hx1 p0) (cwV 1 hts gX3_takeBack_X3_noticeAt rfl rfl rfl (by decide +kernel) ⟨Nat.le_of_ble_eq_true rfl, Nat.le_of_ble_eq_true rfl⟩) (hPW.preV hP hS (ci := 5) rfl (by omega) cw_d) rfl rfl hl.1 rfl (lv_room (Nat.le_of_ble_eq_true rfl)) dX3_takeBack_2 ⟨Nat.le_of_ble_eq_true rfl, Nat.le_of_ble_eq_true rfl⟩) hS (fun E ce q9 H locs hpx hP hS h1 h2 h3 => ?_) (fun u2 H locs h2 hP hS => ?_)
  · exact wx_out hno hlocks h1 h2 h3 (hpx.1) hP hS (Nat.le_of_ble_eq_true rfl) (Nat.le_of_ble_eq_true rfl)
  exact absurd h2.1 (Nat.not_lt_zero _)

set_option maxHeartbeats 4000000 in
set_option maxRecDepth 100000 in
theorem kp_mend (l : Launch) (hst : l.stackTraces = false) (g : gE) (base n : Nat) (L : Nat → Nat) (hn : 106 ≤ n) (x : St) (r0 : Nat → va_E) (hx0 : x 0 0 0 = nI 0) (hx1 : x 1 0 0 = nI 0) (hx2 : x 2 0 0 = 2) (hx3 : x 3 0 0 = nI 0) (p0 p1 : Int32) : vx_Met l yX3_mend wsX3_mend ({ frames := 8, cells := 3, slots := 18, locals := 180 }) (va_Pc [.ref (L 0), .int p0, .int p1] (PW SS g base n L (cw g L x r0))) (va_Qi (fun (r : Int32) (_ : St) => False) (fun (u : St) t => PB g n L (cw g L u r0) t) (fun q => base ≤ q)) (QX g base n L (cw g L x r0) (fun E => E = "java/lang/IndexOutOfBoundsException")) 3 18 (fun q => base ≤ q) := by
  refine vx_ofW (cc := cX3_mend) (maxL := 6) (ret := (some .int)) (by decide) rfl ?_
  intro p e s m args below meth c s₁ B hml hno hv
  obtain ⟨rfl, hPW⟩ := hv
  obtain ⟨hbs, hJ, hP, hK, hE⟩ := id hPW
  have hx := B.exec
  have hb := B.bytes
  have hr := B.returns
  have hts := atoms_spec (ws := wsX3_mend) B.pre
  have hown : s.vm.findClass RX3 = some m.cls := findClass_of_methodNamed B.named
  have hlocks := B.notSynchronized
  have hS : va_S (fun q : Nat => base ≤ q) s.heap s.heap [] := va_S.rf
  have hl := lv_entry ([.ref (L 0), .int p0, .int p1]) (n := 6) (Nat.le_of_ble_eq_true rfl)
  rw [lg_entry_eq]
  generalize (lg_sl ([.ref (L 0), .int p0, .int p1]) ++ List.replicate (6 - (lg_sl ([.ref (L 0), .int p0, .int p1])).length) Slot.unset).toArray = ls at hl ⊢
  have hl : lv_has ls 6 [(0, .ref (L 0)), (1, .int p0), (2, .int p1)] := hl
  have hx3i : (x 3 0 0).toInt = 0 := by rw [hx3]; decide
  refine lv_aload_n hx hb dX3_mend_0 rfl (lv_at hl 0 rfl) ?_
  refine lv_iload_n hx hb dX3_mend_1 rfl (lv_at hl 1 rfl) ?_
  refine wx_xcallr (G := fun u => 26 + 2 * u) (vx_runV (As := [.int p0]) (rest := []) ⟨hx, hb, hml, hown, hts⟩ (k_noticeAt l hst g base n L (by omega) x r0 0 (by omega) hx1 p0) (cwV 1 hts gX3_mend_X3_noticeAt rfl rfl rfl (by decide +kernel) ⟨Nat.le_of_ble_eq_true rfl, Nat.le_of_ble_eq_true rfl⟩) (hPW.preV hP hS (ci := 5) rfl (by omega) cw_d) rfl rfl hl.1 rfl (lv_room (Nat.le_of_ble_eq_true rfl)) dX3_mend_2 ⟨Nat.le_of_ble_eq_true rfl, Nat.le_of_ble_eq_true rfl⟩) hS (fun E ce q9 H locs hpx hP hS h1 h2 h3 => ?_) (fun u2 H locs h2 hP hS => ?_)
  · exact wx_out hno hlocks h1 h2 h3 (hpx.1) hP hS (Nat.le_of_ble_eq_true rfl) (Nat.le_of_ble_eq_true rfl)
  exact absurd h2.1 (Nat.not_lt_zero _)

set_option maxHeartbeats 4000000 in
set_option maxRecDepth 100000 in
theorem kp_readers (l : Launch) (hst : l.stackTraces = false) (g : gE) (base n : Nat) (L : Nat → Nat) (hn : 106 ≤ n) (x : St) (r0 : Nat → va_E) (hx0 : x 0 0 0 = nI 0) (hx1 : x 1 0 0 = nI 0) (hx2 : x 2 0 0 = 2) (hx3 : x 3 0 0 = nI 0) (p0 p1 : Int32) : vx_Met l yX3_readers wsX3_readers ({ frames := 8, cells := 3, slots := 18, locals := 180 }) (va_Pc [.ref (L 0), .int p0, .int p1] (PW SS g base n L (cw g L x r0))) (va_Qi (fun (r : Int32) (_ : St) => False) (fun (u : St) t => PB g n L (cw g L u r0) t) (fun q => base ≤ q)) (QX g base n L (cw g L x r0) (fun E => E = "java/lang/IndexOutOfBoundsException")) 3 18 (fun q => base ≤ q) := by
  refine vx_ofW (cc := cX3_readers) (maxL := 4) (ret := (some .int)) (by decide) rfl ?_
  intro p e s m args below meth c s₁ B hml hno hv
  obtain ⟨rfl, hPW⟩ := hv
  obtain ⟨hbs, hJ, hP, hK, hE⟩ := id hPW
  have hx := B.exec
  have hb := B.bytes
  have hr := B.returns
  have hts := atoms_spec (ws := wsX3_readers) B.pre
  have hown : s.vm.findClass RX3 = some m.cls := findClass_of_methodNamed B.named
  have hlocks := B.notSynchronized
  have hS : va_S (fun q : Nat => base ≤ q) s.heap s.heap [] := va_S.rf
  have hl := lv_entry ([.ref (L 0), .int p0, .int p1]) (n := 4) (Nat.le_of_ble_eq_true rfl)
  rw [lg_entry_eq]
  generalize (lg_sl ([.ref (L 0), .int p0, .int p1]) ++ List.replicate (4 - (lg_sl ([.ref (L 0), .int p0, .int p1])).length) Slot.unset).toArray = ls at hl ⊢
  have hl : lv_has ls 4 [(0, .ref (L 0)), (1, .int p0), (2, .int p1)] := hl
  have hx3i : (x 3 0 0).toInt = 0 := by rw [hx3]; decide
  refine lv_aload_n hx hb dX3_readers_0 rfl (lv_at hl 0 rfl) ?_
  refine lv_iload_n hx hb dX3_readers_1 rfl (lv_at hl 1 rfl) ?_
  refine wx_xcallr (G := fun u => 26 + 2 * u) (vx_runV (As := [.int p0]) (rest := []) ⟨hx, hb, hml, hown, hts⟩ (k_noticeAt l hst g base n L (by omega) x r0 0 (by omega) hx1 p0) (cwV 1 hts gX3_readers_X3_noticeAt rfl rfl rfl (by decide +kernel) ⟨Nat.le_of_ble_eq_true rfl, Nat.le_of_ble_eq_true rfl⟩) (hPW.preV hP hS (ci := 5) rfl (by omega) cw_d) rfl rfl hl.1 rfl (lv_room (Nat.le_of_ble_eq_true rfl)) dX3_readers_2 ⟨Nat.le_of_ble_eq_true rfl, Nat.le_of_ble_eq_true rfl⟩) hS (fun E ce q9 H locs hpx hP hS h1 h2 h3 => ?_) (fun u2 H locs h2 hP hS => ?_)
  · exact wx_out hno hlocks h1 h2 h3 (hpx.1) hP hS (Nat.le_of_ble_eq_true rfl) (Nat.le_of_ble_eq_true rfl)
  exact absurd h2.1 (Nat.not_lt_zero _)

set_option maxHeartbeats 4000000 in
set_option maxRecDepth 100000 in
theorem kp_readIn (l : Launch) (hst : l.stackTraces = false) (g : gE) (base n : Nat) (L : Nat → Nat) (hn : 106 ≤ n) (x : St) (r0 : Nat → va_E) (hx0 : x 0 0 0 = nI 0) (hx1 : x 1 0 0 = nI 0) (hx2 : x 2 0 0 = 2) (hx3 : x 3 0 0 = nI 0) (p0 p1 : Int32) : vx_Met l yX3_readIn wsX3_readIn ({ frames := 8, cells := 3, slots := 18, locals := 180 }) (va_Pc [.ref (L 0), .int p0, .int p1] (PW SS g base n L (cw g L x r0))) (va_Qi (fun (r : Int32) (_ : St) => False) (fun (u : St) t => PB g n L (cw g L u r0) t) (fun q => base ≤ q)) (QX g base n L (cw g L x r0) (fun E => E = "java/lang/IndexOutOfBoundsException")) 3 18 (fun q => base ≤ q) := by
  refine vx_ofW (cc := cX3_readIn) (maxL := 3) (ret := (some .int)) (by decide) rfl ?_
  intro p e s m args below meth c s₁ B hml hno hv
  obtain ⟨rfl, hPW⟩ := hv
  obtain ⟨hbs, hJ, hP, hK, hE⟩ := id hPW
  have hx := B.exec
  have hb := B.bytes
  have hr := B.returns
  have hts := atoms_spec (ws := wsX3_readIn) B.pre
  have hown : s.vm.findClass RX3 = some m.cls := findClass_of_methodNamed B.named
  have hlocks := B.notSynchronized
  have hS : va_S (fun q : Nat => base ≤ q) s.heap s.heap [] := va_S.rf
  have hl := lv_entry ([.ref (L 0), .int p0, .int p1]) (n := 3) (Nat.le_of_ble_eq_true rfl)
  rw [lg_entry_eq]
  generalize (lg_sl ([.ref (L 0), .int p0, .int p1]) ++ List.replicate (3 - (lg_sl ([.ref (L 0), .int p0, .int p1])).length) Slot.unset).toArray = ls at hl ⊢
  have hl : lv_has ls 3 [(0, .ref (L 0)), (1, .int p0), (2, .int p1)] := hl
  have iX3 : ∀ w ∈ wsX30, w ∈ wsX3_readIn := by decide +kernel
  have hx3i : (x 3 0 0).toInt = 0 := by rw [hx3]; decide
  refine lv_aload_n hx hb dX3_readIn_0 rfl (lv_at hl 0 rfl) ?_
  refine wx_get (D := g.1) (cl := vwCl) (ci := 5) (v := .ref (L 4)) (C := RX3) (T := TX3) (N := 8) hx hb hts iX3 hown hK hP (0) (by omega) cw_d rfl 5 (by decide) (hts (.fieldLink RX3 34 "FerroDesk" "readings" "LFerroDesk$Readings;") (by decide +kernel)) (fun _ h9 => h9) rfl dX3_readIn_1 ?_
  refine lv_aload_n hx hb dX3_readIn_4 rfl (lv_at hl 0 rfl) ?_
  refine lv_iload_n hx hb dX3_readIn_5 rfl (lv_at hl 1 rfl) ?_
  refine wx_xcallr (G := fun u => 26 + 2 * u) (vx_runV (As := [.int p0]) (rest := [.ref (L 4)]) ⟨hx, hb, hml, hown, hts⟩ (k_noticeAt l hst g base n L (by omega) x r0 0 (by omega) hx1 p0) (cwV 1 hts gX3_readIn_X3_noticeAt rfl rfl rfl (by decide +kernel) ⟨Nat.le_of_ble_eq_true rfl, Nat.le_of_ble_eq_true rfl⟩) (hPW.preV hP hS (ci := 5) rfl (by omega) cw_d) rfl rfl hl.1 rfl (lv_room (Nat.le_of_ble_eq_true rfl)) dX3_readIn_6 ⟨Nat.le_of_ble_eq_true rfl, Nat.le_of_ble_eq_true rfl⟩) hS (fun E ce q9 H locs hpx hP hS h1 h2 h3 => ?_) (fun u6 H locs h6 hP hS => ?_)
  · exact wx_out hno hlocks h1 h2 h3 (hpx.1) hP hS (Nat.le_of_ble_eq_true rfl) (Nat.le_of_ble_eq_true rfl)
  exact absurd h6.1 (Nat.not_lt_zero _)

set_option maxHeartbeats 4000000 in
set_option maxRecDepth 100000 in
theorem kp_sleeps (l : Launch) (hst : l.stackTraces = false) (g : gE) (base n : Nat) (L : Nat → Nat) (hn : 106 ≤ n) (x : St) (r0 : Nat → va_E) (hx0 : x 0 0 0 = nI 0) (hx1 : x 1 0 0 = nI 0) (hx2 : x 2 0 0 = 2) (hx3 : x 3 0 0 = nI 0) (p0 : Int32) : vx_Met l yX3_sleeps wsX3_sleeps ({ frames := 8, cells := 3, slots := 18, locals := 180 }) (va_Pc [.ref (L 0), .int p0] (PW SS g base n L (cw g L x r0))) (va_Qi (fun (r : Int32) (_ : St) => False) (fun (u : St) t => PB g n L (cw g L u r0) t) (fun q => base ≤ q)) (QX g base n L (cw g L x r0) (fun E => E = "java/lang/IndexOutOfBoundsException")) 3 18 (fun q => base ≤ q) := by
  refine vx_ofW (cc := cX3_sleeps) (maxL := 2) (ret := (some .boolean)) (by decide) rfl ?_
  intro p e s m args below meth c s₁ B hml hno hv
  obtain ⟨rfl, hPW⟩ := hv
  obtain ⟨hbs, hJ, hP, hK, hE⟩ := id hPW
  have hx := B.exec
  have hb := B.bytes
  have hr := B.returns
  have hts := atoms_spec (ws := wsX3_sleeps) B.pre
  have hown : s.vm.findClass RX3 = some m.cls := findClass_of_methodNamed B.named
  have hlocks := B.notSynchronized
  have hS : va_S (fun q : Nat => base ≤ q) s.heap s.heap [] := va_S.rf
  have hl := lv_entry ([.ref (L 0), .int p0]) (n := 2) (Nat.le_of_ble_eq_true rfl)
  rw [lg_entry_eq]
  generalize (lg_sl ([.ref (L 0), .int p0]) ++ List.replicate (2 - (lg_sl ([.ref (L 0), .int p0])).length) Slot.unset).toArray = ls at hl ⊢
  have hl : lv_has ls 2 [(0, .ref (L 0)), (1, .int p0)] := hl
  have hx3i : (x 3 0 0).toInt = 0 := by rw [hx3]; decide
  refine lv_aload_n hx hb dX3_sleeps_0 rfl (lv_at hl 0 rfl) ?_
  refine lv_iload_n hx hb dX3_sleeps_1 rfl (lv_at hl 1 rfl) ?_
  refine wx_xcallr (G := fun u => 8 + 3 * u) (vx_runV (As := [.int p0]) (rest := []) ⟨hx, hb, hml, hown, hts⟩ (k_boardAt l hst g base n L (by omega) x r0 0 (by omega) hx0 p0) (cwV 1 hts gX3_sleeps_X3_boardAt rfl rfl rfl (by decide +kernel) ⟨Nat.le_of_ble_eq_true rfl, Nat.le_of_ble_eq_true rfl⟩) (hPW.preV hP hS (ci := 5) rfl (by omega) cw_d) rfl rfl hl.1 rfl (lv_room (Nat.le_of_ble_eq_true rfl)) dX3_sleeps_2 ⟨Nat.le_of_ble_eq_true rfl, Nat.le_of_ble_eq_true rfl⟩) hS (fun E ce q9 H locs hpx hP hS h1 h2 h3 => ?_) (fun u2 H locs h2 hP hS => ?_)
  · exact wx_out hno hlocks h1 h2 h3 (hpx.1) hP hS (Nat.le_of_ble_eq_true rfl) (Nat.le_of_ble_eq_true rfl)
  exact absurd h2.1 (Nat.not_lt_zero _)

set_option maxHeartbeats 4000000 in
set_option maxRecDepth 100000 in
theorem kp_isDue (l : Launch) (hst : l.stackTraces = false) (g : gE) (base n : Nat) (L : Nat → Nat) (hn : 106 ≤ n) (x : St) (r0 : Nat → va_E) (hx0 : x 0 0 0 = nI 0) (hx1 : x 1 0 0 = nI 0) (hx2 : x 2 0 0 = 2) (hx3 : x 3 0 0 = nI 0) (p0 : Int32) : vx_Met l yX3_isDue wsX3_isDue ({ frames := 8, cells := 3, slots := 18, locals := 180 }) (va_Pc [.ref (L 0), .int p0] (PW SS g base n L (cw g L x r0))) (va_Qi (fun (r : Int32) (_ : St) => False) (fun (u : St) t => PB g n L (cw g L u r0) t) (fun q => base ≤ q)) (QX g base n L (cw g L x r0) (fun E => E = "java/lang/IndexOutOfBoundsException")) 3 18 (fun q => base ≤ q) := by
  refine vx_ofW (cc := cX3_isDue) (maxL := 2) (ret := (some .boolean)) (by decide) rfl ?_
  intro p e s m args below meth c s₁ B hml hno hv
  obtain ⟨rfl, hPW⟩ := hv
  obtain ⟨hbs, hJ, hP, hK, hE⟩ := id hPW
  have hx := B.exec
  have hb := B.bytes
  have hr := B.returns
  have hts := atoms_spec (ws := wsX3_isDue) B.pre
  have hown : s.vm.findClass RX3 = some m.cls := findClass_of_methodNamed B.named
  have hlocks := B.notSynchronized
  have hS : va_S (fun q : Nat => base ≤ q) s.heap s.heap [] := va_S.rf
  have hl := lv_entry ([.ref (L 0), .int p0]) (n := 2) (Nat.le_of_ble_eq_true rfl)
  rw [lg_entry_eq]
  generalize (lg_sl ([.ref (L 0), .int p0]) ++ List.replicate (2 - (lg_sl ([.ref (L 0), .int p0])).length) Slot.unset).toArray = ls at hl ⊢
  have hl : lv_has ls 2 [(0, .ref (L 0)), (1, .int p0)] := hl
  have hx3i : (x 3 0 0).toInt = 0 := by rw [hx3]; decide
  refine lv_aload_n hx hb dX3_isDue_0 rfl (lv_at hl 0 rfl) ?_
  refine lv_iload_n hx hb dX3_isDue_1 rfl (lv_at hl 1 rfl) ?_
  refine wx_xcallr (G := fun u => 26 + 2 * u) (vx_runV (As := [.int p0]) (rest := []) ⟨hx, hb, hml, hown, hts⟩ (k_noticeAt l hst g base n L (by omega) x r0 0 (by omega) hx1 p0) (cwV 1 hts gX3_isDue_X3_noticeAt rfl rfl rfl (by decide +kernel) ⟨Nat.le_of_ble_eq_true rfl, Nat.le_of_ble_eq_true rfl⟩) (hPW.preV hP hS (ci := 5) rfl (by omega) cw_d) rfl rfl hl.1 rfl (lv_room (Nat.le_of_ble_eq_true rfl)) dX3_isDue_2 ⟨Nat.le_of_ble_eq_true rfl, Nat.le_of_ble_eq_true rfl⟩) hS (fun E ce q9 H locs hpx hP hS h1 h2 h3 => ?_) (fun u2 H locs h2 hP hS => ?_)
  · exact wx_out hno hlocks h1 h2 h3 (hpx.1) hP hS (Nat.le_of_ble_eq_true rfl) (Nat.le_of_ble_eq_true rfl)
  exact absurd h2.1 (Nat.not_lt_zero _)

set_option maxHeartbeats 4000000 in
set_option maxRecDepth 100000 in
theorem kp_post (l : Launch) (hst : l.stackTraces = false) (g : gE) (base n : Nat) (L : Nat → Nat) (hn : 106 ≤ n) (x : St) (r0 : Nat → va_E) (hx0 : x 0 0 0 = nI 0) (hx1 : x 1 0 0 = nI 0) (hx2 : x 2 0 0 = 2) (hx3 : x 3 0 0 = nI 0) (p0 p1 p2 p3 : Int32) : vx_Met l yX3_post wsX3_post ({ frames := 8, cells := 3, slots := 18, locals := 180 }) (va_Pc [.ref (L 0), .int p0, .int p1, .int p2, .int p3] (PW SS g base n L (cw g L x r0))) (va_Qi (fun (r : Int32) (_ : St) => ¬ (p0.toInt < 0 ∨ 9 < p0.toInt ∨ p1.toInt = 0 ∨ p2.toInt < 0 ∨ p3.toInt ≤ p2.toInt ∨ 2000 < p3.toInt) ∧ r = 0) (fun (u : St) t => PB g n L (cw g L u r0) t) (fun q => base ≤ q)) (QX g base n L (cw g L x r0) (fun E => E = "java/lang/IllegalArgumentException" ∧ (p0.toInt < 0 ∨ 9 < p0.toInt ∨ p1.toInt = 0 ∨ p2.toInt < 0 ∨ p3.toInt ≤ p2.toInt ∨ 2000 < p3.toInt))) 3 18 (fun q => base ≤ q) := by
  refine vx_ofW (cc := cX3_post) (maxL := 5) (ret := (some .int)) (by decide) rfl ?_
  intro p e s m args below meth c s₁ B hml hno hv
  obtain ⟨rfl, hPW⟩ := hv
  obtain ⟨hbs, hJ, hP, hK, hE⟩ := id hPW
  have hx := B.exec
  have hb := B.bytes
  have hr := B.returns
  have hts := atoms_spec (ws := wsX3_post) B.pre
  have hown : s.vm.findClass RX3 = some m.cls := findClass_of_methodNamed B.named
  have hlocks := B.notSynchronized
  have hS : va_S (fun q : Nat => base ≤ q) s.heap s.heap [] := va_S.rf
  have hl := lv_entry ([.ref (L 0), .int p0, .int p1, .int p2, .int p3]) (n := 5) (Nat.le_of_ble_eq_true rfl)
  rw [lg_entry_eq]
  generalize (lg_sl ([.ref (L 0), .int p0, .int p1, .int p2, .int p3]) ++ List.replicate (5 - (lg_sl ([.ref (L 0), .int p0, .int p1, .int p2, .int p3])).length) Slot.unset).toArray = ls at hl ⊢
  have hl : lv_has ls 5 [(0, .ref (L 0)), (1, .int p0), (2, .int p1), (3, .int p2), (4, .int p3)] := hl
  have iX1 : ∀ w ∈ wsX10, w ∈ wsX3_post := by decide +kernel
  have hx3i : (x 3 0 0).toInt = 0 := by rw [hx3]; decide
  refine lv_iload_n hx hb dX3_post_0 rfl (lv_at hl 1 rfl) ?_
  refine lv_if_lt (tgt := 10) hx hb dX3_post_1 (by decide) (fun c1 => ?_) (fun c1 => ?_)
  · exact wx_throwS (ik := 51) (is := 104) (ic := 55) (own := RX3) (cls := "java/lang/IllegalArgumentException") (text := "the rank is not 0 to 9") (names := ["java/lang/RuntimeException", "java/lang/Exception"]) hx hb hst hPW hown (by decide +kernel) (by decide +kernel) (hts (.classLink RX3 51 "java/lang/IllegalArgumentException") (by decide +kernel)) (hts (.initialized "java/lang/IllegalArgumentException") (by decide +kernel)) (by decide +kernel) (fun w hw => hts w (List.mem_cons_of_mem _ (List.mem_append_left _ (List.mem_append_right _ hw)))) (by decide +kernel) (by decide +kernel) hP hS (hl.1.trans hml.symm) dX3_post_10 dX3_post_13 dX3_post_14 dX3_post_16 dX3_post_19 hno (Nat.lt_of_lt_of_le (Nat.lt_succ_self _) (Nat.le_of_ble_eq_true rfl)) (Nat.le_of_ble_eq_true rfl) (Nat.le_of_ble_eq_true rfl) (Nat.le_of_ble_eq_true rfl) hlocks (⟨rfl, (by revert c1; (try simp only [Int32.lt_iff_toInt_lt, Int32.le_iff_toInt_le, ← Int32.toInt_inj, i_0, i_1, i_2, i_3, i_4, i_6, i_9, i_20, i_32, i_40, i_48, i_60, i_200, i_999, i_2000, i_m1]); omega)⟩) (Nat.le_of_ble_eq_true rfl) (Nat.le_of_ble_eq_true rfl)
  · refine lv_iload_n hx hb dX3_post_4 rfl (lv_at hl 1 rfl) ?_
    refine lv_bipush (v := 9) hx hb dX3_post_5 (by decide) ?_
    refine lv_icmp_le (tgt := 20) hx hb dX3_post_7 (by decide) (fun c7 => ?_) (fun c7 => ?_)
    · refine lv_iload_n hx hb dX3_post_20 rfl (lv_at hl 2 rfl) ?_
      refine lv_if_ne (tgt := 34) hx hb dX3_post_21 (by decide) (fun c21 => ?_) (fun c21 => ?_)
      · refine lv_iload_n hx hb dX3_post_34 rfl (lv_at hl 3 rfl) ?_
        refine lv_if_lt (tgt := 52) hx hb dX3_post_35 (by decide) (fun c35 => ?_) (fun c35 => ?_)
        · exact wx_throwS (ik := 51) (is := 108) (ic := 55) (own := RX3) (cls := "java/lang/IllegalArgumentException") (text := "the hours are not 0 to 2000, the first one ahead") (names := ["java/lang/RuntimeException", "java/lang/Exception"]) hx hb hst hPW hown (by decide +kernel) (by decide +kernel) (hts (.classLink RX3 51 "java/lang/IllegalArgumentException") (by decide +kernel)) (hts (.initialized "java/lang/IllegalArgumentException") (by decide +kernel)) (by decide +kernel) (fun w hw => hts w (List.mem_cons_of_mem _ (List.mem_append_left _ (List.mem_append_right _ hw)))) (by decide +kernel) (by decide +kernel) hP hS (hl.1.trans hml.symm) dX3_post_52 dX3_post_55 dX3_post_56 dX3_post_58 dX3_post_61 hno (Nat.lt_of_lt_of_le (Nat.lt_succ_self _) (Nat.le_of_ble_eq_true rfl)) (Nat.le_of_ble_eq_true rfl) (Nat.le_of_ble_eq_true rfl) (Nat.le_of_ble_eq_true rfl) hlocks (⟨rfl, (by revert c1 c7 c21 c35; (try simp only [Int32.lt_iff_toInt_lt, Int32.le_iff_toInt_le, ← Int32.toInt_inj, i_0, i_1, i_2, i_3, i_4, i_6, i_9, i_20, i_32, i_40, i_48, i_60, i_200, i_999, i_2000, i_m1]); omega)⟩) (Nat.le_of_ble_eq_true rfl) (Nat.le_of_ble_eq_true rfl)
        · refine lv_iload_n hx hb dX3_post_38 rfl (lv_at hl 3 rfl) ?_
          refine lv_iload hx hb dX3_post_39 (lv_at hl 4 rfl) ?_
          refine lv_icmp_ge (tgt := 52) hx hb dX3_post_41 (by decide) (fun c41 => ?_) (fun c41 => ?_)
          · exact wx_throwS (ik := 51) (is := 108) (ic := 55) (own := RX3) (cls := "java/lang/IllegalArgumentException") (text := "the hours are not 0 to 2000, the first one ahead") (names := ["java/lang/RuntimeException", "java/lang/Exception"]) hx hb hst hPW hown (by decide +kernel) (by decide +kernel) (hts (.classLink RX3 51 "java/lang/IllegalArgumentException") (by decide +kernel)) (hts (.initialized "java/lang/IllegalArgumentException") (by decide +kernel)) (by decide +kernel) (fun w hw => hts w (List.mem_cons_of_mem _ (List.mem_append_left _ (List.mem_append_right _ hw)))) (by decide +kernel) (by decide +kernel) hP hS (hl.1.trans hml.symm) dX3_post_52 dX3_post_55 dX3_post_56 dX3_post_58 dX3_post_61 hno (Nat.lt_of_lt_of_le (Nat.lt_succ_self _) (Nat.le_of_ble_eq_true rfl)) (Nat.le_of_ble_eq_true rfl) (Nat.le_of_ble_eq_true rfl) (Nat.le_of_ble_eq_true rfl) hlocks (⟨rfl, (by revert c1 c7 c21 c35 c41; (try simp only [Int32.lt_iff_toInt_lt, Int32.le_iff_toInt_le, ← Int32.toInt_inj, i_0, i_1, i_2, i_3, i_4, i_6, i_9, i_20, i_32, i_40, i_48, i_60, i_200, i_999, i_2000, i_m1]); omega)⟩) (Nat.le_of_ble_eq_true rfl) (Nat.le_of_ble_eq_true rfl)
          · refine lv_iload hx hb dX3_post_44 (lv_at hl 4 rfl) ?_
            refine lv_sipush (v := 2000) hx hb dX3_post_46 (by decide) ?_
            refine lv_icmp_le (tgt := 62) hx hb dX3_post_49 (by decide) (fun c49 => ?_) (fun c49 => ?_)
            · refine lv_aload_n hx hb dX3_post_62 rfl (lv_at hl 0 rfl) ?_
              refine lv_iload_n hx hb dX3_post_63 rfl (lv_at hl 1 rfl) ?_
              refine lv_iload_n hx hb dX3_post_64 rfl (lv_at hl 2 rfl) ?_
              refine lv_iload_n hx hb dX3_post_65 rfl (lv_at hl 3 rfl) ?_
              refine lv_iload hx hb dX3_post_66 (lv_at hl 4 rfl) ?_
              refine wx_callr (G := fun _ => 26 + 2 * 0) (va_runV (As := [.int p0, .int p1, .int p2, .int p3]) (rest := []) ⟨hx, hb, hml, hown, hts⟩ (kp_take l hst g base n L (by omega) x r0 hx0 hx1 hx2 hx3 p0 p1 p2 p3) (cwV 4 hts gX3_post_X3_take rfl rfl rfl (by decide +kernel) ⟨Nat.le_of_ble_eq_true rfl, Nat.le_of_ble_eq_true rfl⟩) (hPW.preV hP hS (ci := 5) rfl (by omega) cw_d) rfl rfl hl.1 rfl (lv_room (Nat.le_of_ble_eq_true rfl)) dX3_post_68 ⟨Nat.le_of_ble_eq_true rfl, Nat.le_of_ble_eq_true rfl⟩) hS (fun u68 H locs h68 hP hS => ?_)
              refine wx_getN (D := g.1) (cl := vwCl) (ci := 3) (v := .int (nI 0)) (C := RX1) (T := TX1) (N := 9) hx hb hts iX1 hown hK hP (26 + 2 * 0) (by omega) (cw_n (by omega)) rfl 0 (by decide) (hE.1 _ (ng_in (w := (Cond.fieldLinkNest "FerroDesk" 94 "FerroDesk$Notice" "number" "I" "FerroDesk")) (by decide +kernel))) (fun _ h9 => h9) rfl dX3_post_71 ?_
              refine W.widen (k := 3) (n := 18) (Nat.le_of_ble_eq_true rfl) (Nat.le_of_ble_eq_true rfl) ?_
              exact vx_ret (W.iret (v := nI 0) hx hb hr (fun t ht hW => ⟨⟨nI 0, u68, rfl, ⟨(by revert c1 c7 c21 c35 c41 c49; (try simp only [Int32.lt_iff_toInt_lt, Int32.le_iff_toInt_le, ← Int32.toInt_inj, i_0, i_1, i_2, i_3, i_4, i_6, i_9, i_20, i_32, i_40, i_48, i_60, i_200, i_999, i_2000, i_m1]); omega), nI_0⟩, PB.mk9 hP ht⟩, hS.F ht⟩) hS.2.2 dX3_post_74)
            · exact wx_throwS (ik := 51) (is := 108) (ic := 55) (own := RX3) (cls := "java/lang/IllegalArgumentException") (text := "the hours are not 0 to 2000, the first one ahead") (names := ["java/lang/RuntimeException", "java/lang/Exception"]) hx hb hst hPW hown (by decide +kernel) (by decide +kernel) (hts (.classLink RX3 51 "java/lang/IllegalArgumentException") (by decide +kernel)) (hts (.initialized "java/lang/IllegalArgumentException") (by decide +kernel)) (by decide +kernel) (fun w hw => hts w (List.mem_cons_of_mem _ (List.mem_append_left _ (List.mem_append_right _ hw)))) (by decide +kernel) (by decide +kernel) hP hS (hl.1.trans hml.symm) dX3_post_52 dX3_post_55 dX3_post_56 dX3_post_58 dX3_post_61 hno (Nat.lt_of_lt_of_le (Nat.lt_succ_self _) (Nat.le_of_ble_eq_true rfl)) (Nat.le_of_ble_eq_true rfl) (Nat.le_of_ble_eq_true rfl) (Nat.le_of_ble_eq_true rfl) hlocks (⟨rfl, (by revert c1 c7 c21 c35 c41 c49; (try simp only [Int32.lt_iff_toInt_lt, Int32.le_iff_toInt_le, ← Int32.toInt_inj, i_0, i_1, i_2, i_3, i_4, i_6, i_9, i_20, i_32, i_40, i_48, i_60, i_200, i_999, i_2000, i_m1]); omega)⟩) (Nat.le_of_ble_eq_true rfl) (Nat.le_of_ble_eq_true rfl)
      · exact wx_throwS (ik := 51) (is := 106) (ic := 55) (own := RX3) (cls := "java/lang/IllegalArgumentException") (text := "the picture is 0") (names := ["java/lang/RuntimeException", "java/lang/Exception"]) hx hb hst hPW hown (by decide +kernel) (by decide +kernel) (hts (.classLink RX3 51 "java/lang/IllegalArgumentException") (by decide +kernel)) (hts (.initialized "java/lang/IllegalArgumentException") (by decide +kernel)) (by decide +kernel) (fun w hw => hts w (List.mem_cons_of_mem _ (List.mem_append_left _ (List.mem_append_right _ hw)))) (by decide +kernel) (by decide +kernel) hP hS (hl.1.trans hml.symm) dX3_post_24 dX3_post_27 dX3_post_28 dX3_post_30 dX3_post_33 hno (Nat.lt_of_lt_of_le (Nat.lt_succ_self _) (Nat.le_of_ble_eq_true rfl)) (Nat.le_of_ble_eq_true rfl) (Nat.le_of_ble_eq_true rfl) (Nat.le_of_ble_eq_true rfl) hlocks (⟨rfl, (by revert c1 c7 c21; (try simp only [Int32.lt_iff_toInt_lt, Int32.le_iff_toInt_le, ← Int32.toInt_inj, i_0, i_1, i_2, i_3, i_4, i_6, i_9, i_20, i_32, i_40, i_48, i_60, i_200, i_999, i_2000, i_m1]); omega)⟩) (Nat.le_of_ble_eq_true rfl) (Nat.le_of_ble_eq_true rfl)
    · exact wx_throwS (ik := 51) (is := 104) (ic := 55) (own := RX3) (cls := "java/lang/IllegalArgumentException") (text := "the rank is not 0 to 9") (names := ["java/lang/RuntimeException", "java/lang/Exception"]) hx hb hst hPW hown (by decide +kernel) (by decide +kernel) (hts (.classLink RX3 51 "java/lang/IllegalArgumentException") (by decide +kernel)) (hts (.initialized "java/lang/IllegalArgumentException") (by decide +kernel)) (by decide +kernel) (fun w hw => hts w (List.mem_cons_of_mem _ (List.mem_append_left _ (List.mem_append_right _ hw)))) (by decide +kernel) (by decide +kernel) hP hS (hl.1.trans hml.symm) dX3_post_10 dX3_post_13 dX3_post_14 dX3_post_16 dX3_post_19 hno (Nat.lt_of_lt_of_le (Nat.lt_succ_self _) (Nat.le_of_ble_eq_true rfl)) (Nat.le_of_ble_eq_true rfl) (Nat.le_of_ble_eq_true rfl) (Nat.le_of_ble_eq_true rfl) hlocks (⟨rfl, (by revert c1 c7; (try simp only [Int32.lt_iff_toInt_lt, Int32.le_iff_toInt_le, ← Int32.toInt_inj, i_0, i_1, i_2, i_3, i_4, i_6, i_9, i_20, i_32, i_40, i_48, i_60, i_200, i_999, i_2000, i_m1]); omega)⟩) (Nat.le_of_ble_eq_true rfl) (Nat.le_of_ble_eq_true rfl)

set_option maxHeartbeats 4000000 in
set_option maxRecDepth 100000 in
theorem kp_deny (l : Launch) (hst : l.stackTraces = false) (g : gE) (base n : Nat) (L : Nat → Nat) (hn : 106 ≤ n) (x : St) (r0 : Nat → va_E) (hx0 : x 0 0 0 = nI 0) (hx1 : x 1 0 0 = nI 0) (hx2 : x 2 0 0 = 2) (hx3 : x 3 0 0 = nI 0) (p0 p1 p2 : Int32) : vx_Met l yX3_deny wsX3_deny ({ frames := 8, cells := 3, slots := 18, locals := 180 }) (va_Pc [.ref (L 0), .int p0, .int p1, .int p2] (PW SS g base n L (cw g L x r0))) (va_Qi (fun (r : Int32) (_ : St) => ¬ (p1.toInt < 0 ∨ 3 < p1.toInt ∨ p0.toInt = 0 ∨ p0.toInt = -1 ∨ p2.toInt ≤ 0 ∨ 2000 < p2.toInt) ∧ r = 0) (fun (u : St) t => PB g n L (cw g L u r0) t) (fun q => base ≤ q)) (QX g base n L (cw g L x r0) (fun E => E = "java/lang/IllegalArgumentException" ∧ (p1.toInt < 0 ∨ 3 < p1.toInt ∨ p0.toInt = 0 ∨ p0.toInt = -1 ∨ p2.toInt ≤ 0 ∨ 2000 < p2.toInt))) 3 18 (fun q => base ≤ q) := by
  refine vx_ofW (cc := cX3_deny) (maxL := 5) (ret := (some .int)) (by decide) rfl ?_
  intro p e s m args below meth c s₁ B hml hno hv
  obtain ⟨rfl, hPW⟩ := hv
  obtain ⟨hbs, hJ, hP, hK, hE⟩ := id hPW
  have hx := B.exec
  have hb := B.bytes
  have hr := B.returns
  have hts := atoms_spec (ws := wsX3_deny) B.pre
  have hown : s.vm.findClass RX3 = some m.cls := findClass_of_methodNamed B.named
  have hlocks := B.notSynchronized
  have hS : va_S (fun q : Nat => base ≤ q) s.heap s.heap [] := va_S.rf
  have hl := lv_entry ([.ref (L 0), .int p0, .int p1, .int p2]) (n := 5) (Nat.le_of_ble_eq_true rfl)
  rw [lg_entry_eq]
  generalize (lg_sl ([.ref (L 0), .int p0, .int p1, .int p2]) ++ List.replicate (5 - (lg_sl ([.ref (L 0), .int p0, .int p1, .int p2])).length) Slot.unset).toArray = ls at hl ⊢
  have hl : lv_has ls 5 [(0, .ref (L 0)), (1, .int p0), (2, .int p1), (3, .int p2)] := hl
  have iX1 : ∀ w ∈ wsX10, w ∈ wsX3_deny := by decide +kernel
  have iX3 : ∀ w ∈ wsX30, w ∈ wsX3_deny := by decide +kernel
  have hx3i : (x 3 0 0).toInt = 0 := by rw [hx3]; decide
  refine lv_iload_n hx hb dX3_deny_0 rfl (lv_at hl 2 rfl) ?_
  refine wx_xcallv (vx_runS (As := [.int p1]) (rest := []) ⟨hx, hb, hml, hown, hts⟩ (k_checkDistrict l hst g base n L (cw g L x r0) p1) (va_cwS 1 hts gX3_deny_X3_checkDistrict rfl rfl rfl (by decide +kernel) ⟨Nat.le_of_ble_eq_true rfl, Nat.le_of_ble_eq_true rfl⟩) (hPW.preS hP hS) rfl rfl hl.1 rfl (lv_room (Nat.le_of_ble_eq_true rfl)) dX3_deny_1 ⟨Nat.le_of_ble_eq_true rfl, Nat.le_of_ble_eq_true rfl⟩) hS (fun E ce q9 H locs hpx hP hS h1 h2 h3 => ?_) (fun u1 H locs h1 hP hS => ?_)
  · exact wx_out hno hlocks h1 h2 h3 (⟨hpx.1, (by have h9 := hpx.2; omega)⟩) hP hS (Nat.le_of_ble_eq_true rfl) (Nat.le_of_ble_eq_true rfl)
  refine lv_iload_n hx hb dX3_deny_4 rfl (lv_at hl 1 rfl) ?_
  refine lv_if_eq (tgt := 13) hx hb dX3_deny_5 (by decide) (fun c5 => ?_) (fun c5 => ?_)
  · exact wx_throwS (ik := 51) (is := 176) (ic := 55) (own := RX3) (cls := "java/lang/IllegalArgumentException") (text := "the rumour is 0 or all cells") (names := ["java/lang/RuntimeException", "java/lang/Exception"]) hx hb hst hPW hown (by decide +kernel) (by decide +kernel) (hts (.classLink RX3 51 "java/lang/IllegalArgumentException") (by decide +kernel)) (hts (.initialized "java/lang/IllegalArgumentException") (by decide +kernel)) (by decide +kernel) (fun w hw => hts w (List.mem_cons_of_mem _ (List.mem_append_left _ (List.mem_append_right _ hw)))) (by decide +kernel) (by decide +kernel) hP hS (hl.1.trans hml.symm) dX3_deny_13 dX3_deny_16 dX3_deny_17 dX3_deny_19 dX3_deny_22 hno (Nat.lt_of_lt_of_le (Nat.lt_succ_self _) (Nat.le_of_ble_eq_true rfl)) (Nat.le_of_ble_eq_true rfl) (Nat.le_of_ble_eq_true rfl) (Nat.le_of_ble_eq_true rfl) hlocks (⟨rfl, (by revert h1 c5; (try simp only [Int32.lt_iff_toInt_lt, Int32.le_iff_toInt_le, ← Int32.toInt_inj, i_0, i_1, i_2, i_3, i_4, i_6, i_9, i_20, i_32, i_40, i_48, i_60, i_200, i_999, i_2000, i_m1]); omega)⟩) (Nat.le_of_ble_eq_true rfl) (Nat.le_of_ble_eq_true rfl)
  · refine lv_iload_n hx hb dX3_deny_8 rfl (lv_at hl 1 rfl) ?_
    refine lv_iconst (v := (-1)) hx hb dX3_deny_9 (by decide) ?_
    refine lv_icmp_ne (tgt := 23) hx hb dX3_deny_10 (by decide) (fun c10 => ?_) (fun c10 => ?_)
    · refine lv_iload_n hx hb dX3_deny_23 rfl (lv_at hl 3 rfl) ?_
      refine lv_aload_n hx hb dX3_deny_24 rfl (lv_at hl 0 rfl) ?_
      refine wx_get (D := g.1) (cl := vwCl) (ci := 5) (v := .int (x 3 0 0)) (C := RX3) (T := TX3) (N := 8) hx hb hts iX3 hown hK hP (0) (by omega) cw_d rfl 7 (by decide) (hts (.fieldLink RX3 41 "FerroDesk" "hour" "I") (by decide +kernel)) (fun _ h9 => h9) rfl dX3_deny_25 ?_
      refine lv_icmp_le (tgt := 38) hx hb dX3_deny_28 (by decide) (fun c28 => ?_) (fun c28 => ?_)
      · exact wx_throwS (ik := 51) (is := 178) (ic := 55) (own := RX3) (cls := "java/lang/IllegalArgumentException") (text := "the hour is not later than now, or later than 2000") (names := ["java/lang/RuntimeException", "java/lang/Exception"]) hx hb hst hPW hown (by decide +kernel) (by decide +kernel) (hts (.classLink RX3 51 "java/lang/IllegalArgumentException") (by decide +kernel)) (hts (.initialized "java/lang/IllegalArgumentException") (by decide +kernel)) (by decide +kernel) (fun w hw => hts w (List.mem_cons_of_mem _ (List.mem_append_left _ (List.mem_append_right _ hw)))) (by decide +kernel) (by decide +kernel) hP hS (hl.1.trans hml.symm) dX3_deny_38 dX3_deny_41 dX3_deny_42 dX3_deny_44 dX3_deny_47 hno (Nat.lt_of_lt_of_le (Nat.lt_succ_self _) (Nat.le_of_ble_eq_true rfl)) (Nat.le_of_ble_eq_true rfl) (Nat.le_of_ble_eq_true rfl) (Nat.le_of_ble_eq_true rfl) hlocks (⟨rfl, (by revert h1 c5 c10 c28; (try simp only [Int32.lt_iff_toInt_lt, Int32.le_iff_toInt_le, ← Int32.toInt_inj, i_0, i_1, i_2, i_3, i_4, i_6, i_9, i_20, i_32, i_40, i_48, i_60, i_200, i_999, i_2000, i_m1]); omega)⟩) (Nat.le_of_ble_eq_true rfl) (Nat.le_of_ble_eq_true rfl)
      · refine lv_iload_n hx hb dX3_deny_31 rfl (lv_at hl 3 rfl) ?_
        refine lv_sipush (v := 2000) hx hb dX3_deny_32 (by decide) ?_
        refine lv_icmp_le (tgt := 48) hx hb dX3_deny_35 (by decide) (fun c35 => ?_) (fun c35 => ?_)
        · refine lv_aload_n hx hb dX3_deny_48 rfl (lv_at hl 0 rfl) ?_
          refine lv_bipush (v := 10) hx hb dX3_deny_49 (by decide) ?_
          refine lv_iload_n hx hb dX3_deny_51 rfl (lv_at hl 1 rfl) ?_
          refine lv_iconst (v := (-1)) hx hb dX3_deny_52 (by decide) ?_
          refine lv_ixor hx hb dX3_deny_53 ?_
          refine lv_aload_n hx hb dX3_deny_54 rfl (lv_at hl 0 rfl) ?_
          refine wx_get (D := g.1) (cl := vwCl) (ci := 5) (v := .int (x 3 0 0)) (C := RX3) (T := TX3) (N := 8) hx hb hts iX3 hown hK hP (0) (by omega) cw_d rfl 7 (by decide) (hts (.fieldLink RX3 41 "FerroDesk" "hour" "I") (by decide +kernel)) (fun _ h9 => h9) rfl dX3_deny_55 ?_
          refine lv_iload_n hx hb dX3_deny_58 rfl (lv_at hl 3 rfl) ?_
          refine wx_callr (G := fun _ => 26 + 2 * 0) (va_runV (As := [.int 10, .int (p0 ^^^ (-1)), .int (x 3 0 0), .int p2]) (rest := []) ⟨hx, hb, hml, hown, hts⟩ (kp_take l hst g base n L (by omega) x r0 hx0 hx1 hx2 hx3 10 (p0 ^^^ (-1)) (x 3 0 0) p2) (cwV 4 hts gX3_deny_X3_take rfl rfl rfl (by decide +kernel) ⟨Nat.le_of_ble_eq_true rfl, Nat.le_of_ble_eq_true rfl⟩) (hPW.preV hP hS (ci := 5) rfl (by omega) cw_d) rfl rfl hl.1 rfl (lv_room (Nat.le_of_ble_eq_true rfl)) dX3_deny_59 ⟨Nat.le_of_ble_eq_true rfl, Nat.le_of_ble_eq_true rfl⟩) hS (fun u59 H locs h59 hP hS => ?_)
          refine lv_astore (lv' := [(4, .ref (L (26 + 2 * 0))), (0, .ref (L 0)), (1, .int p0), (2, .int p1), (3, .int p2)]) hx hb dX3_deny_62 hl (by decide) rfl (fun ls hl => ?_)
          refine lv_aload hx hb dX3_deny_64 (lv_at hl 0 rfl) ?_
          refine lv_iload_n hx hb dX3_deny_66 rfl (lv_at hl 3 rfl) ?_
          refine wx_callv (va_runV (As := [.int p1]) (rest := []) ⟨hx, hb, hml, hown, hts⟩ (k_putInto l hst g base n L (by omega) u59 r0 0 (by omega) p1) (cwV 1 hts gX3_deny_X1_putInto rfl rfl rfl (by decide +kernel) ⟨Nat.le_of_ble_eq_true rfl, Nat.le_of_ble_eq_true rfl⟩) (hPW.preV hP hS (ci := 3) rfl (by omega) (cw_n (by omega))) rfl rfl hl.1 rfl (lv_room (Nat.le_of_ble_eq_true rfl)) dX3_deny_67 ⟨Nat.le_of_ble_eq_true rfl, Nat.le_of_ble_eq_true rfl⟩) hS (fun u67 H locs h67 hP hS => ?_)
          refine lv_aload hx hb dX3_deny_70 (lv_at hl 0 rfl) ?_
          refine wx_getN (D := g.1) (cl := vwCl) (ci := 3) (v := .int (nI 0)) (C := RX1) (T := TX1) (N := 9) hx hb hts iX1 hown hK hP (26 + 2 * 0) (by omega) (cw_n (by omega)) rfl 0 (by decide) (hE.1 _ (ng_in (w := (Cond.fieldLinkNest "FerroDesk" 94 "FerroDesk$Notice" "number" "I" "FerroDesk")) (by decide +kernel))) (fun _ h9 => h9) rfl dX3_deny_72 ?_
          refine W.widen (k := 3) (n := 18) (Nat.le_of_ble_eq_true rfl) (Nat.le_of_ble_eq_true rfl) ?_
          exact vx_ret (W.iret (v := nI 0) hx hb hr (fun t ht hW => ⟨⟨nI 0, u67, rfl, ⟨(by revert h1 c5 c10 c28 c35; (try simp only [Int32.lt_iff_toInt_lt, Int32.le_iff_toInt_le, ← Int32.toInt_inj, i_0, i_1, i_2, i_3, i_4, i_6, i_9, i_20, i_32, i_40, i_48, i_60, i_200, i_999, i_2000, i_m1]); omega), nI_0⟩, PB.mk9 hP ht⟩, hS.F ht⟩) hS.2.2 dX3_deny_75)
        · exact wx_throwS (ik := 51) (is := 178) (ic := 55) (own := RX3) (cls := "java/lang/IllegalArgumentException") (text := "the hour is not later than now, or later than 2000") (names := ["java/lang/RuntimeException", "java/lang/Exception"]) hx hb hst hPW hown (by decide +kernel) (by decide +kernel) (hts (.classLink RX3 51 "java/lang/IllegalArgumentException") (by decide +kernel)) (hts (.initialized "java/lang/IllegalArgumentException") (by decide +kernel)) (by decide +kernel) (fun w hw => hts w (List.mem_cons_of_mem _ (List.mem_append_left _ (List.mem_append_right _ hw)))) (by decide +kernel) (by decide +kernel) hP hS (hl.1.trans hml.symm) dX3_deny_38 dX3_deny_41 dX3_deny_42 dX3_deny_44 dX3_deny_47 hno (Nat.lt_of_lt_of_le (Nat.lt_succ_self _) (Nat.le_of_ble_eq_true rfl)) (Nat.le_of_ble_eq_true rfl) (Nat.le_of_ble_eq_true rfl) (Nat.le_of_ble_eq_true rfl) hlocks (⟨rfl, (by revert h1 c5 c10 c28 c35; (try simp only [Int32.lt_iff_toInt_lt, Int32.le_iff_toInt_le, ← Int32.toInt_inj, i_0, i_1, i_2, i_3, i_4, i_6, i_9, i_20, i_32, i_40, i_48, i_60, i_200, i_999, i_2000, i_m1]); omega)⟩) (Nat.le_of_ble_eq_true rfl) (Nat.le_of_ble_eq_true rfl)
    · exact wx_throwS (ik := 51) (is := 176) (ic := 55) (own := RX3) (cls := "java/lang/IllegalArgumentException") (text := "the rumour is 0 or all cells") (names := ["java/lang/RuntimeException", "java/lang/Exception"]) hx hb hst hPW hown (by decide +kernel) (by decide +kernel) (hts (.classLink RX3 51 "java/lang/IllegalArgumentException") (by decide +kernel)) (hts (.initialized "java/lang/IllegalArgumentException") (by decide +kernel)) (by decide +kernel) (fun w hw => hts w (List.mem_cons_of_mem _ (List.mem_append_left _ (List.mem_append_right _ hw)))) (by decide +kernel) (by decide +kernel) hP hS (hl.1.trans hml.symm) dX3_deny_13 dX3_deny_16 dX3_deny_17 dX3_deny_19 dX3_deny_22 hno (Nat.lt_of_lt_of_le (Nat.lt_succ_self _) (Nat.le_of_ble_eq_true rfl)) (Nat.le_of_ble_eq_true rfl) (Nat.le_of_ble_eq_true rfl) (Nat.le_of_ble_eq_true rfl) hlocks (⟨rfl, (by revert h1 c5 c10; (try simp only [Int32.lt_iff_toInt_lt, Int32.le_iff_toInt_le, ← Int32.toInt_inj, i_0, i_1, i_2, i_3, i_4, i_6, i_9, i_20, i_32, i_40, i_48, i_60, i_200, i_999, i_2000, i_m1]); omega)⟩) (Nat.le_of_ble_eq_true rfl) (Nat.le_of_ble_eq_true rfl)

set_option maxHeartbeats 4000000 in
set_option maxRecDepth 100000 in
theorem kp_queued (l : Launch) (hst : l.stackTraces = false) (g : gE) (base n : Nat) (L : Nat → Nat) (hn : 106 ≤ n) (x : St) (r0 : Nat → va_E) (hx0 : x 0 0 0 = nI 0) (hx1 : x 1 0 0 = nI 0) (hx2 : x 2 0 0 = 2) (hx3 : x 3 0 0 = nI 0) (p0 : Int32) : vx_Met l yX3_queued wsX3_queued ({ frames := 8, cells := 3, slots := 18, locals := 180 }) (va_Pc [.ref (L 0), .int p0] (PW SS g base n L (cw g L x r0))) (va_Qi (fun (r : Int32) (_ : St) => ¬ (p0.toInt < 0 ∨ 3 < p0.toInt) ∧ r = 0) (fun (u : St) t => PB g n L (cw g L u r0) t) (fun q => base ≤ q)) (QX g base n L (cw g L x r0) (fun E => E = "java/lang/IllegalArgumentException" ∧ (p0.toInt < 0 ∨ 3 < p0.toInt))) 3 18 (fun q => base ≤ q) := by
  refine vx_ofW (cc := cX3_queued) (maxL := 4) (ret := (some .int)) (by decide) rfl ?_
  intro p e s m args below meth c s₁ B hml hno hv
  obtain ⟨rfl, hPW⟩ := hv
  obtain ⟨hbs, hJ, hP, hK, hE⟩ := id hPW
  have hx := B.exec
  have hb := B.bytes
  have hr := B.returns
  have hts := atoms_spec (ws := wsX3_queued) B.pre
  have hown : s.vm.findClass RX3 = some m.cls := findClass_of_methodNamed B.named
  have hlocks := B.notSynchronized
  have hS : va_S (fun q : Nat => base ≤ q) s.heap s.heap [] := va_S.rf
  have hl := lv_entry ([.ref (L 0), .int p0]) (n := 4) (Nat.le_of_ble_eq_true rfl)
  rw [lg_entry_eq]
  generalize (lg_sl ([.ref (L 0), .int p0]) ++ List.replicate (4 - (lg_sl ([.ref (L 0), .int p0])).length) Slot.unset).toArray = ls at hl ⊢
  have hl : lv_has ls 4 [(0, .ref (L 0)), (1, .int p0)] := hl
  have iX3 : ∀ w ∈ wsX30, w ∈ wsX3_queued := by decide +kernel
  have hx3i : (x 3 0 0).toInt = 0 := by rw [hx3]; decide
  refine lv_iload_n hx hb dX3_queued_0 rfl (lv_at hl 1 rfl) ?_
  refine wx_xcallv (vx_runS (As := [.int p0]) (rest := []) ⟨hx, hb, hml, hown, hts⟩ (k_checkDistrict l hst g base n L (cw g L x r0) p0) (va_cwS 1 hts gX3_queued_X3_checkDistrict rfl rfl rfl (by decide +kernel) ⟨Nat.le_of_ble_eq_true rfl, Nat.le_of_ble_eq_true rfl⟩) (hPW.preS hP hS) rfl rfl hl.1 rfl (lv_room (Nat.le_of_ble_eq_true rfl)) dX3_queued_1 ⟨Nat.le_of_ble_eq_true rfl, Nat.le_of_ble_eq_true rfl⟩) hS (fun E ce q9 H locs hpx hP hS h1 h2 h3 => ?_) (fun u1 H locs h1 hP hS => ?_)
  · exact wx_out hno hlocks h1 h2 h3 (⟨hpx.1, (by have h9 := hpx.2; omega)⟩) hP hS (Nat.le_of_ble_eq_true rfl) (Nat.le_of_ble_eq_true rfl)
  refine lv_iconst (v := 0) hx hb dX3_queued_4 (by decide) ?_
  refine lv_istore_n (lv' := [(2, .int 0), (0, .ref (L 0)), (1, .int p0)]) hx hb dX3_queued_5 rfl hl (by decide) rfl (fun ls hl => ?_)
  refine lv_iconst (v := 0) hx hb dX3_queued_6 (by decide) ?_
  refine lv_istore_n (lv' := [(3, .int 0), (2, .int 0), (0, .ref (L 0)), (1, .int p0)]) hx hb dX3_queued_7 rfl hl (by decide) rfl (fun ls hl => ?_)
  refine lv_iload_n hx hb dX3_queued_8 rfl (lv_at hl 0 rfl) ?_
  refine lv_aload_n hx hb dX3_queued_9 rfl (lv_at hl 2 rfl) ?_
  refine wx_get (D := g.1) (cl := vwCl) (ci := 5) (v := .int (x 1 0 0)) (C := RX3) (T := TX3) (N := 8) hx hb hts iX3 hown hK hP (0) (by omega) cw_d rfl 4 (by decide) (hts (.fieldLink RX3 28 "FerroDesk" "noticeCount" "I") (by decide +kernel)) (fun _ h9 => h9) rfl dX3_queued_10 ?_
  refine lv_icmp_ge (tgt := 42) hx hb dX3_queued_13 (by decide) (fun c13 => ?_) (fun c13 => absurd (by rw [hx1]; decide) c13)
  refine lv_iload_n hx hb dX3_queued_42 rfl (lv_at hl 1 rfl) ?_
  refine W.widen (k := 3) (n := 18) (Nat.le_of_ble_eq_true rfl) (Nat.le_of_ble_eq_true rfl) ?_
  exact vx_ret (W.iret (v := 0) hx hb hr (fun t ht hW => ⟨⟨0, x, rfl, ⟨(by revert h1; (try simp only [Int32.lt_iff_toInt_lt, Int32.le_iff_toInt_le, ← Int32.toInt_inj, i_0, i_1, i_2, i_3, i_4, i_6, i_9, i_20, i_32, i_40, i_48, i_60, i_200, i_999, i_2000, i_m1]); omega), rfl⟩, PB.mk9 hP ht⟩, hS.F ht⟩) hS.2.2 dX3_queued_43)

set_option maxHeartbeats 4000000 in
set_option maxRecDepth 100000 in
theorem kp_queuedAt (l : Launch) (hst : l.stackTraces = false) (g : gE) (base n : Nat) (L : Nat → Nat) (hn : 106 ≤ n) (x : St) (r0 : Nat → va_E) (hx0 : x 0 0 0 = nI 0) (hx1 : x 1 0 0 = nI 0) (hx2 : x 2 0 0 = 2) (hx3 : x 3 0 0 = nI 0) (p0 p1 : Int32) : vx_Met l yX3_queuedAt wsX3_queuedAt ({ frames := 8, cells := 3, slots := 18, locals := 180 }) (va_Pc [.ref (L 0), .int p0, .int p1] (PW SS g base n L (cw g L x r0))) (va_Qi (fun (r : Int32) (_ : St) => False) (fun (u : St) t => PB g n L (cw g L u r0) t) (fun q => base ≤ q)) (QX g base n L (cw g L x r0) (fun E => (E = "java/lang/IllegalArgumentException" ∧ (p0.toInt < 0 ∨ 3 < p0.toInt)) ∨ (E = "java/lang/IndexOutOfBoundsException" ∧ ¬ (p0.toInt < 0 ∨ 3 < p0.toInt)))) 3 18 (fun q => base ≤ q) := by
  refine vx_ofW (cc := cX3_queuedAt) (maxL := 6) (ret := (some .int)) (by decide) rfl ?_
  intro p e s m args below meth c s₁ B hml hno hv
  obtain ⟨rfl, hPW⟩ := hv
  obtain ⟨hbs, hJ, hP, hK, hE⟩ := id hPW
  have hx := B.exec
  have hb := B.bytes
  have hr := B.returns
  have hts := atoms_spec (ws := wsX3_queuedAt) B.pre
  have hown : s.vm.findClass RX3 = some m.cls := findClass_of_methodNamed B.named
  have hlocks := B.notSynchronized
  have hS : va_S (fun q : Nat => base ≤ q) s.heap s.heap [] := va_S.rf
  have hl := lv_entry ([.ref (L 0), .int p0, .int p1]) (n := 6) (Nat.le_of_ble_eq_true rfl)
  rw [lg_entry_eq]
  generalize (lg_sl ([.ref (L 0), .int p0, .int p1]) ++ List.replicate (6 - (lg_sl ([.ref (L 0), .int p0, .int p1])).length) Slot.unset).toArray = ls at hl ⊢
  have hl : lv_has ls 6 [(0, .ref (L 0)), (1, .int p0), (2, .int p1)] := hl
  have iX3 : ∀ w ∈ wsX30, w ∈ wsX3_queuedAt := by decide +kernel
  have hx3i : (x 3 0 0).toInt = 0 := by rw [hx3]; decide
  refine lv_iload_n hx hb dX3_queuedAt_0 rfl (lv_at hl 1 rfl) ?_
  refine wx_xcallv (vx_runS (As := [.int p0]) (rest := []) ⟨hx, hb, hml, hown, hts⟩ (k_checkDistrict l hst g base n L (cw g L x r0) p0) (va_cwS 1 hts gX3_queuedAt_X3_checkDistrict rfl rfl rfl (by decide +kernel) ⟨Nat.le_of_ble_eq_true rfl, Nat.le_of_ble_eq_true rfl⟩) (hPW.preS hP hS) rfl rfl hl.1 rfl (lv_room (Nat.le_of_ble_eq_true rfl)) dX3_queuedAt_1 ⟨Nat.le_of_ble_eq_true rfl, Nat.le_of_ble_eq_true rfl⟩) hS (fun E ce q9 H locs hpx hP hS h1 h2 h3 => ?_) (fun u1 H locs h1 hP hS => ?_)
  · exact wx_out hno hlocks h1 h2 h3 (Or.inl ⟨hpx.1, (by have h9 := hpx.2; omega)⟩) hP hS (Nat.le_of_ble_eq_true rfl) (Nat.le_of_ble_eq_true rfl)
  refine lv_iconst (v := 0) hx hb dX3_queuedAt_4 (by decide) ?_
  refine lv_istore_n (lv' := [(3, .int 0), (0, .ref (L 0)), (1, .int p0), (2, .int p1)]) hx hb dX3_queuedAt_5 rfl hl (by decide) rfl (fun ls hl => ?_)
  refine lv_iconst (v := 0) hx hb dX3_queuedAt_6 (by decide) ?_
  refine lv_istore (lv' := [(4, .int 0), (3, .int 0), (0, .ref (L 0)), (1, .int p0), (2, .int p1)]) hx hb dX3_queuedAt_7 hl (by decide) rfl (fun ls hl => ?_)
  refine lv_iload hx hb dX3_queuedAt_9 (lv_at hl 0 rfl) ?_
  refine lv_aload_n hx hb dX3_queuedAt_11 rfl (lv_at hl 2 rfl) ?_
  refine wx_get (D := g.1) (cl := vwCl) (ci := 5) (v := .int (x 1 0 0)) (C := RX3) (T := TX3) (N := 8) hx hb hts iX3 hown hK hP (0) (by omega) cw_d rfl 4 (by decide) (hts (.fieldLink RX3 28 "FerroDesk" "noticeCount" "I") (by decide +kernel)) (fun _ h9 => h9) rfl dX3_queuedAt_12 ?_
  refine lv_icmp_ge (tgt := 60) hx hb dX3_queuedAt_15 (by decide) (fun c15 => ?_) (fun c15 => absurd (by rw [hx1]; decide) c15)
  exact wx_throwS (ik := 180) (is := 182) (ic := 184) (own := RX3) (cls := "java/lang/IndexOutOfBoundsException") (text := "there is no such notice in the queue") (names := ["java/lang/RuntimeException", "java/lang/Exception"]) hx hb hst hPW hown (by decide +kernel) (by decide +kernel) (hts (.classLink RX3 180 "java/lang/IndexOutOfBoundsException") (by decide +kernel)) (hts (.initialized "java/lang/IndexOutOfBoundsException") (by decide +kernel)) (by decide +kernel) (fun w hw => hts w (List.mem_cons_of_mem _ (List.mem_append_left _ (List.mem_append_right _ hw)))) (by decide +kernel) (by decide +kernel) hP hS (hl.1.trans hml.symm) dX3_queuedAt_60 dX3_queuedAt_63 dX3_queuedAt_64 dX3_queuedAt_66 dX3_queuedAt_69 hno (Nat.lt_of_lt_of_le (Nat.lt_succ_self _) (Nat.le_of_ble_eq_true rfl)) (Nat.le_of_ble_eq_true rfl) (Nat.le_of_ble_eq_true rfl) (Nat.le_of_ble_eq_true rfl) hlocks (Or.inr ⟨rfl, (by revert h1; (try simp only [Int32.lt_iff_toInt_lt, Int32.le_iff_toInt_le, ← Int32.toInt_inj, i_0, i_1, i_2, i_3, i_4, i_6, i_9, i_20, i_32, i_40, i_48, i_60, i_200, i_999, i_2000, i_m1]); omega)⟩) (Nat.le_of_ble_eq_true rfl) (Nat.le_of_ble_eq_true rfl)

set_option maxHeartbeats 4000000 in
set_option maxRecDepth 100000 in
theorem kp_suspects (l : Launch) (hst : l.stackTraces = false) (g : gE) (base n : Nat) (L : Nat → Nat) (hn : 106 ≤ n) (x : St) (r0 : Nat → va_E) (hx0 : x 0 0 0 = nI 0) (hx1 : x 1 0 0 = nI 0) (hx2 : x 2 0 0 = 2) (hx3 : x 3 0 0 = nI 0) (p0 p1 : Int32) : vx_Met l yX3_suspects wsX3_suspects ({ frames := 8, cells := 3, slots := 18, locals := 180 }) (va_Pc [.ref (L 0), .int p0, .int p1] (PW SS g base n L (cw g L x r0))) (va_Qi (fun (r : Int32) (_ : St) => ¬ (p1.toInt < 0 ∨ 3 < p1.toInt ∨ p0.toInt = 0) ∧ r = 0) (fun (u : St) t => PB g n L (cw g L u r0) t) (fun q => base ≤ q)) (QX g base n L (cw g L x r0) (fun E => E = "java/lang/IllegalArgumentException" ∧ (p1.toInt < 0 ∨ 3 < p1.toInt ∨ p0.toInt = 0))) 3 18 (fun q => base ≤ q) := by
  refine vx_ofW (cc := cX3_suspects) (maxL := 5) (ret := (some .int)) (by decide) rfl ?_
  intro p e s m args below meth c s₁ B hml hno hv
  obtain ⟨rfl, hPW⟩ := hv
  obtain ⟨hbs, hJ, hP, hK, hE⟩ := id hPW
  have hx := B.exec
  have hb := B.bytes
  have hr := B.returns
  have hts := atoms_spec (ws := wsX3_suspects) B.pre
  have hown : s.vm.findClass RX3 = some m.cls := findClass_of_methodNamed B.named
  have hlocks := B.notSynchronized
  have hS : va_S (fun q : Nat => base ≤ q) s.heap s.heap [] := va_S.rf
  have hl := lv_entry ([.ref (L 0), .int p0, .int p1]) (n := 5) (Nat.le_of_ble_eq_true rfl)
  rw [lg_entry_eq]
  generalize (lg_sl ([.ref (L 0), .int p0, .int p1]) ++ List.replicate (5 - (lg_sl ([.ref (L 0), .int p0, .int p1])).length) Slot.unset).toArray = ls at hl ⊢
  have hl : lv_has ls 5 [(0, .ref (L 0)), (1, .int p0), (2, .int p1)] := hl
  have iX3 : ∀ w ∈ wsX30, w ∈ wsX3_suspects := by decide +kernel
  have hx3i : (x 3 0 0).toInt = 0 := by rw [hx3]; decide
  refine lv_iload_n hx hb dX3_suspects_0 rfl (lv_at hl 1 rfl) ?_
  refine lv_iload_n hx hb dX3_suspects_1 rfl (lv_at hl 2 rfl) ?_
  refine wx_xcallv (vx_runS (As := [.int p0, .int p1]) (rest := []) ⟨hx, hb, hml, hown, hts⟩ (k_checkRumour l hst g base n L (cw g L x r0) p0 p1) (va_cwS 2 hts gX3_suspects_X3_checkRumour rfl rfl rfl (by decide +kernel) ⟨Nat.le_of_ble_eq_true rfl, Nat.le_of_ble_eq_true rfl⟩) (hPW.preS hP hS) rfl rfl hl.1 rfl (lv_room (Nat.le_of_ble_eq_true rfl)) dX3_suspects_2 ⟨Nat.le_of_ble_eq_true rfl, Nat.le_of_ble_eq_true rfl⟩) hS (fun E ce q9 H locs hpx hP hS h1 h2 h3 => ?_) (fun u2 H locs h2 hP hS => ?_)
  · exact wx_out hno hlocks h1 h2 h3 (⟨hpx.1, (by have h9 := hpx.2; omega)⟩) hP hS (Nat.le_of_ble_eq_true rfl) (Nat.le_of_ble_eq_true rfl)
  refine lv_iconst (v := 0) hx hb dX3_suspects_5 (by decide) ?_
  refine lv_istore_n (lv' := [(3, .int 0), (0, .ref (L 0)), (1, .int p0), (2, .int p1)]) hx hb dX3_suspects_6 rfl hl (by decide) rfl (fun ls hl => ?_)
  refine lv_iconst (v := 0) hx hb dX3_suspects_7 (by decide) ?_
  refine lv_istore (lv' := [(4, .int 0), (3, .int 0), (0, .ref (L 0)), (1, .int p0), (2, .int p1)]) hx hb dX3_suspects_8 hl (by decide) rfl (fun ls hl => ?_)
  refine lv_iload hx hb dX3_suspects_10 (lv_at hl 0 rfl) ?_
  refine lv_aload_n hx hb dX3_suspects_12 rfl (lv_at hl 2 rfl) ?_
  refine wx_get (D := g.1) (cl := vwCl) (ci := 5) (v := .int (x 1 0 0)) (C := RX3) (T := TX3) (N := 8) hx hb hts iX3 hown hK hP (0) (by omega) cw_d rfl 4 (by decide) (hts (.fieldLink RX3 28 "FerroDesk" "noticeCount" "I") (by decide +kernel)) (fun _ h9 => h9) rfl dX3_suspects_13 ?_
  refine lv_icmp_ge (tgt := 44) hx hb dX3_suspects_16 (by decide) (fun c16 => ?_) (fun c16 => absurd (by rw [hx1]; decide) c16)
  refine lv_iload_n hx hb dX3_suspects_44 rfl (lv_at hl 1 rfl) ?_
  refine W.widen (k := 3) (n := 18) (Nat.le_of_ble_eq_true rfl) (Nat.le_of_ble_eq_true rfl) ?_
  exact vx_ret (W.iret (v := 0) hx hb hr (fun t ht hW => ⟨⟨0, x, rfl, ⟨(by revert h2; (try simp only [Int32.lt_iff_toInt_lt, Int32.le_iff_toInt_le, ← Int32.toInt_inj, i_0, i_1, i_2, i_3, i_4, i_6, i_9, i_20, i_32, i_40, i_48, i_60, i_200, i_999, i_2000, i_m1]); omega), rfl⟩, PB.mk9 hP ht⟩, hS.F ht⟩) hS.2.2 dX3_suspects_45)

set_option maxHeartbeats 4000000 in
set_option maxRecDepth 100000 in
theorem kp_suspectAt (l : Launch) (hst : l.stackTraces = false) (g : gE) (base n : Nat) (L : Nat → Nat) (hn : 106 ≤ n) (x : St) (r0 : Nat → va_E) (hx0 : x 0 0 0 = nI 0) (hx1 : x 1 0 0 = nI 0) (hx2 : x 2 0 0 = 2) (hx3 : x 3 0 0 = nI 0) (p0 p1 p2 : Int32) : vx_Met l yX3_suspectAt wsX3_suspectAt ({ frames := 8, cells := 3, slots := 18, locals := 180 }) (va_Pc [.ref (L 0), .int p0, .int p1, .int p2] (PW SS g base n L (cw g L x r0))) (va_Qi (fun (r : Int32) (_ : St) => False) (fun (u : St) t => PB g n L (cw g L u r0) t) (fun q => base ≤ q)) (QX g base n L (cw g L x r0) (fun E => (E = "java/lang/IllegalArgumentException" ∧ (p1.toInt < 0 ∨ 3 < p1.toInt ∨ p0.toInt = 0)) ∨ (E = "java/lang/IndexOutOfBoundsException" ∧ ¬ (p1.toInt < 0 ∨ 3 < p1.toInt ∨ p0.toInt = 0)))) 3 18 (fun q => base ≤ q) := by
  refine vx_ofW (cc := cX3_suspectAt) (maxL := 6) (ret := (some .int)) (by decide) rfl ?_
  intro p e s m args below meth c s₁ B hml hno hv
  obtain ⟨rfl, hPW⟩ := hv
  obtain ⟨hbs, hJ, hP, hK, hE⟩ := id hPW
  have hx := B.exec
  have hb := B.bytes
  have hr := B.returns
  have hts := atoms_spec (ws := wsX3_suspectAt) B.pre
  have hown : s.vm.findClass RX3 = some m.cls := findClass_of_methodNamed B.named
  have hlocks := B.notSynchronized
  have hS : va_S (fun q : Nat => base ≤ q) s.heap s.heap [] := va_S.rf
  have hl := lv_entry ([.ref (L 0), .int p0, .int p1, .int p2]) (n := 6) (Nat.le_of_ble_eq_true rfl)
  rw [lg_entry_eq]
  generalize (lg_sl ([.ref (L 0), .int p0, .int p1, .int p2]) ++ List.replicate (6 - (lg_sl ([.ref (L 0), .int p0, .int p1, .int p2])).length) Slot.unset).toArray = ls at hl ⊢
  have hl : lv_has ls 6 [(0, .ref (L 0)), (1, .int p0), (2, .int p1), (3, .int p2)] := hl
  have iX3 : ∀ w ∈ wsX30, w ∈ wsX3_suspectAt := by decide +kernel
  have hx3i : (x 3 0 0).toInt = 0 := by rw [hx3]; decide
  refine lv_iload_n hx hb dX3_suspectAt_0 rfl (lv_at hl 1 rfl) ?_
  refine lv_iload_n hx hb dX3_suspectAt_1 rfl (lv_at hl 2 rfl) ?_
  refine wx_xcallv (vx_runS (As := [.int p0, .int p1]) (rest := []) ⟨hx, hb, hml, hown, hts⟩ (k_checkRumour l hst g base n L (cw g L x r0) p0 p1) (va_cwS 2 hts gX3_suspectAt_X3_checkRumour rfl rfl rfl (by decide +kernel) ⟨Nat.le_of_ble_eq_true rfl, Nat.le_of_ble_eq_true rfl⟩) (hPW.preS hP hS) rfl rfl hl.1 rfl (lv_room (Nat.le_of_ble_eq_true rfl)) dX3_suspectAt_2 ⟨Nat.le_of_ble_eq_true rfl, Nat.le_of_ble_eq_true rfl⟩) hS (fun E ce q9 H locs hpx hP hS h1 h2 h3 => ?_) (fun u2 H locs h2 hP hS => ?_)
  · exact wx_out hno hlocks h1 h2 h3 (Or.inl ⟨hpx.1, (by have h9 := hpx.2; omega)⟩) hP hS (Nat.le_of_ble_eq_true rfl) (Nat.le_of_ble_eq_true rfl)
  refine lv_iconst (v := 0) hx hb dX3_suspectAt_5 (by decide) ?_
  refine lv_istore (lv' := [(4, .int 0), (0, .ref (L 0)), (1, .int p0), (2, .int p1), (3, .int p2)]) hx hb dX3_suspectAt_6 hl (by decide) rfl (fun ls hl => ?_)
  refine lv_iload hx hb dX3_suspectAt_8 (lv_at hl 0 rfl) ?_
  refine lv_aload_n hx hb dX3_suspectAt_10 rfl (lv_at hl 1 rfl) ?_
  refine wx_get (D := g.1) (cl := vwCl) (ci := 5) (v := .int (x 1 0 0)) (C := RX3) (T := TX3) (N := 8) hx hb hts iX3 hown hK hP (0) (by omega) cw_d rfl 4 (by decide) (hts (.fieldLink RX3 28 "FerroDesk" "noticeCount" "I") (by decide +kernel)) (fun _ h9 => h9) rfl dX3_suspectAt_11 ?_
  refine lv_icmp_ge (tgt := 58) hx hb dX3_suspectAt_14 (by decide) (fun c14 => ?_) (fun c14 => absurd (by rw [hx1]; decide) c14)
  exact wx_throwS (ik := 180) (is := 216) (ic := 184) (own := RX3) (cls := "java/lang/IndexOutOfBoundsException") (text := "there is no such suspect") (names := ["java/lang/RuntimeException", "java/lang/Exception"]) hx hb hst hPW hown (by decide +kernel) (by decide +kernel) (hts (.classLink RX3 180 "java/lang/IndexOutOfBoundsException") (by decide +kernel)) (hts (.initialized "java/lang/IndexOutOfBoundsException") (by decide +kernel)) (by decide +kernel) (fun w hw => hts w (List.mem_cons_of_mem _ (List.mem_append_left _ (List.mem_append_left _ (List.mem_append_right _ hw))))) (by decide +kernel) (by decide +kernel) hP hS (hl.1.trans hml.symm) dX3_suspectAt_58 dX3_suspectAt_61 dX3_suspectAt_62 dX3_suspectAt_64 dX3_suspectAt_67 hno (Nat.lt_of_lt_of_le (Nat.lt_succ_self _) (Nat.le_of_ble_eq_true rfl)) (Nat.le_of_ble_eq_true rfl) (Nat.le_of_ble_eq_true rfl) (Nat.le_of_ble_eq_true rfl) hlocks (Or.inr ⟨rfl, (by revert h2; (try simp only [Int32.lt_iff_toInt_lt, Int32.le_iff_toInt_le, ← Int32.toInt_inj, i_0, i_1, i_2, i_3, i_4, i_6, i_9, i_20, i_32, i_40, i_48, i_60, i_200, i_999, i_2000, i_m1]); omega)⟩) (Nat.le_of_ble_eq_true rfl) (Nat.le_of_ble_eq_true rfl)

set_option maxHeartbeats 4000000 in
set_option maxRecDepth 100000 in
theorem kp_shownShare (l : Launch) (hst : l.stackTraces = false) (g : gE) (base n : Nat) (L : Nat → Nat) (hn : 106 ≤ n) (x : St) (r0 : Nat → va_E) (hx0 : x 0 0 0 = nI 0) (hx1 : x 1 0 0 = nI 0) (hx2 : x 2 0 0 = 2) (hx3 : x 3 0 0 = nI 0)  : vx_Met l yX3_shownShare wsX3_shownShare ({ frames := 8, cells := 3, slots := 18, locals := 180 }) (va_Pc [.ref (L 0)] (PW SS g base n L (cw g L x r0))) (va_Qf (fun (r : UInt32) (_ : St) => False) (fun (u : St) t => PB g n L (cw g L u r0) t) (fun q => base ≤ q)) (QX g base n L (cw g L x r0) (fun E => E = "java/lang/ArithmeticException")) 3 18 (fun q => base ≤ q) := by
  refine vx_ofW (cc := cX3_shownShare) (maxL := 3) (ret := (some .float)) (by decide) rfl ?_
  intro p e s m args below meth c s₁ B hml hno hv
  obtain ⟨rfl, hPW⟩ := hv
  obtain ⟨hbs, hJ, hP, hK, hE⟩ := id hPW
  have hx := B.exec
  have hb := B.bytes
  have hr := B.returns
  have hts := atoms_spec (ws := wsX3_shownShare) B.pre
  have hown : s.vm.findClass RX3 = some m.cls := findClass_of_methodNamed B.named
  have hlocks := B.notSynchronized
  have hS : va_S (fun q : Nat => base ≤ q) s.heap s.heap [] := va_S.rf
  have hl := lv_entry ([.ref (L 0)]) (n := 3) (Nat.le_of_ble_eq_true rfl)
  rw [lg_entry_eq]
  generalize (lg_sl ([.ref (L 0)]) ++ List.replicate (3 - (lg_sl ([.ref (L 0)])).length) Slot.unset).toArray = ls at hl ⊢
  have hl : lv_has ls 3 [(0, .ref (L 0))] := hl
  have iX3 : ∀ w ∈ wsX30, w ∈ wsX3_shownShare := by decide +kernel
  have hx3i : (x 3 0 0).toInt = 0 := by rw [hx3]; decide
  refine lv_aload_n hx hb dX3_shownShare_0 rfl (lv_at hl 0 rfl) ?_
  refine wx_get (D := g.1) (cl := vwCl) (ci := 5) (v := .int (x 0 0 0)) (C := RX3) (T := TX3) (N := 8) hx hb hts iX3 hown hK hP (0) (by omega) cw_d rfl 1 (by decide) (hts (.fieldLink RX3 15 "FerroDesk" "boardCount" "I") (by decide +kernel)) (fun _ h9 => h9) rfl dX3_shownShare_1 ?_
  refine lv_if_ne (tgt := 17) hx hb dX3_shownShare_4 (by decide) (fun c4 => absurd c4 (fun h => h (by rw [hx0]; rfl))) (fun c4 => ?_)
  exact wx_throwS (ik := 238) (is := 240) (ic := 242) (own := RX3) (cls := "java/lang/ArithmeticException") (text := "there are no boards") (names := ["java/lang/RuntimeException", "java/lang/Exception"]) hx hb hst hPW hown (by decide +kernel) (by decide +kernel) (hts (.classLink RX3 238 "java/lang/ArithmeticException") (by decide +kernel)) (hts (.initialized "java/lang/ArithmeticException") (by decide +kernel)) (by decide +kernel) (fun w hw => hts w (List.mem_cons_of_mem _ (List.mem_append_right _ hw))) (by decide +kernel) (by decide +kernel) hP hS (hl.1.trans hml.symm) dX3_shownShare_7 dX3_shownShare_10 dX3_shownShare_11 dX3_shownShare_13 dX3_shownShare_16 hno (Nat.lt_of_lt_of_le (Nat.lt_succ_self _) (Nat.le_of_ble_eq_true rfl)) (Nat.le_of_ble_eq_true rfl) (Nat.le_of_ble_eq_true rfl) (Nat.le_of_ble_eq_true rfl) hlocks (rfl) (Nat.le_of_ble_eq_true rfl) (Nat.le_of_ble_eq_true rfl)

set_option maxHeartbeats 4000000 in
set_option maxRecDepth 100000 in
theorem kp_meanWear (l : Launch) (hst : l.stackTraces = false) (g : gE) (base n : Nat) (L : Nat → Nat) (hn : 106 ≤ n) (x : St) (r0 : Nat → va_E) (hx0 : x 0 0 0 = nI 0) (hx1 : x 1 0 0 = nI 0) (hx2 : x 2 0 0 = 2) (hx3 : x 3 0 0 = nI 0)  : vx_Met l yX3_meanWear wsX3_meanWear ({ frames := 8, cells := 3, slots := 18, locals := 180 }) (va_Pc [.ref (L 0)] (PW SS g base n L (cw g L x r0))) (va_Qd (fun (r : UInt64) (_ : St) => False) (fun (u : St) t => PB g n L (cw g L u r0) t) (fun q => base ≤ q)) (QX g base n L (cw g L x r0) (fun E => E = "java/lang/ArithmeticException")) 3 18 (fun q => base ≤ q) := by
  refine vx_ofW (cc := cX3_meanWear) (maxL := 1) (ret := (some .double)) (by decide) rfl ?_
  intro p e s m args below meth c s₁ B hml hno hv
  obtain ⟨rfl, hPW⟩ := hv
  obtain ⟨hbs, hJ, hP, hK, hE⟩ := id hPW
  have hx := B.exec
  have hb := B.bytes
  have hr := B.returns
  have hts := atoms_spec (ws := wsX3_meanWear) B.pre
  have hown : s.vm.findClass RX3 = some m.cls := findClass_of_methodNamed B.named
  have hlocks := B.notSynchronized
  have hS : va_S (fun q : Nat => base ≤ q) s.heap s.heap [] := va_S.rf
  have hl := lv_entry ([.ref (L 0)]) (n := 1) (Nat.le_of_ble_eq_true rfl)
  rw [lg_entry_eq]
  generalize (lg_sl ([.ref (L 0)]) ++ List.replicate (1 - (lg_sl ([.ref (L 0)])).length) Slot.unset).toArray = ls at hl ⊢
  have hl : lv_has ls 1 [(0, .ref (L 0))] := hl
  have iX3 : ∀ w ∈ wsX30, w ∈ wsX3_meanWear := by decide +kernel
  have hx3i : (x 3 0 0).toInt = 0 := by rw [hx3]; decide
  refine lv_aload_n hx hb dX3_meanWear_0 rfl (lv_at hl 0 rfl) ?_
  refine wx_get (D := g.1) (cl := vwCl) (ci := 5) (v := .int (x 0 0 0)) (C := RX3) (T := TX3) (N := 8) hx hb hts iX3 hown hK hP (0) (by omega) cw_d rfl 1 (by decide) (hts (.fieldLink RX3 15 "FerroDesk" "boardCount" "I") (by decide +kernel)) (fun _ h9 => h9) rfl dX3_meanWear_1 ?_
  refine lv_if_ne (tgt := 17) hx hb dX3_meanWear_4 (by decide) (fun c4 => absurd c4 (fun h => h (by rw [hx0]; rfl))) (fun c4 => ?_)
  exact wx_throwS (ik := 238) (is := 240) (ic := 242) (own := RX3) (cls := "java/lang/ArithmeticException") (text := "there are no boards") (names := ["java/lang/RuntimeException", "java/lang/Exception"]) hx hb hst hPW hown (by decide +kernel) (by decide +kernel) (hts (.classLink RX3 238 "java/lang/ArithmeticException") (by decide +kernel)) (hts (.initialized "java/lang/ArithmeticException") (by decide +kernel)) (by decide +kernel) (fun w hw => hts w (List.mem_cons_of_mem _ (List.mem_append_left _ (List.mem_append_right _ hw)))) (by decide +kernel) (by decide +kernel) hP hS (hl.1.trans hml.symm) dX3_meanWear_7 dX3_meanWear_10 dX3_meanWear_11 dX3_meanWear_13 dX3_meanWear_16 hno (Nat.lt_of_lt_of_le (Nat.lt_succ_self _) (Nat.le_of_ble_eq_true rfl)) (Nat.le_of_ble_eq_true rfl) (Nat.le_of_ble_eq_true rfl) (Nat.le_of_ble_eq_true rfl) hlocks (rfl) (Nat.le_of_ble_eq_true rfl) (Nat.le_of_ble_eq_true rfl)

set_option maxHeartbeats 4000000 in
set_option maxRecDepth 100000 in
theorem kp_go (l : Launch) (hst : l.stackTraces = false) (g : gE) (base n : Nat) (L : Nat → Nat) (hn : 106 ≤ n) (x : St) (r0 : Nat → va_E) (hx0 : x 0 0 0 = nI 0) (hx1 : x 1 0 0 = nI 0) (hx2 : x 2 0 0 = 2) (hx3 : x 3 0 0 = nI 0) (p0 : Int32) : vx_Met l yX3_go wsX3_go ({ frames := 8, cells := 3, slots := 18, locals := 180 }) (va_Pc [.ref (L 0), .int p0] (PW SS g base n L (cw g L x r0))) (va_Qi (fun (r : Int32) (_ : St) => ¬ (p0.toInt < 1 ∨ 48 < p0.toInt) ∧ r = p0) (fun (u : St) t => PB g n L (cw g L u r0) t) (fun q => base ≤ q)) (QX g base n L (cw g L x r0) (fun E => E = "java/lang/IllegalArgumentException" ∧ (p0.toInt < 1 ∨ 48 < p0.toInt))) 3 18 (fun q => base ≤ q) := by
  refine vx_ofW (cc := cX3_go) (maxL := 4) (ret := (some .int)) (by decide) rfl ?_
  intro p e s m args below meth c s₁ B hml hno hv
  obtain ⟨rfl, hPW⟩ := hv
  obtain ⟨hbs, hJ, hP, hK, hE⟩ := id hPW
  have hx := B.exec
  have hb := B.bytes
  have hr := B.returns
  have hts := atoms_spec (ws := wsX3_go) B.pre
  have hown : s.vm.findClass RX3 = some m.cls := findClass_of_methodNamed B.named
  have hlocks := B.notSynchronized
  have hS : va_S (fun q : Nat => base ≤ q) s.heap s.heap [] := va_S.rf
  have hl := lv_entry ([.ref (L 0), .int p0]) (n := 4) (Nat.le_of_ble_eq_true rfl)
  rw [lg_entry_eq]
  generalize (lg_sl ([.ref (L 0), .int p0]) ++ List.replicate (4 - (lg_sl ([.ref (L 0), .int p0])).length) Slot.unset).toArray = ls at hl ⊢
  have hl : lv_has ls 4 [(0, .ref (L 0)), (1, .int p0)] := hl
  have iX3 : ∀ w ∈ wsX30, w ∈ wsX3_go := by decide +kernel
  have hx3i : (x 3 0 0).toInt = 0 := by rw [hx3]; decide
  refine lv_iload_n hx hb dX3_go_0 rfl (lv_at hl 1 rfl) ?_
  refine lv_iconst (v := 1) hx hb dX3_go_1 (by decide) ?_
  refine lv_icmp_lt (tgt := 11) hx hb dX3_go_2 (by decide) (fun c2 => ?_) (fun c2 => ?_)
  · exact wx_throwS (ik := 51) (is := 218) (ic := 55) (own := RX3) (cls := "java/lang/IllegalArgumentException") (text := "the hours are not 1 to 48") (names := ["java/lang/RuntimeException", "java/lang/Exception"]) hx hb hst hPW hown (by decide +kernel) (by decide +kernel) (hts (.classLink RX3 51 "java/lang/IllegalArgumentException") (by decide +kernel)) (hts (.initialized "java/lang/IllegalArgumentException") (by decide +kernel)) (by decide +kernel) (fun w hw => hts w (List.mem_cons_of_mem _ (List.mem_append_left _ (List.mem_append_left _ (List.mem_append_right _ hw))))) (by decide +kernel) (by decide +kernel) hP hS (hl.1.trans hml.symm) dX3_go_11 dX3_go_14 dX3_go_15 dX3_go_17 dX3_go_20 hno (Nat.lt_of_lt_of_le (Nat.lt_succ_self _) (Nat.le_of_ble_eq_true rfl)) (Nat.le_of_ble_eq_true rfl) (Nat.le_of_ble_eq_true rfl) (Nat.le_of_ble_eq_true rfl) hlocks (⟨rfl, (by revert c2; (try simp only [Int32.lt_iff_toInt_lt, Int32.le_iff_toInt_le, ← Int32.toInt_inj, i_0, i_1, i_2, i_3, i_4, i_6, i_9, i_20, i_32, i_40, i_48, i_60, i_200, i_999, i_2000, i_m1]); omega)⟩) (Nat.le_of_ble_eq_true rfl) (Nat.le_of_ble_eq_true rfl)
  · refine lv_iload_n hx hb dX3_go_5 rfl (lv_at hl 1 rfl) ?_
    refine lv_bipush (v := 48) hx hb dX3_go_6 (by decide) ?_
    refine lv_icmp_le (tgt := 21) hx hb dX3_go_8 (by decide) (fun c8 => ?_) (fun c8 => ?_)
    · refine lv_aload_n hx hb dX3_go_21 rfl (lv_at hl 0 rfl) ?_
      refine wx_get (D := g.1) (cl := vwCl) (ci := 5) (v := .int (x 3 0 0)) (C := RX3) (T := TX3) (N := 8) hx hb hts iX3 hown hK hP (0) (by omega) cw_d rfl 7 (by decide) (hts (.fieldLink RX3 41 "FerroDesk" "hour" "I") (by decide +kernel)) (fun _ h9 => h9) rfl dX3_go_22 ?_
      refine lv_iload_n hx hb dX3_go_25 rfl (lv_at hl 1 rfl) ?_
      refine lv_iadd hx hb dX3_go_26 ?_
      have e0 : x 3 0 0 + p0 = p0 := by rw [hx3, nI_0, Int32.zero_add]
      refine lv_sipush (v := 2000) hx hb dX3_go_27 (by decide) ?_
      refine lv_icmp_le (tgt := 43) hx hb dX3_go_30 (by decide) (fun c30 => ?_) (fun c30 => absurd (by rw [e0]; revert c8; simp only [Int32.lt_iff_toInt_lt, Int32.le_iff_toInt_le, ← Int32.toInt_inj, i_0, i_1, i_2, i_3, i_4, i_6, i_9, i_20, i_32, i_40, i_48, i_60, i_200, i_999, i_2000, i_m1]; omega) c30)
      refine lv_iconst (v := 0) hx hb dX3_go_43 (by decide) ?_
      refine lv_istore_n (lv' := [(2, .int 0), (0, .ref (L 0)), (1, .int p0)]) hx hb dX3_go_44 rfl hl (by decide) rfl (fun ls hl => ?_)
      obtain ⟨N, hN, eN⟩ : ∃ N : Nat, N ≤ 48 ∧ p0 = nI N := nI_of2 (M := 48) (by decide) (by revert c2; simp only [Int32.lt_iff_toInt_lt, Int32.le_iff_toInt_le, ← Int32.toInt_inj, i_0, i_1, i_2, i_3, i_4, i_6, i_9, i_20, i_32, i_40, i_48, i_60, i_200, i_999, i_2000, i_m1]; omega) (by exact c8)
      have key : ∀ (d k : Nat) (x1 : St) (z2 : Int32) (H : Heap) (locs : List Loc) (ls : Array Slot), k + d = N → z2 = nI k → x1 0 0 0 = nI 0 → x1 3 0 0 = nI k → va_P g.1 vwCl (wl n L (cw g L x1 r0)) H → va_S (fun q : Nat => base ≤ q) s.heap H locs → lv_has ls 4 [(2, .int z2), (0, .ref (L 0)), (1, .int p0)] → W p l e (headSpec wsX3_go ({ frames := 8, cells := 3, slots := 18, locals := 180 })).room s m ([.ref (L 0), .int p0] : List Value).toArray below meth c H locs 0 0 (vx_MQ below (va_Qi (fun (r : Int32) (_ : St) => ¬ (p0.toInt < 1 ∨ 48 < p0.toInt) ∧ r = p0) (fun (u : St) t => PB g n L (cw g L u r0) t) (fun q => base ≤ q)) (QX g base n L (cw g L x r0) (fun E => E = "java/lang/IllegalArgumentException" ∧ (p0.toInt < 1 ∨ 48 < p0.toInt))) ([.ref (L 0), .int p0] : List Value).toArray s 3 18 (fun q => base ≤ q)) (F0 m 45 ls []) := by
        intro d
        induction d with
        | zero =>
          intro k x1 z2 H locs ls hk ez h0 h3 hP hS hl
          refine lv_iload_n hx hb dX3_go_45 rfl (lv_at hl 0 rfl) ?_
          refine lv_iload_n hx hb dX3_go_46 rfl (lv_at hl 2 rfl) ?_
          refine lv_icmp_ge (tgt := 92) hx hb dX3_go_47 (by decide) (fun c47 => ?_) (fun c47 => absurd (by rw [ez, eN]; exact nI_le (by omega) (by omega)) c47)
          refine lv_aload_n hx hb dX3_go_92 rfl (lv_at hl 1 rfl) ?_
          refine wx_get (D := g.1) (cl := vwCl) (ci := 5) (v := .int (x1 3 0 0)) (C := RX3) (T := TX3) (N := 8) hx hb hts iX3 hown hK hP (0) (by omega) cw_d rfl 7 (by decide) (hts (.fieldLink RX3 41 "FerroDesk" "hour" "I") (by decide +kernel)) (fun _ h9 => h9) rfl dX3_go_93 ?_
          refine W.widen (k := 3) (n := 18) (Nat.le_of_ble_eq_true rfl) (Nat.le_of_ble_eq_true rfl) ?_
          exact vx_ret (W.iret (v := x1 3 0 0) hx hb hr (fun t ht hW => ⟨⟨x1 3 0 0, x1, rfl, ⟨(by revert c2 c8; (try simp only [Int32.lt_iff_toInt_lt, Int32.le_iff_toInt_le, ← Int32.toInt_inj, i_0, i_1, i_2, i_3, i_4, i_6, i_9, i_20, i_32, i_40, i_48, i_60, i_200, i_999, i_2000, i_m1]); omega), (by rw [h3, eN, show k = N by omega])⟩, PB.mk9 hP ht⟩, hS.F ht⟩) hS.2.2 dX3_go_96)
        | succ d ih =>
          intro k x1 z2 H locs ls hk ez h0 h3 hP hS hl
          refine lv_iload_n hx hb dX3_go_45 rfl (lv_at hl 0 rfl) ?_
          refine lv_iload_n hx hb dX3_go_46 rfl (lv_at hl 2 rfl) ?_
          refine lv_icmp_ge (tgt := 92) hx hb dX3_go_47 (by decide) (fun c47 => absurd c47 (by rw [ez, eN]; exact nI_ge (by omega) (by omega))) (fun c47 => ?_)
          refine lv_aload_n hx hb dX3_go_50 rfl (lv_at hl 1 rfl) ?_
          refine lv_dup hx hb dX3_go_51 rfl ?_
          refine wx_get (D := g.1) (cl := vwCl) (ci := 5) (v := .int (x1 3 0 0)) (C := RX3) (T := TX3) (N := 8) hx hb hts iX3 hown hK hP (0) (by omega) cw_d rfl 7 (by decide) (hts (.fieldLink RX3 41 "FerroDesk" "hour" "I") (by decide +kernel)) (fun _ h9 => h9) rfl dX3_go_52 ?_
          refine lv_iconst (v := 1) hx hb dX3_go_55 (by decide) ?_
          refine lv_iadd hx hb dX3_go_56 ?_
          refine wx_put (D := g.1) (cl := vwCl) (ci := 5) (v := .int ((x1 3 0 0) + 1)) (ty := .int) (w' := cw g L (st x1 3 0 0 ((x1 3 0 0) + 1)) r0) (C := RX3) (T := TX3) (N := 8) hx hb hts iX3 tyX3 tyX3_ok nmX3 hown hK hP hJ hS (0) (by omega) cw_d rfl 7 (by decide) (hts (.fieldLink RX3 41 "FerroDesk" "hour" "I") (by decide +kernel)) (fun _ h9 => h9) rfl (by decide +kernel) rfl rfl (Nat.le_of_ble_eq_true rfl) dX3_go_57 (cw_put (r := 3) (i := 0) (j := 0) rfl (by omega) (dk_0.trans (by simp [dF, st]))) (fun H locs hP hS => ?_)
          refine lv_iconst (v := 0) hx hb dX3_go_60 (by decide) ?_
          refine lv_istore_n (lv' := [(3, .int 0), (2, .int z2), (0, .ref (L 0)), (1, .int p0)]) hx hb dX3_go_61 rfl hl (by decide) rfl (fun ls hl => ?_)
          refine lv_iload_n hx hb dX3_go_62 rfl (lv_at hl 0 rfl) ?_
          refine lv_aload_n hx hb dX3_go_63 rfl (lv_at hl 2 rfl) ?_
          refine wx_get (D := g.1) (cl := vwCl) (ci := 5) (v := .int ((st x1 3 0 0 ((x1 3 0 0) + 1)) 0 0 0)) (C := RX3) (T := TX3) (N := 8) hx hb hts iX3 hown hK hP (0) (by omega) cw_d rfl 1 (by decide) (hts (.fieldLink RX3 15 "FerroDesk" "boardCount" "I") (by decide +kernel)) (fun _ h9 => h9) rfl dX3_go_64 ?_
          refine lv_icmp_ge (tgt := 86) hx hb dX3_go_67 (by decide) (fun c67 => ?_) (fun c67 => absurd (by rw [st_ne (by decide), h0]; decide) c67)
          obtain ⟨z86, ez86⟩ : ∃ y : Int32, y = z2 + 1 := ⟨_, rfl⟩
          refine lv_iinc (v := z86) (lv' := [(2, .int z86), (3, .int 0), (0, .ref (L 0)), (1, .int p0)]) hx hb dX3_go_86 hl (k := 1) rfl (by rw [ez86]; rfl) (by decide) rfl (fun ls hl => ?_)
          refine lv_goto (tgt := 45) hx hb dX3_go_89 (by decide) ?_
          exact ih (k + 1) _ z86 H locs ls (by omega) (by rw [ez86, ez, nI_1]) (by rw [st_ne (by decide)]; exact h0) (by rw [st_eq, h3, nI_1]) hP hS (lv_sub hl [0, 2, 3] rfl)
      exact key N 0 x 0 _ _ _ (by omega) rfl hx0 hx3 hP hS (lv_sub hl [0, 1, 2] rfl)
    · exact wx_throwS (ik := 51) (is := 218) (ic := 55) (own := RX3) (cls := "java/lang/IllegalArgumentException") (text := "the hours are not 1 to 48") (names := ["java/lang/RuntimeException", "java/lang/Exception"]) hx hb hst hPW hown (by decide +kernel) (by decide +kernel) (hts (.classLink RX3 51 "java/lang/IllegalArgumentException") (by decide +kernel)) (hts (.initialized "java/lang/IllegalArgumentException") (by decide +kernel)) (by decide +kernel) (fun w hw => hts w (List.mem_cons_of_mem _ (List.mem_append_left _ (List.mem_append_left _ (List.mem_append_right _ hw))))) (by decide +kernel) (by decide +kernel) hP hS (hl.1.trans hml.symm) dX3_go_11 dX3_go_14 dX3_go_15 dX3_go_17 dX3_go_20 hno (Nat.lt_of_lt_of_le (Nat.lt_succ_self _) (Nat.le_of_ble_eq_true rfl)) (Nat.le_of_ble_eq_true rfl) (Nat.le_of_ble_eq_true rfl) (Nat.le_of_ble_eq_true rfl) hlocks (⟨rfl, (by revert c2 c8; (try simp only [Int32.lt_iff_toInt_lt, Int32.le_iff_toInt_le, ← Int32.toInt_inj, i_0, i_1, i_2, i_3, i_4, i_6, i_9, i_20, i_32, i_40, i_48, i_60, i_200, i_999, i_2000, i_m1]); omega)⟩) (Nat.le_of_ble_eq_true rfl) (Nat.le_of_ble_eq_true rfl)

set_option maxHeartbeats 4000000 in
set_option maxRecDepth 100000 in
theorem kp_hour (l : Launch) (hst : l.stackTraces = false) (g : gE) (base n : Nat) (L : Nat → Nat) (hn : 106 ≤ n) (x : St) (r0 : Nat → va_E) (hx0 : x 0 0 0 = nI 0) (hx1 : x 1 0 0 = nI 0) (hx2 : x 2 0 0 = 2) (hx3 : x 3 0 0 = nI 0) : Met l yX3_hour wsX3_hour ({ frames := 3, cells := 0, slots := 0, locals := 60 }) (va_Pc [.ref (L 0)] (PW SS g base n L (cw g L x r0))) (va_Qi (fun (r : Int32) (_ : St) => r = 0) (fun (u : St) t => PB g n L (cw g L u r0) t) (fun q => base ≤ q)) 0 0 (fun q => base ≤ q) := by
  refine Met.ofW (cc := cX3_hour) (maxL := 1) (ret := (some .int)) (by decide) rfl ?_
  intro p e s m args below meth c s₁ B hml hv
  obtain ⟨rfl, hPW⟩ := hv
  obtain ⟨hbs, hJ, hP, hK, hE⟩ := id hPW
  have hx := B.exec
  have hb := B.bytes
  have hr := B.returns
  have hts := atoms_spec (ws := wsX3_hour) B.pre
  have hown : s.vm.findClass RX3 = some m.cls := findClass_of_methodNamed B.named
  have hlocks := B.notSynchronized
  have hS : va_S (fun q : Nat => base ≤ q) s.heap s.heap [] := va_S.rf
  have hl := lv_entry ([.ref (L 0)]) (n := 1) (Nat.le_of_ble_eq_true rfl)
  rw [lg_entry_eq]
  generalize (lg_sl ([.ref (L 0)]) ++ List.replicate (1 - (lg_sl ([.ref (L 0)])).length) Slot.unset).toArray = ls at hl ⊢
  have hl : lv_has ls 1 [(0, .ref (L 0))] := hl
  have iX3 : ∀ w ∈ wsX30, w ∈ wsX3_hour := by decide +kernel
  refine lv_aload_n hx hb dX3_hour_0 rfl (lv_at hl 0 rfl) ?_
  refine wx_get (D := g.1) (cl := vwCl) (ci := 5) (v := .int (x 3 0 0)) (C := RX3) (T := TX3) (N := 8) hx hb hts iX3 hown hK hP (0) (by omega) cw_d rfl 7 (by decide) (hts (.fieldLink RX3 41 "FerroDesk" "hour" "I") (by decide +kernel)) (fun _ h9 => h9) rfl dX3_hour_1 ?_
  refine W.widen (k := 0) (n := 0) (Nat.le_of_ble_eq_true rfl) (Nat.le_of_ble_eq_true rfl) ?_
  exact W.iret (v := x 3 0 0) hx hb hr (fun t ht hW => ⟨⟨x 3 0 0, x, rfl, hx3.trans nI_0, PB.mk9 hP ht⟩, hS.F ht⟩) hS.2.2 dX3_hour_4

set_option maxHeartbeats 4000000 in
set_option maxRecDepth 100000 in
theorem kp_boards (l : Launch) (hst : l.stackTraces = false) (g : gE) (base n : Nat) (L : Nat → Nat) (hn : 106 ≤ n) (x : St) (r0 : Nat → va_E) (hx0 : x 0 0 0 = nI 0) (hx1 : x 1 0 0 = nI 0) (hx2 : x 2 0 0 = 2) (hx3 : x 3 0 0 = nI 0) : Met l yX3_boards wsX3_boards ({ frames := 3, cells := 0, slots := 0, locals := 60 }) (va_Pc [.ref (L 0)] (PW SS g base n L (cw g L x r0))) (va_Qi (fun (r : Int32) (_ : St) => r = 0) (fun (u : St) t => PB g n L (cw g L u r0) t) (fun q => base ≤ q)) 0 0 (fun q => base ≤ q) := by
  refine Met.ofW (cc := cX3_boards) (maxL := 1) (ret := (some .int)) (by decide) rfl ?_
  intro p e s m args below meth c s₁ B hml hv
  obtain ⟨rfl, hPW⟩ := hv
  obtain ⟨hbs, hJ, hP, hK, hE⟩ := id hPW
  have hx := B.exec
  have hb := B.bytes
  have hr := B.returns
  have hts := atoms_spec (ws := wsX3_boards) B.pre
  have hown : s.vm.findClass RX3 = some m.cls := findClass_of_methodNamed B.named
  have hlocks := B.notSynchronized
  have hS : va_S (fun q : Nat => base ≤ q) s.heap s.heap [] := va_S.rf
  have hl := lv_entry ([.ref (L 0)]) (n := 1) (Nat.le_of_ble_eq_true rfl)
  rw [lg_entry_eq]
  generalize (lg_sl ([.ref (L 0)]) ++ List.replicate (1 - (lg_sl ([.ref (L 0)])).length) Slot.unset).toArray = ls at hl ⊢
  have hl : lv_has ls 1 [(0, .ref (L 0))] := hl
  have iX3 : ∀ w ∈ wsX30, w ∈ wsX3_boards := by decide +kernel
  refine lv_aload_n hx hb dX3_boards_0 rfl (lv_at hl 0 rfl) ?_
  refine wx_get (D := g.1) (cl := vwCl) (ci := 5) (v := .int (x 0 0 0)) (C := RX3) (T := TX3) (N := 8) hx hb hts iX3 hown hK hP (0) (by omega) cw_d rfl 1 (by decide) (hts (.fieldLink RX3 15 "FerroDesk" "boardCount" "I") (by decide +kernel)) (fun _ h9 => h9) rfl dX3_boards_1 ?_
  refine W.widen (k := 0) (n := 0) (Nat.le_of_ble_eq_true rfl) (Nat.le_of_ble_eq_true rfl) ?_
  exact W.iret (v := x 0 0 0) hx hb hr (fun t ht hW => ⟨⟨x 0 0 0, x, rfl, hx0.trans nI_0, PB.mk9 hP ht⟩, hS.F ht⟩) hS.2.2 dX3_boards_4

set_option maxHeartbeats 4000000 in
set_option maxRecDepth 100000 in
theorem kp_notices (l : Launch) (hst : l.stackTraces = false) (g : gE) (base n : Nat) (L : Nat → Nat) (hn : 106 ≤ n) (x : St) (r0 : Nat → va_E) (hx0 : x 0 0 0 = nI 0) (hx1 : x 1 0 0 = nI 0) (hx2 : x 2 0 0 = 2) (hx3 : x 3 0 0 = nI 0) : Met l yX3_notices wsX3_notices ({ frames := 3, cells := 0, slots := 0, locals := 60 }) (va_Pc [.ref (L 0)] (PW SS g base n L (cw g L x r0))) (va_Qi (fun (r : Int32) (_ : St) => r = 0) (fun (u : St) t => PB g n L (cw g L u r0) t) (fun q => base ≤ q)) 0 0 (fun q => base ≤ q) := by
  refine Met.ofW (cc := cX3_notices) (maxL := 1) (ret := (some .int)) (by decide) rfl ?_
  intro p e s m args below meth c s₁ B hml hv
  obtain ⟨rfl, hPW⟩ := hv
  obtain ⟨hbs, hJ, hP, hK, hE⟩ := id hPW
  have hx := B.exec
  have hb := B.bytes
  have hr := B.returns
  have hts := atoms_spec (ws := wsX3_notices) B.pre
  have hown : s.vm.findClass RX3 = some m.cls := findClass_of_methodNamed B.named
  have hlocks := B.notSynchronized
  have hS : va_S (fun q : Nat => base ≤ q) s.heap s.heap [] := va_S.rf
  have hl := lv_entry ([.ref (L 0)]) (n := 1) (Nat.le_of_ble_eq_true rfl)
  rw [lg_entry_eq]
  generalize (lg_sl ([.ref (L 0)]) ++ List.replicate (1 - (lg_sl ([.ref (L 0)])).length) Slot.unset).toArray = ls at hl ⊢
  have hl : lv_has ls 1 [(0, .ref (L 0))] := hl
  have iX3 : ∀ w ∈ wsX30, w ∈ wsX3_notices := by decide +kernel
  refine lv_aload_n hx hb dX3_notices_0 rfl (lv_at hl 0 rfl) ?_
  refine wx_get (D := g.1) (cl := vwCl) (ci := 5) (v := .int (x 1 0 0)) (C := RX3) (T := TX3) (N := 8) hx hb hts iX3 hown hK hP (0) (by omega) cw_d rfl 4 (by decide) (hts (.fieldLink RX3 28 "FerroDesk" "noticeCount" "I") (by decide +kernel)) (fun _ h9 => h9) rfl dX3_notices_1 ?_
  refine W.widen (k := 0) (n := 0) (Nat.le_of_ble_eq_true rfl) (Nat.le_of_ble_eq_true rfl) ?_
  exact W.iret (v := x 1 0 0) hx hb hr (fun t ht hW => ⟨⟨x 1 0 0, x, rfl, hx1.trans nI_0, PB.mk9 hP ht⟩, hS.F ht⟩) hS.2.2 dX3_notices_4

set_option maxHeartbeats 4000000 in
set_option maxRecDepth 100000 in
theorem kp_changes (l : Launch) (hst : l.stackTraces = false) (g : gE) (base n : Nat) (L : Nat → Nat) (hn : 106 ≤ n) (x : St) (r0 : Nat → va_E) (hx0 : x 0 0 0 = nI 0) (hx1 : x 1 0 0 = nI 0) (hx2 : x 2 0 0 = 2) (hx3 : x 3 0 0 = nI 0) : Met l yX3_changes wsX3_changes ({ frames := 3, cells := 0, slots := 0, locals := 60 }) (va_Pc [.ref (L 0)] (PW SS g base n L (cw g L x r0))) (va_Ql (fun (r : Int64) (_ : St) => r = 0) (fun (u : St) t => PB g n L (cw g L u r0) t) (fun q => base ≤ q)) 0 0 (fun q => base ≤ q) := by
  refine Met.ofW (cc := cX3_changes) (maxL := 4) (ret := (some .long)) (by decide) rfl ?_
  intro p e s m args below meth c s₁ B hml hv
  obtain ⟨rfl, hPW⟩ := hv
  obtain ⟨hbs, hJ, hP, hK, hE⟩ := id hPW
  have hx := B.exec
  have hb := B.bytes
  have hr := B.returns
  have hts := atoms_spec (ws := wsX3_changes) B.pre
  have hown : s.vm.findClass RX3 = some m.cls := findClass_of_methodNamed B.named
  have hlocks := B.notSynchronized
  have hS : va_S (fun q : Nat => base ≤ q) s.heap s.heap [] := va_S.rf
  have hl := lv_entry ([.ref (L 0)]) (n := 4) (Nat.le_of_ble_eq_true rfl)
  rw [lg_entry_eq]
  generalize (lg_sl ([.ref (L 0)]) ++ List.replicate (4 - (lg_sl ([.ref (L 0)])).length) Slot.unset).toArray = ls at hl ⊢
  have hl : lv_has ls 4 [(0, .ref (L 0))] := hl
  have iX3 : ∀ w ∈ wsX30, w ∈ wsX3_changes := by decide +kernel
  refine lv_lconst (v := 0) hx hb dX3_changes_0 (by decide) ?_
  refine lv_lstore_n (lv' := [(1, .long 0), (0, .ref (L 0))]) hx hb dX3_changes_1 rfl hl (by decide) rfl (fun ls hl => ?_)
  refine lv_iconst (v := 0) hx hb dX3_changes_2 (by decide) ?_
  refine lv_istore_n (lv' := [(3, .int 0), (1, .long 0), (0, .ref (L 0))]) hx hb dX3_changes_3 rfl hl (by decide) rfl (fun ls hl => ?_)
  refine lv_iload_n hx hb dX3_changes_4 rfl (lv_at hl 0 rfl) ?_
  refine lv_aload_n hx hb dX3_changes_5 rfl (lv_at hl 2 rfl) ?_
  refine wx_get (D := g.1) (cl := vwCl) (ci := 5) (v := .int (x 0 0 0)) (C := RX3) (T := TX3) (N := 8) hx hb hts iX3 hown hK hP (0) (by omega) cw_d rfl 1 (by decide) (hts (.fieldLink RX3 15 "FerroDesk" "boardCount" "I") (by decide +kernel)) (fun _ h9 => h9) rfl dX3_changes_6 ?_
  refine lv_icmp_ge (tgt := 31) hx hb dX3_changes_9 (by decide) (fun c9 => ?_) (fun c9 => absurd (by rw [hx0]; decide) c9)
  refine lv_lload_n hx hb dX3_changes_31 rfl (lv_at hl 1 rfl) ?_
  refine W.widen (k := 0) (n := 0) (Nat.le_of_ble_eq_true rfl) (Nat.le_of_ble_eq_true rfl) ?_
  exact W.lret (v := 0) hx hb hr (fun t ht hW => ⟨⟨0, x, rfl, rfl, PB.mk9 hP ht⟩, hS.F ht⟩) hS.2.2 dX3_changes_32

set_option maxHeartbeats 4000000 in
set_option maxRecDepth 100000 in
theorem kp_checksum (l : Launch) (hst : l.stackTraces = false) (g : gE) (base n : Nat) (L : Nat → Nat) (hn : 106 ≤ n) (x : St) (r0 : Nat → va_E) (hx0 : x 0 0 0 = nI 0) (hx1 : x 1 0 0 = nI 0) (hx2 : x 2 0 0 = 2) (hx3 : x 3 0 0 = nI 0) : Met l yX3_checksum wsX3_checksum ({ frames := 3, cells := 0, slots := 0, locals := 60 }) (va_Pc [.ref (L 0)] (PW SS g base n L (cw g L x r0))) (va_Ql (fun (r : Int64) (_ : St) => r = 0) (fun (u : St) t => PB g n L (cw g L u r0) t) (fun q => base ≤ q)) 0 0 (fun q => base ≤ q) := by
  refine Met.ofW (cc := cX3_checksum) (maxL := 6) (ret := (some .long)) (by decide) rfl ?_
  intro p e s m args below meth c s₁ B hml hv
  obtain ⟨rfl, hPW⟩ := hv
  obtain ⟨hbs, hJ, hP, hK, hE⟩ := id hPW
  have hx := B.exec
  have hb := B.bytes
  have hr := B.returns
  have hts := atoms_spec (ws := wsX3_checksum) B.pre
  have hown : s.vm.findClass RX3 = some m.cls := findClass_of_methodNamed B.named
  have hlocks := B.notSynchronized
  have hS : va_S (fun q : Nat => base ≤ q) s.heap s.heap [] := va_S.rf
  have hl := lv_entry ([.ref (L 0)]) (n := 6) (Nat.le_of_ble_eq_true rfl)
  rw [lg_entry_eq]
  generalize (lg_sl ([.ref (L 0)]) ++ List.replicate (6 - (lg_sl ([.ref (L 0)])).length) Slot.unset).toArray = ls at hl ⊢
  have hl : lv_has ls 6 [(0, .ref (L 0))] := hl
  have iX3 : ∀ w ∈ wsX30, w ∈ wsX3_checksum := by decide +kernel
  refine lv_lconst (v := 0) hx hb dX3_checksum_0 (by decide) ?_
  refine lv_lstore_n (lv' := [(1, .long 0), (0, .ref (L 0))]) hx hb dX3_checksum_1 rfl hl (by decide) rfl (fun ls hl => ?_)
  refine lv_iconst (v := 0) hx hb dX3_checksum_2 (by decide) ?_
  refine lv_istore_n (lv' := [(3, .int 0), (1, .long 0), (0, .ref (L 0))]) hx hb dX3_checksum_3 rfl hl (by decide) rfl (fun ls hl => ?_)
  refine lv_iload_n hx hb dX3_checksum_4 rfl (lv_at hl 0 rfl) ?_
  refine lv_aload_n hx hb dX3_checksum_5 rfl (lv_at hl 2 rfl) ?_
  refine wx_get (D := g.1) (cl := vwCl) (ci := 5) (v := .int (x 0 0 0)) (C := RX3) (T := TX3) (N := 8) hx hb hts iX3 hown hK hP (0) (by omega) cw_d rfl 1 (by decide) (hts (.fieldLink RX3 15 "FerroDesk" "boardCount" "I") (by decide +kernel)) (fun _ h9 => h9) rfl dX3_checksum_6 ?_
  refine lv_icmp_ge (tgt := 71) hx hb dX3_checksum_9 (by decide) (fun c9 => ?_) (fun c9 => absurd (by rw [hx0]; decide) c9)
  refine lv_lload_n hx hb dX3_checksum_71 rfl (lv_at hl 1 rfl) ?_
  refine W.widen (k := 0) (n := 0) (Nat.le_of_ble_eq_true rfl) (Nat.le_of_ble_eq_true rfl) ?_
  exact W.lret (v := 0) hx hb hr (fun t ht hW => ⟨⟨0, x, rfl, rfl, PB.mk9 hP ht⟩, hS.F ht⟩) hS.2.2 dX3_checksum_72

set_option maxHeartbeats 4000000 in
set_option maxRecDepth 100000 in
theorem kp_isSound (l : Launch) (hst : l.stackTraces = false) (g : gE) (base n : Nat) (L : Nat → Nat) (hn : 106 ≤ n) (x : St) (r0 : Nat → va_E) (hx0 : x 0 0 0 = nI 0) (hx1 : x 1 0 0 = nI 0) (hx2 : x 2 0 0 = 2) (hx3 : x 3 0 0 = nI 0) : Met l yX3_isSound wsX3_isSound ({ frames := 3, cells := 0, slots := 0, locals := 60 }) (va_Pc [.ref (L 0)] (PW SS g base n L (cw g L x r0))) (va_Qi (fun (r : Int32) (_ : St) => r = 1) (fun (u : St) t => PB g n L (cw g L u r0) t) (fun q => base ≤ q)) 0 0 (fun q => base ≤ q) := by
  refine Met.ofW (cc := cX3_isSound) (maxL := 4) (ret := (some .boolean)) (by decide) rfl ?_
  intro p e s m args below meth c s₁ B hml hv
  obtain ⟨rfl, hPW⟩ := hv
  obtain ⟨hbs, hJ, hP, hK, hE⟩ := id hPW
  have hx := B.exec
  have hb := B.bytes
  have hr := B.returns
  have hts := atoms_spec (ws := wsX3_isSound) B.pre
  have hown : s.vm.findClass RX3 = some m.cls := findClass_of_methodNamed B.named
  have hlocks := B.notSynchronized
  have hS : va_S (fun q : Nat => base ≤ q) s.heap s.heap [] := va_S.rf
  have hl := lv_entry ([.ref (L 0)]) (n := 4) (Nat.le_of_ble_eq_true rfl)
  rw [lg_entry_eq]
  generalize (lg_sl ([.ref (L 0)]) ++ List.replicate (4 - (lg_sl ([.ref (L 0)])).length) Slot.unset).toArray = ls at hl ⊢
  have hl : lv_has ls 4 [(0, .ref (L 0))] := hl
  have iX3 : ∀ w ∈ wsX30, w ∈ wsX3_isSound := by decide +kernel
  refine lv_iconst (v := 0) hx hb dX3_isSound_0 (by decide) ?_
  refine lv_istore_n (lv' := [(1, .int 0), (0, .ref (L 0))]) hx hb dX3_isSound_1 rfl hl (by decide) rfl (fun ls hl => ?_)
  refine lv_iload_n hx hb dX3_isSound_2 rfl (lv_at hl 0 rfl) ?_
  refine lv_aload_n hx hb dX3_isSound_3 rfl (lv_at hl 1 rfl) ?_
  refine wx_get (D := g.1) (cl := vwCl) (ci := 5) (v := .int (x 0 0 0)) (C := RX3) (T := TX3) (N := 8) hx hb hts iX3 hown hK hP (0) (by omega) cw_d rfl 1 (by decide) (hts (.fieldLink RX3 15 "FerroDesk" "boardCount" "I") (by decide +kernel)) (fun _ h9 => h9) rfl dX3_isSound_4 ?_
  refine lv_icmp_ge (tgt := 74) hx hb dX3_isSound_7 (by decide) (fun c7 => ?_) (fun c7 => absurd (by rw [hx0]; decide) c7)
  refine lv_iconst (v := 1) hx hb dX3_isSound_74 (by decide) ?_
  refine W.widen (k := 0) (n := 0) (Nat.le_of_ble_eq_true rfl) (Nat.le_of_ble_eq_true rfl) ?_
  exact W.zret (v := 1) hx hb hr (by decide) (fun t ht hW => ⟨⟨1, x, rfl, rfl, PB.mk9 hP ht⟩, hS.F ht⟩) hS.2.2 dX3_isSound_75
