/-! laid by wip/gen -/
set_option maxHeartbeats 4000000 in
set_option maxRecDepth 100000 in
theorem k_queue (l : Launch) (hst : l.stackTraces = false) (g : gE) (base n : Nat) (L : Nat → Nat) (hn : 106 ≤ n) (x : St) (r0 : Nat → va_E) (nn : Nat) (hnn : nn ≤ 40) (hx1 : x 1 0 0 = nI nn) (p0 p1 : Int32) : vx_Met l yX3_queue wsX3_queue ({ frames := 7, cells := 3, slots := 18, locals := 140 }) (va_Pc [.ref (L 0), .int p0, .int p1] (PW SS g base n L (cw g L x r0))) (va_Qi (fun (r : Int32) (u : St) => ∃ j, j < nn ∧ p0 = nI j ∧ (0 ≤ p1.toInt ∧ p1.toInt ≤ 3) ∧ (x 34 j 0 = 0 ∧ x 35 j 0 = 0) ∧ u = piF x j p1 ∧ ((r = 0 ∧ qcP x j p1) ∨ (r = 1 ∧ ¬ qcP x j p1))) (fun (u : St) t => PB g n L (cw g L u r0) t) (fun q => base ≤ q)) (QX g base n L (cw g L x r0) (fun E => (E = "java/lang/IndexOutOfBoundsException" ∧ (p0.toInt < 0 ∨ nn ≤ p0.toInt)) ∨ (∃ j, j < nn ∧ p0 = nI j ∧ ((E = "java/lang/IllegalArgumentException" ∧ (p1.toInt < 0 ∨ 3 < p1.toInt)) ∨ (E = "java/lang/UnsupportedOperationException" ∧ (0 ≤ p1.toInt ∧ p1.toInt ≤ 3) ∧ ¬ (x 34 j 0 = 0 ∧ x 35 j 0 = 0)))))) 3 18 (fun q => base ≤ q) := by
  refine vx_ofW (cc := cX3_queue) (maxL := 5) (ret := (some .boolean)) (by decide) rfl ?_
  intro p e s m args below meth c s₁ B hml hno hv
  obtain ⟨rfl, hPW⟩ := hv
  obtain ⟨hbs, hJ, hP, hK, hE⟩ := id hPW
  have hx := B.exec
  have hb := B.bytes
  have hr := B.returns
  have hts := atoms_spec (ws := wsX3_queue) B.pre
  have hown : s.vm.findClass RX3 = some m.cls := findClass_of_methodNamed B.named
  have hlocks := B.notSynchronized
  have hS : va_S (fun q : Nat => base ≤ q) s.heap s.heap [] := va_S.rf
  have hl := lv_entry ([.ref (L 0), .int p0, .int p1]) (n := 5) (Nat.le_of_ble_eq_true rfl)
  rw [lg_entry_eq]
  generalize (lg_sl ([.ref (L 0), .int p0, .int p1]) ++ List.replicate (5 - (lg_sl ([.ref (L 0), .int p0, .int p1])).length) Slot.unset).toArray = ls at hl ⊢
  have hl : lv_has ls 5 [(0, .ref (L 0)), (1, .int p0), (2, .int p1)] := hl
  have iX1 : ∀ w ∈ wsX10, w ∈ wsX3_queue := by decide +kernel
  have iX3 : ∀ w ∈ wsX30, w ∈ wsX3_queue := by decide +kernel
  refine lv_aload_n hx hb dX3_queue_0 rfl (lv_at hl 0 rfl) ?_
  refine lv_iload_n hx hb dX3_queue_1 rfl (lv_at hl 1 rfl) ?_
  refine wx_xcallr (G := fun u => 26 + 2 * u) (vx_runV (As := [.int p0]) (rest := []) ⟨hx, hb, hml, hown, hts⟩ (k_noticeAt l hst g base n L (by omega) x r0 nn hnn hx1 p0) (cwV 1 hts gX3_queue_X3_noticeAt rfl rfl rfl (by decide +kernel) ⟨Nat.le_of_ble_eq_true rfl, Nat.le_of_ble_eq_true rfl⟩) (hPW.preV hP hS (ci := 5) rfl (by omega) cw_d) rfl rfl hl.1 rfl (lv_room (Nat.le_of_ble_eq_true rfl)) dX3_queue_2 ⟨Nat.le_of_ble_eq_true rfl, Nat.le_of_ble_eq_true rfl⟩) hS (fun E ce q9 H locs hpx hP hS h1 h2 h3 => ?_) (fun u2 H locs h2 hP hS => ?_)
  · exact wx_out hno hlocks h1 h2 h3 (Or.inl hpx) hP hS (Nat.le_of_ble_eq_true rfl) (Nat.le_of_ble_eq_true rfl)
  obtain ⟨hu2, eu2⟩ := h2
  refine lv_astore_n (lv' := [(3, .ref (L (26 + 2 * u2))), (0, .ref (L 0)), (1, .int p0), (2, .int p1)]) hx hb dX3_queue_5 rfl hl (by decide) rfl (fun ls hl => ?_)
  refine lv_iload_n hx hb dX3_queue_6 rfl (lv_at hl 3 rfl) ?_
  refine wx_xcallv (vx_runS (As := [.int p1]) (rest := []) ⟨hx, hb, hml, hown, hts⟩ (k_checkDistrict l hst g base n L (cw g L x r0) p1) (va_cwS 1 hts gX3_queue_X3_checkDistrict rfl rfl rfl (by decide +kernel) ⟨Nat.le_of_ble_eq_true rfl, Nat.le_of_ble_eq_true rfl⟩) (hPW.preS hP hS) rfl rfl hl.1 rfl (lv_room (Nat.le_of_ble_eq_true rfl)) dX3_queue_7 ⟨Nat.le_of_ble_eq_true rfl, Nat.le_of_ble_eq_true rfl⟩) hS (fun E ce q9 H locs hpx hP hS h1 h2 h3 => ?_) (fun u7 H locs h7 hP hS => ?_)
  · exact wx_out hno hlocks h1 h2 h3 (Or.inr ⟨u2, hu2, eu2, Or.inl hpx⟩) hP hS (Nat.le_of_ble_eq_true rfl) (Nat.le_of_ble_eq_true rfl)
  refine lv_aload_n hx hb dX3_queue_10 rfl (lv_at hl 0 rfl) ?_
  refine wx_getN (D := g.1) (cl := vwCl) (ci := 3) (v := .int (x 34 u2 0)) (C := RX1) (T := TX1) (N := 9) hx hb hts iX1 hown hK hP (26 + 2 * u2) (by omega) (cw_n (by omega)) rfl 6 (by decide) (hE.1 _ (ng_in (w := (Cond.fieldLinkNest "FerroDesk" 118 "FerroDesk$Notice" "mended" "Z" "FerroDesk")) (by decide +kernel))) (fun _ h9 => h9) rfl dX3_queue_11 ?_
  refine lv_if_ne (tgt := 24) hx hb dX3_queue_14 (by decide) (fun c14 => ?_) (fun c14 => ?_)
  · exact wx_throwS (ik := 124) (is := 126) (ic := 128) (own := RX3) (cls := "java/lang/UnsupportedOperationException") (text := "it was mended or taken back") (names := ["java/lang/RuntimeException", "java/lang/Exception"]) hx hb hst hPW hown (by decide +kernel) (by decide +kernel) (hts (.classLink RX3 124 "java/lang/UnsupportedOperationException") (by decide +kernel)) (hts (.initialized "java/lang/UnsupportedOperationException") (by decide +kernel)) (by decide +kernel) (fun w hw => hts w (List.mem_cons_of_mem _ (List.mem_append_left _ (List.mem_append_left _ (List.mem_append_right _ hw))))) (by decide +kernel) (by decide +kernel) hP hS (hl.1.trans hml.symm) dX3_queue_24 dX3_queue_27 dX3_queue_28 dX3_queue_30 dX3_queue_33 hno (Nat.lt_of_lt_of_le (Nat.lt_succ_self _) (Nat.le_of_ble_eq_true rfl)) (Nat.le_of_ble_eq_true rfl) (Nat.le_of_ble_eq_true rfl) (Nat.le_of_ble_eq_true rfl) hlocks (Or.inr ⟨u2, hu2, eu2, Or.inr ⟨rfl, h7, fun h9 => c14 h9.1⟩⟩) (Nat.le_of_ble_eq_true rfl) (Nat.le_of_ble_eq_true rfl)
  · refine lv_aload_n hx hb dX3_queue_17 rfl (lv_at hl 0 rfl) ?_
    refine wx_getN (D := g.1) (cl := vwCl) (ci := 3) (v := .int (x 35 u2 0)) (C := RX1) (T := TX1) (N := 9) hx hb hts iX1 hown hK hP (26 + 2 * u2) (by omega) (cw_n (by omega)) rfl 7 (by decide) (hE.1 _ (ng_in (w := (Cond.fieldLinkNest "FerroDesk" 121 "FerroDesk$Notice" "takenBack" "Z" "FerroDesk")) (by decide +kernel))) (fun _ h9 => h9) rfl dX3_queue_18 ?_
    refine lv_if_eq (tgt := 34) hx hb dX3_queue_21 (by decide) (fun c21 => ?_) (fun c21 => ?_)
    · refine lv_aload_n hx hb dX3_queue_34 rfl (lv_at hl 0 rfl) ?_
      refine lv_iload_n hx hb dX3_queue_35 rfl (lv_at hl 3 rfl) ?_
      refine lv_aload_n hx hb dX3_queue_36 rfl (lv_at hl 1 rfl) ?_
      refine wx_get (D := g.1) (cl := vwCl) (ci := 5) (v := .int (x 3 0 0)) (C := RX3) (T := TX3) (N := 8) hx hb hts iX3 hown hK hP (0) (by omega) cw_d rfl 7 (by decide) (hts (.fieldLink RX3 41 "FerroDesk" "hour" "I") (by decide +kernel)) (fun _ h9 => h9) rfl dX3_queue_37 ?_
      refine wx_calli (va_runV (As := [.int p1, .int (x 3 0 0)]) (rest := []) ⟨hx, hb, hml, hown, hts⟩ (k_isQueuedIn l hst g base n L (by omega) x r0 u2 (by omega) p1 (x 3 0 0)) (cwV 2 hts gX3_queue_X1_isQueuedIn rfl rfl rfl (by decide +kernel) ⟨Nat.le_of_ble_eq_true rfl, Nat.le_of_ble_eq_true rfl⟩) (hPW.preV hP hS (ci := 3) rfl (by omega) (cw_n (by omega))) rfl rfl hl.1 rfl (lv_room (Nat.le_of_ble_eq_true rfl)) dX3_queue_40 ⟨Nat.le_of_ble_eq_true rfl, Nat.le_of_ble_eq_true rfl⟩) hS (fun r40 u40 H locs h40 hP hS => ?_)
      rcases h40 with ⟨rfl, h40⟩ | ⟨rfl, h40⟩
      · refine lv_istore (lv' := [(4, .int 1), (3, .ref (L (26 + 2 * u2))), (0, .ref (L 0)), (1, .int p0), (2, .int p1)]) hx hb dX3_queue_43 hl (by decide) rfl (fun ls hl => ?_)
        refine lv_aload_n hx hb dX3_queue_45 rfl (lv_at hl 1 rfl) ?_
        refine lv_iload_n hx hb dX3_queue_46 rfl (lv_at hl 4 rfl) ?_
        refine wx_callv (va_runV (As := [.int p1]) (rest := []) ⟨hx, hb, hml, hown, hts⟩ (k_putInto l hst g base n L (by omega) x r0 u2 (by omega) p1) (cwV 1 hts gX3_queue_X1_putInto rfl rfl rfl (by decide +kernel) ⟨Nat.le_of_ble_eq_true rfl, Nat.le_of_ble_eq_true rfl⟩) (hPW.preV hP hS (ci := 3) rfl (by omega) (cw_n (by omega))) rfl rfl hl.1 rfl (lv_room (Nat.le_of_ble_eq_true rfl)) dX3_queue_47 ⟨Nat.le_of_ble_eq_true rfl, Nat.le_of_ble_eq_true rfl⟩) hS (fun u47 H locs h47 hP hS => ?_)
        obtain rfl := h47
        refine lv_iload hx hb dX3_queue_50 (lv_at hl 0 rfl) ?_
        refine lv_if_ne (tgt := 59) hx hb dX3_queue_52 (by decide) (fun c52 => ?_) (fun c52 => absurd c52 (by decide))
        refine lv_iconst (v := 0) hx hb dX3_queue_59 (by decide) ?_
        refine W.widen (k := 3) (n := 18) (Nat.le_of_ble_eq_true rfl) (Nat.le_of_ble_eq_true rfl) ?_
        exact vx_ret (W.zret (v := 0) hx hb hr (by decide) (fun t ht hW => ⟨⟨0, (piF x u2 p1), rfl, ⟨u2, hu2, eu2, h7, ⟨c14, c21⟩, rfl, Or.inl ⟨rfl, h40⟩⟩, PB.mk9 hP ht⟩, hS.F ht⟩) hS.2.2 dX3_queue_60)
      · refine lv_istore (lv' := [(4, .int 0), (3, .ref (L (26 + 2 * u2))), (0, .ref (L 0)), (1, .int p0), (2, .int p1)]) hx hb dX3_queue_43 hl (by decide) rfl (fun ls hl => ?_)
        refine lv_aload_n hx hb dX3_queue_45 rfl (lv_at hl 1 rfl) ?_
        refine lv_iload_n hx hb dX3_queue_46 rfl (lv_at hl 4 rfl) ?_
        refine wx_callv (va_runV (As := [.int p1]) (rest := []) ⟨hx, hb, hml, hown, hts⟩ (k_putInto l hst g base n L (by omega) x r0 u2 (by omega) p1) (cwV 1 hts gX3_queue_X1_putInto rfl rfl rfl (by decide +kernel) ⟨Nat.le_of_ble_eq_true rfl, Nat.le_of_ble_eq_true rfl⟩) (hPW.preV hP hS (ci := 3) rfl (by omega) (cw_n (by omega))) rfl rfl hl.1 rfl (lv_room (Nat.le_of_ble_eq_true rfl)) dX3_queue_47 ⟨Nat.le_of_ble_eq_true rfl, Nat.le_of_ble_eq_true rfl⟩) hS (fun u47 H locs h47 hP hS => ?_)
        obtain rfl := h47
        refine lv_iload hx hb dX3_queue_50 (lv_at hl 0 rfl) ?_
        refine lv_if_ne (tgt := 59) hx hb dX3_queue_52 (by decide) (fun c52 => absurd c52 (by decide)) (fun c52 => ?_)
        refine lv_iconst (v := 1) hx hb dX3_queue_55 (by decide) ?_
        refine lv_goto (tgt := 60) hx hb dX3_queue_56 (by decide) ?_
        refine W.widen (k := 3) (n := 18) (Nat.le_of_ble_eq_true rfl) (Nat.le_of_ble_eq_true rfl) ?_
        exact vx_ret (W.zret (v := 1) hx hb hr (by decide) (fun t ht hW => ⟨⟨1, (piF x u2 p1), rfl, ⟨u2, hu2, eu2, h7, ⟨c14, c21⟩, rfl, Or.inr ⟨rfl, h40⟩⟩, PB.mk9 hP ht⟩, hS.F ht⟩) hS.2.2 dX3_queue_60)
    · exact wx_throwS (ik := 124) (is := 126) (ic := 128) (own := RX3) (cls := "java/lang/UnsupportedOperationException") (text := "it was mended or taken back") (names := ["java/lang/RuntimeException", "java/lang/Exception"]) hx hb hst hPW hown (by decide +kernel) (by decide +kernel) (hts (.classLink RX3 124 "java/lang/UnsupportedOperationException") (by decide +kernel)) (hts (.initialized "java/lang/UnsupportedOperationException") (by decide +kernel)) (by decide +kernel) (fun w hw => hts w (List.mem_cons_of_mem _ (List.mem_append_left _ (List.mem_append_left _ (List.mem_append_right _ hw))))) (by decide +kernel) (by decide +kernel) hP hS (hl.1.trans hml.symm) dX3_queue_24 dX3_queue_27 dX3_queue_28 dX3_queue_30 dX3_queue_33 hno (Nat.lt_of_lt_of_le (Nat.lt_succ_self _) (Nat.le_of_ble_eq_true rfl)) (Nat.le_of_ble_eq_true rfl) (Nat.le_of_ble_eq_true rfl) (Nat.le_of_ble_eq_true rfl) hlocks (Or.inr ⟨u2, hu2, eu2, Or.inr ⟨rfl, h7, fun h9 => c21 h9.2⟩⟩) (Nat.le_of_ble_eq_true rfl) (Nat.le_of_ble_eq_true rfl)

set_option maxHeartbeats 4000000 in
set_option maxRecDepth 100000 in
theorem k_mend (l : Launch) (hst : l.stackTraces = false) (g : gE) (base n : Nat) (L : Nat → Nat) (hn : 106 ≤ n) (x : St) (r0 : Nat → va_E) (nb : Nat) (hnb : nb ≤ 6) (hx0 : x 0 0 0 = nI nb) (nn : Nat) (hnn : nn ≤ 40) (hx1 : x 1 0 0 = nI nn) (hrk : ∀ j, j < 40 → (x 43 0 j).toNatClampNeg < 40) (p0 p1 : Int32) : vx_Met l yX3_mend wsX3_mend ({ frames := 9, cells := 3, slots := 18, locals := 220 }) (va_Pc [.ref (L 0), .int p0, .int p1] (PW SS g base n L (cw g L x r0))) (va_Qi (fun (r : Int32) (u : St) => ∃ j, j < nn ∧ p0 = nI j ∧ (p1 ≠ 0 ∧ p1 ≠ x 31 j 0) ∧ (x 34 j 0 = 0 ∧ ¬ x 33 j 0 ≤ x 3 0 0) ∧ nn < 40 ∧ u = mdF x j nn nb p1 ∧ r = nI nn) (fun (u : St) t => PB g n L (cw g L u r0) t) (fun q => base ≤ q)) (QX g base n L (cw g L x r0) (fun E => (E = "java/lang/IndexOutOfBoundsException" ∧ (p0.toInt < 0 ∨ nn ≤ p0.toInt)) ∨ (∃ j, j < nn ∧ p0 = nI j ∧ ((E = "java/lang/IllegalArgumentException" ∧ ¬ (p1 ≠ 0 ∧ p1 ≠ x 31 j 0)) ∨ (E = "java/lang/UnsupportedOperationException" ∧ (p1 ≠ 0 ∧ p1 ≠ x 31 j 0) ∧ ¬ (x 34 j 0 = 0 ∧ ¬ x 33 j 0 ≤ x 3 0 0)) ∨ (E = "java/lang/IllegalStateException" ∧ (p1 ≠ 0 ∧ p1 ≠ x 31 j 0) ∧ (x 34 j 0 = 0 ∧ ¬ x 33 j 0 ≤ x 3 0 0) ∧ nn = 40))))) 3 18 (fun q => base ≤ q) := by
  refine vx_ofW (cc := cX3_mend) (maxL := 6) (ret := (some .int)) (by decide) rfl ?_
  intro p e s m args below meth c s₁ B hml hno hv
  obtain ⟨rfl, hPW⟩ := hv
  obtain ⟨hbs, hJ, hP, hK, hE⟩ := id hPW
  have hx := B.exec
  have hb := B.bytes
  have hr := B.returns
  have hts := atoms_spec (ws := wsX3_mend) B.pre
  have hown : s.vm.findClass RX3 = some m.cls := findClass_of_methodNamed B.named
  have hlocks := B.notSynchronized
  have hS : va_S (fun q : Nat => base ≤ q) s.heap s.heap [] := va_S.rf
  have hl := lv_entry ([.ref (L 0), .int p0, .int p1]) (n := 6) (Nat.le_of_ble_eq_true rfl)
  rw [lg_entry_eq]
  generalize (lg_sl ([.ref (L 0), .int p0, .int p1]) ++ List.replicate (6 - (lg_sl ([.ref (L 0), .int p0, .int p1])).length) Slot.unset).toArray = ls at hl ⊢
  have hl : lv_has ls 6 [(0, .ref (L 0)), (1, .int p0), (2, .int p1)] := hl
  have iX1 : ∀ w ∈ wsX10, w ∈ wsX3_mend := by decide +kernel
  have iX3 : ∀ w ∈ wsX30, w ∈ wsX3_mend := by decide +kernel
  refine lv_aload_n hx hb dX3_mend_0 rfl (lv_at hl 0 rfl) ?_
  refine lv_iload_n hx hb dX3_mend_1 rfl (lv_at hl 1 rfl) ?_
  refine wx_xcallr (G := fun u => 26 + 2 * u) (vx_runV (As := [.int p0]) (rest := []) ⟨hx, hb, hml, hown, hts⟩ (k_noticeAt l hst g base n L (by omega) x r0 nn hnn hx1 p0) (cwV 1 hts gX3_mend_X3_noticeAt rfl rfl rfl (by decide +kernel) ⟨Nat.le_of_ble_eq_true rfl, Nat.le_of_ble_eq_true rfl⟩) (hPW.preV hP hS (ci := 5) rfl (by omega) cw_d) rfl rfl hl.1 rfl (lv_room (Nat.le_of_ble_eq_true rfl)) dX3_mend_2 ⟨Nat.le_of_ble_eq_true rfl, Nat.le_of_ble_eq_true rfl⟩) hS (fun E ce q9 H locs hpx hP hS h1 h2 h3 => ?_) (fun u2 H locs h2 hP hS => ?_)
  · exact wx_out hno hlocks h1 h2 h3 (Or.inl hpx) hP hS (Nat.le_of_ble_eq_true rfl) (Nat.le_of_ble_eq_true rfl)
  obtain ⟨hu2, eu2⟩ := h2
  refine lv_astore_n (lv' := [(3, .ref (L (26 + 2 * u2))), (0, .ref (L 0)), (1, .int p0), (2, .int p1)]) hx hb dX3_mend_5 rfl hl (by decide) rfl (fun ls hl => ?_)
  refine lv_iload_n hx hb dX3_mend_6 rfl (lv_at hl 3 rfl) ?_
  refine lv_if_eq (tgt := 18) hx hb dX3_mend_7 (by decide) (fun c7 => ?_) (fun c7 => ?_)
  · exact wx_throwS (ik := 51) (is := 150) (ic := 55) (own := RX3) (cls := "java/lang/IllegalArgumentException") (text := "the picture is 0, or the same") (names := ["java/lang/RuntimeException", "java/lang/Exception"]) hx hb hst hPW hown (by decide +kernel) (by decide +kernel) (hts (.classLink RX3 51 "java/lang/IllegalArgumentException") (by decide +kernel)) (hts (.initialized "java/lang/IllegalArgumentException") (by decide +kernel)) (by decide +kernel) (fun w hw => hts w (List.mem_cons_of_mem _ (List.mem_append_left _ (List.mem_append_left _ (List.mem_append_left _ (List.mem_append_left _ (List.mem_append_right _ hw))))))) (by decide +kernel) (by decide +kernel) hP hS (hl.1.trans hml.symm) dX3_mend_18 dX3_mend_21 dX3_mend_22 dX3_mend_24 dX3_mend_27 hno (Nat.lt_of_lt_of_le (Nat.lt_succ_self _) (Nat.le_of_ble_eq_true rfl)) (Nat.le_of_ble_eq_true rfl) (Nat.le_of_ble_eq_true rfl) (Nat.le_of_ble_eq_true rfl) hlocks (Or.inr ⟨u2, hu2, eu2, Or.inl ⟨rfl, fun h9 => h9.1 c7⟩⟩) (Nat.le_of_ble_eq_true rfl) (Nat.le_of_ble_eq_true rfl)
  · refine lv_iload_n hx hb dX3_mend_10 rfl (lv_at hl 3 rfl) ?_
    refine lv_aload_n hx hb dX3_mend_11 rfl (lv_at hl 0 rfl) ?_
    refine wx_getN (D := g.1) (cl := vwCl) (ci := 3) (v := .int (x 31 u2 0)) (C := RX1) (T := TX1) (N := 9) hx hb hts iX1 hown hK hP (26 + 2 * u2) (by omega) (cw_n (by omega)) rfl 3 (by decide) (hE.1 _ (ng_in (w := (Cond.fieldLinkNest "FerroDesk" 147 "FerroDesk$Notice" "picture" "I" "FerroDesk")) (by decide +kernel))) (fun _ h9 => h9) rfl dX3_mend_12 ?_
    refine lv_icmp_ne (tgt := 28) hx hb dX3_mend_15 (by decide) (fun c15 => ?_) (fun c15 => ?_)
    · refine lv_aload_n hx hb dX3_mend_28 rfl (lv_at hl 0 rfl) ?_
      refine wx_getN (D := g.1) (cl := vwCl) (ci := 3) (v := .int (x 34 u2 0)) (C := RX1) (T := TX1) (N := 9) hx hb hts iX1 hown hK hP (26 + 2 * u2) (by omega) (cw_n (by omega)) rfl 6 (by decide) (hE.1 _ (ng_in (w := (Cond.fieldLinkNest "FerroDesk" 118 "FerroDesk$Notice" "mended" "Z" "FerroDesk")) (by decide +kernel))) (fun _ h9 => h9) rfl dX3_mend_29 ?_
      refine lv_if_ne (tgt := 46) hx hb dX3_mend_32 (by decide) (fun c32 => ?_) (fun c32 => ?_)
      · exact wx_throwS (ik := 124) (is := 156) (ic := 128) (own := RX3) (cls := "java/lang/UnsupportedOperationException") (text := "it was mended, or its hours are over") (names := ["java/lang/RuntimeException", "java/lang/Exception"]) hx hb hst hPW hown (by decide +kernel) (by decide +kernel) (hts (.classLink RX3 124 "java/lang/UnsupportedOperationException") (by decide +kernel)) (hts (.initialized "java/lang/UnsupportedOperationException") (by decide +kernel)) (by decide +kernel) (fun w hw => hts w (List.mem_cons_of_mem _ (List.mem_append_left _ (List.mem_append_left _ (List.mem_append_left _ (List.mem_append_right _ hw)))))) (by decide +kernel) (by decide +kernel) hP hS (hl.1.trans hml.symm) dX3_mend_46 dX3_mend_49 dX3_mend_50 dX3_mend_52 dX3_mend_55 hno (Nat.lt_of_lt_of_le (Nat.lt_succ_self _) (Nat.le_of_ble_eq_true rfl)) (Nat.le_of_ble_eq_true rfl) (Nat.le_of_ble_eq_true rfl) (Nat.le_of_ble_eq_true rfl) hlocks (Or.inr ⟨u2, hu2, eu2, Or.inr (Or.inl ⟨rfl, ⟨c7, c15⟩, fun h9 => c32 h9.1⟩)⟩) (Nat.le_of_ble_eq_true rfl) (Nat.le_of_ble_eq_true rfl)
      · refine lv_aload_n hx hb dX3_mend_35 rfl (lv_at hl 0 rfl) ?_
        refine lv_aload_n hx hb dX3_mend_36 rfl (lv_at hl 1 rfl) ?_
        refine wx_get (D := g.1) (cl := vwCl) (ci := 5) (v := .int (x 3 0 0)) (C := RX3) (T := TX3) (N := 8) hx hb hts iX3 hown hK hP (0) (by omega) cw_d rfl 7 (by decide) (hts (.fieldLink RX3 41 "FerroDesk" "hour" "I") (by decide +kernel)) (fun _ h9 => h9) rfl dX3_mend_37 ?_
        refine wx_calli (va_runV (As := [.int (x 3 0 0)]) (rest := []) ⟨hx, hb, hml, hown, hts⟩ (k_isOver l hst g base n L (by omega) x r0 u2 (by omega) (x 3 0 0)) (cwV 1 hts gX3_mend_X1_isOver rfl rfl rfl (by decide +kernel) ⟨Nat.le_of_ble_eq_true rfl, Nat.le_of_ble_eq_true rfl⟩) (hPW.preV hP hS (ci := 3) rfl (by omega) (cw_n (by omega))) rfl rfl hl.1 rfl (lv_room (Nat.le_of_ble_eq_true rfl)) dX3_mend_40 ⟨Nat.le_of_ble_eq_true rfl, Nat.le_of_ble_eq_true rfl⟩) hS (fun r40 u40 H locs h40 hP hS => ?_)
        rcases h40 with ⟨rfl, h40⟩ | ⟨rfl, h40⟩
        · refine lv_if_eq (tgt := 56) hx hb dX3_mend_43 (by decide) (fun c43 => absurd c43 (by decide)) (fun c43 => ?_)
          exact wx_throwS (ik := 124) (is := 156) (ic := 128) (own := RX3) (cls := "java/lang/UnsupportedOperationException") (text := "it was mended, or its hours are over") (names := ["java/lang/RuntimeException", "java/lang/Exception"]) hx hb hst hPW hown (by decide +kernel) (by decide +kernel) (hts (.classLink RX3 124 "java/lang/UnsupportedOperationException") (by decide +kernel)) (hts (.initialized "java/lang/UnsupportedOperationException") (by decide +kernel)) (by decide +kernel) (fun w hw => hts w (List.mem_cons_of_mem _ (List.mem_append_left _ (List.mem_append_left _ (List.mem_append_left _ (List.mem_append_right _ hw)))))) (by decide +kernel) (by decide +kernel) hP hS (hl.1.trans hml.symm) dX3_mend_46 dX3_mend_49 dX3_mend_50 dX3_mend_52 dX3_mend_55 hno (Nat.lt_of_lt_of_le (Nat.lt_succ_self _) (Nat.le_of_ble_eq_true rfl)) (Nat.le_of_ble_eq_true rfl) (Nat.le_of_ble_eq_true rfl) (Nat.le_of_ble_eq_true rfl) hlocks (Or.inr ⟨u2, hu2, eu2, Or.inr (Or.inl ⟨rfl, ⟨c7, c15⟩, fun h9 => h9.2 h40⟩)⟩) (Nat.le_of_ble_eq_true rfl) (Nat.le_of_ble_eq_true rfl)
        · refine lv_if_eq (tgt := 56) hx hb dX3_mend_43 (by decide) (fun c43 => ?_) (fun c43 => absurd (by decide) c43)
          refine lv_aload_n hx hb dX3_mend_56 rfl (lv_at hl 0 rfl) ?_
          refine wx_getN (D := g.1) (cl := vwCl) (ci := 3) (v := .int (x 30 u2 0)) (C := RX1) (T := TX1) (N := 9) hx hb hts iX1 hown hK hP (26 + 2 * u2) (by omega) (cw_n (by omega)) rfl 2 (by decide) (hE.1 _ (ng_in (w := (Cond.fieldLinkNest "FerroDesk" 158 "FerroDesk$Notice" "rank" "I" "FerroDesk")) (by decide +kernel))) (fun _ h9 => h9) rfl dX3_mend_57 ?_
          refine lv_iconst (v := 1) hx hb dX3_mend_60 (by decide) ?_
          refine lv_iadd hx hb dX3_mend_61 ?_
          refine lv_bipush (v := 10) hx hb dX3_mend_62 (by decide) ?_
          refine va_mmin hx hb (hml.trans hl.1.symm) hown (hts (.methodLink RX3 161 Lib.Math.min.name) (by decide +kernel)) (hts (.static Lib.Math.min.name) (by decide +kernel)) (hts (.initialized "java/lang/Math") (by decide +kernel)) (hts (.code Lib.Math.min.name Lib.Math.min.code 2 (some .int)) (by decide +kernel)) (Nat.le_of_ble_eq_true rfl) (Nat.le_of_ble_eq_true rfl) (Nat.le_of_ble_eq_true rfl) (Nat.le_of_ble_eq_true rfl) dX3_mend_64 ?_
          refine lv_istore (lv' := [(4, .int (if 10 < ((x 30 u2 0) + 1) then 10 else ((x 30 u2 0) + 1))), (3, .ref (L (26 + 2 * u2))), (0, .ref (L 0)), (1, .int p0), (2, .int p1)]) hx hb dX3_mend_67 hl (by decide) rfl (fun ls hl => ?_)
          refine lv_aload_n hx hb dX3_mend_69 rfl (lv_at hl 2 rfl) ?_
          refine lv_iload hx hb dX3_mend_70 (lv_at hl 0 rfl) ?_
          refine lv_iload_n hx hb dX3_mend_72 rfl (lv_at hl 4 rfl) ?_
          refine lv_aload_n hx hb dX3_mend_73 rfl (lv_at hl 2 rfl) ?_
          refine wx_get (D := g.1) (cl := vwCl) (ci := 5) (v := .int (x 3 0 0)) (C := RX3) (T := TX3) (N := 8) hx hb hts iX3 hown hK hP (0) (by omega) cw_d rfl 7 (by decide) (hts (.fieldLink RX3 41 "FerroDesk" "hour" "I") (by decide +kernel)) (fun _ h9 => h9) rfl dX3_mend_74 ?_
          refine lv_aload_n hx hb dX3_mend_77 rfl (lv_at hl 1 rfl) ?_
          refine wx_getN (D := g.1) (cl := vwCl) (ci := 3) (v := .int (x 32 u2 0)) (C := RX1) (T := TX1) (N := 9) hx hb hts iX1 hown hK hP (26 + 2 * u2) (by omega) (cw_n (by omega)) rfl 4 (by decide) (hE.1 _ (ng_in (w := (Cond.fieldLinkNest "FerroDesk" 166 "FerroDesk$Notice" "from" "I" "FerroDesk")) (by decide +kernel))) (fun _ h9 => h9) rfl dX3_mend_78 ?_
          refine va_mmax hx hb (hml.trans hl.1.symm) hown (hts (.methodLink RX3 169 Lib.Math.max.name) (by decide +kernel)) (hts (.static Lib.Math.max.name) (by decide +kernel)) (hts (.initialized "java/lang/Math") (by decide +kernel)) (hts (.code Lib.Math.max.name Lib.Math.max.code 2 (some .int)) (by decide +kernel)) (Nat.le_of_ble_eq_true rfl) (Nat.le_of_ble_eq_true rfl) (Nat.le_of_ble_eq_true rfl) (Nat.le_of_ble_eq_true rfl) dX3_mend_81 ?_
          refine lv_aload_n hx hb dX3_mend_84 rfl (lv_at hl 1 rfl) ?_
          refine wx_getN (D := g.1) (cl := vwCl) (ci := 3) (v := .int (x 33 u2 0)) (C := RX1) (T := TX1) (N := 9) hx hb hts iX1 hown hK hP (26 + 2 * u2) (by omega) (cw_n (by omega)) rfl 5 (by decide) (hE.1 _ (ng_in (w := (Cond.fieldLinkNest "FerroDesk" 136 "FerroDesk$Notice" "till" "I" "FerroDesk")) (by decide +kernel))) (fun _ h9 => h9) rfl dX3_mend_85 ?_
          refine wx_xcallr (G := fun _ => 26 + 2 * nn) (vx_runV (As := [.int (if 10 < ((x 30 u2 0) + 1) then 10 else ((x 30 u2 0) + 1)), .int p1, .int (if (x 3 0 0) < (x 32 u2 0) then (x 32 u2 0) else (x 3 0 0)), .int (x 33 u2 0)]) (rest := []) ⟨hx, hb, hml, hown, hts⟩ (k_take l hst g base n L (by omega) x r0 nn hnn hx1 hrk (if 10 < ((x 30 u2 0) + 1) then 10 else ((x 30 u2 0) + 1)) p1 (if (x 3 0 0) < (x 32 u2 0) then (x 32 u2 0) else (x 3 0 0)) (x 33 u2 0)) (cwV 4 hts gX3_mend_X3_take rfl rfl rfl (by decide +kernel) ⟨Nat.le_of_ble_eq_true rfl, Nat.le_of_ble_eq_true rfl⟩) (hPW.preV hP hS (ci := 5) rfl (by omega) cw_d) rfl rfl hl.1 rfl (lv_room (Nat.le_of_ble_eq_true rfl)) dX3_mend_88 ⟨Nat.le_of_ble_eq_true rfl, Nat.le_of_ble_eq_true rfl⟩) hS (fun E ce q9 H locs hpx hP hS h1 h2 h3 => ?_) (fun u88 H locs h88 hP hS => ?_)
          · exact wx_out hno hlocks h1 h2 h3 (Or.inr ⟨u2, hu2, eu2, Or.inr (Or.inr ⟨hpx.1, ⟨c7, c15⟩, ⟨c32, h40⟩, hpx.2⟩)⟩) hP hS (Nat.le_of_ble_eq_true rfl) (Nat.le_of_ble_eq_true rfl)
          obtain ⟨hlt, rfl⟩ := h88
          refine lv_astore (lv' := [(5, .ref (L (26 + 2 * nn))), (4, .int (if 10 < ((x 30 u2 0) + 1) then 10 else ((x 30 u2 0) + 1))), (3, .ref (L (26 + 2 * u2))), (0, .ref (L 0)), (1, .int p0), (2, .int p1)]) hx hb dX3_mend_91 hl (by decide) rfl (fun ls hl => ?_)
          refine lv_aload_n hx hb dX3_mend_93 rfl (lv_at hl 3 rfl) ?_
          refine lv_aload hx hb dX3_mend_94 (lv_at hl 0 rfl) ?_
          refine lv_aload_n hx hb dX3_mend_96 rfl (lv_at hl 2 rfl) ?_
          refine wx_callv (va_runV (As := [.ref (L (26 + 2 * nn)), .ref (L (26 + 2 * u2))]) (rest := []) ⟨hx, hb, hml, hown, hts⟩ (k_queueWhereRead l hst g base n L (by omega) (tkF x nn (if 10 < ((x 30 u2 0) + 1) then 10 else ((x 30 u2 0) + 1)) p1 (if (x 3 0 0) < (x 32 u2 0) then (x 32 u2 0) else (x 3 0 0)) (x 33 u2 0)) r0 nb hnb ((tk_r (by omega)).trans hx0) nn (by omega) u2 (by omega)) (cwV 2 hts gX3_mend_X3_queueWhereRead rfl rfl rfl (by decide +kernel) ⟨Nat.le_of_ble_eq_true rfl, Nat.le_of_ble_eq_true rfl⟩) (hPW.preV hP hS (ci := 5) rfl (by omega) cw_d) rfl rfl hl.1 rfl (lv_room (Nat.le_of_ble_eq_true rfl)) dX3_mend_97 ⟨Nat.le_of_ble_eq_true rfl, Nat.le_of_ble_eq_true rfl⟩) hS (fun u97 H locs h97 hP hS => ?_)
          obtain rfl := h97
          refine lv_aload_n hx hb dX3_mend_100 rfl (lv_at hl 2 rfl) ?_
          refine lv_iconst (v := 1) hx hb dX3_mend_101 (by decide) ?_
          refine wx_putN (D := g.1) (cl := vwCl) (ci := 3) (v := .int 1) (ty := .boolean) (w' := cw g L (st (qwF (tkF x nn (if 10 < ((x 30 u2 0) + 1) then 10 else ((x 30 u2 0) + 1)) p1 (if (x 3 0 0) < (x 32 u2 0) then (x 32 u2 0) else (x 3 0 0)) (x 33 u2 0)) nn u2 nb 4) 34 u2 0 1) r0) (C := RX1) (T := TX1) (N := 9) hx hb hts iX1 tyX1 tyX1_ok nmX1 hown hK hP hJ hS (26 + 2 * u2) (by omega) (cw_n (by omega)) rfl 6 (by decide) (hE.1 _ (ng_in (w := (Cond.fieldLinkNest "FerroDesk" 118 "FerroDesk$Notice" "mended" "Z" "FerroDesk")) (by decide +kernel))) (fun _ h9 => h9) rfl (by decide +kernel) rfl rfl (Nat.le_of_ble_eq_true rfl) dX3_mend_102 (cw_put (r := 34) (i := u2) (j := 0) rfl (by omega) (dk_n.trans (by simp [nF, st]))) (fun H locs hP hS => ?_)
          refine lv_aload_n hx hb dX3_mend_105 rfl (lv_at hl 2 rfl) ?_
          refine lv_aload_n hx hb dX3_mend_106 rfl (lv_at hl 3 rfl) ?_
          refine wx_get (D := g.1) (cl := vwCl) (ci := 5) (v := .int ((st (qwF (tkF x nn (if 10 < ((x 30 u2 0) + 1) then 10 else ((x 30 u2 0) + 1)) p1 (if (x 3 0 0) < (x 32 u2 0) then (x 32 u2 0) else (x 3 0 0)) (x 33 u2 0)) nn u2 nb 4) 34 u2 0 1) 3 0 0)) (C := RX3) (T := TX3) (N := 8) hx hb hts iX3 hown hK hP (0) (by omega) cw_d rfl 7 (by decide) (hts (.fieldLink RX3 41 "FerroDesk" "hour" "I") (by decide +kernel)) (fun _ h9 => h9) rfl dX3_mend_107 ?_
          refine lv_iconst (v := 1) hx hb dX3_mend_110 (by decide) ?_
          refine lv_iadd hx hb dX3_mend_111 ?_
          refine wx_putN (D := g.1) (cl := vwCl) (ci := 3) (v := .int (((st (qwF (tkF x nn (if 10 < ((x 30 u2 0) + 1) then 10 else ((x 30 u2 0) + 1)) p1 (if (x 3 0 0) < (x 32 u2 0) then (x 32 u2 0) else (x 3 0 0)) (x 33 u2 0)) nn u2 nb 4) 34 u2 0 1) 3 0 0) + 1)) (ty := .int) (w' := cw g L (st (st (qwF (tkF x nn (if 10 < ((x 30 u2 0) + 1) then 10 else ((x 30 u2 0) + 1)) p1 (if (x 3 0 0) < (x 32 u2 0) then (x 32 u2 0) else (x 3 0 0)) (x 33 u2 0)) nn u2 nb 4) 34 u2 0 1) 33 u2 0 (((st (qwF (tkF x nn (if 10 < ((x 30 u2 0) + 1) then 10 else ((x 30 u2 0) + 1)) p1 (if (x 3 0 0) < (x 32 u2 0) then (x 32 u2 0) else (x 3 0 0)) (x 33 u2 0)) nn u2 nb 4) 34 u2 0 1) 3 0 0) + 1)) r0) (C := RX1) (T := TX1) (N := 9) hx hb hts iX1 tyX1 tyX1_ok nmX1 hown hK hP hJ hS (26 + 2 * u2) (by omega) (cw_n (by omega)) rfl 5 (by decide) (hE.1 _ (ng_in (w := (Cond.fieldLinkNest "FerroDesk" 136 "FerroDesk$Notice" "till" "I" "FerroDesk")) (by decide +kernel))) (fun _ h9 => h9) rfl (by decide +kernel) rfl rfl (Nat.le_of_ble_eq_true rfl) dX3_mend_112 (cw_put (r := 33) (i := u2) (j := 0) rfl (by omega) (dk_n.trans (by simp [nF, st]))) (fun H locs hP hS => ?_)
          refine lv_aload hx hb dX3_mend_115 (lv_at hl 0 rfl) ?_
          refine wx_getN (D := g.1) (cl := vwCl) (ci := 3) (v := .int (nI nn)) (C := RX1) (T := TX1) (N := 9) hx hb hts iX1 hown hK hP (26 + 2 * nn) (by omega) (cw_n (by omega)) rfl 0 (by decide) (hE.1 _ (ng_in (w := (Cond.fieldLinkNest "FerroDesk" 94 "FerroDesk$Notice" "number" "I" "FerroDesk")) (by decide +kernel))) (fun _ h9 => h9) rfl dX3_mend_117 ?_
          refine W.widen (k := 3) (n := 18) (Nat.le_of_ble_eq_true rfl) (Nat.le_of_ble_eq_true rfl) ?_
          exact vx_ret (W.iret (v := nI nn) hx hb hr (fun t ht hW => ⟨⟨nI nn, (st (st (qwF (tkF x nn (if 10 < ((x 30 u2 0) + 1) then 10 else ((x 30 u2 0) + 1)) p1 (if (x 3 0 0) < (x 32 u2 0) then (x 32 u2 0) else (x 3 0 0)) (x 33 u2 0)) nn u2 nb 4) 34 u2 0 1) 33 u2 0 (((st (qwF (tkF x nn (if 10 < ((x 30 u2 0) + 1) then 10 else ((x 30 u2 0) + 1)) p1 (if (x 3 0 0) < (x 32 u2 0) then (x 32 u2 0) else (x 3 0 0)) (x 33 u2 0)) nn u2 nb 4) 34 u2 0 1) 3 0 0) + 1)), rfl, ⟨u2, hu2, eu2, ⟨c7, c15⟩, ⟨c32, h40⟩, hlt, rfl, rfl⟩, PB.mk9 hP ht⟩, hS.F ht⟩) hS.2.2 dX3_mend_120)
    · exact wx_throwS (ik := 51) (is := 150) (ic := 55) (own := RX3) (cls := "java/lang/IllegalArgumentException") (text := "the picture is 0, or the same") (names := ["java/lang/RuntimeException", "java/lang/Exception"]) hx hb hst hPW hown (by decide +kernel) (by decide +kernel) (hts (.classLink RX3 51 "java/lang/IllegalArgumentException") (by decide +kernel)) (hts (.initialized "java/lang/IllegalArgumentException") (by decide +kernel)) (by decide +kernel) (fun w hw => hts w (List.mem_cons_of_mem _ (List.mem_append_left _ (List.mem_append_left _ (List.mem_append_left _ (List.mem_append_left _ (List.mem_append_right _ hw))))))) (by decide +kernel) (by decide +kernel) hP hS (hl.1.trans hml.symm) dX3_mend_18 dX3_mend_21 dX3_mend_22 dX3_mend_24 dX3_mend_27 hno (Nat.lt_of_lt_of_le (Nat.lt_succ_self _) (Nat.le_of_ble_eq_true rfl)) (Nat.le_of_ble_eq_true rfl) (Nat.le_of_ble_eq_true rfl) (Nat.le_of_ble_eq_true rfl) hlocks (Or.inr ⟨u2, hu2, eu2, Or.inl ⟨rfl, fun h9 => h9.2 c15⟩⟩) (Nat.le_of_ble_eq_true rfl) (Nat.le_of_ble_eq_true rfl)

set_option maxHeartbeats 4000000 in
set_option maxRecDepth 100000 in
theorem k_deny (l : Launch) (hst : l.stackTraces = false) (g : gE) (base n : Nat) (L : Nat → Nat) (hn : 106 ≤ n) (x : St) (r0 : Nat → va_E) (nn : Nat) (hnn : nn ≤ 40) (hx1 : x 1 0 0 = nI nn) (hrk : ∀ j, j < 40 → (x 43 0 j).toNatClampNeg < 40) (p0 p1 p2 : Int32) : vx_Met l yX3_deny wsX3_deny ({ frames := 8, cells := 2, slots := 12, locals := 180 }) (va_Pc [.ref (L 0), .int p0, .int p1, .int p2] (PW SS g base n L (cw g L x r0))) (va_Qi (fun (r : Int32) (u : St) => ((0 ≤ p1.toInt ∧ p1.toInt ≤ 3) ∧ (p0.toInt ≠ 0 ∧ p0.toInt ≠ -1) ∧ ¬ p2 ≤ x 3 0 0 ∧ p2.toInt ≤ 2000) ∧ nn < 40 ∧ u = piF (tkF x nn 10 (p0 ^^^ (-1)) (x 3 0 0) p2) nn p1 ∧ r = nI nn) (fun (u : St) t => PB g n L (cw g L u r0) t) (fun q => base ≤ q)) (QX g base n L (cw g L x r0) (fun E => (E = "java/lang/IllegalArgumentException" ∧ ¬ ((0 ≤ p1.toInt ∧ p1.toInt ≤ 3) ∧ (p0.toInt ≠ 0 ∧ p0.toInt ≠ -1) ∧ ¬ p2 ≤ x 3 0 0 ∧ p2.toInt ≤ 2000)) ∨ (E = "java/lang/IllegalStateException" ∧ ((0 ≤ p1.toInt ∧ p1.toInt ≤ 3) ∧ (p0.toInt ≠ 0 ∧ p0.toInt ≠ -1) ∧ ¬ p2 ≤ x 3 0 0 ∧ p2.toInt ≤ 2000) ∧ nn = 40))) 2 12 (fun q => base ≤ q) := by
  refine vx_ofW (cc := cX3_deny) (maxL := 5) (ret := (some .int)) (by decide) rfl ?_
  intro p e s m args below meth c s₁ B hml hno hv
  obtain ⟨rfl, hPW⟩ := hv
  obtain ⟨hbs, hJ, hP, hK, hE⟩ := id hPW
  have hx := B.exec
  have hb := B.bytes
  have hr := B.returns
  have hts := atoms_spec (ws := wsX3_deny) B.pre
  have hown : s.vm.findClass RX3 = some m.cls := findClass_of_methodNamed B.named
  have hlocks := B.notSynchronized
  have hS : va_S (fun q : Nat => base ≤ q) s.heap s.heap [] := va_S.rf
  have hl := lv_entry ([.ref (L 0), .int p0, .int p1, .int p2]) (n := 5) (Nat.le_of_ble_eq_true rfl)
  rw [lg_entry_eq]
  generalize (lg_sl ([.ref (L 0), .int p0, .int p1, .int p2]) ++ List.replicate (5 - (lg_sl ([.ref (L 0), .int p0, .int p1, .int p2])).length) Slot.unset).toArray = ls at hl ⊢
  have hl : lv_has ls 5 [(0, .ref (L 0)), (1, .int p0), (2, .int p1), (3, .int p2)] := hl
  have iX1 : ∀ w ∈ wsX10, w ∈ wsX3_deny := by decide +kernel
  have iX3 : ∀ w ∈ wsX30, w ∈ wsX3_deny := by decide +kernel
  refine lv_iload_n hx hb dX3_deny_0 rfl (lv_at hl 2 rfl) ?_
  refine wx_xcallv (vx_runS (As := [.int p1]) (rest := []) ⟨hx, hb, hml, hown, hts⟩ (k_checkDistrict l hst g base n L (cw g L x r0) p1) (va_cwS 1 hts gX3_deny_X3_checkDistrict rfl rfl rfl (by decide +kernel) ⟨Nat.le_of_ble_eq_true rfl, Nat.le_of_ble_eq_true rfl⟩) (hPW.preS hP hS) rfl rfl hl.1 rfl (lv_room (Nat.le_of_ble_eq_true rfl)) dX3_deny_1 ⟨Nat.le_of_ble_eq_true rfl, Nat.le_of_ble_eq_true rfl⟩) hS (fun E ce q9 H locs hpx hP hS h1 h2 h3 => ?_) (fun u1 H locs h1 hP hS => ?_)
  · exact wx_out hno hlocks h1 h2 h3 (Or.inl ⟨hpx.1, fun h9 => by have h8 := hpx.2; have h7 := h9.1; omega⟩) hP hS (Nat.le_of_ble_eq_true rfl) (Nat.le_of_ble_eq_true rfl)
  refine lv_iload_n hx hb dX3_deny_4 rfl (lv_at hl 1 rfl) ?_
  refine lv_if_eq (tgt := 13) hx hb dX3_deny_5 (by decide) (fun c5 => ?_) (fun c5 => ?_)
  · exact wx_throwS (ik := 51) (is := 176) (ic := 55) (own := RX3) (cls := "java/lang/IllegalArgumentException") (text := "the rumour is 0 or all cells") (names := ["java/lang/RuntimeException", "java/lang/Exception"]) hx hb hst hPW hown (by decide +kernel) (by decide +kernel) (hts (.classLink RX3 51 "java/lang/IllegalArgumentException") (by decide +kernel)) (hts (.initialized "java/lang/IllegalArgumentException") (by decide +kernel)) (by decide +kernel) (fun w hw => hts w (List.mem_cons_of_mem _ (List.mem_append_left _ (List.mem_append_right _ hw)))) (by decide +kernel) (by decide +kernel) hP hS (hl.1.trans hml.symm) dX3_deny_13 dX3_deny_16 dX3_deny_17 dX3_deny_19 dX3_deny_22 hno (Nat.lt_of_lt_of_le (Nat.lt_succ_self _) (Nat.le_of_ble_eq_true rfl)) (Nat.le_of_ble_eq_true rfl) (Nat.le_of_ble_eq_true rfl) (Nat.le_of_ble_eq_true rfl) hlocks (Or.inl ⟨rfl, fun h9 => absurd h9.2.1 (by revert c5; (try simp only [Int32.lt_iff_toInt_lt, Int32.le_iff_toInt_le, ← Int32.toInt_inj, i_0, i_1, i_2, i_3, i_4, i_6, i_9, i_20, i_32, i_40, i_48, i_60, i_200, i_999, i_2000, i_m1, i_8]); omega)⟩) (Nat.le_of_ble_eq_true rfl) (Nat.le_of_ble_eq_true rfl)
  · refine lv_iload_n hx hb dX3_deny_8 rfl (lv_at hl 1 rfl) ?_
    refine lv_iconst (v := (-1)) hx hb dX3_deny_9 (by decide) ?_
    refine lv_icmp_ne (tgt := 23) hx hb dX3_deny_10 (by decide) (fun c10 => ?_) (fun c10 => ?_)
    · refine lv_iload_n hx hb dX3_deny_23 rfl (lv_at hl 3 rfl) ?_
      refine lv_aload_n hx hb dX3_deny_24 rfl (lv_at hl 0 rfl) ?_
      refine wx_get (D := g.1) (cl := vwCl) (ci := 5) (v := .int (x 3 0 0)) (C := RX3) (T := TX3) (N := 8) hx hb hts iX3 hown hK hP (0) (by omega) cw_d rfl 7 (by decide) (hts (.fieldLink RX3 41 "FerroDesk" "hour" "I") (by decide +kernel)) (fun _ h9 => h9) rfl dX3_deny_25 ?_
      refine lv_icmp_le (tgt := 38) hx hb dX3_deny_28 (by decide) (fun c28 => ?_) (fun c28 => ?_)
      · exact wx_throwS (ik := 51) (is := 178) (ic := 55) (own := RX3) (cls := "java/lang/IllegalArgumentException") (text := "the hour is not later than now, or later than 2000") (names := ["java/lang/RuntimeException", "java/lang/Exception"]) hx hb hst hPW hown (by decide +kernel) (by decide +kernel) (hts (.classLink RX3 51 "java/lang/IllegalArgumentException") (by decide +kernel)) (hts (.initialized "java/lang/IllegalArgumentException") (by decide +kernel)) (by decide +kernel) (fun w hw => hts w (List.mem_cons_of_mem _ (List.mem_append_left _ (List.mem_append_right _ hw)))) (by decide +kernel) (by decide +kernel) hP hS (hl.1.trans hml.symm) dX3_deny_38 dX3_deny_41 dX3_deny_42 dX3_deny_44 dX3_deny_47 hno (Nat.lt_of_lt_of_le (Nat.lt_succ_self _) (Nat.le_of_ble_eq_true rfl)) (Nat.le_of_ble_eq_true rfl) (Nat.le_of_ble_eq_true rfl) (Nat.le_of_ble_eq_true rfl) hlocks (Or.inl ⟨rfl, fun h9 => h9.2.2.1 c28⟩) (Nat.le_of_ble_eq_true rfl) (Nat.le_of_ble_eq_true rfl)
      · refine lv_iload_n hx hb dX3_deny_31 rfl (lv_at hl 3 rfl) ?_
        refine lv_sipush (v := 2000) hx hb dX3_deny_32 (by decide) ?_
        refine lv_icmp_le (tgt := 48) hx hb dX3_deny_35 (by decide) (fun c35 => ?_) (fun c35 => ?_)
        · have hok : ((0 ≤ p1.toInt ∧ p1.toInt ≤ 3) ∧ (p0.toInt ≠ 0 ∧ p0.toInt ≠ -1) ∧ ¬ p2 ≤ x 3 0 0 ∧ p2.toInt ≤ 2000) := ⟨h1, (by revert c5 c10; (try simp only [Int32.lt_iff_toInt_lt, Int32.le_iff_toInt_le, ← Int32.toInt_inj, i_0, i_1, i_2, i_3, i_4, i_6, i_9, i_20, i_32, i_40, i_48, i_60, i_200, i_999, i_2000, i_m1, i_8]); omega), c28, (by revert c35; (try simp only [Int32.lt_iff_toInt_lt, Int32.le_iff_toInt_le, ← Int32.toInt_inj, i_0, i_1, i_2, i_3, i_4, i_6, i_9, i_20, i_32, i_40, i_48, i_60, i_200, i_999, i_2000, i_m1, i_8]); omega)⟩
          refine lv_aload_n hx hb dX3_deny_48 rfl (lv_at hl 0 rfl) ?_
          refine lv_bipush (v := 10) hx hb dX3_deny_49 (by decide) ?_
          refine lv_iload_n hx hb dX3_deny_51 rfl (lv_at hl 1 rfl) ?_
          refine lv_iconst (v := (-1)) hx hb dX3_deny_52 (by decide) ?_
          refine lv_ixor hx hb dX3_deny_53 ?_
          refine lv_aload_n hx hb dX3_deny_54 rfl (lv_at hl 0 rfl) ?_
          refine wx_get (D := g.1) (cl := vwCl) (ci := 5) (v := .int (x 3 0 0)) (C := RX3) (T := TX3) (N := 8) hx hb hts iX3 hown hK hP (0) (by omega) cw_d rfl 7 (by decide) (hts (.fieldLink RX3 41 "FerroDesk" "hour" "I") (by decide +kernel)) (fun _ h9 => h9) rfl dX3_deny_55 ?_
          refine lv_iload_n hx hb dX3_deny_58 rfl (lv_at hl 3 rfl) ?_
          refine wx_xcallr (G := fun _ => 26 + 2 * nn) (vx_runV (As := [.int 10, .int (p0 ^^^ (-1)), .int (x 3 0 0), .int p2]) (rest := []) ⟨hx, hb, hml, hown, hts⟩ (k_take l hst g base n L (by omega) x r0 nn hnn hx1 hrk 10 (p0 ^^^ (-1)) (x 3 0 0) p2) (cwV 4 hts gX3_deny_X3_take rfl rfl rfl (by decide +kernel) ⟨Nat.le_of_ble_eq_true rfl, Nat.le_of_ble_eq_true rfl⟩) (hPW.preV hP hS (ci := 5) rfl (by omega) cw_d) rfl rfl hl.1 rfl (lv_room (Nat.le_of_ble_eq_true rfl)) dX3_deny_59 ⟨Nat.le_of_ble_eq_true rfl, Nat.le_of_ble_eq_true rfl⟩) hS (fun E ce q9 H locs hpx hP hS h1 h2 h3 => ?_) (fun u59 H locs h59 hP hS => ?_)
          · exact wx_out hno hlocks h1 h2 h3 (Or.inr ⟨hpx.1, hok, hpx.2⟩) hP hS (Nat.le_of_ble_eq_true rfl) (Nat.le_of_ble_eq_true rfl)
          obtain ⟨hlt, rfl⟩ := h59
          refine lv_astore (lv' := [(4, .ref (L (26 + 2 * nn))), (0, .ref (L 0)), (1, .int p0), (2, .int p1), (3, .int p2)]) hx hb dX3_deny_62 hl (by decide) rfl (fun ls hl => ?_)
          refine lv_aload hx hb dX3_deny_64 (lv_at hl 0 rfl) ?_
          refine lv_iload_n hx hb dX3_deny_66 rfl (lv_at hl 3 rfl) ?_
          refine wx_callv (va_runV (As := [.int p1]) (rest := []) ⟨hx, hb, hml, hown, hts⟩ (k_putInto l hst g base n L (by omega) (tkF x nn 10 (p0 ^^^ (-1)) (x 3 0 0) p2) r0 nn (by omega) p1) (cwV 1 hts gX3_deny_X1_putInto rfl rfl rfl (by decide +kernel) ⟨Nat.le_of_ble_eq_true rfl, Nat.le_of_ble_eq_true rfl⟩) (hPW.preV hP hS (ci := 3) rfl (by omega) (cw_n (by omega))) rfl rfl hl.1 rfl (lv_room (Nat.le_of_ble_eq_true rfl)) dX3_deny_67 ⟨Nat.le_of_ble_eq_true rfl, Nat.le_of_ble_eq_true rfl⟩) hS (fun u67 H locs h67 hP hS => ?_)
          obtain rfl := h67
          refine lv_aload hx hb dX3_deny_70 (lv_at hl 0 rfl) ?_
          refine wx_getN (D := g.1) (cl := vwCl) (ci := 3) (v := .int (nI nn)) (C := RX1) (T := TX1) (N := 9) hx hb hts iX1 hown hK hP (26 + 2 * nn) (by omega) (cw_n (by omega)) rfl 0 (by decide) (hE.1 _ (ng_in (w := (Cond.fieldLinkNest "FerroDesk" 94 "FerroDesk$Notice" "number" "I" "FerroDesk")) (by decide +kernel))) (fun _ h9 => h9) rfl dX3_deny_72 ?_
          refine W.widen (k := 2) (n := 12) (Nat.le_of_ble_eq_true rfl) (Nat.le_of_ble_eq_true rfl) ?_
          exact vx_ret (W.iret (v := nI nn) hx hb hr (fun t ht hW => ⟨⟨nI nn, (piF (tkF x nn 10 (p0 ^^^ (-1)) (x 3 0 0) p2) nn p1), rfl, ⟨hok, hlt, rfl, rfl⟩, PB.mk9 hP ht⟩, hS.F ht⟩) hS.2.2 dX3_deny_75)
        · exact wx_throwS (ik := 51) (is := 178) (ic := 55) (own := RX3) (cls := "java/lang/IllegalArgumentException") (text := "the hour is not later than now, or later than 2000") (names := ["java/lang/RuntimeException", "java/lang/Exception"]) hx hb hst hPW hown (by decide +kernel) (by decide +kernel) (hts (.classLink RX3 51 "java/lang/IllegalArgumentException") (by decide +kernel)) (hts (.initialized "java/lang/IllegalArgumentException") (by decide +kernel)) (by decide +kernel) (fun w hw => hts w (List.mem_cons_of_mem _ (List.mem_append_left _ (List.mem_append_right _ hw)))) (by decide +kernel) (by decide +kernel) hP hS (hl.1.trans hml.symm) dX3_deny_38 dX3_deny_41 dX3_deny_42 dX3_deny_44 dX3_deny_47 hno (Nat.lt_of_lt_of_le (Nat.lt_succ_self _) (Nat.le_of_ble_eq_true rfl)) (Nat.le_of_ble_eq_true rfl) (Nat.le_of_ble_eq_true rfl) (Nat.le_of_ble_eq_true rfl) hlocks (Or.inl ⟨rfl, fun h9 => absurd h9.2.2.2 (by revert c35; (try simp only [Int32.lt_iff_toInt_lt, Int32.le_iff_toInt_le, ← Int32.toInt_inj, i_0, i_1, i_2, i_3, i_4, i_6, i_9, i_20, i_32, i_40, i_48, i_60, i_200, i_999, i_2000, i_m1, i_8]); omega)⟩) (Nat.le_of_ble_eq_true rfl) (Nat.le_of_ble_eq_true rfl)
    · exact wx_throwS (ik := 51) (is := 176) (ic := 55) (own := RX3) (cls := "java/lang/IllegalArgumentException") (text := "the rumour is 0 or all cells") (names := ["java/lang/RuntimeException", "java/lang/Exception"]) hx hb hst hPW hown (by decide +kernel) (by decide +kernel) (hts (.classLink RX3 51 "java/lang/IllegalArgumentException") (by decide +kernel)) (hts (.initialized "java/lang/IllegalArgumentException") (by decide +kernel)) (by decide +kernel) (fun w hw => hts w (List.mem_cons_of_mem _ (List.mem_append_left _ (List.mem_append_right _ hw)))) (by decide +kernel) (by decide +kernel) hP hS (hl.1.trans hml.symm) dX3_deny_13 dX3_deny_16 dX3_deny_17 dX3_deny_19 dX3_deny_22 hno (Nat.lt_of_lt_of_le (Nat.lt_succ_self _) (Nat.le_of_ble_eq_true rfl)) (Nat.le_of_ble_eq_true rfl) (Nat.le_of_ble_eq_true rfl) (Nat.le_of_ble_eq_true rfl) hlocks (Or.inl ⟨rfl, fun h9 => absurd h9.2.1 (by revert c5 c10; (try simp only [Int32.lt_iff_toInt_lt, Int32.le_iff_toInt_le, ← Int32.toInt_inj, i_0, i_1, i_2, i_3, i_4, i_6, i_9, i_20, i_32, i_40, i_48, i_60, i_200, i_999, i_2000, i_m1, i_8]); omega)⟩) (Nat.le_of_ble_eq_true rfl) (Nat.le_of_ble_eq_true rfl)

set_option maxHeartbeats 4000000 in
set_option maxRecDepth 100000 in
theorem k_letHourComeTo (l : Launch) (hst : l.stackTraces = false) (g : gE) (base n : Nat) (L : Nat → Nat) (hn : 106 ≤ n) (x : St) (r0 : Nat → va_E) (nb nn : Nat) (hG : GI x nb nn) (i : Nat) (hi : i < 6) : Met l yX3_letHourComeTo wsX3_letHourComeTo ({ frames := 5, cells := 0, slots := 0, locals := 170 }) (va_Pc [.ref (L 0), .ref (L (8 + 3 * i))] (PW SS g base n L (cw g L x r0))) (va_Qv (fun (u : St) => u = lhF x i nn) (fun (u : St) t => PB g n L (cw g L u r0) t) (fun q => base ≤ q)) 0 0 (fun q => base ≤ q) := by
  refine Met.ofW (cc := cX3_letHourComeTo) (maxL := 4) (ret := none) (by decide) rfl ?_
  intro p e s m args below meth c s₁ B hml hv
  obtain ⟨rfl, hPW⟩ := hv
  obtain ⟨hbs, hJ, hP, hK, hE⟩ := id hPW
  have hx := B.exec
  have hb := B.bytes
  have hr := B.returns
  have hts := atoms_spec (ws := wsX3_letHourComeTo) B.pre
  have hown : s.vm.findClass RX3 = some m.cls := findClass_of_methodNamed B.named
  have hlocks := B.notSynchronized
  have hS : va_S (fun q : Nat => base ≤ q) s.heap s.heap [] := va_S.rf
  have hl := lv_entry ([.ref (L 0), .ref (L (8 + 3 * i))]) (n := 4) (Nat.le_of_ble_eq_true rfl)
  rw [lg_entry_eq]
  generalize (lg_sl ([.ref (L 0), .ref (L (8 + 3 * i))]) ++ List.replicate (4 - (lg_sl ([.ref (L 0), .ref (L (8 + 3 * i))])).length) Slot.unset).toArray = ls at hl ⊢
  have hl : lv_has ls 4 [(0, .ref (L 0)), (1, .ref (L (8 + 3 * i)))] := hl
  have iX0 : ∀ w ∈ wsX00, w ∈ wsX3_letHourComeTo := by decide +kernel
  have iX3 : ∀ w ∈ wsX30, w ∈ wsX3_letHourComeTo := by decide +kernel
  refine lv_aload_n hx hb dX3_letHourComeTo_0 rfl (lv_at hl 1 rfl) ?_
  refine lv_aload_n hx hb dX3_letHourComeTo_1 rfl (lv_at hl 0 rfl) ?_
  refine wx_get (D := g.1) (cl := vwCl) (ci := 5) (v := .int (x 2 0 0)) (C := RX3) (T := TX3) (N := 8) hx hb hts iX3 hown hK hP (0) (by omega) cw_d rfl 6 (by decide) (hts (.fieldLink RX3 38 "FerroDesk" "sun" "I") (by decide +kernel)) (fun _ h9 => h9) rfl dX3_letHourComeTo_2 ?_
  refine wx_callv (va_runV (As := [.int (x 2 0 0)]) (rest := []) ⟨hx, hb, hml, hown, hts⟩ (k_chargeBy l hst g base n L (by omega) x r0 i (by omega)  (x 2 0 0)) (cwV 1 hts gX3_letHourComeTo_X0_chargeBy rfl rfl rfl (by decide +kernel) ⟨Nat.le_of_ble_eq_true rfl, Nat.le_of_ble_eq_true rfl⟩) (hPW.preV hP hS (ci := 2) rfl (by omega) (cw_b (by omega))) rfl rfl hl.1 rfl (lv_room (Nat.le_of_ble_eq_true rfl)) dX3_letHourComeTo_5 ⟨Nat.le_of_ble_eq_true rfl, Nat.le_of_ble_eq_true rfl⟩) hS (fun u5 H locs h5 hP hS => ?_)
  obtain rfl := h5
  refine lv_aload_n hx hb dX3_letHourComeTo_8 rfl (lv_at hl 1 rfl) ?_
  refine lv_iconst (v := 0) hx hb dX3_letHourComeTo_9 (by decide) ?_
  refine wx_putN (D := g.1) (cl := vwCl) (ci := 2) (v := .int 0) (ty := .boolean) (w' := cw g L (st (cbF x i (x 2 0 0)) 14 i 0 0) r0) (C := RX0) (T := TX0) (N := 12) hx hb hts iX0 tyX0 tyX0_ok nmX0 hown hK hP hJ hS (8 + 3 * i) (by omega) (cw_b (by omega)) rfl 4 (by decide) (hE.1 _ (ng_in (w := (Cond.fieldLinkNest "FerroDesk" 100 "FerroDesk$Board" "asleep" "Z" "FerroDesk")) (by decide +kernel))) (fun _ h9 => h9) rfl (by decide +kernel) rfl rfl (Nat.le_of_ble_eq_true rfl) dX3_letHourComeTo_10 (cw_put (r := 14) (i := i) (j := 0) rfl (by omega) ((dk_b (by omega)).trans (by simp [bF, st]))) (fun H locs hP hS => ?_)
  obtain ⟨x2, ex2⟩ : ∃ q9 : St, q9 = st (cbF x i (x 2 0 0)) 14 i 0 0 := ⟨_, rfl⟩
  rw [← ex2] at hP
  have hG2 : GI x2 nb nn := by rw [ex2]; exact hG.lA
  refine lv_aload_n hx hb dX3_letHourComeTo_13 rfl (lv_at hl 1 rfl) ?_
  refine wx_getN (D := g.1) (cl := vwCl) (ci := 2) (v := va_rf (shw L (x2 12 i 0))) (C := RX0) (T := TX0) (N := 12) hx hb hts iX0 hown hK hP (8 + 3 * i) (by omega) (cw_b (by omega)) rfl 2 (by decide) (hE.1 _ (ng_in (w := (Cond.fieldLinkNest "FerroDesk" 90 "FerroDesk$Board" "shown" "LFerroDesk$Notice;" "FerroDesk")) (by decide +kernel))) (fun _ h9 => h9) rfl dX3_letHourComeTo_14 ?_
  rcases (hG2.sh i hi) with eS | ⟨kS, hkS, eS⟩
  · rw [show va_rf (shw L (x2 12 i 0)) = .null from by rw [eS, shw_m1]; rfl]
    refine lv_ifnullN (tgt := 38) hx hb dX3_letHourComeTo_17 (by decide) ?_
    refine lv_iconst (v := 0) hx hb dX3_letHourComeTo_38 (by decide) ?_
    refine lv_istore_n (lv' := [(2, .int 0), (0, .ref (L 0)), (1, .ref (L (8 + 3 * i)))]) hx hb dX3_letHourComeTo_39 rfl hl (by decide) rfl (fun ls hl => ?_)
    have key40 : ∀ (d k : Nat) (z2 : Int32) (x1 : St) (H : Heap) (locs : List Loc) (ls : Array Slot), k + d = nn → (z2 = nI k) → (GI x1 nb nn) → (lhL i (nn - k) k x1 = lhL i nn 0 (lhB x2 i)) → va_P g.1 vwCl (wl n L (cw g L x1 r0)) H → va_S (fun q : Nat => base ≤ q) s.heap H locs → lv_has ls 4 [(2, .int z2), (0, .ref (L 0)), (1, .ref (L (8 + 3 * i)))] → W p l e (headSpec wsX3_letHourComeTo ({ frames := 5, cells := 0, slots := 0, locals := 170 })).room s m ([.ref (L 0), .ref (L (8 + 3 * i))] : List Value).toArray below meth c H locs (0 + 0) (0 + 0) (MQ below (va_Qv (fun (u : St) => u = lhF x i nn) (fun (u : St) t => PB g n L (cw g L u r0) t) (fun q => base ≤ q)) ([.ref (L 0), .ref (L (8 + 3 * i))] : List Value).toArray s 0 0 (fun q => base ≤ q)) (F0 m 40 ls []) := by
      intro d
      induction d with
      | zero =>
        intro k z2 x1 H locs ls hkd ek2 hG1 hF hP hS hl
        obtain rfl : nn = k := by omega
        subst ek2
        refine lv_iload_n hx hb dX3_letHourComeTo_40 rfl (lv_at hl 0 rfl) ?_
        refine lv_aload_n hx hb dX3_letHourComeTo_41 rfl (lv_at hl 1 rfl) ?_
        refine wx_get (D := g.1) (cl := vwCl) (ci := 5) (v := .int (x1 1 0 0)) (C := RX3) (T := TX3) (N := 8) hx hb hts iX3 hown hK hP (0) (by omega) cw_d rfl 4 (by decide) (hts (.fieldLink RX3 28 "FerroDesk" "noticeCount" "I") (by decide +kernel)) (fun _ h9 => h9) rfl dX3_letHourComeTo_42 ?_
        refine lv_icmp_ge (tgt := 101) hx hb dX3_letHourComeTo_45 (by decide) (fun c45 => ?_) (fun c45 => absurd (by rw [hG1.x1]; exact nI_le (Nat.le_refl _) (by have := hG.nn40; omega)) c45)
        refine lv_aload_n hx hb dX3_letHourComeTo_101 rfl (lv_at hl 2 rfl) ?_
        refine wx_callv (va_runV (As := []) (rest := []) ⟨hx, hb, hml, hown, hts⟩ (k_wipe l hst g base n L (by omega) x1 r0 i (by omega) _ (hG1.tc hi) (hG1.x19 hi) ) (cwV 0 hts gX3_letHourComeTo_X0_wipe rfl rfl rfl (by decide +kernel) ⟨Nat.le_of_ble_eq_true rfl, Nat.le_of_ble_eq_true rfl⟩) (hPW.preV hP hS (ci := 2) rfl (by omega) (cw_b (by omega))) rfl rfl hl.1 rfl (lv_room (Nat.le_of_ble_eq_true rfl)) dX3_letHourComeTo_102 ⟨Nat.le_of_ble_eq_true rfl, Nat.le_of_ble_eq_true rfl⟩) hS (fun u102 H locs h102 hP hS => ?_)
        obtain rfl := h102
        refine W.widen (k := 0) (n := 0) (Nat.le_of_ble_eq_true rfl) (Nat.le_of_ble_eq_true rfl) ?_
        exact W.vret hx hb hr (fun t ht hW => ⟨⟨(wiF x1 i), rfl, (by show _ = lhL i nn 0 (lhB (lhA x i) i); rw [show lhA x i = x2 from ex2.symm, ← hF, Nat.sub_self]; rfl), PB.mk9 hP ht⟩, hS.F ht⟩) hS.2.2 dX3_letHourComeTo_105
      | succ d ih =>
        intro k z2 x1 H locs ls hkd ek2 hG1 hF hP hS hl
        have hkN : k < nn := by omega
        subst ek2
        refine lv_iload_n hx hb dX3_letHourComeTo_40 rfl (lv_at hl 0 rfl) ?_
        refine lv_aload_n hx hb dX3_letHourComeTo_41 rfl (lv_at hl 1 rfl) ?_
        refine wx_get (D := g.1) (cl := vwCl) (ci := 5) (v := .int (x1 1 0 0)) (C := RX3) (T := TX3) (N := 8) hx hb hts iX3 hown hK hP (0) (by omega) cw_d rfl 4 (by decide) (hts (.fieldLink RX3 28 "FerroDesk" "noticeCount" "I") (by decide +kernel)) (fun _ h9 => h9) rfl dX3_letHourComeTo_42 ?_
        refine lv_icmp_ge (tgt := 101) hx hb dX3_letHourComeTo_45 (by decide) (fun c45 => absurd c45 (by rw [hG1.x1]; exact nI_ge hkN (by have := hG.nn40; omega))) (fun c45 => ?_)
        have hr9 := hG1.rk k (by have := hG.nn40; omega)
        refine lv_aload_n hx hb dX3_letHourComeTo_48 rfl (lv_at hl 1 rfl) ?_
        refine wx_get (D := g.1) (cl := vwCl) (ci := 5) (v := .ref (L 3)) (C := RX3) (T := TX3) (N := 8) hx hb hts iX3 hown hK hP (0) (by omega) cw_d rfl 3 (by decide) (hts (.fieldLink RX3 25 "FerroDesk" "ranked" "[LFerroDesk$Notice;") (by decide +kernel)) (fun _ h9 => h9) rfl dX3_letHourComeTo_49 ?_
        refine lv_iload_n hx hb dX3_letHourComeTo_52 rfl (lv_at hl 0 rfl) ?_
        refine wx_aald (D := g.1) (cl := vwCl) (f := fun j => if j < 40 then some (L (26 + 2 * (x1 43 0 j).toNatClampNeg)) else none) (a := L (26 + 2 * (x1 43 0 k).toNatClampNeg)) hx hb hK hP (3) 2 (by omega) cw_3 rfl (i := nI k) (vp_in_nI (by have := hG.nn40; omega) (by decide)) (by rw [nI_clamp (show k < 2 ^ 31 by have := hG.nn40; omega)]; exact if_pos (by have := hG.nn40; omega)) dX3_letHourComeTo_53 ?_
        refine lv_astore_n (lv' := [(3, .ref (L (26 + 2 * (x1 43 0 k).toNatClampNeg))), (2, .int (nI k)), (0, .ref (L 0)), (1, .ref (L (8 + 3 * i)))]) hx hb dX3_letHourComeTo_54 rfl hl (by decide) rfl (fun ls hl => ?_)
        refine lv_aload_n hx hb dX3_letHourComeTo_55 rfl (lv_at hl 0 rfl) ?_
        refine lv_aload_n hx hb dX3_letHourComeTo_56 rfl (lv_at hl 2 rfl) ?_
        refine wx_get (D := g.1) (cl := vwCl) (ci := 5) (v := .int (x1 3 0 0)) (C := RX3) (T := TX3) (N := 8) hx hb hts iX3 hown hK hP (0) (by omega) cw_d rfl 7 (by decide) (hts (.fieldLink RX3 41 "FerroDesk" "hour" "I") (by decide +kernel)) (fun _ h9 => h9) rfl dX3_letHourComeTo_57 ?_
        refine wx_calli (va_runV (As := [.int (x1 3 0 0)]) (rest := []) ⟨hx, hb, hml, hown, hts⟩ (k_isOf l hst g base n L (by omega) x1 r0 ((x1 43 0 k).toNatClampNeg) (by omega) (x1 3 0 0)) (cwV 1 hts gX3_letHourComeTo_X1_isOf rfl rfl rfl (by decide +kernel) ⟨Nat.le_of_ble_eq_true rfl, Nat.le_of_ble_eq_true rfl⟩) (hPW.preV hP hS (ci := 3) rfl (by omega) (cw_n (by omega))) rfl rfl hl.1 rfl (lv_room (Nat.le_of_ble_eq_true rfl)) dX3_letHourComeTo_60 ⟨Nat.le_of_ble_eq_true rfl, Nat.le_of_ble_eq_true rfl⟩) hS (fun r60 u60 H locs h60 hP hS => ?_)
        rcases h60 with ⟨rfl, h60⟩ | ⟨rfl, h60⟩
        · refine lv_if_eq (tgt := 95) hx hb dX3_letHourComeTo_63 (by decide) (fun c63 => absurd c63 (by decide)) (fun c63 => ?_)
          refine lv_aload_n hx hb dX3_letHourComeTo_66 rfl (lv_at hl 0 rfl) ?_
          refine lv_aload_n hx hb dX3_letHourComeTo_67 rfl (lv_at hl 3 rfl) ?_
          refine wx_getN (D := g.1) (cl := vwCl) (ci := 2) (v := .int (x1 10 i 0)) (C := RX0) (T := TX0) (N := 12) hx hb hts iX0 hown hK hP (8 + 3 * i) (by omega) (cw_b (by omega)) rfl 0 (by decide) (hE.1 _ (ng_in (w := (Cond.fieldLinkNest "FerroDesk" 267 "FerroDesk$Board" "district" "I" "FerroDesk")) (by decide +kernel))) (fun _ h9 => h9) rfl dX3_letHourComeTo_68 ?_
          refine lv_aload_n hx hb dX3_letHourComeTo_71 rfl (lv_at hl 2 rfl) ?_
          refine wx_get (D := g.1) (cl := vwCl) (ci := 5) (v := .int (x1 3 0 0)) (C := RX3) (T := TX3) (N := 8) hx hb hts iX3 hown hK hP (0) (by omega) cw_d rfl 7 (by decide) (hts (.fieldLink RX3 41 "FerroDesk" "hour" "I") (by decide +kernel)) (fun _ h9 => h9) rfl dX3_letHourComeTo_72 ?_
          refine wx_calli (va_runV (As := [.int (x1 10 i 0), .int (x1 3 0 0)]) (rest := []) ⟨hx, hb, hml, hown, hts⟩ (k_isQueuedIn l hst g base n L (by omega) x1 r0 ((x1 43 0 k).toNatClampNeg) (by omega) (x1 10 i 0) (x1 3 0 0)) (cwV 2 hts gX3_letHourComeTo_X1_isQueuedIn rfl rfl rfl (by decide +kernel) ⟨Nat.le_of_ble_eq_true rfl, Nat.le_of_ble_eq_true rfl⟩) (hPW.preV hP hS (ci := 3) rfl (by omega) (cw_n (by omega))) rfl rfl hl.1 rfl (lv_room (Nat.le_of_ble_eq_true rfl)) dX3_letHourComeTo_75 ⟨Nat.le_of_ble_eq_true rfl, Nat.le_of_ble_eq_true rfl⟩) hS (fun r75 u75 H locs h75 hP hS => ?_)
          rcases h75 with ⟨rfl, h75⟩ | ⟨rfl, h75⟩
          · refine lv_if_eq (tgt := 95) hx hb dX3_letHourComeTo_78 (by decide) (fun c78 => absurd c78 (by decide)) (fun c78 => ?_)
            refine lv_aload_n hx hb dX3_letHourComeTo_81 rfl (lv_at hl 3 rfl) ?_
            refine lv_aload_n hx hb dX3_letHourComeTo_82 rfl (lv_at hl 0 rfl) ?_
            refine wx_calli (va_runV (As := [.ref (L (26 + 2 * (x1 43 0 k).toNatClampNeg))]) (rest := []) ⟨hx, hb, hml, hown, hts⟩ (k_takesUp l hst g base n L (by omega) x1 r0 i (by omega) _ (hG1.tc hi) (hG1.x19 hi) (hG1.sh i hi) ((x1 43 0 k).toNatClampNeg) (by omega)) (cwV 1 hts gX3_letHourComeTo_X0_takesUp rfl rfl rfl (by decide +kernel) ⟨Nat.le_of_ble_eq_true rfl, Nat.le_of_ble_eq_true rfl⟩) (hPW.preV hP hS (ci := 2) rfl (by omega) (cw_b (by omega))) rfl rfl hl.1 rfl (lv_room (Nat.le_of_ble_eq_true rfl)) dX3_letHourComeTo_83 ⟨Nat.le_of_ble_eq_true rfl, Nat.le_of_ble_eq_true rfl⟩) hS (fun r83 u83 H locs h83 hP hS => ?_)
            have hd9 : nn - k = (nn - (k + 1)) + 1 := by omega
            rw [hd9] at hF
            rcases h83 with ⟨rfl, h83, e9⟩ | ⟨h83, h84, rfl, e9⟩ | ⟨h83, h84, rfl, e9⟩
            · have e9 := e9.symm
              subst e9
              refine lv_if_eq (tgt := 90) hx hb dX3_letHourComeTo_86 (by decide) (fun c86 => absurd c86 (by decide)) (fun c86 => ?_)
              refine W.widen (k := 0) (n := 0) (Nat.le_of_ble_eq_true rfl) (Nat.le_of_ble_eq_true rfl) ?_
              exact W.vret hx hb hr (fun t ht hW => ⟨⟨x1, rfl, (by show _ = lhL i nn 0 (lhB (lhA x i) i); rw [show lhA x i = x2 from ex2.symm, ← hF]; exact (lhL_s ⟨h60, h75⟩ h83).symm), PB.mk9 hP ht⟩, hS.F ht⟩) hS.2.2 dX3_letHourComeTo_89
            · have e9 := e9.symm
              subst e9
              refine lv_if_eq (tgt := 90) hx hb dX3_letHourComeTo_86 (by decide) (fun c86 => ?_) (fun c86 => absurd (by decide) c86)
              refine lv_aload_n hx hb dX3_letHourComeTo_90 rfl (lv_at hl 3 rfl) ?_
              refine lv_iconst (v := 1) hx hb dX3_letHourComeTo_91 (by decide) ?_
              refine wx_putN (D := g.1) (cl := vwCl) (ci := 2) (v := .int 1) (ty := .boolean) (w' := cw g L (st x1 14 i 0 1) r0) (C := RX0) (T := TX0) (N := 12) hx hb hts iX0 tyX0 tyX0_ok nmX0 hown hK hP hJ hS (8 + 3 * i) (by omega) (cw_b (by omega)) rfl 4 (by decide) (hE.1 _ (ng_in (w := (Cond.fieldLinkNest "FerroDesk" 100 "FerroDesk$Board" "asleep" "Z" "FerroDesk")) (by decide +kernel))) (fun _ h9 => h9) rfl (by decide +kernel) rfl rfl (Nat.le_of_ble_eq_true rfl) dX3_letHourComeTo_92 (cw_put (r := 14) (i := i) (j := 0) rfl (by omega) ((dk_b (by omega)).trans (by simp [bF, st]))) (fun H locs hP hS => ?_)
              obtain ⟨z95, ez95⟩ : ∃ y : Int32, y = nI k + 1 := ⟨_, rfl⟩
              refine lv_iinc (v := z95) (lv' := [(2, .int z95), (3, .ref (L (26 + 2 * (x1 43 0 k).toNatClampNeg))), (0, .ref (L 0)), (1, .ref (L (8 + 3 * i)))]) hx hb dX3_letHourComeTo_95 hl (k := 1) rfl (by rw [ez95]; rfl) (by decide) rfl (fun ls hl => ?_)
              refine lv_goto (tgt := 40) hx hb dX3_letHourComeTo_98 (by decide) ?_
              exact ih (k + 1) _ _ _ _ _ (by omega) (by rw [ez95, nI_1]) (hG1.k9 (by omega)) ((lhL_a ⟨h60, h75⟩ h83 h84).symm.trans hF) hP hS (lv_sub hl [0, 2, 3] rfl)
            · have e9 := e9.symm
              subst e9
              refine lv_if_eq (tgt := 90) hx hb dX3_letHourComeTo_86 (by decide) (fun c86 => absurd c86 (by decide)) (fun c86 => ?_)
              refine W.widen (k := 0) (n := 0) (Nat.le_of_ble_eq_true rfl) (Nat.le_of_ble_eq_true rfl) ?_
              exact W.vret hx hb hr (fun t ht hW => ⟨⟨(tuF x1 i (x1 43 0 k).toNatClampNeg), rfl, (by show _ = lhL i nn 0 (lhB (lhA x i) i); rw [show lhA x i = x2 from ex2.symm, ← hF]; exact (lhL_t ⟨h60, h75⟩ h83 h84).symm), PB.mk9 hP ht⟩, hS.F ht⟩) hS.2.2 dX3_letHourComeTo_89
          · refine lv_if_eq (tgt := 95) hx hb dX3_letHourComeTo_78 (by decide) (fun c78 => ?_) (fun c78 => absurd (by decide) c78)
            obtain ⟨z95, ez95⟩ : ∃ y : Int32, y = nI k + 1 := ⟨_, rfl⟩
            refine lv_iinc (v := z95) (lv' := [(2, .int z95), (3, .ref (L (26 + 2 * (x1 43 0 k).toNatClampNeg))), (0, .ref (L 0)), (1, .ref (L (8 + 3 * i)))]) hx hb dX3_letHourComeTo_95 hl (k := 1) rfl (by rw [ez95]; rfl) (by decide) rfl (fun ls hl => ?_)
            refine lv_goto (tgt := 40) hx hb dX3_letHourComeTo_98 (by decide) ?_
            exact ih (k + 1) _ _ _ _ _ (by omega) (by rw [ez95, nI_1]) hG1 ((lhL_n (fun h9 => h75 h9.2)).symm.trans (by rw [← (show nn - k = (nn - (k + 1)) + 1 by omega)]; exact hF)) hP hS (lv_sub hl [0, 2, 3] rfl)
        · refine lv_if_eq (tgt := 95) hx hb dX3_letHourComeTo_63 (by decide) (fun c63 => ?_) (fun c63 => absurd (by decide) c63)
          obtain ⟨z95, ez95⟩ : ∃ y : Int32, y = nI k + 1 := ⟨_, rfl⟩
          refine lv_iinc (v := z95) (lv' := [(2, .int z95), (3, .ref (L (26 + 2 * (x1 43 0 k).toNatClampNeg))), (0, .ref (L 0)), (1, .ref (L (8 + 3 * i)))]) hx hb dX3_letHourComeTo_95 hl (k := 1) rfl (by rw [ez95]; rfl) (by decide) rfl (fun ls hl => ?_)
          refine lv_goto (tgt := 40) hx hb dX3_letHourComeTo_98 (by decide) ?_
          exact ih (k + 1) _ _ _ _ _ (by omega) (by rw [ez95, nI_1]) hG1 ((lhL_n (fun h9 => h60 h9.1)).symm.trans (by rw [← (show nn - k = (nn - (k + 1)) + 1 by omega)]; exact hF)) hP hS (lv_sub hl [0, 2, 3] rfl)
    exact key40 nn 0 _ _ _ _ _ (by omega) rfl hG2 (by rw [show lhB x2 i = x2 from if_pos eS]; rfl) hP hS (lv_sub hl [0, 1, 2] rfl)
  · rw [show va_rf (shw L (x2 12 i 0)) = .ref (L (26 + 2 * kS)) from by rw [eS, shw_nI (k := kS) (by omega)]; rfl]
    refine lv_ifnull hx hb dX3_letHourComeTo_17 ?_
    refine lv_aload_n hx hb dX3_letHourComeTo_20 rfl (lv_at hl 1 rfl) ?_
    refine wx_getN (D := g.1) (cl := vwCl) (ci := 2) (v := va_rf (shw L (x2 12 i 0))) (C := RX0) (T := TX0) (N := 12) hx hb hts iX0 hown hK hP (8 + 3 * i) (by omega) (cw_b (by omega)) rfl 2 (by decide) (hE.1 _ (ng_in (w := (Cond.fieldLinkNest "FerroDesk" 90 "FerroDesk$Board" "shown" "LFerroDesk$Notice;" "FerroDesk")) (by decide +kernel))) (fun _ h9 => h9) rfl dX3_letHourComeTo_21 ?_
    rw [show va_rf (shw L (x2 12 i 0)) = .ref (L (26 + 2 * kS)) from by rw [eS, shw_nI (k := kS) (by omega)]; rfl]
    refine lv_aload_n hx hb dX3_letHourComeTo_24 rfl (lv_at hl 0 rfl) ?_
    refine wx_get (D := g.1) (cl := vwCl) (ci := 5) (v := .int (x2 3 0 0)) (C := RX3) (T := TX3) (N := 8) hx hb hts iX3 hown hK hP (0) (by omega) cw_d rfl 7 (by decide) (hts (.fieldLink RX3 41 "FerroDesk" "hour" "I") (by decide +kernel)) (fun _ h9 => h9) rfl dX3_letHourComeTo_25 ?_
    refine wx_calli (va_runV (As := [.int (x2 3 0 0)]) (rest := []) ⟨hx, hb, hml, hown, hts⟩ (k_isOf l hst g base n L (by omega) x2 r0 kS (by omega) (x2 3 0 0)) (cwV 1 hts gX3_letHourComeTo_X1_isOf rfl rfl rfl (by decide +kernel) ⟨Nat.le_of_ble_eq_true rfl, Nat.le_of_ble_eq_true rfl⟩) (hPW.preV hP hS (ci := 3) rfl (by omega) (cw_n (by omega))) rfl rfl hl.1 rfl (lv_room (Nat.le_of_ble_eq_true rfl)) dX3_letHourComeTo_28 ⟨Nat.le_of_ble_eq_true rfl, Nat.le_of_ble_eq_true rfl⟩) hS (fun r28 u28 H locs h28 hP hS => ?_)
    rcases h28 with ⟨rfl, h28⟩ | ⟨rfl, h28⟩
    · refine lv_if_ne (tgt := 38) hx hb dX3_letHourComeTo_31 (by decide) (fun c31 => ?_) (fun c31 => absurd c31 (by decide))
      refine lv_iconst (v := 0) hx hb dX3_letHourComeTo_38 (by decide) ?_
      refine lv_istore_n (lv' := [(2, .int 0), (0, .ref (L 0)), (1, .ref (L (8 + 3 * i)))]) hx hb dX3_letHourComeTo_39 rfl hl (by decide) rfl (fun ls hl => ?_)
      have key40 : ∀ (d k : Nat) (z2 : Int32) (x1 : St) (H : Heap) (locs : List Loc) (ls : Array Slot), k + d = nn → (z2 = nI k) → (GI x1 nb nn) → (lhL i (nn - k) k x1 = lhL i nn 0 (lhB x2 i)) → va_P g.1 vwCl (wl n L (cw g L x1 r0)) H → va_S (fun q : Nat => base ≤ q) s.heap H locs → lv_has ls 4 [(2, .int z2), (0, .ref (L 0)), (1, .ref (L (8 + 3 * i)))] → W p l e (headSpec wsX3_letHourComeTo ({ frames := 5, cells := 0, slots := 0, locals := 170 })).room s m ([.ref (L 0), .ref (L (8 + 3 * i))] : List Value).toArray below meth c H locs (0 + 0 + 0) (0 + 0 + 0) (MQ below (va_Qv (fun (u : St) => u = lhF x i nn) (fun (u : St) t => PB g n L (cw g L u r0) t) (fun q => base ≤ q)) ([.ref (L 0), .ref (L (8 + 3 * i))] : List Value).toArray s 0 0 (fun q => base ≤ q)) (F0 m 40 ls []) := by
        intro d
        induction d with
        | zero =>
          intro k z2 x1 H locs ls hkd ek2 hG1 hF hP hS hl
          obtain rfl : nn = k := by omega
          subst ek2
          refine lv_iload_n hx hb dX3_letHourComeTo_40 rfl (lv_at hl 0 rfl) ?_
          refine lv_aload_n hx hb dX3_letHourComeTo_41 rfl (lv_at hl 1 rfl) ?_
          refine wx_get (D := g.1) (cl := vwCl) (ci := 5) (v := .int (x1 1 0 0)) (C := RX3) (T := TX3) (N := 8) hx hb hts iX3 hown hK hP (0) (by omega) cw_d rfl 4 (by decide) (hts (.fieldLink RX3 28 "FerroDesk" "noticeCount" "I") (by decide +kernel)) (fun _ h9 => h9) rfl dX3_letHourComeTo_42 ?_
          refine lv_icmp_ge (tgt := 101) hx hb dX3_letHourComeTo_45 (by decide) (fun c45 => ?_) (fun c45 => absurd (by rw [hG1.x1]; exact nI_le (Nat.le_refl _) (by have := hG.nn40; omega)) c45)
          refine lv_aload_n hx hb dX3_letHourComeTo_101 rfl (lv_at hl 2 rfl) ?_
          refine wx_callv (va_runV (As := []) (rest := []) ⟨hx, hb, hml, hown, hts⟩ (k_wipe l hst g base n L (by omega) x1 r0 i (by omega) _ (hG1.tc hi) (hG1.x19 hi) ) (cwV 0 hts gX3_letHourComeTo_X0_wipe rfl rfl rfl (by decide +kernel) ⟨Nat.le_of_ble_eq_true rfl, Nat.le_of_ble_eq_true rfl⟩) (hPW.preV hP hS (ci := 2) rfl (by omega) (cw_b (by omega))) rfl rfl hl.1 rfl (lv_room (Nat.le_of_ble_eq_true rfl)) dX3_letHourComeTo_102 ⟨Nat.le_of_ble_eq_true rfl, Nat.le_of_ble_eq_true rfl⟩) hS (fun u102 H locs h102 hP hS => ?_)
          obtain rfl := h102
          refine W.widen (k := 0) (n := 0) (Nat.le_of_ble_eq_true rfl) (Nat.le_of_ble_eq_true rfl) ?_
          exact W.vret hx hb hr (fun t ht hW => ⟨⟨(wiF x1 i), rfl, (by show _ = lhL i nn 0 (lhB (lhA x i) i); rw [show lhA x i = x2 from ex2.symm, ← hF, Nat.sub_self]; rfl), PB.mk9 hP ht⟩, hS.F ht⟩) hS.2.2 dX3_letHourComeTo_105
        | succ d ih =>
          intro k z2 x1 H locs ls hkd ek2 hG1 hF hP hS hl
          have hkN : k < nn := by omega
          subst ek2
          refine lv_iload_n hx hb dX3_letHourComeTo_40 rfl (lv_at hl 0 rfl) ?_
          refine lv_aload_n hx hb dX3_letHourComeTo_41 rfl (lv_at hl 1 rfl) ?_
          refine wx_get (D := g.1) (cl := vwCl) (ci := 5) (v := .int (x1 1 0 0)) (C := RX3) (T := TX3) (N := 8) hx hb hts iX3 hown hK hP (0) (by omega) cw_d rfl 4 (by decide) (hts (.fieldLink RX3 28 "FerroDesk" "noticeCount" "I") (by decide +kernel)) (fun _ h9 => h9) rfl dX3_letHourComeTo_42 ?_
          refine lv_icmp_ge (tgt := 101) hx hb dX3_letHourComeTo_45 (by decide) (fun c45 => absurd c45 (by rw [hG1.x1]; exact nI_ge hkN (by have := hG.nn40; omega))) (fun c45 => ?_)
          have hr9 := hG1.rk k (by have := hG.nn40; omega)
          refine lv_aload_n hx hb dX3_letHourComeTo_48 rfl (lv_at hl 1 rfl) ?_
          refine wx_get (D := g.1) (cl := vwCl) (ci := 5) (v := .ref (L 3)) (C := RX3) (T := TX3) (N := 8) hx hb hts iX3 hown hK hP (0) (by omega) cw_d rfl 3 (by decide) (hts (.fieldLink RX3 25 "FerroDesk" "ranked" "[LFerroDesk$Notice;") (by decide +kernel)) (fun _ h9 => h9) rfl dX3_letHourComeTo_49 ?_
          refine lv_iload_n hx hb dX3_letHourComeTo_52 rfl (lv_at hl 0 rfl) ?_
          refine wx_aald (D := g.1) (cl := vwCl) (f := fun j => if j < 40 then some (L (26 + 2 * (x1 43 0 j).toNatClampNeg)) else none) (a := L (26 + 2 * (x1 43 0 k).toNatClampNeg)) hx hb hK hP (3) 2 (by omega) cw_3 rfl (i := nI k) (vp_in_nI (by have := hG.nn40; omega) (by decide)) (by rw [nI_clamp (show k < 2 ^ 31 by have := hG.nn40; omega)]; exact if_pos (by have := hG.nn40; omega)) dX3_letHourComeTo_53 ?_
          refine lv_astore_n (lv' := [(3, .ref (L (26 + 2 * (x1 43 0 k).toNatClampNeg))), (2, .int (nI k)), (0, .ref (L 0)), (1, .ref (L (8 + 3 * i)))]) hx hb dX3_letHourComeTo_54 rfl hl (by decide) rfl (fun ls hl => ?_)
          refine lv_aload_n hx hb dX3_letHourComeTo_55 rfl (lv_at hl 0 rfl) ?_
          refine lv_aload_n hx hb dX3_letHourComeTo_56 rfl (lv_at hl 2 rfl) ?_
          refine wx_get (D := g.1) (cl := vwCl) (ci := 5) (v := .int (x1 3 0 0)) (C := RX3) (T := TX3) (N := 8) hx hb hts iX3 hown hK hP (0) (by omega) cw_d rfl 7 (by decide) (hts (.fieldLink RX3 41 "FerroDesk" "hour" "I") (by decide +kernel)) (fun _ h9 => h9) rfl dX3_letHourComeTo_57 ?_
          refine wx_calli (va_runV (As := [.int (x1 3 0 0)]) (rest := []) ⟨hx, hb, hml, hown, hts⟩ (k_isOf l hst g base n L (by omega) x1 r0 ((x1 43 0 k).toNatClampNeg) (by omega) (x1 3 0 0)) (cwV 1 hts gX3_letHourComeTo_X1_isOf rfl rfl rfl (by decide +kernel) ⟨Nat.le_of_ble_eq_true rfl, Nat.le_of_ble_eq_true rfl⟩) (hPW.preV hP hS (ci := 3) rfl (by omega) (cw_n (by omega))) rfl rfl hl.1 rfl (lv_room (Nat.le_of_ble_eq_true rfl)) dX3_letHourComeTo_60 ⟨Nat.le_of_ble_eq_true rfl, Nat.le_of_ble_eq_true rfl⟩) hS (fun r60 u60 H locs h60 hP hS => ?_)
          rcases h60 with ⟨rfl, h60⟩ | ⟨rfl, h60⟩
          · refine lv_if_eq (tgt := 95) hx hb dX3_letHourComeTo_63 (by decide) (fun c63 => absurd c63 (by decide)) (fun c63 => ?_)
            refine lv_aload_n hx hb dX3_letHourComeTo_66 rfl (lv_at hl 0 rfl) ?_
            refine lv_aload_n hx hb dX3_letHourComeTo_67 rfl (lv_at hl 3 rfl) ?_
            refine wx_getN (D := g.1) (cl := vwCl) (ci := 2) (v := .int (x1 10 i 0)) (C := RX0) (T := TX0) (N := 12) hx hb hts iX0 hown hK hP (8 + 3 * i) (by omega) (cw_b (by omega)) rfl 0 (by decide) (hE.1 _ (ng_in (w := (Cond.fieldLinkNest "FerroDesk" 267 "FerroDesk$Board" "district" "I" "FerroDesk")) (by decide +kernel))) (fun _ h9 => h9) rfl dX3_letHourComeTo_68 ?_
            refine lv_aload_n hx hb dX3_letHourComeTo_71 rfl (lv_at hl 2 rfl) ?_
            refine wx_get (D := g.1) (cl := vwCl) (ci := 5) (v := .int (x1 3 0 0)) (C := RX3) (T := TX3) (N := 8) hx hb hts iX3 hown hK hP (0) (by omega) cw_d rfl 7 (by decide) (hts (.fieldLink RX3 41 "FerroDesk" "hour" "I") (by decide +kernel)) (fun _ h9 => h9) rfl dX3_letHourComeTo_72 ?_
            refine wx_calli (va_runV (As := [.int (x1 10 i 0), .int (x1 3 0 0)]) (rest := []) ⟨hx, hb, hml, hown, hts⟩ (k_isQueuedIn l hst g base n L (by omega) x1 r0 ((x1 43 0 k).toNatClampNeg) (by omega) (x1 10 i 0) (x1 3 0 0)) (cwV 2 hts gX3_letHourComeTo_X1_isQueuedIn rfl rfl rfl (by decide +kernel) ⟨Nat.le_of_ble_eq_true rfl, Nat.le_of_ble_eq_true rfl⟩) (hPW.preV hP hS (ci := 3) rfl (by omega) (cw_n (by omega))) rfl rfl hl.1 rfl (lv_room (Nat.le_of_ble_eq_true rfl)) dX3_letHourComeTo_75 ⟨Nat.le_of_ble_eq_true rfl, Nat.le_of_ble_eq_true rfl⟩) hS (fun r75 u75 H locs h75 hP hS => ?_)
            rcases h75 with ⟨rfl, h75⟩ | ⟨rfl, h75⟩
            · refine lv_if_eq (tgt := 95) hx hb dX3_letHourComeTo_78 (by decide) (fun c78 => absurd c78 (by decide)) (fun c78 => ?_)
              refine lv_aload_n hx hb dX3_letHourComeTo_81 rfl (lv_at hl 3 rfl) ?_
              refine lv_aload_n hx hb dX3_letHourComeTo_82 rfl (lv_at hl 0 rfl) ?_
              refine wx_calli (va_runV (As := [.ref (L (26 + 2 * (x1 43 0 k).toNatClampNeg))]) (rest := []) ⟨hx, hb, hml, hown, hts⟩ (k_takesUp l hst g base n L (by omega) x1 r0 i (by omega) _ (hG1.tc hi) (hG1.x19 hi) (hG1.sh i hi) ((x1 43 0 k).toNatClampNeg) (by omega)) (cwV 1 hts gX3_letHourComeTo_X0_takesUp rfl rfl rfl (by decide +kernel) ⟨Nat.le_of_ble_eq_true rfl, Nat.le_of_ble_eq_true rfl⟩) (hPW.preV hP hS (ci := 2) rfl (by omega) (cw_b (by omega))) rfl rfl hl.1 rfl (lv_room (Nat.le_of_ble_eq_true rfl)) dX3_letHourComeTo_83 ⟨Nat.le_of_ble_eq_true rfl, Nat.le_of_ble_eq_true rfl⟩) hS (fun r83 u83 H locs h83 hP hS => ?_)
              have hd9 : nn - k = (nn - (k + 1)) + 1 := by omega
              rw [hd9] at hF
              rcases h83 with ⟨rfl, h83, e9⟩ | ⟨h83, h84, rfl, e9⟩ | ⟨h83, h84, rfl, e9⟩
              · have e9 := e9.symm
                subst e9
                refine lv_if_eq (tgt := 90) hx hb dX3_letHourComeTo_86 (by decide) (fun c86 => absurd c86 (by decide)) (fun c86 => ?_)
                refine W.widen (k := 0) (n := 0) (Nat.le_of_ble_eq_true rfl) (Nat.le_of_ble_eq_true rfl) ?_
                exact W.vret hx hb hr (fun t ht hW => ⟨⟨x1, rfl, (by show _ = lhL i nn 0 (lhB (lhA x i) i); rw [show lhA x i = x2 from ex2.symm, ← hF]; exact (lhL_s ⟨h60, h75⟩ h83).symm), PB.mk9 hP ht⟩, hS.F ht⟩) hS.2.2 dX3_letHourComeTo_89
              · have e9 := e9.symm
                subst e9
                refine lv_if_eq (tgt := 90) hx hb dX3_letHourComeTo_86 (by decide) (fun c86 => ?_) (fun c86 => absurd (by decide) c86)
                refine lv_aload_n hx hb dX3_letHourComeTo_90 rfl (lv_at hl 3 rfl) ?_
                refine lv_iconst (v := 1) hx hb dX3_letHourComeTo_91 (by decide) ?_
                refine wx_putN (D := g.1) (cl := vwCl) (ci := 2) (v := .int 1) (ty := .boolean) (w' := cw g L (st x1 14 i 0 1) r0) (C := RX0) (T := TX0) (N := 12) hx hb hts iX0 tyX0 tyX0_ok nmX0 hown hK hP hJ hS (8 + 3 * i) (by omega) (cw_b (by omega)) rfl 4 (by decide) (hE.1 _ (ng_in (w := (Cond.fieldLinkNest "FerroDesk" 100 "FerroDesk$Board" "asleep" "Z" "FerroDesk")) (by decide +kernel))) (fun _ h9 => h9) rfl (by decide +kernel) rfl rfl (Nat.le_of_ble_eq_true rfl) dX3_letHourComeTo_92 (cw_put (r := 14) (i := i) (j := 0) rfl (by omega) ((dk_b (by omega)).trans (by simp [bF, st]))) (fun H locs hP hS => ?_)
                obtain ⟨z95, ez95⟩ : ∃ y : Int32, y = nI k + 1 := ⟨_, rfl⟩
                refine lv_iinc (v := z95) (lv' := [(2, .int z95), (3, .ref (L (26 + 2 * (x1 43 0 k).toNatClampNeg))), (0, .ref (L 0)), (1, .ref (L (8 + 3 * i)))]) hx hb dX3_letHourComeTo_95 hl (k := 1) rfl (by rw [ez95]; rfl) (by decide) rfl (fun ls hl => ?_)
                refine lv_goto (tgt := 40) hx hb dX3_letHourComeTo_98 (by decide) ?_
                exact ih (k + 1) _ _ _ _ _ (by omega) (by rw [ez95, nI_1]) (hG1.k9 (by omega)) ((lhL_a ⟨h60, h75⟩ h83 h84).symm.trans hF) hP hS (lv_sub hl [0, 2, 3] rfl)
              · have e9 := e9.symm
                subst e9
                refine lv_if_eq (tgt := 90) hx hb dX3_letHourComeTo_86 (by decide) (fun c86 => absurd c86 (by decide)) (fun c86 => ?_)
                refine W.widen (k := 0) (n := 0) (Nat.le_of_ble_eq_true rfl) (Nat.le_of_ble_eq_true rfl) ?_
                exact W.vret hx hb hr (fun t ht hW => ⟨⟨(tuF x1 i (x1 43 0 k).toNatClampNeg), rfl, (by show _ = lhL i nn 0 (lhB (lhA x i) i); rw [show lhA x i = x2 from ex2.symm, ← hF]; exact (lhL_t ⟨h60, h75⟩ h83 h84).symm), PB.mk9 hP ht⟩, hS.F ht⟩) hS.2.2 dX3_letHourComeTo_89
            · refine lv_if_eq (tgt := 95) hx hb dX3_letHourComeTo_78 (by decide) (fun c78 => ?_) (fun c78 => absurd (by decide) c78)
              obtain ⟨z95, ez95⟩ : ∃ y : Int32, y = nI k + 1 := ⟨_, rfl⟩
              refine lv_iinc (v := z95) (lv' := [(2, .int z95), (3, .ref (L (26 + 2 * (x1 43 0 k).toNatClampNeg))), (0, .ref (L 0)), (1, .ref (L (8 + 3 * i)))]) hx hb dX3_letHourComeTo_95 hl (k := 1) rfl (by rw [ez95]; rfl) (by decide) rfl (fun ls hl => ?_)
              refine lv_goto (tgt := 40) hx hb dX3_letHourComeTo_98 (by decide) ?_
              exact ih (k + 1) _ _ _ _ _ (by omega) (by rw [ez95, nI_1]) hG1 ((lhL_n (fun h9 => h75 h9.2)).symm.trans (by rw [← (show nn - k = (nn - (k + 1)) + 1 by omega)]; exact hF)) hP hS (lv_sub hl [0, 2, 3] rfl)
          · refine lv_if_eq (tgt := 95) hx hb dX3_letHourComeTo_63 (by decide) (fun c63 => ?_) (fun c63 => absurd (by decide) c63)
            obtain ⟨z95, ez95⟩ : ∃ y : Int32, y = nI k + 1 := ⟨_, rfl⟩
            refine lv_iinc (v := z95) (lv' := [(2, .int z95), (3, .ref (L (26 + 2 * (x1 43 0 k).toNatClampNeg))), (0, .ref (L 0)), (1, .ref (L (8 + 3 * i)))]) hx hb dX3_letHourComeTo_95 hl (k := 1) rfl (by rw [ez95]; rfl) (by decide) rfl (fun ls hl => ?_)
            refine lv_goto (tgt := 40) hx hb dX3_letHourComeTo_98 (by decide) ?_
            exact ih (k + 1) _ _ _ _ _ (by omega) (by rw [ez95, nI_1]) hG1 ((lhL_n (fun h9 => h60 h9.1)).symm.trans (by rw [← (show nn - k = (nn - (k + 1)) + 1 by omega)]; exact hF)) hP hS (lv_sub hl [0, 2, 3] rfl)
      exact key40 nn 0 _ _ _ _ _ (by omega) rfl hG2 (by rw [show lhB x2 i = x2 from (if_neg (fun h9 => nI_ne (by omega) (eS.symm.trans h9))).trans (if_pos (by rw [eS, nI_clamp (show kS < 2 ^ 31 by omega)]; exact h28))]; rfl) hP hS (lv_sub hl [0, 1, 2] rfl)
    · refine lv_if_ne (tgt := 38) hx hb dX3_letHourComeTo_31 (by decide) (fun c31 => absurd c31 (by decide)) (fun c31 => ?_)
      refine lv_aload_n hx hb dX3_letHourComeTo_34 rfl (lv_at hl 1 rfl) ?_
      refine wx_callv (va_runV (As := []) (rest := []) ⟨hx, hb, hml, hown, hts⟩ (k_wipe l hst g base n L (by omega) x2 r0 i (by omega) _ (hG2.tc hi) (hG2.x19 hi) ) (cwV 0 hts gX3_letHourComeTo_X0_wipe rfl rfl rfl (by decide +kernel) ⟨Nat.le_of_ble_eq_true rfl, Nat.le_of_ble_eq_true rfl⟩) (hPW.preV hP hS (ci := 2) rfl (by omega) (cw_b (by omega))) rfl rfl hl.1 rfl (lv_room (Nat.le_of_ble_eq_true rfl)) dX3_letHourComeTo_35 ⟨Nat.le_of_ble_eq_true rfl, Nat.le_of_ble_eq_true rfl⟩) hS (fun u35 H locs h35 hP hS => ?_)
      obtain rfl := h35
      refine lv_iconst (v := 0) hx hb dX3_letHourComeTo_38 (by decide) ?_
      refine lv_istore_n (lv' := [(2, .int 0), (0, .ref (L 0)), (1, .ref (L (8 + 3 * i)))]) hx hb dX3_letHourComeTo_39 rfl hl (by decide) rfl (fun ls hl => ?_)
      have key40 : ∀ (d k : Nat) (z2 : Int32) (x1 : St) (H : Heap) (locs : List Loc) (ls : Array Slot), k + d = nn → (z2 = nI k) → (GI x1 nb nn) → (lhL i (nn - k) k x1 = lhL i nn 0 (lhB x2 i)) → va_P g.1 vwCl (wl n L (cw g L x1 r0)) H → va_S (fun q : Nat => base ≤ q) s.heap H locs → lv_has ls 4 [(2, .int z2), (0, .ref (L 0)), (1, .ref (L (8 + 3 * i)))] → W p l e (headSpec wsX3_letHourComeTo ({ frames := 5, cells := 0, slots := 0, locals := 170 })).room s m ([.ref (L 0), .ref (L (8 + 3 * i))] : List Value).toArray below meth c H locs (0 + 0 + 0 + 0) (0 + 0 + 0 + 0) (MQ below (va_Qv (fun (u : St) => u = lhF x i nn) (fun (u : St) t => PB g n L (cw g L u r0) t) (fun q => base ≤ q)) ([.ref (L 0), .ref (L (8 + 3 * i))] : List Value).toArray s 0 0 (fun q => base ≤ q)) (F0 m 40 ls []) := by
        intro d
        induction d with
        | zero =>
          intro k z2 x1 H locs ls hkd ek2 hG1 hF hP hS hl
          obtain rfl : nn = k := by omega
          subst ek2
          refine lv_iload_n hx hb dX3_letHourComeTo_40 rfl (lv_at hl 0 rfl) ?_
          refine lv_aload_n hx hb dX3_letHourComeTo_41 rfl (lv_at hl 1 rfl) ?_
          refine wx_get (D := g.1) (cl := vwCl) (ci := 5) (v := .int (x1 1 0 0)) (C := RX3) (T := TX3) (N := 8) hx hb hts iX3 hown hK hP (0) (by omega) cw_d rfl 4 (by decide) (hts (.fieldLink RX3 28 "FerroDesk" "noticeCount" "I") (by decide +kernel)) (fun _ h9 => h9) rfl dX3_letHourComeTo_42 ?_
          refine lv_icmp_ge (tgt := 101) hx hb dX3_letHourComeTo_45 (by decide) (fun c45 => ?_) (fun c45 => absurd (by rw [hG1.x1]; exact nI_le (Nat.le_refl _) (by have := hG.nn40; omega)) c45)
          refine lv_aload_n hx hb dX3_letHourComeTo_101 rfl (lv_at hl 2 rfl) ?_
          refine wx_callv (va_runV (As := []) (rest := []) ⟨hx, hb, hml, hown, hts⟩ (k_wipe l hst g base n L (by omega) x1 r0 i (by omega) _ (hG1.tc hi) (hG1.x19 hi) ) (cwV 0 hts gX3_letHourComeTo_X0_wipe rfl rfl rfl (by decide +kernel) ⟨Nat.le_of_ble_eq_true rfl, Nat.le_of_ble_eq_true rfl⟩) (hPW.preV hP hS (ci := 2) rfl (by omega) (cw_b (by omega))) rfl rfl hl.1 rfl (lv_room (Nat.le_of_ble_eq_true rfl)) dX3_letHourComeTo_102 ⟨Nat.le_of_ble_eq_true rfl, Nat.le_of_ble_eq_true rfl⟩) hS (fun u102 H locs h102 hP hS => ?_)
          obtain rfl := h102
          refine W.widen (k := 0) (n := 0) (Nat.le_of_ble_eq_true rfl) (Nat.le_of_ble_eq_true rfl) ?_
          exact W.vret hx hb hr (fun t ht hW => ⟨⟨(wiF x1 i), rfl, (by show _ = lhL i nn 0 (lhB (lhA x i) i); rw [show lhA x i = x2 from ex2.symm, ← hF, Nat.sub_self]; rfl), PB.mk9 hP ht⟩, hS.F ht⟩) hS.2.2 dX3_letHourComeTo_105
        | succ d ih =>
          intro k z2 x1 H locs ls hkd ek2 hG1 hF hP hS hl
          have hkN : k < nn := by omega
          subst ek2
          refine lv_iload_n hx hb dX3_letHourComeTo_40 rfl (lv_at hl 0 rfl) ?_
          refine lv_aload_n hx hb dX3_letHourComeTo_41 rfl (lv_at hl 1 rfl) ?_
          refine wx_get (D := g.1) (cl := vwCl) (ci := 5) (v := .int (x1 1 0 0)) (C := RX3) (T := TX3) (N := 8) hx hb hts iX3 hown hK hP (0) (by omega) cw_d rfl 4 (by decide) (hts (.fieldLink RX3 28 "FerroDesk" "noticeCount" "I") (by decide +kernel)) (fun _ h9 => h9) rfl dX3_letHourComeTo_42 ?_
          refine lv_icmp_ge (tgt := 101) hx hb dX3_letHourComeTo_45 (by decide) (fun c45 => absurd c45 (by rw [hG1.x1]; exact nI_ge hkN (by have := hG.nn40; omega))) (fun c45 => ?_)
          have hr9 := hG1.rk k (by have := hG.nn40; omega)
          refine lv_aload_n hx hb dX3_letHourComeTo_48 rfl (lv_at hl 1 rfl) ?_
          refine wx_get (D := g.1) (cl := vwCl) (ci := 5) (v := .ref (L 3)) (C := RX3) (T := TX3) (N := 8) hx hb hts iX3 hown hK hP (0) (by omega) cw_d rfl 3 (by decide) (hts (.fieldLink RX3 25 "FerroDesk" "ranked" "[LFerroDesk$Notice;") (by decide +kernel)) (fun _ h9 => h9) rfl dX3_letHourComeTo_49 ?_
          refine lv_iload_n hx hb dX3_letHourComeTo_52 rfl (lv_at hl 0 rfl) ?_
          refine wx_aald (D := g.1) (cl := vwCl) (f := fun j => if j < 40 then some (L (26 + 2 * (x1 43 0 j).toNatClampNeg)) else none) (a := L (26 + 2 * (x1 43 0 k).toNatClampNeg)) hx hb hK hP (3) 2 (by omega) cw_3 rfl (i := nI k) (vp_in_nI (by have := hG.nn40; omega) (by decide)) (by rw [nI_clamp (show k < 2 ^ 31 by have := hG.nn40; omega)]; exact if_pos (by have := hG.nn40; omega)) dX3_letHourComeTo_53 ?_
          refine lv_astore_n (lv' := [(3, .ref (L (26 + 2 * (x1 43 0 k).toNatClampNeg))), (2, .int (nI k)), (0, .ref (L 0)), (1, .ref (L (8 + 3 * i)))]) hx hb dX3_letHourComeTo_54 rfl hl (by decide) rfl (fun ls hl => ?_)
          refine lv_aload_n hx hb dX3_letHourComeTo_55 rfl (lv_at hl 0 rfl) ?_
          refine lv_aload_n hx hb dX3_letHourComeTo_56 rfl (lv_at hl 2 rfl) ?_
          refine wx_get (D := g.1) (cl := vwCl) (ci := 5) (v := .int (x1 3 0 0)) (C := RX3) (T := TX3) (N := 8) hx hb hts iX3 hown hK hP (0) (by omega) cw_d rfl 7 (by decide) (hts (.fieldLink RX3 41 "FerroDesk" "hour" "I") (by decide +kernel)) (fun _ h9 => h9) rfl dX3_letHourComeTo_57 ?_
          refine wx_calli (va_runV (As := [.int (x1 3 0 0)]) (rest := []) ⟨hx, hb, hml, hown, hts⟩ (k_isOf l hst g base n L (by omega) x1 r0 ((x1 43 0 k).toNatClampNeg) (by omega) (x1 3 0 0)) (cwV 1 hts gX3_letHourComeTo_X1_isOf rfl rfl rfl (by decide +kernel) ⟨Nat.le_of_ble_eq_true rfl, Nat.le_of_ble_eq_true rfl⟩) (hPW.preV hP hS (ci := 3) rfl (by omega) (cw_n (by omega))) rfl rfl hl.1 rfl (lv_room (Nat.le_of_ble_eq_true rfl)) dX3_letHourComeTo_60 ⟨Nat.le_of_ble_eq_true rfl, Nat.le_of_ble_eq_true rfl⟩) hS (fun r60 u60 H locs h60 hP hS => ?_)
          rcases h60 with ⟨rfl, h60⟩ | ⟨rfl, h60⟩
          · refine lv_if_eq (tgt := 95) hx hb dX3_letHourComeTo_63 (by decide) (fun c63 => absurd c63 (by decide)) (fun c63 => ?_)
            refine lv_aload_n hx hb dX3_letHourComeTo_66 rfl (lv_at hl 0 rfl) ?_
            refine lv_aload_n hx hb dX3_letHourComeTo_67 rfl (lv_at hl 3 rfl) ?_
            refine wx_getN (D := g.1) (cl := vwCl) (ci := 2) (v := .int (x1 10 i 0)) (C := RX0) (T := TX0) (N := 12) hx hb hts iX0 hown hK hP (8 + 3 * i) (by omega) (cw_b (by omega)) rfl 0 (by decide) (hE.1 _ (ng_in (w := (Cond.fieldLinkNest "FerroDesk" 267 "FerroDesk$Board" "district" "I" "FerroDesk")) (by decide +kernel))) (fun _ h9 => h9) rfl dX3_letHourComeTo_68 ?_
            refine lv_aload_n hx hb dX3_letHourComeTo_71 rfl (lv_at hl 2 rfl) ?_
            refine wx_get (D := g.1) (cl := vwCl) (ci := 5) (v := .int (x1 3 0 0)) (C := RX3) (T := TX3) (N := 8) hx hb hts iX3 hown hK hP (0) (by omega) cw_d rfl 7 (by decide) (hts (.fieldLink RX3 41 "FerroDesk" "hour" "I") (by decide +kernel)) (fun _ h9 => h9) rfl dX3_letHourComeTo_72 ?_
            refine wx_calli (va_runV (As := [.int (x1 10 i 0), .int (x1 3 0 0)]) (rest := []) ⟨hx, hb, hml, hown, hts⟩ (k_isQueuedIn l hst g base n L (by omega) x1 r0 ((x1 43 0 k).toNatClampNeg) (by omega) (x1 10 i 0) (x1 3 0 0)) (cwV 2 hts gX3_letHourComeTo_X1_isQueuedIn rfl rfl rfl (by decide +kernel) ⟨Nat.le_of_ble_eq_true rfl, Nat.le_of_ble_eq_true rfl⟩) (hPW.preV hP hS (ci := 3) rfl (by omega) (cw_n (by omega))) rfl rfl hl.1 rfl (lv_room (Nat.le_of_ble_eq_true rfl)) dX3_letHourComeTo_75 ⟨Nat.le_of_ble_eq_true rfl, Nat.le_of_ble_eq_true rfl⟩) hS (fun r75 u75 H locs h75 hP hS => ?_)
            rcases h75 with ⟨rfl, h75⟩ | ⟨rfl, h75⟩
            · refine lv_if_eq (tgt := 95) hx hb dX3_letHourComeTo_78 (by decide) (fun c78 => absurd c78 (by decide)) (fun c78 => ?_)
              refine lv_aload_n hx hb dX3_letHourComeTo_81 rfl (lv_at hl 3 rfl) ?_
              refine lv_aload_n hx hb dX3_letHourComeTo_82 rfl (lv_at hl 0 rfl) ?_
              refine wx_calli (va_runV (As := [.ref (L (26 + 2 * (x1 43 0 k).toNatClampNeg))]) (rest := []) ⟨hx, hb, hml, hown, hts⟩ (k_takesUp l hst g base n L (by omega) x1 r0 i (by omega) _ (hG1.tc hi) (hG1.x19 hi) (hG1.sh i hi) ((x1 43 0 k).toNatClampNeg) (by omega)) (cwV 1 hts gX3_letHourComeTo_X0_takesUp rfl rfl rfl (by decide +kernel) ⟨Nat.le_of_ble_eq_true rfl, Nat.le_of_ble_eq_true rfl⟩) (hPW.preV hP hS (ci := 2) rfl (by omega) (cw_b (by omega))) rfl rfl hl.1 rfl (lv_room (Nat.le_of_ble_eq_true rfl)) dX3_letHourComeTo_83 ⟨Nat.le_of_ble_eq_true rfl, Nat.le_of_ble_eq_true rfl⟩) hS (fun r83 u83 H locs h83 hP hS => ?_)
              have hd9 : nn - k = (nn - (k + 1)) + 1 := by omega
              rw [hd9] at hF
              rcases h83 with ⟨rfl, h83, e9⟩ | ⟨h83, h84, rfl, e9⟩ | ⟨h83, h84, rfl, e9⟩
              · have e9 := e9.symm
                subst e9
                refine lv_if_eq (tgt := 90) hx hb dX3_letHourComeTo_86 (by decide) (fun c86 => absurd c86 (by decide)) (fun c86 => ?_)
                refine W.widen (k := 0) (n := 0) (Nat.le_of_ble_eq_true rfl) (Nat.le_of_ble_eq_true rfl) ?_
                exact W.vret hx hb hr (fun t ht hW => ⟨⟨x1, rfl, (by show _ = lhL i nn 0 (lhB (lhA x i) i); rw [show lhA x i = x2 from ex2.symm, ← hF]; exact (lhL_s ⟨h60, h75⟩ h83).symm), PB.mk9 hP ht⟩, hS.F ht⟩) hS.2.2 dX3_letHourComeTo_89
              · have e9 := e9.symm
                subst e9
                refine lv_if_eq (tgt := 90) hx hb dX3_letHourComeTo_86 (by decide) (fun c86 => ?_) (fun c86 => absurd (by decide) c86)
                refine lv_aload_n hx hb dX3_letHourComeTo_90 rfl (lv_at hl 3 rfl) ?_
                refine lv_iconst (v := 1) hx hb dX3_letHourComeTo_91 (by decide) ?_
                refine wx_putN (D := g.1) (cl := vwCl) (ci := 2) (v := .int 1) (ty := .boolean) (w' := cw g L (st x1 14 i 0 1) r0) (C := RX0) (T := TX0) (N := 12) hx hb hts iX0 tyX0 tyX0_ok nmX0 hown hK hP hJ hS (8 + 3 * i) (by omega) (cw_b (by omega)) rfl 4 (by decide) (hE.1 _ (ng_in (w := (Cond.fieldLinkNest "FerroDesk" 100 "FerroDesk$Board" "asleep" "Z" "FerroDesk")) (by decide +kernel))) (fun _ h9 => h9) rfl (by decide +kernel) rfl rfl (Nat.le_of_ble_eq_true rfl) dX3_letHourComeTo_92 (cw_put (r := 14) (i := i) (j := 0) rfl (by omega) ((dk_b (by omega)).trans (by simp [bF, st]))) (fun H locs hP hS => ?_)
                obtain ⟨z95, ez95⟩ : ∃ y : Int32, y = nI k + 1 := ⟨_, rfl⟩
                refine lv_iinc (v := z95) (lv' := [(2, .int z95), (3, .ref (L (26 + 2 * (x1 43 0 k).toNatClampNeg))), (0, .ref (L 0)), (1, .ref (L (8 + 3 * i)))]) hx hb dX3_letHourComeTo_95 hl (k := 1) rfl (by rw [ez95]; rfl) (by decide) rfl (fun ls hl => ?_)
                refine lv_goto (tgt := 40) hx hb dX3_letHourComeTo_98 (by decide) ?_
                exact ih (k + 1) _ _ _ _ _ (by omega) (by rw [ez95, nI_1]) (hG1.k9 (by omega)) ((lhL_a ⟨h60, h75⟩ h83 h84).symm.trans hF) hP hS (lv_sub hl [0, 2, 3] rfl)
              · have e9 := e9.symm
                subst e9
                refine lv_if_eq (tgt := 90) hx hb dX3_letHourComeTo_86 (by decide) (fun c86 => absurd c86 (by decide)) (fun c86 => ?_)
                refine W.widen (k := 0) (n := 0) (Nat.le_of_ble_eq_true rfl) (Nat.le_of_ble_eq_true rfl) ?_
                exact W.vret hx hb hr (fun t ht hW => ⟨⟨(tuF x1 i (x1 43 0 k).toNatClampNeg), rfl, (by show _ = lhL i nn 0 (lhB (lhA x i) i); rw [show lhA x i = x2 from ex2.symm, ← hF]; exact (lhL_t ⟨h60, h75⟩ h83 h84).symm), PB.mk9 hP ht⟩, hS.F ht⟩) hS.2.2 dX3_letHourComeTo_89
            · refine lv_if_eq (tgt := 95) hx hb dX3_letHourComeTo_78 (by decide) (fun c78 => ?_) (fun c78 => absurd (by decide) c78)
              obtain ⟨z95, ez95⟩ : ∃ y : Int32, y = nI k + 1 := ⟨_, rfl⟩
              refine lv_iinc (v := z95) (lv' := [(2, .int z95), (3, .ref (L (26 + 2 * (x1 43 0 k).toNatClampNeg))), (0, .ref (L 0)), (1, .ref (L (8 + 3 * i)))]) hx hb dX3_letHourComeTo_95 hl (k := 1) rfl (by rw [ez95]; rfl) (by decide) rfl (fun ls hl => ?_)
              refine lv_goto (tgt := 40) hx hb dX3_letHourComeTo_98 (by decide) ?_
              exact ih (k + 1) _ _ _ _ _ (by omega) (by rw [ez95, nI_1]) hG1 ((lhL_n (fun h9 => h75 h9.2)).symm.trans (by rw [← (show nn - k = (nn - (k + 1)) + 1 by omega)]; exact hF)) hP hS (lv_sub hl [0, 2, 3] rfl)
          · refine lv_if_eq (tgt := 95) hx hb dX3_letHourComeTo_63 (by decide) (fun c63 => ?_) (fun c63 => absurd (by decide) c63)
            obtain ⟨z95, ez95⟩ : ∃ y : Int32, y = nI k + 1 := ⟨_, rfl⟩
            refine lv_iinc (v := z95) (lv' := [(2, .int z95), (3, .ref (L (26 + 2 * (x1 43 0 k).toNatClampNeg))), (0, .ref (L 0)), (1, .ref (L (8 + 3 * i)))]) hx hb dX3_letHourComeTo_95 hl (k := 1) rfl (by rw [ez95]; rfl) (by decide) rfl (fun ls hl => ?_)
            refine lv_goto (tgt := 40) hx hb dX3_letHourComeTo_98 (by decide) ?_
            exact ih (k + 1) _ _ _ _ _ (by omega) (by rw [ez95, nI_1]) hG1 ((lhL_n (fun h9 => h60 h9.1)).symm.trans (by rw [← (show nn - k = (nn - (k + 1)) + 1 by omega)]; exact hF)) hP hS (lv_sub hl [0, 2, 3] rfl)
      exact key40 nn 0 _ _ _ _ _ (by omega) rfl (hG2.wi hi) (by rw [show lhB x2 i = wiF x2 i from (if_neg (fun h9 => nI_ne (by omega) (eS.symm.trans h9))).trans (if_neg (by rw [eS, nI_clamp (show kS < 2 ^ 31 by omega)]; exact h28))]; rfl) hP hS (lv_sub hl [0, 1, 2] rfl)

set_option maxHeartbeats 4000000 in
set_option maxRecDepth 100000 in
theorem k_go (l : Launch) (hst : l.stackTraces = false) (g : gE) (base n : Nat) (L : Nat → Nat) (hn : 106 ≤ n) (x : St) (r0 : Nat → va_E) (nb nn : Nat) (hG : GI x nb nn) (p0 : Int32) : vx_Met l yX3_go wsX3_go ({ frames := 7, cells := 1, slots := 6, locals := 240 }) (va_Pc [.ref (L 0), .int p0] (PW SS g base n L (cw g L x r0))) (va_Qi (fun (r : Int32) (u : St) => (1 ≤ p0.toInt ∧ p0.toInt ≤ 48) ∧ x 3 0 0 + p0 ≤ 2000 ∧ ∃ N, N ≤ 48 ∧ p0 = nI N ∧ u = goF x nb nn N ∧ r = u 3 0 0) (fun (u : St) t => PB g n L (cw g L u r0) t) (fun q => base ≤ q)) (QX g base n L (cw g L x r0) (fun E => (E = "java/lang/IllegalArgumentException" ∧ ¬ (1 ≤ p0.toInt ∧ p0.toInt ≤ 48)) ∨ (E = "java/lang/IllegalStateException" ∧ (1 ≤ p0.toInt ∧ p0.toInt ≤ 48) ∧ ¬ x 3 0 0 + p0 ≤ 2000))) 1 6 (fun q => base ≤ q) := by
  refine vx_ofW (cc := cX3_go) (maxL := 4) (ret := (some .int)) (by decide) rfl ?_
  intro p e s m args below meth c s₁ B hml hno hv
  obtain ⟨rfl, hPW⟩ := hv
  obtain ⟨hbs, hJ, hP, hK, hE⟩ := id hPW
  have hx := B.exec
  have hb := B.bytes
  have hr := B.returns
  have hts := atoms_spec (ws := wsX3_go) B.pre
  have hown : s.vm.findClass RX3 = some m.cls := findClass_of_methodNamed B.named
  have hlocks := B.notSynchronized
  have hS : va_S (fun q : Nat => base ≤ q) s.heap s.heap [] := va_S.rf
  have hl := lv_entry ([.ref (L 0), .int p0]) (n := 4) (Nat.le_of_ble_eq_true rfl)
  rw [lg_entry_eq]
  generalize (lg_sl ([.ref (L 0), .int p0]) ++ List.replicate (4 - (lg_sl ([.ref (L 0), .int p0])).length) Slot.unset).toArray = ls at hl ⊢
  have hl : lv_has ls 4 [(0, .ref (L 0)), (1, .int p0)] := hl
  have iX3 : ∀ w ∈ wsX30, w ∈ wsX3_go := by decide +kernel
  refine lv_iload_n hx hb dX3_go_0 rfl (lv_at hl 1 rfl) ?_
  refine lv_iconst (v := 1) hx hb dX3_go_1 (by decide) ?_
  refine lv_icmp_lt (tgt := 11) hx hb dX3_go_2 (by decide) (fun c2 => ?_) (fun c2 => ?_)
  · exact wx_throwS (ik := 51) (is := 218) (ic := 55) (own := RX3) (cls := "java/lang/IllegalArgumentException") (text := "the hours are not 1 to 48") (names := ["java/lang/RuntimeException", "java/lang/Exception"]) hx hb hst hPW hown (by decide +kernel) (by decide +kernel) (hts (.classLink RX3 51 "java/lang/IllegalArgumentException") (by decide +kernel)) (hts (.initialized "java/lang/IllegalArgumentException") (by decide +kernel)) (by decide +kernel) (fun w hw => hts w (List.mem_cons_of_mem _ (List.mem_append_left _ (List.mem_append_left _ (List.mem_append_right _ hw))))) (by decide +kernel) (by decide +kernel) hP hS (hl.1.trans hml.symm) dX3_go_11 dX3_go_14 dX3_go_15 dX3_go_17 dX3_go_20 hno (Nat.lt_of_lt_of_le (Nat.lt_succ_self _) (Nat.le_of_ble_eq_true rfl)) (Nat.le_of_ble_eq_true rfl) (Nat.le_of_ble_eq_true rfl) (Nat.le_of_ble_eq_true rfl) hlocks (Or.inl ⟨rfl, (by revert c2; (try simp only [Int32.lt_iff_toInt_lt, Int32.le_iff_toInt_le, ← Int32.toInt_inj, i_0, i_1, i_2, i_3, i_4, i_6, i_9, i_20, i_32, i_40, i_48, i_60, i_200, i_999, i_2000, i_m1, i_8]); omega)⟩) (Nat.le_of_ble_eq_true rfl) (Nat.le_of_ble_eq_true rfl)
  · refine lv_iload_n hx hb dX3_go_5 rfl (lv_at hl 1 rfl) ?_
    refine lv_bipush (v := 48) hx hb dX3_go_6 (by decide) ?_
    refine lv_icmp_le (tgt := 21) hx hb dX3_go_8 (by decide) (fun c8 => ?_) (fun c8 => ?_)
    · refine lv_aload_n hx hb dX3_go_21 rfl (lv_at hl 0 rfl) ?_
      refine wx_get (D := g.1) (cl := vwCl) (ci := 5) (v := .int (x 3 0 0)) (C := RX3) (T := TX3) (N := 8) hx hb hts iX3 hown hK hP (0) (by omega) cw_d rfl 7 (by decide) (hts (.fieldLink RX3 41 "FerroDesk" "hour" "I") (by decide +kernel)) (fun _ h9 => h9) rfl dX3_go_22 ?_
      refine lv_iload_n hx hb dX3_go_25 rfl (lv_at hl 1 rfl) ?_
      refine lv_iadd hx hb dX3_go_26 ?_
      refine lv_sipush (v := 2000) hx hb dX3_go_27 (by decide) ?_
      refine lv_icmp_le (tgt := 43) hx hb dX3_go_30 (by decide) (fun c30 => ?_) (fun c30 => ?_)
      · have hok : (1 ≤ p0.toInt ∧ p0.toInt ≤ 48) := (by revert c2 c8; (try simp only [Int32.lt_iff_toInt_lt, Int32.le_iff_toInt_le, ← Int32.toInt_inj, i_0, i_1, i_2, i_3, i_4, i_6, i_9, i_20, i_32, i_40, i_48, i_60, i_200, i_999, i_2000, i_m1, i_8]); omega)
        obtain ⟨N, hN, eN⟩ : ∃ N : Nat, N ≤ 48 ∧ p0 = nI N := nI_of2 (M := 48) (by decide) (by have h9 := hok.1; rw [Int32.lt_iff_toInt_lt, i_0]; omega) c8
        have hnb := hG.nb6
        refine lv_iconst (v := 0) hx hb dX3_go_43 (by decide) ?_
        refine lv_istore_n (lv' := [(2, .int 0), (0, .ref (L 0)), (1, .int p0)]) hx hb dX3_go_44 rfl hl (by decide) rfl (fun ls hl => ?_)
        have key45 : ∀ (d k : Nat) (z2 : Int32) (x1 : St) (H : Heap) (locs : List Loc) (ls : Array Slot), k + d = N → (z2 = nI k) → (x1 = goF x nb nn k) → va_P g.1 vwCl (wl n L (cw g L x1 r0)) H → va_S (fun q : Nat => base ≤ q) s.heap H locs → lv_has ls 4 [(2, .int z2), (0, .ref (L 0)), (1, .int p0)] → W p l e (headSpec wsX3_go ({ frames := 7, cells := 1, slots := 6, locals := 240 })).room s m ([.ref (L 0), .int p0] : List Value).toArray below meth c H locs 0 0 (vx_MQ below (va_Qi (fun (r : Int32) (u : St) => (1 ≤ p0.toInt ∧ p0.toInt ≤ 48) ∧ x 3 0 0 + p0 ≤ 2000 ∧ ∃ N, N ≤ 48 ∧ p0 = nI N ∧ u = goF x nb nn N ∧ r = u 3 0 0) (fun (u : St) t => PB g n L (cw g L u r0) t) (fun q => base ≤ q)) (QX g base n L (cw g L x r0) (fun E => (E = "java/lang/IllegalArgumentException" ∧ ¬ (1 ≤ p0.toInt ∧ p0.toInt ≤ 48)) ∨ (E = "java/lang/IllegalStateException" ∧ (1 ≤ p0.toInt ∧ p0.toInt ≤ 48) ∧ ¬ x 3 0 0 + p0 ≤ 2000))) ([.ref (L 0), .int p0] : List Value).toArray s 1 6 (fun q => base ≤ q)) (F0 m 45 ls []) := by
          intro d
          induction d with
          | zero =>
            intro k z2 x1 H locs ls hkd ek2 es1 hP hS hl
            obtain rfl : N = k := by omega
            subst ek2 es1
            refine lv_iload_n hx hb dX3_go_45 rfl (lv_at hl 0 rfl) ?_
            refine lv_iload_n hx hb dX3_go_46 rfl (lv_at hl 2 rfl) ?_
            refine lv_icmp_ge (tgt := 92) hx hb dX3_go_47 (by decide) (fun c47 => ?_) (fun c47 => absurd (by rw [eN]; exact nI_le (Nat.le_refl _) (by omega)) c47)
            refine lv_aload_n hx hb dX3_go_92 rfl (lv_at hl 1 rfl) ?_
            refine wx_get (D := g.1) (cl := vwCl) (ci := 5) (v := .int ((goF x nb nn N) 3 0 0)) (C := RX3) (T := TX3) (N := 8) hx hb hts iX3 hown hK hP (0) (by omega) cw_d rfl 7 (by decide) (hts (.fieldLink RX3 41 "FerroDesk" "hour" "I") (by decide +kernel)) (fun _ h9 => h9) rfl dX3_go_93 ?_
            refine W.widen (k := 1) (n := 6) (Nat.le_of_ble_eq_true rfl) (Nat.le_of_ble_eq_true rfl) ?_
            exact vx_ret (W.iret (v := (goF x nb nn N) 3 0 0) hx hb hr (fun t ht hW => ⟨⟨(goF x nb nn N) 3 0 0, (goF x nb nn N), rfl, ⟨hok, c30, N, hN, eN, rfl, rfl⟩, PB.mk9 hP ht⟩, hS.F ht⟩) hS.2.2 dX3_go_96)
          | succ d ih =>
            intro k z2 x1 H locs ls hkd ek2 es1 hP hS hl
            have hkN : k < N := by omega
            subst ek2 es1
            refine lv_iload_n hx hb dX3_go_45 rfl (lv_at hl 0 rfl) ?_
            refine lv_iload_n hx hb dX3_go_46 rfl (lv_at hl 2 rfl) ?_
            refine lv_icmp_ge (tgt := 92) hx hb dX3_go_47 (by decide) (fun c47 => absurd c47 (by rw [eN]; exact nI_ge hkN (by omega))) (fun c47 => ?_)
            refine lv_aload_n hx hb dX3_go_50 rfl (lv_at hl 1 rfl) ?_
            refine lv_dup hx hb dX3_go_51 rfl ?_
            refine wx_get (D := g.1) (cl := vwCl) (ci := 5) (v := .int ((goF x nb nn k) 3 0 0)) (C := RX3) (T := TX3) (N := 8) hx hb hts iX3 hown hK hP (0) (by omega) cw_d rfl 7 (by decide) (hts (.fieldLink RX3 41 "FerroDesk" "hour" "I") (by decide +kernel)) (fun _ h9 => h9) rfl dX3_go_52 ?_
            refine lv_iconst (v := 1) hx hb dX3_go_55 (by decide) ?_
            refine lv_iadd hx hb dX3_go_56 ?_
            refine wx_put (D := g.1) (cl := vwCl) (ci := 5) (v := .int (((goF x nb nn k) 3 0 0) + 1)) (ty := .int) (w' := cw g L (st (goF x nb nn k) 3 0 0 (((goF x nb nn k) 3 0 0) + 1)) r0) (C := RX3) (T := TX3) (N := 8) hx hb hts iX3 tyX3 tyX3_ok nmX3 hown hK hP hJ hS (0) (by omega) cw_d rfl 7 (by decide) (hts (.fieldLink RX3 41 "FerroDesk" "hour" "I") (by decide +kernel)) (fun _ h9 => h9) rfl (by decide +kernel) rfl rfl (Nat.le_of_ble_eq_true rfl) dX3_go_57 (cw_put (r := 3) (i := 0) (j := 0) rfl (by omega) (dk_0.trans (by simp [dF, st]))) (fun H locs hP hS => ?_)
            refine lv_iconst (v := 0) hx hb dX3_go_60 (by decide) ?_
            refine lv_istore_n (lv' := [(3, .int 0), (2, .int (nI k)), (0, .ref (L 0)), (1, .int p0)]) hx hb dX3_go_61 rfl hl (by decide) rfl (fun ls hl => ?_)
            have key62 : ∀ (dj j : Nat) (z3 : Int32) (x3 : St) (H : Heap) (locs : List Loc) (ls : Array Slot), j + dj = nb → (z3 = nI j) → (x3 = hrF (goS (goF x nb nn k)) nn j) → va_P g.1 vwCl (wl n L (cw g L x3 r0)) H → va_S (fun q : Nat => base ≤ q) s.heap H locs → lv_has ls 4 [(3, .int z3), (0, .ref (L 0)), (1, .int p0), (2, .int (nI k))] → W p l e (headSpec wsX3_go ({ frames := 7, cells := 1, slots := 6, locals := 240 })).room s m ([.ref (L 0), .int p0] : List Value).toArray below meth c H locs 0 0 (vx_MQ below (va_Qi (fun (r : Int32) (u : St) => (1 ≤ p0.toInt ∧ p0.toInt ≤ 48) ∧ x 3 0 0 + p0 ≤ 2000 ∧ ∃ N, N ≤ 48 ∧ p0 = nI N ∧ u = goF x nb nn N ∧ r = u 3 0 0) (fun (u : St) t => PB g n L (cw g L u r0) t) (fun q => base ≤ q)) (QX g base n L (cw g L x r0) (fun E => (E = "java/lang/IllegalArgumentException" ∧ ¬ (1 ≤ p0.toInt ∧ p0.toInt ≤ 48)) ∨ (E = "java/lang/IllegalStateException" ∧ (1 ≤ p0.toInt ∧ p0.toInt ≤ 48) ∧ ¬ x 3 0 0 + p0 ≤ 2000))) ([.ref (L 0), .int p0] : List Value).toArray s 1 6 (fun q => base ≤ q)) (F0 m 62 ls []) := by
              intro dj
              induction dj with
              | zero =>
                intro j z3 x3 H locs ls hkdj ek3 es1 hP hS hl
                obtain rfl : nb = j := by omega
                subst ek3 es1
                refine lv_iload_n hx hb dX3_go_62 rfl (lv_at hl 0 rfl) ?_
                refine lv_aload_n hx hb dX3_go_63 rfl (lv_at hl 1 rfl) ?_
                refine wx_get (D := g.1) (cl := vwCl) (ci := 5) (v := .int ((hrF (goS (goF x nb nn k)) nn nb) 0 0 0)) (C := RX3) (T := TX3) (N := 8) hx hb hts iX3 hown hK hP (0) (by omega) cw_d rfl 1 (by decide) (hts (.fieldLink RX3 15 "FerroDesk" "boardCount" "I") (by decide +kernel)) (fun _ h9 => h9) rfl dX3_go_64 ?_
                refine lv_icmp_ge (tgt := 86) hx hb dX3_go_67 (by decide) (fun c67 => ?_) (fun c67 => absurd (by rw [((hG.go k).gS.hr nb hnb).x0]; exact nI_le (Nat.le_refl _) (by omega)) c67)
                obtain ⟨z86, ez86⟩ : ∃ y : Int32, y = nI k + 1 := ⟨_, rfl⟩
                refine lv_iinc (v := z86) (lv' := [(2, .int z86), (3, .int (nI nb)), (0, .ref (L 0)), (1, .int p0)]) hx hb dX3_go_86 hl (k := 3) rfl (by rw [ez86]; rfl) (by decide) rfl (fun ls hl => ?_)
                refine lv_goto (tgt := 45) hx hb dX3_go_89 (by decide) ?_
                exact ih (k + 1) _ _ _ _ _ (by omega) (by rw [ez86, nI_1]) rfl hP hS (lv_sub hl [0, 2, 3] rfl)
              | succ dj ihj =>
                intro j z3 x3 H locs ls hkdj ek3 es1 hP hS hl
                have hkNj : j < nb := by omega
                subst ek3 es1
                refine lv_iload_n hx hb dX3_go_62 rfl (lv_at hl 0 rfl) ?_
                refine lv_aload_n hx hb dX3_go_63 rfl (lv_at hl 1 rfl) ?_
                refine wx_get (D := g.1) (cl := vwCl) (ci := 5) (v := .int ((hrF (goS (goF x nb nn k)) nn j) 0 0 0)) (C := RX3) (T := TX3) (N := 8) hx hb hts iX3 hown hK hP (0) (by omega) cw_d rfl 1 (by decide) (hts (.fieldLink RX3 15 "FerroDesk" "boardCount" "I") (by decide +kernel)) (fun _ h9 => h9) rfl dX3_go_64 ?_
                refine lv_icmp_ge (tgt := 86) hx hb dX3_go_67 (by decide) (fun c67 => absurd c67 (by rw [((hG.go k).gS.hr j (by omega)).x0]; exact nI_ge hkNj (by omega))) (fun c67 => ?_)
                refine lv_aload_n hx hb dX3_go_70 rfl (lv_at hl 1 rfl) ?_
                refine lv_aload_n hx hb dX3_go_71 rfl (lv_at hl 1 rfl) ?_
                refine wx_get (D := g.1) (cl := vwCl) (ci := 5) (v := .ref (L 1)) (C := RX3) (T := TX3) (N := 8) hx hb hts iX3 hown hK hP (0) (by omega) cw_d rfl 0 (by decide) (hts (.fieldLink RX3 11 "FerroDesk" "boards" "[LFerroDesk$Board;") (by decide +kernel)) (fun _ h9 => h9) rfl dX3_go_72 ?_
                refine lv_iload_n hx hb dX3_go_75 rfl (lv_at hl 0 rfl) ?_
                refine wx_aald (D := g.1) (cl := vwCl) (f := fun j => if j < 6 then some (L (8 + 3 * j)) else none) (a := L (8 + 3 * j)) hx hb hK hP (1) 1 (by omega) cw_1 rfl (i := nI j) (vp_in_nI (by omega) (by decide)) (by rw [nI_clamp (show j < 2 ^ 31 by omega)]; exact if_pos (by omega)) dX3_go_76 ?_
                refine wx_callv (va_runV (As := [.ref (L (8 + 3 * j))]) (rest := []) ⟨hx, hb, hml, hown, hts⟩ (k_letHourComeTo l hst g base n L (by omega) (hrF (goS (goF x nb nn k)) nn j) r0 nb nn (((hG.go k).gS).hr j (by omega)) j (by omega)) (cwV 1 hts gX3_go_X3_letHourComeTo rfl rfl rfl (by decide +kernel) ⟨Nat.le_of_ble_eq_true rfl, Nat.le_of_ble_eq_true rfl⟩) (hPW.preV hP hS (ci := 5) rfl (by omega) cw_d) rfl rfl hl.1 rfl (lv_room (Nat.le_of_ble_eq_true rfl)) dX3_go_77 ⟨Nat.le_of_ble_eq_true rfl, Nat.le_of_ble_eq_true rfl⟩) hS (fun u77 H locs h77 hP hS => ?_)
                obtain rfl := h77
                obtain ⟨z80, ez80⟩ : ∃ y : Int32, y = nI j + 1 := ⟨_, rfl⟩
                refine lv_iinc (v := z80) (lv' := [(3, .int z80), (0, .ref (L 0)), (1, .int p0), (2, .int (nI k))]) hx hb dX3_go_80 hl (k := 0) rfl (by rw [ez80]; rfl) (by decide) rfl (fun ls hl => ?_)
                refine lv_goto (tgt := 62) hx hb dX3_go_83 (by decide) ?_
                exact ihj (j + 1) _ _ _ _ _ (by omega) (by rw [ez80, nI_1]) rfl hP hS (lv_sub hl [0, 1, 2, 3] rfl)
            exact key62 nb 0 _ _ _ _ _ (by omega) rfl rfl hP hS (lv_sub hl [0, 2, 3, 1] rfl)
        exact key45 N 0 _ _ _ _ _ (by omega) rfl rfl hP hS (lv_sub hl [0, 1, 2] rfl)
      · exact wx_throwS (ik := 58) (is := 220) (ic := 62) (own := RX3) (cls := "java/lang/IllegalStateException") (text := "the hour would be later than 2000") (names := ["java/lang/RuntimeException", "java/lang/Exception"]) hx hb hst hPW hown (by decide +kernel) (by decide +kernel) (hts (.classLink RX3 58 "java/lang/IllegalStateException") (by decide +kernel)) (hts (.initialized "java/lang/IllegalStateException") (by decide +kernel)) (by decide +kernel) (fun w hw => hts w (List.mem_cons_of_mem _ (List.mem_append_left _ (List.mem_append_right _ hw)))) (by decide +kernel) (by decide +kernel) hP hS (hl.1.trans hml.symm) dX3_go_33 dX3_go_36 dX3_go_37 dX3_go_39 dX3_go_42 hno (Nat.lt_of_lt_of_le (Nat.lt_succ_self _) (Nat.le_of_ble_eq_true rfl)) (Nat.le_of_ble_eq_true rfl) (Nat.le_of_ble_eq_true rfl) (Nat.le_of_ble_eq_true rfl) hlocks (Or.inr ⟨rfl, (by revert c2 c8; (try simp only [Int32.lt_iff_toInt_lt, Int32.le_iff_toInt_le, ← Int32.toInt_inj, i_0, i_1, i_2, i_3, i_4, i_6, i_9, i_20, i_32, i_40, i_48, i_60, i_200, i_999, i_2000, i_m1, i_8]); omega), c30⟩) (Nat.le_of_ble_eq_true rfl) (Nat.le_of_ble_eq_true rfl)
    · exact wx_throwS (ik := 51) (is := 218) (ic := 55) (own := RX3) (cls := "java/lang/IllegalArgumentException") (text := "the hours are not 1 to 48") (names := ["java/lang/RuntimeException", "java/lang/Exception"]) hx hb hst hPW hown (by decide +kernel) (by decide +kernel) (hts (.classLink RX3 51 "java/lang/IllegalArgumentException") (by decide +kernel)) (hts (.initialized "java/lang/IllegalArgumentException") (by decide +kernel)) (by decide +kernel) (fun w hw => hts w (List.mem_cons_of_mem _ (List.mem_append_left _ (List.mem_append_left _ (List.mem_append_right _ hw))))) (by decide +kernel) (by decide +kernel) hP hS (hl.1.trans hml.symm) dX3_go_11 dX3_go_14 dX3_go_15 dX3_go_17 dX3_go_20 hno (Nat.lt_of_lt_of_le (Nat.lt_succ_self _) (Nat.le_of_ble_eq_true rfl)) (Nat.le_of_ble_eq_true rfl) (Nat.le_of_ble_eq_true rfl) (Nat.le_of_ble_eq_true rfl) hlocks (Or.inl ⟨rfl, (by revert c2 c8; (try simp only [Int32.lt_iff_toInt_lt, Int32.le_iff_toInt_le, ← Int32.toInt_inj, i_0, i_1, i_2, i_3, i_4, i_6, i_9, i_20, i_32, i_40, i_48, i_60, i_200, i_999, i_2000, i_m1, i_8]); omega)⟩) (Nat.le_of_ble_eq_true rfl) (Nat.le_of_ble_eq_true rfl)

