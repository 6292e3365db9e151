/-! laid by wip/gen -/
set_option maxHeartbeats 4000000 in
set_option maxRecDepth 100000 in
theorem m_in (l : Launch) (hst : l.stackTraces = false) (g : gE) (base n : Nat) (L : Nat → Nat) (w0 : Nat → va_E) (p0 p1 p2 : Int32) : Met l yX4_in wsX4_in ({ frames := 0, cells := 0, slots := 0, locals := 0 }) (va_Pc [.int p0, .int p1, .int p2] (PW SS g base n L (w0))) (va_Qi (fun (r : Int32) (_ : Unit) => (r = 1 ∧ p1.toInt ≤ p0.toInt ∧ p0.toInt ≤ p2.toInt) ∨ (r = 0 ∧ ¬ (p1.toInt ≤ p0.toInt ∧ p0.toInt ≤ p2.toInt))) (fun (u : Unit) t => PB g n L (w0) t) (fun q => base ≤ q)) 0 0 (fun q => base ≤ q) := by
  refine Met.ofW (cc := cX4_in) (maxL := 3) (ret := (some .boolean)) (by decide) rfl ?_
  intro p e s m args below meth c s₁ B hml hv
  obtain ⟨rfl, hPW⟩ := hv
  obtain ⟨hbs, hJ, hP, hK, hE⟩ := id hPW
  have hx := B.exec
  have hb := B.bytes
  have hr := B.returns
  have hts := atoms_spec (ws := wsX4_in) B.pre
  have hown : s.vm.findClass RX4 = some m.cls := findClass_of_methodNamed B.named
  have hlocks := B.notSynchronized
  have hS : va_S (fun q : Nat => base ≤ q) s.heap s.heap [] := va_S.rf
  have hl := lv_entry ([.int p0, .int p1, .int p2]) (n := 3) (Nat.le_of_ble_eq_true rfl)
  rw [lg_entry_eq]
  generalize (lg_sl ([.int p0, .int p1, .int p2]) ++ List.replicate (3 - (lg_sl ([.int p0, .int p1, .int p2])).length) Slot.unset).toArray = ls at hl ⊢
  have hl : lv_has ls 3 [(0, .int p0), (1, .int p1), (2, .int p2)] := hl
  refine lv_iload_n hx hb dX4_in_0 rfl (lv_at hl 0 rfl) ?_
  refine lv_iload_n hx hb dX4_in_1 rfl (lv_at hl 1 rfl) ?_
  refine lv_icmp_lt (tgt := 14) hx hb dX4_in_2 (by decide) (fun c2 => ?_) (fun c2 => ?_)
  · refine lv_iconst (v := 0) hx hb dX4_in_14 (by decide) ?_
    refine W.widen (k := 0) (n := 0) (Nat.le_of_ble_eq_true rfl) (Nat.le_of_ble_eq_true rfl) ?_
    exact W.zret (v := 0) hx hb hr (by decide) (fun t ht hW => ⟨⟨0, (), rfl, Or.inr ⟨rfl, (by revert c2; (try simp only [Int32.lt_iff_toInt_lt, Int32.le_iff_toInt_le, ← Int32.toInt_inj, i_0, i_1, i_2, i_3, i_4, i_6, i_9, i_20, i_32, i_40, i_48, i_60, i_200, i_999, i_2000, i_m1, i_8]); omega)⟩, PB.mk9 hP ht⟩, hS.F ht⟩) hS.2.2 dX4_in_15
  · refine lv_iload_n hx hb dX4_in_5 rfl (lv_at hl 0 rfl) ?_
    refine lv_iload_n hx hb dX4_in_6 rfl (lv_at hl 2 rfl) ?_
    refine lv_icmp_gt (tgt := 14) hx hb dX4_in_7 (by decide) (fun c7 => ?_) (fun c7 => ?_)
    · refine lv_iconst (v := 0) hx hb dX4_in_14 (by decide) ?_
      refine W.widen (k := 0) (n := 0) (Nat.le_of_ble_eq_true rfl) (Nat.le_of_ble_eq_true rfl) ?_
      exact W.zret (v := 0) hx hb hr (by decide) (fun t ht hW => ⟨⟨0, (), rfl, Or.inr ⟨rfl, (by revert c2 c7; (try simp only [Int32.lt_iff_toInt_lt, Int32.le_iff_toInt_le, ← Int32.toInt_inj, i_0, i_1, i_2, i_3, i_4, i_6, i_9, i_20, i_32, i_40, i_48, i_60, i_200, i_999, i_2000, i_m1, i_8]); omega)⟩, PB.mk9 hP ht⟩, hS.F ht⟩) hS.2.2 dX4_in_15
    · refine lv_iconst (v := 1) hx hb dX4_in_10 (by decide) ?_
      refine lv_goto (tgt := 15) hx hb dX4_in_11 (by decide) ?_
      refine W.widen (k := 0) (n := 0) (Nat.le_of_ble_eq_true rfl) (Nat.le_of_ble_eq_true rfl) ?_
      exact W.zret (v := 1) hx hb hr (by decide) (fun t ht hW => ⟨⟨1, (), rfl, Or.inl ⟨rfl, (by revert c2 c7; (try simp only [Int32.lt_iff_toInt_lt, Int32.le_iff_toInt_le, ← Int32.toInt_inj, i_0, i_1, i_2, i_3, i_4, i_6, i_9, i_20, i_32, i_40, i_48, i_60, i_200, i_999, i_2000, i_m1, i_8]); omega)⟩, PB.mk9 hP ht⟩, hS.F ht⟩) hS.2.2 dX4_in_15

set_option maxHeartbeats 4000000 in
set_option maxRecDepth 100000 in
theorem m_fails (l : Launch) (hst : l.stackTraces = false) (g : gE) (base n : Nat) (L : Nat → Nat) (hn : 123 ≤ n) (y : St) (ch : Int64) (r0 : Nat → va_E) (hy : y 0 0 0 = 0) (p0 p1 : Int32) (hk : p1 ≠ 0) : Met l yX4_fails wsX4_fails ({ frames := 0, cells := 0, slots := 0, locals := 0 }) (va_Pc [.ref (L 106), .int p0, .int p1] (PW SS g base n L (mw g L y ch r0))) (va_Qi (fun (r : Int32) (u : St) => (r = 0 ∧ p0 = 0 ∧ u = y) ∨ (r = 1 ∧ p0 ≠ 0 ∧ u = st y 0 0 0 p1)) (fun (u : St) t => PB g n L (mw g L u ch r0) t) (fun q => base ≤ q)) 0 0 (fun q => base ≤ q) := by
  refine Met.ofW (cc := cX4_fails) (maxL := 3) (ret := (some .boolean)) (by decide) rfl ?_
  intro p e s m args below meth c s₁ B hml hv
  obtain ⟨rfl, hPW⟩ := hv
  obtain ⟨hbs, hJ, hP, hK, hE⟩ := id hPW
  have hx := B.exec
  have hb := B.bytes
  have hr := B.returns
  have hts := atoms_spec (ws := wsX4_fails) B.pre
  have hown : s.vm.findClass RX4 = some m.cls := findClass_of_methodNamed B.named
  have hlocks := B.notSynchronized
  have hS : va_S (fun q : Nat => base ≤ q) s.heap s.heap [] := va_S.rf
  have hl := lv_entry ([.ref (L 106), .int p0, .int p1]) (n := 3) (Nat.le_of_ble_eq_true rfl)
  rw [lg_entry_eq]
  generalize (lg_sl ([.ref (L 106), .int p0, .int p1]) ++ List.replicate (3 - (lg_sl ([.ref (L 106), .int p0, .int p1])).length) Slot.unset).toArray = ls at hl ⊢
  have hl : lv_has ls 3 [(0, .ref (L 106)), (1, .int p0), (2, .int p1)] := hl
  have iX4 : ∀ w ∈ wsX40, w ∈ wsX4_fails := by decide +kernel
  refine lv_iload_n hx hb dX4_fails_0 rfl (lv_at hl 1 rfl) ?_
  refine lv_if_eq (tgt := 16) hx hb dX4_fails_1 (by decide) (fun c1 => ?_) (fun c1 => ?_)
  · refine lv_aload_n hx hb dX4_fails_16 rfl (lv_at hl 0 rfl) ?_
    refine wx_get (D := g.1) (cl := vwCl) (ci := 6) (v := .int (y 0 0 0)) (C := RX4) (T := TX4) (N := 22) hx hb hts iX4 hown hK hP (106) (by omega) mw_o rfl 0 (by decide) (hts (.fieldLink RX4 64 "FerroDeskModel" "thrown" "I") (by decide +kernel)) (fun _ h9 => h9) rfl dX4_fails_17 ?_
    refine lv_if_eq (tgt := 27) hx hb dX4_fails_20 (by decide) (fun c20 => ?_) (fun c20 => absurd (hy) c20)
    refine lv_iconst (v := 0) hx hb dX4_fails_27 (by decide) ?_
    refine W.widen (k := 0) (n := 0) (Nat.le_of_ble_eq_true rfl) (Nat.le_of_ble_eq_true rfl) ?_
    exact W.zret (v := 0) hx hb hr (by decide) (fun t ht hW => ⟨⟨0, y, rfl, Or.inl ⟨rfl, c1, rfl⟩, PB.mk9 hP ht⟩, hS.F ht⟩) hS.2.2 dX4_fails_28
  · refine lv_aload_n hx hb dX4_fails_4 rfl (lv_at hl 0 rfl) ?_
    refine wx_get (D := g.1) (cl := vwCl) (ci := 6) (v := .int (y 0 0 0)) (C := RX4) (T := TX4) (N := 22) hx hb hts iX4 hown hK hP (106) (by omega) mw_o rfl 0 (by decide) (hts (.fieldLink RX4 64 "FerroDeskModel" "thrown" "I") (by decide +kernel)) (fun _ h9 => h9) rfl dX4_fails_5 ?_
    refine lv_if_ne (tgt := 16) hx hb dX4_fails_8 (by decide) (fun c8 => absurd c8 (fun h => h hy)) (fun c8 => ?_)
    refine lv_aload_n hx hb dX4_fails_11 rfl (lv_at hl 0 rfl) ?_
    refine lv_iload_n hx hb dX4_fails_12 rfl (lv_at hl 2 rfl) ?_
    refine wx_put (D := g.1) (cl := vwCl) (ci := 6) (v := .int p1) (ty := .int) (w' := mw g L (st y 0 0 0 p1) ch r0) (C := RX4) (T := TX4) (N := 22) hx hb hts iX4 tyX4 tyX4_ok nmX4 hown hK hP hJ hS (106) (by omega) mw_o rfl 0 (by decide) (hts (.fieldLink RX4 64 "FerroDeskModel" "thrown" "I") (by decide +kernel)) (fun _ h9 => h9) rfl (by decide +kernel) rfl rfl (Nat.le_of_ble_eq_true rfl) dX4_fails_13 (mw_put (r := 0) (i := 0) (j := 0) rfl (by omega) (mk_o.trans (by simp [mF, st]))) (fun H locs hP hS => ?_)
    refine lv_aload_n hx hb dX4_fails_16 rfl (lv_at hl 0 rfl) ?_
    refine wx_get (D := g.1) (cl := vwCl) (ci := 6) (v := .int ((st y 0 0 0 p1) 0 0 0)) (C := RX4) (T := TX4) (N := 22) hx hb hts iX4 hown hK hP (106) (by omega) mw_o rfl 0 (by decide) (hts (.fieldLink RX4 64 "FerroDeskModel" "thrown" "I") (by decide +kernel)) (fun _ h9 => h9) rfl dX4_fails_17 ?_
    refine lv_if_eq (tgt := 27) hx hb dX4_fails_20 (by decide) (fun c20 => absurd c20 (by rw [st_eq]; exact hk)) (fun c20 => ?_)
    refine lv_iconst (v := 1) hx hb dX4_fails_23 (by decide) ?_
    refine lv_goto (tgt := 28) hx hb dX4_fails_24 (by decide) ?_
    refine W.widen (k := 0) (n := 0) (Nat.le_of_ble_eq_true rfl) (Nat.le_of_ble_eq_true rfl) ?_
    exact W.zret (v := 1) hx hb hr (by decide) (fun t ht hW => ⟨⟨1, (st y 0 0 0 p1), rfl, Or.inr ⟨rfl, c1, rfl⟩, PB.mk9 hP ht⟩, hS.F ht⟩) hS.2.2 dX4_fails_28

set_option maxHeartbeats 4000000 in
set_option maxRecDepth 100000 in
theorem m_least (l : Launch) (hst : l.stackTraces = false) (g : gE) (base n : Nat) (L : Nat → Nat) (w0 : Nat → va_E) (p0 p1 : Int32) : Met l yX4_least wsX4_least ({ frames := 0, cells := 0, slots := 0, locals := 0 }) (va_Pc [.int p0, .int p1] (PW SS g base n L (w0))) (va_Qi (fun (r : Int32) (_ : Unit) => r = leI p0 p1) (fun (u : Unit) t => PB g n L (w0) t) (fun q => base ≤ q)) 0 0 (fun q => base ≤ q) := by
  refine Met.ofW (cc := cX4_least) (maxL := 2) (ret := (some .int)) (by decide) rfl ?_
  intro p e s m args below meth c s₁ B hml hv
  obtain ⟨rfl, hPW⟩ := hv
  obtain ⟨hbs, hJ, hP, hK, hE⟩ := id hPW
  have hx := B.exec
  have hb := B.bytes
  have hr := B.returns
  have hts := atoms_spec (ws := wsX4_least) B.pre
  have hown : s.vm.findClass RX4 = some m.cls := findClass_of_methodNamed B.named
  have hlocks := B.notSynchronized
  have hS : va_S (fun q : Nat => base ≤ q) s.heap s.heap [] := va_S.rf
  have hl := lv_entry ([.int p0, .int p1]) (n := 2) (Nat.le_of_ble_eq_true rfl)
  rw [lg_entry_eq]
  generalize (lg_sl ([.int p0, .int p1]) ++ List.replicate (2 - (lg_sl ([.int p0, .int p1])).length) Slot.unset).toArray = ls at hl ⊢
  have hl : lv_has ls 2 [(0, .int p0), (1, .int p1)] := hl
  refine lv_iload_n hx hb dX4_least_0 rfl (lv_at hl 0 rfl) ?_
  refine lv_iload_n hx hb dX4_least_1 rfl (lv_at hl 1 rfl) ?_
  refine lv_icmp_ge (tgt := 9) hx hb dX4_least_2 (by decide) (fun c2 => ?_) (fun c2 => ?_)
  · refine lv_iload_n hx hb dX4_least_9 rfl (lv_at hl 1 rfl) ?_
    refine W.widen (k := 0) (n := 0) (Nat.le_of_ble_eq_true rfl) (Nat.le_of_ble_eq_true rfl) ?_
    exact W.iret (v := p1) hx hb hr (fun t ht hW => ⟨⟨p1, (), rfl, (if_pos c2).symm, PB.mk9 hP ht⟩, hS.F ht⟩) hS.2.2 dX4_least_10
  · refine lv_iload_n hx hb dX4_least_5 rfl (lv_at hl 0 rfl) ?_
    refine lv_goto (tgt := 10) hx hb dX4_least_6 (by decide) ?_
    refine W.widen (k := 0) (n := 0) (Nat.le_of_ble_eq_true rfl) (Nat.le_of_ble_eq_true rfl) ?_
    exact W.iret (v := p0) hx hb hr (fun t ht hW => ⟨⟨p0, (), rfl, (if_neg c2).symm, PB.mk9 hP ht⟩, hS.F ht⟩) hS.2.2 dX4_least_10

set_option maxHeartbeats 4000000 in
set_option maxRecDepth 100000 in
theorem m_most (l : Launch) (hst : l.stackTraces = false) (g : gE) (base n : Nat) (L : Nat → Nat) (w0 : Nat → va_E) (p0 p1 : Int32) : Met l yX4_most wsX4_most ({ frames := 0, cells := 0, slots := 0, locals := 0 }) (va_Pc [.int p0, .int p1] (PW SS g base n L (w0))) (va_Qi (fun (r : Int32) (_ : Unit) => r = moI p0 p1) (fun (u : Unit) t => PB g n L (w0) t) (fun q => base ≤ q)) 0 0 (fun q => base ≤ q) := by
  refine Met.ofW (cc := cX4_most) (maxL := 2) (ret := (some .int)) (by decide) rfl ?_
  intro p e s m args below meth c s₁ B hml hv
  obtain ⟨rfl, hPW⟩ := hv
  obtain ⟨hbs, hJ, hP, hK, hE⟩ := id hPW
  have hx := B.exec
  have hb := B.bytes
  have hr := B.returns
  have hts := atoms_spec (ws := wsX4_most) B.pre
  have hown : s.vm.findClass RX4 = some m.cls := findClass_of_methodNamed B.named
  have hlocks := B.notSynchronized
  have hS : va_S (fun q : Nat => base ≤ q) s.heap s.heap [] := va_S.rf
  have hl := lv_entry ([.int p0, .int p1]) (n := 2) (Nat.le_of_ble_eq_true rfl)
  rw [lg_entry_eq]
  generalize (lg_sl ([.int p0, .int p1]) ++ List.replicate (2 - (lg_sl ([.int p0, .int p1])).length) Slot.unset).toArray = ls at hl ⊢
  have hl : lv_has ls 2 [(0, .int p0), (1, .int p1)] := hl
  refine lv_iload_n hx hb dX4_most_0 rfl (lv_at hl 0 rfl) ?_
  refine lv_iload_n hx hb dX4_most_1 rfl (lv_at hl 1 rfl) ?_
  refine lv_icmp_le (tgt := 9) hx hb dX4_most_2 (by decide) (fun c2 => ?_) (fun c2 => ?_)
  · refine lv_iload_n hx hb dX4_most_9 rfl (lv_at hl 1 rfl) ?_
    refine W.widen (k := 0) (n := 0) (Nat.le_of_ble_eq_true rfl) (Nat.le_of_ble_eq_true rfl) ?_
    exact W.iret (v := p1) hx hb hr (fun t ht hW => ⟨⟨p1, (), rfl, (if_pos c2).symm, PB.mk9 hP ht⟩, hS.F ht⟩) hS.2.2 dX4_most_10
  · refine lv_iload_n hx hb dX4_most_5 rfl (lv_at hl 0 rfl) ?_
    refine lv_goto (tgt := 10) hx hb dX4_most_6 (by decide) ?_
    refine W.widen (k := 0) (n := 0) (Nat.le_of_ble_eq_true rfl) (Nat.le_of_ble_eq_true rfl) ?_
    exact W.iret (v := p0) hx hb hr (fun t ht hW => ⟨⟨p0, (), rfl, (if_neg c2).symm, PB.mk9 hP ht⟩, hS.F ht⟩) hS.2.2 dX4_most_10

set_option maxHeartbeats 4000000 in
set_option maxRecDepth 100000 in
theorem m_noBoard (l : Launch) (hst : l.stackTraces = false) (g : gE) (base n : Nat) (L : Nat → Nat) (hn : 123 ≤ n) (y : St) (ch : Int64) (r0 : Nat → va_E) (nb : Nat) (hnb : nb ≤ 6) (hy3 : y 3 0 0 = nI nb) (p0 : Int32) : Met l yX4_noBoard wsX4_noBoard ({ frames := 1, cells := 0, slots := 0, locals := 60 }) (va_Pc [.ref (L 106), .int p0] (PW SS g base n L (mw g L y ch r0))) (va_Qi (fun (r : Int32) (_ : Unit) => (r = 1 ∧ (p0.toInt < 0 ∨ nb ≤ p0.toInt)) ∨ (r = 0 ∧ ∃ j, j < nb ∧ p0 = nI j)) (fun (u : Unit) t => PB g n L (mw g L y ch r0) t) (fun q => base ≤ q)) 0 0 (fun q => base ≤ q) := by
  refine Met.ofW (cc := cX4_noBoard) (maxL := 2) (ret := (some .boolean)) (by decide) rfl ?_
  intro p e s m args below meth c s₁ B hml hv
  obtain ⟨rfl, hPW⟩ := hv
  obtain ⟨hbs, hJ, hP, hK, hE⟩ := id hPW
  have hx := B.exec
  have hb := B.bytes
  have hr := B.returns
  have hts := atoms_spec (ws := wsX4_noBoard) B.pre
  have hown : s.vm.findClass RX4 = some m.cls := findClass_of_methodNamed B.named
  have hlocks := B.notSynchronized
  have hS : va_S (fun q : Nat => base ≤ q) s.heap s.heap [] := va_S.rf
  have hl := lv_entry ([.ref (L 106), .int p0]) (n := 2) (Nat.le_of_ble_eq_true rfl)
  rw [lg_entry_eq]
  generalize (lg_sl ([.ref (L 106), .int p0]) ++ List.replicate (2 - (lg_sl ([.ref (L 106), .int p0])).length) Slot.unset).toArray = ls at hl ⊢
  have hl : lv_has ls 2 [(0, .ref (L 106)), (1, .int p0)] := hl
  have iX4 : ∀ w ∈ wsX40, w ∈ wsX4_noBoard := by decide +kernel
  have hn1 := nB_e (by omega) hy3
  refine lv_iload_n hx hb dX4_noBoard_0 rfl (lv_at hl 1 rfl) ?_
  refine lv_iconst (v := 0) hx hb dX4_noBoard_1 (by decide) ?_
  refine lv_aload_n hx hb dX4_noBoard_2 rfl (lv_at hl 0 rfl) ?_
  refine wx_get (D := g.1) (cl := vwCl) (ci := 6) (v := .int (y 3 0 0)) (C := RX4) (T := TX4) (N := 22) hx hb hts iX4 hown hK hP (106) (by omega) mw_o rfl 3 (by decide) (hts (.fieldLink RX4 67 "FerroDeskModel" "boards" "I") (by decide +kernel)) (fun _ h9 => h9) rfl dX4_noBoard_3 ?_
  refine lv_iconst (v := 1) hx hb dX4_noBoard_6 (by decide) ?_
  refine lv_isub hx hb dX4_noBoard_7 ?_
  refine wx_calli (va_runS (As := [.int p0, .int 0, .int ((y 3 0 0) - 1)]) (rest := []) ⟨hx, hb, hml, hown, hts⟩ (m_in l hst g base n L (mw g L y ch r0) p0 0 ((y 3 0 0) - 1)) (va_cwS 3 hts gX4_noBoard_X4_in rfl rfl rfl (by decide +kernel) ⟨Nat.le_of_ble_eq_true rfl, Nat.le_of_ble_eq_true rfl⟩) (hPW.preS hP hS) rfl rfl hl.1 rfl (lv_room (Nat.le_of_ble_eq_true rfl)) dX4_noBoard_8 ⟨Nat.le_of_ble_eq_true rfl, Nat.le_of_ble_eq_true rfl⟩) hS (fun r8 u8 H locs h8 hP hS => ?_)
  rcases h8 with ⟨rfl, h8⟩ | ⟨rfl, h8⟩
  · refine lv_if_ne (tgt := 18) hx hb dX4_noBoard_11 (by decide) (fun c11 => ?_) (fun c11 => absurd c11 (by decide))
    refine lv_iconst (v := 0) hx hb dX4_noBoard_18 (by decide) ?_
    refine W.widen (k := 0) (n := 0) (Nat.le_of_ble_eq_true rfl) (Nat.le_of_ble_eq_true rfl) ?_
    exact W.zret (v := 0) hx hb hr (by decide) (fun t ht hW => ⟨⟨0, (), rfl, Or.inr ⟨rfl, nB_ok hn1 h8⟩, PB.mk9 hP ht⟩, hS.F ht⟩) hS.2.2 dX4_noBoard_19
  · refine lv_if_ne (tgt := 18) hx hb dX4_noBoard_11 (by decide) (fun c11 => absurd c11 (by decide)) (fun c11 => ?_)
    refine lv_iconst (v := 1) hx hb dX4_noBoard_14 (by decide) ?_
    refine lv_goto (tgt := 19) hx hb dX4_noBoard_15 (by decide) ?_
    refine W.widen (k := 0) (n := 0) (Nat.le_of_ble_eq_true rfl) (Nat.le_of_ble_eq_true rfl) ?_
    exact W.zret (v := 1) hx hb hr (by decide) (fun t ht hW => ⟨⟨1, (), rfl, Or.inl ⟨rfl, nB_no hn1 h8⟩, PB.mk9 hP ht⟩, hS.F ht⟩) hS.2.2 dX4_noBoard_19

set_option maxHeartbeats 4000000 in
set_option maxRecDepth 100000 in
theorem m_noNotice (l : Launch) (hst : l.stackTraces = false) (g : gE) (base n : Nat) (L : Nat → Nat) (hn : 123 ≤ n) (y : St) (ch : Int64) (r0 : Nat → va_E) (nn : Nat) (hnn : nn ≤ 40) (hy4 : y 4 0 0 = nI nn) (p0 : Int32) : Met l yX4_noNotice wsX4_noNotice ({ frames := 1, cells := 0, slots := 0, locals := 60 }) (va_Pc [.ref (L 106), .int p0] (PW SS g base n L (mw g L y ch r0))) (va_Qi (fun (r : Int32) (_ : Unit) => (r = 1 ∧ (p0.toInt < 0 ∨ nn ≤ p0.toInt)) ∨ (r = 0 ∧ ∃ j, j < nn ∧ p0 = nI j)) (fun (u : Unit) t => PB g n L (mw g L y ch r0) t) (fun q => base ≤ q)) 0 0 (fun q => base ≤ q) := by
  refine Met.ofW (cc := cX4_noNotice) (maxL := 2) (ret := (some .boolean)) (by decide) rfl ?_
  intro p e s m args below meth c s₁ B hml hv
  obtain ⟨rfl, hPW⟩ := hv
  obtain ⟨hbs, hJ, hP, hK, hE⟩ := id hPW
  have hx := B.exec
  have hb := B.bytes
  have hr := B.returns
  have hts := atoms_spec (ws := wsX4_noNotice) B.pre
  have hown : s.vm.findClass RX4 = some m.cls := findClass_of_methodNamed B.named
  have hlocks := B.notSynchronized
  have hS : va_S (fun q : Nat => base ≤ q) s.heap s.heap [] := va_S.rf
  have hl := lv_entry ([.ref (L 106), .int p0]) (n := 2) (Nat.le_of_ble_eq_true rfl)
  rw [lg_entry_eq]
  generalize (lg_sl ([.ref (L 106), .int p0]) ++ List.replicate (2 - (lg_sl ([.ref (L 106), .int p0])).length) Slot.unset).toArray = ls at hl ⊢
  have hl : lv_has ls 2 [(0, .ref (L 106)), (1, .int p0)] := hl
  have iX4 : ∀ w ∈ wsX40, w ∈ wsX4_noNotice := by decide +kernel
  have hn1 := nB_e (by omega) hy4
  refine lv_iload_n hx hb dX4_noNotice_0 rfl (lv_at hl 1 rfl) ?_
  refine lv_iconst (v := 0) hx hb dX4_noNotice_1 (by decide) ?_
  refine lv_aload_n hx hb dX4_noNotice_2 rfl (lv_at hl 0 rfl) ?_
  refine wx_get (D := g.1) (cl := vwCl) (ci := 6) (v := .int (y 4 0 0)) (C := RX4) (T := TX4) (N := 22) hx hb hts iX4 hown hK hP (106) (by omega) mw_o rfl 4 (by decide) (hts (.fieldLink RX4 74 "FerroDeskModel" "notices" "I") (by decide +kernel)) (fun _ h9 => h9) rfl dX4_noNotice_3 ?_
  refine lv_iconst (v := 1) hx hb dX4_noNotice_6 (by decide) ?_
  refine lv_isub hx hb dX4_noNotice_7 ?_
  refine wx_calli (va_runS (As := [.int p0, .int 0, .int ((y 4 0 0) - 1)]) (rest := []) ⟨hx, hb, hml, hown, hts⟩ (m_in l hst g base n L (mw g L y ch r0) p0 0 ((y 4 0 0) - 1)) (va_cwS 3 hts gX4_noNotice_X4_in rfl rfl rfl (by decide +kernel) ⟨Nat.le_of_ble_eq_true rfl, Nat.le_of_ble_eq_true rfl⟩) (hPW.preS hP hS) rfl rfl hl.1 rfl (lv_room (Nat.le_of_ble_eq_true rfl)) dX4_noNotice_8 ⟨Nat.le_of_ble_eq_true rfl, Nat.le_of_ble_eq_true rfl⟩) hS (fun r8 u8 H locs h8 hP hS => ?_)
  rcases h8 with ⟨rfl, h8⟩ | ⟨rfl, h8⟩
  · refine lv_if_ne (tgt := 18) hx hb dX4_noNotice_11 (by decide) (fun c11 => ?_) (fun c11 => absurd c11 (by decide))
    refine lv_iconst (v := 0) hx hb dX4_noNotice_18 (by decide) ?_
    refine W.widen (k := 0) (n := 0) (Nat.le_of_ble_eq_true rfl) (Nat.le_of_ble_eq_true rfl) ?_
    exact W.zret (v := 0) hx hb hr (by decide) (fun t ht hW => ⟨⟨0, (), rfl, Or.inr ⟨rfl, nB_ok hn1 h8⟩, PB.mk9 hP ht⟩, hS.F ht⟩) hS.2.2 dX4_noNotice_19
  · refine lv_if_ne (tgt := 18) hx hb dX4_noNotice_11 (by decide) (fun c11 => absurd c11 (by decide)) (fun c11 => ?_)
    refine lv_iconst (v := 1) hx hb dX4_noNotice_14 (by decide) ?_
    refine lv_goto (tgt := 19) hx hb dX4_noNotice_15 (by decide) ?_
    refine W.widen (k := 0) (n := 0) (Nat.le_of_ble_eq_true rfl) (Nat.le_of_ble_eq_true rfl) ?_
    exact W.zret (v := 1) hx hb hr (by decide) (fun t ht hW => ⟨⟨1, (), rfl, Or.inl ⟨rfl, nB_no hn1 h8⟩, PB.mk9 hP ht⟩, hS.F ht⟩) hS.2.2 dX4_noNotice_19

set_option maxHeartbeats 4000000 in
set_option maxRecDepth 100000 in
theorem m_noDistrict (l : Launch) (hst : l.stackTraces = false) (g : gE) (base n : Nat) (L : Nat → Nat) (w0 : Nat → va_E) (p0 : Int32) : Met l yX4_noDistrict wsX4_noDistrict ({ frames := 1, cells := 0, slots := 0, locals := 60 }) (va_Pc [.int p0] (PW SS g base n L (w0))) (va_Qi (fun (r : Int32) (_ : Unit) => (r = 1 ∧ (p0.toInt < 0 ∨ 3 < p0.toInt)) ∨ (r = 0 ∧ ∃ d, d < 4 ∧ p0 = nI d)) (fun (u : Unit) t => PB g n L (w0) t) (fun q => base ≤ q)) 0 0 (fun q => base ≤ q) := by
  refine Met.ofW (cc := cX4_noDistrict) (maxL := 1) (ret := (some .boolean)) (by decide) rfl ?_
  intro p e s m args below meth c s₁ B hml hv
  obtain ⟨rfl, hPW⟩ := hv
  obtain ⟨hbs, hJ, hP, hK, hE⟩ := id hPW
  have hx := B.exec
  have hb := B.bytes
  have hr := B.returns
  have hts := atoms_spec (ws := wsX4_noDistrict) B.pre
  have hown : s.vm.findClass RX4 = some m.cls := findClass_of_methodNamed B.named
  have hlocks := B.notSynchronized
  have hS : va_S (fun q : Nat => base ≤ q) s.heap s.heap [] := va_S.rf
  have hl := lv_entry ([.int p0]) (n := 1) (Nat.le_of_ble_eq_true rfl)
  rw [lg_entry_eq]
  generalize (lg_sl ([.int p0]) ++ List.replicate (1 - (lg_sl ([.int p0])).length) Slot.unset).toArray = ls at hl ⊢
  have hl : lv_has ls 1 [(0, .int p0)] := hl
  refine lv_iload_n hx hb dX4_noDistrict_0 rfl (lv_at hl 0 rfl) ?_
  refine lv_iconst (v := 0) hx hb dX4_noDistrict_1 (by decide) ?_
  refine lv_iconst (v := 3) hx hb dX4_noDistrict_2 (by decide) ?_
  refine wx_calli (va_runS (As := [.int p0, .int 0, .int 3]) (rest := []) ⟨hx, hb, hml, hown, hts⟩ (m_in l hst g base n L (w0) p0 0 3) (va_cwS 3 hts gX4_noDistrict_X4_in rfl rfl rfl (by decide +kernel) ⟨Nat.le_of_ble_eq_true rfl, Nat.le_of_ble_eq_true rfl⟩) (hPW.preS hP hS) rfl rfl hl.1 rfl (lv_room (Nat.le_of_ble_eq_true rfl)) dX4_noDistrict_3 ⟨Nat.le_of_ble_eq_true rfl, Nat.le_of_ble_eq_true rfl⟩) hS (fun r3 u3 H locs h3 hP hS => ?_)
  rcases h3 with ⟨rfl, h3⟩ | ⟨rfl, h3⟩
  · refine lv_if_ne (tgt := 13) hx hb dX4_noDistrict_6 (by decide) (fun c6 => ?_) (fun c6 => absurd c6 (by decide))
    refine lv_iconst (v := 0) hx hb dX4_noDistrict_13 (by decide) ?_
    refine W.widen (k := 0) (n := 0) (Nat.le_of_ble_eq_true rfl) (Nat.le_of_ble_eq_true rfl) ?_
    exact W.zret (v := 0) hx hb hr (by decide) (fun t ht hW => ⟨⟨0, (), rfl, Or.inr ⟨rfl, by obtain ⟨d, hd, e⟩ := nI_rng (n := 3) (by have h9 := h3.1; rw [i_0] at h9; exact h9) (by have h9 := h3.2; rw [i_3] at h9; exact h9); exact ⟨d, by omega, e⟩⟩, PB.mk9 hP ht⟩, hS.F ht⟩) hS.2.2 dX4_noDistrict_14
  · refine lv_if_ne (tgt := 13) hx hb dX4_noDistrict_6 (by decide) (fun c6 => absurd c6 (by decide)) (fun c6 => ?_)
    refine lv_iconst (v := 1) hx hb dX4_noDistrict_9 (by decide) ?_
    refine lv_goto (tgt := 14) hx hb dX4_noDistrict_10 (by decide) ?_
    refine W.widen (k := 0) (n := 0) (Nat.le_of_ble_eq_true rfl) (Nat.le_of_ble_eq_true rfl) ?_
    exact W.zret (v := 1) hx hb hr (by decide) (fun t ht hW => ⟨⟨1, (), rfl, Or.inl ⟨rfl, by have h9 := h3; rw [i_0, i_3] at h9; omega⟩, PB.mk9 hP ht⟩, hS.F ht⟩) hS.2.2 dX4_noDistrict_14

set_option maxHeartbeats 4000000 in
set_option maxRecDepth 100000 in
theorem m_has (l : Launch) (hst : l.stackTraces = false) (g : gE) (base n : Nat) (L : Nat → Nat) (w0 : Nat → va_E) (p0 : Int32) (b c0 : Nat) (hb8 : b < 8) (hc32 : c0 < 32) : Met l yX4_has wsX4_has ({ frames := 0, cells := 0, slots := 0, locals := 0 }) (va_Pc [.int p0, .int (nI b), .int (nI c0)] (PW SS g base n L (w0))) (va_Qi (fun (r : Int32) (_ : Unit) => (r = 1 ∧ hasN p0 b c0) ∨ (r = 0 ∧ ¬ hasN p0 b c0)) (fun (u : Unit) t => PB g n L (w0) t) (fun q => base ≤ q)) 0 0 (fun q => base ≤ q) := by
  refine Met.ofW (cc := cX4_has) (maxL := 4) (ret := (some .boolean)) (by decide) rfl ?_
  intro p e s m args below meth c s₁ B hml hv
  obtain ⟨rfl, hPW⟩ := hv
  obtain ⟨hbs, hJ, hP, hK, hE⟩ := id hPW
  have hx := B.exec
  have hb := B.bytes
  have hr := B.returns
  have hts := atoms_spec (ws := wsX4_has) B.pre
  have hown : s.vm.findClass RX4 = some m.cls := findClass_of_methodNamed B.named
  have hlocks := B.notSynchronized
  have hS : va_S (fun q : Nat => base ≤ q) s.heap s.heap [] := va_S.rf
  have hl := lv_entry ([.int p0, .int (nI b), .int (nI c0)]) (n := 4) (Nat.le_of_ble_eq_true rfl)
  rw [lg_entry_eq]
  generalize (lg_sl ([.int p0, .int (nI b), .int (nI c0)]) ++ List.replicate (4 - (lg_sl ([.int p0, .int (nI b), .int (nI c0)])).length) Slot.unset).toArray = ls at hl ⊢
  have hl : lv_has ls 4 [(0, .int p0), (1, .int (nI b)), (2, .int (nI c0))] := hl
  refine lv_iload_n hx hb dX4_has_0 rfl (lv_at hl 2 rfl) ?_
  refine lv_bipush (v := 8) hx hb dX4_has_1 (by decide) ?_
  refine lv_irem hx hb dX4_has_3 (by decide) ?_
  refine lv_iload_n hx hb dX4_has_4 rfl (lv_at hl 1 rfl) ?_
  refine lv_isub hx hb dX4_has_5 ?_
  refine lv_bipush (v := 8) hx hb dX4_has_6 (by decide) ?_
  refine lv_iadd hx hb dX4_has_8 ?_
  refine lv_bipush (v := 8) hx hb dX4_has_9 (by decide) ?_
  refine lv_irem hx hb dX4_has_11 (by decide) ?_
  refine lv_istore_n (lv' := [(3, .int (((((nI c0) - (nI c0) / 8 * 8) - (nI b)) + 8) - ((((nI c0) - (nI c0) / 8 * 8) - (nI b)) + 8) / 8 * 8)), (0, .int p0), (1, .int (nI b)), (2, .int (nI c0))]) hx hb dX4_has_12 rfl hl (by decide) rfl (fun ls hl => ?_)
  refine lv_iload_n hx hb dX4_has_13 rfl (lv_at hl 1 rfl) ?_
  refine lv_iload_n hx hb dX4_has_14 rfl (lv_at hl 3 rfl) ?_
  refine lv_bipush (v := 8) hx hb dX4_has_15 (by decide) ?_
  refine lv_idiv hx hb dX4_has_17 (by decide) ?_
  refine lv_bipush (v := 8) hx hb dX4_has_18 (by decide) ?_
  refine lv_imul hx hb dX4_has_20 ?_
  refine lv_iload_n hx hb dX4_has_21 rfl (lv_at hl 0 rfl) ?_
  refine lv_iadd hx hb dX4_has_22 ?_
  rw [has_ix b hb8 c0 hc32]
  refine lv_iushr hx hb dX4_has_23 rfl ?_
  refine lv_iconst (v := 1) hx hb dX4_has_24 (by decide) ?_
  refine lv_iand hx hb dX4_has_25 ?_
  refine lv_iconst (v := 1) hx hb dX4_has_26 (by decide) ?_
  refine lv_icmp_ne (tgt := 34) hx hb dX4_has_27 (by decide) (fun c27 => ?_) (fun c27 => ?_)
  · refine lv_iconst (v := 0) hx hb dX4_has_34 (by decide) ?_
    refine W.widen (k := 0) (n := 0) (Nat.le_of_ble_eq_true rfl) (Nat.le_of_ble_eq_true rfl) ?_
    exact W.zret (v := 0) hx hb hr (by decide) (fun t ht hW => ⟨⟨0, (), rfl, Or.inr ⟨rfl, c27⟩, PB.mk9 hP ht⟩, hS.F ht⟩) hS.2.2 dX4_has_35
  · refine lv_iconst (v := 1) hx hb dX4_has_30 (by decide) ?_
    refine lv_goto (tgt := 35) hx hb dX4_has_31 (by decide) ?_
    refine W.widen (k := 0) (n := 0) (Nat.le_of_ble_eq_true rfl) (Nat.le_of_ble_eq_true rfl) ?_
    exact W.zret (v := 1) hx hb hr (by decide) (fun t ht hW => ⟨⟨1, (), rfl, Or.inl ⟨rfl, c27⟩, PB.mk9 hP ht⟩, hS.F ht⟩) hS.2.2 dX4_has_35

set_option maxHeartbeats 4000000 in
set_option maxRecDepth 100000 in
theorem m_blacks (l : Launch) (hst : l.stackTraces = false) (g : gE) (base n : Nat) (L : Nat → Nat) (w0 : Nat → va_E) (p0 : Int32) : Met l yX4_blacks wsX4_blacks ({ frames := 1, cells := 0, slots := 0, locals := 60 }) (va_Pc [.int p0] (PW SS g base n L (w0))) (va_Qi (fun (r : Int32) (_ : Unit) => r = bkF p0 32) (fun (u : Unit) t => PB g n L (w0) t) (fun q => base ≤ q)) 0 0 (fun q => base ≤ q) := by
  refine Met.ofW (cc := cX4_blacks) (maxL := 3) (ret := (some .int)) (by decide) rfl ?_
  intro p e s m args below meth c s₁ B hml hv
  obtain ⟨rfl, hPW⟩ := hv
  obtain ⟨hbs, hJ, hP, hK, hE⟩ := id hPW
  have hx := B.exec
  have hb := B.bytes
  have hr := B.returns
  have hts := atoms_spec (ws := wsX4_blacks) B.pre
  have hown : s.vm.findClass RX4 = some m.cls := findClass_of_methodNamed B.named
  have hlocks := B.notSynchronized
  have hS : va_S (fun q : Nat => base ≤ q) s.heap s.heap [] := va_S.rf
  have hl := lv_entry ([.int p0]) (n := 3) (Nat.le_of_ble_eq_true rfl)
  rw [lg_entry_eq]
  generalize (lg_sl ([.int p0]) ++ List.replicate (3 - (lg_sl ([.int p0])).length) Slot.unset).toArray = ls at hl ⊢
  have hl : lv_has ls 3 [(0, .int p0)] := hl
  refine lv_iconst (v := 0) hx hb dX4_blacks_0 (by decide) ?_
  refine lv_istore_n (lv' := [(1, .int 0), (0, .int p0)]) hx hb dX4_blacks_1 rfl hl (by decide) rfl (fun ls hl => ?_)
  refine lv_iconst (v := 0) hx hb dX4_blacks_2 (by decide) ?_
  refine lv_istore_n (lv' := [(2, .int 0), (1, .int 0), (0, .int p0)]) hx hb dX4_blacks_3 rfl hl (by decide) rfl (fun ls hl => ?_)
  have key4 : ∀ (d k : Nat) (z2 : Int32) (z1 : Int32) (H : Heap) (locs : List Loc) (ls : Array Slot), k + d = 32 → (z2 = nI k) → (z1 = bkF p0 k) → va_P g.1 vwCl (wl n L (w0)) H → va_S (fun q : Nat => base ≤ q) s.heap H locs → lv_has ls 3 [(2, .int z2), (1, .int z1), (0, .int p0)] → W p l e (headSpec wsX4_blacks ({ frames := 1, cells := 0, slots := 0, locals := 60 })).room s m ([.int p0] : List Value).toArray below meth c H locs 0 0 (MQ below (va_Qi (fun (r : Int32) (_ : Unit) => r = bkF p0 32) (fun (u : Unit) t => PB g n L (w0) t) (fun q => base ≤ q)) ([.int p0] : List Value).toArray s 0 0 (fun q => base ≤ q)) (F0 m 4 ls []) := by
    intro d
    induction d with
    | zero =>
      intro k z2 z1 H locs ls hkd ek2 ek1 hP hS hl
      obtain rfl : k = 32 := by omega
      subst ek2 ek1
      refine lv_iload_n hx hb dX4_blacks_4 rfl (lv_at hl 0 rfl) ?_
      refine lv_bipush (v := 32) hx hb dX4_blacks_5 (by decide) ?_
      refine lv_icmp_ge (tgt := 33) hx hb dX4_blacks_7 (by decide) (fun c7 => ?_) (fun c7 => absurd (by decide) c7)
      refine lv_iload_n hx hb dX4_blacks_33 rfl (lv_at hl 1 rfl) ?_
      refine W.widen (k := 0) (n := 0) (Nat.le_of_ble_eq_true rfl) (Nat.le_of_ble_eq_true rfl) ?_
      exact W.iret (v := bkF p0 32) hx hb hr (fun t ht hW => ⟨⟨bkF p0 32, (), rfl, rfl, PB.mk9 hP ht⟩, hS.F ht⟩) hS.2.2 dX4_blacks_34
    | succ d ih =>
      intro k z2 z1 H locs ls hkd ek2 ek1 hP hS hl
      have hkN : k < 32 := by omega
      subst ek2 ek1
      refine lv_iload_n hx hb dX4_blacks_4 rfl (lv_at hl 0 rfl) ?_
      refine lv_bipush (v := 32) hx hb dX4_blacks_5 (by decide) ?_
      refine lv_icmp_ge (tgt := 33) hx hb dX4_blacks_7 (by decide) (fun c7 => absurd c7 (nI_ge (b := 32) hkN (by decide))) (fun c7 => ?_)
      refine lv_iload_n hx hb dX4_blacks_10 rfl (lv_at hl 1 rfl) ?_
      refine lv_iload_n hx hb dX4_blacks_11 rfl (lv_at hl 2 rfl) ?_
      refine lv_iconst (v := 0) hx hb dX4_blacks_12 (by decide) ?_
      refine lv_iload_n hx hb dX4_blacks_13 rfl (lv_at hl 0 rfl) ?_
      refine wx_calli (va_runS (As := [.int p0, .int 0, .int (nI k)]) (rest := [.int (bkF p0 k)]) ⟨hx, hb, hml, hown, hts⟩ (m_has l hst g base n L (w0) p0 0 k (by omega) (by omega)) (va_cwS 3 hts gX4_blacks_X4_has rfl rfl rfl (by decide +kernel) ⟨Nat.le_of_ble_eq_true rfl, Nat.le_of_ble_eq_true rfl⟩) (hPW.preS hP hS) rfl rfl hl.1 rfl (lv_room (Nat.le_of_ble_eq_true rfl)) dX4_blacks_14 ⟨Nat.le_of_ble_eq_true rfl, Nat.le_of_ble_eq_true rfl⟩) hS (fun r14 u14 H locs h14 hP hS => ?_)
      rcases h14 with ⟨rfl, h14⟩ | ⟨rfl, h14⟩
      · refine lv_if_eq (tgt := 24) hx hb dX4_blacks_17 (by decide) (fun c17 => absurd c17 (by decide)) (fun c17 => ?_)
        refine lv_iconst (v := 1) hx hb dX4_blacks_20 (by decide) ?_
        refine lv_goto (tgt := 25) hx hb dX4_blacks_21 (by decide) ?_
        refine lv_iadd hx hb dX4_blacks_25 ?_
        refine lv_istore_n (lv' := [(1, .int ((bkF p0 k) + 1)), (2, .int (nI k)), (0, .int p0)]) hx hb dX4_blacks_26 rfl hl (by decide) rfl (fun ls hl => ?_)
        obtain ⟨z27, ez27⟩ : ∃ y : Int32, y = nI k + 1 := ⟨_, rfl⟩
        refine lv_iinc (v := z27) (lv' := [(2, .int z27), (1, .int ((bkF p0 k) + 1)), (0, .int p0)]) hx hb dX4_blacks_27 hl (k := 1) rfl (by rw [ez27]; rfl) (by decide) rfl (fun ls hl => ?_)
        refine lv_goto (tgt := 4) hx hb dX4_blacks_30 (by decide) ?_
        exact ih (k + 1) _ _ _ _ _ (by omega) (by rw [ez27, nI_1]) (cnP_t h14) hP hS (lv_sub hl [0, 1, 2] rfl)
      · refine lv_if_eq (tgt := 24) hx hb dX4_blacks_17 (by decide) (fun c17 => ?_) (fun c17 => absurd (by decide) c17)
        refine lv_iconst (v := 0) hx hb dX4_blacks_24 (by decide) ?_
        refine lv_iadd hx hb dX4_blacks_25 ?_
        refine lv_istore_n (lv' := [(1, .int ((bkF p0 k) + 0)), (2, .int (nI k)), (0, .int p0)]) hx hb dX4_blacks_26 rfl hl (by decide) rfl (fun ls hl => ?_)
        obtain ⟨z27, ez27⟩ : ∃ y : Int32, y = nI k + 1 := ⟨_, rfl⟩
        refine lv_iinc (v := z27) (lv' := [(2, .int z27), (1, .int ((bkF p0 k) + 0)), (0, .int p0)]) hx hb dX4_blacks_27 hl (k := 1) rfl (by rw [ez27]; rfl) (by decide) rfl (fun ls hl => ?_)
        refine lv_goto (tgt := 4) hx hb dX4_blacks_30 (by decide) ?_
        exact ih (k + 1) _ _ _ _ _ (by omega) (by rw [ez27, nI_1]) (cnP_f h14) hP hS (lv_sub hl [0, 1, 2] rfl)
  exact key4 32 0 _ _ _ _ _ (by omega) rfl rfl hP hS (lv_sub hl [0, 1, 2] rfl)

set_option maxHeartbeats 4000000 in
set_option maxRecDepth 100000 in
theorem m_readersOf (l : Launch) (hst : l.stackTraces = false) (g : gE) (base n : Nat) (L : Nat → Nat) (hn : 123 ≤ n) (y : St) (ch : Int64) (r0 : Nat → va_E) (nb : Nat) (hnb : nb ≤ 6) (hy3 : y 3 0 0 = nI nb) (k0 : Nat) (hk0 : k0 < 40) (p0 : Int32) : Met l yX4_readersOf wsX4_readersOf ({ frames := 0, cells := 0, slots := 0, locals := 0 }) (va_Pc [.ref (L 106), .int (nI k0), .int p0] (PW SS g base n L (mw g L y ch r0))) (va_Qi (fun (r : Int32) (_ : Unit) => r = riM y k0 p0 nb) (fun (u : Unit) t => PB g n L (mw g L y ch r0) t) (fun q => base ≤ q)) 0 0 (fun q => base ≤ q) := by
  refine Met.ofW (cc := cX4_readersOf) (maxL := 5) (ret := (some .int)) (by decide) rfl ?_
  intro p e s m args below meth c s₁ B hml hv
  obtain ⟨rfl, hPW⟩ := hv
  obtain ⟨hbs, hJ, hP, hK, hE⟩ := id hPW
  have hx := B.exec
  have hb := B.bytes
  have hr := B.returns
  have hts := atoms_spec (ws := wsX4_readersOf) B.pre
  have hown : s.vm.findClass RX4 = some m.cls := findClass_of_methodNamed B.named
  have hlocks := B.notSynchronized
  have hS : va_S (fun q : Nat => base ≤ q) s.heap s.heap [] := va_S.rf
  have hl := lv_entry ([.ref (L 106), .int (nI k0), .int p0]) (n := 5) (Nat.le_of_ble_eq_true rfl)
  rw [lg_entry_eq]
  generalize (lg_sl ([.ref (L 106), .int (nI k0), .int p0]) ++ List.replicate (5 - (lg_sl ([.ref (L 106), .int (nI k0), .int p0])).length) Slot.unset).toArray = ls at hl ⊢
  have hl : lv_has ls 5 [(0, .ref (L 106)), (1, .int (nI k0)), (2, .int p0)] := hl
  have iX4 : ∀ w ∈ wsX40, w ∈ wsX4_readersOf := by decide +kernel
  refine lv_iconst (v := 0) hx hb dX4_readersOf_0 (by decide) ?_
  refine lv_istore_n (lv' := [(3, .int 0), (0, .ref (L 106)), (1, .int (nI k0)), (2, .int p0)]) hx hb dX4_readersOf_1 rfl hl (by decide) rfl (fun ls hl => ?_)
  refine lv_iconst (v := 0) hx hb dX4_readersOf_2 (by decide) ?_
  refine lv_istore (lv' := [(4, .int 0), (3, .int 0), (0, .ref (L 106)), (1, .int (nI k0)), (2, .int p0)]) hx hb dX4_readersOf_3 hl (by decide) rfl (fun ls hl => ?_)
  have key5 : ∀ (d k : Nat) (z4 : Int32) (z3 : Int32) (H : Heap) (locs : List Loc) (ls : Array Slot), k + d = nb → (z4 = nI k) → (z3 = riM y k0 p0 k) → va_P g.1 vwCl (wl n L (mw g L y ch r0)) H → va_S (fun q : Nat => base ≤ q) s.heap H locs → lv_has ls 5 [(4, .int z4), (3, .int z3), (0, .ref (L 106)), (1, .int (nI k0)), (2, .int p0)] → W p l e (headSpec wsX4_readersOf ({ frames := 0, cells := 0, slots := 0, locals := 0 })).room s m ([.ref (L 106), .int (nI k0), .int p0] : List Value).toArray below meth c H locs 0 0 (MQ below (va_Qi (fun (r : Int32) (_ : Unit) => r = riM y k0 p0 nb) (fun (u : Unit) t => PB g n L (mw g L y ch r0) t) (fun q => base ≤ q)) ([.ref (L 106), .int (nI k0), .int p0] : List Value).toArray s 0 0 (fun q => base ≤ q)) (F0 m 5 ls []) := by
    intro d
    induction d with
    | zero =>
      intro k z4 z3 H locs ls hkd ek4 ek3 hP hS hl
      obtain rfl : nb = k := by omega
      subst ek4 ek3
      refine lv_iload hx hb dX4_readersOf_5 (lv_at hl 0 rfl) ?_
      refine lv_aload_n hx hb dX4_readersOf_7 rfl (lv_at hl 2 rfl) ?_
      refine wx_get (D := g.1) (cl := vwCl) (ci := 6) (v := .int (y 3 0 0)) (C := RX4) (T := TX4) (N := 22) hx hb hts iX4 hown hK hP (106) (by omega) mw_o rfl 3 (by decide) (hts (.fieldLink RX4 67 "FerroDeskModel" "boards" "I") (by decide +kernel)) (fun _ h9 => h9) rfl dX4_readersOf_8 ?_
      refine lv_icmp_ge (tgt := 50) hx hb dX4_readersOf_11 (by decide) (fun c11 => ?_) (fun c11 => absurd (by rw [hy3]; exact nI_le (Nat.le_refl _) (by omega)) c11)
      refine lv_iload_n hx hb dX4_readersOf_50 rfl (lv_at hl 1 rfl) ?_
      refine W.widen (k := 0) (n := 0) (Nat.le_of_ble_eq_true rfl) (Nat.le_of_ble_eq_true rfl) ?_
      exact W.iret (v := riM y k0 p0 nb) hx hb hr (fun t ht hW => ⟨⟨riM y k0 p0 nb, (), rfl, rfl, PB.mk9 hP ht⟩, hS.F ht⟩) hS.2.2 dX4_readersOf_51
    | succ d ih =>
      intro k z4 z3 H locs ls hkd ek4 ek3 hP hS hl
      have hkN : k < nb := by omega
      subst ek4 ek3
      refine lv_iload hx hb dX4_readersOf_5 (lv_at hl 0 rfl) ?_
      refine lv_aload_n hx hb dX4_readersOf_7 rfl (lv_at hl 2 rfl) ?_
      refine wx_get (D := g.1) (cl := vwCl) (ci := 6) (v := .int (y 3 0 0)) (C := RX4) (T := TX4) (N := 22) hx hb hts iX4 hown hK hP (106) (by omega) mw_o rfl 3 (by decide) (hts (.fieldLink RX4 67 "FerroDeskModel" "boards" "I") (by decide +kernel)) (fun _ h9 => h9) rfl dX4_readersOf_8 ?_
      refine lv_icmp_ge (tgt := 50) hx hb dX4_readersOf_11 (by decide) (fun c11 => absurd c11 (by rw [hy3]; exact nI_ge hkN (by omega))) (fun c11 => ?_)
      refine lv_iload_n hx hb dX4_readersOf_14 rfl (lv_at hl 1 rfl) ?_
      refine lv_aload_n hx hb dX4_readersOf_15 rfl (lv_at hl 2 rfl) ?_
      refine wx_get (D := g.1) (cl := vwCl) (ci := 6) (v := .ref (L 107)) (C := RX4) (T := TX4) (N := 22) hx hb hts iX4 hown hK hP (106) (by omega) mw_o rfl 6 (by decide) (hts (.fieldLink RX4 13 "FerroDeskModel" "districtOf" "[I") (by decide +kernel)) (fun _ h9 => h9) rfl dX4_readersOf_16 ?_
      refine lv_iload hx hb dX4_readersOf_19 (lv_at hl 0 rfl) ?_
      refine wx_ialdv (D := g.1) (cl := vwCl) (N := 6) (f := fun j9 => y 10 0 j9) (v := y 10 0 k) hx hb hK hP (107) 0 (by omega) (mw_a (by decide) (by decide)) rfl (i := nI k) (by exact vp_in_nI (by omega) (by decide)) (by rw [nI_clamp (by omega)]) dX4_readersOf_21 ?_
      refine lv_iload_n hx hb dX4_readersOf_22 rfl (lv_at hl 4 rfl) ?_
      refine lv_icmp_ne (tgt := 41) hx hb dX4_readersOf_23 (by decide) (fun c23 => ?_) (fun c23 => ?_)
      · refine lv_iconst (v := 0) hx hb dX4_readersOf_41 (by decide) ?_
        refine lv_iadd hx hb dX4_readersOf_42 ?_
        refine lv_istore_n (lv' := [(3, .int ((riM y k0 p0 k) + 0)), (4, .int (nI k)), (0, .ref (L 106)), (1, .int (nI k0)), (2, .int p0)]) hx hb dX4_readersOf_43 rfl hl (by decide) rfl (fun ls hl => ?_)
        obtain ⟨z44, ez44⟩ : ∃ y : Int32, y = nI k + 1 := ⟨_, rfl⟩
        refine lv_iinc (v := z44) (lv' := [(4, .int z44), (3, .int ((riM y k0 p0 k) + 0)), (0, .ref (L 106)), (1, .int (nI k0)), (2, .int p0)]) hx hb dX4_readersOf_44 hl (k := 1) rfl (by rw [ez44]; rfl) (by decide) rfl (fun ls hl => ?_)
        refine lv_goto (tgt := 5) hx hb dX4_readersOf_47 (by decide) ?_
        exact ih (k + 1) _ _ _ _ _ (by omega) (by rw [ez44, nI_1]) (riM_f c23) hP hS (lv_sub hl [0, 1, 2, 3, 4] rfl)
      · refine lv_aload_n hx hb dX4_readersOf_26 rfl (lv_at hl 2 rfl) ?_
        refine wx_get (D := g.1) (cl := vwCl) (ci := 6) (v := .ref (L 121)) (C := RX4) (T := TX4) (N := 22) hx hb hts iX4 hown hK hP (106) (by omega) mw_o rfl 20 (by decide) (hts (.fieldLink RX4 57 "FerroDeskModel" "readAt" "[I") (by decide +kernel)) (fun _ h9 => h9) rfl dX4_readersOf_27 ?_
        refine lv_bipush (v := 6) hx hb dX4_readersOf_30 (by decide) ?_
        refine lv_iload_n hx hb dX4_readersOf_32 rfl (lv_at hl 3 rfl) ?_
        refine lv_imul hx hb dX4_readersOf_33 ?_
        refine lv_iload hx hb dX4_readersOf_34 (lv_at hl 0 rfl) ?_
        refine lv_iadd hx hb dX4_readersOf_36 ?_
        refine wx_ialdv (D := g.1) (cl := vwCl) (N := 240) (f := fun j9 => y 24 0 j9) (v := y 24 0 (6 * k0 + k)) hx hb hK hP (121) 0 (by omega) (mw_a (by decide) (by decide)) rfl (i := (6 * (nI k0)) + (nI k)) (by simp only [m6, nI_add]; exact vp_in_nI (by omega) (by decide)) (by simp only [m6, nI_add]; rw [nI_clamp (by omega)]) dX4_readersOf_37 ?_
        refine lv_goto (tgt := 42) hx hb dX4_readersOf_38 (by decide) ?_
        refine lv_iadd hx hb dX4_readersOf_42 ?_
        refine lv_istore_n (lv' := [(3, .int ((riM y k0 p0 k) + (y 24 0 (6 * k0 + k)))), (4, .int (nI k)), (0, .ref (L 106)), (1, .int (nI k0)), (2, .int p0)]) hx hb dX4_readersOf_43 rfl hl (by decide) rfl (fun ls hl => ?_)
        obtain ⟨z44, ez44⟩ : ∃ y : Int32, y = nI k + 1 := ⟨_, rfl⟩
        refine lv_iinc (v := z44) (lv' := [(4, .int z44), (3, .int ((riM y k0 p0 k) + (y 24 0 (6 * k0 + k)))), (0, .ref (L 106)), (1, .int (nI k0)), (2, .int p0)]) hx hb dX4_readersOf_44 hl (k := 1) rfl (by rw [ez44]; rfl) (by decide) rfl (fun ls hl => ?_)
        refine lv_goto (tgt := 5) hx hb dX4_readersOf_47 (by decide) ?_
        exact ih (k + 1) _ _ _ _ _ (by omega) (by rw [ez44, nI_1]) (riM_t c23) hP hS (lv_sub hl [0, 1, 2, 3, 4] rfl)
  exact key5 nb 0 _ _ _ _ _ (by omega) rfl rfl hP hS (lv_sub hl [0, 1, 2, 3, 4] rfl)

set_option maxHeartbeats 4000000 in
set_option maxRecDepth 100000 in
theorem m_isIn (l : Launch) (hst : l.stackTraces = false) (g : gE) (base n : Nat) (L : Nat → Nat) (hn : 123 ≤ n) (y : St) (ch : Int64) (r0 : Nat → va_E) (k0 : Nat) (hk0 : k0 < 40) (dd : Nat) (hd : dd < 4) : Met l yX4_isIn wsX4_isIn ({ frames := 0, cells := 0, slots := 0, locals := 0 }) (va_Pc [.ref (L 106), .int (nI k0), .int (nI dd)] (PW SS g base n L (mw g L y ch r0))) (va_Qi (fun (r : Int32) (_ : Unit) => (r = 1 ∧ iiP y k0 dd) ∨ (r = 0 ∧ ¬ iiP y k0 dd)) (fun (u : Unit) t => PB g n L (mw g L y ch r0) t) (fun q => base ≤ q)) 0 0 (fun q => base ≤ q) := by
  refine Met.ofW (cc := cX4_isIn) (maxL := 3) (ret := (some .boolean)) (by decide) rfl ?_
  intro p e s m args below meth c s₁ B hml hv
  obtain ⟨rfl, hPW⟩ := hv
  obtain ⟨hbs, hJ, hP, hK, hE⟩ := id hPW
  have hx := B.exec
  have hb := B.bytes
  have hr := B.returns
  have hts := atoms_spec (ws := wsX4_isIn) B.pre
  have hown : s.vm.findClass RX4 = some m.cls := findClass_of_methodNamed B.named
  have hlocks := B.notSynchronized
  have hS : va_S (fun q : Nat => base ≤ q) s.heap s.heap [] := va_S.rf
  have hl := lv_entry ([.ref (L 106), .int (nI k0), .int (nI dd)]) (n := 3) (Nat.le_of_ble_eq_true rfl)
  rw [lg_entry_eq]
  generalize (lg_sl ([.ref (L 106), .int (nI k0), .int (nI dd)]) ++ List.replicate (3 - (lg_sl ([.ref (L 106), .int (nI k0), .int (nI dd)])).length) Slot.unset).toArray = ls at hl ⊢
  have hl : lv_has ls 3 [(0, .ref (L 106)), (1, .int (nI k0)), (2, .int (nI dd))] := hl
  have iX4 : ∀ w ∈ wsX40, w ∈ wsX4_isIn := by decide +kernel
  refine lv_aload_n hx hb dX4_isIn_0 rfl (lv_at hl 0 rfl) ?_
  refine wx_get (D := g.1) (cl := vwCl) (ci := 6) (v := .ref (L 120)) (C := RX4) (T := TX4) (N := 22) hx hb hts iX4 hown hK hP (106) (by omega) mw_o rfl 19 (by decide) (hts (.fieldLink RX4 54 "FerroDeskModel" "isQueued" "[Z") (by decide +kernel)) (fun _ h9 => h9) rfl dX4_isIn_1 ?_
  refine lv_iconst (v := 4) hx hb dX4_isIn_4 (by decide) ?_
  refine lv_iload_n hx hb dX4_isIn_5 rfl (lv_at hl 1 rfl) ?_
  refine lv_imul hx hb dX4_isIn_6 ?_
  refine lv_iload_n hx hb dX4_isIn_7 rfl (lv_at hl 2 rfl) ?_
  refine lv_iadd hx hb dX4_isIn_8 ?_
  refine wx_zaldv (D := g.1) (cl := vwCl) (N := 160) (f := fun j9 => y 23 0 j9) (v := y 23 0 (4 * k0 + dd)) hx hb hK hP (120) 3 (by omega) (mw_a (by decide) (by decide)) rfl (i := (4 * (nI k0)) + (nI dd)) (by simp only [m4, nI_add]; exact vp_in_nI (by omega) (by decide)) (by simp only [m4, nI_add]; rw [nI_clamp (by omega)]) dX4_isIn_9 ?_
  refine lv_if_eq (tgt := 30) hx hb dX4_isIn_10 (by decide) (fun c10 => ?_) (fun c10 => ?_)
  · refine lv_iconst (v := 0) hx hb dX4_isIn_30 (by decide) ?_
    refine W.widen (k := 0) (n := 0) (Nat.le_of_ble_eq_true rfl) (Nat.le_of_ble_eq_true rfl) ?_
    exact W.zret (v := 0) hx hb hr (by decide) (fun t ht hW => ⟨⟨0, (), rfl, Or.inr ⟨rfl, fun h9 => h9.1 c10⟩, PB.mk9 hP ht⟩, hS.F ht⟩) hS.2.2 dX4_isIn_31
  · refine lv_aload_n hx hb dX4_isIn_13 rfl (lv_at hl 0 rfl) ?_
    refine wx_get (D := g.1) (cl := vwCl) (ci := 6) (v := .int (y 1 0 0)) (C := RX4) (T := TX4) (N := 22) hx hb hts iX4 hown hK hP (106) (by omega) mw_o rfl 1 (by decide) (hts (.fieldLink RX4 101 "FerroDeskModel" "hour" "I") (by decide +kernel)) (fun _ h9 => h9) rfl dX4_isIn_14 ?_
    refine lv_aload_n hx hb dX4_isIn_17 rfl (lv_at hl 0 rfl) ?_
    refine wx_get (D := g.1) (cl := vwCl) (ci := 6) (v := .ref (L 117)) (C := RX4) (T := TX4) (N := 22) hx hb hts iX4 hown hK hP (106) (by omega) mw_o rfl 16 (by decide) (hts (.fieldLink RX4 45 "FerroDeskModel" "till" "[I") (by decide +kernel)) (fun _ h9 => h9) rfl dX4_isIn_18 ?_
    refine lv_iload_n hx hb dX4_isIn_21 rfl (lv_at hl 1 rfl) ?_
    refine wx_ialdv (D := g.1) (cl := vwCl) (N := 40) (f := fun j9 => y 20 0 j9) (v := y 20 0 k0) hx hb hK hP (117) 0 (by omega) (mw_a (by decide) (by decide)) rfl (i := (nI k0)) (by exact vp_in_nI (by omega) (by decide)) (by rw [nI_clamp (by omega)]) dX4_isIn_22 ?_
    refine lv_icmp_ge (tgt := 30) hx hb dX4_isIn_23 (by decide) (fun c23 => ?_) (fun c23 => ?_)
    · refine lv_iconst (v := 0) hx hb dX4_isIn_30 (by decide) ?_
      refine W.widen (k := 0) (n := 0) (Nat.le_of_ble_eq_true rfl) (Nat.le_of_ble_eq_true rfl) ?_
      exact W.zret (v := 0) hx hb hr (by decide) (fun t ht hW => ⟨⟨0, (), rfl, Or.inr ⟨rfl, fun h9 => absurd h9.2 (Int32.not_lt.mpr c23)⟩, PB.mk9 hP ht⟩, hS.F ht⟩) hS.2.2 dX4_isIn_31
    · refine lv_iconst (v := 1) hx hb dX4_isIn_26 (by decide) ?_
      refine lv_goto (tgt := 31) hx hb dX4_isIn_27 (by decide) ?_
      refine W.widen (k := 0) (n := 0) (Nat.le_of_ble_eq_true rfl) (Nat.le_of_ble_eq_true rfl) ?_
      exact W.zret (v := 1) hx hb hr (by decide) (fun t ht hW => ⟨⟨1, (), rfl, Or.inl ⟨rfl, c10, Int32.not_le.mp c23⟩, PB.mk9 hP ht⟩, hS.F ht⟩) hS.2.2 dX4_isIn_31

set_option maxHeartbeats 4000000 in
set_option maxRecDepth 100000 in
theorem m_dueNow (l : Launch) (hst : l.stackTraces = false) (g : gE) (base n : Nat) (L : Nat → Nat) (hn : 123 ≤ n) (y : St) (ch : Int64) (r0 : Nat → va_E) (k0 : Nat) (hk0 : k0 < 40) : Met l yX4_dueNow wsX4_dueNow ({ frames := 0, cells := 0, slots := 0, locals := 0 }) (va_Pc [.ref (L 106), .int (nI k0)] (PW SS g base n L (mw g L y ch r0))) (va_Qi (fun (r : Int32) (_ : Unit) => (r = 1 ∧ duP y k0) ∨ (r = 0 ∧ ¬ duP y k0)) (fun (u : Unit) t => PB g n L (mw g L y ch r0) t) (fun q => base ≤ q)) 0 0 (fun q => base ≤ q) := by
  refine Met.ofW (cc := cX4_dueNow) (maxL := 2) (ret := (some .boolean)) (by decide) rfl ?_
  intro p e s m args below meth c s₁ B hml hv
  obtain ⟨rfl, hPW⟩ := hv
  obtain ⟨hbs, hJ, hP, hK, hE⟩ := id hPW
  have hx := B.exec
  have hb := B.bytes
  have hr := B.returns
  have hts := atoms_spec (ws := wsX4_dueNow) B.pre
  have hown : s.vm.findClass RX4 = some m.cls := findClass_of_methodNamed B.named
  have hlocks := B.notSynchronized
  have hS : va_S (fun q : Nat => base ≤ q) s.heap s.heap [] := va_S.rf
  have hl := lv_entry ([.ref (L 106), .int (nI k0)]) (n := 2) (Nat.le_of_ble_eq_true rfl)
  rw [lg_entry_eq]
  generalize (lg_sl ([.ref (L 106), .int (nI k0)]) ++ List.replicate (2 - (lg_sl ([.ref (L 106), .int (nI k0)])).length) Slot.unset).toArray = ls at hl ⊢
  have hl : lv_has ls 2 [(0, .ref (L 106)), (1, .int (nI k0))] := hl
  have iX4 : ∀ w ∈ wsX40, w ∈ wsX4_dueNow := by decide +kernel
  refine lv_aload_n hx hb dX4_dueNow_0 rfl (lv_at hl 0 rfl) ?_
  refine wx_get (D := g.1) (cl := vwCl) (ci := 6) (v := .int (y 1 0 0)) (C := RX4) (T := TX4) (N := 22) hx hb hts iX4 hown hK hP (106) (by omega) mw_o rfl 1 (by decide) (hts (.fieldLink RX4 101 "FerroDeskModel" "hour" "I") (by decide +kernel)) (fun _ h9 => h9) rfl dX4_dueNow_1 ?_
  refine lv_aload_n hx hb dX4_dueNow_4 rfl (lv_at hl 0 rfl) ?_
  refine wx_get (D := g.1) (cl := vwCl) (ci := 6) (v := .ref (L 116)) (C := RX4) (T := TX4) (N := 22) hx hb hts iX4 hown hK hP (106) (by omega) mw_o rfl 15 (by decide) (hts (.fieldLink RX4 42 "FerroDeskModel" "from" "[I") (by decide +kernel)) (fun _ h9 => h9) rfl dX4_dueNow_5 ?_
  refine lv_iload_n hx hb dX4_dueNow_8 rfl (lv_at hl 1 rfl) ?_
  refine wx_ialdv (D := g.1) (cl := vwCl) (N := 40) (f := fun j9 => y 19 0 j9) (v := y 19 0 k0) hx hb hK hP (116) 0 (by omega) (mw_a (by decide) (by decide)) rfl (i := (nI k0)) (by exact vp_in_nI (by omega) (by decide)) (by rw [nI_clamp (by omega)]) dX4_dueNow_9 ?_
  refine lv_icmp_lt (tgt := 30) hx hb dX4_dueNow_10 (by decide) (fun c10 => ?_) (fun c10 => ?_)
  · refine lv_iconst (v := 0) hx hb dX4_dueNow_30 (by decide) ?_
    refine W.widen (k := 0) (n := 0) (Nat.le_of_ble_eq_true rfl) (Nat.le_of_ble_eq_true rfl) ?_
    exact W.zret (v := 0) hx hb hr (by decide) (fun t ht hW => ⟨⟨0, (), rfl, Or.inr ⟨rfl, fun h9 => absurd h9.1 (Int32.not_le.mpr c10)⟩, PB.mk9 hP ht⟩, hS.F ht⟩) hS.2.2 dX4_dueNow_31
  · refine lv_aload_n hx hb dX4_dueNow_13 rfl (lv_at hl 0 rfl) ?_
    refine wx_get (D := g.1) (cl := vwCl) (ci := 6) (v := .int (y 1 0 0)) (C := RX4) (T := TX4) (N := 22) hx hb hts iX4 hown hK hP (106) (by omega) mw_o rfl 1 (by decide) (hts (.fieldLink RX4 101 "FerroDeskModel" "hour" "I") (by decide +kernel)) (fun _ h9 => h9) rfl dX4_dueNow_14 ?_
    refine lv_aload_n hx hb dX4_dueNow_17 rfl (lv_at hl 0 rfl) ?_
    refine wx_get (D := g.1) (cl := vwCl) (ci := 6) (v := .ref (L 117)) (C := RX4) (T := TX4) (N := 22) hx hb hts iX4 hown hK hP (106) (by omega) mw_o rfl 16 (by decide) (hts (.fieldLink RX4 45 "FerroDeskModel" "till" "[I") (by decide +kernel)) (fun _ h9 => h9) rfl dX4_dueNow_18 ?_
    refine lv_iload_n hx hb dX4_dueNow_21 rfl (lv_at hl 1 rfl) ?_
    refine wx_ialdv (D := g.1) (cl := vwCl) (N := 40) (f := fun j9 => y 20 0 j9) (v := y 20 0 k0) hx hb hK hP (117) 0 (by omega) (mw_a (by decide) (by decide)) rfl (i := (nI k0)) (by exact vp_in_nI (by omega) (by decide)) (by rw [nI_clamp (by omega)]) dX4_dueNow_22 ?_
    refine lv_icmp_ge (tgt := 30) hx hb dX4_dueNow_23 (by decide) (fun c23 => ?_) (fun c23 => ?_)
    · refine lv_iconst (v := 0) hx hb dX4_dueNow_30 (by decide) ?_
      refine W.widen (k := 0) (n := 0) (Nat.le_of_ble_eq_true rfl) (Nat.le_of_ble_eq_true rfl) ?_
      exact W.zret (v := 0) hx hb hr (by decide) (fun t ht hW => ⟨⟨0, (), rfl, Or.inr ⟨rfl, fun h9 => absurd h9.2 (Int32.not_lt.mpr c23)⟩, PB.mk9 hP ht⟩, hS.F ht⟩) hS.2.2 dX4_dueNow_31
    · refine lv_iconst (v := 1) hx hb dX4_dueNow_26 (by decide) ?_
      refine lv_goto (tgt := 31) hx hb dX4_dueNow_27 (by decide) ?_
      refine W.widen (k := 0) (n := 0) (Nat.le_of_ble_eq_true rfl) (Nat.le_of_ble_eq_true rfl) ?_
      exact W.zret (v := 1) hx hb hr (by decide) (fun t ht hW => ⟨⟨1, (), rfl, Or.inl ⟨rfl, Int32.not_lt.mp c10, Int32.not_le.mp c23⟩, PB.mk9 hP ht⟩, hS.F ht⟩) hS.2.2 dX4_dueNow_31

set_option maxHeartbeats 4000000 in
set_option maxRecDepth 100000 in
theorem m_manyQueued (l : Launch) (hst : l.stackTraces = false) (g : gE) (base n : Nat) (L : Nat → Nat) (hn : 123 ≤ n) (y : St) (ch : Int64) (r0 : Nat → va_E) (nn : Nat) (hnn : nn ≤ 40) (hy4 : y 4 0 0 = nI nn) (dd : Nat) (hd : dd < 4) : Met l yX4_manyQueued wsX4_manyQueued ({ frames := 1, cells := 0, slots := 0, locals := 60 }) (va_Pc [.ref (L 106), .int (nI dd)] (PW SS g base n L (mw g L y ch r0))) (va_Qi (fun (r : Int32) (_ : Unit) => r = mqF y dd nn) (fun (u : Unit) t => PB g n L (mw g L y ch r0) t) (fun q => base ≤ q)) 0 0 (fun q => base ≤ q) := by
  refine Met.ofW (cc := cX4_manyQueued) (maxL := 4) (ret := (some .int)) (by decide) rfl ?_
  intro p e s m args below meth c s₁ B hml hv
  obtain ⟨rfl, hPW⟩ := hv
  obtain ⟨hbs, hJ, hP, hK, hE⟩ := id hPW
  have hx := B.exec
  have hb := B.bytes
  have hr := B.returns
  have hts := atoms_spec (ws := wsX4_manyQueued) B.pre
  have hown : s.vm.findClass RX4 = some m.cls := findClass_of_methodNamed B.named
  have hlocks := B.notSynchronized
  have hS : va_S (fun q : Nat => base ≤ q) s.heap s.heap [] := va_S.rf
  have hl := lv_entry ([.ref (L 106), .int (nI dd)]) (n := 4) (Nat.le_of_ble_eq_true rfl)
  rw [lg_entry_eq]
  generalize (lg_sl ([.ref (L 106), .int (nI dd)]) ++ List.replicate (4 - (lg_sl ([.ref (L 106), .int (nI dd)])).length) Slot.unset).toArray = ls at hl ⊢
  have hl : lv_has ls 4 [(0, .ref (L 106)), (1, .int (nI dd))] := hl
  have iX4 : ∀ w ∈ wsX40, w ∈ wsX4_manyQueued := by decide +kernel
  refine lv_iconst (v := 0) hx hb dX4_manyQueued_0 (by decide) ?_
  refine lv_istore_n (lv' := [(2, .int 0), (0, .ref (L 106)), (1, .int (nI dd))]) hx hb dX4_manyQueued_1 rfl hl (by decide) rfl (fun ls hl => ?_)
  refine lv_iconst (v := 0) hx hb dX4_manyQueued_2 (by decide) ?_
  refine lv_istore_n (lv' := [(3, .int 0), (2, .int 0), (0, .ref (L 106)), (1, .int (nI dd))]) hx hb dX4_manyQueued_3 rfl hl (by decide) rfl (fun ls hl => ?_)
  have key4 : ∀ (d k : Nat) (z3 : Int32) (z2 : Int32) (H : Heap) (locs : List Loc) (ls : Array Slot), k + d = nn → (z3 = nI k) → (z2 = mqF y dd k) → va_P g.1 vwCl (wl n L (mw g L y ch r0)) H → va_S (fun q : Nat => base ≤ q) s.heap H locs → lv_has ls 4 [(3, .int z3), (2, .int z2), (0, .ref (L 106)), (1, .int (nI dd))] → W p l e (headSpec wsX4_manyQueued ({ frames := 1, cells := 0, slots := 0, locals := 60 })).room s m ([.ref (L 106), .int (nI dd)] : List Value).toArray below meth c H locs 0 0 (MQ below (va_Qi (fun (r : Int32) (_ : Unit) => r = mqF y dd nn) (fun (u : Unit) t => PB g n L (mw g L y ch r0) t) (fun q => base ≤ q)) ([.ref (L 106), .int (nI dd)] : List Value).toArray s 0 0 (fun q => base ≤ q)) (F0 m 4 ls []) := by
    intro d
    induction d with
    | zero =>
      intro k z3 z2 H locs ls hkd ek3 ek2 hP hS hl
      obtain rfl : nn = k := by omega
      subst ek3 ek2
      refine lv_iload_n hx hb dX4_manyQueued_4 rfl (lv_at hl 0 rfl) ?_
      refine lv_aload_n hx hb dX4_manyQueued_5 rfl (lv_at hl 2 rfl) ?_
      refine wx_get (D := g.1) (cl := vwCl) (ci := 6) (v := .int (y 4 0 0)) (C := RX4) (T := TX4) (N := 22) hx hb hts iX4 hown hK hP (106) (by omega) mw_o rfl 4 (by decide) (hts (.fieldLink RX4 74 "FerroDeskModel" "notices" "I") (by decide +kernel)) (fun _ h9 => h9) rfl dX4_manyQueued_6 ?_
      refine lv_icmp_ge (tgt := 35) hx hb dX4_manyQueued_9 (by decide) (fun c9 => ?_) (fun c9 => absurd (by rw [hy4]; exact nI_le (Nat.le_refl _) (by omega)) c9)
      refine lv_iload_n hx hb dX4_manyQueued_35 rfl (lv_at hl 1 rfl) ?_
      refine W.widen (k := 0) (n := 0) (Nat.le_of_ble_eq_true rfl) (Nat.le_of_ble_eq_true rfl) ?_
      exact W.iret (v := mqF y dd nn) hx hb hr (fun t ht hW => ⟨⟨mqF y dd nn, (), rfl, rfl, PB.mk9 hP ht⟩, hS.F ht⟩) hS.2.2 dX4_manyQueued_36
    | succ d ih =>
      intro k z3 z2 H locs ls hkd ek3 ek2 hP hS hl
      have hkN : k < nn := by omega
      subst ek3 ek2
      refine lv_iload_n hx hb dX4_manyQueued_4 rfl (lv_at hl 0 rfl) ?_
      refine lv_aload_n hx hb dX4_manyQueued_5 rfl (lv_at hl 2 rfl) ?_
      refine wx_get (D := g.1) (cl := vwCl) (ci := 6) (v := .int (y 4 0 0)) (C := RX4) (T := TX4) (N := 22) hx hb hts iX4 hown hK hP (106) (by omega) mw_o rfl 4 (by decide) (hts (.fieldLink RX4 74 "FerroDeskModel" "notices" "I") (by decide +kernel)) (fun _ h9 => h9) rfl dX4_manyQueued_6 ?_
      refine lv_icmp_ge (tgt := 35) hx hb dX4_manyQueued_9 (by decide) (fun c9 => absurd c9 (by rw [hy4]; exact nI_ge hkN (by omega))) (fun c9 => ?_)
      refine lv_iload_n hx hb dX4_manyQueued_12 rfl (lv_at hl 1 rfl) ?_
      refine lv_aload_n hx hb dX4_manyQueued_13 rfl (lv_at hl 2 rfl) ?_
      refine lv_iload_n hx hb dX4_manyQueued_14 rfl (lv_at hl 0 rfl) ?_
      refine lv_iload_n hx hb dX4_manyQueued_15 rfl (lv_at hl 3 rfl) ?_
      refine wx_calli (va_runV (As := [.int (nI k), .int (nI dd)]) (rest := [.int (mqF y dd k)]) ⟨hx, hb, hml, hown, hts⟩ (m_isIn l hst g base n L (by omega) y ch r0 k (by omega) dd (by omega)) (cwV 2 hts gX4_manyQueued_X4_isIn rfl rfl rfl (by decide +kernel) ⟨Nat.le_of_ble_eq_true rfl, Nat.le_of_ble_eq_true rfl⟩) (hPW.preV hP hS (ci := 6) rfl (by omega) mw_o) rfl rfl hl.1 rfl (lv_room (Nat.le_of_ble_eq_true rfl)) dX4_manyQueued_16 ⟨Nat.le_of_ble_eq_true rfl, Nat.le_of_ble_eq_true rfl⟩) hS (fun r16 u16 H locs h16 hP hS => ?_)
      rcases h16 with ⟨rfl, h16⟩ | ⟨rfl, h16⟩
      · refine lv_if_eq (tgt := 26) hx hb dX4_manyQueued_19 (by decide) (fun c19 => absurd c19 (by decide)) (fun c19 => ?_)
        refine lv_iconst (v := 1) hx hb dX4_manyQueued_22 (by decide) ?_
        refine lv_goto (tgt := 27) hx hb dX4_manyQueued_23 (by decide) ?_
        refine lv_iadd hx hb dX4_manyQueued_27 ?_
        refine lv_istore_n (lv' := [(2, .int ((mqF y dd k) + 1)), (3, .int (nI k)), (0, .ref (L 106)), (1, .int (nI dd))]) hx hb dX4_manyQueued_28 rfl hl (by decide) rfl (fun ls hl => ?_)
        obtain ⟨z29, ez29⟩ : ∃ y : Int32, y = nI k + 1 := ⟨_, rfl⟩
        refine lv_iinc (v := z29) (lv' := [(3, .int z29), (2, .int ((mqF y dd k) + 1)), (0, .ref (L 106)), (1, .int (nI dd))]) hx hb dX4_manyQueued_29 hl (k := 1) rfl (by rw [ez29]; rfl) (by decide) rfl (fun ls hl => ?_)
        refine lv_goto (tgt := 4) hx hb dX4_manyQueued_32 (by decide) ?_
        exact ih (k + 1) _ _ _ _ _ (by omega) (by rw [ez29, nI_1]) (cnP_t h16) hP hS (lv_sub hl [0, 1, 2, 3] rfl)
      · refine lv_if_eq (tgt := 26) hx hb dX4_manyQueued_19 (by decide) (fun c19 => ?_) (fun c19 => absurd (by decide) c19)
        refine lv_iconst (v := 0) hx hb dX4_manyQueued_26 (by decide) ?_
        refine lv_iadd hx hb dX4_manyQueued_27 ?_
        refine lv_istore_n (lv' := [(2, .int ((mqF y dd k) + 0)), (3, .int (nI k)), (0, .ref (L 106)), (1, .int (nI dd))]) hx hb dX4_manyQueued_28 rfl hl (by decide) rfl (fun ls hl => ?_)
        obtain ⟨z29, ez29⟩ : ∃ y : Int32, y = nI k + 1 := ⟨_, rfl⟩
        refine lv_iinc (v := z29) (lv' := [(3, .int z29), (2, .int ((mqF y dd k) + 0)), (0, .ref (L 106)), (1, .int (nI dd))]) hx hb dX4_manyQueued_29 hl (k := 1) rfl (by rw [ez29]; rfl) (by decide) rfl (fun ls hl => ?_)
        refine lv_goto (tgt := 4) hx hb dX4_manyQueued_32 (by decide) ?_
        exact ih (k + 1) _ _ _ _ _ (by omega) (by rw [ez29, nI_1]) (cnP_f h16) hP hS (lv_sub hl [0, 1, 2, 3] rfl)
  exact key4 nn 0 _ _ _ _ _ (by omega) rfl rfl hP hS (lv_sub hl [0, 1, 2, 3] rfl)

set_option maxHeartbeats 4000000 in
set_option maxRecDepth 100000 in
theorem m_inQueue (l : Launch) (hst : l.stackTraces = false) (g : gE) (base n : Nat) (L : Nat → Nat) (hn : 123 ≤ n) (y : St) (ch : Int64) (r0 : Nat → va_E) (nn : Nat) (hnn : nn ≤ 40) (hy4 : y 4 0 0 = nI nn) (dd : Nat) (hd : dd < 4) (p1 : Int32) : Met l yX4_inQueue wsX4_inQueue ({ frames := 1, cells := 0, slots := 0, locals := 60 }) (va_Pc [.ref (L 106), .int (nI dd), .int p1] (PW SS g base n L (mw g L y ch r0))) (va_Qi (fun (r : Int32) (_ : Unit) => r = iqO y dd nn 11 p1) (fun (u : Unit) t => PB g n L (mw g L y ch r0) t) (fun q => base ≤ q)) 0 0 (fun q => base ≤ q) := by
  refine Met.ofW (cc := cX4_inQueue) (maxL := 6) (ret := (some .int)) (by decide) rfl ?_
  intro p e s m args below meth c s₁ B hml hv
  obtain ⟨rfl, hPW⟩ := hv
  obtain ⟨hbs, hJ, hP, hK, hE⟩ := id hPW
  have hx := B.exec
  have hb := B.bytes
  have hr := B.returns
  have hts := atoms_spec (ws := wsX4_inQueue) B.pre
  have hown : s.vm.findClass RX4 = some m.cls := findClass_of_methodNamed B.named
  have hlocks := B.notSynchronized
  have hS : va_S (fun q : Nat => base ≤ q) s.heap s.heap [] := va_S.rf
  have hl := lv_entry ([.ref (L 106), .int (nI dd), .int p1]) (n := 6) (Nat.le_of_ble_eq_true rfl)
  rw [lg_entry_eq]
  generalize (lg_sl ([.ref (L 106), .int (nI dd), .int p1]) ++ List.replicate (6 - (lg_sl ([.ref (L 106), .int (nI dd), .int p1])).length) Slot.unset).toArray = ls at hl ⊢
  have hl : lv_has ls 6 [(0, .ref (L 106)), (1, .int (nI dd)), (2, .int p1)] := hl
  have iX4 : ∀ w ∈ wsX40, w ∈ wsX4_inQueue := by decide +kernel
  refine lv_iload_n hx hb dX4_inQueue_0 rfl (lv_at hl 2 rfl) ?_
  refine lv_istore_n (lv' := [(3, .int p1), (0, .ref (L 106)), (1, .int (nI dd)), (2, .int p1)]) hx hb dX4_inQueue_1 rfl hl (by decide) rfl (fun ls hl => ?_)
  refine lv_bipush (v := 10) hx hb dX4_inQueue_2 (by decide) ?_
  refine lv_istore (lv' := [(4, .int 10), (3, .int p1), (0, .ref (L 106)), (1, .int (nI dd)), (2, .int p1)]) hx hb dX4_inQueue_4 hl (by decide) rfl (fun ls hl => ?_)
  have key6 : ∀ (mm : Nat) (z4 : Int32) (z3 : Int32) (H : Heap) (locs : List Loc) (ls : Array Slot), mm ≤ 11 → (z4 = nI mm - 1) → (iqO y dd nn mm z3 = iqO y dd nn 11 p1) → va_P g.1 vwCl (wl n L (mw g L y ch r0)) H → va_S (fun q : Nat => base ≤ q) s.heap H locs → lv_has ls 6 [(4, .int z4), (3, .int z3), (0, .ref (L 106)), (1, .int (nI dd)), (2, .int p1)] → W p l e (headSpec wsX4_inQueue ({ frames := 1, cells := 0, slots := 0, locals := 60 })).room s m ([.ref (L 106), .int (nI dd), .int p1] : List Value).toArray below meth c H locs 0 0 (MQ below (va_Qi (fun (r : Int32) (_ : Unit) => r = iqO y dd nn 11 p1) (fun (u : Unit) t => PB g n L (mw g L y ch r0) t) (fun q => base ≤ q)) ([.ref (L 106), .int (nI dd), .int p1] : List Value).toArray s 0 0 (fun q => base ≤ q)) (F0 m 6 ls []) := by
    intro mm
    induction mm with
    | zero =>
      intro z4 z3 H locs ls hkdmm ek4 hF hP hS hl
      subst ek4
      rw [show nI 0 - 1 = (-1 : Int32) by decide] at hl
      refine lv_iload hx hb dX4_inQueue_6 (lv_at hl 0 rfl) ?_
      refine lv_if_lt (tgt := 67) hx hb dX4_inQueue_8 (by decide) (fun c8 => ?_) (fun c8 => absurd (by decide) c8)
      refine lv_iconst (v := (-1)) hx hb dX4_inQueue_67 (by decide) ?_
      refine W.widen (k := 0) (n := 0) (Nat.le_of_ble_eq_true rfl) (Nat.le_of_ble_eq_true rfl) ?_
      exact W.iret (v := (-1)) hx hb hr (fun t ht hW => ⟨⟨(-1), (), rfl, hF, PB.mk9 hP ht⟩, hS.F ht⟩) hS.2.2 dX4_inQueue_68
    | succ mm ihmm =>
      intro z4 z3 H locs ls hkdmm ek4 hF hP hS hl
      subst ek4
      rw [nI_pred] at hl
      refine lv_iload hx hb dX4_inQueue_6 (lv_at hl 0 rfl) ?_
      refine lv_if_lt (tgt := 67) hx hb dX4_inQueue_8 (by decide) (fun c8 => absurd c8 (nI_pos (by omega))) (fun c8 => ?_)
      refine lv_iconst (v := 0) hx hb dX4_inQueue_11 (by decide) ?_
      refine lv_istore (lv' := [(5, .int 0), (4, .int (nI mm)), (3, .int z3), (0, .ref (L 106)), (1, .int (nI dd)), (2, .int p1)]) hx hb dX4_inQueue_12 hl (by decide) rfl (fun ls hl => ?_)
      have key14 : ∀ (d k : Nat) (z5 : Int32) (z3 : Int32) (H : Heap) (locs : List Loc) (ls : Array Slot), k + d = nn → (z5 = nI k) → (iqI y dd (nI mm) (iqO y dd nn mm) (nn - k) k z3 = iqO y dd nn 11 p1) → va_P g.1 vwCl (wl n L (mw g L y ch r0)) H → va_S (fun q : Nat => base ≤ q) s.heap H locs → lv_has ls 6 [(5, .int z5), (3, .int z3), (0, .ref (L 106)), (1, .int (nI dd)), (2, .int p1), (4, .int (nI mm))] → W p l e (headSpec wsX4_inQueue ({ frames := 1, cells := 0, slots := 0, locals := 60 })).room s m ([.ref (L 106), .int (nI dd), .int p1] : List Value).toArray below meth c H locs 0 0 (MQ below (va_Qi (fun (r : Int32) (_ : Unit) => r = iqO y dd nn 11 p1) (fun (u : Unit) t => PB g n L (mw g L y ch r0) t) (fun q => base ≤ q)) ([.ref (L 106), .int (nI dd), .int p1] : List Value).toArray s 0 0 (fun q => base ≤ q)) (F0 m 14 ls []) := by
        intro d
        induction d with
        | zero =>
          intro k z5 z3 H locs ls hkd ek5 hI hP hS hl
          obtain rfl : nn = k := by omega
          subst ek5
          refine lv_iload hx hb dX4_inQueue_14 (lv_at hl 0 rfl) ?_
          refine lv_aload_n hx hb dX4_inQueue_16 rfl (lv_at hl 2 rfl) ?_
          refine wx_get (D := g.1) (cl := vwCl) (ci := 6) (v := .int (y 4 0 0)) (C := RX4) (T := TX4) (N := 22) hx hb hts iX4 hown hK hP (106) (by omega) mw_o rfl 4 (by decide) (hts (.fieldLink RX4 74 "FerroDeskModel" "notices" "I") (by decide +kernel)) (fun _ h9 => h9) rfl dX4_inQueue_17 ?_
          refine lv_icmp_ge (tgt := 61) hx hb dX4_inQueue_20 (by decide) (fun c20 => ?_) (fun c20 => absurd (by rw [hy4]; exact nI_le (Nat.le_refl _) (by omega)) c20)
          have hI0 : iqO y dd nn mm z3 = iqO y dd nn 11 p1 := by rw [← hI, Nat.sub_self]; rfl
          obtain ⟨z61, ez61⟩ : ∃ y : Int32, y = nI mm + (-1) := ⟨_, rfl⟩
          refine lv_iinc (v := z61) (lv' := [(4, .int z61), (5, .int (nI nn)), (3, .int z3), (0, .ref (L 106)), (1, .int (nI dd)), (2, .int p1)]) hx hb dX4_inQueue_61 hl (k := 5) rfl (by rw [ez61]; rfl) (by decide) rfl (fun ls hl => ?_)
          refine lv_goto (tgt := 6) hx hb dX4_inQueue_64 (by decide) ?_
          exact ihmm _ z3 _ _ _ (by omega) (by rw [ez61]; exact (Int32.sub_eq_add_neg _ _).symm) hI0 hP hS (lv_sub hl [0, 2, 3, 4, 5] rfl)
        | succ d ih =>
          intro k z5 z3 H locs ls hkd ek5 hI hP hS hl
          have hkN : k < nn := by omega
          subst ek5
          refine lv_iload hx hb dX4_inQueue_14 (lv_at hl 0 rfl) ?_
          refine lv_aload_n hx hb dX4_inQueue_16 rfl (lv_at hl 2 rfl) ?_
          refine wx_get (D := g.1) (cl := vwCl) (ci := 6) (v := .int (y 4 0 0)) (C := RX4) (T := TX4) (N := 22) hx hb hts iX4 hown hK hP (106) (by omega) mw_o rfl 4 (by decide) (hts (.fieldLink RX4 74 "FerroDeskModel" "notices" "I") (by decide +kernel)) (fun _ h9 => h9) rfl dX4_inQueue_17 ?_
          refine lv_icmp_ge (tgt := 61) hx hb dX4_inQueue_20 (by decide) (fun c20 => absurd c20 (by rw [hy4]; exact nI_ge hkN (by omega))) (fun c20 => ?_)
          refine lv_aload_n hx hb dX4_inQueue_23 rfl (lv_at hl 2 rfl) ?_
          refine wx_get (D := g.1) (cl := vwCl) (ci := 6) (v := .ref (L 114)) (C := RX4) (T := TX4) (N := 22) hx hb hts iX4 hown hK hP (106) (by omega) mw_o rfl 13 (by decide) (hts (.fieldLink RX4 36 "FerroDeskModel" "rank" "[I") (by decide +kernel)) (fun _ h9 => h9) rfl dX4_inQueue_24 ?_
          refine lv_iload hx hb dX4_inQueue_27 (lv_at hl 0 rfl) ?_
          refine wx_ialdv (D := g.1) (cl := vwCl) (N := 40) (f := fun j9 => y 17 0 j9) (v := y 17 0 k) hx hb hK hP (114) 0 (by omega) (mw_a (by decide) (by decide)) rfl (i := nI k) (by exact vp_in_nI (by omega) (by decide)) (by rw [nI_clamp (by omega)]) dX4_inQueue_29 ?_
          refine lv_iload hx hb dX4_inQueue_30 (lv_at hl 5 rfl) ?_
          refine lv_icmp_ne (tgt := 55) hx hb dX4_inQueue_32 (by decide) (fun c32 => ?_) (fun c32 => ?_)
          · obtain ⟨z55, ez55⟩ : ∃ y : Int32, y = nI k + 1 := ⟨_, rfl⟩
            refine lv_iinc (v := z55) (lv' := [(5, .int z55), (3, .int z3), (0, .ref (L 106)), (1, .int (nI dd)), (2, .int p1), (4, .int (nI mm))]) hx hb dX4_inQueue_55 hl (k := 0) rfl (by rw [ez55]; rfl) (by decide) rfl (fun ls hl => ?_)
            refine lv_goto (tgt := 14) hx hb dX4_inQueue_58 (by decide) ?_
            exact ih (k + 1) _ z3 _ _ _ (by omega) (by rw [ez55, nI_1]) (by rw [← hI, show nn - k = (nn - (k + 1)) + 1 by omega]; exact (iqI_n (fun h9 => c32 h9.1)).symm) hP hS (lv_sub hl [0, 1, 2, 3, 4, 5] rfl)
          · refine lv_aload_n hx hb dX4_inQueue_35 rfl (lv_at hl 2 rfl) ?_
            refine lv_iload hx hb dX4_inQueue_36 (lv_at hl 0 rfl) ?_
            refine lv_iload_n hx hb dX4_inQueue_38 rfl (lv_at hl 3 rfl) ?_
            refine wx_calli (va_runV (As := [.int (nI k), .int (nI dd)]) (rest := []) ⟨hx, hb, hml, hown, hts⟩ (m_isIn l hst g base n L (by omega) y ch r0 k (by omega) dd (by omega)) (cwV 2 hts gX4_inQueue_X4_isIn rfl rfl rfl (by decide +kernel) ⟨Nat.le_of_ble_eq_true rfl, Nat.le_of_ble_eq_true rfl⟩) (hPW.preV hP hS (ci := 6) rfl (by omega) mw_o) rfl rfl hl.1 rfl (lv_room (Nat.le_of_ble_eq_true rfl)) dX4_inQueue_39 ⟨Nat.le_of_ble_eq_true rfl, Nat.le_of_ble_eq_true rfl⟩) hS (fun r39 u39 H locs h39 hP hS => ?_)
            rcases h39 with ⟨rfl, h39⟩ | ⟨rfl, h39⟩
            · refine lv_if_eq (tgt := 55) hx hb dX4_inQueue_42 (by decide) (fun c42 => absurd c42 (by decide)) (fun c42 => ?_)
              refine lv_iload_n hx hb dX4_inQueue_45 rfl (lv_at hl 1 rfl) ?_
              refine lv_if_ne (tgt := 52) hx hb dX4_inQueue_46 (by decide) (fun c46 => ?_) (fun c46 => ?_)
              · obtain ⟨z52, ez52⟩ : ∃ y : Int32, y = z3 + (-1) := ⟨_, rfl⟩
                refine lv_iinc (v := z52) (lv' := [(3, .int z52), (5, .int (nI k)), (0, .ref (L 106)), (1, .int (nI dd)), (2, .int p1), (4, .int (nI mm))]) hx hb dX4_inQueue_52 hl (k := 1) rfl (by rw [ez52]; rfl) (by decide) rfl (fun ls hl => ?_)
                obtain ⟨z55, ez55⟩ : ∃ y : Int32, y = nI k + 1 := ⟨_, rfl⟩
                refine lv_iinc (v := z55) (lv' := [(5, .int z55), (3, .int z52), (0, .ref (L 106)), (1, .int (nI dd)), (2, .int p1), (4, .int (nI mm))]) hx hb dX4_inQueue_55 hl (k := 1) rfl (by rw [ez55]; rfl) (by decide) rfl (fun ls hl => ?_)
                refine lv_goto (tgt := 14) hx hb dX4_inQueue_58 (by decide) ?_
                exact ih (k + 1) _ z52 _ _ _ (by omega) (by rw [ez55, nI_1]) (by rw [← hI, show nn - k = (nn - (k + 1)) + 1 by omega]; exact (by rw [iqI_s ⟨c32, h39⟩ c46, ez52])) hP hS (lv_sub hl [0, 1, 2, 3, 4, 5] rfl)
              · refine lv_iload hx hb dX4_inQueue_49 (lv_at hl 0 rfl) ?_
                refine W.widen (k := 0) (n := 0) (Nat.le_of_ble_eq_true rfl) (Nat.le_of_ble_eq_true rfl) ?_
                exact W.iret (v := nI k) hx hb hr (fun t ht hW => ⟨⟨nI k, (), rfl, (by rw [← hI, show nn - k = (nn - (k + 1)) + 1 by omega]; exact (iqI_r ⟨c32, h39⟩ c46).symm), PB.mk9 hP ht⟩, hS.F ht⟩) hS.2.2 dX4_inQueue_51
            · refine lv_if_eq (tgt := 55) hx hb dX4_inQueue_42 (by decide) (fun c42 => ?_) (fun c42 => absurd (by decide) c42)
              obtain ⟨z55, ez55⟩ : ∃ y : Int32, y = nI k + 1 := ⟨_, rfl⟩
              refine lv_iinc (v := z55) (lv' := [(5, .int z55), (3, .int z3), (0, .ref (L 106)), (1, .int (nI dd)), (2, .int p1), (4, .int (nI mm))]) hx hb dX4_inQueue_55 hl (k := 0) rfl (by rw [ez55]; rfl) (by decide) rfl (fun ls hl => ?_)
              refine lv_goto (tgt := 14) hx hb dX4_inQueue_58 (by decide) ?_
              exact ih (k + 1) _ z3 _ _ _ (by omega) (by rw [ez55, nI_1]) (by rw [← hI, show nn - k = (nn - (k + 1)) + 1 by omega]; exact (iqI_n (fun h9 => h39 h9.2)).symm) hP hS (lv_sub hl [0, 1, 2, 3, 4, 5] rfl)
      exact key14 nn 0 _ z3 _ _ _ (by omega) rfl hF hP hS (lv_sub hl [0, 2, 3, 4, 5, 1] rfl)
  exact key6 11 _ p1 _ _ _ (Nat.le_refl _) rfl rfl hP hS (lv_sub hl [0, 1, 2, 3, 4] rfl)

