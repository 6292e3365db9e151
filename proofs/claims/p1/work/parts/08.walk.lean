/-! laid by wip/gen/p1spec.py, ctors.py -/
set_option maxHeartbeats 4000000 in
set_option maxRecDepth 100000 in
theorem k_in (l : Launch) (hst : l.stackTraces = false) (g : gE) (base n : Nat) (L : Nat → Nat) (w0 : Nat → va_E) (p0 p1 p2 : Int32) : Met l yX4_in wsX4_in ({ frames := 0, cells := 0, slots := 0, locals := 0 }) (va_Pc [.int p0, .int p1, .int p2] (PW SS g base n L (w0))) (va_Qi (fun (r : Int32) (_ : Unit) => (r = 1 ∧ p1.toInt ≤ p0.toInt ∧ p0.toInt ≤ p2.toInt) ∨ (r = 0 ∧ ¬ (p1.toInt ≤ p0.toInt ∧ p0.toInt ≤ p2.toInt))) (fun (u : Unit) t => PB g n L (w0) t) (fun q => base ≤ q)) 0 0 (fun q => base ≤ q) := by
  refine Met.ofW (cc := cX4_in) (maxL := 3) (ret := (some .boolean)) (by decide) rfl ?_
  intro p e s m args below meth c s₁ B hml hv
  obtain ⟨rfl, hPW⟩ := hv
  obtain ⟨hbs, hJ, hP, hK, hE⟩ := id hPW
  have hx := B.exec
  have hb := B.bytes
  have hr := B.returns
  have hts := atoms_spec (ws := wsX4_in) B.pre
  have hown : s.vm.findClass RX4 = some m.cls := findClass_of_methodNamed B.named
  have hlocks := B.notSynchronized
  have hS : va_S (fun q : Nat => base ≤ q) s.heap s.heap [] := va_S.rf
  have hl := lv_entry ([.int p0, .int p1, .int p2]) (n := 3) (Nat.le_of_ble_eq_true rfl)
  rw [lg_entry_eq]
  generalize (lg_sl ([.int p0, .int p1, .int p2]) ++ List.replicate (3 - (lg_sl ([.int p0, .int p1, .int p2])).length) Slot.unset).toArray = ls at hl ⊢
  have hl : lv_has ls 3 [(0, .int p0), (1, .int p1), (2, .int p2)] := hl
  refine lv_iload_n hx hb dX4_in_0 rfl (lv_at hl 0 rfl) ?_
  refine lv_iload_n hx hb dX4_in_1 rfl (lv_at hl 1 rfl) ?_
  refine lv_icmp_lt (tgt := 14) hx hb dX4_in_2 (by decide) (fun c2 => ?_) (fun c2 => ?_)
  · refine lv_iconst (v := 0) hx hb dX4_in_14 (by decide) ?_
    refine W.widen (k := 0) (n := 0) (Nat.le_of_ble_eq_true rfl) (Nat.le_of_ble_eq_true rfl) ?_
    exact W.zret (v := 0) hx hb hr (by decide) (fun t ht hW => ⟨⟨0, (), rfl, Or.inr ⟨rfl, (by revert c2; (try simp only [Int32.lt_iff_toInt_lt, Int32.le_iff_toInt_le, ← Int32.toInt_inj, i_0, i_1, i_2, i_3, i_4, i_6, i_9, i_20, i_32, i_40, i_48, i_60, i_200, i_999, i_2000, i_m1]); omega)⟩, PB.mk9 hP ht⟩, hS.F ht⟩) hS.2.2 dX4_in_15
  · refine lv_iload_n hx hb dX4_in_5 rfl (lv_at hl 0 rfl) ?_
    refine lv_iload_n hx hb dX4_in_6 rfl (lv_at hl 2 rfl) ?_
    refine lv_icmp_gt (tgt := 14) hx hb dX4_in_7 (by decide) (fun c7 => ?_) (fun c7 => ?_)
    · refine lv_iconst (v := 0) hx hb dX4_in_14 (by decide) ?_
      refine W.widen (k := 0) (n := 0) (Nat.le_of_ble_eq_true rfl) (Nat.le_of_ble_eq_true rfl) ?_
      exact W.zret (v := 0) hx hb hr (by decide) (fun t ht hW => ⟨⟨0, (), rfl, Or.inr ⟨rfl, (by revert c2 c7; (try simp only [Int32.lt_iff_toInt_lt, Int32.le_iff_toInt_le, ← Int32.toInt_inj, i_0, i_1, i_2, i_3, i_4, i_6, i_9, i_20, i_32, i_40, i_48, i_60, i_200, i_999, i_2000, i_m1]); omega)⟩, PB.mk9 hP ht⟩, hS.F ht⟩) hS.2.2 dX4_in_15
    · refine lv_iconst (v := 1) hx hb dX4_in_10 (by decide) ?_
      refine lv_goto (tgt := 15) hx hb dX4_in_11 (by decide) ?_
      refine W.widen (k := 0) (n := 0) (Nat.le_of_ble_eq_true rfl) (Nat.le_of_ble_eq_true rfl) ?_
      exact W.zret (v := 1) hx hb hr (by decide) (fun t ht hW => ⟨⟨1, (), rfl, Or.inl ⟨rfl, (by revert c2 c7; (try simp only [Int32.lt_iff_toInt_lt, Int32.le_iff_toInt_le, ← Int32.toInt_inj, i_0, i_1, i_2, i_3, i_4, i_6, i_9, i_20, i_32, i_40, i_48, i_60, i_200, i_999, i_2000, i_m1]); omega)⟩, PB.mk9 hP ht⟩, hS.F ht⟩) hS.2.2 dX4_in_15

set_option maxHeartbeats 4000000 in
set_option maxRecDepth 100000 in
theorem k_fails (l : Launch) (hst : l.stackTraces = false) (g : gE) (base n : Nat) (L : Nat → Nat) (hn : 123 ≤ n) (y : St) (ch : Int64) (r0 : Nat → va_E) (hy : y 0 0 0 = 0) (p0 p1 : Int32) (hk : p1 ≠ 0) : Met l yX4_fails wsX4_fails ({ frames := 0, cells := 0, slots := 0, locals := 0 }) (va_Pc [.ref (L 106), .int p0, .int p1] (PW SS g base n L (mw g L y ch r0))) (va_Qi (fun (r : Int32) (u : St) => (r = 0 ∧ p0 = 0 ∧ u = y) ∨ (r = 1 ∧ p0 ≠ 0 ∧ u = st y 0 0 0 p1)) (fun (u : St) t => PB g n L (mw g L u ch r0) t) (fun q => base ≤ q)) 0 0 (fun q => base ≤ q) := by
  refine Met.ofW (cc := cX4_fails) (maxL := 3) (ret := (some .boolean)) (by decide) rfl ?_
  intro p e s m args below meth c s₁ B hml hv
  obtain ⟨rfl, hPW⟩ := hv
  obtain ⟨hbs, hJ, hP, hK, hE⟩ := id hPW
  have hx := B.exec
  have hb := B.bytes
  have hr := B.returns
  have hts := atoms_spec (ws := wsX4_fails) B.pre
  have hown : s.vm.findClass RX4 = some m.cls := findClass_of_methodNamed B.named
  have hlocks := B.notSynchronized
  have hS : va_S (fun q : Nat => base ≤ q) s.heap s.heap [] := va_S.rf
  have hl := lv_entry ([.ref (L 106), .int p0, .int p1]) (n := 3) (Nat.le_of_ble_eq_true rfl)
  rw [lg_entry_eq]
  generalize (lg_sl ([.ref (L 106), .int p0, .int p1]) ++ List.replicate (3 - (lg_sl ([.ref (L 106), .int p0, .int p1])).length) Slot.unset).toArray = ls at hl ⊢
  have hl : lv_has ls 3 [(0, .ref (L 106)), (1, .int p0), (2, .int p1)] := hl
  have iX4 : ∀ w ∈ wsX40, w ∈ wsX4_fails := by decide +kernel
  refine lv_iload_n hx hb dX4_fails_0 rfl (lv_at hl 1 rfl) ?_
  refine lv_if_eq (tgt := 16) hx hb dX4_fails_1 (by decide) (fun c1 => ?_) (fun c1 => ?_)
  · refine lv_aload_n hx hb dX4_fails_16 rfl (lv_at hl 0 rfl) ?_
    refine wx_get (D := g.1) (cl := vwCl) (ci := 6) (v := .int (y 0 0 0)) (C := RX4) (T := TX4) (N := 22) hx hb hts iX4 hown hK hP (106) (by omega) mw_o rfl 0 (by decide) (hts (.fieldLink RX4 64 "FerroDeskModel" "thrown" "I") (by decide +kernel)) (fun _ h9 => h9) rfl dX4_fails_17 ?_
    refine lv_if_eq (tgt := 27) hx hb dX4_fails_20 (by decide) (fun c20 => ?_) (fun c20 => absurd (hy) c20)
    refine lv_iconst (v := 0) hx hb dX4_fails_27 (by decide) ?_
    refine W.widen (k := 0) (n := 0) (Nat.le_of_ble_eq_true rfl) (Nat.le_of_ble_eq_true rfl) ?_
    exact W.zret (v := 0) hx hb hr (by decide) (fun t ht hW => ⟨⟨0, y, rfl, Or.inl ⟨rfl, c1, rfl⟩, PB.mk9 hP ht⟩, hS.F ht⟩) hS.2.2 dX4_fails_28
  · refine lv_aload_n hx hb dX4_fails_4 rfl (lv_at hl 0 rfl) ?_
    refine wx_get (D := g.1) (cl := vwCl) (ci := 6) (v := .int (y 0 0 0)) (C := RX4) (T := TX4) (N := 22) hx hb hts iX4 hown hK hP (106) (by omega) mw_o rfl 0 (by decide) (hts (.fieldLink RX4 64 "FerroDeskModel" "thrown" "I") (by decide +kernel)) (fun _ h9 => h9) rfl dX4_fails_5 ?_
    refine lv_if_ne (tgt := 16) hx hb dX4_fails_8 (by decide) (fun c8 => absurd c8 (fun h => h hy)) (fun c8 => ?_)
    refine lv_aload_n hx hb dX4_fails_11 rfl (lv_at hl 0 rfl) ?_
    refine lv_iload_n hx hb dX4_fails_12 rfl (lv_at hl 2 rfl) ?_
    refine wx_put (D := g.1) (cl := vwCl) (ci := 6) (v := .int p1) (ty := .int) (w' := mw g L (st y 0 0 0 p1) ch r0) (C := RX4) (T := TX4) (N := 22) hx hb hts iX4 tyX4 tyX4_ok nmX4 hown hK hP hJ hS (106) (by omega) mw_o rfl 0 (by decide) (hts (.fieldLink RX4 64 "FerroDeskModel" "thrown" "I") (by decide +kernel)) (fun _ h9 => h9) rfl (by decide +kernel) rfl rfl (Nat.le_of_ble_eq_true rfl) dX4_fails_13 (mw_put (r := 0) (i := 0) (j := 0) rfl (by omega) (mk_o.trans (by simp [mF, st]))) (fun H locs hP hS => ?_)
    refine lv_aload_n hx hb dX4_fails_16 rfl (lv_at hl 0 rfl) ?_
    refine wx_get (D := g.1) (cl := vwCl) (ci := 6) (v := .int ((st y 0 0 0 p1) 0 0 0)) (C := RX4) (T := TX4) (N := 22) hx hb hts iX4 hown hK hP (106) (by omega) mw_o rfl 0 (by decide) (hts (.fieldLink RX4 64 "FerroDeskModel" "thrown" "I") (by decide +kernel)) (fun _ h9 => h9) rfl dX4_fails_17 ?_
    refine lv_if_eq (tgt := 27) hx hb dX4_fails_20 (by decide) (fun c20 => absurd c20 (by rw [st_eq]; exact hk)) (fun c20 => ?_)
    refine lv_iconst (v := 1) hx hb dX4_fails_23 (by decide) ?_
    refine lv_goto (tgt := 28) hx hb dX4_fails_24 (by decide) ?_
    refine W.widen (k := 0) (n := 0) (Nat.le_of_ble_eq_true rfl) (Nat.le_of_ble_eq_true rfl) ?_
    exact W.zret (v := 1) hx hb hr (by decide) (fun t ht hW => ⟨⟨1, (st y 0 0 0 p1), rfl, Or.inr ⟨rfl, c1, rfl⟩, PB.mk9 hP ht⟩, hS.F ht⟩) hS.2.2 dX4_fails_28

set_option maxHeartbeats 4000000 in
set_option maxRecDepth 100000 in
theorem k_noDistrict (l : Launch) (hst : l.stackTraces = false) (g : gE) (base n : Nat) (L : Nat → Nat) (w0 : Nat → va_E) (p0 : Int32) : Met l yX4_noDistrict wsX4_noDistrict ({ frames := 1, cells := 0, slots := 0, locals := 30 }) (va_Pc [.int p0] (PW SS g base n L (w0))) (va_Qi (fun (r : Int32) (_ : Unit) => (r = 1 ∧ ¬ (0 ≤ p0.toInt ∧ p0.toInt ≤ 3)) ∨ (r = 0 ∧ 0 ≤ p0.toInt ∧ p0.toInt ≤ 3)) (fun (u : Unit) t => PB g n L (w0) t) (fun q => base ≤ q)) 0 0 (fun q => base ≤ q) := by
  refine Met.ofW (cc := cX4_noDistrict) (maxL := 1) (ret := (some .boolean)) (by decide) rfl ?_
  intro p e s m args below meth c s₁ B hml hv
  obtain ⟨rfl, hPW⟩ := hv
  obtain ⟨hbs, hJ, hP, hK, hE⟩ := id hPW
  have hx := B.exec
  have hb := B.bytes
  have hr := B.returns
  have hts := atoms_spec (ws := wsX4_noDistrict) B.pre
  have hown : s.vm.findClass RX4 = some m.cls := findClass_of_methodNamed B.named
  have hlocks := B.notSynchronized
  have hS : va_S (fun q : Nat => base ≤ q) s.heap s.heap [] := va_S.rf
  have hl := lv_entry ([.int p0]) (n := 1) (Nat.le_of_ble_eq_true rfl)
  rw [lg_entry_eq]
  generalize (lg_sl ([.int p0]) ++ List.replicate (1 - (lg_sl ([.int p0])).length) Slot.unset).toArray = ls at hl ⊢
  have hl : lv_has ls 1 [(0, .int p0)] := hl
  refine lv_iload_n hx hb dX4_noDistrict_0 rfl (lv_at hl 0 rfl) ?_
  refine lv_iconst (v := 0) hx hb dX4_noDistrict_1 (by decide) ?_
  refine lv_iconst (v := 3) hx hb dX4_noDistrict_2 (by decide) ?_
  refine wx_calli (va_runS (As := [.int p0, .int 0, .int 3]) (rest := []) ⟨hx, hb, hml, hown, hts⟩ (k_in l hst g base n L (w0) p0 0 3) (va_cwS 3 hts gX4_noDistrict_X4_in rfl rfl rfl (by decide +kernel) ⟨Nat.le_of_ble_eq_true rfl, Nat.le_of_ble_eq_true rfl⟩) (hPW.preS hP hS) rfl rfl hl.1 rfl (lv_room (Nat.le_of_ble_eq_true rfl)) dX4_noDistrict_3 ⟨Nat.le_of_ble_eq_true rfl, Nat.le_of_ble_eq_true rfl⟩) hS (fun r3 u3 H locs h3 hP hS => ?_)
  rcases h3 with ⟨rfl, h3⟩ | ⟨rfl, h3⟩
  · refine lv_if_ne (tgt := 13) hx hb dX4_noDistrict_6 (by decide) (fun c6 => ?_) (fun c6 => absurd c6 (by decide))
    refine lv_iconst (v := 0) hx hb dX4_noDistrict_13 (by decide) ?_
    refine W.widen (k := 0) (n := 0) (Nat.le_of_ble_eq_true rfl) (Nat.le_of_ble_eq_true rfl) ?_
    exact W.zret (v := 0) hx hb hr (by decide) (fun t ht hW => ⟨⟨0, (), rfl, Or.inr ⟨rfl, (by revert h3; (try simp only [Int32.lt_iff_toInt_lt, Int32.le_iff_toInt_le, ← Int32.toInt_inj, i_0, i_1, i_2, i_3, i_4, i_6, i_9, i_20, i_32, i_40, i_48, i_60, i_200, i_999, i_2000, i_m1]); omega)⟩, PB.mk9 hP ht⟩, hS.F ht⟩) hS.2.2 dX4_noDistrict_14
  · refine lv_if_ne (tgt := 13) hx hb dX4_noDistrict_6 (by decide) (fun c6 => absurd c6 (by decide)) (fun c6 => ?_)
    refine lv_iconst (v := 1) hx hb dX4_noDistrict_9 (by decide) ?_
    refine lv_goto (tgt := 14) hx hb dX4_noDistrict_10 (by decide) ?_
    refine W.widen (k := 0) (n := 0) (Nat.le_of_ble_eq_true rfl) (Nat.le_of_ble_eq_true rfl) ?_
    exact W.zret (v := 1) hx hb hr (by decide) (fun t ht hW => ⟨⟨1, (), rfl, Or.inl ⟨rfl, (by revert h3; (try simp only [Int32.lt_iff_toInt_lt, Int32.le_iff_toInt_le, ← Int32.toInt_inj, i_0, i_1, i_2, i_3, i_4, i_6, i_9, i_20, i_32, i_40, i_48, i_60, i_200, i_999, i_2000, i_m1]); omega)⟩, PB.mk9 hP ht⟩, hS.F ht⟩) hS.2.2 dX4_noDistrict_14

set_option maxHeartbeats 4000000 in
set_option maxRecDepth 100000 in
theorem k_noBoard (l : Launch) (hst : l.stackTraces = false) (g : gE) (base n : Nat) (L : Nat → Nat) (hn : 123 ≤ n) (y : St) (ch : Int64) (r0 : Nat → va_E) (hy3 : y 3 0 0 = nI 0) (p0 : Int32) : Met l yX4_noBoard wsX4_noBoard ({ frames := 1, cells := 0, slots := 0, locals := 30 }) (va_Pc [.ref (L 106), .int p0] (PW SS g base n L (mw g L y ch r0))) (va_Qi (fun (r : Int32) (u : St) => r = 1 ∧ u = y) (fun (u : St) t => PB g n L (mw g L u ch r0) t) (fun q => base ≤ q)) 0 0 (fun q => base ≤ q) := by
  refine Met.ofW (cc := cX4_noBoard) (maxL := 2) (ret := (some .boolean)) (by decide) rfl ?_
  intro p e s m args below meth c s₁ B hml hv
  obtain ⟨rfl, hPW⟩ := hv
  obtain ⟨hbs, hJ, hP, hK, hE⟩ := id hPW
  have hx := B.exec
  have hb := B.bytes
  have hr := B.returns
  have hts := atoms_spec (ws := wsX4_noBoard) B.pre
  have hown : s.vm.findClass RX4 = some m.cls := findClass_of_methodNamed B.named
  have hlocks := B.notSynchronized
  have hS : va_S (fun q : Nat => base ≤ q) s.heap s.heap [] := va_S.rf
  have hl := lv_entry ([.ref (L 106), .int p0]) (n := 2) (Nat.le_of_ble_eq_true rfl)
  rw [lg_entry_eq]
  generalize (lg_sl ([.ref (L 106), .int p0]) ++ List.replicate (2 - (lg_sl ([.ref (L 106), .int p0])).length) Slot.unset).toArray = ls at hl ⊢
  have hl : lv_has ls 2 [(0, .ref (L 106)), (1, .int p0)] := hl
  have iX4 : ∀ w ∈ wsX40, w ∈ wsX4_noBoard := by decide +kernel
  have hn1 : (y 3 0 0 - 1).toInt = -1 := by rw [hy3]; decide
  refine lv_iload_n hx hb dX4_noBoard_0 rfl (lv_at hl 1 rfl) ?_
  refine lv_iconst (v := 0) hx hb dX4_noBoard_1 (by decide) ?_
  refine lv_aload_n hx hb dX4_noBoard_2 rfl (lv_at hl 0 rfl) ?_
  refine wx_get (D := g.1) (cl := vwCl) (ci := 6) (v := .int (y 3 0 0)) (C := RX4) (T := TX4) (N := 22) hx hb hts iX4 hown hK hP (106) (by omega) mw_o rfl 3 (by decide) (hts (.fieldLink RX4 67 "FerroDeskModel" "boards" "I") (by decide +kernel)) (fun _ h9 => h9) rfl dX4_noBoard_3 ?_
  refine lv_iconst (v := 1) hx hb dX4_noBoard_6 (by decide) ?_
  refine lv_isub hx hb dX4_noBoard_7 ?_
  refine wx_calli (va_runS (As := [.int p0, .int 0, .int ((y 3 0 0) - 1)]) (rest := []) ⟨hx, hb, hml, hown, hts⟩ (k_in l hst g base n L (mw g L y ch r0) p0 0 ((y 3 0 0) - 1)) (va_cwS 3 hts gX4_noBoard_X4_in rfl rfl rfl (by decide +kernel) ⟨Nat.le_of_ble_eq_true rfl, Nat.le_of_ble_eq_true rfl⟩) (hPW.preS hP hS) rfl rfl hl.1 rfl (lv_room (Nat.le_of_ble_eq_true rfl)) dX4_noBoard_8 ⟨Nat.le_of_ble_eq_true rfl, Nat.le_of_ble_eq_true rfl⟩) hS (fun r8 u8 H locs h8 hP hS => ?_)
  obtain rfl : r8 = 0 := by rcases h8 with ⟨-, a, b⟩ | ⟨a, -⟩; exact absurd (Int.le_trans a b) (by rw [hn1]; decide); exact a
  refine lv_if_ne (tgt := 18) hx hb dX4_noBoard_11 (by decide) (fun c11 => absurd c11 (by decide)) (fun c11 => ?_)
  refine lv_iconst (v := 1) hx hb dX4_noBoard_14 (by decide) ?_
  refine lv_goto (tgt := 19) hx hb dX4_noBoard_15 (by decide) ?_
  refine W.widen (k := 0) (n := 0) (Nat.le_of_ble_eq_true rfl) (Nat.le_of_ble_eq_true rfl) ?_
  exact W.zret (v := 1) hx hb hr (by decide) (fun t ht hW => ⟨⟨1, y, rfl, ⟨rfl, rfl⟩, PB.mk9 hP ht⟩, hS.F ht⟩) hS.2.2 dX4_noBoard_19

set_option maxHeartbeats 4000000 in
set_option maxRecDepth 100000 in
theorem k_noNotice (l : Launch) (hst : l.stackTraces = false) (g : gE) (base n : Nat) (L : Nat → Nat) (hn : 123 ≤ n) (y : St) (ch : Int64) (r0 : Nat → va_E) (hy4 : y 4 0 0 = nI 0) (p0 : Int32) : Met l yX4_noNotice wsX4_noNotice ({ frames := 1, cells := 0, slots := 0, locals := 30 }) (va_Pc [.ref (L 106), .int p0] (PW SS g base n L (mw g L y ch r0))) (va_Qi (fun (r : Int32) (u : St) => r = 1 ∧ u = y) (fun (u : St) t => PB g n L (mw g L u ch r0) t) (fun q => base ≤ q)) 0 0 (fun q => base ≤ q) := by
  refine Met.ofW (cc := cX4_noNotice) (maxL := 2) (ret := (some .boolean)) (by decide) rfl ?_
  intro p e s m args below meth c s₁ B hml hv
  obtain ⟨rfl, hPW⟩ := hv
  obtain ⟨hbs, hJ, hP, hK, hE⟩ := id hPW
  have hx := B.exec
  have hb := B.bytes
  have hr := B.returns
  have hts := atoms_spec (ws := wsX4_noNotice) B.pre
  have hown : s.vm.findClass RX4 = some m.cls := findClass_of_methodNamed B.named
  have hlocks := B.notSynchronized
  have hS : va_S (fun q : Nat => base ≤ q) s.heap s.heap [] := va_S.rf
  have hl := lv_entry ([.ref (L 106), .int p0]) (n := 2) (Nat.le_of_ble_eq_true rfl)
  rw [lg_entry_eq]
  generalize (lg_sl ([.ref (L 106), .int p0]) ++ List.replicate (2 - (lg_sl ([.ref (L 106), .int p0])).length) Slot.unset).toArray = ls at hl ⊢
  have hl : lv_has ls 2 [(0, .ref (L 106)), (1, .int p0)] := hl
  have iX4 : ∀ w ∈ wsX40, w ∈ wsX4_noNotice := by decide +kernel
  have hn1 : (y 4 0 0 - 1).toInt = -1 := by rw [hy4]; decide
  refine lv_iload_n hx hb dX4_noNotice_0 rfl (lv_at hl 1 rfl) ?_
  refine lv_iconst (v := 0) hx hb dX4_noNotice_1 (by decide) ?_
  refine lv_aload_n hx hb dX4_noNotice_2 rfl (lv_at hl 0 rfl) ?_
  refine wx_get (D := g.1) (cl := vwCl) (ci := 6) (v := .int (y 4 0 0)) (C := RX4) (T := TX4) (N := 22) hx hb hts iX4 hown hK hP (106) (by omega) mw_o rfl 4 (by decide) (hts (.fieldLink RX4 74 "FerroDeskModel" "notices" "I") (by decide +kernel)) (fun _ h9 => h9) rfl dX4_noNotice_3 ?_
  refine lv_iconst (v := 1) hx hb dX4_noNotice_6 (by decide) ?_
  refine lv_isub hx hb dX4_noNotice_7 ?_
  refine wx_calli (va_runS (As := [.int p0, .int 0, .int ((y 4 0 0) - 1)]) (rest := []) ⟨hx, hb, hml, hown, hts⟩ (k_in l hst g base n L (mw g L y ch r0) p0 0 ((y 4 0 0) - 1)) (va_cwS 3 hts gX4_noNotice_X4_in rfl rfl rfl (by decide +kernel) ⟨Nat.le_of_ble_eq_true rfl, Nat.le_of_ble_eq_true rfl⟩) (hPW.preS hP hS) rfl rfl hl.1 rfl (lv_room (Nat.le_of_ble_eq_true rfl)) dX4_noNotice_8 ⟨Nat.le_of_ble_eq_true rfl, Nat.le_of_ble_eq_true rfl⟩) hS (fun r8 u8 H locs h8 hP hS => ?_)
  obtain rfl : r8 = 0 := by rcases h8 with ⟨-, a, b⟩ | ⟨a, -⟩; exact absurd (Int.le_trans a b) (by rw [hn1]; decide); exact a
  refine lv_if_ne (tgt := 18) hx hb dX4_noNotice_11 (by decide) (fun c11 => absurd c11 (by decide)) (fun c11 => ?_)
  refine lv_iconst (v := 1) hx hb dX4_noNotice_14 (by decide) ?_
  refine lv_goto (tgt := 19) hx hb dX4_noNotice_15 (by decide) ?_
  refine W.widen (k := 0) (n := 0) (Nat.le_of_ble_eq_true rfl) (Nat.le_of_ble_eq_true rfl) ?_
  exact W.zret (v := 1) hx hb hr (by decide) (fun t ht hW => ⟨⟨1, y, rfl, ⟨rfl, rfl⟩, PB.mk9 hP ht⟩, hS.F ht⟩) hS.2.2 dX4_noNotice_19

set_option maxHeartbeats 4000000 in
set_option maxRecDepth 100000 in
theorem k_noCell (l : Launch) (hst : l.stackTraces = false) (g : gE) (base n : Nat) (L : Nat → Nat) (hn : 123 ≤ n) (y : St) (ch : Int64) (r0 : Nat → va_E) (hy3 : y 3 0 0 = nI 0) (p0 p1 p2 : Int32) : Met l yX4_noCell wsX4_noCell ({ frames := 2, cells := 0, slots := 0, locals := 60 }) (va_Pc [.ref (L 106), .int p0, .int p1, .int p2] (PW SS g base n L (mw g L y ch r0))) (va_Qi (fun (r : Int32) (u : St) => r = 1 ∧ u = y) (fun (u : St) t => PB g n L (mw g L u ch r0) t) (fun q => base ≤ q)) 0 0 (fun q => base ≤ q) := by
  refine Met.ofW (cc := cX4_noCell) (maxL := 4) (ret := (some .boolean)) (by decide) rfl ?_
  intro p e s m args below meth c s₁ B hml hv
  obtain ⟨rfl, hPW⟩ := hv
  obtain ⟨hbs, hJ, hP, hK, hE⟩ := id hPW
  have hx := B.exec
  have hb := B.bytes
  have hr := B.returns
  have hts := atoms_spec (ws := wsX4_noCell) B.pre
  have hown : s.vm.findClass RX4 = some m.cls := findClass_of_methodNamed B.named
  have hlocks := B.notSynchronized
  have hS : va_S (fun q : Nat => base ≤ q) s.heap s.heap [] := va_S.rf
  have hl := lv_entry ([.ref (L 106), .int p0, .int p1, .int p2]) (n := 4) (Nat.le_of_ble_eq_true rfl)
  rw [lg_entry_eq]
  generalize (lg_sl ([.ref (L 106), .int p0, .int p1, .int p2]) ++ List.replicate (4 - (lg_sl ([.ref (L 106), .int p0, .int p1, .int p2])).length) Slot.unset).toArray = ls at hl ⊢
  have hl : lv_has ls 4 [(0, .ref (L 106)), (1, .int p0), (2, .int p1), (3, .int p2)] := hl
  refine lv_aload_n hx hb dX4_noCell_0 rfl (lv_at hl 0 rfl) ?_
  refine lv_iload_n hx hb dX4_noCell_1 rfl (lv_at hl 1 rfl) ?_
  refine wx_calli (va_runV (As := [.int p0]) (rest := []) ⟨hx, hb, hml, hown, hts⟩ (k_noBoard l hst g base n L (by omega) y ch r0 hy3 p0) (cwV 1 hts gX4_noCell_X4_noBoard rfl rfl rfl (by decide +kernel) ⟨Nat.le_of_ble_eq_true rfl, Nat.le_of_ble_eq_true rfl⟩) (hPW.preV hP hS (ci := 6) rfl (by omega) mw_o) rfl rfl hl.1 rfl (lv_room (Nat.le_of_ble_eq_true rfl)) dX4_noCell_2 ⟨Nat.le_of_ble_eq_true rfl, Nat.le_of_ble_eq_true rfl⟩) hS (fun r2 u2 H locs h2 hP hS => ?_)
  obtain ⟨rfl, e9⟩ := h2
  have e9 := e9.symm
  subst e9
  refine lv_if_ne (tgt := 27) hx hb dX4_noCell_5 (by decide) (fun c5 => ?_) (fun c5 => absurd c5 (by decide))
  refine lv_iconst (v := 1) hx hb dX4_noCell_27 (by decide) ?_
  refine lv_goto (tgt := 32) hx hb dX4_noCell_28 (by decide) ?_
  refine W.widen (k := 0) (n := 0) (Nat.le_of_ble_eq_true rfl) (Nat.le_of_ble_eq_true rfl) ?_
  exact W.zret (v := 1) hx hb hr (by decide) (fun t ht hW => ⟨⟨1, y, rfl, ⟨rfl, rfl⟩, PB.mk9 hP ht⟩, hS.F ht⟩) hS.2.2 dX4_noCell_32

set_option maxHeartbeats 4000000 in
set_option maxRecDepth 100000 in
theorem k_manyQueued (l : Launch) (hst : l.stackTraces = false) (g : gE) (base n : Nat) (L : Nat → Nat) (hn : 123 ≤ n) (y : St) (ch : Int64) (r0 : Nat → va_E) (hy4 : y 4 0 0 = nI 0) (p0 : Int32) : Met l yX4_manyQueued wsX4_manyQueued ({ frames := 3, cells := 0, slots := 0, locals := 90 }) (va_Pc [.ref (L 106), .int p0] (PW SS g base n L (mw g L y ch r0))) (va_Qi (fun (r : Int32) (u : St) => r = 0 ∧ u = y) (fun (u : St) t => PB g n L (mw g L u ch r0) t) (fun q => base ≤ q)) 0 0 (fun q => base ≤ q) := by
  refine Met.ofW (cc := cX4_manyQueued) (maxL := 4) (ret := (some .int)) (by decide) rfl ?_
  intro p e s m args below meth c s₁ B hml hv
  obtain ⟨rfl, hPW⟩ := hv
  obtain ⟨hbs, hJ, hP, hK, hE⟩ := id hPW
  have hx := B.exec
  have hb := B.bytes
  have hr := B.returns
  have hts := atoms_spec (ws := wsX4_manyQueued) B.pre
  have hown : s.vm.findClass RX4 = some m.cls := findClass_of_methodNamed B.named
  have hlocks := B.notSynchronized
  have hS : va_S (fun q : Nat => base ≤ q) s.heap s.heap [] := va_S.rf
  have hl := lv_entry ([.ref (L 106), .int p0]) (n := 4) (Nat.le_of_ble_eq_true rfl)
  rw [lg_entry_eq]
  generalize (lg_sl ([.ref (L 106), .int p0]) ++ List.replicate (4 - (lg_sl ([.ref (L 106), .int p0])).length) Slot.unset).toArray = ls at hl ⊢
  have hl : lv_has ls 4 [(0, .ref (L 106)), (1, .int p0)] := hl
  have iX4 : ∀ w ∈ wsX40, w ∈ wsX4_manyQueued := by decide +kernel
  refine lv_iconst (v := 0) hx hb dX4_manyQueued_0 (by decide) ?_
  refine lv_istore_n (lv' := [(2, .int 0), (0, .ref (L 106)), (1, .int p0)]) hx hb dX4_manyQueued_1 rfl hl (by decide) rfl (fun ls hl => ?_)
  refine lv_iconst (v := 0) hx hb dX4_manyQueued_2 (by decide) ?_
  refine lv_istore_n (lv' := [(3, .int 0), (2, .int 0), (0, .ref (L 106)), (1, .int p0)]) hx hb dX4_manyQueued_3 rfl hl (by decide) rfl (fun ls hl => ?_)
  refine lv_iload_n hx hb dX4_manyQueued_4 rfl (lv_at hl 0 rfl) ?_
  refine lv_aload_n hx hb dX4_manyQueued_5 rfl (lv_at hl 2 rfl) ?_
  refine wx_get (D := g.1) (cl := vwCl) (ci := 6) (v := .int (y 4 0 0)) (C := RX4) (T := TX4) (N := 22) hx hb hts iX4 hown hK hP (106) (by omega) mw_o rfl 4 (by decide) (hts (.fieldLink RX4 74 "FerroDeskModel" "notices" "I") (by decide +kernel)) (fun _ h9 => h9) rfl dX4_manyQueued_6 ?_
  refine lv_icmp_ge (tgt := 35) hx hb dX4_manyQueued_9 (by decide) (fun c9 => ?_) (fun c9 => absurd (by rw [hy4]; decide) c9)
  refine lv_iload_n hx hb dX4_manyQueued_35 rfl (lv_at hl 1 rfl) ?_
  refine W.widen (k := 0) (n := 0) (Nat.le_of_ble_eq_true rfl) (Nat.le_of_ble_eq_true rfl) ?_
  exact W.iret (v := 0) hx hb hr (fun t ht hW => ⟨⟨0, y, rfl, ⟨rfl, rfl⟩, PB.mk9 hP ht⟩, hS.F ht⟩) hS.2.2 dX4_manyQueued_36

set_option maxHeartbeats 4000000 in
set_option maxRecDepth 100000 in
theorem k_manySuspects (l : Launch) (hst : l.stackTraces = false) (g : gE) (base n : Nat) (L : Nat → Nat) (hn : 123 ≤ n) (y : St) (ch : Int64) (r0 : Nat → va_E) (hy4 : y 4 0 0 = nI 0) (p0 p1 : Int32) : Met l yX4_manySuspects wsX4_manySuspects ({ frames := 3, cells := 0, slots := 0, locals := 90 }) (va_Pc [.ref (L 106), .int p0, .int p1] (PW SS g base n L (mw g L y ch r0))) (va_Qi (fun (r : Int32) (u : St) => r = 0 ∧ u = y) (fun (u : St) t => PB g n L (mw g L u ch r0) t) (fun q => base ≤ q)) 0 0 (fun q => base ≤ q) := by
  refine Met.ofW (cc := cX4_manySuspects) (maxL := 5) (ret := (some .int)) (by decide) rfl ?_
  intro p e s m args below meth c s₁ B hml hv
  obtain ⟨rfl, hPW⟩ := hv
  obtain ⟨hbs, hJ, hP, hK, hE⟩ := id hPW
  have hx := B.exec
  have hb := B.bytes
  have hr := B.returns
  have hts := atoms_spec (ws := wsX4_manySuspects) B.pre
  have hown : s.vm.findClass RX4 = some m.cls := findClass_of_methodNamed B.named
  have hlocks := B.notSynchronized
  have hS : va_S (fun q : Nat => base ≤ q) s.heap s.heap [] := va_S.rf
  have hl := lv_entry ([.ref (L 106), .int p0, .int p1]) (n := 5) (Nat.le_of_ble_eq_true rfl)
  rw [lg_entry_eq]
  generalize (lg_sl ([.ref (L 106), .int p0, .int p1]) ++ List.replicate (5 - (lg_sl ([.ref (L 106), .int p0, .int p1])).length) Slot.unset).toArray = ls at hl ⊢
  have hl : lv_has ls 5 [(0, .ref (L 106)), (1, .int p0), (2, .int p1)] := hl
  have iX4 : ∀ w ∈ wsX40, w ∈ wsX4_manySuspects := by decide +kernel
  refine lv_iconst (v := 0) hx hb dX4_manySuspects_0 (by decide) ?_
  refine lv_istore_n (lv' := [(3, .int 0), (0, .ref (L 106)), (1, .int p0), (2, .int p1)]) hx hb dX4_manySuspects_1 rfl hl (by decide) rfl (fun ls hl => ?_)
  refine lv_iconst (v := 0) hx hb dX4_manySuspects_2 (by decide) ?_
  refine lv_istore (lv' := [(4, .int 0), (3, .int 0), (0, .ref (L 106)), (1, .int p0), (2, .int p1)]) hx hb dX4_manySuspects_3 hl (by decide) rfl (fun ls hl => ?_)
  refine lv_iload hx hb dX4_manySuspects_5 (lv_at hl 0 rfl) ?_
  refine lv_aload_n hx hb dX4_manySuspects_7 rfl (lv_at hl 2 rfl) ?_
  refine wx_get (D := g.1) (cl := vwCl) (ci := 6) (v := .int (y 4 0 0)) (C := RX4) (T := TX4) (N := 22) hx hb hts iX4 hown hK hP (106) (by omega) mw_o rfl 4 (by decide) (hts (.fieldLink RX4 74 "FerroDeskModel" "notices" "I") (by decide +kernel)) (fun _ h9 => h9) rfl dX4_manySuspects_8 ?_
  refine lv_icmp_ge (tgt := 39) hx hb dX4_manySuspects_11 (by decide) (fun c11 => ?_) (fun c11 => absurd (by rw [hy4]; decide) c11)
  refine lv_iload_n hx hb dX4_manySuspects_39 rfl (lv_at hl 1 rfl) ?_
  refine W.widen (k := 0) (n := 0) (Nat.le_of_ble_eq_true rfl) (Nat.le_of_ble_eq_true rfl) ?_
  exact W.iret (v := 0) hx hb hr (fun t ht hW => ⟨⟨0, y, rfl, ⟨rfl, rfl⟩, PB.mk9 hP ht⟩, hS.F ht⟩) hS.2.2 dX4_manySuspects_40

set_option maxHeartbeats 4000000 in
set_option maxRecDepth 100000 in
theorem k_add (l : Launch) (hst : l.stackTraces = false) (g : gE) (base n : Nat) (L : Nat → Nat) (hn : 123 ≤ n) (y : St) (ch : Int64) (r0 : Nat → va_E) (hy4 : y 4 0 0 = nI 0) (p0 p1 p2 p3 : Int32) : Met l yX4_add wsX4_add ({ frames := 0, cells := 0, slots := 0, locals := 0 }) (va_Pc [.ref (L 106), .int p0, .int p1, .int p2, .int p3] (PW SS g base n L (mw g L y ch r0))) (va_Qi (fun (r : Int32) (u : St) => r = 0 ∧ u 0 0 0 = y 0 0 0) (fun (u : St) t => PB g n L (mw g L u ch r0) t) (fun q => base ≤ q)) 0 0 (fun q => base ≤ q) := by
  refine Met.ofW (cc := cX4_add) (maxL := 5) (ret := (some .int)) (by decide) rfl ?_
  intro p e s m args below meth c s₁ B hml hv
  obtain ⟨rfl, hPW⟩ := hv
  obtain ⟨hbs, hJ, hP, hK, hE⟩ := id hPW
  have hx := B.exec
  have hb := B.bytes
  have hr := B.returns
  have hts := atoms_spec (ws := wsX4_add) B.pre
  have hown : s.vm.findClass RX4 = some m.cls := findClass_of_methodNamed B.named
  have hlocks := B.notSynchronized
  have hS : va_S (fun q : Nat => base ≤ q) s.heap s.heap [] := va_S.rf
  have hl := lv_entry ([.ref (L 106), .int p0, .int p1, .int p2, .int p3]) (n := 5) (Nat.le_of_ble_eq_true rfl)
  rw [lg_entry_eq]
  generalize (lg_sl ([.ref (L 106), .int p0, .int p1, .int p2, .int p3]) ++ List.replicate (5 - (lg_sl ([.ref (L 106), .int p0, .int p1, .int p2, .int p3])).length) Slot.unset).toArray = ls at hl ⊢
  have hl : lv_has ls 5 [(0, .ref (L 106)), (1, .int p0), (2, .int p1), (3, .int p2), (4, .int p3)] := hl
  have iX4 : ∀ w ∈ wsX40, w ∈ wsX4_add := by decide +kernel
  refine lv_aload_n hx hb dX4_add_0 rfl (lv_at hl 0 rfl) ?_
  refine wx_get (D := g.1) (cl := vwCl) (ci := 6) (v := .ref (L 114)) (C := RX4) (T := TX4) (N := 22) hx hb hts iX4 hown hK hP (106) (by omega) mw_o rfl 13 (by decide) (hts (.fieldLink RX4 36 "FerroDeskModel" "rank" "[I") (by decide +kernel)) (fun _ h9 => h9) rfl dX4_add_1 ?_
  refine lv_aload_n hx hb dX4_add_4 rfl (lv_at hl 0 rfl) ?_
  refine wx_get (D := g.1) (cl := vwCl) (ci := 6) (v := .int (y 4 0 0)) (C := RX4) (T := TX4) (N := 22) hx hb hts iX4 hown hK hP (106) (by omega) mw_o rfl 4 (by decide) (hts (.fieldLink RX4 74 "FerroDeskModel" "notices" "I") (by decide +kernel)) (fun _ h9 => h9) rfl dX4_add_5 ?_
  refine lv_iload_n hx hb dX4_add_8 rfl (lv_at hl 1 rfl) ?_
  refine wx_iast (D := g.1) (cl := vwCl) (f := fun j => y 17 0 j) (w' := mw g L (st y 17 0 ((y 4 0 0).toNatClampNeg) p0) ch r0) hx hb hK hP hJ hS (114) 0 (by omega) (mw_a (by decide) (by decide)) rfl (i := y 4 0 0) (by show vp_in ((st y 17 0 ((y 4 0 0).toNatClampNeg) p0) 4 0 0) _; simp only [st]; rw [hy4]; exact vp_in_nI (n := 0) (by decide) (by decide)) dX4_add_9 (mw_st (r := 17) rfl (by decide) (by decide) rfl rfl rfl) (fun H locs hP hS => ?_)
  refine lv_aload_n hx hb dX4_add_10 rfl (lv_at hl 0 rfl) ?_
  refine wx_get (D := g.1) (cl := vwCl) (ci := 6) (v := .ref (L 115)) (C := RX4) (T := TX4) (N := 22) hx hb hts iX4 hown hK hP (106) (by omega) mw_o rfl 14 (by decide) (hts (.fieldLink RX4 39 "FerroDeskModel" "picture" "[I") (by decide +kernel)) (fun _ h9 => h9) rfl dX4_add_11 ?_
  refine lv_aload_n hx hb dX4_add_14 rfl (lv_at hl 0 rfl) ?_
  refine wx_get (D := g.1) (cl := vwCl) (ci := 6) (v := .int ((st y 17 0 ((y 4 0 0).toNatClampNeg) p0) 4 0 0)) (C := RX4) (T := TX4) (N := 22) hx hb hts iX4 hown hK hP (106) (by omega) mw_o rfl 4 (by decide) (hts (.fieldLink RX4 74 "FerroDeskModel" "notices" "I") (by decide +kernel)) (fun _ h9 => h9) rfl dX4_add_15 ?_
  refine lv_iload_n hx hb dX4_add_18 rfl (lv_at hl 2 rfl) ?_
  refine wx_iast (D := g.1) (cl := vwCl) (f := fun j => (st y 17 0 ((y 4 0 0).toNatClampNeg) p0) 18 0 j) (w' := mw g L (st (st y 17 0 ((y 4 0 0).toNatClampNeg) p0) 18 0 (((st y 17 0 ((y 4 0 0).toNatClampNeg) p0) 4 0 0).toNatClampNeg) p1) ch r0) hx hb hK hP hJ hS (115) 0 (by omega) (mw_a (by decide) (by decide)) rfl (i := (st y 17 0 ((y 4 0 0).toNatClampNeg) p0) 4 0 0) (by show vp_in ((st (st y 17 0 ((y 4 0 0).toNatClampNeg) p0) 18 0 (((st y 17 0 ((y 4 0 0).toNatClampNeg) p0) 4 0 0).toNatClampNeg) p1) 4 0 0) _; simp only [st]; rw [hy4]; exact vp_in_nI (n := 0) (by decide) (by decide)) dX4_add_19 (mw_st (r := 18) rfl (by decide) (by decide) rfl rfl rfl) (fun H locs hP hS => ?_)
  refine lv_aload_n hx hb dX4_add_20 rfl (lv_at hl 0 rfl) ?_
  refine wx_get (D := g.1) (cl := vwCl) (ci := 6) (v := .ref (L 116)) (C := RX4) (T := TX4) (N := 22) hx hb hts iX4 hown hK hP (106) (by omega) mw_o rfl 15 (by decide) (hts (.fieldLink RX4 42 "FerroDeskModel" "from" "[I") (by decide +kernel)) (fun _ h9 => h9) rfl dX4_add_21 ?_
  refine lv_aload_n hx hb dX4_add_24 rfl (lv_at hl 0 rfl) ?_
  refine wx_get (D := g.1) (cl := vwCl) (ci := 6) (v := .int ((st (st y 17 0 ((y 4 0 0).toNatClampNeg) p0) 18 0 (((st y 17 0 ((y 4 0 0).toNatClampNeg) p0) 4 0 0).toNatClampNeg) p1) 4 0 0)) (C := RX4) (T := TX4) (N := 22) hx hb hts iX4 hown hK hP (106) (by omega) mw_o rfl 4 (by decide) (hts (.fieldLink RX4 74 "FerroDeskModel" "notices" "I") (by decide +kernel)) (fun _ h9 => h9) rfl dX4_add_25 ?_
  refine lv_iload_n hx hb dX4_add_28 rfl (lv_at hl 3 rfl) ?_
  refine wx_iast (D := g.1) (cl := vwCl) (f := fun j => (st (st y 17 0 ((y 4 0 0).toNatClampNeg) p0) 18 0 (((st y 17 0 ((y 4 0 0).toNatClampNeg) p0) 4 0 0).toNatClampNeg) p1) 19 0 j) (w' := mw g L (st (st (st y 17 0 ((y 4 0 0).toNatClampNeg) p0) 18 0 (((st y 17 0 ((y 4 0 0).toNatClampNeg) p0) 4 0 0).toNatClampNeg) p1) 19 0 (((st (st y 17 0 ((y 4 0 0).toNatClampNeg) p0) 18 0 (((st y 17 0 ((y 4 0 0).toNatClampNeg) p0) 4 0 0).toNatClampNeg) p1) 4 0 0).toNatClampNeg) p2) ch r0) hx hb hK hP hJ hS (116) 0 (by omega) (mw_a (by decide) (by decide)) rfl (i := (st (st y 17 0 ((y 4 0 0).toNatClampNeg) p0) 18 0 (((st y 17 0 ((y 4 0 0).toNatClampNeg) p0) 4 0 0).toNatClampNeg) p1) 4 0 0) (by show vp_in ((st (st (st y 17 0 ((y 4 0 0).toNatClampNeg) p0) 18 0 (((st y 17 0 ((y 4 0 0).toNatClampNeg) p0) 4 0 0).toNatClampNeg) p1) 19 0 (((st (st y 17 0 ((y 4 0 0).toNatClampNeg) p0) 18 0 (((st y 17 0 ((y 4 0 0).toNatClampNeg) p0) 4 0 0).toNatClampNeg) p1) 4 0 0).toNatClampNeg) p2) 4 0 0) _; simp only [st]; rw [hy4]; exact vp_in_nI (n := 0) (by decide) (by decide)) dX4_add_29 (mw_st (r := 19) rfl (by decide) (by decide) rfl rfl rfl) (fun H locs hP hS => ?_)
  refine lv_aload_n hx hb dX4_add_30 rfl (lv_at hl 0 rfl) ?_
  refine wx_get (D := g.1) (cl := vwCl) (ci := 6) (v := .ref (L 117)) (C := RX4) (T := TX4) (N := 22) hx hb hts iX4 hown hK hP (106) (by omega) mw_o rfl 16 (by decide) (hts (.fieldLink RX4 45 "FerroDeskModel" "till" "[I") (by decide +kernel)) (fun _ h9 => h9) rfl dX4_add_31 ?_
  refine lv_aload_n hx hb dX4_add_34 rfl (lv_at hl 0 rfl) ?_
  refine wx_get (D := g.1) (cl := vwCl) (ci := 6) (v := .int ((st (st (st y 17 0 ((y 4 0 0).toNatClampNeg) p0) 18 0 (((st y 17 0 ((y 4 0 0).toNatClampNeg) p0) 4 0 0).toNatClampNeg) p1) 19 0 (((st (st y 17 0 ((y 4 0 0).toNatClampNeg) p0) 18 0 (((st y 17 0 ((y 4 0 0).toNatClampNeg) p0) 4 0 0).toNatClampNeg) p1) 4 0 0).toNatClampNeg) p2) 4 0 0)) (C := RX4) (T := TX4) (N := 22) hx hb hts iX4 hown hK hP (106) (by omega) mw_o rfl 4 (by decide) (hts (.fieldLink RX4 74 "FerroDeskModel" "notices" "I") (by decide +kernel)) (fun _ h9 => h9) rfl dX4_add_35 ?_
  refine lv_iload hx hb dX4_add_38 (lv_at hl 4 rfl) ?_
  refine wx_iast (D := g.1) (cl := vwCl) (f := fun j => (st (st (st y 17 0 ((y 4 0 0).toNatClampNeg) p0) 18 0 (((st y 17 0 ((y 4 0 0).toNatClampNeg) p0) 4 0 0).toNatClampNeg) p1) 19 0 (((st (st y 17 0 ((y 4 0 0).toNatClampNeg) p0) 18 0 (((st y 17 0 ((y 4 0 0).toNatClampNeg) p0) 4 0 0).toNatClampNeg) p1) 4 0 0).toNatClampNeg) p2) 20 0 j) (w' := mw g L (st (st (st (st y 17 0 ((y 4 0 0).toNatClampNeg) p0) 18 0 (((st y 17 0 ((y 4 0 0).toNatClampNeg) p0) 4 0 0).toNatClampNeg) p1) 19 0 (((st (st y 17 0 ((y 4 0 0).toNatClampNeg) p0) 18 0 (((st y 17 0 ((y 4 0 0).toNatClampNeg) p0) 4 0 0).toNatClampNeg) p1) 4 0 0).toNatClampNeg) p2) 20 0 (((st (st (st y 17 0 ((y 4 0 0).toNatClampNeg) p0) 18 0 (((st y 17 0 ((y 4 0 0).toNatClampNeg) p0) 4 0 0).toNatClampNeg) p1) 19 0 (((st (st y 17 0 ((y 4 0 0).toNatClampNeg) p0) 18 0 (((st y 17 0 ((y 4 0 0).toNatClampNeg) p0) 4 0 0).toNatClampNeg) p1) 4 0 0).toNatClampNeg) p2) 4 0 0).toNatClampNeg) p3) ch r0) hx hb hK hP hJ hS (117) 0 (by omega) (mw_a (by decide) (by decide)) rfl (i := (st (st (st y 17 0 ((y 4 0 0).toNatClampNeg) p0) 18 0 (((st y 17 0 ((y 4 0 0).toNatClampNeg) p0) 4 0 0).toNatClampNeg) p1) 19 0 (((st (st y 17 0 ((y 4 0 0).toNatClampNeg) p0) 18 0 (((st y 17 0 ((y 4 0 0).toNatClampNeg) p0) 4 0 0).toNatClampNeg) p1) 4 0 0).toNatClampNeg) p2) 4 0 0) (by show vp_in ((st (st (st (st y 17 0 ((y 4 0 0).toNatClampNeg) p0) 18 0 (((st y 17 0 ((y 4 0 0).toNatClampNeg) p0) 4 0 0).toNatClampNeg) p1) 19 0 (((st (st y 17 0 ((y 4 0 0).toNatClampNeg) p0) 18 0 (((st y 17 0 ((y 4 0 0).toNatClampNeg) p0) 4 0 0).toNatClampNeg) p1) 4 0 0).toNatClampNeg) p2) 20 0 (((st (st (st y 17 0 ((y 4 0 0).toNatClampNeg) p0) 18 0 (((st y 17 0 ((y 4 0 0).toNatClampNeg) p0) 4 0 0).toNatClampNeg) p1) 19 0 (((st (st y 17 0 ((y 4 0 0).toNatClampNeg) p0) 18 0 (((st y 17 0 ((y 4 0 0).toNatClampNeg) p0) 4 0 0).toNatClampNeg) p1) 4 0 0).toNatClampNeg) p2) 4 0 0).toNatClampNeg) p3) 4 0 0) _; simp only [st]; rw [hy4]; exact vp_in_nI (n := 0) (by decide) (by decide)) dX4_add_40 (mw_st (r := 20) rfl (by decide) (by decide) rfl rfl rfl) (fun H locs hP hS => ?_)
  refine lv_aload_n hx hb dX4_add_41 rfl (lv_at hl 0 rfl) ?_
  refine lv_dup hx hb dX4_add_42 rfl ?_
  refine wx_get (D := g.1) (cl := vwCl) (ci := 6) (v := .int ((st (st (st (st y 17 0 ((y 4 0 0).toNatClampNeg) p0) 18 0 (((st y 17 0 ((y 4 0 0).toNatClampNeg) p0) 4 0 0).toNatClampNeg) p1) 19 0 (((st (st y 17 0 ((y 4 0 0).toNatClampNeg) p0) 18 0 (((st y 17 0 ((y 4 0 0).toNatClampNeg) p0) 4 0 0).toNatClampNeg) p1) 4 0 0).toNatClampNeg) p2) 20 0 (((st (st (st y 17 0 ((y 4 0 0).toNatClampNeg) p0) 18 0 (((st y 17 0 ((y 4 0 0).toNatClampNeg) p0) 4 0 0).toNatClampNeg) p1) 19 0 (((st (st y 17 0 ((y 4 0 0).toNatClampNeg) p0) 18 0 (((st y 17 0 ((y 4 0 0).toNatClampNeg) p0) 4 0 0).toNatClampNeg) p1) 4 0 0).toNatClampNeg) p2) 4 0 0).toNatClampNeg) p3) 4 0 0)) (C := RX4) (T := TX4) (N := 22) hx hb hts iX4 hown hK hP (106) (by omega) mw_o rfl 4 (by decide) (hts (.fieldLink RX4 74 "FerroDeskModel" "notices" "I") (by decide +kernel)) (fun _ h9 => h9) rfl dX4_add_43 ?_
  refine lv_iconst (v := 1) hx hb dX4_add_46 (by decide) ?_
  refine lv_iadd hx hb dX4_add_47 ?_
  refine wx_put (D := g.1) (cl := vwCl) (ci := 6) (v := .int (((st (st (st (st y 17 0 ((y 4 0 0).toNatClampNeg) p0) 18 0 (((st y 17 0 ((y 4 0 0).toNatClampNeg) p0) 4 0 0).toNatClampNeg) p1) 19 0 (((st (st y 17 0 ((y 4 0 0).toNatClampNeg) p0) 18 0 (((st y 17 0 ((y 4 0 0).toNatClampNeg) p0) 4 0 0).toNatClampNeg) p1) 4 0 0).toNatClampNeg) p2) 20 0 (((st (st (st y 17 0 ((y 4 0 0).toNatClampNeg) p0) 18 0 (((st y 17 0 ((y 4 0 0).toNatClampNeg) p0) 4 0 0).toNatClampNeg) p1) 19 0 (((st (st y 17 0 ((y 4 0 0).toNatClampNeg) p0) 18 0 (((st y 17 0 ((y 4 0 0).toNatClampNeg) p0) 4 0 0).toNatClampNeg) p1) 4 0 0).toNatClampNeg) p2) 4 0 0).toNatClampNeg) p3) 4 0 0) + 1)) (ty := .int) (w' := mw g L (st (st (st (st (st y 17 0 ((y 4 0 0).toNatClampNeg) p0) 18 0 (((st y 17 0 ((y 4 0 0).toNatClampNeg) p0) 4 0 0).toNatClampNeg) p1) 19 0 (((st (st y 17 0 ((y 4 0 0).toNatClampNeg) p0) 18 0 (((st y 17 0 ((y 4 0 0).toNatClampNeg) p0) 4 0 0).toNatClampNeg) p1) 4 0 0).toNatClampNeg) p2) 20 0 (((st (st (st y 17 0 ((y 4 0 0).toNatClampNeg) p0) 18 0 (((st y 17 0 ((y 4 0 0).toNatClampNeg) p0) 4 0 0).toNatClampNeg) p1) 19 0 (((st (st y 17 0 ((y 4 0 0).toNatClampNeg) p0) 18 0 (((st y 17 0 ((y 4 0 0).toNatClampNeg) p0) 4 0 0).toNatClampNeg) p1) 4 0 0).toNatClampNeg) p2) 4 0 0).toNatClampNeg) p3) 4 0 0 (((st (st (st (st y 17 0 ((y 4 0 0).toNatClampNeg) p0) 18 0 (((st y 17 0 ((y 4 0 0).toNatClampNeg) p0) 4 0 0).toNatClampNeg) p1) 19 0 (((st (st y 17 0 ((y 4 0 0).toNatClampNeg) p0) 18 0 (((st y 17 0 ((y 4 0 0).toNatClampNeg) p0) 4 0 0).toNatClampNeg) p1) 4 0 0).toNatClampNeg) p2) 20 0 (((st (st (st y 17 0 ((y 4 0 0).toNatClampNeg) p0) 18 0 (((st y 17 0 ((y 4 0 0).toNatClampNeg) p0) 4 0 0).toNatClampNeg) p1) 19 0 (((st (st y 17 0 ((y 4 0 0).toNatClampNeg) p0) 18 0 (((st y 17 0 ((y 4 0 0).toNatClampNeg) p0) 4 0 0).toNatClampNeg) p1) 4 0 0).toNatClampNeg) p2) 4 0 0).toNatClampNeg) p3) 4 0 0) + 1)) ch r0) (C := RX4) (T := TX4) (N := 22) hx hb hts iX4 tyX4 tyX4_ok nmX4 hown hK hP hJ hS (106) (by omega) mw_o rfl 4 (by decide) (hts (.fieldLink RX4 74 "FerroDeskModel" "notices" "I") (by decide +kernel)) (fun _ h9 => h9) rfl (by decide +kernel) rfl rfl (Nat.le_of_ble_eq_true rfl) dX4_add_48 (mw_put (r := 4) (i := 0) (j := 0) rfl (by omega) (mk_o.trans (by simp [mF, st]))) (fun H locs hP hS => ?_)
  refine lv_aload_n hx hb dX4_add_51 rfl (lv_at hl 0 rfl) ?_
  refine wx_get (D := g.1) (cl := vwCl) (ci := 6) (v := .int ((st (st (st (st (st y 17 0 ((y 4 0 0).toNatClampNeg) p0) 18 0 (((st y 17 0 ((y 4 0 0).toNatClampNeg) p0) 4 0 0).toNatClampNeg) p1) 19 0 (((st (st y 17 0 ((y 4 0 0).toNatClampNeg) p0) 18 0 (((st y 17 0 ((y 4 0 0).toNatClampNeg) p0) 4 0 0).toNatClampNeg) p1) 4 0 0).toNatClampNeg) p2) 20 0 (((st (st (st y 17 0 ((y 4 0 0).toNatClampNeg) p0) 18 0 (((st y 17 0 ((y 4 0 0).toNatClampNeg) p0) 4 0 0).toNatClampNeg) p1) 19 0 (((st (st y 17 0 ((y 4 0 0).toNatClampNeg) p0) 18 0 (((st y 17 0 ((y 4 0 0).toNatClampNeg) p0) 4 0 0).toNatClampNeg) p1) 4 0 0).toNatClampNeg) p2) 4 0 0).toNatClampNeg) p3) 4 0 0 (((st (st (st (st y 17 0 ((y 4 0 0).toNatClampNeg) p0) 18 0 (((st y 17 0 ((y 4 0 0).toNatClampNeg) p0) 4 0 0).toNatClampNeg) p1) 19 0 (((st (st y 17 0 ((y 4 0 0).toNatClampNeg) p0) 18 0 (((st y 17 0 ((y 4 0 0).toNatClampNeg) p0) 4 0 0).toNatClampNeg) p1) 4 0 0).toNatClampNeg) p2) 20 0 (((st (st (st y 17 0 ((y 4 0 0).toNatClampNeg) p0) 18 0 (((st y 17 0 ((y 4 0 0).toNatClampNeg) p0) 4 0 0).toNatClampNeg) p1) 19 0 (((st (st y 17 0 ((y 4 0 0).toNatClampNeg) p0) 18 0 (((st y 17 0 ((y 4 0 0).toNatClampNeg) p0) 4 0 0).toNatClampNeg) p1) 4 0 0).toNatClampNeg) p2) 4 0 0).toNatClampNeg) p3) 4 0 0) + 1)) 4 0 0)) (C := RX4) (T := TX4) (N := 22) hx hb hts iX4 hown hK hP (106) (by omega) mw_o rfl 4 (by decide) (hts (.fieldLink RX4 74 "FerroDeskModel" "notices" "I") (by decide +kernel)) (fun _ h9 => h9) rfl dX4_add_52 ?_
  refine lv_iconst (v := 1) hx hb dX4_add_55 (by decide) ?_
  refine lv_isub hx hb dX4_add_56 ?_
  refine W.widen (k := 0) (n := 0) (Nat.le_of_ble_eq_true rfl) (Nat.le_of_ble_eq_true rfl) ?_
  exact W.iret (v := ((st (st (st (st (st y 17 0 ((y 4 0 0).toNatClampNeg) p0) 18 0 (((st y 17 0 ((y 4 0 0).toNatClampNeg) p0) 4 0 0).toNatClampNeg) p1) 19 0 (((st (st y 17 0 ((y 4 0 0).toNatClampNeg) p0) 18 0 (((st y 17 0 ((y 4 0 0).toNatClampNeg) p0) 4 0 0).toNatClampNeg) p1) 4 0 0).toNatClampNeg) p2) 20 0 (((st (st (st y 17 0 ((y 4 0 0).toNatClampNeg) p0) 18 0 (((st y 17 0 ((y 4 0 0).toNatClampNeg) p0) 4 0 0).toNatClampNeg) p1) 19 0 (((st (st y 17 0 ((y 4 0 0).toNatClampNeg) p0) 18 0 (((st y 17 0 ((y 4 0 0).toNatClampNeg) p0) 4 0 0).toNatClampNeg) p1) 4 0 0).toNatClampNeg) p2) 4 0 0).toNatClampNeg) p3) 4 0 0 (((st (st (st (st y 17 0 ((y 4 0 0).toNatClampNeg) p0) 18 0 (((st y 17 0 ((y 4 0 0).toNatClampNeg) p0) 4 0 0).toNatClampNeg) p1) 19 0 (((st (st y 17 0 ((y 4 0 0).toNatClampNeg) p0) 18 0 (((st y 17 0 ((y 4 0 0).toNatClampNeg) p0) 4 0 0).toNatClampNeg) p1) 4 0 0).toNatClampNeg) p2) 20 0 (((st (st (st y 17 0 ((y 4 0 0).toNatClampNeg) p0) 18 0 (((st y 17 0 ((y 4 0 0).toNatClampNeg) p0) 4 0 0).toNatClampNeg) p1) 19 0 (((st (st y 17 0 ((y 4 0 0).toNatClampNeg) p0) 18 0 (((st y 17 0 ((y 4 0 0).toNatClampNeg) p0) 4 0 0).toNatClampNeg) p1) 4 0 0).toNatClampNeg) p2) 4 0 0).toNatClampNeg) p3) 4 0 0) + 1)) 4 0 0) - 1) hx hb hr (fun t ht hW => ⟨⟨((st (st (st (st (st y 17 0 ((y 4 0 0).toNatClampNeg) p0) 18 0 (((st y 17 0 ((y 4 0 0).toNatClampNeg) p0) 4 0 0).toNatClampNeg) p1) 19 0 (((st (st y 17 0 ((y 4 0 0).toNatClampNeg) p0) 18 0 (((st y 17 0 ((y 4 0 0).toNatClampNeg) p0) 4 0 0).toNatClampNeg) p1) 4 0 0).toNatClampNeg) p2) 20 0 (((st (st (st y 17 0 ((y 4 0 0).toNatClampNeg) p0) 18 0 (((st y 17 0 ((y 4 0 0).toNatClampNeg) p0) 4 0 0).toNatClampNeg) p1) 19 0 (((st (st y 17 0 ((y 4 0 0).toNatClampNeg) p0) 18 0 (((st y 17 0 ((y 4 0 0).toNatClampNeg) p0) 4 0 0).toNatClampNeg) p1) 4 0 0).toNatClampNeg) p2) 4 0 0).toNatClampNeg) p3) 4 0 0 (((st (st (st (st y 17 0 ((y 4 0 0).toNatClampNeg) p0) 18 0 (((st y 17 0 ((y 4 0 0).toNatClampNeg) p0) 4 0 0).toNatClampNeg) p1) 19 0 (((st (st y 17 0 ((y 4 0 0).toNatClampNeg) p0) 18 0 (((st y 17 0 ((y 4 0 0).toNatClampNeg) p0) 4 0 0).toNatClampNeg) p1) 4 0 0).toNatClampNeg) p2) 20 0 (((st (st (st y 17 0 ((y 4 0 0).toNatClampNeg) p0) 18 0 (((st y 17 0 ((y 4 0 0).toNatClampNeg) p0) 4 0 0).toNatClampNeg) p1) 19 0 (((st (st y 17 0 ((y 4 0 0).toNatClampNeg) p0) 18 0 (((st y 17 0 ((y 4 0 0).toNatClampNeg) p0) 4 0 0).toNatClampNeg) p1) 4 0 0).toNatClampNeg) p2) 4 0 0).toNatClampNeg) p3) 4 0 0) + 1)) 4 0 0) - 1, (st (st (st (st (st y 17 0 ((y 4 0 0).toNatClampNeg) p0) 18 0 (((st y 17 0 ((y 4 0 0).toNatClampNeg) p0) 4 0 0).toNatClampNeg) p1) 19 0 (((st (st y 17 0 ((y 4 0 0).toNatClampNeg) p0) 18 0 (((st y 17 0 ((y 4 0 0).toNatClampNeg) p0) 4 0 0).toNatClampNeg) p1) 4 0 0).toNatClampNeg) p2) 20 0 (((st (st (st y 17 0 ((y 4 0 0).toNatClampNeg) p0) 18 0 (((st y 17 0 ((y 4 0 0).toNatClampNeg) p0) 4 0 0).toNatClampNeg) p1) 19 0 (((st (st y 17 0 ((y 4 0 0).toNatClampNeg) p0) 18 0 (((st y 17 0 ((y 4 0 0).toNatClampNeg) p0) 4 0 0).toNatClampNeg) p1) 4 0 0).toNatClampNeg) p2) 4 0 0).toNatClampNeg) p3) 4 0 0 (((st (st (st (st y 17 0 ((y 4 0 0).toNatClampNeg) p0) 18 0 (((st y 17 0 ((y 4 0 0).toNatClampNeg) p0) 4 0 0).toNatClampNeg) p1) 19 0 (((st (st y 17 0 ((y 4 0 0).toNatClampNeg) p0) 18 0 (((st y 17 0 ((y 4 0 0).toNatClampNeg) p0) 4 0 0).toNatClampNeg) p1) 4 0 0).toNatClampNeg) p2) 20 0 (((st (st (st y 17 0 ((y 4 0 0).toNatClampNeg) p0) 18 0 (((st y 17 0 ((y 4 0 0).toNatClampNeg) p0) 4 0 0).toNatClampNeg) p1) 19 0 (((st (st y 17 0 ((y 4 0 0).toNatClampNeg) p0) 18 0 (((st y 17 0 ((y 4 0 0).toNatClampNeg) p0) 4 0 0).toNatClampNeg) p1) 4 0 0).toNatClampNeg) p2) 4 0 0).toNatClampNeg) p3) 4 0 0) + 1)), rfl, ⟨(by simp [st, hy4]; decide), (by simp [st])⟩, PB.mk9 hP ht⟩, hS.F ht⟩) hS.2.2 dX4_add_57
