/-! laid by wip/gen -/
set_option maxHeartbeats 4000000 in
set_option maxRecDepth 100000 in
theorem m_suspects (l : Launch) (hst : l.stackTraces = false) (g : gE) (base n : Nat) (L : Nat → Nat) (hn : 123 ≤ n) (y : St) (ch : Int64) (r0 : Nat → va_E) (nb nn : Nat) (hM : MI y nb nn) (p0 p1 : Int32) : Met l yX4_suspects wsX4_suspects ({ frames := 3, cells := 0, slots := 0, locals := 180 }) (va_Pc [.ref (L 106), .int p0, .int p1] (PW SS g base n L (mw g L y ch r0))) (va_Qi (fun (r : Int32) (u : MS) => (¬ (0 ≤ p1.toInt ∧ p1.toInt ≤ 3 ∧ p0.toInt ≠ 0) ∧ u = (st (st y 0 0 0 0) 0 0 0 1, ch)) ∨ ((0 ≤ p1.toInt ∧ p1.toInt ≤ 3 ∧ p0.toInt ≠ 0) ∧ u = (st y 0 0 0 0, ch) ∧ r = msF (st y 0 0 0 0) p0 p1 nb nn)) (fun (u : MS) t => PB g n L (mw g L u.1 u.2 r0) t) (fun q => base ≤ q)) 0 0 (fun q => base ≤ q) := by
  refine Met.ofW (cc := cX4_suspects) (maxL := 3) (ret := (some .int)) (by decide) rfl ?_
  intro p e s m args below meth c s₁ B hml hv
  obtain ⟨rfl, hPW⟩ := hv
  obtain ⟨hbs, hJ, hP, hK, hE⟩ := id hPW
  have hx := B.exec
  have hb := B.bytes
  have hr := B.returns
  have hts := atoms_spec (ws := wsX4_suspects) B.pre
  have hown : s.vm.findClass RX4 = some m.cls := findClass_of_methodNamed B.named
  have hlocks := B.notSynchronized
  have hS : va_S (fun q : Nat => base ≤ q) s.heap s.heap [] := va_S.rf
  have hl := lv_entry ([.ref (L 106), .int p0, .int p1]) (n := 3) (Nat.le_of_ble_eq_true rfl)
  rw [lg_entry_eq]
  generalize (lg_sl ([.ref (L 106), .int p0, .int p1]) ++ List.replicate (3 - (lg_sl ([.ref (L 106), .int p0, .int p1])).length) Slot.unset).toArray = ls at hl ⊢
  have hl : lv_has ls 3 [(0, .ref (L 106)), (1, .int p0), (2, .int p1)] := hl
  have iX4 : ∀ w ∈ wsX40, w ∈ wsX4_suspects := by decide +kernel
  have hnb := hM.nb6
  have hnn := hM.nn40
  have hy3 := hM.y3
  have hy4 := hM.y4
  have hT3 : (st y 0 0 0 0) 3 0 0 = nI nb := (st_nr (by omega)).trans hy3
  have hT4 : (st y 0 0 0 0) 4 0 0 = nI nn := (st_nr (by omega)).trans hy4
  refine lv_aload_n hx hb dX4_suspects_0 rfl (lv_at hl 0 rfl) ?_
  refine lv_iconst (v := 0) hx hb dX4_suspects_1 (by decide) ?_
  refine wx_put (D := g.1) (cl := vwCl) (ci := 6) (v := .int 0) (ty := .int) (w' := mw g L (st y 0 0 0 0) ch r0) (C := RX4) (T := TX4) (N := 22) hx hb hts iX4 tyX4 tyX4_ok nmX4 hown hK hP hJ hS (106) (by omega) mw_o rfl 0 (by decide) (hts (.fieldLink RX4 64 "FerroDeskModel" "thrown" "I") (by decide +kernel)) (fun _ h9 => h9) rfl (by decide +kernel) rfl rfl (Nat.le_of_ble_eq_true rfl) dX4_suspects_2 (mw_put (r := 0) (i := 0) (j := 0) rfl (by omega) (mk_o.trans (by simp [mF, st]))) (fun H locs hP hS => ?_)
  refine lv_aload_n hx hb dX4_suspects_5 rfl (lv_at hl 0 rfl) ?_
  refine lv_iload_n hx hb dX4_suspects_6 rfl (lv_at hl 2 rfl) ?_
  refine wx_calli (va_runS (As := [.int p1]) (rest := [.ref (L 106)]) ⟨hx, hb, hml, hown, hts⟩ (m_noDistrict l hst g base n L (mw g L (st y 0 0 0 0) ch r0) p1) (va_cwS 1 hts gX4_suspects_X4_noDistrict rfl rfl rfl (by decide +kernel) ⟨Nat.le_of_ble_eq_true rfl, Nat.le_of_ble_eq_true rfl⟩) (hPW.preS hP hS) rfl rfl hl.1 rfl (lv_room (Nat.le_of_ble_eq_true rfl)) dX4_suspects_7 ⟨Nat.le_of_ble_eq_true rfl, Nat.le_of_ble_eq_true rfl⟩) hS (fun r7 u7 H locs h7 hP hS => ?_)
  rcases h7 with ⟨rfl, h7⟩ | ⟨rfl, d7, hd7, ed7⟩
  · refine lv_if_ne (tgt := 17) hx hb dX4_suspects_10 (by decide) (fun c10 => ?_) (fun c10 => absurd c10 (by decide))
    refine lv_iconst (v := 1) hx hb dX4_suspects_17 (by decide) ?_
    refine lv_goto (tgt := 22) hx hb dX4_suspects_18 (by decide) ?_
    refine lv_iconst (v := 1) hx hb dX4_suspects_22 (by decide) ?_
    refine wx_calli (va_runV (As := [.int 1, .int 1]) (rest := []) ⟨hx, hb, hml, hown, hts⟩ (m_fails l hst g base n L (by omega) (st y 0 0 0 0) ch r0 st_eq 1 1 (by decide)) (cwV 2 hts gX4_suspects_X4_fails rfl rfl rfl (by decide +kernel) ⟨Nat.le_of_ble_eq_true rfl, Nat.le_of_ble_eq_true rfl⟩) (hPW.preV hP hS (ci := 6) rfl (by omega) mw_o) rfl rfl hl.1 rfl (lv_room (Nat.le_of_ble_eq_true rfl)) dX4_suspects_23 ⟨Nat.le_of_ble_eq_true rfl, Nat.le_of_ble_eq_true rfl⟩) hS (fun r23 u23 H locs h23 hP hS => ?_)
    obtain ⟨rfl, -, e9⟩ : r23 = 1 ∧ True ∧ u23 = st (st y 0 0 0 0) 0 0 0 1 := by rcases h23 with ⟨-, b, -⟩ | ⟨a, -, b⟩; exact absurd b (by decide); exact ⟨a, trivial, b⟩
    have e9 := e9.symm
    subst e9
    refine lv_if_eq (tgt := 33) hx hb dX4_suspects_26 (by decide) (fun c26 => absurd c26 (by decide)) (fun c26 => ?_)
    refine lv_iconst (v := 0) hx hb dX4_suspects_29 (by decide) ?_
    refine lv_goto (tgt := 39) hx hb dX4_suspects_30 (by decide) ?_
    refine W.widen (k := 0) (n := 0) (Nat.le_of_ble_eq_true rfl) (Nat.le_of_ble_eq_true rfl) ?_
    exact W.iret (v := 0) hx hb hr (fun t ht hW => ⟨⟨0, (st (st y 0 0 0 0) 0 0 0 1, ch), rfl, Or.inl ⟨(by (try revert h7); (try simp only [xor_m1]); (try simp only [Int32.lt_iff_toInt_lt, Int32.le_iff_toInt_le, ← Int32.toInt_inj, i_0, i_1, i_2, i_3, i_4, i_6, i_9, i_20, i_32, i_40, i_48, i_60, i_200, i_999, i_2000, i_m1, i_8]); (try simp only [i_8, i_7]); omega), rfl⟩, PB.mk9 hP ht⟩, hS.F ht⟩) hS.2.2 dX4_suspects_39
  · refine lv_if_ne (tgt := 17) hx hb dX4_suspects_10 (by decide) (fun c10 => absurd c10 (by decide)) (fun c10 => ?_)
    refine lv_iload_n hx hb dX4_suspects_13 rfl (lv_at hl 1 rfl) ?_
    refine lv_if_ne (tgt := 21) hx hb dX4_suspects_14 (by decide) (fun c14 => ?_) (fun c14 => ?_)
    · refine lv_iconst (v := 0) hx hb dX4_suspects_21 (by decide) ?_
      refine lv_iconst (v := 1) hx hb dX4_suspects_22 (by decide) ?_
      refine wx_calli (va_runV (As := [.int 0, .int 1]) (rest := []) ⟨hx, hb, hml, hown, hts⟩ (m_fails l hst g base n L (by omega) (st y 0 0 0 0) ch r0 st_eq 0 1 (by decide)) (cwV 2 hts gX4_suspects_X4_fails rfl rfl rfl (by decide +kernel) ⟨Nat.le_of_ble_eq_true rfl, Nat.le_of_ble_eq_true rfl⟩) (hPW.preV hP hS (ci := 6) rfl (by omega) mw_o) rfl rfl hl.1 rfl (lv_room (Nat.le_of_ble_eq_true rfl)) dX4_suspects_23 ⟨Nat.le_of_ble_eq_true rfl, Nat.le_of_ble_eq_true rfl⟩) hS (fun r23 u23 H locs h23 hP hS => ?_)
      obtain ⟨rfl, -, e9⟩ : r23 = 0 ∧ True ∧ u23 = st y 0 0 0 0 := by rcases h23 with ⟨a, -, b⟩ | ⟨-, b, -⟩; exact ⟨a, trivial, b⟩; exact absurd rfl b
      have e9 := e9.symm
      subst e9
      refine lv_if_eq (tgt := 33) hx hb dX4_suspects_26 (by decide) (fun c26 => ?_) (fun c26 => absurd (by decide) c26)
      refine lv_aload_n hx hb dX4_suspects_33 rfl (lv_at hl 0 rfl) ?_
      refine lv_iload_n hx hb dX4_suspects_34 rfl (lv_at hl 1 rfl) ?_
      refine lv_iload_n hx hb dX4_suspects_35 rfl (lv_at hl 2 rfl) ?_
      refine wx_calli (va_runV (As := [.int p0, .int p1]) (rest := []) ⟨hx, hb, hml, hown, hts⟩ (m_manySuspects l hst g base n L (by omega) (st y 0 0 0 0) ch r0 nb hnb (by repeat (first | exact hy3 | rw [st_nr (by omega)])) nn hnn (by repeat (first | exact hy4 | rw [st_nr (by omega)])) p0 p1) (cwV 2 hts gX4_suspects_X4_manySuspects rfl rfl rfl (by decide +kernel) ⟨Nat.le_of_ble_eq_true rfl, Nat.le_of_ble_eq_true rfl⟩) (hPW.preV hP hS (ci := 6) rfl (by omega) mw_o) rfl rfl hl.1 rfl (lv_room (Nat.le_of_ble_eq_true rfl)) dX4_suspects_36 ⟨Nat.le_of_ble_eq_true rfl, Nat.le_of_ble_eq_true rfl⟩) hS (fun r36 u36 H locs h36 hP hS => ?_)
      obtain rfl := h36
      refine W.widen (k := 0) (n := 0) (Nat.le_of_ble_eq_true rfl) (Nat.le_of_ble_eq_true rfl) ?_
      exact W.iret (v := msF (st y 0 0 0 0) p0 p1 nb nn) hx hb hr (fun t ht hW => ⟨⟨msF (st y 0 0 0 0) p0 p1 nb nn, (st y 0 0 0 0, ch), rfl, Or.inr ⟨(by have h9 := dsOK hd7 ed7; (try revert c14 h9); (try simp only [xor_m1]); (try simp only [Int32.lt_iff_toInt_lt, Int32.le_iff_toInt_le, ← Int32.toInt_inj, i_0, i_1, i_2, i_3, i_4, i_6, i_9, i_20, i_32, i_40, i_48, i_60, i_200, i_999, i_2000, i_m1, i_8]); (try simp only [i_8, i_7]); omega), rfl, rfl⟩, PB.mk9 hP ht⟩, hS.F ht⟩) hS.2.2 dX4_suspects_39
    · refine lv_iconst (v := 1) hx hb dX4_suspects_17 (by decide) ?_
      refine lv_goto (tgt := 22) hx hb dX4_suspects_18 (by decide) ?_
      refine lv_iconst (v := 1) hx hb dX4_suspects_22 (by decide) ?_
      refine wx_calli (va_runV (As := [.int 1, .int 1]) (rest := []) ⟨hx, hb, hml, hown, hts⟩ (m_fails l hst g base n L (by omega) (st y 0 0 0 0) ch r0 st_eq 1 1 (by decide)) (cwV 2 hts gX4_suspects_X4_fails rfl rfl rfl (by decide +kernel) ⟨Nat.le_of_ble_eq_true rfl, Nat.le_of_ble_eq_true rfl⟩) (hPW.preV hP hS (ci := 6) rfl (by omega) mw_o) rfl rfl hl.1 rfl (lv_room (Nat.le_of_ble_eq_true rfl)) dX4_suspects_23 ⟨Nat.le_of_ble_eq_true rfl, Nat.le_of_ble_eq_true rfl⟩) hS (fun r23 u23 H locs h23 hP hS => ?_)
      obtain ⟨rfl, -, e9⟩ : r23 = 1 ∧ True ∧ u23 = st (st y 0 0 0 0) 0 0 0 1 := by rcases h23 with ⟨-, b, -⟩ | ⟨a, -, b⟩; exact absurd b (by decide); exact ⟨a, trivial, b⟩
      have e9 := e9.symm
      subst e9
      refine lv_if_eq (tgt := 33) hx hb dX4_suspects_26 (by decide) (fun c26 => absurd c26 (by decide)) (fun c26 => ?_)
      refine lv_iconst (v := 0) hx hb dX4_suspects_29 (by decide) ?_
      refine lv_goto (tgt := 39) hx hb dX4_suspects_30 (by decide) ?_
      refine W.widen (k := 0) (n := 0) (Nat.le_of_ble_eq_true rfl) (Nat.le_of_ble_eq_true rfl) ?_
      exact W.iret (v := 0) hx hb hr (fun t ht hW => ⟨⟨0, (st (st y 0 0 0 0) 0 0 0 1, ch), rfl, Or.inl ⟨(by have h9 := dsOK hd7 ed7; (try revert c14 h9); (try simp only [xor_m1]); (try simp only [Int32.lt_iff_toInt_lt, Int32.le_iff_toInt_le, ← Int32.toInt_inj, i_0, i_1, i_2, i_3, i_4, i_6, i_9, i_20, i_32, i_40, i_48, i_60, i_200, i_999, i_2000, i_m1, i_8]); (try simp only [i_8, i_7]); omega), rfl⟩, PB.mk9 hP ht⟩, hS.F ht⟩) hS.2.2 dX4_suspects_39

set_option maxHeartbeats 4000000 in
set_option maxRecDepth 100000 in
theorem m_suspectAt (l : Launch) (hst : l.stackTraces = false) (g : gE) (base n : Nat) (L : Nat → Nat) (hn : 123 ≤ n) (y : St) (ch : Int64) (r0 : Nat → va_E) (nb nn : Nat) (hM : MI y nb nn) (p0 p1 p2 : Int32) : Met l yX4_suspectAt wsX4_suspectAt ({ frames := 3, cells := 0, slots := 0, locals := 180 }) (va_Pc [.ref (L 106), .int p0, .int p1, .int p2] (PW SS g base n L (mw g L y ch r0))) (va_Qi (fun (r : Int32) (u : MS) => (¬ (0 ≤ p1.toInt ∧ p1.toInt ≤ 3 ∧ p0.toInt ≠ 0) ∧ u = (st (st y 0 0 0 0) 0 0 0 1, ch)) ∨ ((0 ≤ p1.toInt ∧ p1.toInt ≤ 3 ∧ p0.toInt ≠ 0) ∧ ((¬ ((0 : Int32).toInt ≤ p2.toInt ∧ p2.toInt ≤ (msF (st y 0 0 0 0) p0 p1 nb nn - 1).toInt) ∧ u = (st (st y 0 0 0 0) 0 0 0 2, ch)) ∨ (((0 : Int32).toInt ≤ p2.toInt ∧ p2.toInt ≤ (msF (st y 0 0 0 0) p0 p1 nb nn - 1).toInt) ∧ u = (st y 0 0 0 0, ch) ∧ r = sfM (st y 0 0 0 0) p0 p1 p2 nb nn nn)))) (fun (u : MS) t => PB g n L (mw g L u.1 u.2 r0) t) (fun q => base ≤ q)) 0 0 (fun q => base ≤ q) := by
  refine Met.ofW (cc := cX4_suspectAt) (maxL := 9) (ret := (some .int)) (by decide) rfl ?_
  intro p e s m args below meth c s₁ B hml hv
  obtain ⟨rfl, hPW⟩ := hv
  obtain ⟨hbs, hJ, hP, hK, hE⟩ := id hPW
  have hx := B.exec
  have hb := B.bytes
  have hr := B.returns
  have hts := atoms_spec (ws := wsX4_suspectAt) B.pre
  have hown : s.vm.findClass RX4 = some m.cls := findClass_of_methodNamed B.named
  have hlocks := B.notSynchronized
  have hS : va_S (fun q : Nat => base ≤ q) s.heap s.heap [] := va_S.rf
  have hl := lv_entry ([.ref (L 106), .int p0, .int p1, .int p2]) (n := 9) (Nat.le_of_ble_eq_true rfl)
  rw [lg_entry_eq]
  generalize (lg_sl ([.ref (L 106), .int p0, .int p1, .int p2]) ++ List.replicate (9 - (lg_sl ([.ref (L 106), .int p0, .int p1, .int p2])).length) Slot.unset).toArray = ls at hl ⊢
  have hl : lv_has ls 9 [(0, .ref (L 106)), (1, .int p0), (2, .int p1), (3, .int p2)] := hl
  have iX4 : ∀ w ∈ wsX40, w ∈ wsX4_suspectAt := by decide +kernel
  have hnb := hM.nb6
  have hnn := hM.nn40
  have hy3 := hM.y3
  have hy4 := hM.y4
  have hT3 : (st y 0 0 0 0) 3 0 0 = nI nb := (st_nr (by omega)).trans hy3
  have hT4 : (st y 0 0 0 0) 4 0 0 = nI nn := (st_nr (by omega)).trans hy4
  refine lv_aload_n hx hb dX4_suspectAt_0 rfl (lv_at hl 0 rfl) ?_
  refine lv_iconst (v := 0) hx hb dX4_suspectAt_1 (by decide) ?_
  refine wx_put (D := g.1) (cl := vwCl) (ci := 6) (v := .int 0) (ty := .int) (w' := mw g L (st y 0 0 0 0) ch r0) (C := RX4) (T := TX4) (N := 22) hx hb hts iX4 tyX4 tyX4_ok nmX4 hown hK hP hJ hS (106) (by omega) mw_o rfl 0 (by decide) (hts (.fieldLink RX4 64 "FerroDeskModel" "thrown" "I") (by decide +kernel)) (fun _ h9 => h9) rfl (by decide +kernel) rfl rfl (Nat.le_of_ble_eq_true rfl) dX4_suspectAt_2 (mw_put (r := 0) (i := 0) (j := 0) rfl (by omega) (mk_o.trans (by simp [mF, st]))) (fun H locs hP hS => ?_)
  refine lv_aload_n hx hb dX4_suspectAt_5 rfl (lv_at hl 0 rfl) ?_
  refine lv_iload_n hx hb dX4_suspectAt_6 rfl (lv_at hl 2 rfl) ?_
  refine wx_calli (va_runS (As := [.int p1]) (rest := [.ref (L 106)]) ⟨hx, hb, hml, hown, hts⟩ (m_noDistrict l hst g base n L (mw g L (st y 0 0 0 0) ch r0) p1) (va_cwS 1 hts gX4_suspectAt_X4_noDistrict rfl rfl rfl (by decide +kernel) ⟨Nat.le_of_ble_eq_true rfl, Nat.le_of_ble_eq_true rfl⟩) (hPW.preS hP hS) rfl rfl hl.1 rfl (lv_room (Nat.le_of_ble_eq_true rfl)) dX4_suspectAt_7 ⟨Nat.le_of_ble_eq_true rfl, Nat.le_of_ble_eq_true rfl⟩) hS (fun r7 u7 H locs h7 hP hS => ?_)
  rcases h7 with ⟨rfl, h7⟩ | ⟨rfl, d7, hd7, ed7⟩
  · refine lv_if_ne (tgt := 17) hx hb dX4_suspectAt_10 (by decide) (fun c10 => ?_) (fun c10 => absurd c10 (by decide))
    refine lv_iconst (v := 1) hx hb dX4_suspectAt_17 (by decide) ?_
    refine lv_goto (tgt := 22) hx hb dX4_suspectAt_18 (by decide) ?_
    refine lv_iconst (v := 1) hx hb dX4_suspectAt_22 (by decide) ?_
    refine wx_calli (va_runV (As := [.int 1, .int 1]) (rest := []) ⟨hx, hb, hml, hown, hts⟩ (m_fails l hst g base n L (by omega) (st y 0 0 0 0) ch r0 st_eq 1 1 (by decide)) (cwV 2 hts gX4_suspectAt_X4_fails rfl rfl rfl (by decide +kernel) ⟨Nat.le_of_ble_eq_true rfl, Nat.le_of_ble_eq_true rfl⟩) (hPW.preV hP hS (ci := 6) rfl (by omega) mw_o) rfl rfl hl.1 rfl (lv_room (Nat.le_of_ble_eq_true rfl)) dX4_suspectAt_23 ⟨Nat.le_of_ble_eq_true rfl, Nat.le_of_ble_eq_true rfl⟩) hS (fun r23 u23 H locs h23 hP hS => ?_)
    obtain ⟨rfl, -, e9⟩ : r23 = 1 ∧ True ∧ u23 = st (st y 0 0 0 0) 0 0 0 1 := by rcases h23 with ⟨-, b, -⟩ | ⟨a, -, b⟩; exact absurd b (by decide); exact ⟨a, trivial, b⟩
    have e9 := e9.symm
    subst e9
    refine lv_if_ne (tgt := 58) hx hb dX4_suspectAt_26 (by decide) (fun c26 => ?_) (fun c26 => absurd c26 (by decide))
    refine lv_iconst (v := 0) hx hb dX4_suspectAt_58 (by decide) ?_
    refine W.widen (k := 0) (n := 0) (Nat.le_of_ble_eq_true rfl) (Nat.le_of_ble_eq_true rfl) ?_
    exact W.iret (v := 0) hx hb hr (fun t ht hW => ⟨⟨0, (st (st y 0 0 0 0) 0 0 0 1, ch), rfl, Or.inl ⟨(by (try revert h7); (try simp only [xor_m1]); (try simp only [Int32.lt_iff_toInt_lt, Int32.le_iff_toInt_le, ← Int32.toInt_inj, i_0, i_1, i_2, i_3, i_4, i_6, i_9, i_20, i_32, i_40, i_48, i_60, i_200, i_999, i_2000, i_m1, i_8]); (try simp only [i_8, i_7]); omega), rfl⟩, PB.mk9 hP ht⟩, hS.F ht⟩) hS.2.2 dX4_suspectAt_59
  · refine lv_if_ne (tgt := 17) hx hb dX4_suspectAt_10 (by decide) (fun c10 => absurd c10 (by decide)) (fun c10 => ?_)
    refine lv_iload_n hx hb dX4_suspectAt_13 rfl (lv_at hl 1 rfl) ?_
    refine lv_if_ne (tgt := 21) hx hb dX4_suspectAt_14 (by decide) (fun c14 => ?_) (fun c14 => ?_)
    · refine lv_iconst (v := 0) hx hb dX4_suspectAt_21 (by decide) ?_
      refine lv_iconst (v := 1) hx hb dX4_suspectAt_22 (by decide) ?_
      refine wx_calli (va_runV (As := [.int 0, .int 1]) (rest := []) ⟨hx, hb, hml, hown, hts⟩ (m_fails l hst g base n L (by omega) (st y 0 0 0 0) ch r0 st_eq 0 1 (by decide)) (cwV 2 hts gX4_suspectAt_X4_fails rfl rfl rfl (by decide +kernel) ⟨Nat.le_of_ble_eq_true rfl, Nat.le_of_ble_eq_true rfl⟩) (hPW.preV hP hS (ci := 6) rfl (by omega) mw_o) rfl rfl hl.1 rfl (lv_room (Nat.le_of_ble_eq_true rfl)) dX4_suspectAt_23 ⟨Nat.le_of_ble_eq_true rfl, Nat.le_of_ble_eq_true rfl⟩) hS (fun r23 u23 H locs h23 hP hS => ?_)
      obtain ⟨rfl, -, e9⟩ : r23 = 0 ∧ True ∧ u23 = st y 0 0 0 0 := by rcases h23 with ⟨a, -, b⟩ | ⟨-, b, -⟩; exact ⟨a, trivial, b⟩; exact absurd rfl b
      have e9 := e9.symm
      subst e9
      refine lv_if_ne (tgt := 58) hx hb dX4_suspectAt_26 (by decide) (fun c26 => absurd c26 (by decide)) (fun c26 => ?_)
      refine lv_aload_n hx hb dX4_suspectAt_29 rfl (lv_at hl 0 rfl) ?_
      refine lv_iload_n hx hb dX4_suspectAt_30 rfl (lv_at hl 3 rfl) ?_
      refine lv_iconst (v := 0) hx hb dX4_suspectAt_31 (by decide) ?_
      refine lv_aload_n hx hb dX4_suspectAt_32 rfl (lv_at hl 0 rfl) ?_
      refine lv_iload_n hx hb dX4_suspectAt_33 rfl (lv_at hl 1 rfl) ?_
      refine lv_iload_n hx hb dX4_suspectAt_34 rfl (lv_at hl 2 rfl) ?_
      refine wx_calli (va_runV (As := [.int p0, .int p1]) (rest := [.int 0, .int p2, .ref (L 106)]) ⟨hx, hb, hml, hown, hts⟩ (m_manySuspects l hst g base n L (by omega) (st y 0 0 0 0) ch r0 nb hnb (by repeat (first | exact hy3 | rw [st_nr (by omega)])) nn hnn (by repeat (first | exact hy4 | rw [st_nr (by omega)])) p0 p1) (cwV 2 hts gX4_suspectAt_X4_manySuspects rfl rfl rfl (by decide +kernel) ⟨Nat.le_of_ble_eq_true rfl, Nat.le_of_ble_eq_true rfl⟩) (hPW.preV hP hS (ci := 6) rfl (by omega) mw_o) rfl rfl hl.1 rfl (lv_room (Nat.le_of_ble_eq_true rfl)) dX4_suspectAt_35 ⟨Nat.le_of_ble_eq_true rfl, Nat.le_of_ble_eq_true rfl⟩) hS (fun r35 u35 H locs h35 hP hS => ?_)
      obtain rfl := h35
      refine lv_iconst (v := 1) hx hb dX4_suspectAt_38 (by decide) ?_
      refine lv_isub hx hb dX4_suspectAt_39 ?_
      refine wx_calli (va_runS (As := [.int p2, .int 0, .int ((msF (st y 0 0 0 0) p0 p1 nb nn) - 1)]) (rest := [.ref (L 106)]) ⟨hx, hb, hml, hown, hts⟩ (m_in l hst g base n L (mw g L (st y 0 0 0 0) ch r0) p2 0 ((msF (st y 0 0 0 0) p0 p1 nb nn) - 1)) (va_cwS 3 hts gX4_suspectAt_X4_in rfl rfl rfl (by decide +kernel) ⟨Nat.le_of_ble_eq_true rfl, Nat.le_of_ble_eq_true rfl⟩) (hPW.preS hP hS) rfl rfl hl.1 rfl (lv_room (Nat.le_of_ble_eq_true rfl)) dX4_suspectAt_40 ⟨Nat.le_of_ble_eq_true rfl, Nat.le_of_ble_eq_true rfl⟩) hS (fun r40 u40 H locs h40 hP hS => ?_)
      rcases h40 with ⟨rfl, h40⟩ | ⟨rfl, h40⟩
      · refine lv_if_ne (tgt := 50) hx hb dX4_suspectAt_43 (by decide) (fun c43 => ?_) (fun c43 => absurd c43 (by decide))
        refine lv_iconst (v := 0) hx hb dX4_suspectAt_50 (by decide) ?_
        refine lv_iconst (v := 2) hx hb dX4_suspectAt_51 (by decide) ?_
        refine wx_calli (va_runV (As := [.int 0, .int 2]) (rest := []) ⟨hx, hb, hml, hown, hts⟩ (m_fails l hst g base n L (by omega) (st y 0 0 0 0) ch r0 st_eq 0 2 (by decide)) (cwV 2 hts gX4_suspectAt_X4_fails rfl rfl rfl (by decide +kernel) ⟨Nat.le_of_ble_eq_true rfl, Nat.le_of_ble_eq_true rfl⟩) (hPW.preV hP hS (ci := 6) rfl (by omega) mw_o) rfl rfl hl.1 rfl (lv_room (Nat.le_of_ble_eq_true rfl)) dX4_suspectAt_52 ⟨Nat.le_of_ble_eq_true rfl, Nat.le_of_ble_eq_true rfl⟩) hS (fun r52 u52 H locs h52 hP hS => ?_)
        obtain ⟨rfl, -, e9⟩ : r52 = 0 ∧ True ∧ u52 = st y 0 0 0 0 := by rcases h52 with ⟨a, -, b⟩ | ⟨-, b, -⟩; exact ⟨a, trivial, b⟩; exact absurd rfl b
        have e9 := e9.symm
        subst e9
        refine lv_if_eq (tgt := 60) hx hb dX4_suspectAt_55 (by decide) (fun c55 => ?_) (fun c55 => absurd (by decide) c55)
        refine lv_iconst (v := (-1)) hx hb dX4_suspectAt_60 (by decide) ?_
        refine lv_istore (lv' := [(4, .int (-1)), (0, .ref (L 106)), (1, .int p0), (2, .int p1), (3, .int p2)]) hx hb dX4_suspectAt_61 hl (by decide) rfl (fun ls hl => ?_)
        refine lv_iconst (v := 0) hx hb dX4_suspectAt_63 (by decide) ?_
        refine lv_istore (lv' := [(5, .int 0), (4, .int (-1)), (0, .ref (L 106)), (1, .int p0), (2, .int p1), (3, .int p2)]) hx hb dX4_suspectAt_64 hl (by decide) rfl (fun ls hl => ?_)
        have key66 : ∀ (d k : Nat) (z5 : Int32) (z4 : Int32) (H : Heap) (locs : List Loc) (ls : Array Slot), k + d = nn → (z5 = nI k) → (z4 = sfM (st y 0 0 0 0) p0 p1 p2 nb nn k) → va_P g.1 vwCl (wl n L (mw g L (st y 0 0 0 0) ch r0)) H → va_S (fun q : Nat => base ≤ q) s.heap H locs → lv_has ls 9 [(5, .int z5), (4, .int z4), (0, .ref (L 106)), (1, .int p0), (2, .int p1), (3, .int p2)] → W p l e (headSpec wsX4_suspectAt ({ frames := 3, cells := 0, slots := 0, locals := 180 })).room s m ([.ref (L 106), .int p0, .int p1, .int p2] : List Value).toArray below meth c H locs (0 + 0 + 0 + 0 + 0 + 0) (0 + 0 + 0 + 0 + 0 + 0) (MQ below (va_Qi (fun (r : Int32) (u : MS) => (¬ (0 ≤ p1.toInt ∧ p1.toInt ≤ 3 ∧ p0.toInt ≠ 0) ∧ u = (st (st y 0 0 0 0) 0 0 0 1, ch)) ∨ ((0 ≤ p1.toInt ∧ p1.toInt ≤ 3 ∧ p0.toInt ≠ 0) ∧ ((¬ ((0 : Int32).toInt ≤ p2.toInt ∧ p2.toInt ≤ (msF (st y 0 0 0 0) p0 p1 nb nn - 1).toInt) ∧ u = (st (st y 0 0 0 0) 0 0 0 2, ch)) ∨ (((0 : Int32).toInt ≤ p2.toInt ∧ p2.toInt ≤ (msF (st y 0 0 0 0) p0 p1 nb nn - 1).toInt) ∧ u = (st y 0 0 0 0, ch) ∧ r = sfM (st y 0 0 0 0) p0 p1 p2 nb nn nn)))) (fun (u : MS) t => PB g n L (mw g L u.1 u.2 r0) t) (fun q => base ≤ q)) ([.ref (L 106), .int p0, .int p1, .int p2] : List Value).toArray s 0 0 (fun q => base ≤ q)) (F0 m 66 ls []) := by
          intro d
          induction d with
          | zero =>
            intro k z5 z4 H locs ls hkd ek5 ek4 hP hS hl
            obtain rfl : nn = k := by omega
            subst ek5 ek4
            refine lv_iload hx hb dX4_suspectAt_66 (lv_at hl 0 rfl) ?_
            refine lv_aload_n hx hb dX4_suspectAt_68 rfl (lv_at hl 2 rfl) ?_
            refine wx_get (D := g.1) (cl := vwCl) (ci := 6) (v := .int ((st y 0 0 0 0) 4 0 0)) (C := RX4) (T := TX4) (N := 22) hx hb hts iX4 hown hK hP (106) (by omega) mw_o rfl 4 (by decide) (hts (.fieldLink RX4 74 "FerroDeskModel" "notices" "I") (by decide +kernel)) (fun _ h9 => h9) rfl dX4_suspectAt_69 ?_
            refine lv_icmp_ge (tgt := 183) hx hb dX4_suspectAt_72 (by decide) (fun c72 => ?_) (fun c72 => absurd (by rw [hT4]; exact nI_le (Nat.le_refl _) (by omega)) c72)
            refine lv_iload hx hb dX4_suspectAt_183 (lv_at hl 1 rfl) ?_
            refine W.widen (k := 0) (n := 0) (Nat.le_of_ble_eq_true rfl) (Nat.le_of_ble_eq_true rfl) ?_
            exact W.iret (v := sfM (st y 0 0 0 0) p0 p1 p2 nb nn nn) hx hb hr (fun t ht hW => ⟨⟨sfM (st y 0 0 0 0) p0 p1 p2 nb nn nn, (st y 0 0 0 0, ch), rfl, Or.inr ⟨(by have h9 := dsOK hd7 ed7; (try revert c14 h9); (try simp only [xor_m1]); (try simp only [Int32.lt_iff_toInt_lt, Int32.le_iff_toInt_le, ← Int32.toInt_inj, i_0, i_1, i_2, i_3, i_4, i_6, i_9, i_20, i_32, i_40, i_48, i_60, i_200, i_999, i_2000, i_m1, i_8]); (try simp only [i_8, i_7]); omega), Or.inr ⟨h40, rfl, rfl⟩⟩, PB.mk9 hP ht⟩, hS.F ht⟩) hS.2.2 dX4_suspectAt_185
          | succ d ih =>
            intro k z5 z4 H locs ls hkd ek5 ek4 hP hS hl
            have hkN : k < nn := by omega
            subst ek5 ek4
            refine lv_iload hx hb dX4_suspectAt_66 (lv_at hl 0 rfl) ?_
            refine lv_aload_n hx hb dX4_suspectAt_68 rfl (lv_at hl 2 rfl) ?_
            refine wx_get (D := g.1) (cl := vwCl) (ci := 6) (v := .int ((st y 0 0 0 0) 4 0 0)) (C := RX4) (T := TX4) (N := 22) hx hb hts iX4 hown hK hP (106) (by omega) mw_o rfl 4 (by decide) (hts (.fieldLink RX4 74 "FerroDeskModel" "notices" "I") (by decide +kernel)) (fun _ h9 => h9) rfl dX4_suspectAt_69 ?_
            refine lv_icmp_ge (tgt := 183) hx hb dX4_suspectAt_72 (by decide) (fun c72 => absurd c72 (by rw [hT4]; exact nI_ge hkN (by omega))) (fun c72 => ?_)
            refine lv_iconst (v := 0) hx hb dX4_suspectAt_75 (by decide) ?_
            refine lv_istore (lv' := [(6, .int 0), (5, .int (nI k)), (4, .int (sfM (st y 0 0 0 0) p0 p1 p2 nb nn k)), (0, .ref (L 106)), (1, .int p0), (2, .int p1), (3, .int p2)]) hx hb dX4_suspectAt_76 hl (by decide) rfl (fun ls hl => ?_)
            refine lv_iconst (v := 0) hx hb dX4_suspectAt_78 (by decide) ?_
            refine lv_istore (lv' := [(7, .int 0), (6, .int 0), (5, .int (nI k)), (4, .int (sfM (st y 0 0 0 0) p0 p1 p2 nb nn k)), (0, .ref (L 106)), (1, .int p0), (2, .int p1), (3, .int p2)]) hx hb dX4_suspectAt_79 hl (by decide) rfl (fun ls hl => ?_)
            have key81 : ∀ (dj j : Nat) (z7 : Int32) (z6 : Int32) (H : Heap) (locs : List Loc) (ls : Array Slot), j + dj = nn → (z7 = nI j) → (z6 = saM (st y 0 0 0 0) p0 p1 nb k j) → va_P g.1 vwCl (wl n L (mw g L (st y 0 0 0 0) ch r0)) H → va_S (fun q : Nat => base ≤ q) s.heap H locs → lv_has ls 9 [(7, .int z7), (6, .int z6), (0, .ref (L 106)), (1, .int p0), (2, .int p1), (3, .int p2), (4, .int (sfM (st y 0 0 0 0) p0 p1 p2 nb nn k)), (5, .int (nI k))] → W p l e (headSpec wsX4_suspectAt ({ frames := 3, cells := 0, slots := 0, locals := 180 })).room s m ([.ref (L 106), .int p0, .int p1, .int p2] : List Value).toArray below meth c H locs (0 + 0 + 0 + 0 + 0 + 0) (0 + 0 + 0 + 0 + 0 + 0) (MQ below (va_Qi (fun (r : Int32) (u : MS) => (¬ (0 ≤ p1.toInt ∧ p1.toInt ≤ 3 ∧ p0.toInt ≠ 0) ∧ u = (st (st y 0 0 0 0) 0 0 0 1, ch)) ∨ ((0 ≤ p1.toInt ∧ p1.toInt ≤ 3 ∧ p0.toInt ≠ 0) ∧ ((¬ ((0 : Int32).toInt ≤ p2.toInt ∧ p2.toInt ≤ (msF (st y 0 0 0 0) p0 p1 nb nn - 1).toInt) ∧ u = (st (st y 0 0 0 0) 0 0 0 2, ch)) ∨ (((0 : Int32).toInt ≤ p2.toInt ∧ p2.toInt ≤ (msF (st y 0 0 0 0) p0 p1 nb nn - 1).toInt) ∧ u = (st y 0 0 0 0, ch) ∧ r = sfM (st y 0 0 0 0) p0 p1 p2 nb nn nn)))) (fun (u : MS) t => PB g n L (mw g L u.1 u.2 r0) t) (fun q => base ≤ q)) ([.ref (L 106), .int p0, .int p1, .int p2] : List Value).toArray s 0 0 (fun q => base ≤ q)) (F0 m 81 ls []) := by
              intro dj
              induction dj with
              | zero =>
                intro j z7 z6 H locs ls hkdj ek7 ek6 hP hS hl
                obtain rfl : nn = j := by omega
                subst ek7 ek6
                refine lv_iload hx hb dX4_suspectAt_81 (lv_at hl 0 rfl) ?_
                refine lv_aload_n hx hb dX4_suspectAt_83 rfl (lv_at hl 2 rfl) ?_
                refine wx_get (D := g.1) (cl := vwCl) (ci := 6) (v := .int ((st y 0 0 0 0) 4 0 0)) (C := RX4) (T := TX4) (N := 22) hx hb hts iX4 hown hK hP (106) (by omega) mw_o rfl 4 (by decide) (hts (.fieldLink RX4 74 "FerroDeskModel" "notices" "I") (by decide +kernel)) (fun _ h9 => h9) rfl dX4_suspectAt_84 ?_
                refine lv_icmp_ge (tgt := 151) hx hb dX4_suspectAt_87 (by decide) (fun c87 => ?_) (fun c87 => absurd (by rw [hT4]; exact nI_le (Nat.le_refl _) (by omega)) c87)
                refine lv_aload_n hx hb dX4_suspectAt_151 rfl (lv_at hl 2 rfl) ?_
                refine lv_iload hx hb dX4_suspectAt_152 (lv_at hl 7 rfl) ?_
                refine lv_iload_n hx hb dX4_suspectAt_154 rfl (lv_at hl 3 rfl) ?_
                refine lv_iload_n hx hb dX4_suspectAt_155 rfl (lv_at hl 4 rfl) ?_
                refine wx_calli (va_runV (As := [.int (nI k), .int p0, .int p1]) (rest := []) ⟨hx, hb, hml, hown, hts⟩ (m_canHaveMade l hst g base n L (by omega) (st y 0 0 0 0) ch r0 nb hnb hT3 k (by omega) p0 p1) (cwV 3 hts gX4_suspectAt_X4_canHaveMade rfl rfl rfl (by decide +kernel) ⟨Nat.le_of_ble_eq_true rfl, Nat.le_of_ble_eq_true rfl⟩) (hPW.preV hP hS (ci := 6) rfl (by omega) mw_o) rfl rfl hl.1 rfl (lv_room (Nat.le_of_ble_eq_true rfl)) dX4_suspectAt_156 ⟨Nat.le_of_ble_eq_true rfl, Nat.le_of_ble_eq_true rfl⟩) hS (fun r156 u156 H locs h156 hP hS => ?_)
                rcases h156 with ⟨rfl, h156⟩ | ⟨rfl, h156⟩
                · refine lv_if_eq (tgt := 173) hx hb dX4_suspectAt_159 (by decide) (fun c159 => absurd c159 (by decide)) (fun c159 => ?_)
                  refine lv_iload hx hb dX4_suspectAt_162 (lv_at hl 1 rfl) ?_
                  refine lv_iload_n hx hb dX4_suspectAt_164 rfl (lv_at hl 5 rfl) ?_
                  refine lv_icmp_ne (tgt := 173) hx hb dX4_suspectAt_165 (by decide) (fun c165 => ?_) (fun c165 => ?_)
                  · refine lv_iload hx hb dX4_suspectAt_173 (lv_at hl 6 rfl) ?_
                    refine lv_istore (lv' := [(4, .int (sfM (st y 0 0 0 0) p0 p1 p2 nb nn k)), (7, .int (nI nn)), (6, .int (saM (st y 0 0 0 0) p0 p1 nb k nn)), (0, .ref (L 106)), (1, .int p0), (2, .int p1), (3, .int p2), (5, .int (nI k))]) hx hb dX4_suspectAt_175 hl (by decide) rfl (fun ls hl => ?_)
                    obtain ⟨z177, ez177⟩ : ∃ y : Int32, y = nI k + 1 := ⟨_, rfl⟩
                    refine lv_iinc (v := z177) (lv' := [(5, .int z177), (4, .int (sfM (st y 0 0 0 0) p0 p1 p2 nb nn k)), (7, .int (nI nn)), (6, .int (saM (st y 0 0 0 0) p0 p1 nb k nn)), (0, .ref (L 106)), (1, .int p0), (2, .int p1), (3, .int p2)]) hx hb dX4_suspectAt_177 hl (k := 7) rfl (by rw [ez177]; rfl) (by decide) rfl (fun ls hl => ?_)
                    refine lv_goto (tgt := 66) hx hb dX4_suspectAt_180 (by decide) ?_
                    exact ih (k + 1) _ _ _ _ _ (by omega) (by rw [ez177, nI_1]) (sfM_f (fun h9 => c165 h9.2)) hP hS (lv_sub hl [0, 1, 4, 5, 6, 7] rfl)
                  · refine lv_iload hx hb dX4_suspectAt_168 (lv_at hl 7 rfl) ?_
                    refine lv_goto (tgt := 175) hx hb dX4_suspectAt_170 (by decide) ?_
                    refine lv_istore (lv' := [(4, .int (nI k)), (7, .int (nI nn)), (6, .int (saM (st y 0 0 0 0) p0 p1 nb k nn)), (0, .ref (L 106)), (1, .int p0), (2, .int p1), (3, .int p2), (5, .int (nI k))]) hx hb dX4_suspectAt_175 hl (by decide) rfl (fun ls hl => ?_)
                    obtain ⟨z177, ez177⟩ : ∃ y : Int32, y = nI k + 1 := ⟨_, rfl⟩
                    refine lv_iinc (v := z177) (lv' := [(5, .int z177), (4, .int (nI k)), (7, .int (nI nn)), (6, .int (saM (st y 0 0 0 0) p0 p1 nb k nn)), (0, .ref (L 106)), (1, .int p0), (2, .int p1), (3, .int p2)]) hx hb dX4_suspectAt_177 hl (k := 7) rfl (by rw [ez177]; rfl) (by decide) rfl (fun ls hl => ?_)
                    refine lv_goto (tgt := 66) hx hb dX4_suspectAt_180 (by decide) ?_
                    exact ih (k + 1) _ _ _ _ _ (by omega) (by rw [ez177, nI_1]) (sfM_t ⟨h156, c165⟩) hP hS (lv_sub hl [0, 1, 4, 5, 6, 7] rfl)
                · refine lv_if_eq (tgt := 173) hx hb dX4_suspectAt_159 (by decide) (fun c159 => ?_) (fun c159 => absurd (by decide) c159)
                  refine lv_iload hx hb dX4_suspectAt_173 (lv_at hl 6 rfl) ?_
                  refine lv_istore (lv' := [(4, .int (sfM (st y 0 0 0 0) p0 p1 p2 nb nn k)), (7, .int (nI nn)), (6, .int (saM (st y 0 0 0 0) p0 p1 nb k nn)), (0, .ref (L 106)), (1, .int p0), (2, .int p1), (3, .int p2), (5, .int (nI k))]) hx hb dX4_suspectAt_175 hl (by decide) rfl (fun ls hl => ?_)
                  obtain ⟨z177, ez177⟩ : ∃ y : Int32, y = nI k + 1 := ⟨_, rfl⟩
                  refine lv_iinc (v := z177) (lv' := [(5, .int z177), (4, .int (sfM (st y 0 0 0 0) p0 p1 p2 nb nn k)), (7, .int (nI nn)), (6, .int (saM (st y 0 0 0 0) p0 p1 nb k nn)), (0, .ref (L 106)), (1, .int p0), (2, .int p1), (3, .int p2)]) hx hb dX4_suspectAt_177 hl (k := 7) rfl (by rw [ez177]; rfl) (by decide) rfl (fun ls hl => ?_)
                  refine lv_goto (tgt := 66) hx hb dX4_suspectAt_180 (by decide) ?_
                  exact ih (k + 1) _ _ _ _ _ (by omega) (by rw [ez177, nI_1]) (sfM_f (fun h9 => h156 h9.1)) hP hS (lv_sub hl [0, 1, 4, 5, 6, 7] rfl)
              | succ dj ihj =>
                intro j z7 z6 H locs ls hkdj ek7 ek6 hP hS hl
                have hkNj : j < nn := by omega
                subst ek7 ek6
                refine lv_iload hx hb dX4_suspectAt_81 (lv_at hl 0 rfl) ?_
                refine lv_aload_n hx hb dX4_suspectAt_83 rfl (lv_at hl 2 rfl) ?_
                refine wx_get (D := g.1) (cl := vwCl) (ci := 6) (v := .int ((st y 0 0 0 0) 4 0 0)) (C := RX4) (T := TX4) (N := 22) hx hb hts iX4 hown hK hP (106) (by omega) mw_o rfl 4 (by decide) (hts (.fieldLink RX4 74 "FerroDeskModel" "notices" "I") (by decide +kernel)) (fun _ h9 => h9) rfl dX4_suspectAt_84 ?_
                refine lv_icmp_ge (tgt := 151) hx hb dX4_suspectAt_87 (by decide) (fun c87 => absurd c87 (by rw [hT4]; exact nI_ge hkNj (by omega))) (fun c87 => ?_)
                refine lv_aload_n hx hb dX4_suspectAt_90 rfl (lv_at hl 2 rfl) ?_
                refine lv_iload hx hb dX4_suspectAt_91 (lv_at hl 0 rfl) ?_
                refine lv_iload_n hx hb dX4_suspectAt_93 rfl (lv_at hl 4 rfl) ?_
                refine wx_calli (va_runV (As := [.int (nI j), .int p1]) (rest := []) ⟨hx, hb, hml, hown, hts⟩ (m_readersOf l hst g base n L (by omega) (st y 0 0 0 0) ch r0 nb hnb hT3 j (by omega) p1) (cwV 2 hts gX4_suspectAt_X4_readersOf rfl rfl rfl (by decide +kernel) ⟨Nat.le_of_ble_eq_true rfl, Nat.le_of_ble_eq_true rfl⟩) (hPW.preV hP hS (ci := 6) rfl (by omega) mw_o) rfl rfl hl.1 rfl (lv_room (Nat.le_of_ble_eq_true rfl)) dX4_suspectAt_94 ⟨Nat.le_of_ble_eq_true rfl, Nat.le_of_ble_eq_true rfl⟩) hS (fun r94 u94 H locs h94 hP hS => ?_)
                obtain rfl := h94
                refine lv_aload_n hx hb dX4_suspectAt_97 rfl (lv_at hl 2 rfl) ?_
                refine lv_iload hx hb dX4_suspectAt_98 (lv_at hl 7 rfl) ?_
                refine lv_iload_n hx hb dX4_suspectAt_100 rfl (lv_at hl 4 rfl) ?_
                refine wx_calli (va_runV (As := [.int (nI k), .int p1]) (rest := [.int (riM (st y 0 0 0 0) j p1 nb)]) ⟨hx, hb, hml, hown, hts⟩ (m_readersOf l hst g base n L (by omega) (st y 0 0 0 0) ch r0 nb hnb hT3 k (by omega) p1) (cwV 2 hts gX4_suspectAt_X4_readersOf rfl rfl rfl (by decide +kernel) ⟨Nat.le_of_ble_eq_true rfl, Nat.le_of_ble_eq_true rfl⟩) (hPW.preV hP hS (ci := 6) rfl (by omega) mw_o) rfl rfl hl.1 rfl (lv_room (Nat.le_of_ble_eq_true rfl)) dX4_suspectAt_101 ⟨Nat.le_of_ble_eq_true rfl, Nat.le_of_ble_eq_true rfl⟩) hS (fun r101 u101 H locs h101 hP hS => ?_)
                obtain rfl := h101
                refine lv_isub hx hb dX4_suspectAt_104 ?_
                refine lv_istore (lv' := [(8, .int ((riM (st y 0 0 0 0) j p1 nb) - (riM (st y 0 0 0 0) k p1 nb))), (7, .int (nI j)), (6, .int (saM (st y 0 0 0 0) p0 p1 nb k j)), (0, .ref (L 106)), (1, .int p0), (2, .int p1), (3, .int p2), (4, .int (sfM (st y 0 0 0 0) p0 p1 p2 nb nn k)), (5, .int (nI k))]) hx hb dX4_suspectAt_105 hl (by decide) rfl (fun ls hl => ?_)
                refine lv_iload hx hb dX4_suspectAt_107 (lv_at hl 2 rfl) ?_
                refine lv_aload_n hx hb dX4_suspectAt_109 rfl (lv_at hl 3 rfl) ?_
                refine lv_iload hx hb dX4_suspectAt_110 (lv_at hl 1 rfl) ?_
                refine lv_iload_n hx hb dX4_suspectAt_112 rfl (lv_at hl 4 rfl) ?_
                refine lv_iload_n hx hb dX4_suspectAt_113 rfl (lv_at hl 5 rfl) ?_
                refine wx_calli (va_runV (As := [.int (nI j), .int p0, .int p1]) (rest := [.int (saM (st y 0 0 0 0) p0 p1 nb k j)]) ⟨hx, hb, hml, hown, hts⟩ (m_canHaveMade l hst g base n L (by omega) (st y 0 0 0 0) ch r0 nb hnb hT3 j (by omega) p0 p1) (cwV 3 hts gX4_suspectAt_X4_canHaveMade rfl rfl rfl (by decide +kernel) ⟨Nat.le_of_ble_eq_true rfl, Nat.le_of_ble_eq_true rfl⟩) (hPW.preV hP hS (ci := 6) rfl (by omega) mw_o) rfl rfl hl.1 rfl (lv_room (Nat.le_of_ble_eq_true rfl)) dX4_suspectAt_114 ⟨Nat.le_of_ble_eq_true rfl, Nat.le_of_ble_eq_true rfl⟩) hS (fun r114 u114 H locs h114 hP hS => ?_)
                rcases h114 with ⟨rfl, h114⟩ | ⟨rfl, h114⟩
                · refine lv_if_eq (tgt := 141) hx hb dX4_suspectAt_117 (by decide) (fun c117 => absurd c117 (by decide)) (fun c117 => ?_)
                  refine lv_iload hx hb dX4_suspectAt_120 (lv_at hl 0 rfl) ?_
                  refine lv_if_gt (tgt := 137) hx hb dX4_suspectAt_122 (by decide) (fun c122 => ?_) (fun c122 => ?_)
                  · refine lv_iconst (v := 1) hx hb dX4_suspectAt_137 (by decide) ?_
                    refine lv_goto (tgt := 142) hx hb dX4_suspectAt_138 (by decide) ?_
                    refine lv_iadd hx hb dX4_suspectAt_142 ?_
                    refine lv_istore (lv' := [(6, .int ((saM (st y 0 0 0 0) p0 p1 nb k j) + 1)), (8, .int ((riM (st y 0 0 0 0) j p1 nb) - (riM (st y 0 0 0 0) k p1 nb))), (7, .int (nI j)), (0, .ref (L 106)), (1, .int p0), (2, .int p1), (3, .int p2), (4, .int (sfM (st y 0 0 0 0) p0 p1 p2 nb nn k)), (5, .int (nI k))]) hx hb dX4_suspectAt_143 hl (by decide) rfl (fun ls hl => ?_)
                    obtain ⟨z145, ez145⟩ : ∃ y : Int32, y = nI j + 1 := ⟨_, rfl⟩
                    refine lv_iinc (v := z145) (lv' := [(7, .int z145), (6, .int ((saM (st y 0 0 0 0) p0 p1 nb k j) + 1)), (8, .int ((riM (st y 0 0 0 0) j p1 nb) - (riM (st y 0 0 0 0) k p1 nb))), (0, .ref (L 106)), (1, .int p0), (2, .int p1), (3, .int p2), (4, .int (sfM (st y 0 0 0 0) p0 p1 p2 nb nn k)), (5, .int (nI k))]) hx hb dX4_suspectAt_145 hl (k := 2) rfl (by rw [ez145]; rfl) (by decide) rfl (fun ls hl => ?_)
                    refine lv_goto (tgt := 81) hx hb dX4_suspectAt_148 (by decide) ?_
                    exact ihj (j + 1) _ _ _ _ _ (by omega) (by rw [ez145, nI_1]) (cnP_t ⟨h114, Or.inl c122⟩) hP hS (lv_sub hl [0, 1, 3, 4, 5, 6, 7, 8] rfl)
                  · refine lv_iload hx hb dX4_suspectAt_125 (lv_at hl 0 rfl) ?_
                    refine lv_if_ne (tgt := 141) hx hb dX4_suspectAt_127 (by decide) (fun c127 => ?_) (fun c127 => ?_)
                    · refine lv_iconst (v := 0) hx hb dX4_suspectAt_141 (by decide) ?_
                      refine lv_iadd hx hb dX4_suspectAt_142 ?_
                      refine lv_istore (lv' := [(6, .int ((saM (st y 0 0 0 0) p0 p1 nb k j) + 0)), (8, .int ((riM (st y 0 0 0 0) j p1 nb) - (riM (st y 0 0 0 0) k p1 nb))), (7, .int (nI j)), (0, .ref (L 106)), (1, .int p0), (2, .int p1), (3, .int p2), (4, .int (sfM (st y 0 0 0 0) p0 p1 p2 nb nn k)), (5, .int (nI k))]) hx hb dX4_suspectAt_143 hl (by decide) rfl (fun ls hl => ?_)
                      obtain ⟨z145, ez145⟩ : ∃ y : Int32, y = nI j + 1 := ⟨_, rfl⟩
                      refine lv_iinc (v := z145) (lv' := [(7, .int z145), (6, .int ((saM (st y 0 0 0 0) p0 p1 nb k j) + 0)), (8, .int ((riM (st y 0 0 0 0) j p1 nb) - (riM (st y 0 0 0 0) k p1 nb))), (0, .ref (L 106)), (1, .int p0), (2, .int p1), (3, .int p2), (4, .int (sfM (st y 0 0 0 0) p0 p1 p2 nb nn k)), (5, .int (nI k))]) hx hb dX4_suspectAt_145 hl (k := 2) rfl (by rw [ez145]; rfl) (by decide) rfl (fun ls hl => ?_)
                      refine lv_goto (tgt := 81) hx hb dX4_suspectAt_148 (by decide) ?_
                      exact ihj (j + 1) _ _ _ _ _ (by omega) (by rw [ez145, nI_1]) (cnP_f (fun h9 => h9.2.elim c122 (fun h8 => c127 h8.1))) hP hS (lv_sub hl [0, 1, 3, 4, 5, 6, 7, 8] rfl)
                    · refine lv_iload hx hb dX4_suspectAt_130 (lv_at hl 1 rfl) ?_
                      refine lv_iload hx hb dX4_suspectAt_132 (lv_at hl 8 rfl) ?_
                      refine lv_icmp_ge (tgt := 141) hx hb dX4_suspectAt_134 (by decide) (fun c134 => ?_) (fun c134 => ?_)
                      · refine lv_iconst (v := 0) hx hb dX4_suspectAt_141 (by decide) ?_
                        refine lv_iadd hx hb dX4_suspectAt_142 ?_
                        refine lv_istore (lv' := [(6, .int ((saM (st y 0 0 0 0) p0 p1 nb k j) + 0)), (8, .int ((riM (st y 0 0 0 0) j p1 nb) - (riM (st y 0 0 0 0) k p1 nb))), (7, .int (nI j)), (0, .ref (L 106)), (1, .int p0), (2, .int p1), (3, .int p2), (4, .int (sfM (st y 0 0 0 0) p0 p1 p2 nb nn k)), (5, .int (nI k))]) hx hb dX4_suspectAt_143 hl (by decide) rfl (fun ls hl => ?_)
                        obtain ⟨z145, ez145⟩ : ∃ y : Int32, y = nI j + 1 := ⟨_, rfl⟩
                        refine lv_iinc (v := z145) (lv' := [(7, .int z145), (6, .int ((saM (st y 0 0 0 0) p0 p1 nb k j) + 0)), (8, .int ((riM (st y 0 0 0 0) j p1 nb) - (riM (st y 0 0 0 0) k p1 nb))), (0, .ref (L 106)), (1, .int p0), (2, .int p1), (3, .int p2), (4, .int (sfM (st y 0 0 0 0) p0 p1 p2 nb nn k)), (5, .int (nI k))]) hx hb dX4_suspectAt_145 hl (k := 2) rfl (by rw [ez145]; rfl) (by decide) rfl (fun ls hl => ?_)
                        refine lv_goto (tgt := 81) hx hb dX4_suspectAt_148 (by decide) ?_
                        exact ihj (j + 1) _ _ _ _ _ (by omega) (by rw [ez145, nI_1]) (cnP_f (fun h9 => h9.2.elim c122 (fun h8 => h8.2 c134))) hP hS (lv_sub hl [0, 1, 3, 4, 5, 6, 7, 8] rfl)
                      · refine lv_iconst (v := 1) hx hb dX4_suspectAt_137 (by decide) ?_
                        refine lv_goto (tgt := 142) hx hb dX4_suspectAt_138 (by decide) ?_
                        refine lv_iadd hx hb dX4_suspectAt_142 ?_
                        refine lv_istore (lv' := [(6, .int ((saM (st y 0 0 0 0) p0 p1 nb k j) + 1)), (8, .int ((riM (st y 0 0 0 0) j p1 nb) - (riM (st y 0 0 0 0) k p1 nb))), (7, .int (nI j)), (0, .ref (L 106)), (1, .int p0), (2, .int p1), (3, .int p2), (4, .int (sfM (st y 0 0 0 0) p0 p1 p2 nb nn k)), (5, .int (nI k))]) hx hb dX4_suspectAt_143 hl (by decide) rfl (fun ls hl => ?_)
                        obtain ⟨z145, ez145⟩ : ∃ y : Int32, y = nI j + 1 := ⟨_, rfl⟩
                        refine lv_iinc (v := z145) (lv' := [(7, .int z145), (6, .int ((saM (st y 0 0 0 0) p0 p1 nb k j) + 1)), (8, .int ((riM (st y 0 0 0 0) j p1 nb) - (riM (st y 0 0 0 0) k p1 nb))), (0, .ref (L 106)), (1, .int p0), (2, .int p1), (3, .int p2), (4, .int (sfM (st y 0 0 0 0) p0 p1 p2 nb nn k)), (5, .int (nI k))]) hx hb dX4_suspectAt_145 hl (k := 2) rfl (by rw [ez145]; rfl) (by decide) rfl (fun ls hl => ?_)
                        refine lv_goto (tgt := 81) hx hb dX4_suspectAt_148 (by decide) ?_
                        exact ihj (j + 1) _ _ _ _ _ (by omega) (by rw [ez145, nI_1]) (cnP_t ⟨h114, Or.inr ⟨c127, c134⟩⟩) hP hS (lv_sub hl [0, 1, 3, 4, 5, 6, 7, 8] rfl)
                · refine lv_if_eq (tgt := 141) hx hb dX4_suspectAt_117 (by decide) (fun c117 => ?_) (fun c117 => absurd (by decide) c117)
                  refine lv_iconst (v := 0) hx hb dX4_suspectAt_141 (by decide) ?_
                  refine lv_iadd hx hb dX4_suspectAt_142 ?_
                  refine lv_istore (lv' := [(6, .int ((saM (st y 0 0 0 0) p0 p1 nb k j) + 0)), (8, .int ((riM (st y 0 0 0 0) j p1 nb) - (riM (st y 0 0 0 0) k p1 nb))), (7, .int (nI j)), (0, .ref (L 106)), (1, .int p0), (2, .int p1), (3, .int p2), (4, .int (sfM (st y 0 0 0 0) p0 p1 p2 nb nn k)), (5, .int (nI k))]) hx hb dX4_suspectAt_143 hl (by decide) rfl (fun ls hl => ?_)
                  obtain ⟨z145, ez145⟩ : ∃ y : Int32, y = nI j + 1 := ⟨_, rfl⟩
                  refine lv_iinc (v := z145) (lv' := [(7, .int z145), (6, .int ((saM (st y 0 0 0 0) p0 p1 nb k j) + 0)), (8, .int ((riM (st y 0 0 0 0) j p1 nb) - (riM (st y 0 0 0 0) k p1 nb))), (0, .ref (L 106)), (1, .int p0), (2, .int p1), (3, .int p2), (4, .int (sfM (st y 0 0 0 0) p0 p1 p2 nb nn k)), (5, .int (nI k))]) hx hb dX4_suspectAt_145 hl (k := 2) rfl (by rw [ez145]; rfl) (by decide) rfl (fun ls hl => ?_)
                  refine lv_goto (tgt := 81) hx hb dX4_suspectAt_148 (by decide) ?_
                  exact ihj (j + 1) _ _ _ _ _ (by omega) (by rw [ez145, nI_1]) (cnP_f (fun h9 => h114 h9.1)) hP hS (lv_sub hl [0, 1, 3, 4, 5, 6, 7, 8] rfl)
            exact key81 nn 0 _ _ _ _ _ (by omega) rfl rfl hP hS (lv_sub hl [0, 1, 4, 5, 6, 7, 3, 2] rfl)
        exact key66 nn 0 _ _ _ _ _ (by omega) rfl rfl hP hS (lv_sub hl [0, 1, 2, 3, 4, 5] rfl)
      · refine lv_if_ne (tgt := 50) hx hb dX4_suspectAt_43 (by decide) (fun c43 => absurd c43 (by decide)) (fun c43 => ?_)
        refine lv_iconst (v := 1) hx hb dX4_suspectAt_46 (by decide) ?_
        refine lv_goto (tgt := 51) hx hb dX4_suspectAt_47 (by decide) ?_
        refine lv_iconst (v := 2) hx hb dX4_suspectAt_51 (by decide) ?_
        refine wx_calli (va_runV (As := [.int 1, .int 2]) (rest := []) ⟨hx, hb, hml, hown, hts⟩ (m_fails l hst g base n L (by omega) (st y 0 0 0 0) ch r0 st_eq 1 2 (by decide)) (cwV 2 hts gX4_suspectAt_X4_fails rfl rfl rfl (by decide +kernel) ⟨Nat.le_of_ble_eq_true rfl, Nat.le_of_ble_eq_true rfl⟩) (hPW.preV hP hS (ci := 6) rfl (by omega) mw_o) rfl rfl hl.1 rfl (lv_room (Nat.le_of_ble_eq_true rfl)) dX4_suspectAt_52 ⟨Nat.le_of_ble_eq_true rfl, Nat.le_of_ble_eq_true rfl⟩) hS (fun r52 u52 H locs h52 hP hS => ?_)
        obtain ⟨rfl, -, e9⟩ : r52 = 1 ∧ True ∧ u52 = st (st y 0 0 0 0) 0 0 0 2 := by rcases h52 with ⟨-, b, -⟩ | ⟨a, -, b⟩; exact absurd b (by decide); exact ⟨a, trivial, b⟩
        have e9 := e9.symm
        subst e9
        refine lv_if_eq (tgt := 60) hx hb dX4_suspectAt_55 (by decide) (fun c55 => absurd c55 (by decide)) (fun c55 => ?_)
        refine lv_iconst (v := 0) hx hb dX4_suspectAt_58 (by decide) ?_
        refine W.widen (k := 0) (n := 0) (Nat.le_of_ble_eq_true rfl) (Nat.le_of_ble_eq_true rfl) ?_
        exact W.iret (v := 0) hx hb hr (fun t ht hW => ⟨⟨0, (st (st y 0 0 0 0) 0 0 0 2, ch), rfl, Or.inr ⟨(by have h9 := dsOK hd7 ed7; (try revert c14 h9); (try simp only [xor_m1]); (try simp only [Int32.lt_iff_toInt_lt, Int32.le_iff_toInt_le, ← Int32.toInt_inj, i_0, i_1, i_2, i_3, i_4, i_6, i_9, i_20, i_32, i_40, i_48, i_60, i_200, i_999, i_2000, i_m1, i_8]); (try simp only [i_8, i_7]); omega), Or.inl ⟨h40, rfl⟩⟩, PB.mk9 hP ht⟩, hS.F ht⟩) hS.2.2 dX4_suspectAt_59
    · refine lv_iconst (v := 1) hx hb dX4_suspectAt_17 (by decide) ?_
      refine lv_goto (tgt := 22) hx hb dX4_suspectAt_18 (by decide) ?_
      refine lv_iconst (v := 1) hx hb dX4_suspectAt_22 (by decide) ?_
      refine wx_calli (va_runV (As := [.int 1, .int 1]) (rest := []) ⟨hx, hb, hml, hown, hts⟩ (m_fails l hst g base n L (by omega) (st y 0 0 0 0) ch r0 st_eq 1 1 (by decide)) (cwV 2 hts gX4_suspectAt_X4_fails rfl rfl rfl (by decide +kernel) ⟨Nat.le_of_ble_eq_true rfl, Nat.le_of_ble_eq_true rfl⟩) (hPW.preV hP hS (ci := 6) rfl (by omega) mw_o) rfl rfl hl.1 rfl (lv_room (Nat.le_of_ble_eq_true rfl)) dX4_suspectAt_23 ⟨Nat.le_of_ble_eq_true rfl, Nat.le_of_ble_eq_true rfl⟩) hS (fun r23 u23 H locs h23 hP hS => ?_)
      obtain ⟨rfl, -, e9⟩ : r23 = 1 ∧ True ∧ u23 = st (st y 0 0 0 0) 0 0 0 1 := by rcases h23 with ⟨-, b, -⟩ | ⟨a, -, b⟩; exact absurd b (by decide); exact ⟨a, trivial, b⟩
      have e9 := e9.symm
      subst e9
      refine lv_if_ne (tgt := 58) hx hb dX4_suspectAt_26 (by decide) (fun c26 => ?_) (fun c26 => absurd c26 (by decide))
      refine lv_iconst (v := 0) hx hb dX4_suspectAt_58 (by decide) ?_
      refine W.widen (k := 0) (n := 0) (Nat.le_of_ble_eq_true rfl) (Nat.le_of_ble_eq_true rfl) ?_
      exact W.iret (v := 0) hx hb hr (fun t ht hW => ⟨⟨0, (st (st y 0 0 0 0) 0 0 0 1, ch), rfl, Or.inl ⟨(by have h9 := dsOK hd7 ed7; (try revert c14 h9); (try simp only [xor_m1]); (try simp only [Int32.lt_iff_toInt_lt, Int32.le_iff_toInt_le, ← Int32.toInt_inj, i_0, i_1, i_2, i_3, i_4, i_6, i_9, i_20, i_32, i_40, i_48, i_60, i_200, i_999, i_2000, i_m1, i_8]); (try simp only [i_8, i_7]); omega), rfl⟩, PB.mk9 hP ht⟩, hS.F ht⟩) hS.2.2 dX4_suspectAt_59

set_option maxHeartbeats 4000000 in
set_option maxRecDepth 100000 in
theorem m_worst (l : Launch) (hst : l.stackTraces = false) (g : gE) (base n : Nat) (L : Nat → Nat) (hn : 123 ≤ n) (y : St) (ch : Int64) (r0 : Nat → va_E) (nb nn : Nat) (hM : MI y nb nn) (p0 : Int32) : Met l yX4_worst wsX4_worst ({ frames := 2, cells := 0, slots := 0, locals := 120 }) (va_Pc [.ref (L 106), .int p0] (PW SS g base n L (mw g L y ch r0))) (va_Qi (fun (r : Int32) (u : MS) => ((p0.toInt < 0 ∨ nb ≤ p0.toInt) ∧ u = (st (st y 0 0 0 0) 0 0 0 1, ch)) ∨ (∃ j, j < nb ∧ p0 = nI j ∧ u = (st y 0 0 0 0, ch) ∧ r = woM (st y 0 0 0 0) j 32)) (fun (u : MS) t => PB g n L (mw g L u.1 u.2 r0) t) (fun q => base ≤ q)) 0 0 (fun q => base ≤ q) := by
  refine Met.ofW (cc := cX4_worst) (maxL := 4) (ret := (some .int)) (by decide) rfl ?_
  intro p e s m args below meth c s₁ B hml hv
  obtain ⟨rfl, hPW⟩ := hv
  obtain ⟨hbs, hJ, hP, hK, hE⟩ := id hPW
  have hx := B.exec
  have hb := B.bytes
  have hr := B.returns
  have hts := atoms_spec (ws := wsX4_worst) B.pre
  have hown : s.vm.findClass RX4 = some m.cls := findClass_of_methodNamed B.named
  have hlocks := B.notSynchronized
  have hS : va_S (fun q : Nat => base ≤ q) s.heap s.heap [] := va_S.rf
  have hl := lv_entry ([.ref (L 106), .int p0]) (n := 4) (Nat.le_of_ble_eq_true rfl)
  rw [lg_entry_eq]
  generalize (lg_sl ([.ref (L 106), .int p0]) ++ List.replicate (4 - (lg_sl ([.ref (L 106), .int p0])).length) Slot.unset).toArray = ls at hl ⊢
  have hl : lv_has ls 4 [(0, .ref (L 106)), (1, .int p0)] := hl
  have iX4 : ∀ w ∈ wsX40, w ∈ wsX4_worst := by decide +kernel
  have hnb := hM.nb6
  have hnn := hM.nn40
  have hy3 := hM.y3
  have hy4 := hM.y4
  have hT3 : (st y 0 0 0 0) 3 0 0 = nI nb := (st_nr (by omega)).trans hy3
  have hT4 : (st y 0 0 0 0) 4 0 0 = nI nn := (st_nr (by omega)).trans hy4
  refine lv_aload_n hx hb dX4_worst_0 rfl (lv_at hl 0 rfl) ?_
  refine lv_iconst (v := 0) hx hb dX4_worst_1 (by decide) ?_
  refine wx_put (D := g.1) (cl := vwCl) (ci := 6) (v := .int 0) (ty := .int) (w' := mw g L (st y 0 0 0 0) ch r0) (C := RX4) (T := TX4) (N := 22) hx hb hts iX4 tyX4 tyX4_ok nmX4 hown hK hP hJ hS (106) (by omega) mw_o rfl 0 (by decide) (hts (.fieldLink RX4 64 "FerroDeskModel" "thrown" "I") (by decide +kernel)) (fun _ h9 => h9) rfl (by decide +kernel) rfl rfl (Nat.le_of_ble_eq_true rfl) dX4_worst_2 (mw_put (r := 0) (i := 0) (j := 0) rfl (by omega) (mk_o.trans (by simp [mF, st]))) (fun H locs hP hS => ?_)
  refine lv_aload_n hx hb dX4_worst_5 rfl (lv_at hl 0 rfl) ?_
  refine lv_aload_n hx hb dX4_worst_6 rfl (lv_at hl 0 rfl) ?_
  refine lv_iload_n hx hb dX4_worst_7 rfl (lv_at hl 1 rfl) ?_
  refine wx_calli (va_runV (As := [.int p0]) (rest := [.ref (L 106)]) ⟨hx, hb, hml, hown, hts⟩ (m_noBoard l hst g base n L (by omega) (st y 0 0 0 0) ch r0 nb hnb (by repeat (first | exact hy3 | rw [st_nr (by omega)])) p0) (cwV 1 hts gX4_worst_X4_noBoard rfl rfl rfl (by decide +kernel) ⟨Nat.le_of_ble_eq_true rfl, Nat.le_of_ble_eq_true rfl⟩) (hPW.preV hP hS (ci := 6) rfl (by omega) mw_o) rfl rfl hl.1 rfl (lv_room (Nat.le_of_ble_eq_true rfl)) dX4_worst_8 ⟨Nat.le_of_ble_eq_true rfl, Nat.le_of_ble_eq_true rfl⟩) hS (fun r8 u8 H locs h8 hP hS => ?_)
  rcases h8 with ⟨rfl, h8⟩ | ⟨rfl, j8, hj8, rfl⟩
  · refine lv_iconst (v := 1) hx hb dX4_worst_11 (by decide) ?_
    refine wx_calli (va_runV (As := [.int 1, .int 1]) (rest := []) ⟨hx, hb, hml, hown, hts⟩ (m_fails l hst g base n L (by omega) (st y 0 0 0 0) ch r0 st_eq 1 1 (by decide)) (cwV 2 hts gX4_worst_X4_fails rfl rfl rfl (by decide +kernel) ⟨Nat.le_of_ble_eq_true rfl, Nat.le_of_ble_eq_true rfl⟩) (hPW.preV hP hS (ci := 6) rfl (by omega) mw_o) rfl rfl hl.1 rfl (lv_room (Nat.le_of_ble_eq_true rfl)) dX4_worst_12 ⟨Nat.le_of_ble_eq_true rfl, Nat.le_of_ble_eq_true rfl⟩) hS (fun r12 u12 H locs h12 hP hS => ?_)
    obtain ⟨rfl, -, e9⟩ : r12 = 1 ∧ True ∧ u12 = st (st y 0 0 0 0) 0 0 0 1 := by rcases h12 with ⟨-, b, -⟩ | ⟨a, -, b⟩; exact absurd b (by decide); exact ⟨a, trivial, b⟩
    have e9 := e9.symm
    subst e9
    refine lv_if_eq (tgt := 20) hx hb dX4_worst_15 (by decide) (fun c15 => absurd c15 (by decide)) (fun c15 => ?_)
    refine lv_iconst (v := 0) hx hb dX4_worst_18 (by decide) ?_
    refine W.widen (k := 0) (n := 0) (Nat.le_of_ble_eq_true rfl) (Nat.le_of_ble_eq_true rfl) ?_
    exact W.iret (v := 0) hx hb hr (fun t ht hW => ⟨⟨0, (st (st y 0 0 0 0) 0 0 0 1, ch), rfl, Or.inl ⟨h8, rfl⟩, PB.mk9 hP ht⟩, hS.F ht⟩) hS.2.2 dX4_worst_19
  · refine lv_iconst (v := 1) hx hb dX4_worst_11 (by decide) ?_
    refine wx_calli (va_runV (As := [.int 0, .int 1]) (rest := []) ⟨hx, hb, hml, hown, hts⟩ (m_fails l hst g base n L (by omega) (st y 0 0 0 0) ch r0 st_eq 0 1 (by decide)) (cwV 2 hts gX4_worst_X4_fails rfl rfl rfl (by decide +kernel) ⟨Nat.le_of_ble_eq_true rfl, Nat.le_of_ble_eq_true rfl⟩) (hPW.preV hP hS (ci := 6) rfl (by omega) mw_o) rfl rfl hl.1 rfl (lv_room (Nat.le_of_ble_eq_true rfl)) dX4_worst_12 ⟨Nat.le_of_ble_eq_true rfl, Nat.le_of_ble_eq_true rfl⟩) hS (fun r12 u12 H locs h12 hP hS => ?_)
    obtain ⟨rfl, -, e9⟩ : r12 = 0 ∧ True ∧ u12 = st y 0 0 0 0 := by rcases h12 with ⟨a, -, b⟩ | ⟨-, b, -⟩; exact ⟨a, trivial, b⟩; exact absurd rfl b
    have e9 := e9.symm
    subst e9
    refine lv_if_eq (tgt := 20) hx hb dX4_worst_15 (by decide) (fun c15 => ?_) (fun c15 => absurd (by decide) c15)
    refine lv_iconst (v := 0) hx hb dX4_worst_20 (by decide) ?_
    refine lv_istore_n (lv' := [(2, .int 0), (0, .ref (L 106)), (1, .int (nI j8))]) hx hb dX4_worst_21 rfl hl (by decide) rfl (fun ls hl => ?_)
    refine lv_iconst (v := 0) hx hb dX4_worst_22 (by decide) ?_
    refine lv_istore_n (lv' := [(3, .int 0), (2, .int 0), (0, .ref (L 106)), (1, .int (nI j8))]) hx hb dX4_worst_23 rfl hl (by decide) rfl (fun ls hl => ?_)
    have key24 : ∀ (d k : Nat) (z3 : Int32) (z2 : Int32) (H : Heap) (locs : List Loc) (ls : Array Slot), k + d = 32 → (z3 = nI k) → (z2 = woM (st y 0 0 0 0) j8 k) → va_P g.1 vwCl (wl n L (mw g L (st y 0 0 0 0) ch r0)) H → va_S (fun q : Nat => base ≤ q) s.heap H locs → lv_has ls 4 [(3, .int z3), (2, .int z2), (0, .ref (L 106)), (1, .int (nI j8))] → W p l e (headSpec wsX4_worst ({ frames := 2, cells := 0, slots := 0, locals := 120 })).room s m ([.ref (L 106), .int (nI j8)] : List Value).toArray below meth c H locs (0 + 0 + 0) (0 + 0 + 0) (MQ below (va_Qi (fun (r : Int32) (u : MS) => (((nI j8).toInt < 0 ∨ nb ≤ (nI j8).toInt) ∧ u = (st (st y 0 0 0 0) 0 0 0 1, ch)) ∨ (∃ j, j < nb ∧ (nI j8) = nI j ∧ u = (st y 0 0 0 0, ch) ∧ r = woM (st y 0 0 0 0) j 32)) (fun (u : MS) t => PB g n L (mw g L u.1 u.2 r0) t) (fun q => base ≤ q)) ([.ref (L 106), .int (nI j8)] : List Value).toArray s 0 0 (fun q => base ≤ q)) (F0 m 24 ls []) := by
      intro d
      induction d with
      | zero =>
        intro k z3 z2 H locs ls hkd ek3 ek2 hP hS hl
        obtain rfl : k = 32 := by omega
        subst ek3 ek2
        refine lv_iload_n hx hb dX4_worst_24 rfl (lv_at hl 0 rfl) ?_
        refine lv_bipush (v := 32) hx hb dX4_worst_25 (by decide) ?_
        refine lv_icmp_ge (tgt := 52) hx hb dX4_worst_27 (by decide) (fun c27 => ?_) (fun c27 => absurd (by decide) c27)
        refine lv_iload_n hx hb dX4_worst_52 rfl (lv_at hl 1 rfl) ?_
        refine W.widen (k := 0) (n := 0) (Nat.le_of_ble_eq_true rfl) (Nat.le_of_ble_eq_true rfl) ?_
        exact W.iret (v := woM (st y 0 0 0 0) j8 32) hx hb hr (fun t ht hW => ⟨⟨woM (st y 0 0 0 0) j8 32, (st y 0 0 0 0, ch), rfl, Or.inr ⟨j8, hj8, rfl, rfl, rfl⟩, PB.mk9 hP ht⟩, hS.F ht⟩) hS.2.2 dX4_worst_53
      | succ d ih =>
        intro k z3 z2 H locs ls hkd ek3 ek2 hP hS hl
        have hkN : k < 32 := by omega
        subst ek3 ek2
        refine lv_iload_n hx hb dX4_worst_24 rfl (lv_at hl 0 rfl) ?_
        refine lv_bipush (v := 32) hx hb dX4_worst_25 (by decide) ?_
        refine lv_icmp_ge (tgt := 52) hx hb dX4_worst_27 (by decide) (fun c27 => absurd c27 (nI_ge (b := 32) hkN (by decide))) (fun c27 => ?_)
        refine lv_iload_n hx hb dX4_worst_30 rfl (lv_at hl 1 rfl) ?_
        refine lv_aload_n hx hb dX4_worst_31 rfl (lv_at hl 2 rfl) ?_
        refine wx_get (D := g.1) (cl := vwCl) (ci := 6) (v := .ref (L 113)) (C := RX4) (T := TX4) (N := 22) hx hb hts iX4 hown hK hP (106) (by omega) mw_o rfl 12 (by decide) (hts (.fieldLink RX4 33 "FerroDeskModel" "wear" "[I") (by decide +kernel)) (fun _ h9 => h9) rfl dX4_worst_32 ?_
        refine lv_bipush (v := 32) hx hb dX4_worst_35 (by decide) ?_
        refine lv_iload_n hx hb dX4_worst_37 rfl (lv_at hl 3 rfl) ?_
        refine lv_imul hx hb dX4_worst_38 ?_
        refine lv_iload_n hx hb dX4_worst_39 rfl (lv_at hl 0 rfl) ?_
        refine lv_iadd hx hb dX4_worst_40 ?_
        refine wx_ialdv (D := g.1) (cl := vwCl) (N := 192) (f := fun j9 => (st y 0 0 0 0) 16 0 j9) (v := (st y 0 0 0 0) 16 0 (32 * j8 + k)) hx hb hK hP (113) 0 (by omega) (mw_a (by decide) (by decide)) rfl (i := (32 * (nI j8)) + (nI k)) (by simp only [m32, nI_add]; exact vp_in_nI (by omega) (by decide)) (by simp only [m32, nI_add]; rw [nI_clamp (by omega)]) dX4_worst_41 ?_
        refine wx_calli (va_runS (As := [.int (woM (st y 0 0 0 0) j8 k), .int ((st y 0 0 0 0) 16 0 (32 * j8 + k))]) (rest := []) ⟨hx, hb, hml, hown, hts⟩ (m_most l hst g base n L (mw g L (st y 0 0 0 0) ch r0) (woM (st y 0 0 0 0) j8 k) ((st y 0 0 0 0) 16 0 (32 * j8 + k))) (va_cwS 2 hts gX4_worst_X4_most rfl rfl rfl (by decide +kernel) ⟨Nat.le_of_ble_eq_true rfl, Nat.le_of_ble_eq_true rfl⟩) (hPW.preS hP hS) rfl rfl hl.1 rfl (lv_room (Nat.le_of_ble_eq_true rfl)) dX4_worst_42 ⟨Nat.le_of_ble_eq_true rfl, Nat.le_of_ble_eq_true rfl⟩) hS (fun r42 u42 H locs h42 hP hS => ?_)
        obtain rfl := h42
        refine lv_istore_n (lv' := [(2, .int (moI (woM (st y 0 0 0 0) j8 k) ((st y 0 0 0 0) 16 0 (32 * j8 + k)))), (3, .int (nI k)), (0, .ref (L 106)), (1, .int (nI j8))]) hx hb dX4_worst_45 rfl hl (by decide) rfl (fun ls hl => ?_)
        obtain ⟨z46, ez46⟩ : ∃ y : Int32, y = nI k + 1 := ⟨_, rfl⟩
        refine lv_iinc (v := z46) (lv' := [(3, .int z46), (2, .int (moI (woM (st y 0 0 0 0) j8 k) ((st y 0 0 0 0) 16 0 (32 * j8 + k)))), (0, .ref (L 106)), (1, .int (nI j8))]) hx hb dX4_worst_46 hl (k := 1) rfl (by rw [ez46]; rfl) (by decide) rfl (fun ls hl => ?_)
        refine lv_goto (tgt := 24) hx hb dX4_worst_49 (by decide) ?_
        exact ih (k + 1) _ _ _ _ _ (by omega) (by rw [ez46, nI_1]) rfl hP hS (lv_sub hl [0, 1, 2, 3] rfl)
    exact key24 32 0 _ _ _ _ _ (by omega) rfl rfl hP hS (lv_sub hl [0, 1, 2, 3] rfl)

set_option maxHeartbeats 4000000 in
set_option maxRecDepth 100000 in
theorem m_checksum (l : Launch) (hst : l.stackTraces = false) (g : gE) (base n : Nat) (L : Nat → Nat) (hn : 123 ≤ n) (y : St) (ch : Int64) (r0 : Nat → va_E) (nb nn : Nat) (hM : MI y nb nn) : Met l yX4_checksum wsX4_checksum ({ frames := 1, cells := 0, slots := 0, locals := 60 }) (va_Pc [.ref (L 106)] (PW SS g base n L (mw g L y ch r0))) (va_Ql (fun (r : Int64) (u : MS) => u = (st y 0 0 0 0, ch) ∧ r = csM (st y 0 0 0 0) (32 * nb)) (fun (u : MS) t => PB g n L (mw g L u.1 u.2 r0) t) (fun q => base ≤ q)) 0 0 (fun q => base ≤ q) := by
  refine Met.ofW (cc := cX4_checksum) (maxL := 4) (ret := (some .long)) (by decide) rfl ?_
  intro p e s m args below meth c s₁ B hml hv
  obtain ⟨rfl, hPW⟩ := hv
  obtain ⟨hbs, hJ, hP, hK, hE⟩ := id hPW
  have hx := B.exec
  have hb := B.bytes
  have hr := B.returns
  have hts := atoms_spec (ws := wsX4_checksum) B.pre
  have hown : s.vm.findClass RX4 = some m.cls := findClass_of_methodNamed B.named
  have hlocks := B.notSynchronized
  have hS : va_S (fun q : Nat => base ≤ q) s.heap s.heap [] := va_S.rf
  have hl := lv_entry ([.ref (L 106)]) (n := 4) (Nat.le_of_ble_eq_true rfl)
  rw [lg_entry_eq]
  generalize (lg_sl ([.ref (L 106)]) ++ List.replicate (4 - (lg_sl ([.ref (L 106)])).length) Slot.unset).toArray = ls at hl ⊢
  have hl : lv_has ls 4 [(0, .ref (L 106))] := hl
  have iX4 : ∀ w ∈ wsX40, w ∈ wsX4_checksum := by decide +kernel
  have hnb := hM.nb6
  have hnn := hM.nn40
  have hy3 := hM.y3
  have hy4 := hM.y4
  have hT3 : (st y 0 0 0 0) 3 0 0 = nI nb := (st_nr (by omega)).trans hy3
  have hT4 : (st y 0 0 0 0) 4 0 0 = nI nn := (st_nr (by omega)).trans hy4
  refine lv_aload_n hx hb dX4_checksum_0 rfl (lv_at hl 0 rfl) ?_
  refine lv_iconst (v := 0) hx hb dX4_checksum_1 (by decide) ?_
  refine wx_put (D := g.1) (cl := vwCl) (ci := 6) (v := .int 0) (ty := .int) (w' := mw g L (st y 0 0 0 0) ch r0) (C := RX4) (T := TX4) (N := 22) hx hb hts iX4 tyX4 tyX4_ok nmX4 hown hK hP hJ hS (106) (by omega) mw_o rfl 0 (by decide) (hts (.fieldLink RX4 64 "FerroDeskModel" "thrown" "I") (by decide +kernel)) (fun _ h9 => h9) rfl (by decide +kernel) rfl rfl (Nat.le_of_ble_eq_true rfl) dX4_checksum_2 (mw_put (r := 0) (i := 0) (j := 0) rfl (by omega) (mk_o.trans (by simp [mF, st]))) (fun H locs hP hS => ?_)
  refine lv_lconst (v := 0) hx hb dX4_checksum_5 (by decide) ?_
  refine lv_lstore_n (lv' := [(1, .long 0), (0, .ref (L 106))]) hx hb dX4_checksum_6 rfl hl (by decide) rfl (fun ls hl => ?_)
  refine lv_iconst (v := 0) hx hb dX4_checksum_7 (by decide) ?_
  refine lv_istore_n (lv' := [(3, .int 0), (1, .long 0), (0, .ref (L 106))]) hx hb dX4_checksum_8 rfl hl (by decide) rfl (fun ls hl => ?_)
  have key9 : ∀ (d k : Nat) (z3 : Int32) (z1 : Int64) (H : Heap) (locs : List Loc) (ls : Array Slot), k + d = 32 * nb → (z3 = nI k) → (z1 = csM (st y 0 0 0 0) k) → va_P g.1 vwCl (wl n L (mw g L (st y 0 0 0 0) ch r0)) H → va_S (fun q : Nat => base ≤ q) s.heap H locs → lv_has ls 4 [(3, .int z3), (1, .long z1), (0, .ref (L 106))] → W p l e (headSpec wsX4_checksum ({ frames := 1, cells := 0, slots := 0, locals := 60 })).room s m ([.ref (L 106)] : List Value).toArray below meth c H locs 0 0 (MQ below (va_Ql (fun (r : Int64) (u : MS) => u = (st y 0 0 0 0, ch) ∧ r = csM (st y 0 0 0 0) (32 * nb)) (fun (u : MS) t => PB g n L (mw g L u.1 u.2 r0) t) (fun q => base ≤ q)) ([.ref (L 106)] : List Value).toArray s 0 0 (fun q => base ≤ q)) (F0 m 9 ls []) := by
    intro d
    induction d with
    | zero =>
      intro k z3 z1 H locs ls hkd ek3 ek1 hP hS hl
      obtain rfl : k = 32 * nb := by omega
      subst ek3 ek1
      refine lv_iload_n hx hb dX4_checksum_9 rfl (lv_at hl 0 rfl) ?_
      refine lv_bipush (v := 32) hx hb dX4_checksum_10 (by decide) ?_
      refine lv_aload_n hx hb dX4_checksum_12 rfl (lv_at hl 2 rfl) ?_
      refine wx_get (D := g.1) (cl := vwCl) (ci := 6) (v := .int ((st y 0 0 0 0) 3 0 0)) (C := RX4) (T := TX4) (N := 22) hx hb hts iX4 hown hK hP (106) (by omega) mw_o rfl 3 (by decide) (hts (.fieldLink RX4 67 "FerroDeskModel" "boards" "I") (by decide +kernel)) (fun _ h9 => h9) rfl dX4_checksum_13 ?_
      refine lv_imul hx hb dX4_checksum_16 ?_
      refine lv_icmp_ge (tgt := 60) hx hb dX4_checksum_17 (by decide) (fun c17 => ?_) (fun c17 => absurd (by rw [hT3, m32]; exact nI_le (Nat.le_refl _) (by omega)) c17)
      refine lv_lload_n hx hb dX4_checksum_60 rfl (lv_at hl 1 rfl) ?_
      refine W.widen (k := 0) (n := 0) (Nat.le_of_ble_eq_true rfl) (Nat.le_of_ble_eq_true rfl) ?_
      exact W.lret (v := csM (st y 0 0 0 0) (32 * nb)) hx hb hr (fun t ht hW => ⟨⟨csM (st y 0 0 0 0) (32 * nb), (st y 0 0 0 0, ch), rfl, ⟨rfl, rfl⟩, PB.mk9 hP ht⟩, hS.F ht⟩) hS.2.2 dX4_checksum_61
    | succ d ih =>
      intro k z3 z1 H locs ls hkd ek3 ek1 hP hS hl
      have hkN : k < 32 * nb := by omega
      subst ek3 ek1
      refine lv_iload_n hx hb dX4_checksum_9 rfl (lv_at hl 0 rfl) ?_
      refine lv_bipush (v := 32) hx hb dX4_checksum_10 (by decide) ?_
      refine lv_aload_n hx hb dX4_checksum_12 rfl (lv_at hl 2 rfl) ?_
      refine wx_get (D := g.1) (cl := vwCl) (ci := 6) (v := .int ((st y 0 0 0 0) 3 0 0)) (C := RX4) (T := TX4) (N := 22) hx hb hts iX4 hown hK hP (106) (by omega) mw_o rfl 3 (by decide) (hts (.fieldLink RX4 67 "FerroDeskModel" "boards" "I") (by decide +kernel)) (fun _ h9 => h9) rfl dX4_checksum_13 ?_
      refine lv_imul hx hb dX4_checksum_16 ?_
      refine lv_icmp_ge (tgt := 60) hx hb dX4_checksum_17 (by decide) (fun c17 => absurd c17 (by rw [hT3, m32]; exact nI_ge hkN (by omega))) (fun c17 => ?_)
      refine lv_ldc2 (v := 31) hx hb hown (hts (.constantLong RX4 175 31) (by decide +kernel)) dX4_checksum_20 ?_
      refine lv_lload_n hx hb dX4_checksum_23 rfl (lv_at hl 1 rfl) ?_
      refine lv_lmul hx hb dX4_checksum_24 ?_
      refine lv_aload_n hx hb dX4_checksum_25 rfl (lv_at hl 2 rfl) ?_
      refine wx_get (D := g.1) (cl := vwCl) (ci := 6) (v := .ref (L 112)) (C := RX4) (T := TX4) (N := 22) hx hb hts iX4 hown hK hP (106) (by omega) mw_o rfl 11 (by decide) (hts (.fieldLink RX4 30 "FerroDeskModel" "isBlack" "[Z") (by decide +kernel)) (fun _ h9 => h9) rfl dX4_checksum_26 ?_
      refine lv_iload_n hx hb dX4_checksum_29 rfl (lv_at hl 0 rfl) ?_
      refine wx_zaldv (D := g.1) (cl := vwCl) (N := 192) (f := fun j9 => (st y 0 0 0 0) 15 0 j9) (v := (st y 0 0 0 0) 15 0 k) hx hb hK hP (112) 3 (by omega) (mw_a (by decide) (by decide)) rfl (i := nI k) (by exact vp_in_nI (by omega) (by decide)) (by rw [nI_clamp (by omega)]) dX4_checksum_30 ?_
      refine lv_if_eq (tgt := 38) hx hb dX4_checksum_31 (by decide) (fun c31 => ?_) (fun c31 => ?_)
      · refine lv_iconst (v := 0) hx hb dX4_checksum_38 (by decide) ?_
        refine lv_i2l hx hb dX4_checksum_39 rfl ?_
        refine lv_ladd hx hb dX4_checksum_40 ?_
        refine lv_ldc2 (v := 2) hx hb hown (hts (.constantLong RX4 177 2) (by decide +kernel)) dX4_checksum_41 ?_
        refine lv_aload_n hx hb dX4_checksum_44 rfl (lv_at hl 2 rfl) ?_
        refine wx_get (D := g.1) (cl := vwCl) (ci := 6) (v := .ref (L 113)) (C := RX4) (T := TX4) (N := 22) hx hb hts iX4 hown hK hP (106) (by omega) mw_o rfl 12 (by decide) (hts (.fieldLink RX4 33 "FerroDeskModel" "wear" "[I") (by decide +kernel)) (fun _ h9 => h9) rfl dX4_checksum_45 ?_
        refine lv_iload_n hx hb dX4_checksum_48 rfl (lv_at hl 0 rfl) ?_
        refine wx_ialdv (D := g.1) (cl := vwCl) (N := 192) (f := fun j9 => (st y 0 0 0 0) 16 0 j9) (v := (st y 0 0 0 0) 16 0 k) hx hb hK hP (113) 0 (by omega) (mw_a (by decide) (by decide)) rfl (i := nI k) (by exact vp_in_nI (by omega) (by decide)) (by rw [nI_clamp (by omega)]) dX4_checksum_49 ?_
        refine lv_i2l hx hb dX4_checksum_50 rfl ?_
        refine lv_lmul hx hb dX4_checksum_51 ?_
        refine lv_ladd hx hb dX4_checksum_52 ?_
        refine lv_lstore_n (lv' := [(1, .long (((31 * (csM (st y 0 0 0 0) k)) + ((0 : Int32).toInt64)) + (2 * (((st y 0 0 0 0) 16 0 k).toInt64)))), (3, .int (nI k)), (0, .ref (L 106))]) hx hb dX4_checksum_53 rfl hl (by decide) rfl (fun ls hl => ?_)
        obtain ⟨z54, ez54⟩ : ∃ y : Int32, y = nI k + 1 := ⟨_, rfl⟩
        refine lv_iinc (v := z54) (lv' := [(3, .int z54), (1, .long (((31 * (csM (st y 0 0 0 0) k)) + ((0 : Int32).toInt64)) + (2 * (((st y 0 0 0 0) 16 0 k).toInt64)))), (0, .ref (L 106))]) hx hb dX4_checksum_54 hl (k := 1) rfl (by rw [ez54]; rfl) (by decide) rfl (fun ls hl => ?_)
        refine lv_goto (tgt := 9) hx hb dX4_checksum_57 (by decide) ?_
        exact ih (k + 1) _ _ _ _ _ (by omega) (by rw [ez54, nI_1]) (by show _ = 31 * csM (st y 0 0 0 0) k + (bz (¬ (st y 0 0 0 0) 15 0 k = 0)).toInt64 + 2 * ((st y 0 0 0 0) 16 0 k).toInt64; rw [bz_f (fun h9 => h9 c31)]) hP hS (lv_sub hl [0, 1, 2] rfl)
      · refine lv_iconst (v := 1) hx hb dX4_checksum_34 (by decide) ?_
        refine lv_goto (tgt := 39) hx hb dX4_checksum_35 (by decide) ?_
        refine lv_i2l hx hb dX4_checksum_39 rfl ?_
        refine lv_ladd hx hb dX4_checksum_40 ?_
        refine lv_ldc2 (v := 2) hx hb hown (hts (.constantLong RX4 177 2) (by decide +kernel)) dX4_checksum_41 ?_
        refine lv_aload_n hx hb dX4_checksum_44 rfl (lv_at hl 2 rfl) ?_
        refine wx_get (D := g.1) (cl := vwCl) (ci := 6) (v := .ref (L 113)) (C := RX4) (T := TX4) (N := 22) hx hb hts iX4 hown hK hP (106) (by omega) mw_o rfl 12 (by decide) (hts (.fieldLink RX4 33 "FerroDeskModel" "wear" "[I") (by decide +kernel)) (fun _ h9 => h9) rfl dX4_checksum_45 ?_
        refine lv_iload_n hx hb dX4_checksum_48 rfl (lv_at hl 0 rfl) ?_
        refine wx_ialdv (D := g.1) (cl := vwCl) (N := 192) (f := fun j9 => (st y 0 0 0 0) 16 0 j9) (v := (st y 0 0 0 0) 16 0 k) hx hb hK hP (113) 0 (by omega) (mw_a (by decide) (by decide)) rfl (i := nI k) (by exact vp_in_nI (by omega) (by decide)) (by rw [nI_clamp (by omega)]) dX4_checksum_49 ?_
        refine lv_i2l hx hb dX4_checksum_50 rfl ?_
        refine lv_lmul hx hb dX4_checksum_51 ?_
        refine lv_ladd hx hb dX4_checksum_52 ?_
        refine lv_lstore_n (lv' := [(1, .long (((31 * (csM (st y 0 0 0 0) k)) + ((1 : Int32).toInt64)) + (2 * (((st y 0 0 0 0) 16 0 k).toInt64)))), (3, .int (nI k)), (0, .ref (L 106))]) hx hb dX4_checksum_53 rfl hl (by decide) rfl (fun ls hl => ?_)
        obtain ⟨z54, ez54⟩ : ∃ y : Int32, y = nI k + 1 := ⟨_, rfl⟩
        refine lv_iinc (v := z54) (lv' := [(3, .int z54), (1, .long (((31 * (csM (st y 0 0 0 0) k)) + ((1 : Int32).toInt64)) + (2 * (((st y 0 0 0 0) 16 0 k).toInt64)))), (0, .ref (L 106))]) hx hb dX4_checksum_54 hl (k := 1) rfl (by rw [ez54]; rfl) (by decide) rfl (fun ls hl => ?_)
        refine lv_goto (tgt := 9) hx hb dX4_checksum_57 (by decide) ?_
        exact ih (k + 1) _ _ _ _ _ (by omega) (by rw [ez54, nI_1]) (by show _ = 31 * csM (st y 0 0 0 0) k + (bz (¬ (st y 0 0 0 0) 15 0 k = 0)).toInt64 + 2 * ((st y 0 0 0 0) 16 0 k).toInt64; rw [bz_t c31]) hP hS (lv_sub hl [0, 1, 2] rfl)
  exact key9 (32 * nb) 0 _ _ _ _ _ (by omega) rfl rfl hP hS (lv_sub hl [0, 1, 2] rfl)

set_option maxHeartbeats 4000000 in
set_option maxRecDepth 100000 in
theorem m_shownShare (l : Launch) (hst : l.stackTraces = false) (g : gE) (base n : Nat) (L : Nat → Nat) (hn : 123 ≤ n) (y : St) (ch : Int64) (r0 : Nat → va_E) (nb nn : Nat) (hM : MI y nb nn) (hfn : nb ≠ 0 → vf_n32 (FP.fdiv (FP.i2f (ssM (st y 0 0 0 0) nb)) (FP.i2f ((st y 0 0 0 0) 3 0 0)))) : Met l yX4_shownShare wsX4_shownShare ({ frames := 1, cells := 0, slots := 0, locals := 60 }) (va_Pc [.ref (L 106)] (PW SS g base n L (mw g L y ch r0))) (va_Qf (fun (r : UInt32) (u : MS) => (nb = 0 ∧ u = (st (st y 0 0 0 0) 0 0 0 1, ch)) ∨ (nb ≠ 0 ∧ u = (st y 0 0 0 0, ch) ∧ r = FP.fdiv (FP.i2f (ssM (st y 0 0 0 0) nb)) (FP.i2f ((st y 0 0 0 0) 3 0 0)))) (fun (u : MS) t => PB g n L (mw g L u.1 u.2 r0) t) (fun q => base ≤ q)) 0 0 (fun q => base ≤ q) := by
  refine Met.ofW (cc := cX4_shownShare) (maxL := 3) (ret := (some .float)) (by decide) rfl ?_
  intro p e s m args below meth c s₁ B hml hv
  obtain ⟨rfl, hPW⟩ := hv
  obtain ⟨hbs, hJ, hP, hK, hE⟩ := id hPW
  have hx := B.exec
  have hb := B.bytes
  have hr := B.returns
  have hts := atoms_spec (ws := wsX4_shownShare) B.pre
  have hown : s.vm.findClass RX4 = some m.cls := findClass_of_methodNamed B.named
  have hlocks := B.notSynchronized
  have hS : va_S (fun q : Nat => base ≤ q) s.heap s.heap [] := va_S.rf
  have hl := lv_entry ([.ref (L 106)]) (n := 3) (Nat.le_of_ble_eq_true rfl)
  rw [lg_entry_eq]
  generalize (lg_sl ([.ref (L 106)]) ++ List.replicate (3 - (lg_sl ([.ref (L 106)])).length) Slot.unset).toArray = ls at hl ⊢
  have hl : lv_has ls 3 [(0, .ref (L 106))] := hl
  have iX4 : ∀ w ∈ wsX40, w ∈ wsX4_shownShare := by decide +kernel
  have hnb := hM.nb6
  have hnn := hM.nn40
  have hy3 := hM.y3
  have hy4 := hM.y4
  have hT3 : (st y 0 0 0 0) 3 0 0 = nI nb := (st_nr (by omega)).trans hy3
  have hT4 : (st y 0 0 0 0) 4 0 0 = nI nn := (st_nr (by omega)).trans hy4
  refine lv_aload_n hx hb dX4_shownShare_0 rfl (lv_at hl 0 rfl) ?_
  refine lv_iconst (v := 0) hx hb dX4_shownShare_1 (by decide) ?_
  refine wx_put (D := g.1) (cl := vwCl) (ci := 6) (v := .int 0) (ty := .int) (w' := mw g L (st y 0 0 0 0) ch r0) (C := RX4) (T := TX4) (N := 22) hx hb hts iX4 tyX4 tyX4_ok nmX4 hown hK hP hJ hS (106) (by omega) mw_o rfl 0 (by decide) (hts (.fieldLink RX4 64 "FerroDeskModel" "thrown" "I") (by decide +kernel)) (fun _ h9 => h9) rfl (by decide +kernel) rfl rfl (Nat.le_of_ble_eq_true rfl) dX4_shownShare_2 (mw_put (r := 0) (i := 0) (j := 0) rfl (by omega) (mk_o.trans (by simp [mF, st]))) (fun H locs hP hS => ?_)
  refine lv_aload_n hx hb dX4_shownShare_5 rfl (lv_at hl 0 rfl) ?_
  refine lv_aload_n hx hb dX4_shownShare_6 rfl (lv_at hl 0 rfl) ?_
  refine wx_get (D := g.1) (cl := vwCl) (ci := 6) (v := .int ((st y 0 0 0 0) 3 0 0)) (C := RX4) (T := TX4) (N := 22) hx hb hts iX4 hown hK hP (106) (by omega) mw_o rfl 3 (by decide) (hts (.fieldLink RX4 67 "FerroDeskModel" "boards" "I") (by decide +kernel)) (fun _ h9 => h9) rfl dX4_shownShare_7 ?_
  refine lv_if_ne (tgt := 17) hx hb dX4_shownShare_10 (by decide) (fun c10 => ?_) (fun c10 => ?_)
  · refine lv_iconst (v := 0) hx hb dX4_shownShare_17 (by decide) ?_
    refine lv_iconst (v := 1) hx hb dX4_shownShare_18 (by decide) ?_
    refine wx_calli (va_runV (As := [.int 0, .int 1]) (rest := []) ⟨hx, hb, hml, hown, hts⟩ (m_fails l hst g base n L (by omega) (st y 0 0 0 0) ch r0 st_eq 0 1 (by decide)) (cwV 2 hts gX4_shownShare_X4_fails rfl rfl rfl (by decide +kernel) ⟨Nat.le_of_ble_eq_true rfl, Nat.le_of_ble_eq_true rfl⟩) (hPW.preV hP hS (ci := 6) rfl (by omega) mw_o) rfl rfl hl.1 rfl (lv_room (Nat.le_of_ble_eq_true rfl)) dX4_shownShare_19 ⟨Nat.le_of_ble_eq_true rfl, Nat.le_of_ble_eq_true rfl⟩) hS (fun r19 u19 H locs h19 hP hS => ?_)
    obtain ⟨rfl, -, e9⟩ : r19 = 0 ∧ True ∧ u19 = st y 0 0 0 0 := by rcases h19 with ⟨a, -, b⟩ | ⟨-, b, -⟩; exact ⟨a, trivial, b⟩; exact absurd rfl b
    have e9 := e9.symm
    subst e9
    refine lv_if_eq (tgt := 27) hx hb dX4_shownShare_22 (by decide) (fun c22 => ?_) (fun c22 => absurd (by decide) c22)
    have hn0 : nb ≠ 0 := fun h8 => c10 (hT3.trans (by rw [h8]; rfl))
    refine lv_iconst (v := 0) hx hb dX4_shownShare_27 (by decide) ?_
    refine lv_istore_n (lv' := [(1, .int 0), (0, .ref (L 106))]) hx hb dX4_shownShare_28 rfl hl (by decide) rfl (fun ls hl => ?_)
    refine lv_iconst (v := 0) hx hb dX4_shownShare_29 (by decide) ?_
    refine lv_istore_n (lv' := [(2, .int 0), (1, .int 0), (0, .ref (L 106))]) hx hb dX4_shownShare_30 rfl hl (by decide) rfl (fun ls hl => ?_)
    have key31 : ∀ (d k : Nat) (z2 : Int32) (z1 : Int32) (H : Heap) (locs : List Loc) (ls : Array Slot), k + d = nb → (z2 = nI k) → (z1 = ssM (st y 0 0 0 0) k) → va_P g.1 vwCl (wl n L (mw g L (st y 0 0 0 0) ch r0)) H → va_S (fun q : Nat => base ≤ q) s.heap H locs → lv_has ls 3 [(2, .int z2), (1, .int z1), (0, .ref (L 106))] → W p l e (headSpec wsX4_shownShare ({ frames := 1, cells := 0, slots := 0, locals := 60 })).room s m ([.ref (L 106)] : List Value).toArray below meth c H locs (0 + 0) (0 + 0) (MQ below (va_Qf (fun (r : UInt32) (u : MS) => (nb = 0 ∧ u = (st (st y 0 0 0 0) 0 0 0 1, ch)) ∨ (nb ≠ 0 ∧ u = (st y 0 0 0 0, ch) ∧ r = FP.fdiv (FP.i2f (ssM (st y 0 0 0 0) nb)) (FP.i2f ((st y 0 0 0 0) 3 0 0)))) (fun (u : MS) t => PB g n L (mw g L u.1 u.2 r0) t) (fun q => base ≤ q)) ([.ref (L 106)] : List Value).toArray s 0 0 (fun q => base ≤ q)) (F0 m 31 ls []) := by
      intro d
      induction d with
      | zero =>
        intro k z2 z1 H locs ls hkd ek2 ek1 hP hS hl
        obtain rfl : nb = k := by omega
        subst ek2 ek1
        refine lv_iload_n hx hb dX4_shownShare_31 rfl (lv_at hl 0 rfl) ?_
        refine lv_aload_n hx hb dX4_shownShare_32 rfl (lv_at hl 2 rfl) ?_
        refine wx_get (D := g.1) (cl := vwCl) (ci := 6) (v := .int ((st y 0 0 0 0) 3 0 0)) (C := RX4) (T := TX4) (N := 22) hx hb hts iX4 hown hK hP (106) (by omega) mw_o rfl 3 (by decide) (hts (.fieldLink RX4 67 "FerroDeskModel" "boards" "I") (by decide +kernel)) (fun _ h9 => h9) rfl dX4_shownShare_33 ?_
        refine lv_icmp_ge (tgt := 63) hx hb dX4_shownShare_36 (by decide) (fun c36 => ?_) (fun c36 => absurd (by rw [hT3]; exact nI_le (Nat.le_refl _) (by omega)) c36)
        refine lv_iload_n hx hb dX4_shownShare_63 rfl (lv_at hl 1 rfl) ?_
        refine lv_i2f hx hb dX4_shownShare_64 ?_
        refine lv_aload_n hx hb dX4_shownShare_65 rfl (lv_at hl 2 rfl) ?_
        refine wx_get (D := g.1) (cl := vwCl) (ci := 6) (v := .int ((st y 0 0 0 0) 3 0 0)) (C := RX4) (T := TX4) (N := 22) hx hb hts iX4 hown hK hP (106) (by omega) mw_o rfl 3 (by decide) (hts (.fieldLink RX4 67 "FerroDeskModel" "boards" "I") (by decide +kernel)) (fun _ h9 => h9) rfl dX4_shownShare_66 ?_
        refine lv_i2f hx hb dX4_shownShare_69 ?_
        refine lv_fdiv hx hb dX4_shownShare_70 (hfn hn0) ?_
        refine W.widen (k := 0) (n := 0) (Nat.le_of_ble_eq_true rfl) (Nat.le_of_ble_eq_true rfl) ?_
        exact W.fret (v := FP.fdiv (FP.i2f (ssM (st y 0 0 0 0) nb)) (FP.i2f ((st y 0 0 0 0) 3 0 0))) hx hb hr (fun t ht hW => ⟨⟨FP.fdiv (FP.i2f (ssM (st y 0 0 0 0) nb)) (FP.i2f ((st y 0 0 0 0) 3 0 0)), (st y 0 0 0 0, ch), rfl, Or.inr ⟨hn0, rfl, rfl⟩, PB.mk9 hP ht⟩, hS.F ht⟩) hS.2.2 dX4_shownShare_71
      | succ d ih =>
        intro k z2 z1 H locs ls hkd ek2 ek1 hP hS hl
        have hkN : k < nb := by omega
        subst ek2 ek1
        refine lv_iload_n hx hb dX4_shownShare_31 rfl (lv_at hl 0 rfl) ?_
        refine lv_aload_n hx hb dX4_shownShare_32 rfl (lv_at hl 2 rfl) ?_
        refine wx_get (D := g.1) (cl := vwCl) (ci := 6) (v := .int ((st y 0 0 0 0) 3 0 0)) (C := RX4) (T := TX4) (N := 22) hx hb hts iX4 hown hK hP (106) (by omega) mw_o rfl 3 (by decide) (hts (.fieldLink RX4 67 "FerroDeskModel" "boards" "I") (by decide +kernel)) (fun _ h9 => h9) rfl dX4_shownShare_33 ?_
        refine lv_icmp_ge (tgt := 63) hx hb dX4_shownShare_36 (by decide) (fun c36 => absurd c36 (by rw [hT3]; exact nI_ge hkN (by omega))) (fun c36 => ?_)
        refine lv_iload_n hx hb dX4_shownShare_39 rfl (lv_at hl 1 rfl) ?_
        refine lv_aload_n hx hb dX4_shownShare_40 rfl (lv_at hl 2 rfl) ?_
        refine wx_get (D := g.1) (cl := vwCl) (ci := 6) (v := .ref (L 109)) (C := RX4) (T := TX4) (N := 22) hx hb hts iX4 hown hK hP (106) (by omega) mw_o rfl 8 (by decide) (hts (.fieldLink RX4 20 "FerroDeskModel" "shown" "[I") (by decide +kernel)) (fun _ h9 => h9) rfl dX4_shownShare_41 ?_
        refine lv_iload_n hx hb dX4_shownShare_44 rfl (lv_at hl 0 rfl) ?_
        refine wx_ialdv (D := g.1) (cl := vwCl) (N := 6) (f := fun j9 => (st y 0 0 0 0) 12 0 j9) (v := (st y 0 0 0 0) 12 0 k) hx hb hK hP (109) 0 (by omega) (mw_a (by decide) (by decide)) rfl (i := nI k) (by exact vp_in_nI (by omega) (by decide)) (by rw [nI_clamp (by omega)]) dX4_shownShare_45 ?_
        refine lv_iconst (v := (-1)) hx hb dX4_shownShare_46 (by decide) ?_
        refine lv_icmp_ne (tgt := 54) hx hb dX4_shownShare_47 (by decide) (fun c47 => ?_) (fun c47 => ?_)
        · refine lv_iconst (v := 1) hx hb dX4_shownShare_54 (by decide) ?_
          refine lv_iadd hx hb dX4_shownShare_55 ?_
          refine lv_istore_n (lv' := [(1, .int ((ssM (st y 0 0 0 0) k) + 1)), (2, .int (nI k)), (0, .ref (L 106))]) hx hb dX4_shownShare_56 rfl hl (by decide) rfl (fun ls hl => ?_)
          obtain ⟨z57, ez57⟩ : ∃ y : Int32, y = nI k + 1 := ⟨_, rfl⟩
          refine lv_iinc (v := z57) (lv' := [(2, .int z57), (1, .int ((ssM (st y 0 0 0 0) k) + 1)), (0, .ref (L 106))]) hx hb dX4_shownShare_57 hl (k := 1) rfl (by rw [ez57]; rfl) (by decide) rfl (fun ls hl => ?_)
          refine lv_goto (tgt := 31) hx hb dX4_shownShare_60 (by decide) ?_
          exact ih (k + 1) _ _ _ _ _ (by omega) (by rw [ez57, nI_1]) (cnP_t c47) hP hS (lv_sub hl [0, 1, 2] rfl)
        · refine lv_iconst (v := 0) hx hb dX4_shownShare_50 (by decide) ?_
          refine lv_goto (tgt := 55) hx hb dX4_shownShare_51 (by decide) ?_
          refine lv_iadd hx hb dX4_shownShare_55 ?_
          refine lv_istore_n (lv' := [(1, .int ((ssM (st y 0 0 0 0) k) + 0)), (2, .int (nI k)), (0, .ref (L 106))]) hx hb dX4_shownShare_56 rfl hl (by decide) rfl (fun ls hl => ?_)
          obtain ⟨z57, ez57⟩ : ∃ y : Int32, y = nI k + 1 := ⟨_, rfl⟩
          refine lv_iinc (v := z57) (lv' := [(2, .int z57), (1, .int ((ssM (st y 0 0 0 0) k) + 0)), (0, .ref (L 106))]) hx hb dX4_shownShare_57 hl (k := 1) rfl (by rw [ez57]; rfl) (by decide) rfl (fun ls hl => ?_)
          refine lv_goto (tgt := 31) hx hb dX4_shownShare_60 (by decide) ?_
          exact ih (k + 1) _ _ _ _ _ (by omega) (by rw [ez57, nI_1]) (cnP_f (fun h9 => h9 c47)) hP hS (lv_sub hl [0, 1, 2] rfl)
    exact key31 nb 0 _ _ _ _ _ (by omega) rfl rfl hP hS (lv_sub hl [0, 1, 2] rfl)
  · refine lv_iconst (v := 1) hx hb dX4_shownShare_13 (by decide) ?_
    refine lv_goto (tgt := 18) hx hb dX4_shownShare_14 (by decide) ?_
    refine lv_iconst (v := 1) hx hb dX4_shownShare_18 (by decide) ?_
    refine wx_calli (va_runV (As := [.int 1, .int 1]) (rest := []) ⟨hx, hb, hml, hown, hts⟩ (m_fails l hst g base n L (by omega) (st y 0 0 0 0) ch r0 st_eq 1 1 (by decide)) (cwV 2 hts gX4_shownShare_X4_fails rfl rfl rfl (by decide +kernel) ⟨Nat.le_of_ble_eq_true rfl, Nat.le_of_ble_eq_true rfl⟩) (hPW.preV hP hS (ci := 6) rfl (by omega) mw_o) rfl rfl hl.1 rfl (lv_room (Nat.le_of_ble_eq_true rfl)) dX4_shownShare_19 ⟨Nat.le_of_ble_eq_true rfl, Nat.le_of_ble_eq_true rfl⟩) hS (fun r19 u19 H locs h19 hP hS => ?_)
    obtain ⟨rfl, -, e9⟩ : r19 = 1 ∧ True ∧ u19 = st (st y 0 0 0 0) 0 0 0 1 := by rcases h19 with ⟨-, b, -⟩ | ⟨a, -, b⟩; exact absurd b (by decide); exact ⟨a, trivial, b⟩
    have e9 := e9.symm
    subst e9
    refine lv_if_eq (tgt := 27) hx hb dX4_shownShare_22 (by decide) (fun c22 => absurd c22 (by decide)) (fun c22 => ?_)
    refine lv_fconst0 hx hb dX4_shownShare_25 ?_
    refine W.widen (k := 0) (n := 0) (Nat.le_of_ble_eq_true rfl) (Nat.le_of_ble_eq_true rfl) ?_
    exact W.fret (v := FP.fconst0) hx hb hr (fun t ht hW => ⟨⟨FP.fconst0, (st (st y 0 0 0 0) 0 0 0 1, ch), rfl, Or.inl ⟨((nI_eq (b := 0) (by omega) (by omega)).mp (hT3.symm.trans c10)), rfl⟩, PB.mk9 hP ht⟩, hS.F ht⟩) hS.2.2 dX4_shownShare_26

set_option maxHeartbeats 4000000 in
set_option maxRecDepth 100000 in
theorem m_meanWear (l : Launch) (hst : l.stackTraces = false) (g : gE) (base n : Nat) (L : Nat → Nat) (hn : 123 ≤ n) (y : St) (ch : Int64) (r0 : Nat → va_E) (nb nn : Nat) (hM : MI y nb nn) (hfn : nb ≠ 0 → vf_n64 (FP.ddiv (FP.i2d (swM (st y 0 0 0 0) (32 * nb))) (FP.i2d (32 * (st y 0 0 0 0) 3 0 0)))) : Met l yX4_meanWear wsX4_meanWear ({ frames := 1, cells := 0, slots := 0, locals := 60 }) (va_Pc [.ref (L 106)] (PW SS g base n L (mw g L y ch r0))) (va_Qd (fun (r : UInt64) (u : MS) => (nb = 0 ∧ u = (st (st y 0 0 0 0) 0 0 0 1, ch)) ∨ (nb ≠ 0 ∧ u = (st y 0 0 0 0, ch) ∧ r = FP.ddiv (FP.i2d (swM (st y 0 0 0 0) (32 * nb))) (FP.i2d (32 * (st y 0 0 0 0) 3 0 0)))) (fun (u : MS) t => PB g n L (mw g L u.1 u.2 r0) t) (fun q => base ≤ q)) 0 0 (fun q => base ≤ q) := by
  refine Met.ofW (cc := cX4_meanWear) (maxL := 3) (ret := (some .double)) (by decide) rfl ?_
  intro p e s m args below meth c s₁ B hml hv
  obtain ⟨rfl, hPW⟩ := hv
  obtain ⟨hbs, hJ, hP, hK, hE⟩ := id hPW
  have hx := B.exec
  have hb := B.bytes
  have hr := B.returns
  have hts := atoms_spec (ws := wsX4_meanWear) B.pre
  have hown : s.vm.findClass RX4 = some m.cls := findClass_of_methodNamed B.named
  have hlocks := B.notSynchronized
  have hS : va_S (fun q : Nat => base ≤ q) s.heap s.heap [] := va_S.rf
  have hl := lv_entry ([.ref (L 106)]) (n := 3) (Nat.le_of_ble_eq_true rfl)
  rw [lg_entry_eq]
  generalize (lg_sl ([.ref (L 106)]) ++ List.replicate (3 - (lg_sl ([.ref (L 106)])).length) Slot.unset).toArray = ls at hl ⊢
  have hl : lv_has ls 3 [(0, .ref (L 106))] := hl
  have iX4 : ∀ w ∈ wsX40, w ∈ wsX4_meanWear := by decide +kernel
  have hnb := hM.nb6
  have hnn := hM.nn40
  have hy3 := hM.y3
  have hy4 := hM.y4
  have hT3 : (st y 0 0 0 0) 3 0 0 = nI nb := (st_nr (by omega)).trans hy3
  have hT4 : (st y 0 0 0 0) 4 0 0 = nI nn := (st_nr (by omega)).trans hy4
  refine lv_aload_n hx hb dX4_meanWear_0 rfl (lv_at hl 0 rfl) ?_
  refine lv_iconst (v := 0) hx hb dX4_meanWear_1 (by decide) ?_
  refine wx_put (D := g.1) (cl := vwCl) (ci := 6) (v := .int 0) (ty := .int) (w' := mw g L (st y 0 0 0 0) ch r0) (C := RX4) (T := TX4) (N := 22) hx hb hts iX4 tyX4 tyX4_ok nmX4 hown hK hP hJ hS (106) (by omega) mw_o rfl 0 (by decide) (hts (.fieldLink RX4 64 "FerroDeskModel" "thrown" "I") (by decide +kernel)) (fun _ h9 => h9) rfl (by decide +kernel) rfl rfl (Nat.le_of_ble_eq_true rfl) dX4_meanWear_2 (mw_put (r := 0) (i := 0) (j := 0) rfl (by omega) (mk_o.trans (by simp [mF, st]))) (fun H locs hP hS => ?_)
  refine lv_aload_n hx hb dX4_meanWear_5 rfl (lv_at hl 0 rfl) ?_
  refine lv_aload_n hx hb dX4_meanWear_6 rfl (lv_at hl 0 rfl) ?_
  refine wx_get (D := g.1) (cl := vwCl) (ci := 6) (v := .int ((st y 0 0 0 0) 3 0 0)) (C := RX4) (T := TX4) (N := 22) hx hb hts iX4 hown hK hP (106) (by omega) mw_o rfl 3 (by decide) (hts (.fieldLink RX4 67 "FerroDeskModel" "boards" "I") (by decide +kernel)) (fun _ h9 => h9) rfl dX4_meanWear_7 ?_
  refine lv_if_ne (tgt := 17) hx hb dX4_meanWear_10 (by decide) (fun c10 => ?_) (fun c10 => ?_)
  · refine lv_iconst (v := 0) hx hb dX4_meanWear_17 (by decide) ?_
    refine lv_iconst (v := 1) hx hb dX4_meanWear_18 (by decide) ?_
    refine wx_calli (va_runV (As := [.int 0, .int 1]) (rest := []) ⟨hx, hb, hml, hown, hts⟩ (m_fails l hst g base n L (by omega) (st y 0 0 0 0) ch r0 st_eq 0 1 (by decide)) (cwV 2 hts gX4_meanWear_X4_fails rfl rfl rfl (by decide +kernel) ⟨Nat.le_of_ble_eq_true rfl, Nat.le_of_ble_eq_true rfl⟩) (hPW.preV hP hS (ci := 6) rfl (by omega) mw_o) rfl rfl hl.1 rfl (lv_room (Nat.le_of_ble_eq_true rfl)) dX4_meanWear_19 ⟨Nat.le_of_ble_eq_true rfl, Nat.le_of_ble_eq_true rfl⟩) hS (fun r19 u19 H locs h19 hP hS => ?_)
    obtain ⟨rfl, -, e9⟩ : r19 = 0 ∧ True ∧ u19 = st y 0 0 0 0 := by rcases h19 with ⟨a, -, b⟩ | ⟨-, b, -⟩; exact ⟨a, trivial, b⟩; exact absurd rfl b
    have e9 := e9.symm
    subst e9
    refine lv_if_eq (tgt := 27) hx hb dX4_meanWear_22 (by decide) (fun c22 => ?_) (fun c22 => absurd (by decide) c22)
    have hn0 : nb ≠ 0 := fun h8 => c10 (hT3.trans (by rw [h8]; rfl))
    refine lv_iconst (v := 0) hx hb dX4_meanWear_27 (by decide) ?_
    refine lv_istore_n (lv' := [(1, .int 0), (0, .ref (L 106))]) hx hb dX4_meanWear_28 rfl hl (by decide) rfl (fun ls hl => ?_)
    refine lv_iconst (v := 0) hx hb dX4_meanWear_29 (by decide) ?_
    refine lv_istore_n (lv' := [(2, .int 0), (1, .int 0), (0, .ref (L 106))]) hx hb dX4_meanWear_30 rfl hl (by decide) rfl (fun ls hl => ?_)
    have key31 : ∀ (d k : Nat) (z2 : Int32) (z1 : Int32) (H : Heap) (locs : List Loc) (ls : Array Slot), k + d = 32 * nb → (z2 = nI k) → (z1 = swM (st y 0 0 0 0) k) → va_P g.1 vwCl (wl n L (mw g L (st y 0 0 0 0) ch r0)) H → va_S (fun q : Nat => base ≤ q) s.heap H locs → lv_has ls 3 [(2, .int z2), (1, .int z1), (0, .ref (L 106))] → W p l e (headSpec wsX4_meanWear ({ frames := 1, cells := 0, slots := 0, locals := 60 })).room s m ([.ref (L 106)] : List Value).toArray below meth c H locs (0 + 0) (0 + 0) (MQ below (va_Qd (fun (r : UInt64) (u : MS) => (nb = 0 ∧ u = (st (st y 0 0 0 0) 0 0 0 1, ch)) ∨ (nb ≠ 0 ∧ u = (st y 0 0 0 0, ch) ∧ r = FP.ddiv (FP.i2d (swM (st y 0 0 0 0) (32 * nb))) (FP.i2d (32 * (st y 0 0 0 0) 3 0 0)))) (fun (u : MS) t => PB g n L (mw g L u.1 u.2 r0) t) (fun q => base ≤ q)) ([.ref (L 106)] : List Value).toArray s 0 0 (fun q => base ≤ q)) (F0 m 31 ls []) := by
      intro d
      induction d with
      | zero =>
        intro k z2 z1 H locs ls hkd ek2 ek1 hP hS hl
        obtain rfl : k = 32 * nb := by omega
        subst ek2 ek1
        refine lv_iload_n hx hb dX4_meanWear_31 rfl (lv_at hl 0 rfl) ?_
        refine lv_bipush (v := 32) hx hb dX4_meanWear_32 (by decide) ?_
        refine lv_aload_n hx hb dX4_meanWear_34 rfl (lv_at hl 2 rfl) ?_
        refine wx_get (D := g.1) (cl := vwCl) (ci := 6) (v := .int ((st y 0 0 0 0) 3 0 0)) (C := RX4) (T := TX4) (N := 22) hx hb hts iX4 hown hK hP (106) (by omega) mw_o rfl 3 (by decide) (hts (.fieldLink RX4 67 "FerroDeskModel" "boards" "I") (by decide +kernel)) (fun _ h9 => h9) rfl dX4_meanWear_35 ?_
        refine lv_imul hx hb dX4_meanWear_38 ?_
        refine lv_icmp_ge (tgt := 57) hx hb dX4_meanWear_39 (by decide) (fun c39 => ?_) (fun c39 => absurd (by rw [hT3, m32]; exact nI_le (Nat.le_refl _) (by omega)) c39)
        refine lv_iload_n hx hb dX4_meanWear_57 rfl (lv_at hl 1 rfl) ?_
        refine lv_i2d hx hb dX4_meanWear_58 ?_
        refine lv_bipush (v := 32) hx hb dX4_meanWear_59 (by decide) ?_
        refine lv_aload_n hx hb dX4_meanWear_61 rfl (lv_at hl 2 rfl) ?_
        refine wx_get (D := g.1) (cl := vwCl) (ci := 6) (v := .int ((st y 0 0 0 0) 3 0 0)) (C := RX4) (T := TX4) (N := 22) hx hb hts iX4 hown hK hP (106) (by omega) mw_o rfl 3 (by decide) (hts (.fieldLink RX4 67 "FerroDeskModel" "boards" "I") (by decide +kernel)) (fun _ h9 => h9) rfl dX4_meanWear_62 ?_
        refine lv_imul hx hb dX4_meanWear_65 ?_
        refine lv_i2d hx hb dX4_meanWear_66 ?_
        refine lv_ddiv hx hb dX4_meanWear_67 (hfn hn0) ?_
        refine W.widen (k := 0) (n := 0) (Nat.le_of_ble_eq_true rfl) (Nat.le_of_ble_eq_true rfl) ?_
        exact W.dret (v := FP.ddiv (FP.i2d (swM (st y 0 0 0 0) (32 * nb))) (FP.i2d (32 * ((st y 0 0 0 0) 3 0 0)))) hx hb hr (fun t ht hW => ⟨⟨FP.ddiv (FP.i2d (swM (st y 0 0 0 0) (32 * nb))) (FP.i2d (32 * ((st y 0 0 0 0) 3 0 0))), (st y 0 0 0 0, ch), rfl, Or.inr ⟨hn0, rfl, rfl⟩, PB.mk9 hP ht⟩, hS.F ht⟩) hS.2.2 dX4_meanWear_68
      | succ d ih =>
        intro k z2 z1 H locs ls hkd ek2 ek1 hP hS hl
        have hkN : k < 32 * nb := by omega
        subst ek2 ek1
        refine lv_iload_n hx hb dX4_meanWear_31 rfl (lv_at hl 0 rfl) ?_
        refine lv_bipush (v := 32) hx hb dX4_meanWear_32 (by decide) ?_
        refine lv_aload_n hx hb dX4_meanWear_34 rfl (lv_at hl 2 rfl) ?_
        refine wx_get (D := g.1) (cl := vwCl) (ci := 6) (v := .int ((st y 0 0 0 0) 3 0 0)) (C := RX4) (T := TX4) (N := 22) hx hb hts iX4 hown hK hP (106) (by omega) mw_o rfl 3 (by decide) (hts (.fieldLink RX4 67 "FerroDeskModel" "boards" "I") (by decide +kernel)) (fun _ h9 => h9) rfl dX4_meanWear_35 ?_
        refine lv_imul hx hb dX4_meanWear_38 ?_
        refine lv_icmp_ge (tgt := 57) hx hb dX4_meanWear_39 (by decide) (fun c39 => absurd c39 (by rw [hT3, m32]; exact nI_ge hkN (by omega))) (fun c39 => ?_)
        refine lv_iload_n hx hb dX4_meanWear_42 rfl (lv_at hl 1 rfl) ?_
        refine lv_aload_n hx hb dX4_meanWear_43 rfl (lv_at hl 2 rfl) ?_
        refine wx_get (D := g.1) (cl := vwCl) (ci := 6) (v := .ref (L 113)) (C := RX4) (T := TX4) (N := 22) hx hb hts iX4 hown hK hP (106) (by omega) mw_o rfl 12 (by decide) (hts (.fieldLink RX4 33 "FerroDeskModel" "wear" "[I") (by decide +kernel)) (fun _ h9 => h9) rfl dX4_meanWear_44 ?_
        refine lv_iload_n hx hb dX4_meanWear_47 rfl (lv_at hl 0 rfl) ?_
        refine wx_ialdv (D := g.1) (cl := vwCl) (N := 192) (f := fun j9 => (st y 0 0 0 0) 16 0 j9) (v := (st y 0 0 0 0) 16 0 k) hx hb hK hP (113) 0 (by omega) (mw_a (by decide) (by decide)) rfl (i := nI k) (by exact vp_in_nI (by omega) (by decide)) (by rw [nI_clamp (by omega)]) dX4_meanWear_48 ?_
        refine lv_iadd hx hb dX4_meanWear_49 ?_
        refine lv_istore_n (lv' := [(1, .int ((swM (st y 0 0 0 0) k) + ((st y 0 0 0 0) 16 0 k))), (2, .int (nI k)), (0, .ref (L 106))]) hx hb dX4_meanWear_50 rfl hl (by decide) rfl (fun ls hl => ?_)
        obtain ⟨z51, ez51⟩ : ∃ y : Int32, y = nI k + 1 := ⟨_, rfl⟩
        refine lv_iinc (v := z51) (lv' := [(2, .int z51), (1, .int ((swM (st y 0 0 0 0) k) + ((st y 0 0 0 0) 16 0 k))), (0, .ref (L 106))]) hx hb dX4_meanWear_51 hl (k := 1) rfl (by rw [ez51]; rfl) (by decide) rfl (fun ls hl => ?_)
        refine lv_goto (tgt := 31) hx hb dX4_meanWear_54 (by decide) ?_
        exact ih (k + 1) _ _ _ _ _ (by omega) (by rw [ez51, nI_1]) rfl hP hS (lv_sub hl [0, 1, 2] rfl)
    exact key31 (32 * nb) 0 _ _ _ _ _ (by omega) rfl rfl hP hS (lv_sub hl [0, 1, 2] rfl)
  · refine lv_iconst (v := 1) hx hb dX4_meanWear_13 (by decide) ?_
    refine lv_goto (tgt := 18) hx hb dX4_meanWear_14 (by decide) ?_
    refine lv_iconst (v := 1) hx hb dX4_meanWear_18 (by decide) ?_
    refine wx_calli (va_runV (As := [.int 1, .int 1]) (rest := []) ⟨hx, hb, hml, hown, hts⟩ (m_fails l hst g base n L (by omega) (st y 0 0 0 0) ch r0 st_eq 1 1 (by decide)) (cwV 2 hts gX4_meanWear_X4_fails rfl rfl rfl (by decide +kernel) ⟨Nat.le_of_ble_eq_true rfl, Nat.le_of_ble_eq_true rfl⟩) (hPW.preV hP hS (ci := 6) rfl (by omega) mw_o) rfl rfl hl.1 rfl (lv_room (Nat.le_of_ble_eq_true rfl)) dX4_meanWear_19 ⟨Nat.le_of_ble_eq_true rfl, Nat.le_of_ble_eq_true rfl⟩) hS (fun r19 u19 H locs h19 hP hS => ?_)
    obtain ⟨rfl, -, e9⟩ : r19 = 1 ∧ True ∧ u19 = st (st y 0 0 0 0) 0 0 0 1 := by rcases h19 with ⟨-, b, -⟩ | ⟨a, -, b⟩; exact absurd b (by decide); exact ⟨a, trivial, b⟩
    have e9 := e9.symm
    subst e9
    refine lv_if_eq (tgt := 27) hx hb dX4_meanWear_22 (by decide) (fun c22 => absurd c22 (by decide)) (fun c22 => ?_)
    refine lv_dconst0 hx hb dX4_meanWear_25 ?_
    refine W.widen (k := 0) (n := 0) (Nat.le_of_ble_eq_true rfl) (Nat.le_of_ble_eq_true rfl) ?_
    exact W.dret (v := FP.dconst0) hx hb hr (fun t ht hW => ⟨⟨FP.dconst0, (st (st y 0 0 0 0) 0 0 0 1, ch), rfl, Or.inl ⟨((nI_eq (b := 0) (by omega) (by omega)).mp (hT3.symm.trans c10)), rfl⟩, PB.mk9 hP ht⟩, hS.F ht⟩) hS.2.2 dX4_meanWear_26

set_option maxHeartbeats 4000000 in
set_option maxRecDepth 100000 in
theorem m_hour (l : Launch) (hst : l.stackTraces = false) (g : gE) (base n : Nat) (L : Nat → Nat) (hn : 123 ≤ n) (y : St) (ch : Int64) (r0 : Nat → va_E) (nb nn : Nat) (hM : MI y nb nn) : Met l yX4_hour wsX4_hour ({ frames := 0, cells := 0, slots := 0, locals := 0 }) (va_Pc [.ref (L 106)] (PW SS g base n L (mw g L y ch r0))) (va_Qi (fun (r : Int32) (u : MS) => u = (st y 0 0 0 0, ch) ∧ r = (st y 0 0 0 0) 1 0 0) (fun (u : MS) t => PB g n L (mw g L u.1 u.2 r0) t) (fun q => base ≤ q)) 0 0 (fun q => base ≤ q) := by
  refine Met.ofW (cc := cX4_hour) (maxL := 1) (ret := (some .int)) (by decide) rfl ?_
  intro p e s m args below meth c s₁ B hml hv
  obtain ⟨rfl, hPW⟩ := hv
  obtain ⟨hbs, hJ, hP, hK, hE⟩ := id hPW
  have hx := B.exec
  have hb := B.bytes
  have hr := B.returns
  have hts := atoms_spec (ws := wsX4_hour) B.pre
  have hown : s.vm.findClass RX4 = some m.cls := findClass_of_methodNamed B.named
  have hlocks := B.notSynchronized
  have hS : va_S (fun q : Nat => base ≤ q) s.heap s.heap [] := va_S.rf
  have hl := lv_entry ([.ref (L 106)]) (n := 1) (Nat.le_of_ble_eq_true rfl)
  rw [lg_entry_eq]
  generalize (lg_sl ([.ref (L 106)]) ++ List.replicate (1 - (lg_sl ([.ref (L 106)])).length) Slot.unset).toArray = ls at hl ⊢
  have hl : lv_has ls 1 [(0, .ref (L 106))] := hl
  have iX4 : ∀ w ∈ wsX40, w ∈ wsX4_hour := by decide +kernel
  have hnb := hM.nb6
  have hnn := hM.nn40
  have hy3 := hM.y3
  have hy4 := hM.y4
  have hT3 : (st y 0 0 0 0) 3 0 0 = nI nb := (st_nr (by omega)).trans hy3
  have hT4 : (st y 0 0 0 0) 4 0 0 = nI nn := (st_nr (by omega)).trans hy4
  refine lv_aload_n hx hb dX4_hour_0 rfl (lv_at hl 0 rfl) ?_
  refine lv_iconst (v := 0) hx hb dX4_hour_1 (by decide) ?_
  refine wx_put (D := g.1) (cl := vwCl) (ci := 6) (v := .int 0) (ty := .int) (w' := mw g L (st y 0 0 0 0) ch r0) (C := RX4) (T := TX4) (N := 22) hx hb hts iX4 tyX4 tyX4_ok nmX4 hown hK hP hJ hS (106) (by omega) mw_o rfl 0 (by decide) (hts (.fieldLink RX4 64 "FerroDeskModel" "thrown" "I") (by decide +kernel)) (fun _ h9 => h9) rfl (by decide +kernel) rfl rfl (Nat.le_of_ble_eq_true rfl) dX4_hour_2 (mw_put (r := 0) (i := 0) (j := 0) rfl (by omega) (mk_o.trans (by simp [mF, st]))) (fun H locs hP hS => ?_)
  refine lv_aload_n hx hb dX4_hour_5 rfl (lv_at hl 0 rfl) ?_
  refine wx_get (D := g.1) (cl := vwCl) (ci := 6) (v := .int ((st y 0 0 0 0) 1 0 0)) (C := RX4) (T := TX4) (N := 22) hx hb hts iX4 hown hK hP (106) (by omega) mw_o rfl 1 (by decide) (hts (.fieldLink RX4 101 "FerroDeskModel" "hour" "I") (by decide +kernel)) (fun _ h9 => h9) rfl dX4_hour_6 ?_
  refine W.widen (k := 0) (n := 0) (Nat.le_of_ble_eq_true rfl) (Nat.le_of_ble_eq_true rfl) ?_
  exact W.iret (v := (st y 0 0 0 0) 1 0 0) hx hb hr (fun t ht hW => ⟨⟨(st y 0 0 0 0) 1 0 0, (st y 0 0 0 0, ch), rfl, ⟨rfl, rfl⟩, PB.mk9 hP ht⟩, hS.F ht⟩) hS.2.2 dX4_hour_9

set_option maxHeartbeats 4000000 in
set_option maxRecDepth 100000 in
theorem m_boards (l : Launch) (hst : l.stackTraces = false) (g : gE) (base n : Nat) (L : Nat → Nat) (hn : 123 ≤ n) (y : St) (ch : Int64) (r0 : Nat → va_E) (nb nn : Nat) (hM : MI y nb nn) : Met l yX4_boards wsX4_boards ({ frames := 0, cells := 0, slots := 0, locals := 0 }) (va_Pc [.ref (L 106)] (PW SS g base n L (mw g L y ch r0))) (va_Qi (fun (r : Int32) (u : MS) => u = (st y 0 0 0 0, ch) ∧ r = (st y 0 0 0 0) 3 0 0) (fun (u : MS) t => PB g n L (mw g L u.1 u.2 r0) t) (fun q => base ≤ q)) 0 0 (fun q => base ≤ q) := by
  refine Met.ofW (cc := cX4_boards) (maxL := 1) (ret := (some .int)) (by decide) rfl ?_
  intro p e s m args below meth c s₁ B hml hv
  obtain ⟨rfl, hPW⟩ := hv
  obtain ⟨hbs, hJ, hP, hK, hE⟩ := id hPW
  have hx := B.exec
  have hb := B.bytes
  have hr := B.returns
  have hts := atoms_spec (ws := wsX4_boards) B.pre
  have hown : s.vm.findClass RX4 = some m.cls := findClass_of_methodNamed B.named
  have hlocks := B.notSynchronized
  have hS : va_S (fun q : Nat => base ≤ q) s.heap s.heap [] := va_S.rf
  have hl := lv_entry ([.ref (L 106)]) (n := 1) (Nat.le_of_ble_eq_true rfl)
  rw [lg_entry_eq]
  generalize (lg_sl ([.ref (L 106)]) ++ List.replicate (1 - (lg_sl ([.ref (L 106)])).length) Slot.unset).toArray = ls at hl ⊢
  have hl : lv_has ls 1 [(0, .ref (L 106))] := hl
  have iX4 : ∀ w ∈ wsX40, w ∈ wsX4_boards := by decide +kernel
  have hnb := hM.nb6
  have hnn := hM.nn40
  have hy3 := hM.y3
  have hy4 := hM.y4
  have hT3 : (st y 0 0 0 0) 3 0 0 = nI nb := (st_nr (by omega)).trans hy3
  have hT4 : (st y 0 0 0 0) 4 0 0 = nI nn := (st_nr (by omega)).trans hy4
  refine lv_aload_n hx hb dX4_boards_0 rfl (lv_at hl 0 rfl) ?_
  refine lv_iconst (v := 0) hx hb dX4_boards_1 (by decide) ?_
  refine wx_put (D := g.1) (cl := vwCl) (ci := 6) (v := .int 0) (ty := .int) (w' := mw g L (st y 0 0 0 0) ch r0) (C := RX4) (T := TX4) (N := 22) hx hb hts iX4 tyX4 tyX4_ok nmX4 hown hK hP hJ hS (106) (by omega) mw_o rfl 0 (by decide) (hts (.fieldLink RX4 64 "FerroDeskModel" "thrown" "I") (by decide +kernel)) (fun _ h9 => h9) rfl (by decide +kernel) rfl rfl (Nat.le_of_ble_eq_true rfl) dX4_boards_2 (mw_put (r := 0) (i := 0) (j := 0) rfl (by omega) (mk_o.trans (by simp [mF, st]))) (fun H locs hP hS => ?_)
  refine lv_aload_n hx hb dX4_boards_5 rfl (lv_at hl 0 rfl) ?_
  refine wx_get (D := g.1) (cl := vwCl) (ci := 6) (v := .int ((st y 0 0 0 0) 3 0 0)) (C := RX4) (T := TX4) (N := 22) hx hb hts iX4 hown hK hP (106) (by omega) mw_o rfl 3 (by decide) (hts (.fieldLink RX4 67 "FerroDeskModel" "boards" "I") (by decide +kernel)) (fun _ h9 => h9) rfl dX4_boards_6 ?_
  refine W.widen (k := 0) (n := 0) (Nat.le_of_ble_eq_true rfl) (Nat.le_of_ble_eq_true rfl) ?_
  exact W.iret (v := (st y 0 0 0 0) 3 0 0) hx hb hr (fun t ht hW => ⟨⟨(st y 0 0 0 0) 3 0 0, (st y 0 0 0 0, ch), rfl, ⟨rfl, rfl⟩, PB.mk9 hP ht⟩, hS.F ht⟩) hS.2.2 dX4_boards_9

set_option maxHeartbeats 4000000 in
set_option maxRecDepth 100000 in
theorem m_notices (l : Launch) (hst : l.stackTraces = false) (g : gE) (base n : Nat) (L : Nat → Nat) (hn : 123 ≤ n) (y : St) (ch : Int64) (r0 : Nat → va_E) (nb nn : Nat) (hM : MI y nb nn) : Met l yX4_notices wsX4_notices ({ frames := 0, cells := 0, slots := 0, locals := 0 }) (va_Pc [.ref (L 106)] (PW SS g base n L (mw g L y ch r0))) (va_Qi (fun (r : Int32) (u : MS) => u = (st y 0 0 0 0, ch) ∧ r = (st y 0 0 0 0) 4 0 0) (fun (u : MS) t => PB g n L (mw g L u.1 u.2 r0) t) (fun q => base ≤ q)) 0 0 (fun q => base ≤ q) := by
  refine Met.ofW (cc := cX4_notices) (maxL := 1) (ret := (some .int)) (by decide) rfl ?_
  intro p e s m args below meth c s₁ B hml hv
  obtain ⟨rfl, hPW⟩ := hv
  obtain ⟨hbs, hJ, hP, hK, hE⟩ := id hPW
  have hx := B.exec
  have hb := B.bytes
  have hr := B.returns
  have hts := atoms_spec (ws := wsX4_notices) B.pre
  have hown : s.vm.findClass RX4 = some m.cls := findClass_of_methodNamed B.named
  have hlocks := B.notSynchronized
  have hS : va_S (fun q : Nat => base ≤ q) s.heap s.heap [] := va_S.rf
  have hl := lv_entry ([.ref (L 106)]) (n := 1) (Nat.le_of_ble_eq_true rfl)
  rw [lg_entry_eq]
  generalize (lg_sl ([.ref (L 106)]) ++ List.replicate (1 - (lg_sl ([.ref (L 106)])).length) Slot.unset).toArray = ls at hl ⊢
  have hl : lv_has ls 1 [(0, .ref (L 106))] := hl
  have iX4 : ∀ w ∈ wsX40, w ∈ wsX4_notices := by decide +kernel
  have hnb := hM.nb6
  have hnn := hM.nn40
  have hy3 := hM.y3
  have hy4 := hM.y4
  have hT3 : (st y 0 0 0 0) 3 0 0 = nI nb := (st_nr (by omega)).trans hy3
  have hT4 : (st y 0 0 0 0) 4 0 0 = nI nn := (st_nr (by omega)).trans hy4
  refine lv_aload_n hx hb dX4_notices_0 rfl (lv_at hl 0 rfl) ?_
  refine lv_iconst (v := 0) hx hb dX4_notices_1 (by decide) ?_
  refine wx_put (D := g.1) (cl := vwCl) (ci := 6) (v := .int 0) (ty := .int) (w' := mw g L (st y 0 0 0 0) ch r0) (C := RX4) (T := TX4) (N := 22) hx hb hts iX4 tyX4 tyX4_ok nmX4 hown hK hP hJ hS (106) (by omega) mw_o rfl 0 (by decide) (hts (.fieldLink RX4 64 "FerroDeskModel" "thrown" "I") (by decide +kernel)) (fun _ h9 => h9) rfl (by decide +kernel) rfl rfl (Nat.le_of_ble_eq_true rfl) dX4_notices_2 (mw_put (r := 0) (i := 0) (j := 0) rfl (by omega) (mk_o.trans (by simp [mF, st]))) (fun H locs hP hS => ?_)
  refine lv_aload_n hx hb dX4_notices_5 rfl (lv_at hl 0 rfl) ?_
  refine wx_get (D := g.1) (cl := vwCl) (ci := 6) (v := .int ((st y 0 0 0 0) 4 0 0)) (C := RX4) (T := TX4) (N := 22) hx hb hts iX4 hown hK hP (106) (by omega) mw_o rfl 4 (by decide) (hts (.fieldLink RX4 74 "FerroDeskModel" "notices" "I") (by decide +kernel)) (fun _ h9 => h9) rfl dX4_notices_6 ?_
  refine W.widen (k := 0) (n := 0) (Nat.le_of_ble_eq_true rfl) (Nat.le_of_ble_eq_true rfl) ?_
  exact W.iret (v := (st y 0 0 0 0) 4 0 0) hx hb hr (fun t ht hW => ⟨⟨(st y 0 0 0 0) 4 0 0, (st y 0 0 0 0, ch), rfl, ⟨rfl, rfl⟩, PB.mk9 hP ht⟩, hS.F ht⟩) hS.2.2 dX4_notices_9

set_option maxHeartbeats 4000000 in
set_option maxRecDepth 100000 in
theorem m_changes (l : Launch) (hst : l.stackTraces = false) (g : gE) (base n : Nat) (L : Nat → Nat) (hn : 123 ≤ n) (y : St) (ch : Int64) (r0 : Nat → va_E) (nb nn : Nat) (hM : MI y nb nn) : Met l yX4_changes wsX4_changes ({ frames := 0, cells := 0, slots := 0, locals := 0 }) (va_Pc [.ref (L 106)] (PW SS g base n L (mw g L y ch r0))) (va_Ql (fun (r : Int64) (u : MS) => u = (st y 0 0 0 0, ch) ∧ r = ch) (fun (u : MS) t => PB g n L (mw g L u.1 u.2 r0) t) (fun q => base ≤ q)) 0 0 (fun q => base ≤ q) := by
  refine Met.ofW (cc := cX4_changes) (maxL := 1) (ret := (some .long)) (by decide) rfl ?_
  intro p e s m args below meth c s₁ B hml hv
  obtain ⟨rfl, hPW⟩ := hv
  obtain ⟨hbs, hJ, hP, hK, hE⟩ := id hPW
  have hx := B.exec
  have hb := B.bytes
  have hr := B.returns
  have hts := atoms_spec (ws := wsX4_changes) B.pre
  have hown : s.vm.findClass RX4 = some m.cls := findClass_of_methodNamed B.named
  have hlocks := B.notSynchronized
  have hS : va_S (fun q : Nat => base ≤ q) s.heap s.heap [] := va_S.rf
  have hl := lv_entry ([.ref (L 106)]) (n := 1) (Nat.le_of_ble_eq_true rfl)
  rw [lg_entry_eq]
  generalize (lg_sl ([.ref (L 106)]) ++ List.replicate (1 - (lg_sl ([.ref (L 106)])).length) Slot.unset).toArray = ls at hl ⊢
  have hl : lv_has ls 1 [(0, .ref (L 106))] := hl
  have iX4 : ∀ w ∈ wsX40, w ∈ wsX4_changes := by decide +kernel
  have hnb := hM.nb6
  have hnn := hM.nn40
  have hy3 := hM.y3
  have hy4 := hM.y4
  have hT3 : (st y 0 0 0 0) 3 0 0 = nI nb := (st_nr (by omega)).trans hy3
  have hT4 : (st y 0 0 0 0) 4 0 0 = nI nn := (st_nr (by omega)).trans hy4
  refine lv_aload_n hx hb dX4_changes_0 rfl (lv_at hl 0 rfl) ?_
  refine lv_iconst (v := 0) hx hb dX4_changes_1 (by decide) ?_
  refine wx_put (D := g.1) (cl := vwCl) (ci := 6) (v := .int 0) (ty := .int) (w' := mw g L (st y 0 0 0 0) ch r0) (C := RX4) (T := TX4) (N := 22) hx hb hts iX4 tyX4 tyX4_ok nmX4 hown hK hP hJ hS (106) (by omega) mw_o rfl 0 (by decide) (hts (.fieldLink RX4 64 "FerroDeskModel" "thrown" "I") (by decide +kernel)) (fun _ h9 => h9) rfl (by decide +kernel) rfl rfl (Nat.le_of_ble_eq_true rfl) dX4_changes_2 (mw_put (r := 0) (i := 0) (j := 0) rfl (by omega) (mk_o.trans (by simp [mF, st]))) (fun H locs hP hS => ?_)
  refine lv_aload_n hx hb dX4_changes_5 rfl (lv_at hl 0 rfl) ?_
  refine wx_get (D := g.1) (cl := vwCl) (ci := 6) (v := .long ch) (C := RX4) (T := TX4) (N := 22) hx hb hts iX4 hown hK hP (106) (by omega) mw_o rfl 5 (by decide) (hts (.fieldLink RX4 134 "FerroDeskModel" "changes" "J") (by decide +kernel)) (fun _ h9 => h9) rfl dX4_changes_6 ?_
  refine W.widen (k := 0) (n := 0) (Nat.le_of_ble_eq_true rfl) (Nat.le_of_ble_eq_true rfl) ?_
  exact W.lret (v := ch) hx hb hr (fun t ht hW => ⟨⟨ch, (st y 0 0 0 0, ch), rfl, ⟨rfl, rfl⟩, PB.mk9 hP ht⟩, hS.F ht⟩) hS.2.2 dX4_changes_9

set_option maxHeartbeats 4000000 in
set_option maxRecDepth 100000 in
theorem m_isSound (l : Launch) (hst : l.stackTraces = false) (g : gE) (base n : Nat) (L : Nat → Nat) (hn : 123 ≤ n) (y : St) (ch : Int64) (r0 : Nat → va_E) (nb nn : Nat) (hM : MI y nb nn) : Met l yX4_isSound wsX4_isSound ({ frames := 0, cells := 0, slots := 0, locals := 0 }) (va_Pc [.ref (L 106)] (PW SS g base n L (mw g L y ch r0))) (va_Qi (fun (r : Int32) (u : MS) => u = (st y 0 0 0 0, ch) ∧ r = 1) (fun (u : MS) t => PB g n L (mw g L u.1 u.2 r0) t) (fun q => base ≤ q)) 0 0 (fun q => base ≤ q) := by
  refine Met.ofW (cc := cX4_isSound) (maxL := 1) (ret := (some .boolean)) (by decide) rfl ?_
  intro p e s m args below meth c s₁ B hml hv
  obtain ⟨rfl, hPW⟩ := hv
  obtain ⟨hbs, hJ, hP, hK, hE⟩ := id hPW
  have hx := B.exec
  have hb := B.bytes
  have hr := B.returns
  have hts := atoms_spec (ws := wsX4_isSound) B.pre
  have hown : s.vm.findClass RX4 = some m.cls := findClass_of_methodNamed B.named
  have hlocks := B.notSynchronized
  have hS : va_S (fun q : Nat => base ≤ q) s.heap s.heap [] := va_S.rf
  have hl := lv_entry ([.ref (L 106)]) (n := 1) (Nat.le_of_ble_eq_true rfl)
  rw [lg_entry_eq]
  generalize (lg_sl ([.ref (L 106)]) ++ List.replicate (1 - (lg_sl ([.ref (L 106)])).length) Slot.unset).toArray = ls at hl ⊢
  have hl : lv_has ls 1 [(0, .ref (L 106))] := hl
  have iX4 : ∀ w ∈ wsX40, w ∈ wsX4_isSound := by decide +kernel
  have hnb := hM.nb6
  have hnn := hM.nn40
  have hy3 := hM.y3
  have hy4 := hM.y4
  have hT3 : (st y 0 0 0 0) 3 0 0 = nI nb := (st_nr (by omega)).trans hy3
  have hT4 : (st y 0 0 0 0) 4 0 0 = nI nn := (st_nr (by omega)).trans hy4
  refine lv_aload_n hx hb dX4_isSound_0 rfl (lv_at hl 0 rfl) ?_
  refine lv_iconst (v := 0) hx hb dX4_isSound_1 (by decide) ?_
  refine wx_put (D := g.1) (cl := vwCl) (ci := 6) (v := .int 0) (ty := .int) (w' := mw g L (st y 0 0 0 0) ch r0) (C := RX4) (T := TX4) (N := 22) hx hb hts iX4 tyX4 tyX4_ok nmX4 hown hK hP hJ hS (106) (by omega) mw_o rfl 0 (by decide) (hts (.fieldLink RX4 64 "FerroDeskModel" "thrown" "I") (by decide +kernel)) (fun _ h9 => h9) rfl (by decide +kernel) rfl rfl (Nat.le_of_ble_eq_true rfl) dX4_isSound_2 (mw_put (r := 0) (i := 0) (j := 0) rfl (by omega) (mk_o.trans (by simp [mF, st]))) (fun H locs hP hS => ?_)
  refine lv_iconst (v := 1) hx hb dX4_isSound_5 (by decide) ?_
  refine W.widen (k := 0) (n := 0) (Nat.le_of_ble_eq_true rfl) (Nat.le_of_ble_eq_true rfl) ?_
  exact W.zret (v := 1) hx hb hr (by decide) (fun t ht hW => ⟨⟨1, (st y 0 0 0 0, ch), rfl, ⟨rfl, rfl⟩, PB.mk9 hP ht⟩, hS.F ht⟩) hS.2.2 dX4_isSound_6

set_option maxHeartbeats 4000000 in
set_option maxRecDepth 100000 in
theorem m_thrown (l : Launch) (hst : l.stackTraces = false) (g : gE) (base n : Nat) (L : Nat → Nat) (hn : 123 ≤ n) (y : St) (ch : Int64) (r0 : Nat → va_E) (nb nn : Nat) (hM : MI y nb nn) : Met l yX4_thrown wsX4_thrown ({ frames := 0, cells := 0, slots := 0, locals := 0 }) (va_Pc [.ref (L 106)] (PW SS g base n L (mw g L y ch r0))) (va_Qi (fun (r : Int32) (u : MS) => u = (y, ch) ∧ r = y 0 0 0) (fun (u : MS) t => PB g n L (mw g L u.1 u.2 r0) t) (fun q => base ≤ q)) 0 0 (fun q => base ≤ q) := by
  refine Met.ofW (cc := cX4_thrown) (maxL := 1) (ret := (some .int)) (by decide) rfl ?_
  intro p e s m args below meth c s₁ B hml hv
  obtain ⟨rfl, hPW⟩ := hv
  obtain ⟨hbs, hJ, hP, hK, hE⟩ := id hPW
  have hx := B.exec
  have hb := B.bytes
  have hr := B.returns
  have hts := atoms_spec (ws := wsX4_thrown) B.pre
  have hown : s.vm.findClass RX4 = some m.cls := findClass_of_methodNamed B.named
  have hlocks := B.notSynchronized
  have hS : va_S (fun q : Nat => base ≤ q) s.heap s.heap [] := va_S.rf
  have hl := lv_entry ([.ref (L 106)]) (n := 1) (Nat.le_of_ble_eq_true rfl)
  rw [lg_entry_eq]
  generalize (lg_sl ([.ref (L 106)]) ++ List.replicate (1 - (lg_sl ([.ref (L 106)])).length) Slot.unset).toArray = ls at hl ⊢
  have hl : lv_has ls 1 [(0, .ref (L 106))] := hl
  have iX4 : ∀ w ∈ wsX40, w ∈ wsX4_thrown := by decide +kernel
  have hnb := hM.nb6
  have hnn := hM.nn40
  have hy3 := hM.y3
  have hy4 := hM.y4
  have hT3 : (st y 0 0 0 0) 3 0 0 = nI nb := (st_nr (by omega)).trans hy3
  have hT4 : (st y 0 0 0 0) 4 0 0 = nI nn := (st_nr (by omega)).trans hy4
  refine lv_aload_n hx hb dX4_thrown_0 rfl (lv_at hl 0 rfl) ?_
  refine wx_get (D := g.1) (cl := vwCl) (ci := 6) (v := .int (y 0 0 0)) (C := RX4) (T := TX4) (N := 22) hx hb hts iX4 hown hK hP (106) (by omega) mw_o rfl 0 (by decide) (hts (.fieldLink RX4 64 "FerroDeskModel" "thrown" "I") (by decide +kernel)) (fun _ h9 => h9) rfl dX4_thrown_1 ?_
  refine W.widen (k := 0) (n := 0) (Nat.le_of_ble_eq_true rfl) (Nat.le_of_ble_eq_true rfl) ?_
  exact W.iret (v := y 0 0 0) hx hb hr (fun t ht hW => ⟨⟨y 0 0 0, (y, ch), rfl, ⟨rfl, rfl⟩, PB.mk9 hP ht⟩, hS.F ht⟩) hS.2.2 dX4_thrown_4

