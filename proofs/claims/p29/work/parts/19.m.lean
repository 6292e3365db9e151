/-! laid by wip/gen -/
set_option maxHeartbeats 4000000 in
set_option maxRecDepth 100000 in
theorem m_addBoard (l : Launch) (hst : l.stackTraces = false) (g : gE) (base n : Nat) (L : Nat → Nat) (hn : 123 ≤ n) (y : St) (ch : Int64) (r0 : Nat → va_E) (nb nn : Nat) (hM : MI y nb nn) (p0 p1 : Int32) : Met l yX4_addBoard wsX4_addBoard ({ frames := 2, cells := 0, slots := 0, locals := 120 }) (va_Pc [.ref (L 106), .int p0, .int p1] (PW SS g base n L (mw g L y ch r0))) (va_Qi (fun (r : Int32) (u : MS) => (¬ (0 ≤ p0.toInt ∧ p0.toInt ≤ 3 ∧ 0 ≤ p1.toInt ∧ p1.toInt ≤ 200) ∧ u = (st (st y 0 0 0 0) 0 0 0 1, ch)) ∨ ((0 ≤ p0.toInt ∧ p0.toInt ≤ 3 ∧ 0 ≤ p1.toInt ∧ p1.toInt ≤ 200) ∧ nb = 6 ∧ u = (st (st y 0 0 0 0) 0 0 0 2, ch)) ∨ ((0 ≤ p0.toInt ∧ p0.toInt ≤ 3 ∧ 0 ≤ p1.toInt ∧ p1.toInt ≤ 200) ∧ nb < 6 ∧ u = (abM (st y 0 0 0 0) nb p0 p1, ch) ∧ r = u.1 3 0 0 - 1)) (fun (u : MS) t => PB g n L (mw g L u.1 u.2 r0) t) (fun q => base ≤ q)) 0 0 (fun q => base ≤ q) := by
  refine Met.ofW (cc := cX4_addBoard) (maxL := 3) (ret := (some .int)) (by decide) rfl ?_
  intro p e s m args below meth c s₁ B hml hv
  obtain ⟨rfl, hPW⟩ := hv
  obtain ⟨hbs, hJ, hP, hK, hE⟩ := id hPW
  have hx := B.exec
  have hb := B.bytes
  have hr := B.returns
  have hts := atoms_spec (ws := wsX4_addBoard) B.pre
  have hown : s.vm.findClass RX4 = some m.cls := findClass_of_methodNamed B.named
  have hlocks := B.notSynchronized
  have hS : va_S (fun q : Nat => base ≤ q) s.heap s.heap [] := va_S.rf
  have hl := lv_entry ([.ref (L 106), .int p0, .int p1]) (n := 3) (Nat.le_of_ble_eq_true rfl)
  rw [lg_entry_eq]
  generalize (lg_sl ([.ref (L 106), .int p0, .int p1]) ++ List.replicate (3 - (lg_sl ([.ref (L 106), .int p0, .int p1])).length) Slot.unset).toArray = ls at hl ⊢
  have hl : lv_has ls 3 [(0, .ref (L 106)), (1, .int p0), (2, .int p1)] := hl
  have iX4 : ∀ w ∈ wsX40, w ∈ wsX4_addBoard := by decide +kernel
  have hnb := hM.nb6
  have hnn := hM.nn40
  have hy3 := hM.y3
  have hy4 := hM.y4
  have hT3 : (st y 0 0 0 0) 3 0 0 = nI nb := (st_nr (by omega)).trans hy3
  have hT4 : (st y 0 0 0 0) 4 0 0 = nI nn := (st_nr (by omega)).trans hy4
  refine lv_aload_n hx hb dX4_addBoard_0 rfl (lv_at hl 0 rfl) ?_
  refine lv_iconst (v := 0) hx hb dX4_addBoard_1 (by decide) ?_
  refine wx_put (D := g.1) (cl := vwCl) (ci := 6) (v := .int 0) (ty := .int) (w' := mw g L (st y 0 0 0 0) ch r0) (C := RX4) (T := TX4) (N := 22) hx hb hts iX4 tyX4 tyX4_ok nmX4 hown hK hP hJ hS (106) (by omega) mw_o rfl 0 (by decide) (hts (.fieldLink RX4 64 "FerroDeskModel" "thrown" "I") (by decide +kernel)) (fun _ h9 => h9) rfl (by decide +kernel) rfl rfl (Nat.le_of_ble_eq_true rfl) dX4_addBoard_2 (mw_put (r := 0) (i := 0) (j := 0) rfl (by omega) (mk_o.trans (by simp [mF, st]))) (fun H locs hP hS => ?_)
  refine lv_aload_n hx hb dX4_addBoard_5 rfl (lv_at hl 0 rfl) ?_
  refine lv_iload_n hx hb dX4_addBoard_6 rfl (lv_at hl 1 rfl) ?_
  refine wx_calli (va_runS (As := [.int p0]) (rest := [.ref (L 106)]) ⟨hx, hb, hml, hown, hts⟩ (m_noDistrict l hst g base n L (mw g L (st y 0 0 0 0) ch r0) p0) (va_cwS 1 hts gX4_addBoard_X4_noDistrict rfl rfl rfl (by decide +kernel) ⟨Nat.le_of_ble_eq_true rfl, Nat.le_of_ble_eq_true rfl⟩) (hPW.preS hP hS) rfl rfl hl.1 rfl (lv_room (Nat.le_of_ble_eq_true rfl)) dX4_addBoard_7 ⟨Nat.le_of_ble_eq_true rfl, Nat.le_of_ble_eq_true rfl⟩) hS (fun r7 u7 H locs h7 hP hS => ?_)
  rcases h7 with ⟨rfl, h7⟩ | ⟨rfl, d7, hd7, ed7⟩
  · refine lv_if_ne (tgt := 24) hx hb dX4_addBoard_10 (by decide) (fun c10 => ?_) (fun c10 => absurd c10 (by decide))
    refine lv_iconst (v := 1) hx hb dX4_addBoard_24 (by decide) ?_
    refine lv_goto (tgt := 29) hx hb dX4_addBoard_25 (by decide) ?_
    refine lv_iconst (v := 1) hx hb dX4_addBoard_29 (by decide) ?_
    refine wx_calli (va_runV (As := [.int 1, .int 1]) (rest := []) ⟨hx, hb, hml, hown, hts⟩ (m_fails l hst g base n L (by omega) (st y 0 0 0 0) ch r0 st_eq 1 1 (by decide)) (cwV 2 hts gX4_addBoard_X4_fails rfl rfl rfl (by decide +kernel) ⟨Nat.le_of_ble_eq_true rfl, Nat.le_of_ble_eq_true rfl⟩) (hPW.preV hP hS (ci := 6) rfl (by omega) mw_o) rfl rfl hl.1 rfl (lv_room (Nat.le_of_ble_eq_true rfl)) dX4_addBoard_30 ⟨Nat.le_of_ble_eq_true rfl, Nat.le_of_ble_eq_true rfl⟩) hS (fun r30 u30 H locs h30 hP hS => ?_)
    obtain ⟨rfl, -, e9⟩ : r30 = 1 ∧ True ∧ u30 = st (st y 0 0 0 0) 0 0 0 1 := by rcases h30 with ⟨-, b, -⟩ | ⟨a, -, b⟩; exact absurd b (by decide); exact ⟨a, trivial, b⟩
    have e9 := e9.symm
    subst e9
    refine lv_if_ne (tgt := 58) hx hb dX4_addBoard_33 (by decide) (fun c33 => ?_) (fun c33 => absurd c33 (by decide))
    refine lv_iconst (v := 0) hx hb dX4_addBoard_58 (by decide) ?_
    refine W.widen (k := 0) (n := 0) (Nat.le_of_ble_eq_true rfl) (Nat.le_of_ble_eq_true rfl) ?_
    exact W.iret (v := 0) hx hb hr (fun t ht hW => ⟨⟨0, (st (st y 0 0 0 0) 0 0 0 1, ch), rfl, Or.inl ⟨(by (try revert h7); (try simp only [xor_m1]); (try simp only [Int32.lt_iff_toInt_lt, Int32.le_iff_toInt_le, ← Int32.toInt_inj, i_0, i_1, i_2, i_3, i_4, i_6, i_9, i_20, i_32, i_40, i_48, i_60, i_200, i_999, i_2000, i_m1, i_8]); (try simp only [i_8, i_7]); omega), rfl⟩, PB.mk9 hP ht⟩, hS.F ht⟩) hS.2.2 dX4_addBoard_59
  · refine lv_if_ne (tgt := 24) hx hb dX4_addBoard_10 (by decide) (fun c10 => absurd c10 (by decide)) (fun c10 => ?_)
    refine lv_iload_n hx hb dX4_addBoard_13 rfl (lv_at hl 2 rfl) ?_
    refine lv_iconst (v := 0) hx hb dX4_addBoard_14 (by decide) ?_
    refine lv_sipush (v := 200) hx hb dX4_addBoard_15 (by decide) ?_
    refine wx_calli (va_runS (As := [.int p1, .int 0, .int 200]) (rest := [.ref (L 106)]) ⟨hx, hb, hml, hown, hts⟩ (m_in l hst g base n L (mw g L (st y 0 0 0 0) ch r0) p1 0 200) (va_cwS 3 hts gX4_addBoard_X4_in rfl rfl rfl (by decide +kernel) ⟨Nat.le_of_ble_eq_true rfl, Nat.le_of_ble_eq_true rfl⟩) (hPW.preS hP hS) rfl rfl hl.1 rfl (lv_room (Nat.le_of_ble_eq_true rfl)) dX4_addBoard_18 ⟨Nat.le_of_ble_eq_true rfl, Nat.le_of_ble_eq_true rfl⟩) hS (fun r18 u18 H locs h18 hP hS => ?_)
    rcases h18 with ⟨rfl, h18⟩ | ⟨rfl, h18⟩
    · refine lv_if_ne (tgt := 28) hx hb dX4_addBoard_21 (by decide) (fun c21 => ?_) (fun c21 => absurd c21 (by decide))
      refine lv_iconst (v := 0) hx hb dX4_addBoard_28 (by decide) ?_
      refine lv_iconst (v := 1) hx hb dX4_addBoard_29 (by decide) ?_
      refine wx_calli (va_runV (As := [.int 0, .int 1]) (rest := []) ⟨hx, hb, hml, hown, hts⟩ (m_fails l hst g base n L (by omega) (st y 0 0 0 0) ch r0 st_eq 0 1 (by decide)) (cwV 2 hts gX4_addBoard_X4_fails rfl rfl rfl (by decide +kernel) ⟨Nat.le_of_ble_eq_true rfl, Nat.le_of_ble_eq_true rfl⟩) (hPW.preV hP hS (ci := 6) rfl (by omega) mw_o) rfl rfl hl.1 rfl (lv_room (Nat.le_of_ble_eq_true rfl)) dX4_addBoard_30 ⟨Nat.le_of_ble_eq_true rfl, Nat.le_of_ble_eq_true rfl⟩) hS (fun r30 u30 H locs h30 hP hS => ?_)
      obtain ⟨rfl, -, e9⟩ : r30 = 0 ∧ True ∧ u30 = st y 0 0 0 0 := by rcases h30 with ⟨a, -, b⟩ | ⟨-, b, -⟩; exact ⟨a, trivial, b⟩; exact absurd rfl b
      have e9 := e9.symm
      subst e9
      refine lv_if_ne (tgt := 58) hx hb dX4_addBoard_33 (by decide) (fun c33 => absurd c33 (by decide)) (fun c33 => ?_)
      refine lv_aload_n hx hb dX4_addBoard_36 rfl (lv_at hl 0 rfl) ?_
      refine lv_aload_n hx hb dX4_addBoard_37 rfl (lv_at hl 0 rfl) ?_
      refine wx_get (D := g.1) (cl := vwCl) (ci := 6) (v := .int ((st y 0 0 0 0) 3 0 0)) (C := RX4) (T := TX4) (N := 22) hx hb hts iX4 hown hK hP (106) (by omega) mw_o rfl 3 (by decide) (hts (.fieldLink RX4 67 "FerroDeskModel" "boards" "I") (by decide +kernel)) (fun _ h9 => h9) rfl dX4_addBoard_38 ?_
      refine lv_bipush (v := 6) hx hb dX4_addBoard_41 (by decide) ?_
      refine lv_icmp_ne (tgt := 50) hx hb dX4_addBoard_43 (by decide) (fun c43 => ?_) (fun c43 => ?_)
      · refine lv_iconst (v := 0) hx hb dX4_addBoard_50 (by decide) ?_
        refine lv_iconst (v := 2) hx hb dX4_addBoard_51 (by decide) ?_
        refine wx_calli (va_runV (As := [.int 0, .int 2]) (rest := []) ⟨hx, hb, hml, hown, hts⟩ (m_fails l hst g base n L (by omega) (st y 0 0 0 0) ch r0 st_eq 0 2 (by decide)) (cwV 2 hts gX4_addBoard_X4_fails rfl rfl rfl (by decide +kernel) ⟨Nat.le_of_ble_eq_true rfl, Nat.le_of_ble_eq_true rfl⟩) (hPW.preV hP hS (ci := 6) rfl (by omega) mw_o) rfl rfl hl.1 rfl (lv_room (Nat.le_of_ble_eq_true rfl)) dX4_addBoard_52 ⟨Nat.le_of_ble_eq_true rfl, Nat.le_of_ble_eq_true rfl⟩) hS (fun r52 u52 H locs h52 hP hS => ?_)
        obtain ⟨rfl, -, e9⟩ : r52 = 0 ∧ True ∧ u52 = st y 0 0 0 0 := by rcases h52 with ⟨a, -, b⟩ | ⟨-, b, -⟩; exact ⟨a, trivial, b⟩; exact absurd rfl b
        have e9 := e9.symm
        subst e9
        refine lv_if_eq (tgt := 60) hx hb dX4_addBoard_55 (by decide) (fun c55 => ?_) (fun c55 => absurd (by decide) c55)
        have hlt : nb < 6 := (by have h9 : nb ≠ 6 := fun h8 => c43 (hT3.trans (by rw [h8]; rfl)); omega)
        refine lv_aload_n hx hb dX4_addBoard_60 rfl (lv_at hl 0 rfl) ?_
        refine wx_get (D := g.1) (cl := vwCl) (ci := 6) (v := .ref (L 107)) (C := RX4) (T := TX4) (N := 22) hx hb hts iX4 hown hK hP (106) (by omega) mw_o rfl 6 (by decide) (hts (.fieldLink RX4 13 "FerroDeskModel" "districtOf" "[I") (by decide +kernel)) (fun _ h9 => h9) rfl dX4_addBoard_61 ?_
        refine lv_aload_n hx hb dX4_addBoard_64 rfl (lv_at hl 0 rfl) ?_
        refine wx_get (D := g.1) (cl := vwCl) (ci := 6) (v := .int ((st y 0 0 0 0) 3 0 0)) (C := RX4) (T := TX4) (N := 22) hx hb hts iX4 hown hK hP (106) (by omega) mw_o rfl 3 (by decide) (hts (.fieldLink RX4 67 "FerroDeskModel" "boards" "I") (by decide +kernel)) (fun _ h9 => h9) rfl dX4_addBoard_65 ?_
        refine lv_iload_n hx hb dX4_addBoard_68 rfl (lv_at hl 1 rfl) ?_
        refine wx_iast (D := g.1) (cl := vwCl) (N := 6) (f := fun j9 => (st y 0 0 0 0) 10 0 j9) (w' := mw g L (st (st y 0 0 0 0) 10 0 nb p0) ch r0) hx hb hK hP hJ hS (107) 0 (by omega) (mw_a (by decide) (by decide)) rfl (i := (st y 0 0 0 0) 3 0 0) (by rw [show (st y 0 0 0 0) 3 0 0 = nI nb from (by repeat (first | exact hy3 | rw [st_nr (by omega)]))]; exact vp_in_nI (by omega) (by decide)) dX4_addBoard_69 (by rw [show (st y 0 0 0 0) 3 0 0 = nI nb from (by repeat (first | exact hy3 | rw [st_nr (by omega)]))]; rw [nI_clamp (by omega)]; exact mw_st (r := 10) rfl (by decide) (by decide) rfl rfl rfl) (fun H locs hP hS => ?_)
        refine lv_aload_n hx hb dX4_addBoard_70 rfl (lv_at hl 0 rfl) ?_
        refine wx_get (D := g.1) (cl := vwCl) (ci := 6) (v := .ref (L 108)) (C := RX4) (T := TX4) (N := 22) hx hb hts iX4 hown hK hP (106) (by omega) mw_o rfl 7 (by decide) (hts (.fieldLink RX4 17 "FerroDeskModel" "charge" "[I") (by decide +kernel)) (fun _ h9 => h9) rfl dX4_addBoard_71 ?_
        refine lv_aload_n hx hb dX4_addBoard_74 rfl (lv_at hl 0 rfl) ?_
        refine wx_get (D := g.1) (cl := vwCl) (ci := 6) (v := .int ((st (st y 0 0 0 0) 10 0 nb p0) 3 0 0)) (C := RX4) (T := TX4) (N := 22) hx hb hts iX4 hown hK hP (106) (by omega) mw_o rfl 3 (by decide) (hts (.fieldLink RX4 67 "FerroDeskModel" "boards" "I") (by decide +kernel)) (fun _ h9 => h9) rfl dX4_addBoard_75 ?_
        refine lv_iload_n hx hb dX4_addBoard_78 rfl (lv_at hl 2 rfl) ?_
        refine wx_iast (D := g.1) (cl := vwCl) (N := 6) (f := fun j9 => (st (st y 0 0 0 0) 10 0 nb p0) 11 0 j9) (w' := mw g L (st (st (st y 0 0 0 0) 10 0 nb p0) 11 0 nb p1) ch r0) hx hb hK hP hJ hS (108) 0 (by omega) (mw_a (by decide) (by decide)) rfl (i := (st (st y 0 0 0 0) 10 0 nb p0) 3 0 0) (by rw [show (st (st y 0 0 0 0) 10 0 nb p0) 3 0 0 = nI nb from (by repeat (first | exact hy3 | rw [st_nr (by omega)]))]; exact vp_in_nI (by omega) (by decide)) dX4_addBoard_79 (by rw [show (st (st y 0 0 0 0) 10 0 nb p0) 3 0 0 = nI nb from (by repeat (first | exact hy3 | rw [st_nr (by omega)]))]; rw [nI_clamp (by omega)]; exact mw_st (r := 11) rfl (by decide) (by decide) rfl rfl rfl) (fun H locs hP hS => ?_)
        refine lv_aload_n hx hb dX4_addBoard_80 rfl (lv_at hl 0 rfl) ?_
        refine wx_get (D := g.1) (cl := vwCl) (ci := 6) (v := .ref (L 109)) (C := RX4) (T := TX4) (N := 22) hx hb hts iX4 hown hK hP (106) (by omega) mw_o rfl 8 (by decide) (hts (.fieldLink RX4 20 "FerroDeskModel" "shown" "[I") (by decide +kernel)) (fun _ h9 => h9) rfl dX4_addBoard_81 ?_
        refine lv_aload_n hx hb dX4_addBoard_84 rfl (lv_at hl 0 rfl) ?_
        refine wx_get (D := g.1) (cl := vwCl) (ci := 6) (v := .int ((st (st (st y 0 0 0 0) 10 0 nb p0) 11 0 nb p1) 3 0 0)) (C := RX4) (T := TX4) (N := 22) hx hb hts iX4 hown hK hP (106) (by omega) mw_o rfl 3 (by decide) (hts (.fieldLink RX4 67 "FerroDeskModel" "boards" "I") (by decide +kernel)) (fun _ h9 => h9) rfl dX4_addBoard_85 ?_
        refine lv_iconst (v := (-1)) hx hb dX4_addBoard_88 (by decide) ?_
        refine wx_iast (D := g.1) (cl := vwCl) (N := 6) (f := fun j9 => (st (st (st y 0 0 0 0) 10 0 nb p0) 11 0 nb p1) 12 0 j9) (w' := mw g L (st (st (st (st y 0 0 0 0) 10 0 nb p0) 11 0 nb p1) 12 0 nb (-1)) ch r0) hx hb hK hP hJ hS (109) 0 (by omega) (mw_a (by decide) (by decide)) rfl (i := (st (st (st y 0 0 0 0) 10 0 nb p0) 11 0 nb p1) 3 0 0) (by rw [show (st (st (st y 0 0 0 0) 10 0 nb p0) 11 0 nb p1) 3 0 0 = nI nb from (by repeat (first | exact hy3 | rw [st_nr (by omega)]))]; exact vp_in_nI (by omega) (by decide)) dX4_addBoard_89 (by rw [show (st (st (st y 0 0 0 0) 10 0 nb p0) 11 0 nb p1) 3 0 0 = nI nb from (by repeat (first | exact hy3 | rw [st_nr (by omega)]))]; rw [nI_clamp (by omega)]; exact mw_st (r := 12) rfl (by decide) (by decide) rfl rfl rfl) (fun H locs hP hS => ?_)
        refine lv_aload_n hx hb dX4_addBoard_90 rfl (lv_at hl 0 rfl) ?_
        refine lv_dup hx hb dX4_addBoard_91 rfl ?_
        refine wx_get (D := g.1) (cl := vwCl) (ci := 6) (v := .int ((st (st (st (st y 0 0 0 0) 10 0 nb p0) 11 0 nb p1) 12 0 nb (-1)) 3 0 0)) (C := RX4) (T := TX4) (N := 22) hx hb hts iX4 hown hK hP (106) (by omega) mw_o rfl 3 (by decide) (hts (.fieldLink RX4 67 "FerroDeskModel" "boards" "I") (by decide +kernel)) (fun _ h9 => h9) rfl dX4_addBoard_92 ?_
        refine lv_iconst (v := 1) hx hb dX4_addBoard_95 (by decide) ?_
        refine lv_iadd hx hb dX4_addBoard_96 ?_
        refine wx_put (D := g.1) (cl := vwCl) (ci := 6) (v := .int (((st (st (st (st y 0 0 0 0) 10 0 nb p0) 11 0 nb p1) 12 0 nb (-1)) 3 0 0) + 1)) (ty := .int) (w' := mw g L (st (st (st (st (st y 0 0 0 0) 10 0 nb p0) 11 0 nb p1) 12 0 nb (-1)) 3 0 0 (((st (st (st (st y 0 0 0 0) 10 0 nb p0) 11 0 nb p1) 12 0 nb (-1)) 3 0 0) + 1)) ch r0) (C := RX4) (T := TX4) (N := 22) hx hb hts iX4 tyX4 tyX4_ok nmX4 hown hK hP hJ hS (106) (by omega) mw_o rfl 3 (by decide) (hts (.fieldLink RX4 67 "FerroDeskModel" "boards" "I") (by decide +kernel)) (fun _ h9 => h9) rfl (by decide +kernel) rfl rfl (Nat.le_of_ble_eq_true rfl) dX4_addBoard_97 (mw_put (r := 3) (i := 0) (j := 0) rfl (by omega) (mk_o.trans (by simp [mF, st]))) (fun H locs hP hS => ?_)
        refine lv_aload_n hx hb dX4_addBoard_100 rfl (lv_at hl 0 rfl) ?_
        refine wx_get (D := g.1) (cl := vwCl) (ci := 6) (v := .int ((st (st (st (st (st y 0 0 0 0) 10 0 nb p0) 11 0 nb p1) 12 0 nb (-1)) 3 0 0 (((st (st (st (st y 0 0 0 0) 10 0 nb p0) 11 0 nb p1) 12 0 nb (-1)) 3 0 0) + 1)) 3 0 0)) (C := RX4) (T := TX4) (N := 22) hx hb hts iX4 hown hK hP (106) (by omega) mw_o rfl 3 (by decide) (hts (.fieldLink RX4 67 "FerroDeskModel" "boards" "I") (by decide +kernel)) (fun _ h9 => h9) rfl dX4_addBoard_101 ?_
        refine lv_iconst (v := 1) hx hb dX4_addBoard_104 (by decide) ?_
        refine lv_isub hx hb dX4_addBoard_105 ?_
        refine W.widen (k := 0) (n := 0) (Nat.le_of_ble_eq_true rfl) (Nat.le_of_ble_eq_true rfl) ?_
        exact W.iret (v := ((st (st (st (st (st y 0 0 0 0) 10 0 nb p0) 11 0 nb p1) 12 0 nb (-1)) 3 0 0 (((st (st (st (st y 0 0 0 0) 10 0 nb p0) 11 0 nb p1) 12 0 nb (-1)) 3 0 0) + 1)) 3 0 0) - 1) hx hb hr (fun t ht hW => ⟨⟨((st (st (st (st (st y 0 0 0 0) 10 0 nb p0) 11 0 nb p1) 12 0 nb (-1)) 3 0 0 (((st (st (st (st y 0 0 0 0) 10 0 nb p0) 11 0 nb p1) 12 0 nb (-1)) 3 0 0) + 1)) 3 0 0) - 1, (st (st (st (st (st y 0 0 0 0) 10 0 nb p0) 11 0 nb p1) 12 0 nb (-1)) 3 0 0 (((st (st (st (st y 0 0 0 0) 10 0 nb p0) 11 0 nb p1) 12 0 nb (-1)) 3 0 0) + 1), ch), rfl, Or.inr (Or.inr ⟨(by have h9 := dsOK hd7 ed7; (try revert h18 h9); (try simp only [xor_m1]); (try simp only [Int32.lt_iff_toInt_lt, Int32.le_iff_toInt_le, ← Int32.toInt_inj, i_0, i_1, i_2, i_3, i_4, i_6, i_9, i_20, i_32, i_40, i_48, i_60, i_200, i_999, i_2000, i_m1, i_8]); (try simp only [i_8, i_7]); omega), (by have h9 : nb ≠ 6 := fun h8 => c43 (hT3.trans (by rw [h8]; rfl)); omega), rfl, rfl⟩), PB.mk9 hP ht⟩, hS.F ht⟩) hS.2.2 dX4_addBoard_106
      · refine lv_iconst (v := 1) hx hb dX4_addBoard_46 (by decide) ?_
        refine lv_goto (tgt := 51) hx hb dX4_addBoard_47 (by decide) ?_
        refine lv_iconst (v := 2) hx hb dX4_addBoard_51 (by decide) ?_
        refine wx_calli (va_runV (As := [.int 1, .int 2]) (rest := []) ⟨hx, hb, hml, hown, hts⟩ (m_fails l hst g base n L (by omega) (st y 0 0 0 0) ch r0 st_eq 1 2 (by decide)) (cwV 2 hts gX4_addBoard_X4_fails rfl rfl rfl (by decide +kernel) ⟨Nat.le_of_ble_eq_true rfl, Nat.le_of_ble_eq_true rfl⟩) (hPW.preV hP hS (ci := 6) rfl (by omega) mw_o) rfl rfl hl.1 rfl (lv_room (Nat.le_of_ble_eq_true rfl)) dX4_addBoard_52 ⟨Nat.le_of_ble_eq_true rfl, Nat.le_of_ble_eq_true rfl⟩) hS (fun r52 u52 H locs h52 hP hS => ?_)
        obtain ⟨rfl, -, e9⟩ : r52 = 1 ∧ True ∧ u52 = st (st y 0 0 0 0) 0 0 0 2 := by rcases h52 with ⟨-, b, -⟩ | ⟨a, -, b⟩; exact absurd b (by decide); exact ⟨a, trivial, b⟩
        have e9 := e9.symm
        subst e9
        refine lv_if_eq (tgt := 60) hx hb dX4_addBoard_55 (by decide) (fun c55 => absurd c55 (by decide)) (fun c55 => ?_)
        refine lv_iconst (v := 0) hx hb dX4_addBoard_58 (by decide) ?_
        refine W.widen (k := 0) (n := 0) (Nat.le_of_ble_eq_true rfl) (Nat.le_of_ble_eq_true rfl) ?_
        exact W.iret (v := 0) hx hb hr (fun t ht hW => ⟨⟨0, (st (st y 0 0 0 0) 0 0 0 2, ch), rfl, Or.inr (Or.inl ⟨(by have h9 := dsOK hd7 ed7; (try revert h18 h9); (try simp only [xor_m1]); (try simp only [Int32.lt_iff_toInt_lt, Int32.le_iff_toInt_le, ← Int32.toInt_inj, i_0, i_1, i_2, i_3, i_4, i_6, i_9, i_20, i_32, i_40, i_48, i_60, i_200, i_999, i_2000, i_m1, i_8]); (try simp only [i_8, i_7]); omega), ((nI_eq (b := 6) (by omega) (by omega)).mp (hT3.symm.trans c43)), rfl⟩), PB.mk9 hP ht⟩, hS.F ht⟩) hS.2.2 dX4_addBoard_59
    · refine lv_if_ne (tgt := 28) hx hb dX4_addBoard_21 (by decide) (fun c21 => absurd c21 (by decide)) (fun c21 => ?_)
      refine lv_iconst (v := 1) hx hb dX4_addBoard_24 (by decide) ?_
      refine lv_goto (tgt := 29) hx hb dX4_addBoard_25 (by decide) ?_
      refine lv_iconst (v := 1) hx hb dX4_addBoard_29 (by decide) ?_
      refine wx_calli (va_runV (As := [.int 1, .int 1]) (rest := []) ⟨hx, hb, hml, hown, hts⟩ (m_fails l hst g base n L (by omega) (st y 0 0 0 0) ch r0 st_eq 1 1 (by decide)) (cwV 2 hts gX4_addBoard_X4_fails rfl rfl rfl (by decide +kernel) ⟨Nat.le_of_ble_eq_true rfl, Nat.le_of_ble_eq_true rfl⟩) (hPW.preV hP hS (ci := 6) rfl (by omega) mw_o) rfl rfl hl.1 rfl (lv_room (Nat.le_of_ble_eq_true rfl)) dX4_addBoard_30 ⟨Nat.le_of_ble_eq_true rfl, Nat.le_of_ble_eq_true rfl⟩) hS (fun r30 u30 H locs h30 hP hS => ?_)
      obtain ⟨rfl, -, e9⟩ : r30 = 1 ∧ True ∧ u30 = st (st y 0 0 0 0) 0 0 0 1 := by rcases h30 with ⟨-, b, -⟩ | ⟨a, -, b⟩; exact absurd b (by decide); exact ⟨a, trivial, b⟩
      have e9 := e9.symm
      subst e9
      refine lv_if_ne (tgt := 58) hx hb dX4_addBoard_33 (by decide) (fun c33 => ?_) (fun c33 => absurd c33 (by decide))
      refine lv_iconst (v := 0) hx hb dX4_addBoard_58 (by decide) ?_
      refine W.widen (k := 0) (n := 0) (Nat.le_of_ble_eq_true rfl) (Nat.le_of_ble_eq_true rfl) ?_
      exact W.iret (v := 0) hx hb hr (fun t ht hW => ⟨⟨0, (st (st y 0 0 0 0) 0 0 0 1, ch), rfl, Or.inl ⟨(by have h9 := dsOK hd7 ed7; (try revert h18 h9); (try simp only [xor_m1]); (try simp only [Int32.lt_iff_toInt_lt, Int32.le_iff_toInt_le, ← Int32.toInt_inj, i_0, i_1, i_2, i_3, i_4, i_6, i_9, i_20, i_32, i_40, i_48, i_60, i_200, i_999, i_2000, i_m1, i_8]); (try simp only [i_8, i_7]); omega), rfl⟩, PB.mk9 hP ht⟩, hS.F ht⟩) hS.2.2 dX4_addBoard_59

set_option maxHeartbeats 4000000 in
set_option maxRecDepth 100000 in
theorem m_setSun (l : Launch) (hst : l.stackTraces = false) (g : gE) (base n : Nat) (L : Nat → Nat) (hn : 123 ≤ n) (y : St) (ch : Int64) (r0 : Nat → va_E) (nb nn : Nat) (hM : MI y nb nn) (p0 : Int32) : Met l yX4_setSun wsX4_setSun ({ frames := 2, cells := 0, slots := 0, locals := 120 }) (va_Pc [.ref (L 106), .int p0] (PW SS g base n L (mw g L y ch r0))) (va_Qi (fun (r : Int32) (u : MS) => (¬ (0 ≤ p0.toInt ∧ p0.toInt ≤ 20) ∧ u = (st (st y 0 0 0 0) 0 0 0 1, ch)) ∨ ((0 ≤ p0.toInt ∧ p0.toInt ≤ 20) ∧ u = (st (st y 0 0 0 0) 2 0 0 p0, ch) ∧ r = st y 0 0 0 0 2 0 0)) (fun (u : MS) t => PB g n L (mw g L u.1 u.2 r0) t) (fun q => base ≤ q)) 0 0 (fun q => base ≤ q) := by
  refine Met.ofW (cc := cX4_setSun) (maxL := 3) (ret := (some .int)) (by decide) rfl ?_
  intro p e s m args below meth c s₁ B hml hv
  obtain ⟨rfl, hPW⟩ := hv
  obtain ⟨hbs, hJ, hP, hK, hE⟩ := id hPW
  have hx := B.exec
  have hb := B.bytes
  have hr := B.returns
  have hts := atoms_spec (ws := wsX4_setSun) B.pre
  have hown : s.vm.findClass RX4 = some m.cls := findClass_of_methodNamed B.named
  have hlocks := B.notSynchronized
  have hS : va_S (fun q : Nat => base ≤ q) s.heap s.heap [] := va_S.rf
  have hl := lv_entry ([.ref (L 106), .int p0]) (n := 3) (Nat.le_of_ble_eq_true rfl)
  rw [lg_entry_eq]
  generalize (lg_sl ([.ref (L 106), .int p0]) ++ List.replicate (3 - (lg_sl ([.ref (L 106), .int p0])).length) Slot.unset).toArray = ls at hl ⊢
  have hl : lv_has ls 3 [(0, .ref (L 106)), (1, .int p0)] := hl
  have iX4 : ∀ w ∈ wsX40, w ∈ wsX4_setSun := by decide +kernel
  have hnb := hM.nb6
  have hnn := hM.nn40
  have hy3 := hM.y3
  have hy4 := hM.y4
  have hT3 : (st y 0 0 0 0) 3 0 0 = nI nb := (st_nr (by omega)).trans hy3
  have hT4 : (st y 0 0 0 0) 4 0 0 = nI nn := (st_nr (by omega)).trans hy4
  refine lv_aload_n hx hb dX4_setSun_0 rfl (lv_at hl 0 rfl) ?_
  refine lv_iconst (v := 0) hx hb dX4_setSun_1 (by decide) ?_
  refine wx_put (D := g.1) (cl := vwCl) (ci := 6) (v := .int 0) (ty := .int) (w' := mw g L (st y 0 0 0 0) ch r0) (C := RX4) (T := TX4) (N := 22) hx hb hts iX4 tyX4 tyX4_ok nmX4 hown hK hP hJ hS (106) (by omega) mw_o rfl 0 (by decide) (hts (.fieldLink RX4 64 "FerroDeskModel" "thrown" "I") (by decide +kernel)) (fun _ h9 => h9) rfl (by decide +kernel) rfl rfl (Nat.le_of_ble_eq_true rfl) dX4_setSun_2 (mw_put (r := 0) (i := 0) (j := 0) rfl (by omega) (mk_o.trans (by simp [mF, st]))) (fun H locs hP hS => ?_)
  refine lv_aload_n hx hb dX4_setSun_5 rfl (lv_at hl 0 rfl) ?_
  refine lv_iload_n hx hb dX4_setSun_6 rfl (lv_at hl 1 rfl) ?_
  refine lv_iconst (v := 0) hx hb dX4_setSun_7 (by decide) ?_
  refine lv_bipush (v := 20) hx hb dX4_setSun_8 (by decide) ?_
  refine wx_calli (va_runS (As := [.int p0, .int 0, .int 20]) (rest := [.ref (L 106)]) ⟨hx, hb, hml, hown, hts⟩ (m_in l hst g base n L (mw g L (st y 0 0 0 0) ch r0) p0 0 20) (va_cwS 3 hts gX4_setSun_X4_in rfl rfl rfl (by decide +kernel) ⟨Nat.le_of_ble_eq_true rfl, Nat.le_of_ble_eq_true rfl⟩) (hPW.preS hP hS) rfl rfl hl.1 rfl (lv_room (Nat.le_of_ble_eq_true rfl)) dX4_setSun_10 ⟨Nat.le_of_ble_eq_true rfl, Nat.le_of_ble_eq_true rfl⟩) hS (fun r10 u10 H locs h10 hP hS => ?_)
  rcases h10 with ⟨rfl, h10⟩ | ⟨rfl, h10⟩
  · refine lv_if_ne (tgt := 20) hx hb dX4_setSun_13 (by decide) (fun c13 => ?_) (fun c13 => absurd c13 (by decide))
    refine lv_iconst (v := 0) hx hb dX4_setSun_20 (by decide) ?_
    refine lv_iconst (v := 1) hx hb dX4_setSun_21 (by decide) ?_
    refine wx_calli (va_runV (As := [.int 0, .int 1]) (rest := []) ⟨hx, hb, hml, hown, hts⟩ (m_fails l hst g base n L (by omega) (st y 0 0 0 0) ch r0 st_eq 0 1 (by decide)) (cwV 2 hts gX4_setSun_X4_fails rfl rfl rfl (by decide +kernel) ⟨Nat.le_of_ble_eq_true rfl, Nat.le_of_ble_eq_true rfl⟩) (hPW.preV hP hS (ci := 6) rfl (by omega) mw_o) rfl rfl hl.1 rfl (lv_room (Nat.le_of_ble_eq_true rfl)) dX4_setSun_22 ⟨Nat.le_of_ble_eq_true rfl, Nat.le_of_ble_eq_true rfl⟩) hS (fun r22 u22 H locs h22 hP hS => ?_)
    obtain ⟨rfl, -, e9⟩ : r22 = 0 ∧ True ∧ u22 = st y 0 0 0 0 := by rcases h22 with ⟨a, -, b⟩ | ⟨-, b, -⟩; exact ⟨a, trivial, b⟩; exact absurd rfl b
    have e9 := e9.symm
    subst e9
    refine lv_if_eq (tgt := 30) hx hb dX4_setSun_25 (by decide) (fun c25 => ?_) (fun c25 => absurd (by decide) c25)
    refine lv_aload_n hx hb dX4_setSun_30 rfl (lv_at hl 0 rfl) ?_
    refine wx_get (D := g.1) (cl := vwCl) (ci := 6) (v := .int ((st y 0 0 0 0) 2 0 0)) (C := RX4) (T := TX4) (N := 22) hx hb hts iX4 hown hK hP (106) (by omega) mw_o rfl 2 (by decide) (hts (.fieldLink RX4 7 "FerroDeskModel" "light" "I") (by decide +kernel)) (fun _ h9 => h9) rfl dX4_setSun_31 ?_
    refine lv_istore_n (lv' := [(2, .int ((st y 0 0 0 0) 2 0 0)), (0, .ref (L 106)), (1, .int p0)]) hx hb dX4_setSun_34 rfl hl (by decide) rfl (fun ls hl => ?_)
    refine lv_aload_n hx hb dX4_setSun_35 rfl (lv_at hl 1 rfl) ?_
    refine lv_iload_n hx hb dX4_setSun_36 rfl (lv_at hl 2 rfl) ?_
    refine wx_put (D := g.1) (cl := vwCl) (ci := 6) (v := .int p0) (ty := .int) (w' := mw g L (st (st y 0 0 0 0) 2 0 0 p0) ch r0) (C := RX4) (T := TX4) (N := 22) hx hb hts iX4 tyX4 tyX4_ok nmX4 hown hK hP hJ hS (106) (by omega) mw_o rfl 2 (by decide) (hts (.fieldLink RX4 7 "FerroDeskModel" "light" "I") (by decide +kernel)) (fun _ h9 => h9) rfl (by decide +kernel) rfl rfl (Nat.le_of_ble_eq_true rfl) dX4_setSun_37 (mw_put (r := 2) (i := 0) (j := 0) rfl (by omega) (mk_o.trans (by simp [mF, st]))) (fun H locs hP hS => ?_)
    refine lv_iload_n hx hb dX4_setSun_40 rfl (lv_at hl 0 rfl) ?_
    refine W.widen (k := 0) (n := 0) (Nat.le_of_ble_eq_true rfl) (Nat.le_of_ble_eq_true rfl) ?_
    exact W.iret (v := (st y 0 0 0 0) 2 0 0) hx hb hr (fun t ht hW => ⟨⟨(st y 0 0 0 0) 2 0 0, (st (st y 0 0 0 0) 2 0 0 p0, ch), rfl, Or.inr ⟨(by (try revert h10); (try simp only [xor_m1]); (try simp only [Int32.lt_iff_toInt_lt, Int32.le_iff_toInt_le, ← Int32.toInt_inj, i_0, i_1, i_2, i_3, i_4, i_6, i_9, i_20, i_32, i_40, i_48, i_60, i_200, i_999, i_2000, i_m1, i_8]); (try simp only [i_8, i_7]); omega), rfl, rfl⟩, PB.mk9 hP ht⟩, hS.F ht⟩) hS.2.2 dX4_setSun_41
  · refine lv_if_ne (tgt := 20) hx hb dX4_setSun_13 (by decide) (fun c13 => absurd c13 (by decide)) (fun c13 => ?_)
    refine lv_iconst (v := 1) hx hb dX4_setSun_16 (by decide) ?_
    refine lv_goto (tgt := 21) hx hb dX4_setSun_17 (by decide) ?_
    refine lv_iconst (v := 1) hx hb dX4_setSun_21 (by decide) ?_
    refine wx_calli (va_runV (As := [.int 1, .int 1]) (rest := []) ⟨hx, hb, hml, hown, hts⟩ (m_fails l hst g base n L (by omega) (st y 0 0 0 0) ch r0 st_eq 1 1 (by decide)) (cwV 2 hts gX4_setSun_X4_fails rfl rfl rfl (by decide +kernel) ⟨Nat.le_of_ble_eq_true rfl, Nat.le_of_ble_eq_true rfl⟩) (hPW.preV hP hS (ci := 6) rfl (by omega) mw_o) rfl rfl hl.1 rfl (lv_room (Nat.le_of_ble_eq_true rfl)) dX4_setSun_22 ⟨Nat.le_of_ble_eq_true rfl, Nat.le_of_ble_eq_true rfl⟩) hS (fun r22 u22 H locs h22 hP hS => ?_)
    obtain ⟨rfl, -, e9⟩ : r22 = 1 ∧ True ∧ u22 = st (st y 0 0 0 0) 0 0 0 1 := by rcases h22 with ⟨-, b, -⟩ | ⟨a, -, b⟩; exact absurd b (by decide); exact ⟨a, trivial, b⟩
    have e9 := e9.symm
    subst e9
    refine lv_if_eq (tgt := 30) hx hb dX4_setSun_25 (by decide) (fun c25 => absurd c25 (by decide)) (fun c25 => ?_)
    refine lv_iconst (v := 0) hx hb dX4_setSun_28 (by decide) ?_
    refine W.widen (k := 0) (n := 0) (Nat.le_of_ble_eq_true rfl) (Nat.le_of_ble_eq_true rfl) ?_
    exact W.iret (v := 0) hx hb hr (fun t ht hW => ⟨⟨0, (st (st y 0 0 0 0) 0 0 0 1, ch), rfl, Or.inl ⟨(by (try revert h10); (try simp only [xor_m1]); (try simp only [Int32.lt_iff_toInt_lt, Int32.le_iff_toInt_le, ← Int32.toInt_inj, i_0, i_1, i_2, i_3, i_4, i_6, i_9, i_20, i_32, i_40, i_48, i_60, i_200, i_999, i_2000, i_m1, i_8]); (try simp only [i_8, i_7]); omega), rfl⟩, PB.mk9 hP ht⟩, hS.F ht⟩) hS.2.2 dX4_setSun_29

set_option maxHeartbeats 4000000 in
set_option maxRecDepth 100000 in
theorem m_charge (l : Launch) (hst : l.stackTraces = false) (g : gE) (base n : Nat) (L : Nat → Nat) (hn : 123 ≤ n) (y : St) (ch : Int64) (r0 : Nat → va_E) (nb nn : Nat) (hM : MI y nb nn) (p0 : Int32) : Met l yX4_charge wsX4_charge ({ frames := 2, cells := 0, slots := 0, locals := 120 }) (va_Pc [.ref (L 106), .int p0] (PW SS g base n L (mw g L y ch r0))) (va_Qi (fun (r : Int32) (u : MS) => ((p0.toInt < 0 ∨ nb ≤ p0.toInt) ∧ u = (st (st y 0 0 0 0) 0 0 0 1, ch)) ∨ (∃ j, j < nb ∧ p0 = nI j ∧ u = (st y 0 0 0 0, ch) ∧ r = st y 0 0 0 0 11 0 j)) (fun (u : MS) t => PB g n L (mw g L u.1 u.2 r0) t) (fun q => base ≤ q)) 0 0 (fun q => base ≤ q) := by
  refine Met.ofW (cc := cX4_charge) (maxL := 2) (ret := (some .int)) (by decide) rfl ?_
  intro p e s m args below meth c s₁ B hml hv
  obtain ⟨rfl, hPW⟩ := hv
  obtain ⟨hbs, hJ, hP, hK, hE⟩ := id hPW
  have hx := B.exec
  have hb := B.bytes
  have hr := B.returns
  have hts := atoms_spec (ws := wsX4_charge) B.pre
  have hown : s.vm.findClass RX4 = some m.cls := findClass_of_methodNamed B.named
  have hlocks := B.notSynchronized
  have hS : va_S (fun q : Nat => base ≤ q) s.heap s.heap [] := va_S.rf
  have hl := lv_entry ([.ref (L 106), .int p0]) (n := 2) (Nat.le_of_ble_eq_true rfl)
  rw [lg_entry_eq]
  generalize (lg_sl ([.ref (L 106), .int p0]) ++ List.replicate (2 - (lg_sl ([.ref (L 106), .int p0])).length) Slot.unset).toArray = ls at hl ⊢
  have hl : lv_has ls 2 [(0, .ref (L 106)), (1, .int p0)] := hl
  have iX4 : ∀ w ∈ wsX40, w ∈ wsX4_charge := by decide +kernel
  have hnb := hM.nb6
  have hnn := hM.nn40
  have hy3 := hM.y3
  have hy4 := hM.y4
  have hT3 : (st y 0 0 0 0) 3 0 0 = nI nb := (st_nr (by omega)).trans hy3
  have hT4 : (st y 0 0 0 0) 4 0 0 = nI nn := (st_nr (by omega)).trans hy4
  refine lv_aload_n hx hb dX4_charge_0 rfl (lv_at hl 0 rfl) ?_
  refine lv_iconst (v := 0) hx hb dX4_charge_1 (by decide) ?_
  refine wx_put (D := g.1) (cl := vwCl) (ci := 6) (v := .int 0) (ty := .int) (w' := mw g L (st y 0 0 0 0) ch r0) (C := RX4) (T := TX4) (N := 22) hx hb hts iX4 tyX4 tyX4_ok nmX4 hown hK hP hJ hS (106) (by omega) mw_o rfl 0 (by decide) (hts (.fieldLink RX4 64 "FerroDeskModel" "thrown" "I") (by decide +kernel)) (fun _ h9 => h9) rfl (by decide +kernel) rfl rfl (Nat.le_of_ble_eq_true rfl) dX4_charge_2 (mw_put (r := 0) (i := 0) (j := 0) rfl (by omega) (mk_o.trans (by simp [mF, st]))) (fun H locs hP hS => ?_)
  refine lv_aload_n hx hb dX4_charge_5 rfl (lv_at hl 0 rfl) ?_
  refine lv_aload_n hx hb dX4_charge_6 rfl (lv_at hl 0 rfl) ?_
  refine lv_iload_n hx hb dX4_charge_7 rfl (lv_at hl 1 rfl) ?_
  refine wx_calli (va_runV (As := [.int p0]) (rest := [.ref (L 106)]) ⟨hx, hb, hml, hown, hts⟩ (m_noBoard l hst g base n L (by omega) (st y 0 0 0 0) ch r0 nb hnb (by repeat (first | exact hy3 | rw [st_nr (by omega)])) p0) (cwV 1 hts gX4_charge_X4_noBoard rfl rfl rfl (by decide +kernel) ⟨Nat.le_of_ble_eq_true rfl, Nat.le_of_ble_eq_true rfl⟩) (hPW.preV hP hS (ci := 6) rfl (by omega) mw_o) rfl rfl hl.1 rfl (lv_room (Nat.le_of_ble_eq_true rfl)) dX4_charge_8 ⟨Nat.le_of_ble_eq_true rfl, Nat.le_of_ble_eq_true rfl⟩) hS (fun r8 u8 H locs h8 hP hS => ?_)
  rcases h8 with ⟨rfl, h8⟩ | ⟨rfl, j8, hj8, rfl⟩
  · refine lv_iconst (v := 1) hx hb dX4_charge_11 (by decide) ?_
    refine wx_calli (va_runV (As := [.int 1, .int 1]) (rest := []) ⟨hx, hb, hml, hown, hts⟩ (m_fails l hst g base n L (by omega) (st y 0 0 0 0) ch r0 st_eq 1 1 (by decide)) (cwV 2 hts gX4_charge_X4_fails rfl rfl rfl (by decide +kernel) ⟨Nat.le_of_ble_eq_true rfl, Nat.le_of_ble_eq_true rfl⟩) (hPW.preV hP hS (ci := 6) rfl (by omega) mw_o) rfl rfl hl.1 rfl (lv_room (Nat.le_of_ble_eq_true rfl)) dX4_charge_12 ⟨Nat.le_of_ble_eq_true rfl, Nat.le_of_ble_eq_true rfl⟩) hS (fun r12 u12 H locs h12 hP hS => ?_)
    obtain ⟨rfl, -, e9⟩ : r12 = 1 ∧ True ∧ u12 = st (st y 0 0 0 0) 0 0 0 1 := by rcases h12 with ⟨-, b, -⟩ | ⟨a, -, b⟩; exact absurd b (by decide); exact ⟨a, trivial, b⟩
    have e9 := e9.symm
    subst e9
    refine lv_if_eq (tgt := 22) hx hb dX4_charge_15 (by decide) (fun c15 => absurd c15 (by decide)) (fun c15 => ?_)
    refine lv_iconst (v := 0) hx hb dX4_charge_18 (by decide) ?_
    refine lv_goto (tgt := 28) hx hb dX4_charge_19 (by decide) ?_
    refine W.widen (k := 0) (n := 0) (Nat.le_of_ble_eq_true rfl) (Nat.le_of_ble_eq_true rfl) ?_
    exact W.iret (v := 0) hx hb hr (fun t ht hW => ⟨⟨0, (st (st y 0 0 0 0) 0 0 0 1, ch), rfl, Or.inl ⟨h8, rfl⟩, PB.mk9 hP ht⟩, hS.F ht⟩) hS.2.2 dX4_charge_28
  · refine lv_iconst (v := 1) hx hb dX4_charge_11 (by decide) ?_
    refine wx_calli (va_runV (As := [.int 0, .int 1]) (rest := []) ⟨hx, hb, hml, hown, hts⟩ (m_fails l hst g base n L (by omega) (st y 0 0 0 0) ch r0 st_eq 0 1 (by decide)) (cwV 2 hts gX4_charge_X4_fails rfl rfl rfl (by decide +kernel) ⟨Nat.le_of_ble_eq_true rfl, Nat.le_of_ble_eq_true rfl⟩) (hPW.preV hP hS (ci := 6) rfl (by omega) mw_o) rfl rfl hl.1 rfl (lv_room (Nat.le_of_ble_eq_true rfl)) dX4_charge_12 ⟨Nat.le_of_ble_eq_true rfl, Nat.le_of_ble_eq_true rfl⟩) hS (fun r12 u12 H locs h12 hP hS => ?_)
    obtain ⟨rfl, -, e9⟩ : r12 = 0 ∧ True ∧ u12 = st y 0 0 0 0 := by rcases h12 with ⟨a, -, b⟩ | ⟨-, b, -⟩; exact ⟨a, trivial, b⟩; exact absurd rfl b
    have e9 := e9.symm
    subst e9
    refine lv_if_eq (tgt := 22) hx hb dX4_charge_15 (by decide) (fun c15 => ?_) (fun c15 => absurd (by decide) c15)
    refine lv_aload_n hx hb dX4_charge_22 rfl (lv_at hl 0 rfl) ?_
    refine wx_get (D := g.1) (cl := vwCl) (ci := 6) (v := .ref (L 108)) (C := RX4) (T := TX4) (N := 22) hx hb hts iX4 hown hK hP (106) (by omega) mw_o rfl 7 (by decide) (hts (.fieldLink RX4 17 "FerroDeskModel" "charge" "[I") (by decide +kernel)) (fun _ h9 => h9) rfl dX4_charge_23 ?_
    refine lv_iload_n hx hb dX4_charge_26 rfl (lv_at hl 1 rfl) ?_
    refine wx_ialdv (D := g.1) (cl := vwCl) (N := 6) (f := fun j9 => (st y 0 0 0 0) 11 0 j9) (v := (st y 0 0 0 0) 11 0 j8) hx hb hK hP (108) 0 (by omega) (mw_a (by decide) (by decide)) rfl (i := (nI j8)) (by exact vp_in_nI (by omega) (by decide)) (by rw [nI_clamp (by omega)]) dX4_charge_27 ?_
    refine W.widen (k := 0) (n := 0) (Nat.le_of_ble_eq_true rfl) (Nat.le_of_ble_eq_true rfl) ?_
    exact W.iret (v := (st y 0 0 0 0) 11 0 j8) hx hb hr (fun t ht hW => ⟨⟨(st y 0 0 0 0) 11 0 j8, (st y 0 0 0 0, ch), rfl, Or.inr ⟨j8, hj8, rfl, rfl, rfl⟩, PB.mk9 hP ht⟩, hS.F ht⟩) hS.2.2 dX4_charge_28

set_option maxHeartbeats 4000000 in
set_option maxRecDepth 100000 in
theorem m_shows (l : Launch) (hst : l.stackTraces = false) (g : gE) (base n : Nat) (L : Nat → Nat) (hn : 123 ≤ n) (y : St) (ch : Int64) (r0 : Nat → va_E) (nb nn : Nat) (hM : MI y nb nn) (p0 : Int32) : Met l yX4_shows wsX4_shows ({ frames := 2, cells := 0, slots := 0, locals := 120 }) (va_Pc [.ref (L 106), .int p0] (PW SS g base n L (mw g L y ch r0))) (va_Qi (fun (r : Int32) (u : MS) => ((p0.toInt < 0 ∨ nb ≤ p0.toInt) ∧ u = (st (st y 0 0 0 0) 0 0 0 1, ch)) ∨ (∃ j, j < nb ∧ p0 = nI j ∧ u = (st y 0 0 0 0, ch) ∧ r = st y 0 0 0 0 12 0 j)) (fun (u : MS) t => PB g n L (mw g L u.1 u.2 r0) t) (fun q => base ≤ q)) 0 0 (fun q => base ≤ q) := by
  refine Met.ofW (cc := cX4_shows) (maxL := 2) (ret := (some .int)) (by decide) rfl ?_
  intro p e s m args below meth c s₁ B hml hv
  obtain ⟨rfl, hPW⟩ := hv
  obtain ⟨hbs, hJ, hP, hK, hE⟩ := id hPW
  have hx := B.exec
  have hb := B.bytes
  have hr := B.returns
  have hts := atoms_spec (ws := wsX4_shows) B.pre
  have hown : s.vm.findClass RX4 = some m.cls := findClass_of_methodNamed B.named
  have hlocks := B.notSynchronized
  have hS : va_S (fun q : Nat => base ≤ q) s.heap s.heap [] := va_S.rf
  have hl := lv_entry ([.ref (L 106), .int p0]) (n := 2) (Nat.le_of_ble_eq_true rfl)
  rw [lg_entry_eq]
  generalize (lg_sl ([.ref (L 106), .int p0]) ++ List.replicate (2 - (lg_sl ([.ref (L 106), .int p0])).length) Slot.unset).toArray = ls at hl ⊢
  have hl : lv_has ls 2 [(0, .ref (L 106)), (1, .int p0)] := hl
  have iX4 : ∀ w ∈ wsX40, w ∈ wsX4_shows := by decide +kernel
  have hnb := hM.nb6
  have hnn := hM.nn40
  have hy3 := hM.y3
  have hy4 := hM.y4
  have hT3 : (st y 0 0 0 0) 3 0 0 = nI nb := (st_nr (by omega)).trans hy3
  have hT4 : (st y 0 0 0 0) 4 0 0 = nI nn := (st_nr (by omega)).trans hy4
  refine lv_aload_n hx hb dX4_shows_0 rfl (lv_at hl 0 rfl) ?_
  refine lv_iconst (v := 0) hx hb dX4_shows_1 (by decide) ?_
  refine wx_put (D := g.1) (cl := vwCl) (ci := 6) (v := .int 0) (ty := .int) (w' := mw g L (st y 0 0 0 0) ch r0) (C := RX4) (T := TX4) (N := 22) hx hb hts iX4 tyX4 tyX4_ok nmX4 hown hK hP hJ hS (106) (by omega) mw_o rfl 0 (by decide) (hts (.fieldLink RX4 64 "FerroDeskModel" "thrown" "I") (by decide +kernel)) (fun _ h9 => h9) rfl (by decide +kernel) rfl rfl (Nat.le_of_ble_eq_true rfl) dX4_shows_2 (mw_put (r := 0) (i := 0) (j := 0) rfl (by omega) (mk_o.trans (by simp [mF, st]))) (fun H locs hP hS => ?_)
  refine lv_aload_n hx hb dX4_shows_5 rfl (lv_at hl 0 rfl) ?_
  refine lv_aload_n hx hb dX4_shows_6 rfl (lv_at hl 0 rfl) ?_
  refine lv_iload_n hx hb dX4_shows_7 rfl (lv_at hl 1 rfl) ?_
  refine wx_calli (va_runV (As := [.int p0]) (rest := [.ref (L 106)]) ⟨hx, hb, hml, hown, hts⟩ (m_noBoard l hst g base n L (by omega) (st y 0 0 0 0) ch r0 nb hnb (by repeat (first | exact hy3 | rw [st_nr (by omega)])) p0) (cwV 1 hts gX4_shows_X4_noBoard rfl rfl rfl (by decide +kernel) ⟨Nat.le_of_ble_eq_true rfl, Nat.le_of_ble_eq_true rfl⟩) (hPW.preV hP hS (ci := 6) rfl (by omega) mw_o) rfl rfl hl.1 rfl (lv_room (Nat.le_of_ble_eq_true rfl)) dX4_shows_8 ⟨Nat.le_of_ble_eq_true rfl, Nat.le_of_ble_eq_true rfl⟩) hS (fun r8 u8 H locs h8 hP hS => ?_)
  rcases h8 with ⟨rfl, h8⟩ | ⟨rfl, j8, hj8, rfl⟩
  · refine lv_iconst (v := 1) hx hb dX4_shows_11 (by decide) ?_
    refine wx_calli (va_runV (As := [.int 1, .int 1]) (rest := []) ⟨hx, hb, hml, hown, hts⟩ (m_fails l hst g base n L (by omega) (st y 0 0 0 0) ch r0 st_eq 1 1 (by decide)) (cwV 2 hts gX4_shows_X4_fails rfl rfl rfl (by decide +kernel) ⟨Nat.le_of_ble_eq_true rfl, Nat.le_of_ble_eq_true rfl⟩) (hPW.preV hP hS (ci := 6) rfl (by omega) mw_o) rfl rfl hl.1 rfl (lv_room (Nat.le_of_ble_eq_true rfl)) dX4_shows_12 ⟨Nat.le_of_ble_eq_true rfl, Nat.le_of_ble_eq_true rfl⟩) hS (fun r12 u12 H locs h12 hP hS => ?_)
    obtain ⟨rfl, -, e9⟩ : r12 = 1 ∧ True ∧ u12 = st (st y 0 0 0 0) 0 0 0 1 := by rcases h12 with ⟨-, b, -⟩ | ⟨a, -, b⟩; exact absurd b (by decide); exact ⟨a, trivial, b⟩
    have e9 := e9.symm
    subst e9
    refine lv_if_eq (tgt := 22) hx hb dX4_shows_15 (by decide) (fun c15 => absurd c15 (by decide)) (fun c15 => ?_)
    refine lv_iconst (v := 0) hx hb dX4_shows_18 (by decide) ?_
    refine lv_goto (tgt := 28) hx hb dX4_shows_19 (by decide) ?_
    refine W.widen (k := 0) (n := 0) (Nat.le_of_ble_eq_true rfl) (Nat.le_of_ble_eq_true rfl) ?_
    exact W.iret (v := 0) hx hb hr (fun t ht hW => ⟨⟨0, (st (st y 0 0 0 0) 0 0 0 1, ch), rfl, Or.inl ⟨h8, rfl⟩, PB.mk9 hP ht⟩, hS.F ht⟩) hS.2.2 dX4_shows_28
  · refine lv_iconst (v := 1) hx hb dX4_shows_11 (by decide) ?_
    refine wx_calli (va_runV (As := [.int 0, .int 1]) (rest := []) ⟨hx, hb, hml, hown, hts⟩ (m_fails l hst g base n L (by omega) (st y 0 0 0 0) ch r0 st_eq 0 1 (by decide)) (cwV 2 hts gX4_shows_X4_fails rfl rfl rfl (by decide +kernel) ⟨Nat.le_of_ble_eq_true rfl, Nat.le_of_ble_eq_true rfl⟩) (hPW.preV hP hS (ci := 6) rfl (by omega) mw_o) rfl rfl hl.1 rfl (lv_room (Nat.le_of_ble_eq_true rfl)) dX4_shows_12 ⟨Nat.le_of_ble_eq_true rfl, Nat.le_of_ble_eq_true rfl⟩) hS (fun r12 u12 H locs h12 hP hS => ?_)
    obtain ⟨rfl, -, e9⟩ : r12 = 0 ∧ True ∧ u12 = st y 0 0 0 0 := by rcases h12 with ⟨a, -, b⟩ | ⟨-, b, -⟩; exact ⟨a, trivial, b⟩; exact absurd rfl b
    have e9 := e9.symm
    subst e9
    refine lv_if_eq (tgt := 22) hx hb dX4_shows_15 (by decide) (fun c15 => ?_) (fun c15 => absurd (by decide) c15)
    refine lv_aload_n hx hb dX4_shows_22 rfl (lv_at hl 0 rfl) ?_
    refine wx_get (D := g.1) (cl := vwCl) (ci := 6) (v := .ref (L 109)) (C := RX4) (T := TX4) (N := 22) hx hb hts iX4 hown hK hP (106) (by omega) mw_o rfl 8 (by decide) (hts (.fieldLink RX4 20 "FerroDeskModel" "shown" "[I") (by decide +kernel)) (fun _ h9 => h9) rfl dX4_shows_23 ?_
    refine lv_iload_n hx hb dX4_shows_26 rfl (lv_at hl 1 rfl) ?_
    refine wx_ialdv (D := g.1) (cl := vwCl) (N := 6) (f := fun j9 => (st y 0 0 0 0) 12 0 j9) (v := (st y 0 0 0 0) 12 0 j8) hx hb hK hP (109) 0 (by omega) (mw_a (by decide) (by decide)) rfl (i := (nI j8)) (by exact vp_in_nI (by omega) (by decide)) (by rw [nI_clamp (by omega)]) dX4_shows_27 ?_
    refine W.widen (k := 0) (n := 0) (Nat.le_of_ble_eq_true rfl) (Nat.le_of_ble_eq_true rfl) ?_
    exact W.iret (v := (st y 0 0 0 0) 12 0 j8) hx hb hr (fun t ht hW => ⟨⟨(st y 0 0 0 0) 12 0 j8, (st y 0 0 0 0, ch), rfl, Or.inr ⟨j8, hj8, rfl, rfl, rfl⟩, PB.mk9 hP ht⟩, hS.F ht⟩) hS.2.2 dX4_shows_28

set_option maxHeartbeats 4000000 in
set_option maxRecDepth 100000 in
theorem m_shift (l : Launch) (hst : l.stackTraces = false) (g : gE) (base n : Nat) (L : Nat → Nat) (hn : 123 ≤ n) (y : St) (ch : Int64) (r0 : Nat → va_E) (nb nn : Nat) (hM : MI y nb nn) (p0 : Int32) : Met l yX4_shift wsX4_shift ({ frames := 2, cells := 0, slots := 0, locals := 120 }) (va_Pc [.ref (L 106), .int p0] (PW SS g base n L (mw g L y ch r0))) (va_Qi (fun (r : Int32) (u : MS) => ((p0.toInt < 0 ∨ nb ≤ p0.toInt) ∧ u = (st (st y 0 0 0 0) 0 0 0 1, ch)) ∨ (∃ j, j < nb ∧ p0 = nI j ∧ u = (st y 0 0 0 0, ch) ∧ r = st y 0 0 0 0 13 0 j)) (fun (u : MS) t => PB g n L (mw g L u.1 u.2 r0) t) (fun q => base ≤ q)) 0 0 (fun q => base ≤ q) := by
  refine Met.ofW (cc := cX4_shift) (maxL := 2) (ret := (some .int)) (by decide) rfl ?_
  intro p e s m args below meth c s₁ B hml hv
  obtain ⟨rfl, hPW⟩ := hv
  obtain ⟨hbs, hJ, hP, hK, hE⟩ := id hPW
  have hx := B.exec
  have hb := B.bytes
  have hr := B.returns
  have hts := atoms_spec (ws := wsX4_shift) B.pre
  have hown : s.vm.findClass RX4 = some m.cls := findClass_of_methodNamed B.named
  have hlocks := B.notSynchronized
  have hS : va_S (fun q : Nat => base ≤ q) s.heap s.heap [] := va_S.rf
  have hl := lv_entry ([.ref (L 106), .int p0]) (n := 2) (Nat.le_of_ble_eq_true rfl)
  rw [lg_entry_eq]
  generalize (lg_sl ([.ref (L 106), .int p0]) ++ List.replicate (2 - (lg_sl ([.ref (L 106), .int p0])).length) Slot.unset).toArray = ls at hl ⊢
  have hl : lv_has ls 2 [(0, .ref (L 106)), (1, .int p0)] := hl
  have iX4 : ∀ w ∈ wsX40, w ∈ wsX4_shift := by decide +kernel
  have hnb := hM.nb6
  have hnn := hM.nn40
  have hy3 := hM.y3
  have hy4 := hM.y4
  have hT3 : (st y 0 0 0 0) 3 0 0 = nI nb := (st_nr (by omega)).trans hy3
  have hT4 : (st y 0 0 0 0) 4 0 0 = nI nn := (st_nr (by omega)).trans hy4
  refine lv_aload_n hx hb dX4_shift_0 rfl (lv_at hl 0 rfl) ?_
  refine lv_iconst (v := 0) hx hb dX4_shift_1 (by decide) ?_
  refine wx_put (D := g.1) (cl := vwCl) (ci := 6) (v := .int 0) (ty := .int) (w' := mw g L (st y 0 0 0 0) ch r0) (C := RX4) (T := TX4) (N := 22) hx hb hts iX4 tyX4 tyX4_ok nmX4 hown hK hP hJ hS (106) (by omega) mw_o rfl 0 (by decide) (hts (.fieldLink RX4 64 "FerroDeskModel" "thrown" "I") (by decide +kernel)) (fun _ h9 => h9) rfl (by decide +kernel) rfl rfl (Nat.le_of_ble_eq_true rfl) dX4_shift_2 (mw_put (r := 0) (i := 0) (j := 0) rfl (by omega) (mk_o.trans (by simp [mF, st]))) (fun H locs hP hS => ?_)
  refine lv_aload_n hx hb dX4_shift_5 rfl (lv_at hl 0 rfl) ?_
  refine lv_aload_n hx hb dX4_shift_6 rfl (lv_at hl 0 rfl) ?_
  refine lv_iload_n hx hb dX4_shift_7 rfl (lv_at hl 1 rfl) ?_
  refine wx_calli (va_runV (As := [.int p0]) (rest := [.ref (L 106)]) ⟨hx, hb, hml, hown, hts⟩ (m_noBoard l hst g base n L (by omega) (st y 0 0 0 0) ch r0 nb hnb (by repeat (first | exact hy3 | rw [st_nr (by omega)])) p0) (cwV 1 hts gX4_shift_X4_noBoard rfl rfl rfl (by decide +kernel) ⟨Nat.le_of_ble_eq_true rfl, Nat.le_of_ble_eq_true rfl⟩) (hPW.preV hP hS (ci := 6) rfl (by omega) mw_o) rfl rfl hl.1 rfl (lv_room (Nat.le_of_ble_eq_true rfl)) dX4_shift_8 ⟨Nat.le_of_ble_eq_true rfl, Nat.le_of_ble_eq_true rfl⟩) hS (fun r8 u8 H locs h8 hP hS => ?_)
  rcases h8 with ⟨rfl, h8⟩ | ⟨rfl, j8, hj8, rfl⟩
  · refine lv_iconst (v := 1) hx hb dX4_shift_11 (by decide) ?_
    refine wx_calli (va_runV (As := [.int 1, .int 1]) (rest := []) ⟨hx, hb, hml, hown, hts⟩ (m_fails l hst g base n L (by omega) (st y 0 0 0 0) ch r0 st_eq 1 1 (by decide)) (cwV 2 hts gX4_shift_X4_fails rfl rfl rfl (by decide +kernel) ⟨Nat.le_of_ble_eq_true rfl, Nat.le_of_ble_eq_true rfl⟩) (hPW.preV hP hS (ci := 6) rfl (by omega) mw_o) rfl rfl hl.1 rfl (lv_room (Nat.le_of_ble_eq_true rfl)) dX4_shift_12 ⟨Nat.le_of_ble_eq_true rfl, Nat.le_of_ble_eq_true rfl⟩) hS (fun r12 u12 H locs h12 hP hS => ?_)
    obtain ⟨rfl, -, e9⟩ : r12 = 1 ∧ True ∧ u12 = st (st y 0 0 0 0) 0 0 0 1 := by rcases h12 with ⟨-, b, -⟩ | ⟨a, -, b⟩; exact absurd b (by decide); exact ⟨a, trivial, b⟩
    have e9 := e9.symm
    subst e9
    refine lv_if_eq (tgt := 22) hx hb dX4_shift_15 (by decide) (fun c15 => absurd c15 (by decide)) (fun c15 => ?_)
    refine lv_iconst (v := 0) hx hb dX4_shift_18 (by decide) ?_
    refine lv_goto (tgt := 28) hx hb dX4_shift_19 (by decide) ?_
    refine W.widen (k := 0) (n := 0) (Nat.le_of_ble_eq_true rfl) (Nat.le_of_ble_eq_true rfl) ?_
    exact W.iret (v := 0) hx hb hr (fun t ht hW => ⟨⟨0, (st (st y 0 0 0 0) 0 0 0 1, ch), rfl, Or.inl ⟨h8, rfl⟩, PB.mk9 hP ht⟩, hS.F ht⟩) hS.2.2 dX4_shift_28
  · refine lv_iconst (v := 1) hx hb dX4_shift_11 (by decide) ?_
    refine wx_calli (va_runV (As := [.int 0, .int 1]) (rest := []) ⟨hx, hb, hml, hown, hts⟩ (m_fails l hst g base n L (by omega) (st y 0 0 0 0) ch r0 st_eq 0 1 (by decide)) (cwV 2 hts gX4_shift_X4_fails rfl rfl rfl (by decide +kernel) ⟨Nat.le_of_ble_eq_true rfl, Nat.le_of_ble_eq_true rfl⟩) (hPW.preV hP hS (ci := 6) rfl (by omega) mw_o) rfl rfl hl.1 rfl (lv_room (Nat.le_of_ble_eq_true rfl)) dX4_shift_12 ⟨Nat.le_of_ble_eq_true rfl, Nat.le_of_ble_eq_true rfl⟩) hS (fun r12 u12 H locs h12 hP hS => ?_)
    obtain ⟨rfl, -, e9⟩ : r12 = 0 ∧ True ∧ u12 = st y 0 0 0 0 := by rcases h12 with ⟨a, -, b⟩ | ⟨-, b, -⟩; exact ⟨a, trivial, b⟩; exact absurd rfl b
    have e9 := e9.symm
    subst e9
    refine lv_if_eq (tgt := 22) hx hb dX4_shift_15 (by decide) (fun c15 => ?_) (fun c15 => absurd (by decide) c15)
    refine lv_aload_n hx hb dX4_shift_22 rfl (lv_at hl 0 rfl) ?_
    refine wx_get (D := g.1) (cl := vwCl) (ci := 6) (v := .ref (L 110)) (C := RX4) (T := TX4) (N := 22) hx hb hts iX4 hown hK hP (106) (by omega) mw_o rfl 9 (by decide) (hts (.fieldLink RX4 23 "FerroDeskModel" "shift" "[I") (by decide +kernel)) (fun _ h9 => h9) rfl dX4_shift_23 ?_
    refine lv_iload_n hx hb dX4_shift_26 rfl (lv_at hl 1 rfl) ?_
    refine wx_ialdv (D := g.1) (cl := vwCl) (N := 6) (f := fun j9 => (st y 0 0 0 0) 13 0 j9) (v := (st y 0 0 0 0) 13 0 j8) hx hb hK hP (110) 0 (by omega) (mw_a (by decide) (by decide)) rfl (i := (nI j8)) (by exact vp_in_nI (by omega) (by decide)) (by rw [nI_clamp (by omega)]) dX4_shift_27 ?_
    refine W.widen (k := 0) (n := 0) (Nat.le_of_ble_eq_true rfl) (Nat.le_of_ble_eq_true rfl) ?_
    exact W.iret (v := (st y 0 0 0 0) 13 0 j8) hx hb hr (fun t ht hW => ⟨⟨(st y 0 0 0 0) 13 0 j8, (st y 0 0 0 0, ch), rfl, Or.inr ⟨j8, hj8, rfl, rfl, rfl⟩, PB.mk9 hP ht⟩, hS.F ht⟩) hS.2.2 dX4_shift_28

set_option maxHeartbeats 4000000 in
set_option maxRecDepth 100000 in
theorem m_sleeps (l : Launch) (hst : l.stackTraces = false) (g : gE) (base n : Nat) (L : Nat → Nat) (hn : 123 ≤ n) (y : St) (ch : Int64) (r0 : Nat → va_E) (nb nn : Nat) (hM : MI y nb nn) (p0 : Int32) : Met l yX4_sleeps wsX4_sleeps ({ frames := 2, cells := 0, slots := 0, locals := 120 }) (va_Pc [.ref (L 106), .int p0] (PW SS g base n L (mw g L y ch r0))) (va_Qi (fun (r : Int32) (u : MS) => ((p0.toInt < 0 ∨ nb ≤ p0.toInt) ∧ u = (st (st y 0 0 0 0) 0 0 0 1, ch)) ∨ (∃ j, j < nb ∧ p0 = nI j ∧ u = (st y 0 0 0 0, ch) ∧ r = if st y 0 0 0 0 14 0 j = 0 then 0 else 1)) (fun (u : MS) t => PB g n L (mw g L u.1 u.2 r0) t) (fun q => base ≤ q)) 0 0 (fun q => base ≤ q) := by
  refine Met.ofW (cc := cX4_sleeps) (maxL := 2) (ret := (some .boolean)) (by decide) rfl ?_
  intro p e s m args below meth c s₁ B hml hv
  obtain ⟨rfl, hPW⟩ := hv
  obtain ⟨hbs, hJ, hP, hK, hE⟩ := id hPW
  have hx := B.exec
  have hb := B.bytes
  have hr := B.returns
  have hts := atoms_spec (ws := wsX4_sleeps) B.pre
  have hown : s.vm.findClass RX4 = some m.cls := findClass_of_methodNamed B.named
  have hlocks := B.notSynchronized
  have hS : va_S (fun q : Nat => base ≤ q) s.heap s.heap [] := va_S.rf
  have hl := lv_entry ([.ref (L 106), .int p0]) (n := 2) (Nat.le_of_ble_eq_true rfl)
  rw [lg_entry_eq]
  generalize (lg_sl ([.ref (L 106), .int p0]) ++ List.replicate (2 - (lg_sl ([.ref (L 106), .int p0])).length) Slot.unset).toArray = ls at hl ⊢
  have hl : lv_has ls 2 [(0, .ref (L 106)), (1, .int p0)] := hl
  have iX4 : ∀ w ∈ wsX40, w ∈ wsX4_sleeps := by decide +kernel
  have hnb := hM.nb6
  have hnn := hM.nn40
  have hy3 := hM.y3
  have hy4 := hM.y4
  have hT3 : (st y 0 0 0 0) 3 0 0 = nI nb := (st_nr (by omega)).trans hy3
  have hT4 : (st y 0 0 0 0) 4 0 0 = nI nn := (st_nr (by omega)).trans hy4
  refine lv_aload_n hx hb dX4_sleeps_0 rfl (lv_at hl 0 rfl) ?_
  refine lv_iconst (v := 0) hx hb dX4_sleeps_1 (by decide) ?_
  refine wx_put (D := g.1) (cl := vwCl) (ci := 6) (v := .int 0) (ty := .int) (w' := mw g L (st y 0 0 0 0) ch r0) (C := RX4) (T := TX4) (N := 22) hx hb hts iX4 tyX4 tyX4_ok nmX4 hown hK hP hJ hS (106) (by omega) mw_o rfl 0 (by decide) (hts (.fieldLink RX4 64 "FerroDeskModel" "thrown" "I") (by decide +kernel)) (fun _ h9 => h9) rfl (by decide +kernel) rfl rfl (Nat.le_of_ble_eq_true rfl) dX4_sleeps_2 (mw_put (r := 0) (i := 0) (j := 0) rfl (by omega) (mk_o.trans (by simp [mF, st]))) (fun H locs hP hS => ?_)
  refine lv_aload_n hx hb dX4_sleeps_5 rfl (lv_at hl 0 rfl) ?_
  refine lv_aload_n hx hb dX4_sleeps_6 rfl (lv_at hl 0 rfl) ?_
  refine lv_iload_n hx hb dX4_sleeps_7 rfl (lv_at hl 1 rfl) ?_
  refine wx_calli (va_runV (As := [.int p0]) (rest := [.ref (L 106)]) ⟨hx, hb, hml, hown, hts⟩ (m_noBoard l hst g base n L (by omega) (st y 0 0 0 0) ch r0 nb hnb (by repeat (first | exact hy3 | rw [st_nr (by omega)])) p0) (cwV 1 hts gX4_sleeps_X4_noBoard rfl rfl rfl (by decide +kernel) ⟨Nat.le_of_ble_eq_true rfl, Nat.le_of_ble_eq_true rfl⟩) (hPW.preV hP hS (ci := 6) rfl (by omega) mw_o) rfl rfl hl.1 rfl (lv_room (Nat.le_of_ble_eq_true rfl)) dX4_sleeps_8 ⟨Nat.le_of_ble_eq_true rfl, Nat.le_of_ble_eq_true rfl⟩) hS (fun r8 u8 H locs h8 hP hS => ?_)
  rcases h8 with ⟨rfl, h8⟩ | ⟨rfl, j8, hj8, rfl⟩
  · refine lv_iconst (v := 1) hx hb dX4_sleeps_11 (by decide) ?_
    refine wx_calli (va_runV (As := [.int 1, .int 1]) (rest := []) ⟨hx, hb, hml, hown, hts⟩ (m_fails l hst g base n L (by omega) (st y 0 0 0 0) ch r0 st_eq 1 1 (by decide)) (cwV 2 hts gX4_sleeps_X4_fails rfl rfl rfl (by decide +kernel) ⟨Nat.le_of_ble_eq_true rfl, Nat.le_of_ble_eq_true rfl⟩) (hPW.preV hP hS (ci := 6) rfl (by omega) mw_o) rfl rfl hl.1 rfl (lv_room (Nat.le_of_ble_eq_true rfl)) dX4_sleeps_12 ⟨Nat.le_of_ble_eq_true rfl, Nat.le_of_ble_eq_true rfl⟩) hS (fun r12 u12 H locs h12 hP hS => ?_)
    obtain ⟨rfl, -, e9⟩ : r12 = 1 ∧ True ∧ u12 = st (st y 0 0 0 0) 0 0 0 1 := by rcases h12 with ⟨-, b, -⟩ | ⟨a, -, b⟩; exact absurd b (by decide); exact ⟨a, trivial, b⟩
    have e9 := e9.symm
    subst e9
    refine lv_if_ne (tgt := 31) hx hb dX4_sleeps_15 (by decide) (fun c15 => ?_) (fun c15 => absurd c15 (by decide))
    refine lv_iconst (v := 0) hx hb dX4_sleeps_31 (by decide) ?_
    refine W.widen (k := 0) (n := 0) (Nat.le_of_ble_eq_true rfl) (Nat.le_of_ble_eq_true rfl) ?_
    exact W.zret (v := 0) hx hb hr (by decide) (fun t ht hW => ⟨⟨0, (st (st y 0 0 0 0) 0 0 0 1, ch), rfl, Or.inl ⟨h8, rfl⟩, PB.mk9 hP ht⟩, hS.F ht⟩) hS.2.2 dX4_sleeps_32
  · refine lv_iconst (v := 1) hx hb dX4_sleeps_11 (by decide) ?_
    refine wx_calli (va_runV (As := [.int 0, .int 1]) (rest := []) ⟨hx, hb, hml, hown, hts⟩ (m_fails l hst g base n L (by omega) (st y 0 0 0 0) ch r0 st_eq 0 1 (by decide)) (cwV 2 hts gX4_sleeps_X4_fails rfl rfl rfl (by decide +kernel) ⟨Nat.le_of_ble_eq_true rfl, Nat.le_of_ble_eq_true rfl⟩) (hPW.preV hP hS (ci := 6) rfl (by omega) mw_o) rfl rfl hl.1 rfl (lv_room (Nat.le_of_ble_eq_true rfl)) dX4_sleeps_12 ⟨Nat.le_of_ble_eq_true rfl, Nat.le_of_ble_eq_true rfl⟩) hS (fun r12 u12 H locs h12 hP hS => ?_)
    obtain ⟨rfl, -, e9⟩ : r12 = 0 ∧ True ∧ u12 = st y 0 0 0 0 := by rcases h12 with ⟨a, -, b⟩ | ⟨-, b, -⟩; exact ⟨a, trivial, b⟩; exact absurd rfl b
    have e9 := e9.symm
    subst e9
    refine lv_if_ne (tgt := 31) hx hb dX4_sleeps_15 (by decide) (fun c15 => absurd c15 (by decide)) (fun c15 => ?_)
    refine lv_aload_n hx hb dX4_sleeps_18 rfl (lv_at hl 0 rfl) ?_
    refine wx_get (D := g.1) (cl := vwCl) (ci := 6) (v := .ref (L 111)) (C := RX4) (T := TX4) (N := 22) hx hb hts iX4 hown hK hP (106) (by omega) mw_o rfl 10 (by decide) (hts (.fieldLink RX4 26 "FerroDeskModel" "isAsleep" "[Z") (by decide +kernel)) (fun _ h9 => h9) rfl dX4_sleeps_19 ?_
    refine lv_iload_n hx hb dX4_sleeps_22 rfl (lv_at hl 1 rfl) ?_
    refine wx_zaldv (D := g.1) (cl := vwCl) (N := 6) (f := fun j9 => (st y 0 0 0 0) 14 0 j9) (v := (st y 0 0 0 0) 14 0 j8) hx hb hK hP (111) 3 (by omega) (mw_a (by decide) (by decide)) rfl (i := (nI j8)) (by exact vp_in_nI (by omega) (by decide)) (by rw [nI_clamp (by omega)]) dX4_sleeps_23 ?_
    refine lv_if_eq (tgt := 31) hx hb dX4_sleeps_24 (by decide) (fun c24 => ?_) (fun c24 => ?_)
    · refine lv_iconst (v := 0) hx hb dX4_sleeps_31 (by decide) ?_
      refine W.widen (k := 0) (n := 0) (Nat.le_of_ble_eq_true rfl) (Nat.le_of_ble_eq_true rfl) ?_
      exact W.zret (v := 0) hx hb hr (by decide) (fun t ht hW => ⟨⟨0, (st y 0 0 0 0, ch), rfl, Or.inr ⟨j8, hj8, rfl, rfl, (if_pos c24).symm⟩, PB.mk9 hP ht⟩, hS.F ht⟩) hS.2.2 dX4_sleeps_32
    · refine lv_iconst (v := 1) hx hb dX4_sleeps_27 (by decide) ?_
      refine lv_goto (tgt := 32) hx hb dX4_sleeps_28 (by decide) ?_
      refine W.widen (k := 0) (n := 0) (Nat.le_of_ble_eq_true rfl) (Nat.le_of_ble_eq_true rfl) ?_
      exact W.zret (v := 1) hx hb hr (by decide) (fun t ht hW => ⟨⟨1, (st y 0 0 0 0, ch), rfl, Or.inr ⟨j8, hj8, rfl, rfl, (if_neg c24).symm⟩, PB.mk9 hP ht⟩, hS.F ht⟩) hS.2.2 dX4_sleeps_32

set_option maxHeartbeats 4000000 in
set_option maxRecDepth 100000 in
theorem m_noCell (l : Launch) (hst : l.stackTraces = false) (g : gE) (base n : Nat) (L : Nat → Nat) (hn : 123 ≤ n) (y : St) (ch : Int64) (r0 : Nat → va_E) (nb : Nat) (hnb : nb ≤ 6) (hy3 : y 3 0 0 = nI nb) (p0 p1 p2 : Int32) : Met l yX4_noCell wsX4_noCell ({ frames := 2, cells := 0, slots := 0, locals := 120 }) (va_Pc [.ref (L 106), .int p0, .int p1, .int p2] (PW SS g base n L (mw g L y ch r0))) (va_Qi (fun (r : Int32) (_ : Unit) => (r = 1 ∧ ((p0.toInt < 0 ∨ nb ≤ p0.toInt) ∨ ¬ (0 ≤ p1.toInt ∧ p1.toInt < 8 ∧ 0 ≤ p2.toInt ∧ p2.toInt < 4))) ∨ (r = 0 ∧ ∃ j, j < nb ∧ p0 = nI j ∧ ∃ c, c < 8 ∧ p1 = nI c ∧ ∃ q, q < 4 ∧ p2 = nI q)) (fun (u : Unit) t => PB g n L (mw g L y ch r0) t) (fun q => base ≤ q)) 0 0 (fun q => base ≤ q) := by
  refine Met.ofW (cc := cX4_noCell) (maxL := 4) (ret := (some .boolean)) (by decide) rfl ?_
  intro p e s m args below meth c s₁ B hml hv
  obtain ⟨rfl, hPW⟩ := hv
  obtain ⟨hbs, hJ, hP, hK, hE⟩ := id hPW
  have hx := B.exec
  have hb := B.bytes
  have hr := B.returns
  have hts := atoms_spec (ws := wsX4_noCell) B.pre
  have hown : s.vm.findClass RX4 = some m.cls := findClass_of_methodNamed B.named
  have hlocks := B.notSynchronized
  have hS : va_S (fun q : Nat => base ≤ q) s.heap s.heap [] := va_S.rf
  have hl := lv_entry ([.ref (L 106), .int p0, .int p1, .int p2]) (n := 4) (Nat.le_of_ble_eq_true rfl)
  rw [lg_entry_eq]
  generalize (lg_sl ([.ref (L 106), .int p0, .int p1, .int p2]) ++ List.replicate (4 - (lg_sl ([.ref (L 106), .int p0, .int p1, .int p2])).length) Slot.unset).toArray = ls at hl ⊢
  have hl : lv_has ls 4 [(0, .ref (L 106)), (1, .int p0), (2, .int p1), (3, .int p2)] := hl
  refine lv_aload_n hx hb dX4_noCell_0 rfl (lv_at hl 0 rfl) ?_
  refine lv_iload_n hx hb dX4_noCell_1 rfl (lv_at hl 1 rfl) ?_
  refine wx_calli (va_runV (As := [.int p0]) (rest := []) ⟨hx, hb, hml, hown, hts⟩ (m_noBoard l hst g base n L (by omega) y ch r0 nb hnb hy3 p0) (cwV 1 hts gX4_noCell_X4_noBoard rfl rfl rfl (by decide +kernel) ⟨Nat.le_of_ble_eq_true rfl, Nat.le_of_ble_eq_true rfl⟩) (hPW.preV hP hS (ci := 6) rfl (by omega) mw_o) rfl rfl hl.1 rfl (lv_room (Nat.le_of_ble_eq_true rfl)) dX4_noCell_2 ⟨Nat.le_of_ble_eq_true rfl, Nat.le_of_ble_eq_true rfl⟩) hS (fun r2 u2 H locs h2 hP hS => ?_)
  rcases h2 with ⟨rfl, h2⟩ | ⟨rfl, j2, hj2, ej2⟩
  · refine lv_if_ne (tgt := 27) hx hb dX4_noCell_5 (by decide) (fun c5 => ?_) (fun c5 => absurd c5 (by decide))
    refine lv_iconst (v := 1) hx hb dX4_noCell_27 (by decide) ?_
    refine lv_goto (tgt := 32) hx hb dX4_noCell_28 (by decide) ?_
    refine W.widen (k := 0) (n := 0) (Nat.le_of_ble_eq_true rfl) (Nat.le_of_ble_eq_true rfl) ?_
    exact W.zret (v := 1) hx hb hr (by decide) (fun t ht hW => ⟨⟨1, (), rfl, Or.inl ⟨rfl, Or.inl h2⟩, PB.mk9 hP ht⟩, hS.F ht⟩) hS.2.2 dX4_noCell_32
  · refine lv_if_ne (tgt := 27) hx hb dX4_noCell_5 (by decide) (fun c5 => absurd c5 (by decide)) (fun c5 => ?_)
    refine lv_iload_n hx hb dX4_noCell_8 rfl (lv_at hl 2 rfl) ?_
    refine lv_iconst (v := 0) hx hb dX4_noCell_9 (by decide) ?_
    refine lv_bipush (v := 7) hx hb dX4_noCell_10 (by decide) ?_
    refine wx_calli (va_runS (As := [.int p1, .int 0, .int 7]) (rest := []) ⟨hx, hb, hml, hown, hts⟩ (m_in l hst g base n L (mw g L y ch r0) p1 0 7) (va_cwS 3 hts gX4_noCell_X4_in rfl rfl rfl (by decide +kernel) ⟨Nat.le_of_ble_eq_true rfl, Nat.le_of_ble_eq_true rfl⟩) (hPW.preS hP hS) rfl rfl hl.1 rfl (lv_room (Nat.le_of_ble_eq_true rfl)) dX4_noCell_12 ⟨Nat.le_of_ble_eq_true rfl, Nat.le_of_ble_eq_true rfl⟩) hS (fun r12 u12 H locs h12 hP hS => ?_)
    rcases h12 with ⟨rfl, h12⟩ | ⟨rfl, h12⟩
    · refine lv_if_eq (tgt := 27) hx hb dX4_noCell_15 (by decide) (fun c15 => absurd c15 (by decide)) (fun c15 => ?_)
      refine lv_iload_n hx hb dX4_noCell_18 rfl (lv_at hl 3 rfl) ?_
      refine lv_iconst (v := 0) hx hb dX4_noCell_19 (by decide) ?_
      refine lv_iconst (v := 3) hx hb dX4_noCell_20 (by decide) ?_
      refine wx_calli (va_runS (As := [.int p2, .int 0, .int 3]) (rest := []) ⟨hx, hb, hml, hown, hts⟩ (m_in l hst g base n L (mw g L y ch r0) p2 0 3) (va_cwS 3 hts gX4_noCell_X4_in rfl rfl rfl (by decide +kernel) ⟨Nat.le_of_ble_eq_true rfl, Nat.le_of_ble_eq_true rfl⟩) (hPW.preS hP hS) rfl rfl hl.1 rfl (lv_room (Nat.le_of_ble_eq_true rfl)) dX4_noCell_21 ⟨Nat.le_of_ble_eq_true rfl, Nat.le_of_ble_eq_true rfl⟩) hS (fun r21 u21 H locs h21 hP hS => ?_)
      rcases h21 with ⟨rfl, h21⟩ | ⟨rfl, h21⟩
      · refine lv_if_ne (tgt := 31) hx hb dX4_noCell_24 (by decide) (fun c24 => ?_) (fun c24 => absurd c24 (by decide))
        obtain ⟨c12_, hc12_, ec12_⟩ : ∃ c, c < 8 ∧ p1 = nI c := by obtain ⟨c, h1, h2⟩ := nI_rng (n := 7) (p := p1) (by (try revert h12); (try simp only [xor_m1]); (try simp only [Int32.lt_iff_toInt_lt, Int32.le_iff_toInt_le, ← Int32.toInt_inj, i_0, i_1, i_2, i_3, i_4, i_6, i_9, i_20, i_32, i_40, i_48, i_60, i_200, i_999, i_2000, i_m1, i_8]); (try simp only [i_8, i_7]); omega) (by (try revert h12); (try simp only [xor_m1]); (try simp only [Int32.lt_iff_toInt_lt, Int32.le_iff_toInt_le, ← Int32.toInt_inj, i_0, i_1, i_2, i_3, i_4, i_6, i_9, i_20, i_32, i_40, i_48, i_60, i_200, i_999, i_2000, i_m1, i_8]); (try simp only [i_8, i_7]); omega); exact ⟨c, by omega, h2⟩
        obtain ⟨c21_, hc21_, ec21_⟩ : ∃ c, c < 4 ∧ p2 = nI c := by obtain ⟨c, h1, h2⟩ := nI_rng (n := 3) (p := p2) (by (try revert h21); (try simp only [xor_m1]); (try simp only [Int32.lt_iff_toInt_lt, Int32.le_iff_toInt_le, ← Int32.toInt_inj, i_0, i_1, i_2, i_3, i_4, i_6, i_9, i_20, i_32, i_40, i_48, i_60, i_200, i_999, i_2000, i_m1, i_8]); (try simp only [i_8, i_7]); omega) (by (try revert h21); (try simp only [xor_m1]); (try simp only [Int32.lt_iff_toInt_lt, Int32.le_iff_toInt_le, ← Int32.toInt_inj, i_0, i_1, i_2, i_3, i_4, i_6, i_9, i_20, i_32, i_40, i_48, i_60, i_200, i_999, i_2000, i_m1, i_8]); (try simp only [i_8, i_7]); omega); exact ⟨c, by omega, h2⟩
        refine lv_iconst (v := 0) hx hb dX4_noCell_31 (by decide) ?_
        refine W.widen (k := 0) (n := 0) (Nat.le_of_ble_eq_true rfl) (Nat.le_of_ble_eq_true rfl) ?_
        exact W.zret (v := 0) hx hb hr (by decide) (fun t ht hW => ⟨⟨0, (), rfl, Or.inr ⟨rfl, j2, hj2, ej2, c12_, hc12_, ec12_, c21_, hc21_, ec21_⟩, PB.mk9 hP ht⟩, hS.F ht⟩) hS.2.2 dX4_noCell_32
      · refine lv_if_ne (tgt := 31) hx hb dX4_noCell_24 (by decide) (fun c24 => absurd c24 (by decide)) (fun c24 => ?_)
        refine lv_iconst (v := 1) hx hb dX4_noCell_27 (by decide) ?_
        refine lv_goto (tgt := 32) hx hb dX4_noCell_28 (by decide) ?_
        refine W.widen (k := 0) (n := 0) (Nat.le_of_ble_eq_true rfl) (Nat.le_of_ble_eq_true rfl) ?_
        exact W.zret (v := 1) hx hb hr (by decide) (fun t ht hW => ⟨⟨1, (), rfl, Or.inl ⟨rfl, Or.inr (by (try revert h21); (try simp only [xor_m1]); (try simp only [Int32.lt_iff_toInt_lt, Int32.le_iff_toInt_le, ← Int32.toInt_inj, i_0, i_1, i_2, i_3, i_4, i_6, i_9, i_20, i_32, i_40, i_48, i_60, i_200, i_999, i_2000, i_m1, i_8]); (try simp only [i_8, i_7]); omega)⟩, PB.mk9 hP ht⟩, hS.F ht⟩) hS.2.2 dX4_noCell_32
    · refine lv_if_eq (tgt := 27) hx hb dX4_noCell_15 (by decide) (fun c15 => ?_) (fun c15 => absurd (by decide) c15)
      refine lv_iconst (v := 1) hx hb dX4_noCell_27 (by decide) ?_
      refine lv_goto (tgt := 32) hx hb dX4_noCell_28 (by decide) ?_
      refine W.widen (k := 0) (n := 0) (Nat.le_of_ble_eq_true rfl) (Nat.le_of_ble_eq_true rfl) ?_
      exact W.zret (v := 1) hx hb hr (by decide) (fun t ht hW => ⟨⟨1, (), rfl, Or.inl ⟨rfl, Or.inr (by (try revert h12); (try simp only [xor_m1]); (try simp only [Int32.lt_iff_toInt_lt, Int32.le_iff_toInt_le, ← Int32.toInt_inj, i_0, i_1, i_2, i_3, i_4, i_6, i_9, i_20, i_32, i_40, i_48, i_60, i_200, i_999, i_2000, i_m1, i_8]); (try simp only [i_8, i_7]); omega)⟩, PB.mk9 hP ht⟩, hS.F ht⟩) hS.2.2 dX4_noCell_32

set_option maxHeartbeats 4000000 in
set_option maxRecDepth 100000 in
theorem m_cell (l : Launch) (hst : l.stackTraces = false) (g : gE) (base n : Nat) (L : Nat → Nat) (hn : 123 ≤ n) (y : St) (ch : Int64) (r0 : Nat → va_E) (nb nn : Nat) (hM : MI y nb nn) (p0 p1 p2 : Int32) : Met l yX4_cell wsX4_cell ({ frames := 3, cells := 0, slots := 0, locals := 180 }) (va_Pc [.ref (L 106), .int p0, .int p1, .int p2] (PW SS g base n L (mw g L y ch r0))) (va_Qi (fun (r : Int32) (u : MS) => ((((p0.toInt < 0 ∨ nb ≤ p0.toInt) ∨ ¬ (0 ≤ p1.toInt ∧ p1.toInt < 8 ∧ 0 ≤ p2.toInt ∧ p2.toInt < 4))) ∧ u = (st (st y 0 0 0 0) 0 0 0 1, ch)) ∨ (∃ j, j < nb ∧ p0 = nI j ∧ ∃ c, c < 8 ∧ p1 = nI c ∧ ∃ q, q < 4 ∧ p2 = nI q ∧ u = (st y 0 0 0 0, ch) ∧ r = if st y 0 0 0 0 15 0 (32 * j + 8 * q + c) = 0 then 0 else 1)) (fun (u : MS) t => PB g n L (mw g L u.1 u.2 r0) t) (fun q => base ≤ q)) 0 0 (fun q => base ≤ q) := by
  refine Met.ofW (cc := cX4_cell) (maxL := 4) (ret := (some .int)) (by decide) rfl ?_
  intro p e s m args below meth c s₁ B hml hv
  obtain ⟨rfl, hPW⟩ := hv
  obtain ⟨hbs, hJ, hP, hK, hE⟩ := id hPW
  have hx := B.exec
  have hb := B.bytes
  have hr := B.returns
  have hts := atoms_spec (ws := wsX4_cell) B.pre
  have hown : s.vm.findClass RX4 = some m.cls := findClass_of_methodNamed B.named
  have hlocks := B.notSynchronized
  have hS : va_S (fun q : Nat => base ≤ q) s.heap s.heap [] := va_S.rf
  have hl := lv_entry ([.ref (L 106), .int p0, .int p1, .int p2]) (n := 4) (Nat.le_of_ble_eq_true rfl)
  rw [lg_entry_eq]
  generalize (lg_sl ([.ref (L 106), .int p0, .int p1, .int p2]) ++ List.replicate (4 - (lg_sl ([.ref (L 106), .int p0, .int p1, .int p2])).length) Slot.unset).toArray = ls at hl ⊢
  have hl : lv_has ls 4 [(0, .ref (L 106)), (1, .int p0), (2, .int p1), (3, .int p2)] := hl
  have iX4 : ∀ w ∈ wsX40, w ∈ wsX4_cell := by decide +kernel
  have hnb := hM.nb6
  have hnn := hM.nn40
  have hy3 := hM.y3
  have hy4 := hM.y4
  have hT3 : (st y 0 0 0 0) 3 0 0 = nI nb := (st_nr (by omega)).trans hy3
  have hT4 : (st y 0 0 0 0) 4 0 0 = nI nn := (st_nr (by omega)).trans hy4
  refine lv_aload_n hx hb dX4_cell_0 rfl (lv_at hl 0 rfl) ?_
  refine lv_iconst (v := 0) hx hb dX4_cell_1 (by decide) ?_
  refine wx_put (D := g.1) (cl := vwCl) (ci := 6) (v := .int 0) (ty := .int) (w' := mw g L (st y 0 0 0 0) ch r0) (C := RX4) (T := TX4) (N := 22) hx hb hts iX4 tyX4 tyX4_ok nmX4 hown hK hP hJ hS (106) (by omega) mw_o rfl 0 (by decide) (hts (.fieldLink RX4 64 "FerroDeskModel" "thrown" "I") (by decide +kernel)) (fun _ h9 => h9) rfl (by decide +kernel) rfl rfl (Nat.le_of_ble_eq_true rfl) dX4_cell_2 (mw_put (r := 0) (i := 0) (j := 0) rfl (by omega) (mk_o.trans (by simp [mF, st]))) (fun H locs hP hS => ?_)
  refine lv_aload_n hx hb dX4_cell_5 rfl (lv_at hl 0 rfl) ?_
  refine lv_aload_n hx hb dX4_cell_6 rfl (lv_at hl 0 rfl) ?_
  refine lv_iload_n hx hb dX4_cell_7 rfl (lv_at hl 1 rfl) ?_
  refine lv_iload_n hx hb dX4_cell_8 rfl (lv_at hl 2 rfl) ?_
  refine lv_iload_n hx hb dX4_cell_9 rfl (lv_at hl 3 rfl) ?_
  refine wx_calli (va_runV (As := [.int p0, .int p1, .int p2]) (rest := [.ref (L 106)]) ⟨hx, hb, hml, hown, hts⟩ (m_noCell l hst g base n L (by omega) (st y 0 0 0 0) ch r0 nb hnb hT3 p0 p1 p2) (cwV 3 hts gX4_cell_X4_noCell rfl rfl rfl (by decide +kernel) ⟨Nat.le_of_ble_eq_true rfl, Nat.le_of_ble_eq_true rfl⟩) (hPW.preV hP hS (ci := 6) rfl (by omega) mw_o) rfl rfl hl.1 rfl (lv_room (Nat.le_of_ble_eq_true rfl)) dX4_cell_10 ⟨Nat.le_of_ble_eq_true rfl, Nat.le_of_ble_eq_true rfl⟩) hS (fun r10 u10 H locs h10 hP hS => ?_)
  rcases h10 with ⟨rfl, h10⟩ | ⟨rfl, jb, hjb, rfl, jc, hjc, rfl, jr, hjr, rfl⟩
  · refine lv_iconst (v := 1) hx hb dX4_cell_13 (by decide) ?_
    refine wx_calli (va_runV (As := [.int 1, .int 1]) (rest := []) ⟨hx, hb, hml, hown, hts⟩ (m_fails l hst g base n L (by omega) (st y 0 0 0 0) ch r0 st_eq 1 1 (by decide)) (cwV 2 hts gX4_cell_X4_fails rfl rfl rfl (by decide +kernel) ⟨Nat.le_of_ble_eq_true rfl, Nat.le_of_ble_eq_true rfl⟩) (hPW.preV hP hS (ci := 6) rfl (by omega) mw_o) rfl rfl hl.1 rfl (lv_room (Nat.le_of_ble_eq_true rfl)) dX4_cell_14 ⟨Nat.le_of_ble_eq_true rfl, Nat.le_of_ble_eq_true rfl⟩) hS (fun r14 u14 H locs h14 hP hS => ?_)
    obtain ⟨rfl, -, e9⟩ : r14 = 1 ∧ True ∧ u14 = st (st y 0 0 0 0) 0 0 0 1 := by rcases h14 with ⟨-, b, -⟩ | ⟨a, -, b⟩; exact absurd b (by decide); exact ⟨a, trivial, b⟩
    have e9 := e9.symm
    subst e9
    refine lv_if_ne (tgt := 39) hx hb dX4_cell_17 (by decide) (fun c17 => ?_) (fun c17 => absurd c17 (by decide))
    refine lv_iconst (v := 0) hx hb dX4_cell_39 (by decide) ?_
    refine lv_goto (tgt := 44) hx hb dX4_cell_40 (by decide) ?_
    refine W.widen (k := 0) (n := 0) (Nat.le_of_ble_eq_true rfl) (Nat.le_of_ble_eq_true rfl) ?_
    exact W.iret (v := 0) hx hb hr (fun t ht hW => ⟨⟨0, (st (st y 0 0 0 0) 0 0 0 1, ch), rfl, Or.inl ⟨h10, rfl⟩, PB.mk9 hP ht⟩, hS.F ht⟩) hS.2.2 dX4_cell_44
  · refine lv_iconst (v := 1) hx hb dX4_cell_13 (by decide) ?_
    refine wx_calli (va_runV (As := [.int 0, .int 1]) (rest := []) ⟨hx, hb, hml, hown, hts⟩ (m_fails l hst g base n L (by omega) (st y 0 0 0 0) ch r0 st_eq 0 1 (by decide)) (cwV 2 hts gX4_cell_X4_fails rfl rfl rfl (by decide +kernel) ⟨Nat.le_of_ble_eq_true rfl, Nat.le_of_ble_eq_true rfl⟩) (hPW.preV hP hS (ci := 6) rfl (by omega) mw_o) rfl rfl hl.1 rfl (lv_room (Nat.le_of_ble_eq_true rfl)) dX4_cell_14 ⟨Nat.le_of_ble_eq_true rfl, Nat.le_of_ble_eq_true rfl⟩) hS (fun r14 u14 H locs h14 hP hS => ?_)
    obtain ⟨rfl, -, e9⟩ : r14 = 0 ∧ True ∧ u14 = st y 0 0 0 0 := by rcases h14 with ⟨a, -, b⟩ | ⟨-, b, -⟩; exact ⟨a, trivial, b⟩; exact absurd rfl b
    have e9 := e9.symm
    subst e9
    refine lv_if_ne (tgt := 39) hx hb dX4_cell_17 (by decide) (fun c17 => absurd c17 (by decide)) (fun c17 => ?_)
    refine lv_aload_n hx hb dX4_cell_20 rfl (lv_at hl 0 rfl) ?_
    refine wx_get (D := g.1) (cl := vwCl) (ci := 6) (v := .ref (L 112)) (C := RX4) (T := TX4) (N := 22) hx hb hts iX4 hown hK hP (106) (by omega) mw_o rfl 11 (by decide) (hts (.fieldLink RX4 30 "FerroDeskModel" "isBlack" "[Z") (by decide +kernel)) (fun _ h9 => h9) rfl dX4_cell_21 ?_
    refine lv_bipush (v := 32) hx hb dX4_cell_24 (by decide) ?_
    refine lv_iload_n hx hb dX4_cell_26 rfl (lv_at hl 1 rfl) ?_
    refine lv_imul hx hb dX4_cell_27 ?_
    refine lv_bipush (v := 8) hx hb dX4_cell_28 (by decide) ?_
    refine lv_iload_n hx hb dX4_cell_30 rfl (lv_at hl 3 rfl) ?_
    refine lv_imul hx hb dX4_cell_31 ?_
    refine lv_iadd hx hb dX4_cell_32 ?_
    refine lv_iload_n hx hb dX4_cell_33 rfl (lv_at hl 2 rfl) ?_
    refine lv_iadd hx hb dX4_cell_34 ?_
    refine wx_zaldv (D := g.1) (cl := vwCl) (N := 192) (f := fun j9 => (st y 0 0 0 0) 15 0 j9) (v := (st y 0 0 0 0) 15 0 (32 * jb + 8 * jr + jc)) hx hb hK hP (112) 3 (by omega) (mw_a (by decide) (by decide)) rfl (i := ((32 * (nI jb)) + (8 * (nI jr))) + (nI jc)) (by simp only [m32, m8, nI_add]; exact vp_in_nI (by omega) (by decide)) (by simp only [m32, m8, nI_add]; rw [nI_clamp (by omega)]) dX4_cell_35 ?_
    refine lv_if_ne (tgt := 43) hx hb dX4_cell_36 (by decide) (fun c36 => ?_) (fun c36 => ?_)
    · refine lv_iconst (v := 1) hx hb dX4_cell_43 (by decide) ?_
      refine W.widen (k := 0) (n := 0) (Nat.le_of_ble_eq_true rfl) (Nat.le_of_ble_eq_true rfl) ?_
      exact W.iret (v := 1) hx hb hr (fun t ht hW => ⟨⟨1, (st y 0 0 0 0, ch), rfl, Or.inr ⟨jb, hjb, rfl, jc, hjc, rfl, jr, hjr, rfl, rfl, (if_neg c36).symm⟩, PB.mk9 hP ht⟩, hS.F ht⟩) hS.2.2 dX4_cell_44
    · refine lv_iconst (v := 0) hx hb dX4_cell_39 (by decide) ?_
      refine lv_goto (tgt := 44) hx hb dX4_cell_40 (by decide) ?_
      refine W.widen (k := 0) (n := 0) (Nat.le_of_ble_eq_true rfl) (Nat.le_of_ble_eq_true rfl) ?_
      exact W.iret (v := 0) hx hb hr (fun t ht hW => ⟨⟨0, (st y 0 0 0 0, ch), rfl, Or.inr ⟨jb, hjb, rfl, jc, hjc, rfl, jr, hjr, rfl, rfl, (if_pos c36).symm⟩, PB.mk9 hP ht⟩, hS.F ht⟩) hS.2.2 dX4_cell_44

set_option maxHeartbeats 4000000 in
set_option maxRecDepth 100000 in
theorem m_wear (l : Launch) (hst : l.stackTraces = false) (g : gE) (base n : Nat) (L : Nat → Nat) (hn : 123 ≤ n) (y : St) (ch : Int64) (r0 : Nat → va_E) (nb nn : Nat) (hM : MI y nb nn) (p0 p1 p2 : Int32) : Met l yX4_wear wsX4_wear ({ frames := 3, cells := 0, slots := 0, locals := 180 }) (va_Pc [.ref (L 106), .int p0, .int p1, .int p2] (PW SS g base n L (mw g L y ch r0))) (va_Qi (fun (r : Int32) (u : MS) => ((((p0.toInt < 0 ∨ nb ≤ p0.toInt) ∨ ¬ (0 ≤ p1.toInt ∧ p1.toInt < 8 ∧ 0 ≤ p2.toInt ∧ p2.toInt < 4))) ∧ u = (st (st y 0 0 0 0) 0 0 0 1, ch)) ∨ (∃ j, j < nb ∧ p0 = nI j ∧ ∃ c, c < 8 ∧ p1 = nI c ∧ ∃ q, q < 4 ∧ p2 = nI q ∧ u = (st y 0 0 0 0, ch) ∧ r = st y 0 0 0 0 16 0 (32 * j + 8 * q + c))) (fun (u : MS) t => PB g n L (mw g L u.1 u.2 r0) t) (fun q => base ≤ q)) 0 0 (fun q => base ≤ q) := by
  refine Met.ofW (cc := cX4_wear) (maxL := 4) (ret := (some .int)) (by decide) rfl ?_
  intro p e s m args below meth c s₁ B hml hv
  obtain ⟨rfl, hPW⟩ := hv
  obtain ⟨hbs, hJ, hP, hK, hE⟩ := id hPW
  have hx := B.exec
  have hb := B.bytes
  have hr := B.returns
  have hts := atoms_spec (ws := wsX4_wear) B.pre
  have hown : s.vm.findClass RX4 = some m.cls := findClass_of_methodNamed B.named
  have hlocks := B.notSynchronized
  have hS : va_S (fun q : Nat => base ≤ q) s.heap s.heap [] := va_S.rf
  have hl := lv_entry ([.ref (L 106), .int p0, .int p1, .int p2]) (n := 4) (Nat.le_of_ble_eq_true rfl)
  rw [lg_entry_eq]
  generalize (lg_sl ([.ref (L 106), .int p0, .int p1, .int p2]) ++ List.replicate (4 - (lg_sl ([.ref (L 106), .int p0, .int p1, .int p2])).length) Slot.unset).toArray = ls at hl ⊢
  have hl : lv_has ls 4 [(0, .ref (L 106)), (1, .int p0), (2, .int p1), (3, .int p2)] := hl
  have iX4 : ∀ w ∈ wsX40, w ∈ wsX4_wear := by decide +kernel
  have hnb := hM.nb6
  have hnn := hM.nn40
  have hy3 := hM.y3
  have hy4 := hM.y4
  have hT3 : (st y 0 0 0 0) 3 0 0 = nI nb := (st_nr (by omega)).trans hy3
  have hT4 : (st y 0 0 0 0) 4 0 0 = nI nn := (st_nr (by omega)).trans hy4
  refine lv_aload_n hx hb dX4_wear_0 rfl (lv_at hl 0 rfl) ?_
  refine lv_iconst (v := 0) hx hb dX4_wear_1 (by decide) ?_
  refine wx_put (D := g.1) (cl := vwCl) (ci := 6) (v := .int 0) (ty := .int) (w' := mw g L (st y 0 0 0 0) ch r0) (C := RX4) (T := TX4) (N := 22) hx hb hts iX4 tyX4 tyX4_ok nmX4 hown hK hP hJ hS (106) (by omega) mw_o rfl 0 (by decide) (hts (.fieldLink RX4 64 "FerroDeskModel" "thrown" "I") (by decide +kernel)) (fun _ h9 => h9) rfl (by decide +kernel) rfl rfl (Nat.le_of_ble_eq_true rfl) dX4_wear_2 (mw_put (r := 0) (i := 0) (j := 0) rfl (by omega) (mk_o.trans (by simp [mF, st]))) (fun H locs hP hS => ?_)
  refine lv_aload_n hx hb dX4_wear_5 rfl (lv_at hl 0 rfl) ?_
  refine lv_aload_n hx hb dX4_wear_6 rfl (lv_at hl 0 rfl) ?_
  refine lv_iload_n hx hb dX4_wear_7 rfl (lv_at hl 1 rfl) ?_
  refine lv_iload_n hx hb dX4_wear_8 rfl (lv_at hl 2 rfl) ?_
  refine lv_iload_n hx hb dX4_wear_9 rfl (lv_at hl 3 rfl) ?_
  refine wx_calli (va_runV (As := [.int p0, .int p1, .int p2]) (rest := [.ref (L 106)]) ⟨hx, hb, hml, hown, hts⟩ (m_noCell l hst g base n L (by omega) (st y 0 0 0 0) ch r0 nb hnb hT3 p0 p1 p2) (cwV 3 hts gX4_wear_X4_noCell rfl rfl rfl (by decide +kernel) ⟨Nat.le_of_ble_eq_true rfl, Nat.le_of_ble_eq_true rfl⟩) (hPW.preV hP hS (ci := 6) rfl (by omega) mw_o) rfl rfl hl.1 rfl (lv_room (Nat.le_of_ble_eq_true rfl)) dX4_wear_10 ⟨Nat.le_of_ble_eq_true rfl, Nat.le_of_ble_eq_true rfl⟩) hS (fun r10 u10 H locs h10 hP hS => ?_)
  rcases h10 with ⟨rfl, h10⟩ | ⟨rfl, jb, hjb, rfl, jc, hjc, rfl, jr, hjr, rfl⟩
  · refine lv_iconst (v := 1) hx hb dX4_wear_13 (by decide) ?_
    refine wx_calli (va_runV (As := [.int 1, .int 1]) (rest := []) ⟨hx, hb, hml, hown, hts⟩ (m_fails l hst g base n L (by omega) (st y 0 0 0 0) ch r0 st_eq 1 1 (by decide)) (cwV 2 hts gX4_wear_X4_fails rfl rfl rfl (by decide +kernel) ⟨Nat.le_of_ble_eq_true rfl, Nat.le_of_ble_eq_true rfl⟩) (hPW.preV hP hS (ci := 6) rfl (by omega) mw_o) rfl rfl hl.1 rfl (lv_room (Nat.le_of_ble_eq_true rfl)) dX4_wear_14 ⟨Nat.le_of_ble_eq_true rfl, Nat.le_of_ble_eq_true rfl⟩) hS (fun r14 u14 H locs h14 hP hS => ?_)
    obtain ⟨rfl, -, e9⟩ : r14 = 1 ∧ True ∧ u14 = st (st y 0 0 0 0) 0 0 0 1 := by rcases h14 with ⟨-, b, -⟩ | ⟨a, -, b⟩; exact absurd b (by decide); exact ⟨a, trivial, b⟩
    have e9 := e9.symm
    subst e9
    refine lv_if_eq (tgt := 24) hx hb dX4_wear_17 (by decide) (fun c17 => absurd c17 (by decide)) (fun c17 => ?_)
    refine lv_iconst (v := 0) hx hb dX4_wear_20 (by decide) ?_
    refine lv_goto (tgt := 40) hx hb dX4_wear_21 (by decide) ?_
    refine W.widen (k := 0) (n := 0) (Nat.le_of_ble_eq_true rfl) (Nat.le_of_ble_eq_true rfl) ?_
    exact W.iret (v := 0) hx hb hr (fun t ht hW => ⟨⟨0, (st (st y 0 0 0 0) 0 0 0 1, ch), rfl, Or.inl ⟨h10, rfl⟩, PB.mk9 hP ht⟩, hS.F ht⟩) hS.2.2 dX4_wear_40
  · refine lv_iconst (v := 1) hx hb dX4_wear_13 (by decide) ?_
    refine wx_calli (va_runV (As := [.int 0, .int 1]) (rest := []) ⟨hx, hb, hml, hown, hts⟩ (m_fails l hst g base n L (by omega) (st y 0 0 0 0) ch r0 st_eq 0 1 (by decide)) (cwV 2 hts gX4_wear_X4_fails rfl rfl rfl (by decide +kernel) ⟨Nat.le_of_ble_eq_true rfl, Nat.le_of_ble_eq_true rfl⟩) (hPW.preV hP hS (ci := 6) rfl (by omega) mw_o) rfl rfl hl.1 rfl (lv_room (Nat.le_of_ble_eq_true rfl)) dX4_wear_14 ⟨Nat.le_of_ble_eq_true rfl, Nat.le_of_ble_eq_true rfl⟩) hS (fun r14 u14 H locs h14 hP hS => ?_)
    obtain ⟨rfl, -, e9⟩ : r14 = 0 ∧ True ∧ u14 = st y 0 0 0 0 := by rcases h14 with ⟨a, -, b⟩ | ⟨-, b, -⟩; exact ⟨a, trivial, b⟩; exact absurd rfl b
    have e9 := e9.symm
    subst e9
    refine lv_if_eq (tgt := 24) hx hb dX4_wear_17 (by decide) (fun c17 => ?_) (fun c17 => absurd (by decide) c17)
    refine lv_aload_n hx hb dX4_wear_24 rfl (lv_at hl 0 rfl) ?_
    refine wx_get (D := g.1) (cl := vwCl) (ci := 6) (v := .ref (L 113)) (C := RX4) (T := TX4) (N := 22) hx hb hts iX4 hown hK hP (106) (by omega) mw_o rfl 12 (by decide) (hts (.fieldLink RX4 33 "FerroDeskModel" "wear" "[I") (by decide +kernel)) (fun _ h9 => h9) rfl dX4_wear_25 ?_
    refine lv_bipush (v := 32) hx hb dX4_wear_28 (by decide) ?_
    refine lv_iload_n hx hb dX4_wear_30 rfl (lv_at hl 1 rfl) ?_
    refine lv_imul hx hb dX4_wear_31 ?_
    refine lv_bipush (v := 8) hx hb dX4_wear_32 (by decide) ?_
    refine lv_iload_n hx hb dX4_wear_34 rfl (lv_at hl 3 rfl) ?_
    refine lv_imul hx hb dX4_wear_35 ?_
    refine lv_iadd hx hb dX4_wear_36 ?_
    refine lv_iload_n hx hb dX4_wear_37 rfl (lv_at hl 2 rfl) ?_
    refine lv_iadd hx hb dX4_wear_38 ?_
    refine wx_ialdv (D := g.1) (cl := vwCl) (N := 192) (f := fun j9 => (st y 0 0 0 0) 16 0 j9) (v := (st y 0 0 0 0) 16 0 (32 * jb + 8 * jr + jc)) hx hb hK hP (113) 0 (by omega) (mw_a (by decide) (by decide)) rfl (i := ((32 * (nI jb)) + (8 * (nI jr))) + (nI jc)) (by simp only [m32, m8, nI_add]; exact vp_in_nI (by omega) (by decide)) (by simp only [m32, m8, nI_add]; rw [nI_clamp (by omega)]) dX4_wear_39 ?_
    refine W.widen (k := 0) (n := 0) (Nat.le_of_ble_eq_true rfl) (Nat.le_of_ble_eq_true rfl) ?_
    exact W.iret (v := (st y 0 0 0 0) 16 0 (32 * jb + 8 * jr + jc)) hx hb hr (fun t ht hW => ⟨⟨(st y 0 0 0 0) 16 0 (32 * jb + 8 * jr + jc), (st y 0 0 0 0, ch), rfl, Or.inr ⟨jb, hjb, rfl, jc, hjc, rfl, jr, hjr, rfl, rfl, rfl⟩, PB.mk9 hP ht⟩, hS.F ht⟩) hS.2.2 dX4_wear_40

set_option maxHeartbeats 4000000 in
set_option maxRecDepth 100000 in
theorem m_cellAnew (l : Launch) (hst : l.stackTraces = false) (g : gE) (base n : Nat) (L : Nat → Nat) (hn : 123 ≤ n) (y : St) (ch : Int64) (r0 : Nat → va_E) (nb nn : Nat) (hM : MI y nb nn) (p0 p1 p2 : Int32) : Met l yX4_cellAnew wsX4_cellAnew ({ frames := 4, cells := 0, slots := 0, locals := 240 }) (va_Pc [.ref (L 106), .int p0, .int p1, .int p2] (PW SS g base n L (mw g L y ch r0))) (va_Qi (fun (r : Int32) (u : MS) => ((((p0.toInt < 0 ∨ nb ≤ p0.toInt) ∨ ¬ (0 ≤ p1.toInt ∧ p1.toInt < 8 ∧ 0 ≤ p2.toInt ∧ p2.toInt < 4))) ∧ u = (st (st y 0 0 0 0) 0 0 0 1, ch)) ∨ (∃ j, j < nb ∧ p0 = nI j ∧ ∃ c, c < 8 ∧ p1 = nI c ∧ ∃ q, q < 4 ∧ p2 = nI q ∧ u = (st y 0 0 0 0, ch) ∧ r = if st y 0 0 0 0 15 0 (32 * j + 8 * q + c) = 0 then 0 else 1)) (fun (u : MS) t => PB g n L (mw g L u.1 u.2 r0) t) (fun q => base ≤ q)) 0 0 (fun q => base ≤ q) := by
  refine Met.ofW (cc := cX4_cellAnew) (maxL := 4) (ret := (some .int)) (by decide) rfl ?_
  intro p e s m args below meth c s₁ B hml hv
  obtain ⟨rfl, hPW⟩ := hv
  obtain ⟨hbs, hJ, hP, hK, hE⟩ := id hPW
  have hx := B.exec
  have hb := B.bytes
  have hr := B.returns
  have hts := atoms_spec (ws := wsX4_cellAnew) B.pre
  have hown : s.vm.findClass RX4 = some m.cls := findClass_of_methodNamed B.named
  have hlocks := B.notSynchronized
  have hS : va_S (fun q : Nat => base ≤ q) s.heap s.heap [] := va_S.rf
  have hl := lv_entry ([.ref (L 106), .int p0, .int p1, .int p2]) (n := 4) (Nat.le_of_ble_eq_true rfl)
  rw [lg_entry_eq]
  generalize (lg_sl ([.ref (L 106), .int p0, .int p1, .int p2]) ++ List.replicate (4 - (lg_sl ([.ref (L 106), .int p0, .int p1, .int p2])).length) Slot.unset).toArray = ls at hl ⊢
  have hl : lv_has ls 4 [(0, .ref (L 106)), (1, .int p0), (2, .int p1), (3, .int p2)] := hl
  have hnb := hM.nb6
  have hnn := hM.nn40
  have hy3 := hM.y3
  have hy4 := hM.y4
  have hT3 : (st y 0 0 0 0) 3 0 0 = nI nb := (st_nr (by omega)).trans hy3
  have hT4 : (st y 0 0 0 0) 4 0 0 = nI nn := (st_nr (by omega)).trans hy4
  refine lv_aload_n hx hb dX4_cellAnew_0 rfl (lv_at hl 0 rfl) ?_
  refine lv_iload_n hx hb dX4_cellAnew_1 rfl (lv_at hl 1 rfl) ?_
  refine lv_iload_n hx hb dX4_cellAnew_2 rfl (lv_at hl 2 rfl) ?_
  refine lv_iload_n hx hb dX4_cellAnew_3 rfl (lv_at hl 3 rfl) ?_
  refine wx_calli (va_runV (As := [.int p0, .int p1, .int p2]) (rest := []) ⟨hx, hb, hml, hown, hts⟩ (m_cell l hst g base n L (by omega) y ch r0 nb nn hM p0 p1 p2) (cwV 3 hts gX4_cellAnew_X4_cell rfl rfl rfl (by decide +kernel) ⟨Nat.le_of_ble_eq_true rfl, Nat.le_of_ble_eq_true rfl⟩) (hPW.preV hP hS (ci := 6) rfl (by omega) mw_o) rfl rfl hl.1 rfl (lv_room (Nat.le_of_ble_eq_true rfl)) dX4_cellAnew_4 ⟨Nat.le_of_ble_eq_true rfl, Nat.le_of_ble_eq_true rfl⟩) hS (fun r4 u4 H locs h4 hP hS => ?_)
  refine W.widen (k := 0) (n := 0) (Nat.le_of_ble_eq_true rfl) (Nat.le_of_ble_eq_true rfl) ?_
  exact W.iret (v := r4) hx hb hr (fun t ht hW => ⟨⟨r4, u4, rfl, h4, PB.mk9 hP ht⟩, hS.F ht⟩) hS.2.2 dX4_cellAnew_7

