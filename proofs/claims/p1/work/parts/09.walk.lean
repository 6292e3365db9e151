/-! laid by wip/gen/p1spec.py, ctors.py -/
set_option maxHeartbeats 4000000 in
set_option maxRecDepth 100000 in
theorem km_addBoard (l : Launch) (hst : l.stackTraces = false) (g : gE) (base n : Nat) (L : Nat → Nat) (hn : 123 ≤ n) (y : St) (ch : Int64) (r0 : Nat → va_E) (hy1 : y 1 0 0 = nI 0) (hy2 : y 2 0 0 = 2) (hy3 : y 3 0 0 = nI 0) (hy4 : y 4 0 0 = nI 0) (p0 p1 : Int32) : Met l yX4_addBoard wsX4_addBoard ({ frames := 5, cells := 0, slots := 0, locals := 140 }) (va_Pc [.ref (L 106), .int p0, .int p1] (PW SS g base n L (mw g L y ch r0))) (va_Qi (fun (r : Int32) (u : St) => ((p0.toInt < 0 ∨ 3 < p0.toInt ∨ p1.toInt < 0 ∨ 200 < p1.toInt) ∧ u 0 0 0 = 1) ∨ (¬ (p0.toInt < 0 ∨ 3 < p0.toInt ∨ p1.toInt < 0 ∨ 200 < p1.toInt) ∧ u 0 0 0 = 0 ∧ r = 0)) (fun (u : St) t => PB g n L (mw g L u ch r0) t) (fun q => base ≤ q)) 0 0 (fun q => base ≤ q) := by
  refine Met.ofW (cc := cX4_addBoard) (maxL := 3) (ret := (some .int)) (by decide) rfl ?_
  intro p e s m args below meth c s₁ B hml hv
  obtain ⟨rfl, hPW⟩ := hv
  obtain ⟨hbs, hJ, hP, hK, hE⟩ := id hPW
  have hx := B.exec
  have hb := B.bytes
  have hr := B.returns
  have hts := atoms_spec (ws := wsX4_addBoard) B.pre
  have hown : s.vm.findClass RX4 = some m.cls := findClass_of_methodNamed B.named
  have hlocks := B.notSynchronized
  have hS : va_S (fun q : Nat => base ≤ q) s.heap s.heap [] := va_S.rf
  have hl := lv_entry ([.ref (L 106), .int p0, .int p1]) (n := 3) (Nat.le_of_ble_eq_true rfl)
  rw [lg_entry_eq]
  generalize (lg_sl ([.ref (L 106), .int p0, .int p1]) ++ List.replicate (3 - (lg_sl ([.ref (L 106), .int p0, .int p1])).length) Slot.unset).toArray = ls at hl ⊢
  have hl : lv_has ls 3 [(0, .ref (L 106)), (1, .int p0), (2, .int p1)] := hl
  have iX4 : ∀ w ∈ wsX40, w ∈ wsX4_addBoard := by decide +kernel
  refine lv_aload_n hx hb dX4_addBoard_0 rfl (lv_at hl 0 rfl) ?_
  refine lv_iconst (v := 0) hx hb dX4_addBoard_1 (by decide) ?_
  refine wx_put (D := g.1) (cl := vwCl) (ci := 6) (v := .int 0) (ty := .int) (w' := mw g L (st y 0 0 0 0) ch r0) (C := RX4) (T := TX4) (N := 22) hx hb hts iX4 tyX4 tyX4_ok nmX4 hown hK hP hJ hS (106) (by omega) mw_o rfl 0 (by decide) (hts (.fieldLink RX4 64 "FerroDeskModel" "thrown" "I") (by decide +kernel)) (fun _ h9 => h9) rfl (by decide +kernel) rfl rfl (Nat.le_of_ble_eq_true rfl) dX4_addBoard_2 (mw_put (r := 0) (i := 0) (j := 0) rfl (by omega) (mk_o.trans (by simp [mF, st]))) (fun H locs hP hS => ?_)
  refine lv_aload_n hx hb dX4_addBoard_5 rfl (lv_at hl 0 rfl) ?_
  refine lv_iload_n hx hb dX4_addBoard_6 rfl (lv_at hl 1 rfl) ?_
  refine wx_calli (va_runS (As := [.int p0]) (rest := [.ref (L 106)]) ⟨hx, hb, hml, hown, hts⟩ (k_noDistrict l hst g base n L (mw g L (st y 0 0 0 0) ch r0) p0) (va_cwS 1 hts gX4_addBoard_X4_noDistrict rfl rfl rfl (by decide +kernel) ⟨Nat.le_of_ble_eq_true rfl, Nat.le_of_ble_eq_true rfl⟩) (hPW.preS hP hS) rfl rfl hl.1 rfl (lv_room (Nat.le_of_ble_eq_true rfl)) dX4_addBoard_7 ⟨Nat.le_of_ble_eq_true rfl, Nat.le_of_ble_eq_true rfl⟩) hS (fun r7 u7 H locs h7 hP hS => ?_)
  rcases h7 with ⟨rfl, h7⟩ | ⟨rfl, h7⟩
  · refine lv_if_ne (tgt := 24) hx hb dX4_addBoard_10 (by decide) (fun c10 => ?_) (fun c10 => absurd c10 (by decide))
    refine lv_iconst (v := 1) hx hb dX4_addBoard_24 (by decide) ?_
    refine lv_goto (tgt := 29) hx hb dX4_addBoard_25 (by decide) ?_
    refine lv_iconst (v := 1) hx hb dX4_addBoard_29 (by decide) ?_
    refine wx_calli (va_runV (As := [.int 1, .int 1]) (rest := []) ⟨hx, hb, hml, hown, hts⟩ (k_fails l hst g base n L (by omega) (st y 0 0 0 0) ch r0 st_eq 1 1 (by decide)) (cwV 2 hts gX4_addBoard_X4_fails rfl rfl rfl (by decide +kernel) ⟨Nat.le_of_ble_eq_true rfl, Nat.le_of_ble_eq_true rfl⟩) (hPW.preV hP hS (ci := 6) rfl (by omega) mw_o) rfl rfl hl.1 rfl (lv_room (Nat.le_of_ble_eq_true rfl)) dX4_addBoard_30 ⟨Nat.le_of_ble_eq_true rfl, Nat.le_of_ble_eq_true rfl⟩) hS (fun r30 u30 H locs h30 hP hS => ?_)
    obtain ⟨rfl, -, e9⟩ : r30 = 1 ∧ True ∧ u30 = st (st y 0 0 0 0) 0 0 0 1 := by rcases h30 with ⟨-, b, -⟩ | ⟨a, -, b⟩; exact absurd b (by decide); exact ⟨a, trivial, b⟩
    have e9 := e9.symm
    subst e9
    refine lv_if_ne (tgt := 58) hx hb dX4_addBoard_33 (by decide) (fun c33 => ?_) (fun c33 => absurd c33 (by decide))
    refine lv_iconst (v := 0) hx hb dX4_addBoard_58 (by decide) ?_
    refine W.widen (k := 0) (n := 0) (Nat.le_of_ble_eq_true rfl) (Nat.le_of_ble_eq_true rfl) ?_
    exact W.iret (v := 0) hx hb hr (fun t ht hW => ⟨⟨0, (st (st y 0 0 0 0) 0 0 0 1), rfl, Or.inl ⟨(by revert h7; (try simp only [Int32.lt_iff_toInt_lt, Int32.le_iff_toInt_le, ← Int32.toInt_inj, i_0, i_1, i_2, i_3, i_4, i_6, i_9, i_20, i_32, i_40, i_48, i_60, i_200, i_999, i_2000, i_m1]); omega), st_eq⟩, PB.mk9 hP ht⟩, hS.F ht⟩) hS.2.2 dX4_addBoard_59
  · refine lv_if_ne (tgt := 24) hx hb dX4_addBoard_10 (by decide) (fun c10 => absurd c10 (by decide)) (fun c10 => ?_)
    refine lv_iload_n hx hb dX4_addBoard_13 rfl (lv_at hl 2 rfl) ?_
    refine lv_iconst (v := 0) hx hb dX4_addBoard_14 (by decide) ?_
    refine lv_sipush (v := 200) hx hb dX4_addBoard_15 (by decide) ?_
    refine wx_calli (va_runS (As := [.int p1, .int 0, .int 200]) (rest := [.ref (L 106)]) ⟨hx, hb, hml, hown, hts⟩ (k_in l hst g base n L (mw g L (st y 0 0 0 0) ch r0) p1 0 200) (va_cwS 3 hts gX4_addBoard_X4_in rfl rfl rfl (by decide +kernel) ⟨Nat.le_of_ble_eq_true rfl, Nat.le_of_ble_eq_true rfl⟩) (hPW.preS hP hS) rfl rfl hl.1 rfl (lv_room (Nat.le_of_ble_eq_true rfl)) dX4_addBoard_18 ⟨Nat.le_of_ble_eq_true rfl, Nat.le_of_ble_eq_true rfl⟩) hS (fun r18 u18 H locs h18 hP hS => ?_)
    rcases h18 with ⟨rfl, h18⟩ | ⟨rfl, h18⟩
    · refine lv_if_ne (tgt := 28) hx hb dX4_addBoard_21 (by decide) (fun c21 => ?_) (fun c21 => absurd c21 (by decide))
      refine lv_iconst (v := 0) hx hb dX4_addBoard_28 (by decide) ?_
      refine lv_iconst (v := 1) hx hb dX4_addBoard_29 (by decide) ?_
      refine wx_calli (va_runV (As := [.int 0, .int 1]) (rest := []) ⟨hx, hb, hml, hown, hts⟩ (k_fails l hst g base n L (by omega) (st y 0 0 0 0) ch r0 st_eq 0 1 (by decide)) (cwV 2 hts gX4_addBoard_X4_fails rfl rfl rfl (by decide +kernel) ⟨Nat.le_of_ble_eq_true rfl, Nat.le_of_ble_eq_true rfl⟩) (hPW.preV hP hS (ci := 6) rfl (by omega) mw_o) rfl rfl hl.1 rfl (lv_room (Nat.le_of_ble_eq_true rfl)) dX4_addBoard_30 ⟨Nat.le_of_ble_eq_true rfl, Nat.le_of_ble_eq_true rfl⟩) hS (fun r30 u30 H locs h30 hP hS => ?_)
      obtain ⟨rfl, -, e9⟩ : r30 = 0 ∧ True ∧ u30 = st y 0 0 0 0 := by rcases h30 with ⟨a, -, b⟩ | ⟨-, b, -⟩; exact ⟨a, trivial, b⟩; exact absurd rfl b
      have e9 := e9.symm
      subst e9
      refine lv_if_ne (tgt := 58) hx hb dX4_addBoard_33 (by decide) (fun c33 => absurd c33 (by decide)) (fun c33 => ?_)
      refine lv_aload_n hx hb dX4_addBoard_36 rfl (lv_at hl 0 rfl) ?_
      refine lv_aload_n hx hb dX4_addBoard_37 rfl (lv_at hl 0 rfl) ?_
      refine wx_get (D := g.1) (cl := vwCl) (ci := 6) (v := .int ((st y 0 0 0 0) 3 0 0)) (C := RX4) (T := TX4) (N := 22) hx hb hts iX4 hown hK hP (106) (by omega) mw_o rfl 3 (by decide) (hts (.fieldLink RX4 67 "FerroDeskModel" "boards" "I") (by decide +kernel)) (fun _ h9 => h9) rfl dX4_addBoard_38 ?_
      refine lv_bipush (v := 6) hx hb dX4_addBoard_41 (by decide) ?_
      refine lv_icmp_ne (tgt := 50) hx hb dX4_addBoard_43 (by decide) (fun c43 => ?_) (fun c43 => absurd c43 ((by rw [st_ne (by decide), hy3]; decide)))
      refine lv_iconst (v := 0) hx hb dX4_addBoard_50 (by decide) ?_
      refine lv_iconst (v := 2) hx hb dX4_addBoard_51 (by decide) ?_
      refine wx_calli (va_runV (As := [.int 0, .int 2]) (rest := []) ⟨hx, hb, hml, hown, hts⟩ (k_fails l hst g base n L (by omega) (st y 0 0 0 0) ch r0 st_eq 0 2 (by decide)) (cwV 2 hts gX4_addBoard_X4_fails rfl rfl rfl (by decide +kernel) ⟨Nat.le_of_ble_eq_true rfl, Nat.le_of_ble_eq_true rfl⟩) (hPW.preV hP hS (ci := 6) rfl (by omega) mw_o) rfl rfl hl.1 rfl (lv_room (Nat.le_of_ble_eq_true rfl)) dX4_addBoard_52 ⟨Nat.le_of_ble_eq_true rfl, Nat.le_of_ble_eq_true rfl⟩) hS (fun r52 u52 H locs h52 hP hS => ?_)
      obtain ⟨rfl, -, e9⟩ : r52 = 0 ∧ True ∧ u52 = st y 0 0 0 0 := by rcases h52 with ⟨a, -, b⟩ | ⟨-, b, -⟩; exact ⟨a, trivial, b⟩; exact absurd rfl b
      have e9 := e9.symm
      subst e9
      refine lv_if_eq (tgt := 60) hx hb dX4_addBoard_55 (by decide) (fun c55 => ?_) (fun c55 => absurd (by decide) c55)
      refine lv_aload_n hx hb dX4_addBoard_60 rfl (lv_at hl 0 rfl) ?_
      refine wx_get (D := g.1) (cl := vwCl) (ci := 6) (v := .ref (L 107)) (C := RX4) (T := TX4) (N := 22) hx hb hts iX4 hown hK hP (106) (by omega) mw_o rfl 6 (by decide) (hts (.fieldLink RX4 13 "FerroDeskModel" "districtOf" "[I") (by decide +kernel)) (fun _ h9 => h9) rfl dX4_addBoard_61 ?_
      refine lv_aload_n hx hb dX4_addBoard_64 rfl (lv_at hl 0 rfl) ?_
      refine wx_get (D := g.1) (cl := vwCl) (ci := 6) (v := .int ((st y 0 0 0 0) 3 0 0)) (C := RX4) (T := TX4) (N := 22) hx hb hts iX4 hown hK hP (106) (by omega) mw_o rfl 3 (by decide) (hts (.fieldLink RX4 67 "FerroDeskModel" "boards" "I") (by decide +kernel)) (fun _ h9 => h9) rfl dX4_addBoard_65 ?_
      refine lv_iload_n hx hb dX4_addBoard_68 rfl (lv_at hl 1 rfl) ?_
      refine wx_iast (D := g.1) (cl := vwCl) (f := fun j => (st y 0 0 0 0) 10 0 j) (w' := mw g L (st (st y 0 0 0 0) 10 0 (((st y 0 0 0 0) 3 0 0).toNatClampNeg) p0) ch r0) hx hb hK hP hJ hS (107) 0 (by omega) (mw_a (by decide) (by decide)) rfl (i := (st y 0 0 0 0) 3 0 0) (by show vp_in ((st (st y 0 0 0 0) 10 0 (((st y 0 0 0 0) 3 0 0).toNatClampNeg) p0) 3 0 0) _; simp only [st]; rw [hy3]; exact vp_in_nI (n := 0) (by decide) (by decide)) dX4_addBoard_69 (mw_st (r := 10) rfl (by decide) (by decide) rfl rfl rfl) (fun H locs hP hS => ?_)
      refine lv_aload_n hx hb dX4_addBoard_70 rfl (lv_at hl 0 rfl) ?_
      refine wx_get (D := g.1) (cl := vwCl) (ci := 6) (v := .ref (L 108)) (C := RX4) (T := TX4) (N := 22) hx hb hts iX4 hown hK hP (106) (by omega) mw_o rfl 7 (by decide) (hts (.fieldLink RX4 17 "FerroDeskModel" "charge" "[I") (by decide +kernel)) (fun _ h9 => h9) rfl dX4_addBoard_71 ?_
      refine lv_aload_n hx hb dX4_addBoard_74 rfl (lv_at hl 0 rfl) ?_
      refine wx_get (D := g.1) (cl := vwCl) (ci := 6) (v := .int ((st (st y 0 0 0 0) 10 0 (((st y 0 0 0 0) 3 0 0).toNatClampNeg) p0) 3 0 0)) (C := RX4) (T := TX4) (N := 22) hx hb hts iX4 hown hK hP (106) (by omega) mw_o rfl 3 (by decide) (hts (.fieldLink RX4 67 "FerroDeskModel" "boards" "I") (by decide +kernel)) (fun _ h9 => h9) rfl dX4_addBoard_75 ?_
      refine lv_iload_n hx hb dX4_addBoard_78 rfl (lv_at hl 2 rfl) ?_
      refine wx_iast (D := g.1) (cl := vwCl) (f := fun j => (st (st y 0 0 0 0) 10 0 (((st y 0 0 0 0) 3 0 0).toNatClampNeg) p0) 11 0 j) (w' := mw g L (st (st (st y 0 0 0 0) 10 0 (((st y 0 0 0 0) 3 0 0).toNatClampNeg) p0) 11 0 (((st (st y 0 0 0 0) 10 0 (((st y 0 0 0 0) 3 0 0).toNatClampNeg) p0) 3 0 0).toNatClampNeg) p1) ch r0) hx hb hK hP hJ hS (108) 0 (by omega) (mw_a (by decide) (by decide)) rfl (i := (st (st y 0 0 0 0) 10 0 (((st y 0 0 0 0) 3 0 0).toNatClampNeg) p0) 3 0 0) (by show vp_in ((st (st (st y 0 0 0 0) 10 0 (((st y 0 0 0 0) 3 0 0).toNatClampNeg) p0) 11 0 (((st (st y 0 0 0 0) 10 0 (((st y 0 0 0 0) 3 0 0).toNatClampNeg) p0) 3 0 0).toNatClampNeg) p1) 3 0 0) _; simp only [st]; rw [hy3]; exact vp_in_nI (n := 0) (by decide) (by decide)) dX4_addBoard_79 (mw_st (r := 11) rfl (by decide) (by decide) rfl rfl rfl) (fun H locs hP hS => ?_)
      refine lv_aload_n hx hb dX4_addBoard_80 rfl (lv_at hl 0 rfl) ?_
      refine wx_get (D := g.1) (cl := vwCl) (ci := 6) (v := .ref (L 109)) (C := RX4) (T := TX4) (N := 22) hx hb hts iX4 hown hK hP (106) (by omega) mw_o rfl 8 (by decide) (hts (.fieldLink RX4 20 "FerroDeskModel" "shown" "[I") (by decide +kernel)) (fun _ h9 => h9) rfl dX4_addBoard_81 ?_
      refine lv_aload_n hx hb dX4_addBoard_84 rfl (lv_at hl 0 rfl) ?_
      refine wx_get (D := g.1) (cl := vwCl) (ci := 6) (v := .int ((st (st (st y 0 0 0 0) 10 0 (((st y 0 0 0 0) 3 0 0).toNatClampNeg) p0) 11 0 (((st (st y 0 0 0 0) 10 0 (((st y 0 0 0 0) 3 0 0).toNatClampNeg) p0) 3 0 0).toNatClampNeg) p1) 3 0 0)) (C := RX4) (T := TX4) (N := 22) hx hb hts iX4 hown hK hP (106) (by omega) mw_o rfl 3 (by decide) (hts (.fieldLink RX4 67 "FerroDeskModel" "boards" "I") (by decide +kernel)) (fun _ h9 => h9) rfl dX4_addBoard_85 ?_
      refine lv_iconst (v := (-1)) hx hb dX4_addBoard_88 (by decide) ?_
      refine wx_iast (D := g.1) (cl := vwCl) (f := fun j => (st (st (st y 0 0 0 0) 10 0 (((st y 0 0 0 0) 3 0 0).toNatClampNeg) p0) 11 0 (((st (st y 0 0 0 0) 10 0 (((st y 0 0 0 0) 3 0 0).toNatClampNeg) p0) 3 0 0).toNatClampNeg) p1) 12 0 j) (w' := mw g L (st (st (st (st y 0 0 0 0) 10 0 (((st y 0 0 0 0) 3 0 0).toNatClampNeg) p0) 11 0 (((st (st y 0 0 0 0) 10 0 (((st y 0 0 0 0) 3 0 0).toNatClampNeg) p0) 3 0 0).toNatClampNeg) p1) 12 0 (((st (st (st y 0 0 0 0) 10 0 (((st y 0 0 0 0) 3 0 0).toNatClampNeg) p0) 11 0 (((st (st y 0 0 0 0) 10 0 (((st y 0 0 0 0) 3 0 0).toNatClampNeg) p0) 3 0 0).toNatClampNeg) p1) 3 0 0).toNatClampNeg) (-1)) ch r0) hx hb hK hP hJ hS (109) 0 (by omega) (mw_a (by decide) (by decide)) rfl (i := (st (st (st y 0 0 0 0) 10 0 (((st y 0 0 0 0) 3 0 0).toNatClampNeg) p0) 11 0 (((st (st y 0 0 0 0) 10 0 (((st y 0 0 0 0) 3 0 0).toNatClampNeg) p0) 3 0 0).toNatClampNeg) p1) 3 0 0) (by show vp_in ((st (st (st (st y 0 0 0 0) 10 0 (((st y 0 0 0 0) 3 0 0).toNatClampNeg) p0) 11 0 (((st (st y 0 0 0 0) 10 0 (((st y 0 0 0 0) 3 0 0).toNatClampNeg) p0) 3 0 0).toNatClampNeg) p1) 12 0 (((st (st (st y 0 0 0 0) 10 0 (((st y 0 0 0 0) 3 0 0).toNatClampNeg) p0) 11 0 (((st (st y 0 0 0 0) 10 0 (((st y 0 0 0 0) 3 0 0).toNatClampNeg) p0) 3 0 0).toNatClampNeg) p1) 3 0 0).toNatClampNeg) (-1)) 3 0 0) _; simp only [st]; rw [hy3]; exact vp_in_nI (n := 0) (by decide) (by decide)) dX4_addBoard_89 (mw_st (r := 12) rfl (by decide) (by decide) rfl rfl rfl) (fun H locs hP hS => ?_)
      refine lv_aload_n hx hb dX4_addBoard_90 rfl (lv_at hl 0 rfl) ?_
      refine lv_dup hx hb dX4_addBoard_91 rfl ?_
      refine wx_get (D := g.1) (cl := vwCl) (ci := 6) (v := .int ((st (st (st (st y 0 0 0 0) 10 0 (((st y 0 0 0 0) 3 0 0).toNatClampNeg) p0) 11 0 (((st (st y 0 0 0 0) 10 0 (((st y 0 0 0 0) 3 0 0).toNatClampNeg) p0) 3 0 0).toNatClampNeg) p1) 12 0 (((st (st (st y 0 0 0 0) 10 0 (((st y 0 0 0 0) 3 0 0).toNatClampNeg) p0) 11 0 (((st (st y 0 0 0 0) 10 0 (((st y 0 0 0 0) 3 0 0).toNatClampNeg) p0) 3 0 0).toNatClampNeg) p1) 3 0 0).toNatClampNeg) (-1)) 3 0 0)) (C := RX4) (T := TX4) (N := 22) hx hb hts iX4 hown hK hP (106) (by omega) mw_o rfl 3 (by decide) (hts (.fieldLink RX4 67 "FerroDeskModel" "boards" "I") (by decide +kernel)) (fun _ h9 => h9) rfl dX4_addBoard_92 ?_
      refine lv_iconst (v := 1) hx hb dX4_addBoard_95 (by decide) ?_
      refine lv_iadd hx hb dX4_addBoard_96 ?_
      refine wx_put (D := g.1) (cl := vwCl) (ci := 6) (v := .int (((st (st (st (st y 0 0 0 0) 10 0 (((st y 0 0 0 0) 3 0 0).toNatClampNeg) p0) 11 0 (((st (st y 0 0 0 0) 10 0 (((st y 0 0 0 0) 3 0 0).toNatClampNeg) p0) 3 0 0).toNatClampNeg) p1) 12 0 (((st (st (st y 0 0 0 0) 10 0 (((st y 0 0 0 0) 3 0 0).toNatClampNeg) p0) 11 0 (((st (st y 0 0 0 0) 10 0 (((st y 0 0 0 0) 3 0 0).toNatClampNeg) p0) 3 0 0).toNatClampNeg) p1) 3 0 0).toNatClampNeg) (-1)) 3 0 0) + 1)) (ty := .int) (w' := mw g L (st (st (st (st (st y 0 0 0 0) 10 0 (((st y 0 0 0 0) 3 0 0).toNatClampNeg) p0) 11 0 (((st (st y 0 0 0 0) 10 0 (((st y 0 0 0 0) 3 0 0).toNatClampNeg) p0) 3 0 0).toNatClampNeg) p1) 12 0 (((st (st (st y 0 0 0 0) 10 0 (((st y 0 0 0 0) 3 0 0).toNatClampNeg) p0) 11 0 (((st (st y 0 0 0 0) 10 0 (((st y 0 0 0 0) 3 0 0).toNatClampNeg) p0) 3 0 0).toNatClampNeg) p1) 3 0 0).toNatClampNeg) (-1)) 3 0 0 (((st (st (st (st y 0 0 0 0) 10 0 (((st y 0 0 0 0) 3 0 0).toNatClampNeg) p0) 11 0 (((st (st y 0 0 0 0) 10 0 (((st y 0 0 0 0) 3 0 0).toNatClampNeg) p0) 3 0 0).toNatClampNeg) p1) 12 0 (((st (st (st y 0 0 0 0) 10 0 (((st y 0 0 0 0) 3 0 0).toNatClampNeg) p0) 11 0 (((st (st y 0 0 0 0) 10 0 (((st y 0 0 0 0) 3 0 0).toNatClampNeg) p0) 3 0 0).toNatClampNeg) p1) 3 0 0).toNatClampNeg) (-1)) 3 0 0) + 1)) ch r0) (C := RX4) (T := TX4) (N := 22) hx hb hts iX4 tyX4 tyX4_ok nmX4 hown hK hP hJ hS (106) (by omega) mw_o rfl 3 (by decide) (hts (.fieldLink RX4 67 "FerroDeskModel" "boards" "I") (by decide +kernel)) (fun _ h9 => h9) rfl (by decide +kernel) rfl rfl (Nat.le_of_ble_eq_true rfl) dX4_addBoard_97 (mw_put (r := 3) (i := 0) (j := 0) rfl (by omega) (mk_o.trans (by simp [mF, st]))) (fun H locs hP hS => ?_)
      refine lv_aload_n hx hb dX4_addBoard_100 rfl (lv_at hl 0 rfl) ?_
      refine wx_get (D := g.1) (cl := vwCl) (ci := 6) (v := .int ((st (st (st (st (st y 0 0 0 0) 10 0 (((st y 0 0 0 0) 3 0 0).toNatClampNeg) p0) 11 0 (((st (st y 0 0 0 0) 10 0 (((st y 0 0 0 0) 3 0 0).toNatClampNeg) p0) 3 0 0).toNatClampNeg) p1) 12 0 (((st (st (st y 0 0 0 0) 10 0 (((st y 0 0 0 0) 3 0 0).toNatClampNeg) p0) 11 0 (((st (st y 0 0 0 0) 10 0 (((st y 0 0 0 0) 3 0 0).toNatClampNeg) p0) 3 0 0).toNatClampNeg) p1) 3 0 0).toNatClampNeg) (-1)) 3 0 0 (((st (st (st (st y 0 0 0 0) 10 0 (((st y 0 0 0 0) 3 0 0).toNatClampNeg) p0) 11 0 (((st (st y 0 0 0 0) 10 0 (((st y 0 0 0 0) 3 0 0).toNatClampNeg) p0) 3 0 0).toNatClampNeg) p1) 12 0 (((st (st (st y 0 0 0 0) 10 0 (((st y 0 0 0 0) 3 0 0).toNatClampNeg) p0) 11 0 (((st (st y 0 0 0 0) 10 0 (((st y 0 0 0 0) 3 0 0).toNatClampNeg) p0) 3 0 0).toNatClampNeg) p1) 3 0 0).toNatClampNeg) (-1)) 3 0 0) + 1)) 3 0 0)) (C := RX4) (T := TX4) (N := 22) hx hb hts iX4 hown hK hP (106) (by omega) mw_o rfl 3 (by decide) (hts (.fieldLink RX4 67 "FerroDeskModel" "boards" "I") (by decide +kernel)) (fun _ h9 => h9) rfl dX4_addBoard_101 ?_
      refine lv_iconst (v := 1) hx hb dX4_addBoard_104 (by decide) ?_
      refine lv_isub hx hb dX4_addBoard_105 ?_
      refine W.widen (k := 0) (n := 0) (Nat.le_of_ble_eq_true rfl) (Nat.le_of_ble_eq_true rfl) ?_
      exact W.iret (v := ((st (st (st (st (st y 0 0 0 0) 10 0 (((st y 0 0 0 0) 3 0 0).toNatClampNeg) p0) 11 0 (((st (st y 0 0 0 0) 10 0 (((st y 0 0 0 0) 3 0 0).toNatClampNeg) p0) 3 0 0).toNatClampNeg) p1) 12 0 (((st (st (st y 0 0 0 0) 10 0 (((st y 0 0 0 0) 3 0 0).toNatClampNeg) p0) 11 0 (((st (st y 0 0 0 0) 10 0 (((st y 0 0 0 0) 3 0 0).toNatClampNeg) p0) 3 0 0).toNatClampNeg) p1) 3 0 0).toNatClampNeg) (-1)) 3 0 0 (((st (st (st (st y 0 0 0 0) 10 0 (((st y 0 0 0 0) 3 0 0).toNatClampNeg) p0) 11 0 (((st (st y 0 0 0 0) 10 0 (((st y 0 0 0 0) 3 0 0).toNatClampNeg) p0) 3 0 0).toNatClampNeg) p1) 12 0 (((st (st (st y 0 0 0 0) 10 0 (((st y 0 0 0 0) 3 0 0).toNatClampNeg) p0) 11 0 (((st (st y 0 0 0 0) 10 0 (((st y 0 0 0 0) 3 0 0).toNatClampNeg) p0) 3 0 0).toNatClampNeg) p1) 3 0 0).toNatClampNeg) (-1)) 3 0 0) + 1)) 3 0 0) - 1) hx hb hr (fun t ht hW => ⟨⟨((st (st (st (st (st y 0 0 0 0) 10 0 (((st y 0 0 0 0) 3 0 0).toNatClampNeg) p0) 11 0 (((st (st y 0 0 0 0) 10 0 (((st y 0 0 0 0) 3 0 0).toNatClampNeg) p0) 3 0 0).toNatClampNeg) p1) 12 0 (((st (st (st y 0 0 0 0) 10 0 (((st y 0 0 0 0) 3 0 0).toNatClampNeg) p0) 11 0 (((st (st y 0 0 0 0) 10 0 (((st y 0 0 0 0) 3 0 0).toNatClampNeg) p0) 3 0 0).toNatClampNeg) p1) 3 0 0).toNatClampNeg) (-1)) 3 0 0 (((st (st (st (st y 0 0 0 0) 10 0 (((st y 0 0 0 0) 3 0 0).toNatClampNeg) p0) 11 0 (((st (st y 0 0 0 0) 10 0 (((st y 0 0 0 0) 3 0 0).toNatClampNeg) p0) 3 0 0).toNatClampNeg) p1) 12 0 (((st (st (st y 0 0 0 0) 10 0 (((st y 0 0 0 0) 3 0 0).toNatClampNeg) p0) 11 0 (((st (st y 0 0 0 0) 10 0 (((st y 0 0 0 0) 3 0 0).toNatClampNeg) p0) 3 0 0).toNatClampNeg) p1) 3 0 0).toNatClampNeg) (-1)) 3 0 0) + 1)) 3 0 0) - 1, (st (st (st (st (st y 0 0 0 0) 10 0 (((st y 0 0 0 0) 3 0 0).toNatClampNeg) p0) 11 0 (((st (st y 0 0 0 0) 10 0 (((st y 0 0 0 0) 3 0 0).toNatClampNeg) p0) 3 0 0).toNatClampNeg) p1) 12 0 (((st (st (st y 0 0 0 0) 10 0 (((st y 0 0 0 0) 3 0 0).toNatClampNeg) p0) 11 0 (((st (st y 0 0 0 0) 10 0 (((st y 0 0 0 0) 3 0 0).toNatClampNeg) p0) 3 0 0).toNatClampNeg) p1) 3 0 0).toNatClampNeg) (-1)) 3 0 0 (((st (st (st (st y 0 0 0 0) 10 0 (((st y 0 0 0 0) 3 0 0).toNatClampNeg) p0) 11 0 (((st (st y 0 0 0 0) 10 0 (((st y 0 0 0 0) 3 0 0).toNatClampNeg) p0) 3 0 0).toNatClampNeg) p1) 12 0 (((st (st (st y 0 0 0 0) 10 0 (((st y 0 0 0 0) 3 0 0).toNatClampNeg) p0) 11 0 (((st (st y 0 0 0 0) 10 0 (((st y 0 0 0 0) 3 0 0).toNatClampNeg) p0) 3 0 0).toNatClampNeg) p1) 3 0 0).toNatClampNeg) (-1)) 3 0 0) + 1)), rfl, Or.inr ⟨(by revert h7 h18; (try simp only [Int32.lt_iff_toInt_lt, Int32.le_iff_toInt_le, ← Int32.toInt_inj, i_0, i_1, i_2, i_3, i_4, i_6, i_9, i_20, i_32, i_40, i_48, i_60, i_200, i_999, i_2000, i_m1]); omega), (by simp [st]), (by simp [st, hy3]; decide)⟩, PB.mk9 hP ht⟩, hS.F ht⟩) hS.2.2 dX4_addBoard_106
    · refine lv_if_ne (tgt := 28) hx hb dX4_addBoard_21 (by decide) (fun c21 => absurd c21 (by decide)) (fun c21 => ?_)
      refine lv_iconst (v := 1) hx hb dX4_addBoard_24 (by decide) ?_
      refine lv_goto (tgt := 29) hx hb dX4_addBoard_25 (by decide) ?_
      refine lv_iconst (v := 1) hx hb dX4_addBoard_29 (by decide) ?_
      refine wx_calli (va_runV (As := [.int 1, .int 1]) (rest := []) ⟨hx, hb, hml, hown, hts⟩ (k_fails l hst g base n L (by omega) (st y 0 0 0 0) ch r0 st_eq 1 1 (by decide)) (cwV 2 hts gX4_addBoard_X4_fails rfl rfl rfl (by decide +kernel) ⟨Nat.le_of_ble_eq_true rfl, Nat.le_of_ble_eq_true rfl⟩) (hPW.preV hP hS (ci := 6) rfl (by omega) mw_o) rfl rfl hl.1 rfl (lv_room (Nat.le_of_ble_eq_true rfl)) dX4_addBoard_30 ⟨Nat.le_of_ble_eq_true rfl, Nat.le_of_ble_eq_true rfl⟩) hS (fun r30 u30 H locs h30 hP hS => ?_)
      obtain ⟨rfl, -, e9⟩ : r30 = 1 ∧ True ∧ u30 = st (st y 0 0 0 0) 0 0 0 1 := by rcases h30 with ⟨-, b, -⟩ | ⟨a, -, b⟩; exact absurd b (by decide); exact ⟨a, trivial, b⟩
      have e9 := e9.symm
      subst e9
      refine lv_if_ne (tgt := 58) hx hb dX4_addBoard_33 (by decide) (fun c33 => ?_) (fun c33 => absurd c33 (by decide))
      refine lv_iconst (v := 0) hx hb dX4_addBoard_58 (by decide) ?_
      refine W.widen (k := 0) (n := 0) (Nat.le_of_ble_eq_true rfl) (Nat.le_of_ble_eq_true rfl) ?_
      exact W.iret (v := 0) hx hb hr (fun t ht hW => ⟨⟨0, (st (st y 0 0 0 0) 0 0 0 1), rfl, Or.inl ⟨(by revert h7 h18; (try simp only [Int32.lt_iff_toInt_lt, Int32.le_iff_toInt_le, ← Int32.toInt_inj, i_0, i_1, i_2, i_3, i_4, i_6, i_9, i_20, i_32, i_40, i_48, i_60, i_200, i_999, i_2000, i_m1]); omega), st_eq⟩, PB.mk9 hP ht⟩, hS.F ht⟩) hS.2.2 dX4_addBoard_59

set_option maxHeartbeats 4000000 in
set_option maxRecDepth 100000 in
theorem km_setSun (l : Launch) (hst : l.stackTraces = false) (g : gE) (base n : Nat) (L : Nat → Nat) (hn : 123 ≤ n) (y : St) (ch : Int64) (r0 : Nat → va_E) (hy1 : y 1 0 0 = nI 0) (hy2 : y 2 0 0 = 2) (hy3 : y 3 0 0 = nI 0) (hy4 : y 4 0 0 = nI 0) (p0 : Int32) : Met l yX4_setSun wsX4_setSun ({ frames := 5, cells := 0, slots := 0, locals := 140 }) (va_Pc [.ref (L 106), .int p0] (PW SS g base n L (mw g L y ch r0))) (va_Qi (fun (r : Int32) (u : St) => ((p0.toInt < 0 ∨ 20 < p0.toInt) ∧ u 0 0 0 = 1) ∨ (¬ (p0.toInt < 0 ∨ 20 < p0.toInt) ∧ u 0 0 0 = 0 ∧ r = 2)) (fun (u : St) t => PB g n L (mw g L u ch r0) t) (fun q => base ≤ q)) 0 0 (fun q => base ≤ q) := by
  refine Met.ofW (cc := cX4_setSun) (maxL := 3) (ret := (some .int)) (by decide) rfl ?_
  intro p e s m args below meth c s₁ B hml hv
  obtain ⟨rfl, hPW⟩ := hv
  obtain ⟨hbs, hJ, hP, hK, hE⟩ := id hPW
  have hx := B.exec
  have hb := B.bytes
  have hr := B.returns
  have hts := atoms_spec (ws := wsX4_setSun) B.pre
  have hown : s.vm.findClass RX4 = some m.cls := findClass_of_methodNamed B.named
  have hlocks := B.notSynchronized
  have hS : va_S (fun q : Nat => base ≤ q) s.heap s.heap [] := va_S.rf
  have hl := lv_entry ([.ref (L 106), .int p0]) (n := 3) (Nat.le_of_ble_eq_true rfl)
  rw [lg_entry_eq]
  generalize (lg_sl ([.ref (L 106), .int p0]) ++ List.replicate (3 - (lg_sl ([.ref (L 106), .int p0])).length) Slot.unset).toArray = ls at hl ⊢
  have hl : lv_has ls 3 [(0, .ref (L 106)), (1, .int p0)] := hl
  have iX4 : ∀ w ∈ wsX40, w ∈ wsX4_setSun := by decide +kernel
  refine lv_aload_n hx hb dX4_setSun_0 rfl (lv_at hl 0 rfl) ?_
  refine lv_iconst (v := 0) hx hb dX4_setSun_1 (by decide) ?_
  refine wx_put (D := g.1) (cl := vwCl) (ci := 6) (v := .int 0) (ty := .int) (w' := mw g L (st y 0 0 0 0) ch r0) (C := RX4) (T := TX4) (N := 22) hx hb hts iX4 tyX4 tyX4_ok nmX4 hown hK hP hJ hS (106) (by omega) mw_o rfl 0 (by decide) (hts (.fieldLink RX4 64 "FerroDeskModel" "thrown" "I") (by decide +kernel)) (fun _ h9 => h9) rfl (by decide +kernel) rfl rfl (Nat.le_of_ble_eq_true rfl) dX4_setSun_2 (mw_put (r := 0) (i := 0) (j := 0) rfl (by omega) (mk_o.trans (by simp [mF, st]))) (fun H locs hP hS => ?_)
  refine lv_aload_n hx hb dX4_setSun_5 rfl (lv_at hl 0 rfl) ?_
  refine lv_iload_n hx hb dX4_setSun_6 rfl (lv_at hl 1 rfl) ?_
  refine lv_iconst (v := 0) hx hb dX4_setSun_7 (by decide) ?_
  refine lv_bipush (v := 20) hx hb dX4_setSun_8 (by decide) ?_
  refine wx_calli (va_runS (As := [.int p0, .int 0, .int 20]) (rest := [.ref (L 106)]) ⟨hx, hb, hml, hown, hts⟩ (k_in l hst g base n L (mw g L (st y 0 0 0 0) ch r0) p0 0 20) (va_cwS 3 hts gX4_setSun_X4_in rfl rfl rfl (by decide +kernel) ⟨Nat.le_of_ble_eq_true rfl, Nat.le_of_ble_eq_true rfl⟩) (hPW.preS hP hS) rfl rfl hl.1 rfl (lv_room (Nat.le_of_ble_eq_true rfl)) dX4_setSun_10 ⟨Nat.le_of_ble_eq_true rfl, Nat.le_of_ble_eq_true rfl⟩) hS (fun r10 u10 H locs h10 hP hS => ?_)
  rcases h10 with ⟨rfl, h10⟩ | ⟨rfl, h10⟩
  · refine lv_if_ne (tgt := 20) hx hb dX4_setSun_13 (by decide) (fun c13 => ?_) (fun c13 => absurd c13 (by decide))
    refine lv_iconst (v := 0) hx hb dX4_setSun_20 (by decide) ?_
    refine lv_iconst (v := 1) hx hb dX4_setSun_21 (by decide) ?_
    refine wx_calli (va_runV (As := [.int 0, .int 1]) (rest := []) ⟨hx, hb, hml, hown, hts⟩ (k_fails l hst g base n L (by omega) (st y 0 0 0 0) ch r0 st_eq 0 1 (by decide)) (cwV 2 hts gX4_setSun_X4_fails rfl rfl rfl (by decide +kernel) ⟨Nat.le_of_ble_eq_true rfl, Nat.le_of_ble_eq_true rfl⟩) (hPW.preV hP hS (ci := 6) rfl (by omega) mw_o) rfl rfl hl.1 rfl (lv_room (Nat.le_of_ble_eq_true rfl)) dX4_setSun_22 ⟨Nat.le_of_ble_eq_true rfl, Nat.le_of_ble_eq_true rfl⟩) hS (fun r22 u22 H locs h22 hP hS => ?_)
    obtain ⟨rfl, -, e9⟩ : r22 = 0 ∧ True ∧ u22 = st y 0 0 0 0 := by rcases h22 with ⟨a, -, b⟩ | ⟨-, b, -⟩; exact ⟨a, trivial, b⟩; exact absurd rfl b
    have e9 := e9.symm
    subst e9
    refine lv_if_eq (tgt := 30) hx hb dX4_setSun_25 (by decide) (fun c25 => ?_) (fun c25 => absurd (by decide) c25)
    refine lv_aload_n hx hb dX4_setSun_30 rfl (lv_at hl 0 rfl) ?_
    refine wx_get (D := g.1) (cl := vwCl) (ci := 6) (v := .int ((st y 0 0 0 0) 2 0 0)) (C := RX4) (T := TX4) (N := 22) hx hb hts iX4 hown hK hP (106) (by omega) mw_o rfl 2 (by decide) (hts (.fieldLink RX4 7 "FerroDeskModel" "light" "I") (by decide +kernel)) (fun _ h9 => h9) rfl dX4_setSun_31 ?_
    refine lv_topi (fun z34 ez34 => ?_)
    refine lv_istore_n (lv' := [(2, .int z34), (0, .ref (L 106)), (1, .int p0)]) hx hb dX4_setSun_34 rfl hl (by decide) rfl (fun ls hl => ?_)
    refine lv_aload_n hx hb dX4_setSun_35 rfl (lv_at hl 1 rfl) ?_
    refine lv_iload_n hx hb dX4_setSun_36 rfl (lv_at hl 2 rfl) ?_
    refine wx_put (D := g.1) (cl := vwCl) (ci := 6) (v := .int p0) (ty := .int) (w' := mw g L (st (st y 0 0 0 0) 2 0 0 p0) ch r0) (C := RX4) (T := TX4) (N := 22) hx hb hts iX4 tyX4 tyX4_ok nmX4 hown hK hP hJ hS (106) (by omega) mw_o rfl 2 (by decide) (hts (.fieldLink RX4 7 "FerroDeskModel" "light" "I") (by decide +kernel)) (fun _ h9 => h9) rfl (by decide +kernel) rfl rfl (Nat.le_of_ble_eq_true rfl) dX4_setSun_37 (mw_put (r := 2) (i := 0) (j := 0) rfl (by omega) (mk_o.trans (by simp [mF, st]))) (fun H locs hP hS => ?_)
    refine lv_iload_n hx hb dX4_setSun_40 rfl (lv_at hl 0 rfl) ?_
    refine W.widen (k := 0) (n := 0) (Nat.le_of_ble_eq_true rfl) (Nat.le_of_ble_eq_true rfl) ?_
    exact W.iret (v := z34) hx hb hr (fun t ht hW => ⟨⟨z34, (st (st y 0 0 0 0) 2 0 0 p0), rfl, Or.inr ⟨(by revert h10; (try simp only [Int32.lt_iff_toInt_lt, Int32.le_iff_toInt_le, ← Int32.toInt_inj, i_0, i_1, i_2, i_3, i_4, i_6, i_9, i_20, i_32, i_40, i_48, i_60, i_200, i_999, i_2000, i_m1]); omega), (by simp [st]), (by rw [ez34]; simp [st, hy2])⟩, PB.mk9 hP ht⟩, hS.F ht⟩) hS.2.2 dX4_setSun_41
  · refine lv_if_ne (tgt := 20) hx hb dX4_setSun_13 (by decide) (fun c13 => absurd c13 (by decide)) (fun c13 => ?_)
    refine lv_iconst (v := 1) hx hb dX4_setSun_16 (by decide) ?_
    refine lv_goto (tgt := 21) hx hb dX4_setSun_17 (by decide) ?_
    refine lv_iconst (v := 1) hx hb dX4_setSun_21 (by decide) ?_
    refine wx_calli (va_runV (As := [.int 1, .int 1]) (rest := []) ⟨hx, hb, hml, hown, hts⟩ (k_fails l hst g base n L (by omega) (st y 0 0 0 0) ch r0 st_eq 1 1 (by decide)) (cwV 2 hts gX4_setSun_X4_fails rfl rfl rfl (by decide +kernel) ⟨Nat.le_of_ble_eq_true rfl, Nat.le_of_ble_eq_true rfl⟩) (hPW.preV hP hS (ci := 6) rfl (by omega) mw_o) rfl rfl hl.1 rfl (lv_room (Nat.le_of_ble_eq_true rfl)) dX4_setSun_22 ⟨Nat.le_of_ble_eq_true rfl, Nat.le_of_ble_eq_true rfl⟩) hS (fun r22 u22 H locs h22 hP hS => ?_)
    obtain ⟨rfl, -, e9⟩ : r22 = 1 ∧ True ∧ u22 = st (st y 0 0 0 0) 0 0 0 1 := by rcases h22 with ⟨-, b, -⟩ | ⟨a, -, b⟩; exact absurd b (by decide); exact ⟨a, trivial, b⟩
    have e9 := e9.symm
    subst e9
    refine lv_if_eq (tgt := 30) hx hb dX4_setSun_25 (by decide) (fun c25 => absurd c25 (by decide)) (fun c25 => ?_)
    refine lv_iconst (v := 0) hx hb dX4_setSun_28 (by decide) ?_
    refine W.widen (k := 0) (n := 0) (Nat.le_of_ble_eq_true rfl) (Nat.le_of_ble_eq_true rfl) ?_
    exact W.iret (v := 0) hx hb hr (fun t ht hW => ⟨⟨0, (st (st y 0 0 0 0) 0 0 0 1), rfl, Or.inl ⟨(by revert h10; (try simp only [Int32.lt_iff_toInt_lt, Int32.le_iff_toInt_le, ← Int32.toInt_inj, i_0, i_1, i_2, i_3, i_4, i_6, i_9, i_20, i_32, i_40, i_48, i_60, i_200, i_999, i_2000, i_m1]); omega), st_eq⟩, PB.mk9 hP ht⟩, hS.F ht⟩) hS.2.2 dX4_setSun_29

set_option maxHeartbeats 4000000 in
set_option maxRecDepth 100000 in
theorem km_charge (l : Launch) (hst : l.stackTraces = false) (g : gE) (base n : Nat) (L : Nat → Nat) (hn : 123 ≤ n) (y : St) (ch : Int64) (r0 : Nat → va_E) (hy1 : y 1 0 0 = nI 0) (hy2 : y 2 0 0 = 2) (hy3 : y 3 0 0 = nI 0) (hy4 : y 4 0 0 = nI 0) (p0 : Int32) : Met l yX4_charge wsX4_charge ({ frames := 5, cells := 0, slots := 0, locals := 140 }) (va_Pc [.ref (L 106), .int p0] (PW SS g base n L (mw g L y ch r0))) (va_Qi (fun (_ : Int32) (u : St) => u 0 0 0 = 1) (fun (u : St) t => PB g n L (mw g L u ch r0) t) (fun q => base ≤ q)) 0 0 (fun q => base ≤ q) := by
  refine Met.ofW (cc := cX4_charge) (maxL := 2) (ret := (some .int)) (by decide) rfl ?_
  intro p e s m args below meth c s₁ B hml hv
  obtain ⟨rfl, hPW⟩ := hv
  obtain ⟨hbs, hJ, hP, hK, hE⟩ := id hPW
  have hx := B.exec
  have hb := B.bytes
  have hr := B.returns
  have hts := atoms_spec (ws := wsX4_charge) B.pre
  have hown : s.vm.findClass RX4 = some m.cls := findClass_of_methodNamed B.named
  have hlocks := B.notSynchronized
  have hS : va_S (fun q : Nat => base ≤ q) s.heap s.heap [] := va_S.rf
  have hl := lv_entry ([.ref (L 106), .int p0]) (n := 2) (Nat.le_of_ble_eq_true rfl)
  rw [lg_entry_eq]
  generalize (lg_sl ([.ref (L 106), .int p0]) ++ List.replicate (2 - (lg_sl ([.ref (L 106), .int p0])).length) Slot.unset).toArray = ls at hl ⊢
  have hl : lv_has ls 2 [(0, .ref (L 106)), (1, .int p0)] := hl
  have iX4 : ∀ w ∈ wsX40, w ∈ wsX4_charge := by decide +kernel
  refine lv_aload_n hx hb dX4_charge_0 rfl (lv_at hl 0 rfl) ?_
  refine lv_iconst (v := 0) hx hb dX4_charge_1 (by decide) ?_
  refine wx_put (D := g.1) (cl := vwCl) (ci := 6) (v := .int 0) (ty := .int) (w' := mw g L (st y 0 0 0 0) ch r0) (C := RX4) (T := TX4) (N := 22) hx hb hts iX4 tyX4 tyX4_ok nmX4 hown hK hP hJ hS (106) (by omega) mw_o rfl 0 (by decide) (hts (.fieldLink RX4 64 "FerroDeskModel" "thrown" "I") (by decide +kernel)) (fun _ h9 => h9) rfl (by decide +kernel) rfl rfl (Nat.le_of_ble_eq_true rfl) dX4_charge_2 (mw_put (r := 0) (i := 0) (j := 0) rfl (by omega) (mk_o.trans (by simp [mF, st]))) (fun H locs hP hS => ?_)
  refine lv_aload_n hx hb dX4_charge_5 rfl (lv_at hl 0 rfl) ?_
  refine lv_aload_n hx hb dX4_charge_6 rfl (lv_at hl 0 rfl) ?_
  refine lv_iload_n hx hb dX4_charge_7 rfl (lv_at hl 1 rfl) ?_
  refine wx_calli (va_runV (As := [.int p0]) (rest := [.ref (L 106)]) ⟨hx, hb, hml, hown, hts⟩ (k_noBoard l hst g base n L (by omega) (st y 0 0 0 0) ch r0 (st_ne (by decide) |>.trans hy3) p0) (cwV 1 hts gX4_charge_X4_noBoard rfl rfl rfl (by decide +kernel) ⟨Nat.le_of_ble_eq_true rfl, Nat.le_of_ble_eq_true rfl⟩) (hPW.preV hP hS (ci := 6) rfl (by omega) mw_o) rfl rfl hl.1 rfl (lv_room (Nat.le_of_ble_eq_true rfl)) dX4_charge_8 ⟨Nat.le_of_ble_eq_true rfl, Nat.le_of_ble_eq_true rfl⟩) hS (fun r8 u8 H locs h8 hP hS => ?_)
  obtain ⟨rfl, e9⟩ := h8
  have e9 := e9.symm
  subst e9
  refine lv_iconst (v := 1) hx hb dX4_charge_11 (by decide) ?_
  refine wx_calli (va_runV (As := [.int 1, .int 1]) (rest := []) ⟨hx, hb, hml, hown, hts⟩ (k_fails l hst g base n L (by omega) (st y 0 0 0 0) ch r0 st_eq 1 1 (by decide)) (cwV 2 hts gX4_charge_X4_fails rfl rfl rfl (by decide +kernel) ⟨Nat.le_of_ble_eq_true rfl, Nat.le_of_ble_eq_true rfl⟩) (hPW.preV hP hS (ci := 6) rfl (by omega) mw_o) rfl rfl hl.1 rfl (lv_room (Nat.le_of_ble_eq_true rfl)) dX4_charge_12 ⟨Nat.le_of_ble_eq_true rfl, Nat.le_of_ble_eq_true rfl⟩) hS (fun r12 u12 H locs h12 hP hS => ?_)
  obtain ⟨rfl, -, e9⟩ : r12 = 1 ∧ True ∧ u12 = st (st y 0 0 0 0) 0 0 0 1 := by rcases h12 with ⟨-, b, -⟩ | ⟨a, -, b⟩; exact absurd b (by decide); exact ⟨a, trivial, b⟩
  have e9 := e9.symm
  subst e9
  refine lv_if_eq (tgt := 22) hx hb dX4_charge_15 (by decide) (fun c15 => absurd c15 (by decide)) (fun c15 => ?_)
  refine lv_iconst (v := 0) hx hb dX4_charge_18 (by decide) ?_
  refine lv_goto (tgt := 28) hx hb dX4_charge_19 (by decide) ?_
  refine W.widen (k := 0) (n := 0) (Nat.le_of_ble_eq_true rfl) (Nat.le_of_ble_eq_true rfl) ?_
  exact W.iret (v := 0) hx hb hr (fun t ht hW => ⟨⟨0, (st (st y 0 0 0 0) 0 0 0 1), rfl, st_eq, PB.mk9 hP ht⟩, hS.F ht⟩) hS.2.2 dX4_charge_28

set_option maxHeartbeats 4000000 in
set_option maxRecDepth 100000 in
theorem km_cell (l : Launch) (hst : l.stackTraces = false) (g : gE) (base n : Nat) (L : Nat → Nat) (hn : 123 ≤ n) (y : St) (ch : Int64) (r0 : Nat → va_E) (hy1 : y 1 0 0 = nI 0) (hy2 : y 2 0 0 = 2) (hy3 : y 3 0 0 = nI 0) (hy4 : y 4 0 0 = nI 0) (p0 p1 p2 : Int32) : Met l yX4_cell wsX4_cell ({ frames := 5, cells := 0, slots := 0, locals := 140 }) (va_Pc [.ref (L 106), .int p0, .int p1, .int p2] (PW SS g base n L (mw g L y ch r0))) (va_Qi (fun (_ : Int32) (u : St) => u 0 0 0 = 1) (fun (u : St) t => PB g n L (mw g L u ch r0) t) (fun q => base ≤ q)) 0 0 (fun q => base ≤ q) := by
  refine Met.ofW (cc := cX4_cell) (maxL := 4) (ret := (some .int)) (by decide) rfl ?_
  intro p e s m args below meth c s₁ B hml hv
  obtain ⟨rfl, hPW⟩ := hv
  obtain ⟨hbs, hJ, hP, hK, hE⟩ := id hPW
  have hx := B.exec
  have hb := B.bytes
  have hr := B.returns
  have hts := atoms_spec (ws := wsX4_cell) B.pre
  have hown : s.vm.findClass RX4 = some m.cls := findClass_of_methodNamed B.named
  have hlocks := B.notSynchronized
  have hS : va_S (fun q : Nat => base ≤ q) s.heap s.heap [] := va_S.rf
  have hl := lv_entry ([.ref (L 106), .int p0, .int p1, .int p2]) (n := 4) (Nat.le_of_ble_eq_true rfl)
  rw [lg_entry_eq]
  generalize (lg_sl ([.ref (L 106), .int p0, .int p1, .int p2]) ++ List.replicate (4 - (lg_sl ([.ref (L 106), .int p0, .int p1, .int p2])).length) Slot.unset).toArray = ls at hl ⊢
  have hl : lv_has ls 4 [(0, .ref (L 106)), (1, .int p0), (2, .int p1), (3, .int p2)] := hl
  have iX4 : ∀ w ∈ wsX40, w ∈ wsX4_cell := by decide +kernel
  refine lv_aload_n hx hb dX4_cell_0 rfl (lv_at hl 0 rfl) ?_
  refine lv_iconst (v := 0) hx hb dX4_cell_1 (by decide) ?_
  refine wx_put (D := g.1) (cl := vwCl) (ci := 6) (v := .int 0) (ty := .int) (w' := mw g L (st y 0 0 0 0) ch r0) (C := RX4) (T := TX4) (N := 22) hx hb hts iX4 tyX4 tyX4_ok nmX4 hown hK hP hJ hS (106) (by omega) mw_o rfl 0 (by decide) (hts (.fieldLink RX4 64 "FerroDeskModel" "thrown" "I") (by decide +kernel)) (fun _ h9 => h9) rfl (by decide +kernel) rfl rfl (Nat.le_of_ble_eq_true rfl) dX4_cell_2 (mw_put (r := 0) (i := 0) (j := 0) rfl (by omega) (mk_o.trans (by simp [mF, st]))) (fun H locs hP hS => ?_)
  refine lv_aload_n hx hb dX4_cell_5 rfl (lv_at hl 0 rfl) ?_
  refine lv_aload_n hx hb dX4_cell_6 rfl (lv_at hl 0 rfl) ?_
  refine lv_iload_n hx hb dX4_cell_7 rfl (lv_at hl 1 rfl) ?_
  refine lv_iload_n hx hb dX4_cell_8 rfl (lv_at hl 2 rfl) ?_
  refine lv_iload_n hx hb dX4_cell_9 rfl (lv_at hl 3 rfl) ?_
  refine wx_calli (va_runV (As := [.int p0, .int p1, .int p2]) (rest := [.ref (L 106)]) ⟨hx, hb, hml, hown, hts⟩ (k_noCell l hst g base n L (by omega) (st y 0 0 0 0) ch r0 (st_ne (by decide) |>.trans hy3) p0 p1 p2) (cwV 3 hts gX4_cell_X4_noCell rfl rfl rfl (by decide +kernel) ⟨Nat.le_of_ble_eq_true rfl, Nat.le_of_ble_eq_true rfl⟩) (hPW.preV hP hS (ci := 6) rfl (by omega) mw_o) rfl rfl hl.1 rfl (lv_room (Nat.le_of_ble_eq_true rfl)) dX4_cell_10 ⟨Nat.le_of_ble_eq_true rfl, Nat.le_of_ble_eq_true rfl⟩) hS (fun r10 u10 H locs h10 hP hS => ?_)
  obtain ⟨rfl, e9⟩ := h10
  have e9 := e9.symm
  subst e9
  refine lv_iconst (v := 1) hx hb dX4_cell_13 (by decide) ?_
  refine wx_calli (va_runV (As := [.int 1, .int 1]) (rest := []) ⟨hx, hb, hml, hown, hts⟩ (k_fails l hst g base n L (by omega) (st y 0 0 0 0) ch r0 st_eq 1 1 (by decide)) (cwV 2 hts gX4_cell_X4_fails rfl rfl rfl (by decide +kernel) ⟨Nat.le_of_ble_eq_true rfl, Nat.le_of_ble_eq_true rfl⟩) (hPW.preV hP hS (ci := 6) rfl (by omega) mw_o) rfl rfl hl.1 rfl (lv_room (Nat.le_of_ble_eq_true rfl)) dX4_cell_14 ⟨Nat.le_of_ble_eq_true rfl, Nat.le_of_ble_eq_true rfl⟩) hS (fun r14 u14 H locs h14 hP hS => ?_)
  obtain ⟨rfl, -, e9⟩ : r14 = 1 ∧ True ∧ u14 = st (st y 0 0 0 0) 0 0 0 1 := by rcases h14 with ⟨-, b, -⟩ | ⟨a, -, b⟩; exact absurd b (by decide); exact ⟨a, trivial, b⟩
  have e9 := e9.symm
  subst e9
  refine lv_if_ne (tgt := 39) hx hb dX4_cell_17 (by decide) (fun c17 => ?_) (fun c17 => absurd c17 (by decide))
  refine lv_iconst (v := 0) hx hb dX4_cell_39 (by decide) ?_
  refine lv_goto (tgt := 44) hx hb dX4_cell_40 (by decide) ?_
  refine W.widen (k := 0) (n := 0) (Nat.le_of_ble_eq_true rfl) (Nat.le_of_ble_eq_true rfl) ?_
  exact W.iret (v := 0) hx hb hr (fun t ht hW => ⟨⟨0, (st (st y 0 0 0 0) 0 0 0 1), rfl, st_eq, PB.mk9 hP ht⟩, hS.F ht⟩) hS.2.2 dX4_cell_44

set_option maxHeartbeats 4000000 in
set_option maxRecDepth 100000 in
theorem km_wear (l : Launch) (hst : l.stackTraces = false) (g : gE) (base n : Nat) (L : Nat → Nat) (hn : 123 ≤ n) (y : St) (ch : Int64) (r0 : Nat → va_E) (hy1 : y 1 0 0 = nI 0) (hy2 : y 2 0 0 = 2) (hy3 : y 3 0 0 = nI 0) (hy4 : y 4 0 0 = nI 0) (p0 p1 p2 : Int32) : Met l yX4_wear wsX4_wear ({ frames := 5, cells := 0, slots := 0, locals := 140 }) (va_Pc [.ref (L 106), .int p0, .int p1, .int p2] (PW SS g base n L (mw g L y ch r0))) (va_Qi (fun (_ : Int32) (u : St) => u 0 0 0 = 1) (fun (u : St) t => PB g n L (mw g L u ch r0) t) (fun q => base ≤ q)) 0 0 (fun q => base ≤ q) := by
  refine Met.ofW (cc := cX4_wear) (maxL := 4) (ret := (some .int)) (by decide) rfl ?_
  intro p e s m args below meth c s₁ B hml hv
  obtain ⟨rfl, hPW⟩ := hv
  obtain ⟨hbs, hJ, hP, hK, hE⟩ := id hPW
  have hx := B.exec
  have hb := B.bytes
  have hr := B.returns
  have hts := atoms_spec (ws := wsX4_wear) B.pre
  have hown : s.vm.findClass RX4 = some m.cls := findClass_of_methodNamed B.named
  have hlocks := B.notSynchronized
  have hS : va_S (fun q : Nat => base ≤ q) s.heap s.heap [] := va_S.rf
  have hl := lv_entry ([.ref (L 106), .int p0, .int p1, .int p2]) (n := 4) (Nat.le_of_ble_eq_true rfl)
  rw [lg_entry_eq]
  generalize (lg_sl ([.ref (L 106), .int p0, .int p1, .int p2]) ++ List.replicate (4 - (lg_sl ([.ref (L 106), .int p0, .int p1, .int p2])).length) Slot.unset).toArray = ls at hl ⊢
  have hl : lv_has ls 4 [(0, .ref (L 106)), (1, .int p0), (2, .int p1), (3, .int p2)] := hl
  have iX4 : ∀ w ∈ wsX40, w ∈ wsX4_wear := by decide +kernel
  refine lv_aload_n hx hb dX4_wear_0 rfl (lv_at hl 0 rfl) ?_
  refine lv_iconst (v := 0) hx hb dX4_wear_1 (by decide) ?_
  refine wx_put (D := g.1) (cl := vwCl) (ci := 6) (v := .int 0) (ty := .int) (w' := mw g L (st y 0 0 0 0) ch r0) (C := RX4) (T := TX4) (N := 22) hx hb hts iX4 tyX4 tyX4_ok nmX4 hown hK hP hJ hS (106) (by omega) mw_o rfl 0 (by decide) (hts (.fieldLink RX4 64 "FerroDeskModel" "thrown" "I") (by decide +kernel)) (fun _ h9 => h9) rfl (by decide +kernel) rfl rfl (Nat.le_of_ble_eq_true rfl) dX4_wear_2 (mw_put (r := 0) (i := 0) (j := 0) rfl (by omega) (mk_o.trans (by simp [mF, st]))) (fun H locs hP hS => ?_)
  refine lv_aload_n hx hb dX4_wear_5 rfl (lv_at hl 0 rfl) ?_
  refine lv_aload_n hx hb dX4_wear_6 rfl (lv_at hl 0 rfl) ?_
  refine lv_iload_n hx hb dX4_wear_7 rfl (lv_at hl 1 rfl) ?_
  refine lv_iload_n hx hb dX4_wear_8 rfl (lv_at hl 2 rfl) ?_
  refine lv_iload_n hx hb dX4_wear_9 rfl (lv_at hl 3 rfl) ?_
  refine wx_calli (va_runV (As := [.int p0, .int p1, .int p2]) (rest := [.ref (L 106)]) ⟨hx, hb, hml, hown, hts⟩ (k_noCell l hst g base n L (by omega) (st y 0 0 0 0) ch r0 (st_ne (by decide) |>.trans hy3) p0 p1 p2) (cwV 3 hts gX4_wear_X4_noCell rfl rfl rfl (by decide +kernel) ⟨Nat.le_of_ble_eq_true rfl, Nat.le_of_ble_eq_true rfl⟩) (hPW.preV hP hS (ci := 6) rfl (by omega) mw_o) rfl rfl hl.1 rfl (lv_room (Nat.le_of_ble_eq_true rfl)) dX4_wear_10 ⟨Nat.le_of_ble_eq_true rfl, Nat.le_of_ble_eq_true rfl⟩) hS (fun r10 u10 H locs h10 hP hS => ?_)
  obtain ⟨rfl, e9⟩ := h10
  have e9 := e9.symm
  subst e9
  refine lv_iconst (v := 1) hx hb dX4_wear_13 (by decide) ?_
  refine wx_calli (va_runV (As := [.int 1, .int 1]) (rest := []) ⟨hx, hb, hml, hown, hts⟩ (k_fails l hst g base n L (by omega) (st y 0 0 0 0) ch r0 st_eq 1 1 (by decide)) (cwV 2 hts gX4_wear_X4_fails rfl rfl rfl (by decide +kernel) ⟨Nat.le_of_ble_eq_true rfl, Nat.le_of_ble_eq_true rfl⟩) (hPW.preV hP hS (ci := 6) rfl (by omega) mw_o) rfl rfl hl.1 rfl (lv_room (Nat.le_of_ble_eq_true rfl)) dX4_wear_14 ⟨Nat.le_of_ble_eq_true rfl, Nat.le_of_ble_eq_true rfl⟩) hS (fun r14 u14 H locs h14 hP hS => ?_)
  obtain ⟨rfl, -, e9⟩ : r14 = 1 ∧ True ∧ u14 = st (st y 0 0 0 0) 0 0 0 1 := by rcases h14 with ⟨-, b, -⟩ | ⟨a, -, b⟩; exact absurd b (by decide); exact ⟨a, trivial, b⟩
  have e9 := e9.symm
  subst e9
  refine lv_if_eq (tgt := 24) hx hb dX4_wear_17 (by decide) (fun c17 => absurd c17 (by decide)) (fun c17 => ?_)
  refine lv_iconst (v := 0) hx hb dX4_wear_20 (by decide) ?_
  refine lv_goto (tgt := 40) hx hb dX4_wear_21 (by decide) ?_
  refine W.widen (k := 0) (n := 0) (Nat.le_of_ble_eq_true rfl) (Nat.le_of_ble_eq_true rfl) ?_
  exact W.iret (v := 0) hx hb hr (fun t ht hW => ⟨⟨0, (st (st y 0 0 0 0) 0 0 0 1), rfl, st_eq, PB.mk9 hP ht⟩, hS.F ht⟩) hS.2.2 dX4_wear_40

set_option maxHeartbeats 4000000 in
set_option maxRecDepth 100000 in
theorem km_shows (l : Launch) (hst : l.stackTraces = false) (g : gE) (base n : Nat) (L : Nat → Nat) (hn : 123 ≤ n) (y : St) (ch : Int64) (r0 : Nat → va_E) (hy1 : y 1 0 0 = nI 0) (hy2 : y 2 0 0 = 2) (hy3 : y 3 0 0 = nI 0) (hy4 : y 4 0 0 = nI 0) (p0 : Int32) : Met l yX4_shows wsX4_shows ({ frames := 5, cells := 0, slots := 0, locals := 140 }) (va_Pc [.ref (L 106), .int p0] (PW SS g base n L (mw g L y ch r0))) (va_Qi (fun (_ : Int32) (u : St) => u 0 0 0 = 1) (fun (u : St) t => PB g n L (mw g L u ch r0) t) (fun q => base ≤ q)) 0 0 (fun q => base ≤ q) := by
  refine Met.ofW (cc := cX4_shows) (maxL := 2) (ret := (some .int)) (by decide) rfl ?_
  intro p e s m args below meth c s₁ B hml hv
  obtain ⟨rfl, hPW⟩ := hv
  obtain ⟨hbs, hJ, hP, hK, hE⟩ := id hPW
  have hx := B.exec
  have hb := B.bytes
  have hr := B.returns
  have hts := atoms_spec (ws := wsX4_shows) B.pre
  have hown : s.vm.findClass RX4 = some m.cls := findClass_of_methodNamed B.named
  have hlocks := B.notSynchronized
  have hS : va_S (fun q : Nat => base ≤ q) s.heap s.heap [] := va_S.rf
  have hl := lv_entry ([.ref (L 106), .int p0]) (n := 2) (Nat.le_of_ble_eq_true rfl)
  rw [lg_entry_eq]
  generalize (lg_sl ([.ref (L 106), .int p0]) ++ List.replicate (2 - (lg_sl ([.ref (L 106), .int p0])).length) Slot.unset).toArray = ls at hl ⊢
  have hl : lv_has ls 2 [(0, .ref (L 106)), (1, .int p0)] := hl
  have iX4 : ∀ w ∈ wsX40, w ∈ wsX4_shows := by decide +kernel
  refine lv_aload_n hx hb dX4_shows_0 rfl (lv_at hl 0 rfl) ?_
  refine lv_iconst (v := 0) hx hb dX4_shows_1 (by decide) ?_
  refine wx_put (D := g.1) (cl := vwCl) (ci := 6) (v := .int 0) (ty := .int) (w' := mw g L (st y 0 0 0 0) ch r0) (C := RX4) (T := TX4) (N := 22) hx hb hts iX4 tyX4 tyX4_ok nmX4 hown hK hP hJ hS (106) (by omega) mw_o rfl 0 (by decide) (hts (.fieldLink RX4 64 "FerroDeskModel" "thrown" "I") (by decide +kernel)) (fun _ h9 => h9) rfl (by decide +kernel) rfl rfl (Nat.le_of_ble_eq_true rfl) dX4_shows_2 (mw_put (r := 0) (i := 0) (j := 0) rfl (by omega) (mk_o.trans (by simp [mF, st]))) (fun H locs hP hS => ?_)
  refine lv_aload_n hx hb dX4_shows_5 rfl (lv_at hl 0 rfl) ?_
  refine lv_aload_n hx hb dX4_shows_6 rfl (lv_at hl 0 rfl) ?_
  refine lv_iload_n hx hb dX4_shows_7 rfl (lv_at hl 1 rfl) ?_
  refine wx_calli (va_runV (As := [.int p0]) (rest := [.ref (L 106)]) ⟨hx, hb, hml, hown, hts⟩ (k_noBoard l hst g base n L (by omega) (st y 0 0 0 0) ch r0 (st_ne (by decide) |>.trans hy3) p0) (cwV 1 hts gX4_shows_X4_noBoard rfl rfl rfl (by decide +kernel) ⟨Nat.le_of_ble_eq_true rfl, Nat.le_of_ble_eq_true rfl⟩) (hPW.preV hP hS (ci := 6) rfl (by omega) mw_o) rfl rfl hl.1 rfl (lv_room (Nat.le_of_ble_eq_true rfl)) dX4_shows_8 ⟨Nat.le_of_ble_eq_true rfl, Nat.le_of_ble_eq_true rfl⟩) hS (fun r8 u8 H locs h8 hP hS => ?_)
  obtain ⟨rfl, e9⟩ := h8
  have e9 := e9.symm
  subst e9
  refine lv_iconst (v := 1) hx hb dX4_shows_11 (by decide) ?_
  refine wx_calli (va_runV (As := [.int 1, .int 1]) (rest := []) ⟨hx, hb, hml, hown, hts⟩ (k_fails l hst g base n L (by omega) (st y 0 0 0 0) ch r0 st_eq 1 1 (by decide)) (cwV 2 hts gX4_shows_X4_fails rfl rfl rfl (by decide +kernel) ⟨Nat.le_of_ble_eq_true rfl, Nat.le_of_ble_eq_true rfl⟩) (hPW.preV hP hS (ci := 6) rfl (by omega) mw_o) rfl rfl hl.1 rfl (lv_room (Nat.le_of_ble_eq_true rfl)) dX4_shows_12 ⟨Nat.le_of_ble_eq_true rfl, Nat.le_of_ble_eq_true rfl⟩) hS (fun r12 u12 H locs h12 hP hS => ?_)
  obtain ⟨rfl, -, e9⟩ : r12 = 1 ∧ True ∧ u12 = st (st y 0 0 0 0) 0 0 0 1 := by rcases h12 with ⟨-, b, -⟩ | ⟨a, -, b⟩; exact absurd b (by decide); exact ⟨a, trivial, b⟩
  have e9 := e9.symm
  subst e9
  refine lv_if_eq (tgt := 22) hx hb dX4_shows_15 (by decide) (fun c15 => absurd c15 (by decide)) (fun c15 => ?_)
  refine lv_iconst (v := 0) hx hb dX4_shows_18 (by decide) ?_
  refine lv_goto (tgt := 28) hx hb dX4_shows_19 (by decide) ?_
  refine W.widen (k := 0) (n := 0) (Nat.le_of_ble_eq_true rfl) (Nat.le_of_ble_eq_true rfl) ?_
  exact W.iret (v := 0) hx hb hr (fun t ht hW => ⟨⟨0, (st (st y 0 0 0 0) 0 0 0 1), rfl, st_eq, PB.mk9 hP ht⟩, hS.F ht⟩) hS.2.2 dX4_shows_28

set_option maxHeartbeats 4000000 in
set_option maxRecDepth 100000 in
theorem km_shift (l : Launch) (hst : l.stackTraces = false) (g : gE) (base n : Nat) (L : Nat → Nat) (hn : 123 ≤ n) (y : St) (ch : Int64) (r0 : Nat → va_E) (hy1 : y 1 0 0 = nI 0) (hy2 : y 2 0 0 = 2) (hy3 : y 3 0 0 = nI 0) (hy4 : y 4 0 0 = nI 0) (p0 : Int32) : Met l yX4_shift wsX4_shift ({ frames := 5, cells := 0, slots := 0, locals := 140 }) (va_Pc [.ref (L 106), .int p0] (PW SS g base n L (mw g L y ch r0))) (va_Qi (fun (_ : Int32) (u : St) => u 0 0 0 = 1) (fun (u : St) t => PB g n L (mw g L u ch r0) t) (fun q => base ≤ q)) 0 0 (fun q => base ≤ q) := by
  refine Met.ofW (cc := cX4_shift) (maxL := 2) (ret := (some .int)) (by decide) rfl ?_
  intro p e s m args below meth c s₁ B hml hv
  obtain ⟨rfl, hPW⟩ := hv
  obtain ⟨hbs, hJ, hP, hK, hE⟩ := id hPW
  have hx := B.exec
  have hb := B.bytes
  have hr := B.returns
  have hts := atoms_spec (ws := wsX4_shift) B.pre
  have hown : s.vm.findClass RX4 = some m.cls := findClass_of_methodNamed B.named
  have hlocks := B.notSynchronized
  have hS : va_S (fun q : Nat => base ≤ q) s.heap s.heap [] := va_S.rf
  have hl := lv_entry ([.ref (L 106), .int p0]) (n := 2) (Nat.le_of_ble_eq_true rfl)
  rw [lg_entry_eq]
  generalize (lg_sl ([.ref (L 106), .int p0]) ++ List.replicate (2 - (lg_sl ([.ref (L 106), .int p0])).length) Slot.unset).toArray = ls at hl ⊢
  have hl : lv_has ls 2 [(0, .ref (L 106)), (1, .int p0)] := hl
  have iX4 : ∀ w ∈ wsX40, w ∈ wsX4_shift := by decide +kernel
  refine lv_aload_n hx hb dX4_shift_0 rfl (lv_at hl 0 rfl) ?_
  refine lv_iconst (v := 0) hx hb dX4_shift_1 (by decide) ?_
  refine wx_put (D := g.1) (cl := vwCl) (ci := 6) (v := .int 0) (ty := .int) (w' := mw g L (st y 0 0 0 0) ch r0) (C := RX4) (T := TX4) (N := 22) hx hb hts iX4 tyX4 tyX4_ok nmX4 hown hK hP hJ hS (106) (by omega) mw_o rfl 0 (by decide) (hts (.fieldLink RX4 64 "FerroDeskModel" "thrown" "I") (by decide +kernel)) (fun _ h9 => h9) rfl (by decide +kernel) rfl rfl (Nat.le_of_ble_eq_true rfl) dX4_shift_2 (mw_put (r := 0) (i := 0) (j := 0) rfl (by omega) (mk_o.trans (by simp [mF, st]))) (fun H locs hP hS => ?_)
  refine lv_aload_n hx hb dX4_shift_5 rfl (lv_at hl 0 rfl) ?_
  refine lv_aload_n hx hb dX4_shift_6 rfl (lv_at hl 0 rfl) ?_
  refine lv_iload_n hx hb dX4_shift_7 rfl (lv_at hl 1 rfl) ?_
  refine wx_calli (va_runV (As := [.int p0]) (rest := [.ref (L 106)]) ⟨hx, hb, hml, hown, hts⟩ (k_noBoard l hst g base n L (by omega) (st y 0 0 0 0) ch r0 (st_ne (by decide) |>.trans hy3) p0) (cwV 1 hts gX4_shift_X4_noBoard rfl rfl rfl (by decide +kernel) ⟨Nat.le_of_ble_eq_true rfl, Nat.le_of_ble_eq_true rfl⟩) (hPW.preV hP hS (ci := 6) rfl (by omega) mw_o) rfl rfl hl.1 rfl (lv_room (Nat.le_of_ble_eq_true rfl)) dX4_shift_8 ⟨Nat.le_of_ble_eq_true rfl, Nat.le_of_ble_eq_true rfl⟩) hS (fun r8 u8 H locs h8 hP hS => ?_)
  obtain ⟨rfl, e9⟩ := h8
  have e9 := e9.symm
  subst e9
  refine lv_iconst (v := 1) hx hb dX4_shift_11 (by decide) ?_
  refine wx_calli (va_runV (As := [.int 1, .int 1]) (rest := []) ⟨hx, hb, hml, hown, hts⟩ (k_fails l hst g base n L (by omega) (st y 0 0 0 0) ch r0 st_eq 1 1 (by decide)) (cwV 2 hts gX4_shift_X4_fails rfl rfl rfl (by decide +kernel) ⟨Nat.le_of_ble_eq_true rfl, Nat.le_of_ble_eq_true rfl⟩) (hPW.preV hP hS (ci := 6) rfl (by omega) mw_o) rfl rfl hl.1 rfl (lv_room (Nat.le_of_ble_eq_true rfl)) dX4_shift_12 ⟨Nat.le_of_ble_eq_true rfl, Nat.le_of_ble_eq_true rfl⟩) hS (fun r12 u12 H locs h12 hP hS => ?_)
  obtain ⟨rfl, -, e9⟩ : r12 = 1 ∧ True ∧ u12 = st (st y 0 0 0 0) 0 0 0 1 := by rcases h12 with ⟨-, b, -⟩ | ⟨a, -, b⟩; exact absurd b (by decide); exact ⟨a, trivial, b⟩
  have e9 := e9.symm
  subst e9
  refine lv_if_eq (tgt := 22) hx hb dX4_shift_15 (by decide) (fun c15 => absurd c15 (by decide)) (fun c15 => ?_)
  refine lv_iconst (v := 0) hx hb dX4_shift_18 (by decide) ?_
  refine lv_goto (tgt := 28) hx hb dX4_shift_19 (by decide) ?_
  refine W.widen (k := 0) (n := 0) (Nat.le_of_ble_eq_true rfl) (Nat.le_of_ble_eq_true rfl) ?_
  exact W.iret (v := 0) hx hb hr (fun t ht hW => ⟨⟨0, (st (st y 0 0 0 0) 0 0 0 1), rfl, st_eq, PB.mk9 hP ht⟩, hS.F ht⟩) hS.2.2 dX4_shift_28

set_option maxHeartbeats 4000000 in
set_option maxRecDepth 100000 in
theorem km_worst (l : Launch) (hst : l.stackTraces = false) (g : gE) (base n : Nat) (L : Nat → Nat) (hn : 123 ≤ n) (y : St) (ch : Int64) (r0 : Nat → va_E) (hy1 : y 1 0 0 = nI 0) (hy2 : y 2 0 0 = 2) (hy3 : y 3 0 0 = nI 0) (hy4 : y 4 0 0 = nI 0) (p0 : Int32) : Met l yX4_worst wsX4_worst ({ frames := 5, cells := 0, slots := 0, locals := 140 }) (va_Pc [.ref (L 106), .int p0] (PW SS g base n L (mw g L y ch r0))) (va_Qi (fun (_ : Int32) (u : St) => u 0 0 0 = 1) (fun (u : St) t => PB g n L (mw g L u ch r0) t) (fun q => base ≤ q)) 0 0 (fun q => base ≤ q) := by
  refine Met.ofW (cc := cX4_worst) (maxL := 4) (ret := (some .int)) (by decide) rfl ?_
  intro p e s m args below meth c s₁ B hml hv
  obtain ⟨rfl, hPW⟩ := hv
  obtain ⟨hbs, hJ, hP, hK, hE⟩ := id hPW
  have hx := B.exec
  have hb := B.bytes
  have hr := B.returns
  have hts := atoms_spec (ws := wsX4_worst) B.pre
  have hown : s.vm.findClass RX4 = some m.cls := findClass_of_methodNamed B.named
  have hlocks := B.notSynchronized
  have hS : va_S (fun q : Nat => base ≤ q) s.heap s.heap [] := va_S.rf
  have hl := lv_entry ([.ref (L 106), .int p0]) (n := 4) (Nat.le_of_ble_eq_true rfl)
  rw [lg_entry_eq]
  generalize (lg_sl ([.ref (L 106), .int p0]) ++ List.replicate (4 - (lg_sl ([.ref (L 106), .int p0])).length) Slot.unset).toArray = ls at hl ⊢
  have hl : lv_has ls 4 [(0, .ref (L 106)), (1, .int p0)] := hl
  have iX4 : ∀ w ∈ wsX40, w ∈ wsX4_worst := by decide +kernel
  refine lv_aload_n hx hb dX4_worst_0 rfl (lv_at hl 0 rfl) ?_
  refine lv_iconst (v := 0) hx hb dX4_worst_1 (by decide) ?_
  refine wx_put (D := g.1) (cl := vwCl) (ci := 6) (v := .int 0) (ty := .int) (w' := mw g L (st y 0 0 0 0) ch r0) (C := RX4) (T := TX4) (N := 22) hx hb hts iX4 tyX4 tyX4_ok nmX4 hown hK hP hJ hS (106) (by omega) mw_o rfl 0 (by decide) (hts (.fieldLink RX4 64 "FerroDeskModel" "thrown" "I") (by decide +kernel)) (fun _ h9 => h9) rfl (by decide +kernel) rfl rfl (Nat.le_of_ble_eq_true rfl) dX4_worst_2 (mw_put (r := 0) (i := 0) (j := 0) rfl (by omega) (mk_o.trans (by simp [mF, st]))) (fun H locs hP hS => ?_)
  refine lv_aload_n hx hb dX4_worst_5 rfl (lv_at hl 0 rfl) ?_
  refine lv_aload_n hx hb dX4_worst_6 rfl (lv_at hl 0 rfl) ?_
  refine lv_iload_n hx hb dX4_worst_7 rfl (lv_at hl 1 rfl) ?_
  refine wx_calli (va_runV (As := [.int p0]) (rest := [.ref (L 106)]) ⟨hx, hb, hml, hown, hts⟩ (k_noBoard l hst g base n L (by omega) (st y 0 0 0 0) ch r0 (st_ne (by decide) |>.trans hy3) p0) (cwV 1 hts gX4_worst_X4_noBoard rfl rfl rfl (by decide +kernel) ⟨Nat.le_of_ble_eq_true rfl, Nat.le_of_ble_eq_true rfl⟩) (hPW.preV hP hS (ci := 6) rfl (by omega) mw_o) rfl rfl hl.1 rfl (lv_room (Nat.le_of_ble_eq_true rfl)) dX4_worst_8 ⟨Nat.le_of_ble_eq_true rfl, Nat.le_of_ble_eq_true rfl⟩) hS (fun r8 u8 H locs h8 hP hS => ?_)
  obtain ⟨rfl, e9⟩ := h8
  have e9 := e9.symm
  subst e9
  refine lv_iconst (v := 1) hx hb dX4_worst_11 (by decide) ?_
  refine wx_calli (va_runV (As := [.int 1, .int 1]) (rest := []) ⟨hx, hb, hml, hown, hts⟩ (k_fails l hst g base n L (by omega) (st y 0 0 0 0) ch r0 st_eq 1 1 (by decide)) (cwV 2 hts gX4_worst_X4_fails rfl rfl rfl (by decide +kernel) ⟨Nat.le_of_ble_eq_true rfl, Nat.le_of_ble_eq_true rfl⟩) (hPW.preV hP hS (ci := 6) rfl (by omega) mw_o) rfl rfl hl.1 rfl (lv_room (Nat.le_of_ble_eq_true rfl)) dX4_worst_12 ⟨Nat.le_of_ble_eq_true rfl, Nat.le_of_ble_eq_true rfl⟩) hS (fun r12 u12 H locs h12 hP hS => ?_)
  obtain ⟨rfl, -, e9⟩ : r12 = 1 ∧ True ∧ u12 = st (st y 0 0 0 0) 0 0 0 1 := by rcases h12 with ⟨-, b, -⟩ | ⟨a, -, b⟩; exact absurd b (by decide); exact ⟨a, trivial, b⟩
  have e9 := e9.symm
  subst e9
  refine lv_if_eq (tgt := 20) hx hb dX4_worst_15 (by decide) (fun c15 => absurd c15 (by decide)) (fun c15 => ?_)
  refine lv_iconst (v := 0) hx hb dX4_worst_18 (by decide) ?_
  refine W.widen (k := 0) (n := 0) (Nat.le_of_ble_eq_true rfl) (Nat.le_of_ble_eq_true rfl) ?_
  exact W.iret (v := 0) hx hb hr (fun t ht hW => ⟨⟨0, (st (st y 0 0 0 0) 0 0 0 1), rfl, st_eq, PB.mk9 hP ht⟩, hS.F ht⟩) hS.2.2 dX4_worst_19

set_option maxHeartbeats 4000000 in
set_option maxRecDepth 100000 in
theorem km_pass (l : Launch) (hst : l.stackTraces = false) (g : gE) (base n : Nat) (L : Nat → Nat) (hn : 123 ≤ n) (y : St) (ch : Int64) (r0 : Nat → va_E) (hy1 : y 1 0 0 = nI 0) (hy2 : y 2 0 0 = 2) (hy3 : y 3 0 0 = nI 0) (hy4 : y 4 0 0 = nI 0) (p0 p1 : Int32) : Met l yX4_pass wsX4_pass ({ frames := 5, cells := 0, slots := 0, locals := 140 }) (va_Pc [.ref (L 106), .int p0, .int p1] (PW SS g base n L (mw g L y ch r0))) (va_Qi (fun (_ : Int32) (u : St) => u 0 0 0 = 1) (fun (u : St) t => PB g n L (mw g L u ch r0) t) (fun q => base ≤ q)) 0 0 (fun q => base ≤ q) := by
  refine Met.ofW (cc := cX4_pass) (maxL := 4) (ret := (some .int)) (by decide) rfl ?_
  intro p e s m args below meth c s₁ B hml hv
  obtain ⟨rfl, hPW⟩ := hv
  obtain ⟨hbs, hJ, hP, hK, hE⟩ := id hPW
  have hx := B.exec
  have hb := B.bytes
  have hr := B.returns
  have hts := atoms_spec (ws := wsX4_pass) B.pre
  have hown : s.vm.findClass RX4 = some m.cls := findClass_of_methodNamed B.named
  have hlocks := B.notSynchronized
  have hS : va_S (fun q : Nat => base ≤ q) s.heap s.heap [] := va_S.rf
  have hl := lv_entry ([.ref (L 106), .int p0, .int p1]) (n := 4) (Nat.le_of_ble_eq_true rfl)
  rw [lg_entry_eq]
  generalize (lg_sl ([.ref (L 106), .int p0, .int p1]) ++ List.replicate (4 - (lg_sl ([.ref (L 106), .int p0, .int p1])).length) Slot.unset).toArray = ls at hl ⊢
  have hl : lv_has ls 4 [(0, .ref (L 106)), (1, .int p0), (2, .int p1)] := hl
  have iX4 : ∀ w ∈ wsX40, w ∈ wsX4_pass := by decide +kernel
  refine lv_aload_n hx hb dX4_pass_0 rfl (lv_at hl 0 rfl) ?_
  refine lv_iconst (v := 0) hx hb dX4_pass_1 (by decide) ?_
  refine wx_put (D := g.1) (cl := vwCl) (ci := 6) (v := .int 0) (ty := .int) (w' := mw g L (st y 0 0 0 0) ch r0) (C := RX4) (T := TX4) (N := 22) hx hb hts iX4 tyX4 tyX4_ok nmX4 hown hK hP hJ hS (106) (by omega) mw_o rfl 0 (by decide) (hts (.fieldLink RX4 64 "FerroDeskModel" "thrown" "I") (by decide +kernel)) (fun _ h9 => h9) rfl (by decide +kernel) rfl rfl (Nat.le_of_ble_eq_true rfl) dX4_pass_2 (mw_put (r := 0) (i := 0) (j := 0) rfl (by omega) (mk_o.trans (by simp [mF, st]))) (fun H locs hP hS => ?_)
  refine lv_aload_n hx hb dX4_pass_5 rfl (lv_at hl 0 rfl) ?_
  refine lv_aload_n hx hb dX4_pass_6 rfl (lv_at hl 0 rfl) ?_
  refine lv_iload_n hx hb dX4_pass_7 rfl (lv_at hl 1 rfl) ?_
  refine wx_calli (va_runV (As := [.int p0]) (rest := [.ref (L 106)]) ⟨hx, hb, hml, hown, hts⟩ (k_noBoard l hst g base n L (by omega) (st y 0 0 0 0) ch r0 (st_ne (by decide) |>.trans hy3) p0) (cwV 1 hts gX4_pass_X4_noBoard rfl rfl rfl (by decide +kernel) ⟨Nat.le_of_ble_eq_true rfl, Nat.le_of_ble_eq_true rfl⟩) (hPW.preV hP hS (ci := 6) rfl (by omega) mw_o) rfl rfl hl.1 rfl (lv_room (Nat.le_of_ble_eq_true rfl)) dX4_pass_8 ⟨Nat.le_of_ble_eq_true rfl, Nat.le_of_ble_eq_true rfl⟩) hS (fun r8 u8 H locs h8 hP hS => ?_)
  obtain ⟨rfl, e9⟩ := h8
  have e9 := e9.symm
  subst e9
  refine lv_iconst (v := 1) hx hb dX4_pass_11 (by decide) ?_
  refine wx_calli (va_runV (As := [.int 1, .int 1]) (rest := []) ⟨hx, hb, hml, hown, hts⟩ (k_fails l hst g base n L (by omega) (st y 0 0 0 0) ch r0 st_eq 1 1 (by decide)) (cwV 2 hts gX4_pass_X4_fails rfl rfl rfl (by decide +kernel) ⟨Nat.le_of_ble_eq_true rfl, Nat.le_of_ble_eq_true rfl⟩) (hPW.preV hP hS (ci := 6) rfl (by omega) mw_o) rfl rfl hl.1 rfl (lv_room (Nat.le_of_ble_eq_true rfl)) dX4_pass_12 ⟨Nat.le_of_ble_eq_true rfl, Nat.le_of_ble_eq_true rfl⟩) hS (fun r12 u12 H locs h12 hP hS => ?_)
  obtain ⟨rfl, -, e9⟩ : r12 = 1 ∧ True ∧ u12 = st (st y 0 0 0 0) 0 0 0 1 := by rcases h12 with ⟨-, b, -⟩ | ⟨a, -, b⟩; exact absurd b (by decide); exact ⟨a, trivial, b⟩
  have e9 := e9.symm
  subst e9
  refine lv_if_ne (tgt := 52) hx hb dX4_pass_15 (by decide) (fun c15 => ?_) (fun c15 => absurd c15 (by decide))
  refine lv_iconst (v := 0) hx hb dX4_pass_52 (by decide) ?_
  refine W.widen (k := 0) (n := 0) (Nat.le_of_ble_eq_true rfl) (Nat.le_of_ble_eq_true rfl) ?_
  exact W.iret (v := 0) hx hb hr (fun t ht hW => ⟨⟨0, (st (st y 0 0 0 0) 0 0 0 1), rfl, st_eq, PB.mk9 hP ht⟩, hS.F ht⟩) hS.2.2 dX4_pass_53

set_option maxHeartbeats 4000000 in
set_option maxRecDepth 100000 in
theorem km_queue (l : Launch) (hst : l.stackTraces = false) (g : gE) (base n : Nat) (L : Nat → Nat) (hn : 123 ≤ n) (y : St) (ch : Int64) (r0 : Nat → va_E) (hy1 : y 1 0 0 = nI 0) (hy2 : y 2 0 0 = 2) (hy3 : y 3 0 0 = nI 0) (hy4 : y 4 0 0 = nI 0) (p0 p1 : Int32) : Met l yX4_queue wsX4_queue ({ frames := 5, cells := 0, slots := 0, locals := 140 }) (va_Pc [.ref (L 106), .int p0, .int p1] (PW SS g base n L (mw g L y ch r0))) (va_Qi (fun (_ : Int32) (u : St) => u 0 0 0 = 1) (fun (u : St) t => PB g n L (mw g L u ch r0) t) (fun q => base ≤ q)) 0 0 (fun q => base ≤ q) := by
  refine Met.ofW (cc := cX4_queue) (maxL := 4) (ret := (some .boolean)) (by decide) rfl ?_
  intro p e s m args below meth c s₁ B hml hv
  obtain ⟨rfl, hPW⟩ := hv
  obtain ⟨hbs, hJ, hP, hK, hE⟩ := id hPW
  have hx := B.exec
  have hb := B.bytes
  have hr := B.returns
  have hts := atoms_spec (ws := wsX4_queue) B.pre
  have hown : s.vm.findClass RX4 = some m.cls := findClass_of_methodNamed B.named
  have hlocks := B.notSynchronized
  have hS : va_S (fun q : Nat => base ≤ q) s.heap s.heap [] := va_S.rf
  have hl := lv_entry ([.ref (L 106), .int p0, .int p1]) (n := 4) (Nat.le_of_ble_eq_true rfl)
  rw [lg_entry_eq]
  generalize (lg_sl ([.ref (L 106), .int p0, .int p1]) ++ List.replicate (4 - (lg_sl ([.ref (L 106), .int p0, .int p1])).length) Slot.unset).toArray = ls at hl ⊢
  have hl : lv_has ls 4 [(0, .ref (L 106)), (1, .int p0), (2, .int p1)] := hl
  have iX4 : ∀ w ∈ wsX40, w ∈ wsX4_queue := by decide +kernel
  refine lv_aload_n hx hb dX4_queue_0 rfl (lv_at hl 0 rfl) ?_
  refine lv_iconst (v := 0) hx hb dX4_queue_1 (by decide) ?_
  refine wx_put (D := g.1) (cl := vwCl) (ci := 6) (v := .int 0) (ty := .int) (w' := mw g L (st y 0 0 0 0) ch r0) (C := RX4) (T := TX4) (N := 22) hx hb hts iX4 tyX4 tyX4_ok nmX4 hown hK hP hJ hS (106) (by omega) mw_o rfl 0 (by decide) (hts (.fieldLink RX4 64 "FerroDeskModel" "thrown" "I") (by decide +kernel)) (fun _ h9 => h9) rfl (by decide +kernel) rfl rfl (Nat.le_of_ble_eq_true rfl) dX4_queue_2 (mw_put (r := 0) (i := 0) (j := 0) rfl (by omega) (mk_o.trans (by simp [mF, st]))) (fun H locs hP hS => ?_)
  refine lv_aload_n hx hb dX4_queue_5 rfl (lv_at hl 0 rfl) ?_
  refine lv_aload_n hx hb dX4_queue_6 rfl (lv_at hl 0 rfl) ?_
  refine lv_iload_n hx hb dX4_queue_7 rfl (lv_at hl 1 rfl) ?_
  refine wx_calli (va_runV (As := [.int p0]) (rest := [.ref (L 106)]) ⟨hx, hb, hml, hown, hts⟩ (k_noNotice l hst g base n L (by omega) (st y 0 0 0 0) ch r0 (st_ne (by decide) |>.trans hy4) p0) (cwV 1 hts gX4_queue_X4_noNotice rfl rfl rfl (by decide +kernel) ⟨Nat.le_of_ble_eq_true rfl, Nat.le_of_ble_eq_true rfl⟩) (hPW.preV hP hS (ci := 6) rfl (by omega) mw_o) rfl rfl hl.1 rfl (lv_room (Nat.le_of_ble_eq_true rfl)) dX4_queue_8 ⟨Nat.le_of_ble_eq_true rfl, Nat.le_of_ble_eq_true rfl⟩) hS (fun r8 u8 H locs h8 hP hS => ?_)
  obtain ⟨rfl, e9⟩ := h8
  have e9 := e9.symm
  subst e9
  refine lv_iconst (v := 1) hx hb dX4_queue_11 (by decide) ?_
  refine wx_calli (va_runV (As := [.int 1, .int 1]) (rest := []) ⟨hx, hb, hml, hown, hts⟩ (k_fails l hst g base n L (by omega) (st y 0 0 0 0) ch r0 st_eq 1 1 (by decide)) (cwV 2 hts gX4_queue_X4_fails rfl rfl rfl (by decide +kernel) ⟨Nat.le_of_ble_eq_true rfl, Nat.le_of_ble_eq_true rfl⟩) (hPW.preV hP hS (ci := 6) rfl (by omega) mw_o) rfl rfl hl.1 rfl (lv_room (Nat.le_of_ble_eq_true rfl)) dX4_queue_12 ⟨Nat.le_of_ble_eq_true rfl, Nat.le_of_ble_eq_true rfl⟩) hS (fun r12 u12 H locs h12 hP hS => ?_)
  obtain ⟨rfl, -, e9⟩ : r12 = 1 ∧ True ∧ u12 = st (st y 0 0 0 0) 0 0 0 1 := by rcases h12 with ⟨-, b, -⟩ | ⟨a, -, b⟩; exact absurd b (by decide); exact ⟨a, trivial, b⟩
  have e9 := e9.symm
  subst e9
  refine lv_if_ne (tgt := 61) hx hb dX4_queue_15 (by decide) (fun c15 => ?_) (fun c15 => absurd c15 (by decide))
  refine lv_iconst (v := 0) hx hb dX4_queue_61 (by decide) ?_
  refine W.widen (k := 0) (n := 0) (Nat.le_of_ble_eq_true rfl) (Nat.le_of_ble_eq_true rfl) ?_
  exact W.zret (v := 0) hx hb hr (by decide) (fun t ht hW => ⟨⟨0, (st (st y 0 0 0 0) 0 0 0 1), rfl, st_eq, PB.mk9 hP ht⟩, hS.F ht⟩) hS.2.2 dX4_queue_62

set_option maxHeartbeats 4000000 in
set_option maxRecDepth 100000 in
theorem km_takeBack (l : Launch) (hst : l.stackTraces = false) (g : gE) (base n : Nat) (L : Nat → Nat) (hn : 123 ≤ n) (y : St) (ch : Int64) (r0 : Nat → va_E) (hy1 : y 1 0 0 = nI 0) (hy2 : y 2 0 0 = 2) (hy3 : y 3 0 0 = nI 0) (hy4 : y 4 0 0 = nI 0) (p0 p1 : Int32) : Met l yX4_takeBack wsX4_takeBack ({ frames := 5, cells := 0, slots := 0, locals := 140 }) (va_Pc [.ref (L 106), .int p0, .int p1] (PW SS g base n L (mw g L y ch r0))) (va_Qi (fun (_ : Int32) (u : St) => u 0 0 0 = 1) (fun (u : St) t => PB g n L (mw g L u ch r0) t) (fun q => base ≤ q)) 0 0 (fun q => base ≤ q) := by
  refine Met.ofW (cc := cX4_takeBack) (maxL := 5) (ret := (some .int)) (by decide) rfl ?_
  intro p e s m args below meth c s₁ B hml hv
  obtain ⟨rfl, hPW⟩ := hv
  obtain ⟨hbs, hJ, hP, hK, hE⟩ := id hPW
  have hx := B.exec
  have hb := B.bytes
  have hr := B.returns
  have hts := atoms_spec (ws := wsX4_takeBack) B.pre
  have hown : s.vm.findClass RX4 = some m.cls := findClass_of_methodNamed B.named
  have hlocks := B.notSynchronized
  have hS : va_S (fun q : Nat => base ≤ q) s.heap s.heap [] := va_S.rf
  have hl := lv_entry ([.ref (L 106), .int p0, .int p1]) (n := 5) (Nat.le_of_ble_eq_true rfl)
  rw [lg_entry_eq]
  generalize (lg_sl ([.ref (L 106), .int p0, .int p1]) ++ List.replicate (5 - (lg_sl ([.ref (L 106), .int p0, .int p1])).length) Slot.unset).toArray = ls at hl ⊢
  have hl : lv_has ls 5 [(0, .ref (L 106)), (1, .int p0), (2, .int p1)] := hl
  have iX4 : ∀ w ∈ wsX40, w ∈ wsX4_takeBack := by decide +kernel
  refine lv_aload_n hx hb dX4_takeBack_0 rfl (lv_at hl 0 rfl) ?_
  refine lv_iconst (v := 0) hx hb dX4_takeBack_1 (by decide) ?_
  refine wx_put (D := g.1) (cl := vwCl) (ci := 6) (v := .int 0) (ty := .int) (w' := mw g L (st y 0 0 0 0) ch r0) (C := RX4) (T := TX4) (N := 22) hx hb hts iX4 tyX4 tyX4_ok nmX4 hown hK hP hJ hS (106) (by omega) mw_o rfl 0 (by decide) (hts (.fieldLink RX4 64 "FerroDeskModel" "thrown" "I") (by decide +kernel)) (fun _ h9 => h9) rfl (by decide +kernel) rfl rfl (Nat.le_of_ble_eq_true rfl) dX4_takeBack_2 (mw_put (r := 0) (i := 0) (j := 0) rfl (by omega) (mk_o.trans (by simp [mF, st]))) (fun H locs hP hS => ?_)
  refine lv_aload_n hx hb dX4_takeBack_5 rfl (lv_at hl 0 rfl) ?_
  refine lv_aload_n hx hb dX4_takeBack_6 rfl (lv_at hl 0 rfl) ?_
  refine lv_iload_n hx hb dX4_takeBack_7 rfl (lv_at hl 1 rfl) ?_
  refine wx_calli (va_runV (As := [.int p0]) (rest := [.ref (L 106)]) ⟨hx, hb, hml, hown, hts⟩ (k_noNotice l hst g base n L (by omega) (st y 0 0 0 0) ch r0 (st_ne (by decide) |>.trans hy4) p0) (cwV 1 hts gX4_takeBack_X4_noNotice rfl rfl rfl (by decide +kernel) ⟨Nat.le_of_ble_eq_true rfl, Nat.le_of_ble_eq_true rfl⟩) (hPW.preV hP hS (ci := 6) rfl (by omega) mw_o) rfl rfl hl.1 rfl (lv_room (Nat.le_of_ble_eq_true rfl)) dX4_takeBack_8 ⟨Nat.le_of_ble_eq_true rfl, Nat.le_of_ble_eq_true rfl⟩) hS (fun r8 u8 H locs h8 hP hS => ?_)
  obtain ⟨rfl, e9⟩ := h8
  have e9 := e9.symm
  subst e9
  refine lv_iconst (v := 1) hx hb dX4_takeBack_11 (by decide) ?_
  refine wx_calli (va_runV (As := [.int 1, .int 1]) (rest := []) ⟨hx, hb, hml, hown, hts⟩ (k_fails l hst g base n L (by omega) (st y 0 0 0 0) ch r0 st_eq 1 1 (by decide)) (cwV 2 hts gX4_takeBack_X4_fails rfl rfl rfl (by decide +kernel) ⟨Nat.le_of_ble_eq_true rfl, Nat.le_of_ble_eq_true rfl⟩) (hPW.preV hP hS (ci := 6) rfl (by omega) mw_o) rfl rfl hl.1 rfl (lv_room (Nat.le_of_ble_eq_true rfl)) dX4_takeBack_12 ⟨Nat.le_of_ble_eq_true rfl, Nat.le_of_ble_eq_true rfl⟩) hS (fun r12 u12 H locs h12 hP hS => ?_)
  obtain ⟨rfl, -, e9⟩ : r12 = 1 ∧ True ∧ u12 = st (st y 0 0 0 0) 0 0 0 1 := by rcases h12 with ⟨-, b, -⟩ | ⟨a, -, b⟩; exact absurd b (by decide); exact ⟨a, trivial, b⟩
  have e9 := e9.symm
  subst e9
  refine lv_if_ne (tgt := 63) hx hb dX4_takeBack_15 (by decide) (fun c15 => ?_) (fun c15 => absurd c15 (by decide))
  refine lv_iconst (v := 0) hx hb dX4_takeBack_63 (by decide) ?_
  refine W.widen (k := 0) (n := 0) (Nat.le_of_ble_eq_true rfl) (Nat.le_of_ble_eq_true rfl) ?_
  exact W.iret (v := 0) hx hb hr (fun t ht hW => ⟨⟨0, (st (st y 0 0 0 0) 0 0 0 1), rfl, st_eq, PB.mk9 hP ht⟩, hS.F ht⟩) hS.2.2 dX4_takeBack_64

set_option maxHeartbeats 4000000 in
set_option maxRecDepth 100000 in
theorem km_mend (l : Launch) (hst : l.stackTraces = false) (g : gE) (base n : Nat) (L : Nat → Nat) (hn : 123 ≤ n) (y : St) (ch : Int64) (r0 : Nat → va_E) (hy1 : y 1 0 0 = nI 0) (hy2 : y 2 0 0 = 2) (hy3 : y 3 0 0 = nI 0) (hy4 : y 4 0 0 = nI 0) (p0 p1 : Int32) : Met l yX4_mend wsX4_mend ({ frames := 5, cells := 0, slots := 0, locals := 140 }) (va_Pc [.ref (L 106), .int p0, .int p1] (PW SS g base n L (mw g L y ch r0))) (va_Qi (fun (_ : Int32) (u : St) => u 0 0 0 = 1) (fun (u : St) t => PB g n L (mw g L u ch r0) t) (fun q => base ≤ q)) 0 0 (fun q => base ≤ q) := by
  refine Met.ofW (cc := cX4_mend) (maxL := 5) (ret := (some .int)) (by decide) rfl ?_
  intro p e s m args below meth c s₁ B hml hv
  obtain ⟨rfl, hPW⟩ := hv
  obtain ⟨hbs, hJ, hP, hK, hE⟩ := id hPW
  have hx := B.exec
  have hb := B.bytes
  have hr := B.returns
  have hts := atoms_spec (ws := wsX4_mend) B.pre
  have hown : s.vm.findClass RX4 = some m.cls := findClass_of_methodNamed B.named
  have hlocks := B.notSynchronized
  have hS : va_S (fun q : Nat => base ≤ q) s.heap s.heap [] := va_S.rf
  have hl := lv_entry ([.ref (L 106), .int p0, .int p1]) (n := 5) (Nat.le_of_ble_eq_true rfl)
  rw [lg_entry_eq]
  generalize (lg_sl ([.ref (L 106), .int p0, .int p1]) ++ List.replicate (5 - (lg_sl ([.ref (L 106), .int p0, .int p1])).length) Slot.unset).toArray = ls at hl ⊢
  have hl : lv_has ls 5 [(0, .ref (L 106)), (1, .int p0), (2, .int p1)] := hl
  have iX4 : ∀ w ∈ wsX40, w ∈ wsX4_mend := by decide +kernel
  refine lv_aload_n hx hb dX4_mend_0 rfl (lv_at hl 0 rfl) ?_
  refine lv_iconst (v := 0) hx hb dX4_mend_1 (by decide) ?_
  refine wx_put (D := g.1) (cl := vwCl) (ci := 6) (v := .int 0) (ty := .int) (w' := mw g L (st y 0 0 0 0) ch r0) (C := RX4) (T := TX4) (N := 22) hx hb hts iX4 tyX4 tyX4_ok nmX4 hown hK hP hJ hS (106) (by omega) mw_o rfl 0 (by decide) (hts (.fieldLink RX4 64 "FerroDeskModel" "thrown" "I") (by decide +kernel)) (fun _ h9 => h9) rfl (by decide +kernel) rfl rfl (Nat.le_of_ble_eq_true rfl) dX4_mend_2 (mw_put (r := 0) (i := 0) (j := 0) rfl (by omega) (mk_o.trans (by simp [mF, st]))) (fun H locs hP hS => ?_)
  refine lv_aload_n hx hb dX4_mend_5 rfl (lv_at hl 0 rfl) ?_
  refine lv_aload_n hx hb dX4_mend_6 rfl (lv_at hl 0 rfl) ?_
  refine lv_iload_n hx hb dX4_mend_7 rfl (lv_at hl 1 rfl) ?_
  refine wx_calli (va_runV (As := [.int p0]) (rest := [.ref (L 106)]) ⟨hx, hb, hml, hown, hts⟩ (k_noNotice l hst g base n L (by omega) (st y 0 0 0 0) ch r0 (st_ne (by decide) |>.trans hy4) p0) (cwV 1 hts gX4_mend_X4_noNotice rfl rfl rfl (by decide +kernel) ⟨Nat.le_of_ble_eq_true rfl, Nat.le_of_ble_eq_true rfl⟩) (hPW.preV hP hS (ci := 6) rfl (by omega) mw_o) rfl rfl hl.1 rfl (lv_room (Nat.le_of_ble_eq_true rfl)) dX4_mend_8 ⟨Nat.le_of_ble_eq_true rfl, Nat.le_of_ble_eq_true rfl⟩) hS (fun r8 u8 H locs h8 hP hS => ?_)
  obtain ⟨rfl, e9⟩ := h8
  have e9 := e9.symm
  subst e9
  refine lv_iconst (v := 1) hx hb dX4_mend_11 (by decide) ?_
  refine wx_calli (va_runV (As := [.int 1, .int 1]) (rest := []) ⟨hx, hb, hml, hown, hts⟩ (k_fails l hst g base n L (by omega) (st y 0 0 0 0) ch r0 st_eq 1 1 (by decide)) (cwV 2 hts gX4_mend_X4_fails rfl rfl rfl (by decide +kernel) ⟨Nat.le_of_ble_eq_true rfl, Nat.le_of_ble_eq_true rfl⟩) (hPW.preV hP hS (ci := 6) rfl (by omega) mw_o) rfl rfl hl.1 rfl (lv_room (Nat.le_of_ble_eq_true rfl)) dX4_mend_12 ⟨Nat.le_of_ble_eq_true rfl, Nat.le_of_ble_eq_true rfl⟩) hS (fun r12 u12 H locs h12 hP hS => ?_)
  obtain ⟨rfl, -, e9⟩ : r12 = 1 ∧ True ∧ u12 = st (st y 0 0 0 0) 0 0 0 1 := by rcases h12 with ⟨-, b, -⟩ | ⟨a, -, b⟩; exact absurd b (by decide); exact ⟨a, trivial, b⟩
  have e9 := e9.symm
  subst e9
  refine lv_if_ne (tgt := 45) hx hb dX4_mend_15 (by decide) (fun c15 => ?_) (fun c15 => absurd c15 (by decide))
  refine lv_iconst (v := 0) hx hb dX4_mend_45 (by decide) ?_
  refine W.widen (k := 0) (n := 0) (Nat.le_of_ble_eq_true rfl) (Nat.le_of_ble_eq_true rfl) ?_
  exact W.iret (v := 0) hx hb hr (fun t ht hW => ⟨⟨0, (st (st y 0 0 0 0) 0 0 0 1), rfl, st_eq, PB.mk9 hP ht⟩, hS.F ht⟩) hS.2.2 dX4_mend_46

set_option maxHeartbeats 4000000 in
set_option maxRecDepth 100000 in
theorem km_readers (l : Launch) (hst : l.stackTraces = false) (g : gE) (base n : Nat) (L : Nat → Nat) (hn : 123 ≤ n) (y : St) (ch : Int64) (r0 : Nat → va_E) (hy1 : y 1 0 0 = nI 0) (hy2 : y 2 0 0 = 2) (hy3 : y 3 0 0 = nI 0) (hy4 : y 4 0 0 = nI 0) (p0 p1 : Int32) : Met l yX4_readers wsX4_readers ({ frames := 5, cells := 0, slots := 0, locals := 140 }) (va_Pc [.ref (L 106), .int p0, .int p1] (PW SS g base n L (mw g L y ch r0))) (va_Qi (fun (_ : Int32) (u : St) => u 0 0 0 = 1) (fun (u : St) t => PB g n L (mw g L u ch r0) t) (fun q => base ≤ q)) 0 0 (fun q => base ≤ q) := by
  refine Met.ofW (cc := cX4_readers) (maxL := 3) (ret := (some .int)) (by decide) rfl ?_
  intro p e s m args below meth c s₁ B hml hv
  obtain ⟨rfl, hPW⟩ := hv
  obtain ⟨hbs, hJ, hP, hK, hE⟩ := id hPW
  have hx := B.exec
  have hb := B.bytes
  have hr := B.returns
  have hts := atoms_spec (ws := wsX4_readers) B.pre
  have hown : s.vm.findClass RX4 = some m.cls := findClass_of_methodNamed B.named
  have hlocks := B.notSynchronized
  have hS : va_S (fun q : Nat => base ≤ q) s.heap s.heap [] := va_S.rf
  have hl := lv_entry ([.ref (L 106), .int p0, .int p1]) (n := 3) (Nat.le_of_ble_eq_true rfl)
  rw [lg_entry_eq]
  generalize (lg_sl ([.ref (L 106), .int p0, .int p1]) ++ List.replicate (3 - (lg_sl ([.ref (L 106), .int p0, .int p1])).length) Slot.unset).toArray = ls at hl ⊢
  have hl : lv_has ls 3 [(0, .ref (L 106)), (1, .int p0), (2, .int p1)] := hl
  have iX4 : ∀ w ∈ wsX40, w ∈ wsX4_readers := by decide +kernel
  refine lv_aload_n hx hb dX4_readers_0 rfl (lv_at hl 0 rfl) ?_
  refine lv_iconst (v := 0) hx hb dX4_readers_1 (by decide) ?_
  refine wx_put (D := g.1) (cl := vwCl) (ci := 6) (v := .int 0) (ty := .int) (w' := mw g L (st y 0 0 0 0) ch r0) (C := RX4) (T := TX4) (N := 22) hx hb hts iX4 tyX4 tyX4_ok nmX4 hown hK hP hJ hS (106) (by omega) mw_o rfl 0 (by decide) (hts (.fieldLink RX4 64 "FerroDeskModel" "thrown" "I") (by decide +kernel)) (fun _ h9 => h9) rfl (by decide +kernel) rfl rfl (Nat.le_of_ble_eq_true rfl) dX4_readers_2 (mw_put (r := 0) (i := 0) (j := 0) rfl (by omega) (mk_o.trans (by simp [mF, st]))) (fun H locs hP hS => ?_)
  refine lv_aload_n hx hb dX4_readers_5 rfl (lv_at hl 0 rfl) ?_
  refine lv_aload_n hx hb dX4_readers_6 rfl (lv_at hl 0 rfl) ?_
  refine lv_iload_n hx hb dX4_readers_7 rfl (lv_at hl 1 rfl) ?_
  refine wx_calli (va_runV (As := [.int p0]) (rest := [.ref (L 106)]) ⟨hx, hb, hml, hown, hts⟩ (k_noNotice l hst g base n L (by omega) (st y 0 0 0 0) ch r0 (st_ne (by decide) |>.trans hy4) p0) (cwV 1 hts gX4_readers_X4_noNotice rfl rfl rfl (by decide +kernel) ⟨Nat.le_of_ble_eq_true rfl, Nat.le_of_ble_eq_true rfl⟩) (hPW.preV hP hS (ci := 6) rfl (by omega) mw_o) rfl rfl hl.1 rfl (lv_room (Nat.le_of_ble_eq_true rfl)) dX4_readers_8 ⟨Nat.le_of_ble_eq_true rfl, Nat.le_of_ble_eq_true rfl⟩) hS (fun r8 u8 H locs h8 hP hS => ?_)
  obtain ⟨rfl, e9⟩ := h8
  have e9 := e9.symm
  subst e9
  refine lv_iconst (v := 1) hx hb dX4_readers_11 (by decide) ?_
  refine wx_calli (va_runV (As := [.int 1, .int 1]) (rest := []) ⟨hx, hb, hml, hown, hts⟩ (k_fails l hst g base n L (by omega) (st y 0 0 0 0) ch r0 st_eq 1 1 (by decide)) (cwV 2 hts gX4_readers_X4_fails rfl rfl rfl (by decide +kernel) ⟨Nat.le_of_ble_eq_true rfl, Nat.le_of_ble_eq_true rfl⟩) (hPW.preV hP hS (ci := 6) rfl (by omega) mw_o) rfl rfl hl.1 rfl (lv_room (Nat.le_of_ble_eq_true rfl)) dX4_readers_12 ⟨Nat.le_of_ble_eq_true rfl, Nat.le_of_ble_eq_true rfl⟩) hS (fun r12 u12 H locs h12 hP hS => ?_)
  obtain ⟨rfl, -, e9⟩ : r12 = 1 ∧ True ∧ u12 = st (st y 0 0 0 0) 0 0 0 1 := by rcases h12 with ⟨-, b, -⟩ | ⟨a, -, b⟩; exact absurd b (by decide); exact ⟨a, trivial, b⟩
  have e9 := e9.symm
  subst e9
  refine lv_if_ne (tgt := 30) hx hb dX4_readers_15 (by decide) (fun c15 => ?_) (fun c15 => absurd c15 (by decide))
  refine lv_iconst (v := 0) hx hb dX4_readers_30 (by decide) ?_
  refine lv_goto (tgt := 40) hx hb dX4_readers_31 (by decide) ?_
  refine W.widen (k := 0) (n := 0) (Nat.le_of_ble_eq_true rfl) (Nat.le_of_ble_eq_true rfl) ?_
  exact W.iret (v := 0) hx hb hr (fun t ht hW => ⟨⟨0, (st (st y 0 0 0 0) 0 0 0 1), rfl, st_eq, PB.mk9 hP ht⟩, hS.F ht⟩) hS.2.2 dX4_readers_40

set_option maxHeartbeats 4000000 in
set_option maxRecDepth 100000 in
theorem km_readIn (l : Launch) (hst : l.stackTraces = false) (g : gE) (base n : Nat) (L : Nat → Nat) (hn : 123 ≤ n) (y : St) (ch : Int64) (r0 : Nat → va_E) (hy1 : y 1 0 0 = nI 0) (hy2 : y 2 0 0 = 2) (hy3 : y 3 0 0 = nI 0) (hy4 : y 4 0 0 = nI 0) (p0 p1 : Int32) : Met l yX4_readIn wsX4_readIn ({ frames := 5, cells := 0, slots := 0, locals := 140 }) (va_Pc [.ref (L 106), .int p0, .int p1] (PW SS g base n L (mw g L y ch r0))) (va_Qi (fun (_ : Int32) (u : St) => u 0 0 0 = 1) (fun (u : St) t => PB g n L (mw g L u ch r0) t) (fun q => base ≤ q)) 0 0 (fun q => base ≤ q) := by
  refine Met.ofW (cc := cX4_readIn) (maxL := 3) (ret := (some .int)) (by decide) rfl ?_
  intro p e s m args below meth c s₁ B hml hv
  obtain ⟨rfl, hPW⟩ := hv
  obtain ⟨hbs, hJ, hP, hK, hE⟩ := id hPW
  have hx := B.exec
  have hb := B.bytes
  have hr := B.returns
  have hts := atoms_spec (ws := wsX4_readIn) B.pre
  have hown : s.vm.findClass RX4 = some m.cls := findClass_of_methodNamed B.named
  have hlocks := B.notSynchronized
  have hS : va_S (fun q : Nat => base ≤ q) s.heap s.heap [] := va_S.rf
  have hl := lv_entry ([.ref (L 106), .int p0, .int p1]) (n := 3) (Nat.le_of_ble_eq_true rfl)
  rw [lg_entry_eq]
  generalize (lg_sl ([.ref (L 106), .int p0, .int p1]) ++ List.replicate (3 - (lg_sl ([.ref (L 106), .int p0, .int p1])).length) Slot.unset).toArray = ls at hl ⊢
  have hl : lv_has ls 3 [(0, .ref (L 106)), (1, .int p0), (2, .int p1)] := hl
  have iX4 : ∀ w ∈ wsX40, w ∈ wsX4_readIn := by decide +kernel
  refine lv_aload_n hx hb dX4_readIn_0 rfl (lv_at hl 0 rfl) ?_
  refine lv_iconst (v := 0) hx hb dX4_readIn_1 (by decide) ?_
  refine wx_put (D := g.1) (cl := vwCl) (ci := 6) (v := .int 0) (ty := .int) (w' := mw g L (st y 0 0 0 0) ch r0) (C := RX4) (T := TX4) (N := 22) hx hb hts iX4 tyX4 tyX4_ok nmX4 hown hK hP hJ hS (106) (by omega) mw_o rfl 0 (by decide) (hts (.fieldLink RX4 64 "FerroDeskModel" "thrown" "I") (by decide +kernel)) (fun _ h9 => h9) rfl (by decide +kernel) rfl rfl (Nat.le_of_ble_eq_true rfl) dX4_readIn_2 (mw_put (r := 0) (i := 0) (j := 0) rfl (by omega) (mk_o.trans (by simp [mF, st]))) (fun H locs hP hS => ?_)
  refine lv_aload_n hx hb dX4_readIn_5 rfl (lv_at hl 0 rfl) ?_
  refine lv_aload_n hx hb dX4_readIn_6 rfl (lv_at hl 0 rfl) ?_
  refine lv_iload_n hx hb dX4_readIn_7 rfl (lv_at hl 1 rfl) ?_
  refine wx_calli (va_runV (As := [.int p0]) (rest := [.ref (L 106)]) ⟨hx, hb, hml, hown, hts⟩ (k_noNotice l hst g base n L (by omega) (st y 0 0 0 0) ch r0 (st_ne (by decide) |>.trans hy4) p0) (cwV 1 hts gX4_readIn_X4_noNotice rfl rfl rfl (by decide +kernel) ⟨Nat.le_of_ble_eq_true rfl, Nat.le_of_ble_eq_true rfl⟩) (hPW.preV hP hS (ci := 6) rfl (by omega) mw_o) rfl rfl hl.1 rfl (lv_room (Nat.le_of_ble_eq_true rfl)) dX4_readIn_8 ⟨Nat.le_of_ble_eq_true rfl, Nat.le_of_ble_eq_true rfl⟩) hS (fun r8 u8 H locs h8 hP hS => ?_)
  obtain ⟨rfl, e9⟩ := h8
  have e9 := e9.symm
  subst e9
  refine lv_iconst (v := 1) hx hb dX4_readIn_11 (by decide) ?_
  refine wx_calli (va_runV (As := [.int 1, .int 1]) (rest := []) ⟨hx, hb, hml, hown, hts⟩ (k_fails l hst g base n L (by omega) (st y 0 0 0 0) ch r0 st_eq 1 1 (by decide)) (cwV 2 hts gX4_readIn_X4_fails rfl rfl rfl (by decide +kernel) ⟨Nat.le_of_ble_eq_true rfl, Nat.le_of_ble_eq_true rfl⟩) (hPW.preV hP hS (ci := 6) rfl (by omega) mw_o) rfl rfl hl.1 rfl (lv_room (Nat.le_of_ble_eq_true rfl)) dX4_readIn_12 ⟨Nat.le_of_ble_eq_true rfl, Nat.le_of_ble_eq_true rfl⟩) hS (fun r12 u12 H locs h12 hP hS => ?_)
  obtain ⟨rfl, -, e9⟩ : r12 = 1 ∧ True ∧ u12 = st (st y 0 0 0 0) 0 0 0 1 := by rcases h12 with ⟨-, b, -⟩ | ⟨a, -, b⟩; exact absurd b (by decide); exact ⟨a, trivial, b⟩
  have e9 := e9.symm
  subst e9
  refine lv_if_ne (tgt := 29) hx hb dX4_readIn_15 (by decide) (fun c15 => ?_) (fun c15 => absurd c15 (by decide))
  refine lv_iconst (v := 0) hx hb dX4_readIn_29 (by decide) ?_
  refine lv_goto (tgt := 45) hx hb dX4_readIn_30 (by decide) ?_
  refine W.widen (k := 0) (n := 0) (Nat.le_of_ble_eq_true rfl) (Nat.le_of_ble_eq_true rfl) ?_
  exact W.iret (v := 0) hx hb hr (fun t ht hW => ⟨⟨0, (st (st y 0 0 0 0) 0 0 0 1), rfl, st_eq, PB.mk9 hP ht⟩, hS.F ht⟩) hS.2.2 dX4_readIn_45

set_option maxHeartbeats 4000000 in
set_option maxRecDepth 100000 in
theorem km_cellAnew (l : Launch) (hst : l.stackTraces = false) (g : gE) (base n : Nat) (L : Nat → Nat) (hn : 123 ≤ n) (y : St) (ch : Int64) (r0 : Nat → va_E) (hy1 : y 1 0 0 = nI 0) (hy2 : y 2 0 0 = 2) (hy3 : y 3 0 0 = nI 0) (hy4 : y 4 0 0 = nI 0) (p0 p1 p2 : Int32) : Met l yX4_cellAnew wsX4_cellAnew ({ frames := 6, cells := 0, slots := 0, locals := 180 }) (va_Pc [.ref (L 106), .int p0, .int p1, .int p2] (PW SS g base n L (mw g L y ch r0))) (va_Qi (fun (_ : Int32) (u : St) => u 0 0 0 = 1) (fun (u : St) t => PB g n L (mw g L u ch r0) t) (fun q => base ≤ q)) 0 0 (fun q => base ≤ q) := by
  refine Met.ofW (cc := cX4_cellAnew) (maxL := 4) (ret := (some .int)) (by decide) rfl ?_
  intro p e s m args below meth c s₁ B hml hv
  obtain ⟨rfl, hPW⟩ := hv
  obtain ⟨hbs, hJ, hP, hK, hE⟩ := id hPW
  have hx := B.exec
  have hb := B.bytes
  have hr := B.returns
  have hts := atoms_spec (ws := wsX4_cellAnew) B.pre
  have hown : s.vm.findClass RX4 = some m.cls := findClass_of_methodNamed B.named
  have hlocks := B.notSynchronized
  have hS : va_S (fun q : Nat => base ≤ q) s.heap s.heap [] := va_S.rf
  have hl := lv_entry ([.ref (L 106), .int p0, .int p1, .int p2]) (n := 4) (Nat.le_of_ble_eq_true rfl)
  rw [lg_entry_eq]
  generalize (lg_sl ([.ref (L 106), .int p0, .int p1, .int p2]) ++ List.replicate (4 - (lg_sl ([.ref (L 106), .int p0, .int p1, .int p2])).length) Slot.unset).toArray = ls at hl ⊢
  have hl : lv_has ls 4 [(0, .ref (L 106)), (1, .int p0), (2, .int p1), (3, .int p2)] := hl
  refine lv_aload_n hx hb dX4_cellAnew_0 rfl (lv_at hl 0 rfl) ?_
  refine lv_iload_n hx hb dX4_cellAnew_1 rfl (lv_at hl 1 rfl) ?_
  refine lv_iload_n hx hb dX4_cellAnew_2 rfl (lv_at hl 2 rfl) ?_
  refine lv_iload_n hx hb dX4_cellAnew_3 rfl (lv_at hl 3 rfl) ?_
  refine wx_calli (va_runV (As := [.int p0, .int p1, .int p2]) (rest := []) ⟨hx, hb, hml, hown, hts⟩ (km_cell l hst g base n L (by omega) y ch r0 hy1 hy2 hy3 hy4 p0 p1 p2) (cwV 3 hts gX4_cellAnew_X4_cell rfl rfl rfl (by decide +kernel) ⟨Nat.le_of_ble_eq_true rfl, Nat.le_of_ble_eq_true rfl⟩) (hPW.preV hP hS (ci := 6) rfl (by omega) mw_o) rfl rfl hl.1 rfl (lv_room (Nat.le_of_ble_eq_true rfl)) dX4_cellAnew_4 ⟨Nat.le_of_ble_eq_true rfl, Nat.le_of_ble_eq_true rfl⟩) hS (fun r4 u4 H locs h4 hP hS => ?_)
  refine W.widen (k := 0) (n := 0) (Nat.le_of_ble_eq_true rfl) (Nat.le_of_ble_eq_true rfl) ?_
  exact W.iret (v := r4) hx hb hr (fun t ht hW => ⟨⟨r4, u4, rfl, h4, PB.mk9 hP ht⟩, hS.F ht⟩) hS.2.2 dX4_cellAnew_7

set_option maxHeartbeats 4000000 in
set_option maxRecDepth 100000 in
theorem km_sleeps (l : Launch) (hst : l.stackTraces = false) (g : gE) (base n : Nat) (L : Nat → Nat) (hn : 123 ≤ n) (y : St) (ch : Int64) (r0 : Nat → va_E) (hy1 : y 1 0 0 = nI 0) (hy2 : y 2 0 0 = 2) (hy3 : y 3 0 0 = nI 0) (hy4 : y 4 0 0 = nI 0) (p0 : Int32) : Met l yX4_sleeps wsX4_sleeps ({ frames := 5, cells := 0, slots := 0, locals := 140 }) (va_Pc [.ref (L 106), .int p0] (PW SS g base n L (mw g L y ch r0))) (va_Qi (fun (_ : Int32) (u : St) => u 0 0 0 = 1) (fun (u : St) t => PB g n L (mw g L u ch r0) t) (fun q => base ≤ q)) 0 0 (fun q => base ≤ q) := by
  refine Met.ofW (cc := cX4_sleeps) (maxL := 2) (ret := (some .boolean)) (by decide) rfl ?_
  intro p e s m args below meth c s₁ B hml hv
  obtain ⟨rfl, hPW⟩ := hv
  obtain ⟨hbs, hJ, hP, hK, hE⟩ := id hPW
  have hx := B.exec
  have hb := B.bytes
  have hr := B.returns
  have hts := atoms_spec (ws := wsX4_sleeps) B.pre
  have hown : s.vm.findClass RX4 = some m.cls := findClass_of_methodNamed B.named
  have hlocks := B.notSynchronized
  have hS : va_S (fun q : Nat => base ≤ q) s.heap s.heap [] := va_S.rf
  have hl := lv_entry ([.ref (L 106), .int p0]) (n := 2) (Nat.le_of_ble_eq_true rfl)
  rw [lg_entry_eq]
  generalize (lg_sl ([.ref (L 106), .int p0]) ++ List.replicate (2 - (lg_sl ([.ref (L 106), .int p0])).length) Slot.unset).toArray = ls at hl ⊢
  have hl : lv_has ls 2 [(0, .ref (L 106)), (1, .int p0)] := hl
  have iX4 : ∀ w ∈ wsX40, w ∈ wsX4_sleeps := by decide +kernel
  refine lv_aload_n hx hb dX4_sleeps_0 rfl (lv_at hl 0 rfl) ?_
  refine lv_iconst (v := 0) hx hb dX4_sleeps_1 (by decide) ?_
  refine wx_put (D := g.1) (cl := vwCl) (ci := 6) (v := .int 0) (ty := .int) (w' := mw g L (st y 0 0 0 0) ch r0) (C := RX4) (T := TX4) (N := 22) hx hb hts iX4 tyX4 tyX4_ok nmX4 hown hK hP hJ hS (106) (by omega) mw_o rfl 0 (by decide) (hts (.fieldLink RX4 64 "FerroDeskModel" "thrown" "I") (by decide +kernel)) (fun _ h9 => h9) rfl (by decide +kernel) rfl rfl (Nat.le_of_ble_eq_true rfl) dX4_sleeps_2 (mw_put (r := 0) (i := 0) (j := 0) rfl (by omega) (mk_o.trans (by simp [mF, st]))) (fun H locs hP hS => ?_)
  refine lv_aload_n hx hb dX4_sleeps_5 rfl (lv_at hl 0 rfl) ?_
  refine lv_aload_n hx hb dX4_sleeps_6 rfl (lv_at hl 0 rfl) ?_
  refine lv_iload_n hx hb dX4_sleeps_7 rfl (lv_at hl 1 rfl) ?_
  refine wx_calli (va_runV (As := [.int p0]) (rest := [.ref (L 106)]) ⟨hx, hb, hml, hown, hts⟩ (k_noBoard l hst g base n L (by omega) (st y 0 0 0 0) ch r0 (st_ne (by decide) |>.trans hy3) p0) (cwV 1 hts gX4_sleeps_X4_noBoard rfl rfl rfl (by decide +kernel) ⟨Nat.le_of_ble_eq_true rfl, Nat.le_of_ble_eq_true rfl⟩) (hPW.preV hP hS (ci := 6) rfl (by omega) mw_o) rfl rfl hl.1 rfl (lv_room (Nat.le_of_ble_eq_true rfl)) dX4_sleeps_8 ⟨Nat.le_of_ble_eq_true rfl, Nat.le_of_ble_eq_true rfl⟩) hS (fun r8 u8 H locs h8 hP hS => ?_)
  obtain ⟨rfl, e9⟩ := h8
  have e9 := e9.symm
  subst e9
  refine lv_iconst (v := 1) hx hb dX4_sleeps_11 (by decide) ?_
  refine wx_calli (va_runV (As := [.int 1, .int 1]) (rest := []) ⟨hx, hb, hml, hown, hts⟩ (k_fails l hst g base n L (by omega) (st y 0 0 0 0) ch r0 st_eq 1 1 (by decide)) (cwV 2 hts gX4_sleeps_X4_fails rfl rfl rfl (by decide +kernel) ⟨Nat.le_of_ble_eq_true rfl, Nat.le_of_ble_eq_true rfl⟩) (hPW.preV hP hS (ci := 6) rfl (by omega) mw_o) rfl rfl hl.1 rfl (lv_room (Nat.le_of_ble_eq_true rfl)) dX4_sleeps_12 ⟨Nat.le_of_ble_eq_true rfl, Nat.le_of_ble_eq_true rfl⟩) hS (fun r12 u12 H locs h12 hP hS => ?_)
  obtain ⟨rfl, -, e9⟩ : r12 = 1 ∧ True ∧ u12 = st (st y 0 0 0 0) 0 0 0 1 := by rcases h12 with ⟨-, b, -⟩ | ⟨a, -, b⟩; exact absurd b (by decide); exact ⟨a, trivial, b⟩
  have e9 := e9.symm
  subst e9
  refine lv_if_ne (tgt := 31) hx hb dX4_sleeps_15 (by decide) (fun c15 => ?_) (fun c15 => absurd c15 (by decide))
  refine lv_iconst (v := 0) hx hb dX4_sleeps_31 (by decide) ?_
  refine W.widen (k := 0) (n := 0) (Nat.le_of_ble_eq_true rfl) (Nat.le_of_ble_eq_true rfl) ?_
  exact W.zret (v := 0) hx hb hr (by decide) (fun t ht hW => ⟨⟨0, (st (st y 0 0 0 0) 0 0 0 1), rfl, st_eq, PB.mk9 hP ht⟩, hS.F ht⟩) hS.2.2 dX4_sleeps_32

set_option maxHeartbeats 4000000 in
set_option maxRecDepth 100000 in
theorem km_isDue (l : Launch) (hst : l.stackTraces = false) (g : gE) (base n : Nat) (L : Nat → Nat) (hn : 123 ≤ n) (y : St) (ch : Int64) (r0 : Nat → va_E) (hy1 : y 1 0 0 = nI 0) (hy2 : y 2 0 0 = 2) (hy3 : y 3 0 0 = nI 0) (hy4 : y 4 0 0 = nI 0) (p0 : Int32) : Met l yX4_isDue wsX4_isDue ({ frames := 5, cells := 0, slots := 0, locals := 140 }) (va_Pc [.ref (L 106), .int p0] (PW SS g base n L (mw g L y ch r0))) (va_Qi (fun (_ : Int32) (u : St) => u 0 0 0 = 1) (fun (u : St) t => PB g n L (mw g L u ch r0) t) (fun q => base ≤ q)) 0 0 (fun q => base ≤ q) := by
  refine Met.ofW (cc := cX4_isDue) (maxL := 2) (ret := (some .boolean)) (by decide) rfl ?_
  intro p e s m args below meth c s₁ B hml hv
  obtain ⟨rfl, hPW⟩ := hv
  obtain ⟨hbs, hJ, hP, hK, hE⟩ := id hPW
  have hx := B.exec
  have hb := B.bytes
  have hr := B.returns
  have hts := atoms_spec (ws := wsX4_isDue) B.pre
  have hown : s.vm.findClass RX4 = some m.cls := findClass_of_methodNamed B.named
  have hlocks := B.notSynchronized
  have hS : va_S (fun q : Nat => base ≤ q) s.heap s.heap [] := va_S.rf
  have hl := lv_entry ([.ref (L 106), .int p0]) (n := 2) (Nat.le_of_ble_eq_true rfl)
  rw [lg_entry_eq]
  generalize (lg_sl ([.ref (L 106), .int p0]) ++ List.replicate (2 - (lg_sl ([.ref (L 106), .int p0])).length) Slot.unset).toArray = ls at hl ⊢
  have hl : lv_has ls 2 [(0, .ref (L 106)), (1, .int p0)] := hl
  have iX4 : ∀ w ∈ wsX40, w ∈ wsX4_isDue := by decide +kernel
  refine lv_aload_n hx hb dX4_isDue_0 rfl (lv_at hl 0 rfl) ?_
  refine lv_iconst (v := 0) hx hb dX4_isDue_1 (by decide) ?_
  refine wx_put (D := g.1) (cl := vwCl) (ci := 6) (v := .int 0) (ty := .int) (w' := mw g L (st y 0 0 0 0) ch r0) (C := RX4) (T := TX4) (N := 22) hx hb hts iX4 tyX4 tyX4_ok nmX4 hown hK hP hJ hS (106) (by omega) mw_o rfl 0 (by decide) (hts (.fieldLink RX4 64 "FerroDeskModel" "thrown" "I") (by decide +kernel)) (fun _ h9 => h9) rfl (by decide +kernel) rfl rfl (Nat.le_of_ble_eq_true rfl) dX4_isDue_2 (mw_put (r := 0) (i := 0) (j := 0) rfl (by omega) (mk_o.trans (by simp [mF, st]))) (fun H locs hP hS => ?_)
  refine lv_aload_n hx hb dX4_isDue_5 rfl (lv_at hl 0 rfl) ?_
  refine lv_aload_n hx hb dX4_isDue_6 rfl (lv_at hl 0 rfl) ?_
  refine lv_iload_n hx hb dX4_isDue_7 rfl (lv_at hl 1 rfl) ?_
  refine wx_calli (va_runV (As := [.int p0]) (rest := [.ref (L 106)]) ⟨hx, hb, hml, hown, hts⟩ (k_noNotice l hst g base n L (by omega) (st y 0 0 0 0) ch r0 (st_ne (by decide) |>.trans hy4) p0) (cwV 1 hts gX4_isDue_X4_noNotice rfl rfl rfl (by decide +kernel) ⟨Nat.le_of_ble_eq_true rfl, Nat.le_of_ble_eq_true rfl⟩) (hPW.preV hP hS (ci := 6) rfl (by omega) mw_o) rfl rfl hl.1 rfl (lv_room (Nat.le_of_ble_eq_true rfl)) dX4_isDue_8 ⟨Nat.le_of_ble_eq_true rfl, Nat.le_of_ble_eq_true rfl⟩) hS (fun r8 u8 H locs h8 hP hS => ?_)
  obtain ⟨rfl, e9⟩ := h8
  have e9 := e9.symm
  subst e9
  refine lv_iconst (v := 1) hx hb dX4_isDue_11 (by decide) ?_
  refine wx_calli (va_runV (As := [.int 1, .int 1]) (rest := []) ⟨hx, hb, hml, hown, hts⟩ (k_fails l hst g base n L (by omega) (st y 0 0 0 0) ch r0 st_eq 1 1 (by decide)) (cwV 2 hts gX4_isDue_X4_fails rfl rfl rfl (by decide +kernel) ⟨Nat.le_of_ble_eq_true rfl, Nat.le_of_ble_eq_true rfl⟩) (hPW.preV hP hS (ci := 6) rfl (by omega) mw_o) rfl rfl hl.1 rfl (lv_room (Nat.le_of_ble_eq_true rfl)) dX4_isDue_12 ⟨Nat.le_of_ble_eq_true rfl, Nat.le_of_ble_eq_true rfl⟩) hS (fun r12 u12 H locs h12 hP hS => ?_)
  obtain ⟨rfl, -, e9⟩ : r12 = 1 ∧ True ∧ u12 = st (st y 0 0 0 0) 0 0 0 1 := by rcases h12 with ⟨-, b, -⟩ | ⟨a, -, b⟩; exact absurd b (by decide); exact ⟨a, trivial, b⟩
  have e9 := e9.symm
  subst e9
  refine lv_if_ne (tgt := 30) hx hb dX4_isDue_15 (by decide) (fun c15 => ?_) (fun c15 => absurd c15 (by decide))
  refine lv_iconst (v := 0) hx hb dX4_isDue_30 (by decide) ?_
  refine W.widen (k := 0) (n := 0) (Nat.le_of_ble_eq_true rfl) (Nat.le_of_ble_eq_true rfl) ?_
  exact W.zret (v := 0) hx hb hr (by decide) (fun t ht hW => ⟨⟨0, (st (st y 0 0 0 0) 0 0 0 1), rfl, st_eq, PB.mk9 hP ht⟩, hS.F ht⟩) hS.2.2 dX4_isDue_31

set_option maxHeartbeats 4000000 in
set_option maxRecDepth 100000 in
theorem km_post (l : Launch) (hst : l.stackTraces = false) (g : gE) (base n : Nat) (L : Nat → Nat) (hn : 123 ≤ n) (y : St) (ch : Int64) (r0 : Nat → va_E) (hy1 : y 1 0 0 = nI 0) (hy2 : y 2 0 0 = 2) (hy3 : y 3 0 0 = nI 0) (hy4 : y 4 0 0 = nI 0) (p0 p1 p2 p3 : Int32) : Met l yX4_post wsX4_post ({ frames := 5, cells := 0, slots := 0, locals := 140 }) (va_Pc [.ref (L 106), .int p0, .int p1, .int p2, .int p3] (PW SS g base n L (mw g L y ch r0))) (va_Qi (fun (r : Int32) (u : St) => ((p0.toInt < 0 ∨ 9 < p0.toInt ∨ p1.toInt = 0 ∨ p2.toInt < 0 ∨ p3.toInt ≤ p2.toInt ∨ 2000 < p3.toInt) ∧ u 0 0 0 = 1) ∨ (¬ (p0.toInt < 0 ∨ 9 < p0.toInt ∨ p1.toInt = 0 ∨ p2.toInt < 0 ∨ p3.toInt ≤ p2.toInt ∨ 2000 < p3.toInt) ∧ u 0 0 0 = 0 ∧ r = 0)) (fun (u : St) t => PB g n L (mw g L u ch r0) t) (fun q => base ≤ q)) 0 0 (fun q => base ≤ q) := by
  refine Met.ofW (cc := cX4_post) (maxL := 6) (ret := (some .int)) (by decide) rfl ?_
  intro p e s m args below meth c s₁ B hml hv
  obtain ⟨rfl, hPW⟩ := hv
  obtain ⟨hbs, hJ, hP, hK, hE⟩ := id hPW
  have hx := B.exec
  have hb := B.bytes
  have hr := B.returns
  have hts := atoms_spec (ws := wsX4_post) B.pre
  have hown : s.vm.findClass RX4 = some m.cls := findClass_of_methodNamed B.named
  have hlocks := B.notSynchronized
  have hS : va_S (fun q : Nat => base ≤ q) s.heap s.heap [] := va_S.rf
  have hl := lv_entry ([.ref (L 106), .int p0, .int p1, .int p2, .int p3]) (n := 6) (Nat.le_of_ble_eq_true rfl)
  rw [lg_entry_eq]
  generalize (lg_sl ([.ref (L 106), .int p0, .int p1, .int p2, .int p3]) ++ List.replicate (6 - (lg_sl ([.ref (L 106), .int p0, .int p1, .int p2, .int p3])).length) Slot.unset).toArray = ls at hl ⊢
  have hl : lv_has ls 6 [(0, .ref (L 106)), (1, .int p0), (2, .int p1), (3, .int p2), (4, .int p3)] := hl
  have iX4 : ∀ w ∈ wsX40, w ∈ wsX4_post := by decide +kernel
  refine lv_aload_n hx hb dX4_post_0 rfl (lv_at hl 0 rfl) ?_
  refine lv_iconst (v := 0) hx hb dX4_post_1 (by decide) ?_
  refine wx_put (D := g.1) (cl := vwCl) (ci := 6) (v := .int 0) (ty := .int) (w' := mw g L (st y 0 0 0 0) ch r0) (C := RX4) (T := TX4) (N := 22) hx hb hts iX4 tyX4 tyX4_ok nmX4 hown hK hP hJ hS (106) (by omega) mw_o rfl 0 (by decide) (hts (.fieldLink RX4 64 "FerroDeskModel" "thrown" "I") (by decide +kernel)) (fun _ h9 => h9) rfl (by decide +kernel) rfl rfl (Nat.le_of_ble_eq_true rfl) dX4_post_2 (mw_put (r := 0) (i := 0) (j := 0) rfl (by omega) (mk_o.trans (by simp [mF, st]))) (fun H locs hP hS => ?_)
  refine lv_iload_n hx hb dX4_post_5 rfl (lv_at hl 1 rfl) ?_
  refine lv_iconst (v := 0) hx hb dX4_post_6 (by decide) ?_
  refine lv_bipush (v := 9) hx hb dX4_post_7 (by decide) ?_
  refine wx_calli (va_runS (As := [.int p0, .int 0, .int 9]) (rest := []) ⟨hx, hb, hml, hown, hts⟩ (k_in l hst g base n L (mw g L (st y 0 0 0 0) ch r0) p0 0 9) (va_cwS 3 hts gX4_post_X4_in rfl rfl rfl (by decide +kernel) ⟨Nat.le_of_ble_eq_true rfl, Nat.le_of_ble_eq_true rfl⟩) (hPW.preS hP hS) rfl rfl hl.1 rfl (lv_room (Nat.le_of_ble_eq_true rfl)) dX4_post_9 ⟨Nat.le_of_ble_eq_true rfl, Nat.le_of_ble_eq_true rfl⟩) hS (fun r9 u9 H locs h9 hP hS => ?_)
  rcases h9 with ⟨rfl, h9⟩ | ⟨rfl, h9⟩
  · refine lv_if_eq (tgt := 52) hx hb dX4_post_12 (by decide) (fun c12 => absurd c12 (by decide)) (fun c12 => ?_)
    refine lv_iload_n hx hb dX4_post_15 rfl (lv_at hl 2 rfl) ?_
    refine lv_if_eq (tgt := 52) hx hb dX4_post_16 (by decide) (fun c16 => ?_) (fun c16 => ?_)
    · refine lv_iconst (v := 0) hx hb dX4_post_52 (by decide) ?_
      refine lv_istore (lv' := [(5, .int 0), (0, .ref (L 106)), (1, .int p0), (2, .int p1), (3, .int p2), (4, .int p3)]) hx hb dX4_post_53 hl (by decide) rfl (fun ls hl => ?_)
      refine lv_aload_n hx hb dX4_post_55 rfl (lv_at hl 1 rfl) ?_
      refine lv_iload hx hb dX4_post_56 (lv_at hl 0 rfl) ?_
      refine lv_if_ne (tgt := 65) hx hb dX4_post_58 (by decide) (fun c58 => absurd c58 (by decide)) (fun c58 => ?_)
      refine lv_iconst (v := 1) hx hb dX4_post_61 (by decide) ?_
      refine lv_goto (tgt := 66) hx hb dX4_post_62 (by decide) ?_
      refine lv_iconst (v := 1) hx hb dX4_post_66 (by decide) ?_
      refine wx_calli (va_runV (As := [.int 1, .int 1]) (rest := []) ⟨hx, hb, hml, hown, hts⟩ (k_fails l hst g base n L (by omega) (st y 0 0 0 0) ch r0 st_eq 1 1 (by decide)) (cwV 2 hts gX4_post_X4_fails rfl rfl rfl (by decide +kernel) ⟨Nat.le_of_ble_eq_true rfl, Nat.le_of_ble_eq_true rfl⟩) (hPW.preV hP hS (ci := 6) rfl (by omega) mw_o) rfl rfl hl.1 rfl (lv_room (Nat.le_of_ble_eq_true rfl)) dX4_post_67 ⟨Nat.le_of_ble_eq_true rfl, Nat.le_of_ble_eq_true rfl⟩) hS (fun r67 u67 H locs h67 hP hS => ?_)
      obtain ⟨rfl, -, e9⟩ : r67 = 1 ∧ True ∧ u67 = st (st y 0 0 0 0) 0 0 0 1 := by rcases h67 with ⟨-, b, -⟩ | ⟨a, -, b⟩; exact absurd b (by decide); exact ⟨a, trivial, b⟩
      have e9 := e9.symm
      subst e9
      refine lv_if_ne (tgt := 95) hx hb dX4_post_70 (by decide) (fun c70 => ?_) (fun c70 => absurd c70 (by decide))
      refine lv_iconst (v := 0) hx hb dX4_post_95 (by decide) ?_
      refine lv_goto (tgt := 108) hx hb dX4_post_96 (by decide) ?_
      refine W.widen (k := 0) (n := 0) (Nat.le_of_ble_eq_true rfl) (Nat.le_of_ble_eq_true rfl) ?_
      exact W.iret (v := 0) hx hb hr (fun t ht hW => ⟨⟨0, (st (st y 0 0 0 0) 0 0 0 1), rfl, Or.inl ⟨(by revert h9 c16; (try simp only [Int32.lt_iff_toInt_lt, Int32.le_iff_toInt_le, ← Int32.toInt_inj, i_0, i_1, i_2, i_3, i_4, i_6, i_9, i_20, i_32, i_40, i_48, i_60, i_200, i_999, i_2000, i_m1]); omega), st_eq⟩, PB.mk9 hP ht⟩, hS.F ht⟩) hS.2.2 dX4_post_108
    · refine lv_iload_n hx hb dX4_post_19 rfl (lv_at hl 3 rfl) ?_
      refine lv_iconst (v := 0) hx hb dX4_post_20 (by decide) ?_
      refine lv_sipush (v := 2000) hx hb dX4_post_21 (by decide) ?_
      refine wx_calli (va_runS (As := [.int p2, .int 0, .int 2000]) (rest := []) ⟨hx, hb, hml, hown, hts⟩ (k_in l hst g base n L (mw g L (st y 0 0 0 0) ch r0) p2 0 2000) (va_cwS 3 hts gX4_post_X4_in rfl rfl rfl (by decide +kernel) ⟨Nat.le_of_ble_eq_true rfl, Nat.le_of_ble_eq_true rfl⟩) (hPW.preS hP hS) rfl rfl hl.1 rfl (lv_room (Nat.le_of_ble_eq_true rfl)) dX4_post_24 ⟨Nat.le_of_ble_eq_true rfl, Nat.le_of_ble_eq_true rfl⟩) hS (fun r24 u24 H locs h24 hP hS => ?_)
      rcases h24 with ⟨rfl, h24⟩ | ⟨rfl, h24⟩
      · refine lv_if_eq (tgt := 52) hx hb dX4_post_27 (by decide) (fun c27 => absurd c27 (by decide)) (fun c27 => ?_)
        refine lv_iload hx hb dX4_post_30 (lv_at hl 4 rfl) ?_
        refine lv_iconst (v := 0) hx hb dX4_post_32 (by decide) ?_
        refine lv_sipush (v := 2000) hx hb dX4_post_33 (by decide) ?_
        refine wx_calli (va_runS (As := [.int p3, .int 0, .int 2000]) (rest := []) ⟨hx, hb, hml, hown, hts⟩ (k_in l hst g base n L (mw g L (st y 0 0 0 0) ch r0) p3 0 2000) (va_cwS 3 hts gX4_post_X4_in rfl rfl rfl (by decide +kernel) ⟨Nat.le_of_ble_eq_true rfl, Nat.le_of_ble_eq_true rfl⟩) (hPW.preS hP hS) rfl rfl hl.1 rfl (lv_room (Nat.le_of_ble_eq_true rfl)) dX4_post_36 ⟨Nat.le_of_ble_eq_true rfl, Nat.le_of_ble_eq_true rfl⟩) hS (fun r36 u36 H locs h36 hP hS => ?_)
        rcases h36 with ⟨rfl, h36⟩ | ⟨rfl, h36⟩
        · refine lv_if_eq (tgt := 52) hx hb dX4_post_39 (by decide) (fun c39 => absurd c39 (by decide)) (fun c39 => ?_)
          refine lv_iload_n hx hb dX4_post_42 rfl (lv_at hl 3 rfl) ?_
          refine lv_iload hx hb dX4_post_43 (lv_at hl 4 rfl) ?_
          refine lv_icmp_ge (tgt := 52) hx hb dX4_post_45 (by decide) (fun c45 => ?_) (fun c45 => ?_)
          · refine lv_iconst (v := 0) hx hb dX4_post_52 (by decide) ?_
            refine lv_istore (lv' := [(5, .int 0), (0, .ref (L 106)), (1, .int p0), (2, .int p1), (3, .int p2), (4, .int p3)]) hx hb dX4_post_53 hl (by decide) rfl (fun ls hl => ?_)
            refine lv_aload_n hx hb dX4_post_55 rfl (lv_at hl 1 rfl) ?_
            refine lv_iload hx hb dX4_post_56 (lv_at hl 0 rfl) ?_
            refine lv_if_ne (tgt := 65) hx hb dX4_post_58 (by decide) (fun c58 => absurd c58 (by decide)) (fun c58 => ?_)
            refine lv_iconst (v := 1) hx hb dX4_post_61 (by decide) ?_
            refine lv_goto (tgt := 66) hx hb dX4_post_62 (by decide) ?_
            refine lv_iconst (v := 1) hx hb dX4_post_66 (by decide) ?_
            refine wx_calli (va_runV (As := [.int 1, .int 1]) (rest := []) ⟨hx, hb, hml, hown, hts⟩ (k_fails l hst g base n L (by omega) (st y 0 0 0 0) ch r0 st_eq 1 1 (by decide)) (cwV 2 hts gX4_post_X4_fails rfl rfl rfl (by decide +kernel) ⟨Nat.le_of_ble_eq_true rfl, Nat.le_of_ble_eq_true rfl⟩) (hPW.preV hP hS (ci := 6) rfl (by omega) mw_o) rfl rfl hl.1 rfl (lv_room (Nat.le_of_ble_eq_true rfl)) dX4_post_67 ⟨Nat.le_of_ble_eq_true rfl, Nat.le_of_ble_eq_true rfl⟩) hS (fun r67 u67 H locs h67 hP hS => ?_)
            obtain ⟨rfl, -, e9⟩ : r67 = 1 ∧ True ∧ u67 = st (st y 0 0 0 0) 0 0 0 1 := by rcases h67 with ⟨-, b, -⟩ | ⟨a, -, b⟩; exact absurd b (by decide); exact ⟨a, trivial, b⟩
            have e9 := e9.symm
            subst e9
            refine lv_if_ne (tgt := 95) hx hb dX4_post_70 (by decide) (fun c70 => ?_) (fun c70 => absurd c70 (by decide))
            refine lv_iconst (v := 0) hx hb dX4_post_95 (by decide) ?_
            refine lv_goto (tgt := 108) hx hb dX4_post_96 (by decide) ?_
            refine W.widen (k := 0) (n := 0) (Nat.le_of_ble_eq_true rfl) (Nat.le_of_ble_eq_true rfl) ?_
            exact W.iret (v := 0) hx hb hr (fun t ht hW => ⟨⟨0, (st (st y 0 0 0 0) 0 0 0 1), rfl, Or.inl ⟨(by revert h9 c16 h24 h36 c45; (try simp only [Int32.lt_iff_toInt_lt, Int32.le_iff_toInt_le, ← Int32.toInt_inj, i_0, i_1, i_2, i_3, i_4, i_6, i_9, i_20, i_32, i_40, i_48, i_60, i_200, i_999, i_2000, i_m1]); omega), st_eq⟩, PB.mk9 hP ht⟩, hS.F ht⟩) hS.2.2 dX4_post_108
          · refine lv_iconst (v := 1) hx hb dX4_post_48 (by decide) ?_
            refine lv_goto (tgt := 53) hx hb dX4_post_49 (by decide) ?_
            refine lv_istore (lv' := [(5, .int 1), (0, .ref (L 106)), (1, .int p0), (2, .int p1), (3, .int p2), (4, .int p3)]) hx hb dX4_post_53 hl (by decide) rfl (fun ls hl => ?_)
            refine lv_aload_n hx hb dX4_post_55 rfl (lv_at hl 1 rfl) ?_
            refine lv_iload hx hb dX4_post_56 (lv_at hl 0 rfl) ?_
            refine lv_if_ne (tgt := 65) hx hb dX4_post_58 (by decide) (fun c58 => ?_) (fun c58 => absurd c58 (by decide))
            refine lv_iconst (v := 0) hx hb dX4_post_65 (by decide) ?_
            refine lv_iconst (v := 1) hx hb dX4_post_66 (by decide) ?_
            refine wx_calli (va_runV (As := [.int 0, .int 1]) (rest := []) ⟨hx, hb, hml, hown, hts⟩ (k_fails l hst g base n L (by omega) (st y 0 0 0 0) ch r0 st_eq 0 1 (by decide)) (cwV 2 hts gX4_post_X4_fails rfl rfl rfl (by decide +kernel) ⟨Nat.le_of_ble_eq_true rfl, Nat.le_of_ble_eq_true rfl⟩) (hPW.preV hP hS (ci := 6) rfl (by omega) mw_o) rfl rfl hl.1 rfl (lv_room (Nat.le_of_ble_eq_true rfl)) dX4_post_67 ⟨Nat.le_of_ble_eq_true rfl, Nat.le_of_ble_eq_true rfl⟩) hS (fun r67 u67 H locs h67 hP hS => ?_)
            obtain ⟨rfl, -, e9⟩ : r67 = 0 ∧ True ∧ u67 = st y 0 0 0 0 := by rcases h67 with ⟨a, -, b⟩ | ⟨-, b, -⟩; exact ⟨a, trivial, b⟩; exact absurd rfl b
            have e9 := e9.symm
            subst e9
            refine lv_if_ne (tgt := 95) hx hb dX4_post_70 (by decide) (fun c70 => absurd c70 (by decide)) (fun c70 => ?_)
            refine lv_aload_n hx hb dX4_post_73 rfl (lv_at hl 1 rfl) ?_
            refine lv_aload_n hx hb dX4_post_74 rfl (lv_at hl 1 rfl) ?_
            refine wx_get (D := g.1) (cl := vwCl) (ci := 6) (v := .int ((st y 0 0 0 0) 4 0 0)) (C := RX4) (T := TX4) (N := 22) hx hb hts iX4 hown hK hP (106) (by omega) mw_o rfl 4 (by decide) (hts (.fieldLink RX4 74 "FerroDeskModel" "notices" "I") (by decide +kernel)) (fun _ h9 => h9) rfl dX4_post_75 ?_
            refine lv_bipush (v := 40) hx hb dX4_post_78 (by decide) ?_
            refine lv_icmp_ne (tgt := 87) hx hb dX4_post_80 (by decide) (fun c80 => ?_) (fun c80 => absurd c80 ((by rw [st_ne (by decide), hy4]; decide)))
            refine lv_iconst (v := 0) hx hb dX4_post_87 (by decide) ?_
            refine lv_iconst (v := 2) hx hb dX4_post_88 (by decide) ?_
            refine wx_calli (va_runV (As := [.int 0, .int 2]) (rest := []) ⟨hx, hb, hml, hown, hts⟩ (k_fails l hst g base n L (by omega) (st y 0 0 0 0) ch r0 st_eq 0 2 (by decide)) (cwV 2 hts gX4_post_X4_fails rfl rfl rfl (by decide +kernel) ⟨Nat.le_of_ble_eq_true rfl, Nat.le_of_ble_eq_true rfl⟩) (hPW.preV hP hS (ci := 6) rfl (by omega) mw_o) rfl rfl hl.1 rfl (lv_room (Nat.le_of_ble_eq_true rfl)) dX4_post_89 ⟨Nat.le_of_ble_eq_true rfl, Nat.le_of_ble_eq_true rfl⟩) hS (fun r89 u89 H locs h89 hP hS => ?_)
            obtain ⟨rfl, -, e9⟩ : r89 = 0 ∧ True ∧ u89 = st y 0 0 0 0 := by rcases h89 with ⟨a, -, b⟩ | ⟨-, b, -⟩; exact ⟨a, trivial, b⟩; exact absurd rfl b
            have e9 := e9.symm
            subst e9
            refine lv_if_eq (tgt := 99) hx hb dX4_post_92 (by decide) (fun c92 => ?_) (fun c92 => absurd (by decide) c92)
            refine lv_aload_n hx hb dX4_post_99 rfl (lv_at hl 1 rfl) ?_
            refine lv_iload_n hx hb dX4_post_100 rfl (lv_at hl 2 rfl) ?_
            refine lv_iload_n hx hb dX4_post_101 rfl (lv_at hl 3 rfl) ?_
            refine lv_iload_n hx hb dX4_post_102 rfl (lv_at hl 4 rfl) ?_
            refine lv_iload hx hb dX4_post_103 (lv_at hl 5 rfl) ?_
            refine wx_calli (va_runV (As := [.int p0, .int p1, .int p2, .int p3]) (rest := []) ⟨hx, hb, hml, hown, hts⟩ (k_add l hst g base n L (by omega) (st y 0 0 0 0) ch r0 (st_ne (by decide) |>.trans hy4) p0 p1 p2 p3) (cwV 4 hts gX4_post_X4_add rfl rfl rfl (by decide +kernel) ⟨Nat.le_of_ble_eq_true rfl, Nat.le_of_ble_eq_true rfl⟩) (hPW.preV hP hS (ci := 6) rfl (by omega) mw_o) rfl rfl hl.1 rfl (lv_room (Nat.le_of_ble_eq_true rfl)) dX4_post_105 ⟨Nat.le_of_ble_eq_true rfl, Nat.le_of_ble_eq_true rfl⟩) hS (fun r105 u105 H locs h105 hP hS => ?_)
            obtain ⟨rfl, h105⟩ := h105
            rw [st_eq] at h105
            refine W.widen (k := 0) (n := 0) (Nat.le_of_ble_eq_true rfl) (Nat.le_of_ble_eq_true rfl) ?_
            exact W.iret (v := 0) hx hb hr (fun t ht hW => ⟨⟨0, u105, rfl, Or.inr ⟨(by revert h9 c16 h24 h36 c45; (try simp only [Int32.lt_iff_toInt_lt, Int32.le_iff_toInt_le, ← Int32.toInt_inj, i_0, i_1, i_2, i_3, i_4, i_6, i_9, i_20, i_32, i_40, i_48, i_60, i_200, i_999, i_2000, i_m1]); omega), h105, rfl⟩, PB.mk9 hP ht⟩, hS.F ht⟩) hS.2.2 dX4_post_108
        · refine lv_if_eq (tgt := 52) hx hb dX4_post_39 (by decide) (fun c39 => ?_) (fun c39 => absurd (by decide) c39)
          refine lv_iconst (v := 0) hx hb dX4_post_52 (by decide) ?_
          refine lv_istore (lv' := [(5, .int 0), (0, .ref (L 106)), (1, .int p0), (2, .int p1), (3, .int p2), (4, .int p3)]) hx hb dX4_post_53 hl (by decide) rfl (fun ls hl => ?_)
          refine lv_aload_n hx hb dX4_post_55 rfl (lv_at hl 1 rfl) ?_
          refine lv_iload hx hb dX4_post_56 (lv_at hl 0 rfl) ?_
          refine lv_if_ne (tgt := 65) hx hb dX4_post_58 (by decide) (fun c58 => absurd c58 (by decide)) (fun c58 => ?_)
          refine lv_iconst (v := 1) hx hb dX4_post_61 (by decide) ?_
          refine lv_goto (tgt := 66) hx hb dX4_post_62 (by decide) ?_
          refine lv_iconst (v := 1) hx hb dX4_post_66 (by decide) ?_
          refine wx_calli (va_runV (As := [.int 1, .int 1]) (rest := []) ⟨hx, hb, hml, hown, hts⟩ (k_fails l hst g base n L (by omega) (st y 0 0 0 0) ch r0 st_eq 1 1 (by decide)) (cwV 2 hts gX4_post_X4_fails rfl rfl rfl (by decide +kernel) ⟨Nat.le_of_ble_eq_true rfl, Nat.le_of_ble_eq_true rfl⟩) (hPW.preV hP hS (ci := 6) rfl (by omega) mw_o) rfl rfl hl.1 rfl (lv_room (Nat.le_of_ble_eq_true rfl)) dX4_post_67 ⟨Nat.le_of_ble_eq_true rfl, Nat.le_of_ble_eq_true rfl⟩) hS (fun r67 u67 H locs h67 hP hS => ?_)
          obtain ⟨rfl, -, e9⟩ : r67 = 1 ∧ True ∧ u67 = st (st y 0 0 0 0) 0 0 0 1 := by rcases h67 with ⟨-, b, -⟩ | ⟨a, -, b⟩; exact absurd b (by decide); exact ⟨a, trivial, b⟩
          have e9 := e9.symm
          subst e9
          refine lv_if_ne (tgt := 95) hx hb dX4_post_70 (by decide) (fun c70 => ?_) (fun c70 => absurd c70 (by decide))
          refine lv_iconst (v := 0) hx hb dX4_post_95 (by decide) ?_
          refine lv_goto (tgt := 108) hx hb dX4_post_96 (by decide) ?_
          refine W.widen (k := 0) (n := 0) (Nat.le_of_ble_eq_true rfl) (Nat.le_of_ble_eq_true rfl) ?_
          exact W.iret (v := 0) hx hb hr (fun t ht hW => ⟨⟨0, (st (st y 0 0 0 0) 0 0 0 1), rfl, Or.inl ⟨(by revert h9 c16 h24 h36; (try simp only [Int32.lt_iff_toInt_lt, Int32.le_iff_toInt_le, ← Int32.toInt_inj, i_0, i_1, i_2, i_3, i_4, i_6, i_9, i_20, i_32, i_40, i_48, i_60, i_200, i_999, i_2000, i_m1]); omega), st_eq⟩, PB.mk9 hP ht⟩, hS.F ht⟩) hS.2.2 dX4_post_108
      · refine lv_if_eq (tgt := 52) hx hb dX4_post_27 (by decide) (fun c27 => ?_) (fun c27 => absurd (by decide) c27)
        refine lv_iconst (v := 0) hx hb dX4_post_52 (by decide) ?_
        refine lv_istore (lv' := [(5, .int 0), (0, .ref (L 106)), (1, .int p0), (2, .int p1), (3, .int p2), (4, .int p3)]) hx hb dX4_post_53 hl (by decide) rfl (fun ls hl => ?_)
        refine lv_aload_n hx hb dX4_post_55 rfl (lv_at hl 1 rfl) ?_
        refine lv_iload hx hb dX4_post_56 (lv_at hl 0 rfl) ?_
        refine lv_if_ne (tgt := 65) hx hb dX4_post_58 (by decide) (fun c58 => absurd c58 (by decide)) (fun c58 => ?_)
        refine lv_iconst (v := 1) hx hb dX4_post_61 (by decide) ?_
        refine lv_goto (tgt := 66) hx hb dX4_post_62 (by decide) ?_
        refine lv_iconst (v := 1) hx hb dX4_post_66 (by decide) ?_
        refine wx_calli (va_runV (As := [.int 1, .int 1]) (rest := []) ⟨hx, hb, hml, hown, hts⟩ (k_fails l hst g base n L (by omega) (st y 0 0 0 0) ch r0 st_eq 1 1 (by decide)) (cwV 2 hts gX4_post_X4_fails rfl rfl rfl (by decide +kernel) ⟨Nat.le_of_ble_eq_true rfl, Nat.le_of_ble_eq_true rfl⟩) (hPW.preV hP hS (ci := 6) rfl (by omega) mw_o) rfl rfl hl.1 rfl (lv_room (Nat.le_of_ble_eq_true rfl)) dX4_post_67 ⟨Nat.le_of_ble_eq_true rfl, Nat.le_of_ble_eq_true rfl⟩) hS (fun r67 u67 H locs h67 hP hS => ?_)
        obtain ⟨rfl, -, e9⟩ : r67 = 1 ∧ True ∧ u67 = st (st y 0 0 0 0) 0 0 0 1 := by rcases h67 with ⟨-, b, -⟩ | ⟨a, -, b⟩; exact absurd b (by decide); exact ⟨a, trivial, b⟩
        have e9 := e9.symm
        subst e9
        refine lv_if_ne (tgt := 95) hx hb dX4_post_70 (by decide) (fun c70 => ?_) (fun c70 => absurd c70 (by decide))
        refine lv_iconst (v := 0) hx hb dX4_post_95 (by decide) ?_
        refine lv_goto (tgt := 108) hx hb dX4_post_96 (by decide) ?_
        refine W.widen (k := 0) (n := 0) (Nat.le_of_ble_eq_true rfl) (Nat.le_of_ble_eq_true rfl) ?_
        exact W.iret (v := 0) hx hb hr (fun t ht hW => ⟨⟨0, (st (st y 0 0 0 0) 0 0 0 1), rfl, Or.inl ⟨(by revert h9 c16 h24; (try simp only [Int32.lt_iff_toInt_lt, Int32.le_iff_toInt_le, ← Int32.toInt_inj, i_0, i_1, i_2, i_3, i_4, i_6, i_9, i_20, i_32, i_40, i_48, i_60, i_200, i_999, i_2000, i_m1]); omega), st_eq⟩, PB.mk9 hP ht⟩, hS.F ht⟩) hS.2.2 dX4_post_108
  · refine lv_if_eq (tgt := 52) hx hb dX4_post_12 (by decide) (fun c12 => ?_) (fun c12 => absurd (by decide) c12)
    refine lv_iconst (v := 0) hx hb dX4_post_52 (by decide) ?_
    refine lv_istore (lv' := [(5, .int 0), (0, .ref (L 106)), (1, .int p0), (2, .int p1), (3, .int p2), (4, .int p3)]) hx hb dX4_post_53 hl (by decide) rfl (fun ls hl => ?_)
    refine lv_aload_n hx hb dX4_post_55 rfl (lv_at hl 1 rfl) ?_
    refine lv_iload hx hb dX4_post_56 (lv_at hl 0 rfl) ?_
    refine lv_if_ne (tgt := 65) hx hb dX4_post_58 (by decide) (fun c58 => absurd c58 (by decide)) (fun c58 => ?_)
    refine lv_iconst (v := 1) hx hb dX4_post_61 (by decide) ?_
    refine lv_goto (tgt := 66) hx hb dX4_post_62 (by decide) ?_
    refine lv_iconst (v := 1) hx hb dX4_post_66 (by decide) ?_
    refine wx_calli (va_runV (As := [.int 1, .int 1]) (rest := []) ⟨hx, hb, hml, hown, hts⟩ (k_fails l hst g base n L (by omega) (st y 0 0 0 0) ch r0 st_eq 1 1 (by decide)) (cwV 2 hts gX4_post_X4_fails rfl rfl rfl (by decide +kernel) ⟨Nat.le_of_ble_eq_true rfl, Nat.le_of_ble_eq_true rfl⟩) (hPW.preV hP hS (ci := 6) rfl (by omega) mw_o) rfl rfl hl.1 rfl (lv_room (Nat.le_of_ble_eq_true rfl)) dX4_post_67 ⟨Nat.le_of_ble_eq_true rfl, Nat.le_of_ble_eq_true rfl⟩) hS (fun r67 u67 H locs h67 hP hS => ?_)
    obtain ⟨rfl, -, e9⟩ : r67 = 1 ∧ True ∧ u67 = st (st y 0 0 0 0) 0 0 0 1 := by rcases h67 with ⟨-, b, -⟩ | ⟨a, -, b⟩; exact absurd b (by decide); exact ⟨a, trivial, b⟩
    have e9 := e9.symm
    subst e9
    refine lv_if_ne (tgt := 95) hx hb dX4_post_70 (by decide) (fun c70 => ?_) (fun c70 => absurd c70 (by decide))
    refine lv_iconst (v := 0) hx hb dX4_post_95 (by decide) ?_
    refine lv_goto (tgt := 108) hx hb dX4_post_96 (by decide) ?_
    refine W.widen (k := 0) (n := 0) (Nat.le_of_ble_eq_true rfl) (Nat.le_of_ble_eq_true rfl) ?_
    exact W.iret (v := 0) hx hb hr (fun t ht hW => ⟨⟨0, (st (st y 0 0 0 0) 0 0 0 1), rfl, Or.inl ⟨(by revert h9; (try simp only [Int32.lt_iff_toInt_lt, Int32.le_iff_toInt_le, ← Int32.toInt_inj, i_0, i_1, i_2, i_3, i_4, i_6, i_9, i_20, i_32, i_40, i_48, i_60, i_200, i_999, i_2000, i_m1]); omega), st_eq⟩, PB.mk9 hP ht⟩, hS.F ht⟩) hS.2.2 dX4_post_108

set_option maxHeartbeats 4000000 in
set_option maxRecDepth 100000 in
theorem km_deny (l : Launch) (hst : l.stackTraces = false) (g : gE) (base n : Nat) (L : Nat → Nat) (hn : 123 ≤ n) (y : St) (ch : Int64) (r0 : Nat → va_E) (hy1 : y 1 0 0 = nI 0) (hy2 : y 2 0 0 = 2) (hy3 : y 3 0 0 = nI 0) (hy4 : y 4 0 0 = nI 0) (p0 p1 p2 : Int32) : Met l yX4_deny wsX4_deny ({ frames := 5, cells := 0, slots := 0, locals := 140 }) (va_Pc [.ref (L 106), .int p0, .int p1, .int p2] (PW SS g base n L (mw g L y ch r0))) (va_Qi (fun (r : Int32) (u : St) => ((p1.toInt < 0 ∨ 3 < p1.toInt ∨ p0.toInt = 0 ∨ p0.toInt = -1 ∨ p2.toInt ≤ 0 ∨ 2000 < p2.toInt) ∧ u 0 0 0 = 1) ∨ (¬ (p1.toInt < 0 ∨ 3 < p1.toInt ∨ p0.toInt = 0 ∨ p0.toInt = -1 ∨ p2.toInt ≤ 0 ∨ 2000 < p2.toInt) ∧ u 0 0 0 = 0 ∧ r = 0)) (fun (u : St) t => PB g n L (mw g L u ch r0) t) (fun q => base ≤ q)) 0 0 (fun q => base ≤ q) := by
  refine Met.ofW (cc := cX4_deny) (maxL := 6) (ret := (some .int)) (by decide) rfl ?_
  intro p e s m args below meth c s₁ B hml hv
  obtain ⟨rfl, hPW⟩ := hv
  obtain ⟨hbs, hJ, hP, hK, hE⟩ := id hPW
  have hx := B.exec
  have hb := B.bytes
  have hr := B.returns
  have hts := atoms_spec (ws := wsX4_deny) B.pre
  have hown : s.vm.findClass RX4 = some m.cls := findClass_of_methodNamed B.named
  have hlocks := B.notSynchronized
  have hS : va_S (fun q : Nat => base ≤ q) s.heap s.heap [] := va_S.rf
  have hl := lv_entry ([.ref (L 106), .int p0, .int p1, .int p2]) (n := 6) (Nat.le_of_ble_eq_true rfl)
  rw [lg_entry_eq]
  generalize (lg_sl ([.ref (L 106), .int p0, .int p1, .int p2]) ++ List.replicate (6 - (lg_sl ([.ref (L 106), .int p0, .int p1, .int p2])).length) Slot.unset).toArray = ls at hl ⊢
  have hl : lv_has ls 6 [(0, .ref (L 106)), (1, .int p0), (2, .int p1), (3, .int p2)] := hl
  have iX4 : ∀ w ∈ wsX40, w ∈ wsX4_deny := by decide +kernel
  refine lv_aload_n hx hb dX4_deny_0 rfl (lv_at hl 0 rfl) ?_
  refine lv_iconst (v := 0) hx hb dX4_deny_1 (by decide) ?_
  refine wx_put (D := g.1) (cl := vwCl) (ci := 6) (v := .int 0) (ty := .int) (w' := mw g L (st y 0 0 0 0) ch r0) (C := RX4) (T := TX4) (N := 22) hx hb hts iX4 tyX4 tyX4_ok nmX4 hown hK hP hJ hS (106) (by omega) mw_o rfl 0 (by decide) (hts (.fieldLink RX4 64 "FerroDeskModel" "thrown" "I") (by decide +kernel)) (fun _ h9 => h9) rfl (by decide +kernel) rfl rfl (Nat.le_of_ble_eq_true rfl) dX4_deny_2 (mw_put (r := 0) (i := 0) (j := 0) rfl (by omega) (mk_o.trans (by simp [mF, st]))) (fun H locs hP hS => ?_)
  refine lv_iload_n hx hb dX4_deny_5 rfl (lv_at hl 2 rfl) ?_
  refine wx_calli (va_runS (As := [.int p1]) (rest := []) ⟨hx, hb, hml, hown, hts⟩ (k_noDistrict l hst g base n L (mw g L (st y 0 0 0 0) ch r0) p1) (va_cwS 1 hts gX4_deny_X4_noDistrict rfl rfl rfl (by decide +kernel) ⟨Nat.le_of_ble_eq_true rfl, Nat.le_of_ble_eq_true rfl⟩) (hPW.preS hP hS) rfl rfl hl.1 rfl (lv_room (Nat.le_of_ble_eq_true rfl)) dX4_deny_6 ⟨Nat.le_of_ble_eq_true rfl, Nat.le_of_ble_eq_true rfl⟩) hS (fun r6 u6 H locs h6 hP hS => ?_)
  rcases h6 with ⟨rfl, h6⟩ | ⟨rfl, h6⟩
  · refine lv_if_ne (tgt := 42) hx hb dX4_deny_9 (by decide) (fun c9 => ?_) (fun c9 => absurd c9 (by decide))
    refine lv_iconst (v := 0) hx hb dX4_deny_42 (by decide) ?_
    refine lv_istore (lv' := [(4, .int 0), (0, .ref (L 106)), (1, .int p0), (2, .int p1), (3, .int p2)]) hx hb dX4_deny_43 hl (by decide) rfl (fun ls hl => ?_)
    refine lv_aload_n hx hb dX4_deny_45 rfl (lv_at hl 1 rfl) ?_
    refine lv_iload hx hb dX4_deny_46 (lv_at hl 0 rfl) ?_
    refine lv_if_ne (tgt := 55) hx hb dX4_deny_48 (by decide) (fun c48 => absurd c48 (by decide)) (fun c48 => ?_)
    refine lv_iconst (v := 1) hx hb dX4_deny_51 (by decide) ?_
    refine lv_goto (tgt := 56) hx hb dX4_deny_52 (by decide) ?_
    refine lv_iconst (v := 1) hx hb dX4_deny_56 (by decide) ?_
    refine wx_calli (va_runV (As := [.int 1, .int 1]) (rest := []) ⟨hx, hb, hml, hown, hts⟩ (k_fails l hst g base n L (by omega) (st y 0 0 0 0) ch r0 st_eq 1 1 (by decide)) (cwV 2 hts gX4_deny_X4_fails rfl rfl rfl (by decide +kernel) ⟨Nat.le_of_ble_eq_true rfl, Nat.le_of_ble_eq_true rfl⟩) (hPW.preV hP hS (ci := 6) rfl (by omega) mw_o) rfl rfl hl.1 rfl (lv_room (Nat.le_of_ble_eq_true rfl)) dX4_deny_57 ⟨Nat.le_of_ble_eq_true rfl, Nat.le_of_ble_eq_true rfl⟩) hS (fun r57 u57 H locs h57 hP hS => ?_)
    obtain ⟨rfl, -, e9⟩ : r57 = 1 ∧ True ∧ u57 = st (st y 0 0 0 0) 0 0 0 1 := by rcases h57 with ⟨-, b, -⟩ | ⟨a, -, b⟩; exact absurd b (by decide); exact ⟨a, trivial, b⟩
    have e9 := e9.symm
    subst e9
    refine lv_if_ne (tgt := 85) hx hb dX4_deny_60 (by decide) (fun c60 => ?_) (fun c60 => absurd c60 (by decide))
    refine lv_iconst (v := 0) hx hb dX4_deny_85 (by decide) ?_
    refine W.widen (k := 0) (n := 0) (Nat.le_of_ble_eq_true rfl) (Nat.le_of_ble_eq_true rfl) ?_
    exact W.iret (v := 0) hx hb hr (fun t ht hW => ⟨⟨0, (st (st y 0 0 0 0) 0 0 0 1), rfl, Or.inl ⟨(by revert h6; (try simp only [Int32.lt_iff_toInt_lt, Int32.le_iff_toInt_le, ← Int32.toInt_inj, i_0, i_1, i_2, i_3, i_4, i_6, i_9, i_20, i_32, i_40, i_48, i_60, i_200, i_999, i_2000, i_m1]); omega), st_eq⟩, PB.mk9 hP ht⟩, hS.F ht⟩) hS.2.2 dX4_deny_86
  · refine lv_if_ne (tgt := 42) hx hb dX4_deny_9 (by decide) (fun c9 => absurd c9 (by decide)) (fun c9 => ?_)
    refine lv_iload_n hx hb dX4_deny_12 rfl (lv_at hl 1 rfl) ?_
    refine lv_if_eq (tgt := 42) hx hb dX4_deny_13 (by decide) (fun c13 => ?_) (fun c13 => ?_)
    · refine lv_iconst (v := 0) hx hb dX4_deny_42 (by decide) ?_
      refine lv_istore (lv' := [(4, .int 0), (0, .ref (L 106)), (1, .int p0), (2, .int p1), (3, .int p2)]) hx hb dX4_deny_43 hl (by decide) rfl (fun ls hl => ?_)
      refine lv_aload_n hx hb dX4_deny_45 rfl (lv_at hl 1 rfl) ?_
      refine lv_iload hx hb dX4_deny_46 (lv_at hl 0 rfl) ?_
      refine lv_if_ne (tgt := 55) hx hb dX4_deny_48 (by decide) (fun c48 => absurd c48 (by decide)) (fun c48 => ?_)
      refine lv_iconst (v := 1) hx hb dX4_deny_51 (by decide) ?_
      refine lv_goto (tgt := 56) hx hb dX4_deny_52 (by decide) ?_
      refine lv_iconst (v := 1) hx hb dX4_deny_56 (by decide) ?_
      refine wx_calli (va_runV (As := [.int 1, .int 1]) (rest := []) ⟨hx, hb, hml, hown, hts⟩ (k_fails l hst g base n L (by omega) (st y 0 0 0 0) ch r0 st_eq 1 1 (by decide)) (cwV 2 hts gX4_deny_X4_fails rfl rfl rfl (by decide +kernel) ⟨Nat.le_of_ble_eq_true rfl, Nat.le_of_ble_eq_true rfl⟩) (hPW.preV hP hS (ci := 6) rfl (by omega) mw_o) rfl rfl hl.1 rfl (lv_room (Nat.le_of_ble_eq_true rfl)) dX4_deny_57 ⟨Nat.le_of_ble_eq_true rfl, Nat.le_of_ble_eq_true rfl⟩) hS (fun r57 u57 H locs h57 hP hS => ?_)
      obtain ⟨rfl, -, e9⟩ : r57 = 1 ∧ True ∧ u57 = st (st y 0 0 0 0) 0 0 0 1 := by rcases h57 with ⟨-, b, -⟩ | ⟨a, -, b⟩; exact absurd b (by decide); exact ⟨a, trivial, b⟩
      have e9 := e9.symm
      subst e9
      refine lv_if_ne (tgt := 85) hx hb dX4_deny_60 (by decide) (fun c60 => ?_) (fun c60 => absurd c60 (by decide))
      refine lv_iconst (v := 0) hx hb dX4_deny_85 (by decide) ?_
      refine W.widen (k := 0) (n := 0) (Nat.le_of_ble_eq_true rfl) (Nat.le_of_ble_eq_true rfl) ?_
      exact W.iret (v := 0) hx hb hr (fun t ht hW => ⟨⟨0, (st (st y 0 0 0 0) 0 0 0 1), rfl, Or.inl ⟨(by revert h6 c13; (try simp only [Int32.lt_iff_toInt_lt, Int32.le_iff_toInt_le, ← Int32.toInt_inj, i_0, i_1, i_2, i_3, i_4, i_6, i_9, i_20, i_32, i_40, i_48, i_60, i_200, i_999, i_2000, i_m1]); omega), st_eq⟩, PB.mk9 hP ht⟩, hS.F ht⟩) hS.2.2 dX4_deny_86
    · refine lv_iload_n hx hb dX4_deny_16 rfl (lv_at hl 1 rfl) ?_
      refine lv_iconst (v := (-1)) hx hb dX4_deny_17 (by decide) ?_
      refine lv_ixor hx hb dX4_deny_18 ?_
      refine lv_if_eq (tgt := 42) hx hb dX4_deny_19 (by decide) (fun c19 => ?_) (fun c19 => ?_)
      · refine lv_iconst (v := 0) hx hb dX4_deny_42 (by decide) ?_
        refine lv_istore (lv' := [(4, .int 0), (0, .ref (L 106)), (1, .int p0), (2, .int p1), (3, .int p2)]) hx hb dX4_deny_43 hl (by decide) rfl (fun ls hl => ?_)
        refine lv_aload_n hx hb dX4_deny_45 rfl (lv_at hl 1 rfl) ?_
        refine lv_iload hx hb dX4_deny_46 (lv_at hl 0 rfl) ?_
        refine lv_if_ne (tgt := 55) hx hb dX4_deny_48 (by decide) (fun c48 => absurd c48 (by decide)) (fun c48 => ?_)
        refine lv_iconst (v := 1) hx hb dX4_deny_51 (by decide) ?_
        refine lv_goto (tgt := 56) hx hb dX4_deny_52 (by decide) ?_
        refine lv_iconst (v := 1) hx hb dX4_deny_56 (by decide) ?_
        refine wx_calli (va_runV (As := [.int 1, .int 1]) (rest := []) ⟨hx, hb, hml, hown, hts⟩ (k_fails l hst g base n L (by omega) (st y 0 0 0 0) ch r0 st_eq 1 1 (by decide)) (cwV 2 hts gX4_deny_X4_fails rfl rfl rfl (by decide +kernel) ⟨Nat.le_of_ble_eq_true rfl, Nat.le_of_ble_eq_true rfl⟩) (hPW.preV hP hS (ci := 6) rfl (by omega) mw_o) rfl rfl hl.1 rfl (lv_room (Nat.le_of_ble_eq_true rfl)) dX4_deny_57 ⟨Nat.le_of_ble_eq_true rfl, Nat.le_of_ble_eq_true rfl⟩) hS (fun r57 u57 H locs h57 hP hS => ?_)
        obtain ⟨rfl, -, e9⟩ : r57 = 1 ∧ True ∧ u57 = st (st y 0 0 0 0) 0 0 0 1 := by rcases h57 with ⟨-, b, -⟩ | ⟨a, -, b⟩; exact absurd b (by decide); exact ⟨a, trivial, b⟩
        have e9 := e9.symm
        subst e9
        refine lv_if_ne (tgt := 85) hx hb dX4_deny_60 (by decide) (fun c60 => ?_) (fun c60 => absurd c60 (by decide))
        refine lv_iconst (v := 0) hx hb dX4_deny_85 (by decide) ?_
        refine W.widen (k := 0) (n := 0) (Nat.le_of_ble_eq_true rfl) (Nat.le_of_ble_eq_true rfl) ?_
        exact W.iret (v := 0) hx hb hr (fun t ht hW => ⟨⟨0, (st (st y 0 0 0 0) 0 0 0 1), rfl, Or.inl ⟨(by revert h6 c13 c19; (try simp only [xor_m1]); (try simp only [Int32.lt_iff_toInt_lt, Int32.le_iff_toInt_le, ← Int32.toInt_inj, i_0, i_1, i_2, i_3, i_4, i_6, i_9, i_20, i_32, i_40, i_48, i_60, i_200, i_999, i_2000, i_m1]); omega), st_eq⟩, PB.mk9 hP ht⟩, hS.F ht⟩) hS.2.2 dX4_deny_86
      · refine lv_iload_n hx hb dX4_deny_22 rfl (lv_at hl 3 rfl) ?_
        refine lv_aload_n hx hb dX4_deny_23 rfl (lv_at hl 0 rfl) ?_
        refine wx_get (D := g.1) (cl := vwCl) (ci := 6) (v := .int ((st y 0 0 0 0) 1 0 0)) (C := RX4) (T := TX4) (N := 22) hx hb hts iX4 hown hK hP (106) (by omega) mw_o rfl 1 (by decide) (hts (.fieldLink RX4 101 "FerroDeskModel" "hour" "I") (by decide +kernel)) (fun _ h9 => h9) rfl dX4_deny_24 ?_
        refine lv_iconst (v := 1) hx hb dX4_deny_27 (by decide) ?_
        refine lv_iadd hx hb dX4_deny_28 ?_
        have e1 : (st y 0 0 0 0) 1 0 0 + 1 = 1 := by rw [st_ne (by decide), hy1]; decide
        refine lv_sipush (v := 2000) hx hb dX4_deny_29 (by decide) ?_
        refine wx_calli (va_runS (As := [.int p2, .int (((st y 0 0 0 0) 1 0 0) + 1), .int 2000]) (rest := []) ⟨hx, hb, hml, hown, hts⟩ (k_in l hst g base n L (mw g L (st y 0 0 0 0) ch r0) p2 (((st y 0 0 0 0) 1 0 0) + 1) 2000) (va_cwS 3 hts gX4_deny_X4_in rfl rfl rfl (by decide +kernel) ⟨Nat.le_of_ble_eq_true rfl, Nat.le_of_ble_eq_true rfl⟩) (hPW.preS hP hS) rfl rfl hl.1 rfl (lv_room (Nat.le_of_ble_eq_true rfl)) dX4_deny_32 ⟨Nat.le_of_ble_eq_true rfl, Nat.le_of_ble_eq_true rfl⟩) hS (fun r32 u32 H locs h32 hP hS => ?_)
        rcases h32 with ⟨rfl, h32⟩ | ⟨rfl, h32⟩
        · rw [e1] at h32
          refine lv_if_eq (tgt := 42) hx hb dX4_deny_35 (by decide) (fun c35 => absurd c35 (by decide)) (fun c35 => ?_)
          refine lv_iconst (v := 1) hx hb dX4_deny_38 (by decide) ?_
          refine lv_goto (tgt := 43) hx hb dX4_deny_39 (by decide) ?_
          refine lv_istore (lv' := [(4, .int 1), (0, .ref (L 106)), (1, .int p0), (2, .int p1), (3, .int p2)]) hx hb dX4_deny_43 hl (by decide) rfl (fun ls hl => ?_)
          refine lv_aload_n hx hb dX4_deny_45 rfl (lv_at hl 1 rfl) ?_
          refine lv_iload hx hb dX4_deny_46 (lv_at hl 0 rfl) ?_
          refine lv_if_ne (tgt := 55) hx hb dX4_deny_48 (by decide) (fun c48 => ?_) (fun c48 => absurd c48 (by decide))
          refine lv_iconst (v := 0) hx hb dX4_deny_55 (by decide) ?_
          refine lv_iconst (v := 1) hx hb dX4_deny_56 (by decide) ?_
          refine wx_calli (va_runV (As := [.int 0, .int 1]) (rest := []) ⟨hx, hb, hml, hown, hts⟩ (k_fails l hst g base n L (by omega) (st y 0 0 0 0) ch r0 st_eq 0 1 (by decide)) (cwV 2 hts gX4_deny_X4_fails rfl rfl rfl (by decide +kernel) ⟨Nat.le_of_ble_eq_true rfl, Nat.le_of_ble_eq_true rfl⟩) (hPW.preV hP hS (ci := 6) rfl (by omega) mw_o) rfl rfl hl.1 rfl (lv_room (Nat.le_of_ble_eq_true rfl)) dX4_deny_57 ⟨Nat.le_of_ble_eq_true rfl, Nat.le_of_ble_eq_true rfl⟩) hS (fun r57 u57 H locs h57 hP hS => ?_)
          obtain ⟨rfl, -, e9⟩ : r57 = 0 ∧ True ∧ u57 = st y 0 0 0 0 := by rcases h57 with ⟨a, -, b⟩ | ⟨-, b, -⟩; exact ⟨a, trivial, b⟩; exact absurd rfl b
          have e9 := e9.symm
          subst e9
          refine lv_if_ne (tgt := 85) hx hb dX4_deny_60 (by decide) (fun c60 => absurd c60 (by decide)) (fun c60 => ?_)
          refine lv_aload_n hx hb dX4_deny_63 rfl (lv_at hl 1 rfl) ?_
          refine lv_aload_n hx hb dX4_deny_64 rfl (lv_at hl 1 rfl) ?_
          refine wx_get (D := g.1) (cl := vwCl) (ci := 6) (v := .int ((st y 0 0 0 0) 4 0 0)) (C := RX4) (T := TX4) (N := 22) hx hb hts iX4 hown hK hP (106) (by omega) mw_o rfl 4 (by decide) (hts (.fieldLink RX4 74 "FerroDeskModel" "notices" "I") (by decide +kernel)) (fun _ h9 => h9) rfl dX4_deny_65 ?_
          refine lv_bipush (v := 40) hx hb dX4_deny_68 (by decide) ?_
          refine lv_icmp_ne (tgt := 77) hx hb dX4_deny_70 (by decide) (fun c70 => ?_) (fun c70 => absurd c70 ((by rw [st_ne (by decide), hy4]; decide)))
          refine lv_iconst (v := 0) hx hb dX4_deny_77 (by decide) ?_
          refine lv_iconst (v := 2) hx hb dX4_deny_78 (by decide) ?_
          refine wx_calli (va_runV (As := [.int 0, .int 2]) (rest := []) ⟨hx, hb, hml, hown, hts⟩ (k_fails l hst g base n L (by omega) (st y 0 0 0 0) ch r0 st_eq 0 2 (by decide)) (cwV 2 hts gX4_deny_X4_fails rfl rfl rfl (by decide +kernel) ⟨Nat.le_of_ble_eq_true rfl, Nat.le_of_ble_eq_true rfl⟩) (hPW.preV hP hS (ci := 6) rfl (by omega) mw_o) rfl rfl hl.1 rfl (lv_room (Nat.le_of_ble_eq_true rfl)) dX4_deny_79 ⟨Nat.le_of_ble_eq_true rfl, Nat.le_of_ble_eq_true rfl⟩) hS (fun r79 u79 H locs h79 hP hS => ?_)
          obtain ⟨rfl, -, e9⟩ : r79 = 0 ∧ True ∧ u79 = st y 0 0 0 0 := by rcases h79 with ⟨a, -, b⟩ | ⟨-, b, -⟩; exact ⟨a, trivial, b⟩; exact absurd rfl b
          have e9 := e9.symm
          subst e9
          refine lv_if_eq (tgt := 87) hx hb dX4_deny_82 (by decide) (fun c82 => ?_) (fun c82 => absurd (by decide) c82)
          refine lv_aload_n hx hb dX4_deny_87 rfl (lv_at hl 1 rfl) ?_
          refine lv_bipush (v := 10) hx hb dX4_deny_88 (by decide) ?_
          refine lv_iload_n hx hb dX4_deny_90 rfl (lv_at hl 2 rfl) ?_
          refine lv_iconst (v := (-1)) hx hb dX4_deny_91 (by decide) ?_
          refine lv_ixor hx hb dX4_deny_92 ?_
          refine lv_aload_n hx hb dX4_deny_93 rfl (lv_at hl 1 rfl) ?_
          refine wx_get (D := g.1) (cl := vwCl) (ci := 6) (v := .int ((st y 0 0 0 0) 1 0 0)) (C := RX4) (T := TX4) (N := 22) hx hb hts iX4 hown hK hP (106) (by omega) mw_o rfl 1 (by decide) (hts (.fieldLink RX4 101 "FerroDeskModel" "hour" "I") (by decide +kernel)) (fun _ h9 => h9) rfl dX4_deny_94 ?_
          refine lv_iload_n hx hb dX4_deny_97 rfl (lv_at hl 4 rfl) ?_
          refine wx_calli (va_runV (As := [.int 10, .int (p0 ^^^ (-1)), .int ((st y 0 0 0 0) 1 0 0), .int p2]) (rest := []) ⟨hx, hb, hml, hown, hts⟩ (k_add l hst g base n L (by omega) (st y 0 0 0 0) ch r0 (st_ne (by decide) |>.trans hy4) 10 (p0 ^^^ (-1)) ((st y 0 0 0 0) 1 0 0) p2) (cwV 4 hts gX4_deny_X4_add rfl rfl rfl (by decide +kernel) ⟨Nat.le_of_ble_eq_true rfl, Nat.le_of_ble_eq_true rfl⟩) (hPW.preV hP hS (ci := 6) rfl (by omega) mw_o) rfl rfl hl.1 rfl (lv_room (Nat.le_of_ble_eq_true rfl)) dX4_deny_98 ⟨Nat.le_of_ble_eq_true rfl, Nat.le_of_ble_eq_true rfl⟩) hS (fun r98 u98 H locs h98 hP hS => ?_)
          obtain ⟨rfl, h98⟩ := h98
          rw [st_eq] at h98
          refine lv_istore (lv' := [(5, .int 0), (4, .int 1), (0, .ref (L 106)), (1, .int p0), (2, .int p1), (3, .int p2)]) hx hb dX4_deny_101 hl (by decide) rfl (fun ls hl => ?_)
          refine lv_aload_n hx hb dX4_deny_103 rfl (lv_at hl 2 rfl) ?_
          refine wx_get (D := g.1) (cl := vwCl) (ci := 6) (v := .ref (L 120)) (C := RX4) (T := TX4) (N := 22) hx hb hts iX4 hown hK hP (106) (by omega) mw_o rfl 19 (by decide) (hts (.fieldLink RX4 54 "FerroDeskModel" "isQueued" "[Z") (by decide +kernel)) (fun _ h9 => h9) rfl dX4_deny_104 ?_
          refine lv_iconst (v := 4) hx hb dX4_deny_107 (by decide) ?_
          refine lv_iload hx hb dX4_deny_108 (lv_at hl 0 rfl) ?_
          refine lv_imul hx hb dX4_deny_110 ?_
          refine lv_iload_n hx hb dX4_deny_111 rfl (lv_at hl 4 rfl) ?_
          refine lv_iadd hx hb dX4_deny_112 ?_
          refine lv_iconst (v := 1) hx hb dX4_deny_113 (by decide) ?_
          refine wx_zast (D := g.1) (cl := vwCl) (f := fun j => u98 23 0 j) (w' := mw g L (st u98 23 0 (((4 * 0) + p1).toNatClampNeg) 1) ch r0) hx hb hK hP hJ hS (120) 3 (by omega) (mw_a (by decide) (by decide)) rfl (i := (4 * 0) + p1) (by show vp_in (4 * 0 + p1) 160; rw [show (4 : Int32) * 0 + p1 = p1 from by simp]; exact vp_in_iff.mpr ⟨by omega, by omega⟩) (by decide) dX4_deny_114 (mw_st (r := 23) rfl (by decide) (by decide) rfl rfl rfl) (fun H locs hP hS => ?_)
          refine lv_iload hx hb dX4_deny_115 (lv_at hl 0 rfl) ?_
          refine W.widen (k := 0) (n := 0) (Nat.le_of_ble_eq_true rfl) (Nat.le_of_ble_eq_true rfl) ?_
          exact W.iret (v := 0) hx hb hr (fun t ht hW => ⟨⟨0, (st u98 23 0 (((4 * 0) + p1).toNatClampNeg) 1), rfl, Or.inr ⟨(by revert h6 c13 c19 h32; (try simp only [xor_m1]); (try simp only [Int32.lt_iff_toInt_lt, Int32.le_iff_toInt_le, ← Int32.toInt_inj, i_0, i_1, i_2, i_3, i_4, i_6, i_9, i_20, i_32, i_40, i_48, i_60, i_200, i_999, i_2000, i_m1]); omega), (by rw [st_ne (fun h9 => absurd h9.1 (by decide))]; exact h98), rfl⟩, PB.mk9 hP ht⟩, hS.F ht⟩) hS.2.2 dX4_deny_117
        · rw [e1] at h32
          refine lv_if_eq (tgt := 42) hx hb dX4_deny_35 (by decide) (fun c35 => ?_) (fun c35 => absurd (by decide) c35)
          refine lv_iconst (v := 0) hx hb dX4_deny_42 (by decide) ?_
          refine lv_istore (lv' := [(4, .int 0), (0, .ref (L 106)), (1, .int p0), (2, .int p1), (3, .int p2)]) hx hb dX4_deny_43 hl (by decide) rfl (fun ls hl => ?_)
          refine lv_aload_n hx hb dX4_deny_45 rfl (lv_at hl 1 rfl) ?_
          refine lv_iload hx hb dX4_deny_46 (lv_at hl 0 rfl) ?_
          refine lv_if_ne (tgt := 55) hx hb dX4_deny_48 (by decide) (fun c48 => absurd c48 (by decide)) (fun c48 => ?_)
          refine lv_iconst (v := 1) hx hb dX4_deny_51 (by decide) ?_
          refine lv_goto (tgt := 56) hx hb dX4_deny_52 (by decide) ?_
          refine lv_iconst (v := 1) hx hb dX4_deny_56 (by decide) ?_
          refine wx_calli (va_runV (As := [.int 1, .int 1]) (rest := []) ⟨hx, hb, hml, hown, hts⟩ (k_fails l hst g base n L (by omega) (st y 0 0 0 0) ch r0 st_eq 1 1 (by decide)) (cwV 2 hts gX4_deny_X4_fails rfl rfl rfl (by decide +kernel) ⟨Nat.le_of_ble_eq_true rfl, Nat.le_of_ble_eq_true rfl⟩) (hPW.preV hP hS (ci := 6) rfl (by omega) mw_o) rfl rfl hl.1 rfl (lv_room (Nat.le_of_ble_eq_true rfl)) dX4_deny_57 ⟨Nat.le_of_ble_eq_true rfl, Nat.le_of_ble_eq_true rfl⟩) hS (fun r57 u57 H locs h57 hP hS => ?_)
          obtain ⟨rfl, -, e9⟩ : r57 = 1 ∧ True ∧ u57 = st (st y 0 0 0 0) 0 0 0 1 := by rcases h57 with ⟨-, b, -⟩ | ⟨a, -, b⟩; exact absurd b (by decide); exact ⟨a, trivial, b⟩
          have e9 := e9.symm
          subst e9
          refine lv_if_ne (tgt := 85) hx hb dX4_deny_60 (by decide) (fun c60 => ?_) (fun c60 => absurd c60 (by decide))
          refine lv_iconst (v := 0) hx hb dX4_deny_85 (by decide) ?_
          refine W.widen (k := 0) (n := 0) (Nat.le_of_ble_eq_true rfl) (Nat.le_of_ble_eq_true rfl) ?_
          exact W.iret (v := 0) hx hb hr (fun t ht hW => ⟨⟨0, (st (st y 0 0 0 0) 0 0 0 1), rfl, Or.inl ⟨(by revert h6 c13 c19 h32; (try simp only [xor_m1]); (try simp only [Int32.lt_iff_toInt_lt, Int32.le_iff_toInt_le, ← Int32.toInt_inj, i_0, i_1, i_2, i_3, i_4, i_6, i_9, i_20, i_32, i_40, i_48, i_60, i_200, i_999, i_2000, i_m1]); omega), st_eq⟩, PB.mk9 hP ht⟩, hS.F ht⟩) hS.2.2 dX4_deny_86

set_option maxHeartbeats 4000000 in
set_option maxRecDepth 100000 in
theorem km_queued (l : Launch) (hst : l.stackTraces = false) (g : gE) (base n : Nat) (L : Nat → Nat) (hn : 123 ≤ n) (y : St) (ch : Int64) (r0 : Nat → va_E) (hy1 : y 1 0 0 = nI 0) (hy2 : y 2 0 0 = 2) (hy3 : y 3 0 0 = nI 0) (hy4 : y 4 0 0 = nI 0) (p0 : Int32) : Met l yX4_queued wsX4_queued ({ frames := 5, cells := 0, slots := 0, locals := 140 }) (va_Pc [.ref (L 106), .int p0] (PW SS g base n L (mw g L y ch r0))) (va_Qi (fun (r : Int32) (u : St) => ((p0.toInt < 0 ∨ 3 < p0.toInt) ∧ u 0 0 0 = 1) ∨ (¬ (p0.toInt < 0 ∨ 3 < p0.toInt) ∧ u 0 0 0 = 0 ∧ r = 0)) (fun (u : St) t => PB g n L (mw g L u ch r0) t) (fun q => base ≤ q)) 0 0 (fun q => base ≤ q) := by
  refine Met.ofW (cc := cX4_queued) (maxL := 2) (ret := (some .int)) (by decide) rfl ?_
  intro p e s m args below meth c s₁ B hml hv
  obtain ⟨rfl, hPW⟩ := hv
  obtain ⟨hbs, hJ, hP, hK, hE⟩ := id hPW
  have hx := B.exec
  have hb := B.bytes
  have hr := B.returns
  have hts := atoms_spec (ws := wsX4_queued) B.pre
  have hown : s.vm.findClass RX4 = some m.cls := findClass_of_methodNamed B.named
  have hlocks := B.notSynchronized
  have hS : va_S (fun q : Nat => base ≤ q) s.heap s.heap [] := va_S.rf
  have hl := lv_entry ([.ref (L 106), .int p0]) (n := 2) (Nat.le_of_ble_eq_true rfl)
  rw [lg_entry_eq]
  generalize (lg_sl ([.ref (L 106), .int p0]) ++ List.replicate (2 - (lg_sl ([.ref (L 106), .int p0])).length) Slot.unset).toArray = ls at hl ⊢
  have hl : lv_has ls 2 [(0, .ref (L 106)), (1, .int p0)] := hl
  have iX4 : ∀ w ∈ wsX40, w ∈ wsX4_queued := by decide +kernel
  refine lv_aload_n hx hb dX4_queued_0 rfl (lv_at hl 0 rfl) ?_
  refine lv_iconst (v := 0) hx hb dX4_queued_1 (by decide) ?_
  refine wx_put (D := g.1) (cl := vwCl) (ci := 6) (v := .int 0) (ty := .int) (w' := mw g L (st y 0 0 0 0) ch r0) (C := RX4) (T := TX4) (N := 22) hx hb hts iX4 tyX4 tyX4_ok nmX4 hown hK hP hJ hS (106) (by omega) mw_o rfl 0 (by decide) (hts (.fieldLink RX4 64 "FerroDeskModel" "thrown" "I") (by decide +kernel)) (fun _ h9 => h9) rfl (by decide +kernel) rfl rfl (Nat.le_of_ble_eq_true rfl) dX4_queued_2 (mw_put (r := 0) (i := 0) (j := 0) rfl (by omega) (mk_o.trans (by simp [mF, st]))) (fun H locs hP hS => ?_)
  refine lv_aload_n hx hb dX4_queued_5 rfl (lv_at hl 0 rfl) ?_
  refine lv_iload_n hx hb dX4_queued_6 rfl (lv_at hl 1 rfl) ?_
  refine wx_calli (va_runS (As := [.int p0]) (rest := [.ref (L 106)]) ⟨hx, hb, hml, hown, hts⟩ (k_noDistrict l hst g base n L (mw g L (st y 0 0 0 0) ch r0) p0) (va_cwS 1 hts gX4_queued_X4_noDistrict rfl rfl rfl (by decide +kernel) ⟨Nat.le_of_ble_eq_true rfl, Nat.le_of_ble_eq_true rfl⟩) (hPW.preS hP hS) rfl rfl hl.1 rfl (lv_room (Nat.le_of_ble_eq_true rfl)) dX4_queued_7 ⟨Nat.le_of_ble_eq_true rfl, Nat.le_of_ble_eq_true rfl⟩) hS (fun r7 u7 H locs h7 hP hS => ?_)
  rcases h7 with ⟨rfl, h7⟩ | ⟨rfl, h7⟩
  · refine lv_iconst (v := 1) hx hb dX4_queued_10 (by decide) ?_
    refine wx_calli (va_runV (As := [.int 1, .int 1]) (rest := []) ⟨hx, hb, hml, hown, hts⟩ (k_fails l hst g base n L (by omega) (st y 0 0 0 0) ch r0 st_eq 1 1 (by decide)) (cwV 2 hts gX4_queued_X4_fails rfl rfl rfl (by decide +kernel) ⟨Nat.le_of_ble_eq_true rfl, Nat.le_of_ble_eq_true rfl⟩) (hPW.preV hP hS (ci := 6) rfl (by omega) mw_o) rfl rfl hl.1 rfl (lv_room (Nat.le_of_ble_eq_true rfl)) dX4_queued_11 ⟨Nat.le_of_ble_eq_true rfl, Nat.le_of_ble_eq_true rfl⟩) hS (fun r11 u11 H locs h11 hP hS => ?_)
    obtain ⟨rfl, -, e9⟩ : r11 = 1 ∧ True ∧ u11 = st (st y 0 0 0 0) 0 0 0 1 := by rcases h11 with ⟨-, b, -⟩ | ⟨a, -, b⟩; exact absurd b (by decide); exact ⟨a, trivial, b⟩
    have e9 := e9.symm
    subst e9
    refine lv_if_eq (tgt := 21) hx hb dX4_queued_14 (by decide) (fun c14 => absurd c14 (by decide)) (fun c14 => ?_)
    refine lv_iconst (v := 0) hx hb dX4_queued_17 (by decide) ?_
    refine lv_goto (tgt := 26) hx hb dX4_queued_18 (by decide) ?_
    refine W.widen (k := 0) (n := 0) (Nat.le_of_ble_eq_true rfl) (Nat.le_of_ble_eq_true rfl) ?_
    exact W.iret (v := 0) hx hb hr (fun t ht hW => ⟨⟨0, (st (st y 0 0 0 0) 0 0 0 1), rfl, Or.inl ⟨(by revert h7; (try simp only [Int32.lt_iff_toInt_lt, Int32.le_iff_toInt_le, ← Int32.toInt_inj, i_0, i_1, i_2, i_3, i_4, i_6, i_9, i_20, i_32, i_40, i_48, i_60, i_200, i_999, i_2000, i_m1]); omega), st_eq⟩, PB.mk9 hP ht⟩, hS.F ht⟩) hS.2.2 dX4_queued_26
  · refine lv_iconst (v := 1) hx hb dX4_queued_10 (by decide) ?_
    refine wx_calli (va_runV (As := [.int 0, .int 1]) (rest := []) ⟨hx, hb, hml, hown, hts⟩ (k_fails l hst g base n L (by omega) (st y 0 0 0 0) ch r0 st_eq 0 1 (by decide)) (cwV 2 hts gX4_queued_X4_fails rfl rfl rfl (by decide +kernel) ⟨Nat.le_of_ble_eq_true rfl, Nat.le_of_ble_eq_true rfl⟩) (hPW.preV hP hS (ci := 6) rfl (by omega) mw_o) rfl rfl hl.1 rfl (lv_room (Nat.le_of_ble_eq_true rfl)) dX4_queued_11 ⟨Nat.le_of_ble_eq_true rfl, Nat.le_of_ble_eq_true rfl⟩) hS (fun r11 u11 H locs h11 hP hS => ?_)
    obtain ⟨rfl, -, e9⟩ : r11 = 0 ∧ True ∧ u11 = st y 0 0 0 0 := by rcases h11 with ⟨a, -, b⟩ | ⟨-, b, -⟩; exact ⟨a, trivial, b⟩; exact absurd rfl b
    have e9 := e9.symm
    subst e9
    refine lv_if_eq (tgt := 21) hx hb dX4_queued_14 (by decide) (fun c14 => ?_) (fun c14 => absurd (by decide) c14)
    refine lv_aload_n hx hb dX4_queued_21 rfl (lv_at hl 0 rfl) ?_
    refine lv_iload_n hx hb dX4_queued_22 rfl (lv_at hl 1 rfl) ?_
    refine wx_calli (va_runV (As := [.int p0]) (rest := []) ⟨hx, hb, hml, hown, hts⟩ (k_manyQueued l hst g base n L (by omega) (st y 0 0 0 0) ch r0 (st_ne (by decide) |>.trans hy4) p0) (cwV 1 hts gX4_queued_X4_manyQueued rfl rfl rfl (by decide +kernel) ⟨Nat.le_of_ble_eq_true rfl, Nat.le_of_ble_eq_true rfl⟩) (hPW.preV hP hS (ci := 6) rfl (by omega) mw_o) rfl rfl hl.1 rfl (lv_room (Nat.le_of_ble_eq_true rfl)) dX4_queued_23 ⟨Nat.le_of_ble_eq_true rfl, Nat.le_of_ble_eq_true rfl⟩) hS (fun r23 u23 H locs h23 hP hS => ?_)
    obtain ⟨rfl, e9⟩ := h23
    have e9 := e9.symm
    subst e9
    refine W.widen (k := 0) (n := 0) (Nat.le_of_ble_eq_true rfl) (Nat.le_of_ble_eq_true rfl) ?_
    exact W.iret (v := 0) hx hb hr (fun t ht hW => ⟨⟨0, (st y 0 0 0 0), rfl, Or.inr ⟨(by revert h7; (try simp only [Int32.lt_iff_toInt_lt, Int32.le_iff_toInt_le, ← Int32.toInt_inj, i_0, i_1, i_2, i_3, i_4, i_6, i_9, i_20, i_32, i_40, i_48, i_60, i_200, i_999, i_2000, i_m1]); omega), st_eq, rfl⟩, PB.mk9 hP ht⟩, hS.F ht⟩) hS.2.2 dX4_queued_26

set_option maxHeartbeats 4000000 in
set_option maxRecDepth 100000 in
theorem km_queuedAt (l : Launch) (hst : l.stackTraces = false) (g : gE) (base n : Nat) (L : Nat → Nat) (hn : 123 ≤ n) (y : St) (ch : Int64) (r0 : Nat → va_E) (hy1 : y 1 0 0 = nI 0) (hy2 : y 2 0 0 = 2) (hy3 : y 3 0 0 = nI 0) (hy4 : y 4 0 0 = nI 0) (p0 p1 : Int32) : Met l yX4_queuedAt wsX4_queuedAt ({ frames := 5, cells := 0, slots := 0, locals := 140 }) (va_Pc [.ref (L 106), .int p0, .int p1] (PW SS g base n L (mw g L y ch r0))) (va_Qi (fun (_ : Int32) (u : St) => ((p0.toInt < 0 ∨ 3 < p0.toInt) ∧ u 0 0 0 = 1) ∨ (¬ (p0.toInt < 0 ∨ 3 < p0.toInt) ∧ u 0 0 0 = 2)) (fun (u : St) t => PB g n L (mw g L u ch r0) t) (fun q => base ≤ q)) 0 0 (fun q => base ≤ q) := by
  refine Met.ofW (cc := cX4_queuedAt) (maxL := 3) (ret := (some .int)) (by decide) rfl ?_
  intro p e s m args below meth c s₁ B hml hv
  obtain ⟨rfl, hPW⟩ := hv
  obtain ⟨hbs, hJ, hP, hK, hE⟩ := id hPW
  have hx := B.exec
  have hb := B.bytes
  have hr := B.returns
  have hts := atoms_spec (ws := wsX4_queuedAt) B.pre
  have hown : s.vm.findClass RX4 = some m.cls := findClass_of_methodNamed B.named
  have hlocks := B.notSynchronized
  have hS : va_S (fun q : Nat => base ≤ q) s.heap s.heap [] := va_S.rf
  have hl := lv_entry ([.ref (L 106), .int p0, .int p1]) (n := 3) (Nat.le_of_ble_eq_true rfl)
  rw [lg_entry_eq]
  generalize (lg_sl ([.ref (L 106), .int p0, .int p1]) ++ List.replicate (3 - (lg_sl ([.ref (L 106), .int p0, .int p1])).length) Slot.unset).toArray = ls at hl ⊢
  have hl : lv_has ls 3 [(0, .ref (L 106)), (1, .int p0), (2, .int p1)] := hl
  have iX4 : ∀ w ∈ wsX40, w ∈ wsX4_queuedAt := by decide +kernel
  have hn1 : ((0 : Int32) - 1).toInt = -1 := by decide
  refine lv_aload_n hx hb dX4_queuedAt_0 rfl (lv_at hl 0 rfl) ?_
  refine lv_iconst (v := 0) hx hb dX4_queuedAt_1 (by decide) ?_
  refine wx_put (D := g.1) (cl := vwCl) (ci := 6) (v := .int 0) (ty := .int) (w' := mw g L (st y 0 0 0 0) ch r0) (C := RX4) (T := TX4) (N := 22) hx hb hts iX4 tyX4 tyX4_ok nmX4 hown hK hP hJ hS (106) (by omega) mw_o rfl 0 (by decide) (hts (.fieldLink RX4 64 "FerroDeskModel" "thrown" "I") (by decide +kernel)) (fun _ h9 => h9) rfl (by decide +kernel) rfl rfl (Nat.le_of_ble_eq_true rfl) dX4_queuedAt_2 (mw_put (r := 0) (i := 0) (j := 0) rfl (by omega) (mk_o.trans (by simp [mF, st]))) (fun H locs hP hS => ?_)
  refine lv_aload_n hx hb dX4_queuedAt_5 rfl (lv_at hl 0 rfl) ?_
  refine lv_iload_n hx hb dX4_queuedAt_6 rfl (lv_at hl 1 rfl) ?_
  refine wx_calli (va_runS (As := [.int p0]) (rest := [.ref (L 106)]) ⟨hx, hb, hml, hown, hts⟩ (k_noDistrict l hst g base n L (mw g L (st y 0 0 0 0) ch r0) p0) (va_cwS 1 hts gX4_queuedAt_X4_noDistrict rfl rfl rfl (by decide +kernel) ⟨Nat.le_of_ble_eq_true rfl, Nat.le_of_ble_eq_true rfl⟩) (hPW.preS hP hS) rfl rfl hl.1 rfl (lv_room (Nat.le_of_ble_eq_true rfl)) dX4_queuedAt_7 ⟨Nat.le_of_ble_eq_true rfl, Nat.le_of_ble_eq_true rfl⟩) hS (fun r7 u7 H locs h7 hP hS => ?_)
  rcases h7 with ⟨rfl, h7⟩ | ⟨rfl, h7⟩
  · refine lv_iconst (v := 1) hx hb dX4_queuedAt_10 (by decide) ?_
    refine wx_calli (va_runV (As := [.int 1, .int 1]) (rest := []) ⟨hx, hb, hml, hown, hts⟩ (k_fails l hst g base n L (by omega) (st y 0 0 0 0) ch r0 st_eq 1 1 (by decide)) (cwV 2 hts gX4_queuedAt_X4_fails rfl rfl rfl (by decide +kernel) ⟨Nat.le_of_ble_eq_true rfl, Nat.le_of_ble_eq_true rfl⟩) (hPW.preV hP hS (ci := 6) rfl (by omega) mw_o) rfl rfl hl.1 rfl (lv_room (Nat.le_of_ble_eq_true rfl)) dX4_queuedAt_11 ⟨Nat.le_of_ble_eq_true rfl, Nat.le_of_ble_eq_true rfl⟩) hS (fun r11 u11 H locs h11 hP hS => ?_)
    obtain ⟨rfl, -, e9⟩ : r11 = 1 ∧ True ∧ u11 = st (st y 0 0 0 0) 0 0 0 1 := by rcases h11 with ⟨-, b, -⟩ | ⟨a, -, b⟩; exact absurd b (by decide); exact ⟨a, trivial, b⟩
    have e9 := e9.symm
    subst e9
    refine lv_if_ne (tgt := 45) hx hb dX4_queuedAt_14 (by decide) (fun c14 => ?_) (fun c14 => absurd c14 (by decide))
    refine lv_iconst (v := 0) hx hb dX4_queuedAt_45 (by decide) ?_
    refine lv_goto (tgt := 55) hx hb dX4_queuedAt_46 (by decide) ?_
    refine W.widen (k := 0) (n := 0) (Nat.le_of_ble_eq_true rfl) (Nat.le_of_ble_eq_true rfl) ?_
    exact W.iret (v := 0) hx hb hr (fun t ht hW => ⟨⟨0, (st (st y 0 0 0 0) 0 0 0 1), rfl, Or.inl ⟨(by revert h7; (try simp only [Int32.lt_iff_toInt_lt, Int32.le_iff_toInt_le, ← Int32.toInt_inj, i_0, i_1, i_2, i_3, i_4, i_6, i_9, i_20, i_32, i_40, i_48, i_60, i_200, i_999, i_2000, i_m1]); omega), st_eq⟩, PB.mk9 hP ht⟩, hS.F ht⟩) hS.2.2 dX4_queuedAt_55
  · refine lv_iconst (v := 1) hx hb dX4_queuedAt_10 (by decide) ?_
    refine wx_calli (va_runV (As := [.int 0, .int 1]) (rest := []) ⟨hx, hb, hml, hown, hts⟩ (k_fails l hst g base n L (by omega) (st y 0 0 0 0) ch r0 st_eq 0 1 (by decide)) (cwV 2 hts gX4_queuedAt_X4_fails rfl rfl rfl (by decide +kernel) ⟨Nat.le_of_ble_eq_true rfl, Nat.le_of_ble_eq_true rfl⟩) (hPW.preV hP hS (ci := 6) rfl (by omega) mw_o) rfl rfl hl.1 rfl (lv_room (Nat.le_of_ble_eq_true rfl)) dX4_queuedAt_11 ⟨Nat.le_of_ble_eq_true rfl, Nat.le_of_ble_eq_true rfl⟩) hS (fun r11 u11 H locs h11 hP hS => ?_)
    obtain ⟨rfl, -, e9⟩ : r11 = 0 ∧ True ∧ u11 = st y 0 0 0 0 := by rcases h11 with ⟨a, -, b⟩ | ⟨-, b, -⟩; exact ⟨a, trivial, b⟩; exact absurd rfl b
    have e9 := e9.symm
    subst e9
    refine lv_if_ne (tgt := 45) hx hb dX4_queuedAt_14 (by decide) (fun c14 => absurd c14 (by decide)) (fun c14 => ?_)
    refine lv_aload_n hx hb dX4_queuedAt_17 rfl (lv_at hl 0 rfl) ?_
    refine lv_iload_n hx hb dX4_queuedAt_18 rfl (lv_at hl 2 rfl) ?_
    refine lv_iconst (v := 0) hx hb dX4_queuedAt_19 (by decide) ?_
    refine lv_aload_n hx hb dX4_queuedAt_20 rfl (lv_at hl 0 rfl) ?_
    refine lv_iload_n hx hb dX4_queuedAt_21 rfl (lv_at hl 1 rfl) ?_
    refine wx_calli (va_runV (As := [.int p0]) (rest := [.int 0, .int p1, .ref (L 106)]) ⟨hx, hb, hml, hown, hts⟩ (k_manyQueued l hst g base n L (by omega) (st y 0 0 0 0) ch r0 (st_ne (by decide) |>.trans hy4) p0) (cwV 1 hts gX4_queuedAt_X4_manyQueued rfl rfl rfl (by decide +kernel) ⟨Nat.le_of_ble_eq_true rfl, Nat.le_of_ble_eq_true rfl⟩) (hPW.preV hP hS (ci := 6) rfl (by omega) mw_o) rfl rfl hl.1 rfl (lv_room (Nat.le_of_ble_eq_true rfl)) dX4_queuedAt_22 ⟨Nat.le_of_ble_eq_true rfl, Nat.le_of_ble_eq_true rfl⟩) hS (fun r22 u22 H locs h22 hP hS => ?_)
    obtain ⟨rfl, e9⟩ := h22
    have e9 := e9.symm
    subst e9
    refine lv_iconst (v := 1) hx hb dX4_queuedAt_25 (by decide) ?_
    refine lv_isub hx hb dX4_queuedAt_26 ?_
    refine wx_calli (va_runS (As := [.int p1, .int 0, .int (0 - 1)]) (rest := [.ref (L 106)]) ⟨hx, hb, hml, hown, hts⟩ (k_in l hst g base n L (mw g L (st y 0 0 0 0) ch r0) p1 0 (0 - 1)) (va_cwS 3 hts gX4_queuedAt_X4_in rfl rfl rfl (by decide +kernel) ⟨Nat.le_of_ble_eq_true rfl, Nat.le_of_ble_eq_true rfl⟩) (hPW.preS hP hS) rfl rfl hl.1 rfl (lv_room (Nat.le_of_ble_eq_true rfl)) dX4_queuedAt_27 ⟨Nat.le_of_ble_eq_true rfl, Nat.le_of_ble_eq_true rfl⟩) hS (fun r27 u27 H locs h27 hP hS => ?_)
    obtain rfl : r27 = 0 := by rcases h27 with ⟨-, a, b⟩ | ⟨a, -⟩; exact absurd (Int.le_trans a b) (by rw [hn1]; decide); exact a
    refine lv_if_ne (tgt := 37) hx hb dX4_queuedAt_30 (by decide) (fun c30 => absurd c30 (by decide)) (fun c30 => ?_)
    refine lv_iconst (v := 1) hx hb dX4_queuedAt_33 (by decide) ?_
    refine lv_goto (tgt := 38) hx hb dX4_queuedAt_34 (by decide) ?_
    refine lv_iconst (v := 2) hx hb dX4_queuedAt_38 (by decide) ?_
    refine wx_calli (va_runV (As := [.int 1, .int 2]) (rest := []) ⟨hx, hb, hml, hown, hts⟩ (k_fails l hst g base n L (by omega) (st y 0 0 0 0) ch r0 st_eq 1 2 (by decide)) (cwV 2 hts gX4_queuedAt_X4_fails rfl rfl rfl (by decide +kernel) ⟨Nat.le_of_ble_eq_true rfl, Nat.le_of_ble_eq_true rfl⟩) (hPW.preV hP hS (ci := 6) rfl (by omega) mw_o) rfl rfl hl.1 rfl (lv_room (Nat.le_of_ble_eq_true rfl)) dX4_queuedAt_39 ⟨Nat.le_of_ble_eq_true rfl, Nat.le_of_ble_eq_true rfl⟩) hS (fun r39 u39 H locs h39 hP hS => ?_)
    obtain ⟨rfl, -, e9⟩ : r39 = 1 ∧ True ∧ u39 = st (st y 0 0 0 0) 0 0 0 2 := by rcases h39 with ⟨-, b, -⟩ | ⟨a, -, b⟩; exact absurd b (by decide); exact ⟨a, trivial, b⟩
    have e9 := e9.symm
    subst e9
    refine lv_if_eq (tgt := 49) hx hb dX4_queuedAt_42 (by decide) (fun c42 => absurd c42 (by decide)) (fun c42 => ?_)
    refine lv_iconst (v := 0) hx hb dX4_queuedAt_45 (by decide) ?_
    refine lv_goto (tgt := 55) hx hb dX4_queuedAt_46 (by decide) ?_
    refine W.widen (k := 0) (n := 0) (Nat.le_of_ble_eq_true rfl) (Nat.le_of_ble_eq_true rfl) ?_
    exact W.iret (v := 0) hx hb hr (fun t ht hW => ⟨⟨0, (st (st y 0 0 0 0) 0 0 0 2), rfl, Or.inr ⟨(by revert h7; (try simp only [Int32.lt_iff_toInt_lt, Int32.le_iff_toInt_le, ← Int32.toInt_inj, i_0, i_1, i_2, i_3, i_4, i_6, i_9, i_20, i_32, i_40, i_48, i_60, i_200, i_999, i_2000, i_m1]); omega), st_eq⟩, PB.mk9 hP ht⟩, hS.F ht⟩) hS.2.2 dX4_queuedAt_55

set_option maxHeartbeats 4000000 in
set_option maxRecDepth 100000 in
theorem km_suspects (l : Launch) (hst : l.stackTraces = false) (g : gE) (base n : Nat) (L : Nat → Nat) (hn : 123 ≤ n) (y : St) (ch : Int64) (r0 : Nat → va_E) (hy1 : y 1 0 0 = nI 0) (hy2 : y 2 0 0 = 2) (hy3 : y 3 0 0 = nI 0) (hy4 : y 4 0 0 = nI 0) (p0 p1 : Int32) : Met l yX4_suspects wsX4_suspects ({ frames := 5, cells := 0, slots := 0, locals := 140 }) (va_Pc [.ref (L 106), .int p0, .int p1] (PW SS g base n L (mw g L y ch r0))) (va_Qi (fun (r : Int32) (u : St) => ((p1.toInt < 0 ∨ 3 < p1.toInt ∨ p0.toInt = 0) ∧ u 0 0 0 = 1) ∨ (¬ (p1.toInt < 0 ∨ 3 < p1.toInt ∨ p0.toInt = 0) ∧ u 0 0 0 = 0 ∧ r = 0)) (fun (u : St) t => PB g n L (mw g L u ch r0) t) (fun q => base ≤ q)) 0 0 (fun q => base ≤ q) := by
  refine Met.ofW (cc := cX4_suspects) (maxL := 3) (ret := (some .int)) (by decide) rfl ?_
  intro p e s m args below meth c s₁ B hml hv
  obtain ⟨rfl, hPW⟩ := hv
  obtain ⟨hbs, hJ, hP, hK, hE⟩ := id hPW
  have hx := B.exec
  have hb := B.bytes
  have hr := B.returns
  have hts := atoms_spec (ws := wsX4_suspects) B.pre
  have hown : s.vm.findClass RX4 = some m.cls := findClass_of_methodNamed B.named
  have hlocks := B.notSynchronized
  have hS : va_S (fun q : Nat => base ≤ q) s.heap s.heap [] := va_S.rf
  have hl := lv_entry ([.ref (L 106), .int p0, .int p1]) (n := 3) (Nat.le_of_ble_eq_true rfl)
  rw [lg_entry_eq]
  generalize (lg_sl ([.ref (L 106), .int p0, .int p1]) ++ List.replicate (3 - (lg_sl ([.ref (L 106), .int p0, .int p1])).length) Slot.unset).toArray = ls at hl ⊢
  have hl : lv_has ls 3 [(0, .ref (L 106)), (1, .int p0), (2, .int p1)] := hl
  have iX4 : ∀ w ∈ wsX40, w ∈ wsX4_suspects := by decide +kernel
  refine lv_aload_n hx hb dX4_suspects_0 rfl (lv_at hl 0 rfl) ?_
  refine lv_iconst (v := 0) hx hb dX4_suspects_1 (by decide) ?_
  refine wx_put (D := g.1) (cl := vwCl) (ci := 6) (v := .int 0) (ty := .int) (w' := mw g L (st y 0 0 0 0) ch r0) (C := RX4) (T := TX4) (N := 22) hx hb hts iX4 tyX4 tyX4_ok nmX4 hown hK hP hJ hS (106) (by omega) mw_o rfl 0 (by decide) (hts (.fieldLink RX4 64 "FerroDeskModel" "thrown" "I") (by decide +kernel)) (fun _ h9 => h9) rfl (by decide +kernel) rfl rfl (Nat.le_of_ble_eq_true rfl) dX4_suspects_2 (mw_put (r := 0) (i := 0) (j := 0) rfl (by omega) (mk_o.trans (by simp [mF, st]))) (fun H locs hP hS => ?_)
  refine lv_aload_n hx hb dX4_suspects_5 rfl (lv_at hl 0 rfl) ?_
  refine lv_iload_n hx hb dX4_suspects_6 rfl (lv_at hl 2 rfl) ?_
  refine wx_calli (va_runS (As := [.int p1]) (rest := [.ref (L 106)]) ⟨hx, hb, hml, hown, hts⟩ (k_noDistrict l hst g base n L (mw g L (st y 0 0 0 0) ch r0) p1) (va_cwS 1 hts gX4_suspects_X4_noDistrict rfl rfl rfl (by decide +kernel) ⟨Nat.le_of_ble_eq_true rfl, Nat.le_of_ble_eq_true rfl⟩) (hPW.preS hP hS) rfl rfl hl.1 rfl (lv_room (Nat.le_of_ble_eq_true rfl)) dX4_suspects_7 ⟨Nat.le_of_ble_eq_true rfl, Nat.le_of_ble_eq_true rfl⟩) hS (fun r7 u7 H locs h7 hP hS => ?_)
  rcases h7 with ⟨rfl, h7⟩ | ⟨rfl, h7⟩
  · refine lv_if_ne (tgt := 17) hx hb dX4_suspects_10 (by decide) (fun c10 => ?_) (fun c10 => absurd c10 (by decide))
    refine lv_iconst (v := 1) hx hb dX4_suspects_17 (by decide) ?_
    refine lv_goto (tgt := 22) hx hb dX4_suspects_18 (by decide) ?_
    refine lv_iconst (v := 1) hx hb dX4_suspects_22 (by decide) ?_
    refine wx_calli (va_runV (As := [.int 1, .int 1]) (rest := []) ⟨hx, hb, hml, hown, hts⟩ (k_fails l hst g base n L (by omega) (st y 0 0 0 0) ch r0 st_eq 1 1 (by decide)) (cwV 2 hts gX4_suspects_X4_fails rfl rfl rfl (by decide +kernel) ⟨Nat.le_of_ble_eq_true rfl, Nat.le_of_ble_eq_true rfl⟩) (hPW.preV hP hS (ci := 6) rfl (by omega) mw_o) rfl rfl hl.1 rfl (lv_room (Nat.le_of_ble_eq_true rfl)) dX4_suspects_23 ⟨Nat.le_of_ble_eq_true rfl, Nat.le_of_ble_eq_true rfl⟩) hS (fun r23 u23 H locs h23 hP hS => ?_)
    obtain ⟨rfl, -, e9⟩ : r23 = 1 ∧ True ∧ u23 = st (st y 0 0 0 0) 0 0 0 1 := by rcases h23 with ⟨-, b, -⟩ | ⟨a, -, b⟩; exact absurd b (by decide); exact ⟨a, trivial, b⟩
    have e9 := e9.symm
    subst e9
    refine lv_if_eq (tgt := 33) hx hb dX4_suspects_26 (by decide) (fun c26 => absurd c26 (by decide)) (fun c26 => ?_)
    refine lv_iconst (v := 0) hx hb dX4_suspects_29 (by decide) ?_
    refine lv_goto (tgt := 39) hx hb dX4_suspects_30 (by decide) ?_
    refine W.widen (k := 0) (n := 0) (Nat.le_of_ble_eq_true rfl) (Nat.le_of_ble_eq_true rfl) ?_
    exact W.iret (v := 0) hx hb hr (fun t ht hW => ⟨⟨0, (st (st y 0 0 0 0) 0 0 0 1), rfl, Or.inl ⟨(by revert h7; (try simp only [Int32.lt_iff_toInt_lt, Int32.le_iff_toInt_le, ← Int32.toInt_inj, i_0, i_1, i_2, i_3, i_4, i_6, i_9, i_20, i_32, i_40, i_48, i_60, i_200, i_999, i_2000, i_m1]); omega), st_eq⟩, PB.mk9 hP ht⟩, hS.F ht⟩) hS.2.2 dX4_suspects_39
  · refine lv_if_ne (tgt := 17) hx hb dX4_suspects_10 (by decide) (fun c10 => absurd c10 (by decide)) (fun c10 => ?_)
    refine lv_iload_n hx hb dX4_suspects_13 rfl (lv_at hl 1 rfl) ?_
    refine lv_if_ne (tgt := 21) hx hb dX4_suspects_14 (by decide) (fun c14 => ?_) (fun c14 => ?_)
    · refine lv_iconst (v := 0) hx hb dX4_suspects_21 (by decide) ?_
      refine lv_iconst (v := 1) hx hb dX4_suspects_22 (by decide) ?_
      refine wx_calli (va_runV (As := [.int 0, .int 1]) (rest := []) ⟨hx, hb, hml, hown, hts⟩ (k_fails l hst g base n L (by omega) (st y 0 0 0 0) ch r0 st_eq 0 1 (by decide)) (cwV 2 hts gX4_suspects_X4_fails rfl rfl rfl (by decide +kernel) ⟨Nat.le_of_ble_eq_true rfl, Nat.le_of_ble_eq_true rfl⟩) (hPW.preV hP hS (ci := 6) rfl (by omega) mw_o) rfl rfl hl.1 rfl (lv_room (Nat.le_of_ble_eq_true rfl)) dX4_suspects_23 ⟨Nat.le_of_ble_eq_true rfl, Nat.le_of_ble_eq_true rfl⟩) hS (fun r23 u23 H locs h23 hP hS => ?_)
      obtain ⟨rfl, -, e9⟩ : r23 = 0 ∧ True ∧ u23 = st y 0 0 0 0 := by rcases h23 with ⟨a, -, b⟩ | ⟨-, b, -⟩; exact ⟨a, trivial, b⟩; exact absurd rfl b
      have e9 := e9.symm
      subst e9
      refine lv_if_eq (tgt := 33) hx hb dX4_suspects_26 (by decide) (fun c26 => ?_) (fun c26 => absurd (by decide) c26)
      refine lv_aload_n hx hb dX4_suspects_33 rfl (lv_at hl 0 rfl) ?_
      refine lv_iload_n hx hb dX4_suspects_34 rfl (lv_at hl 1 rfl) ?_
      refine lv_iload_n hx hb dX4_suspects_35 rfl (lv_at hl 2 rfl) ?_
      refine wx_calli (va_runV (As := [.int p0, .int p1]) (rest := []) ⟨hx, hb, hml, hown, hts⟩ (k_manySuspects l hst g base n L (by omega) (st y 0 0 0 0) ch r0 (st_ne (by decide) |>.trans hy4) p0 p1) (cwV 2 hts gX4_suspects_X4_manySuspects rfl rfl rfl (by decide +kernel) ⟨Nat.le_of_ble_eq_true rfl, Nat.le_of_ble_eq_true rfl⟩) (hPW.preV hP hS (ci := 6) rfl (by omega) mw_o) rfl rfl hl.1 rfl (lv_room (Nat.le_of_ble_eq_true rfl)) dX4_suspects_36 ⟨Nat.le_of_ble_eq_true rfl, Nat.le_of_ble_eq_true rfl⟩) hS (fun r36 u36 H locs h36 hP hS => ?_)
      obtain ⟨rfl, e9⟩ := h36
      have e9 := e9.symm
      subst e9
      refine W.widen (k := 0) (n := 0) (Nat.le_of_ble_eq_true rfl) (Nat.le_of_ble_eq_true rfl) ?_
      exact W.iret (v := 0) hx hb hr (fun t ht hW => ⟨⟨0, (st y 0 0 0 0), rfl, Or.inr ⟨(by revert h7 c14; (try simp only [Int32.lt_iff_toInt_lt, Int32.le_iff_toInt_le, ← Int32.toInt_inj, i_0, i_1, i_2, i_3, i_4, i_6, i_9, i_20, i_32, i_40, i_48, i_60, i_200, i_999, i_2000, i_m1]); omega), st_eq, rfl⟩, PB.mk9 hP ht⟩, hS.F ht⟩) hS.2.2 dX4_suspects_39
    · refine lv_iconst (v := 1) hx hb dX4_suspects_17 (by decide) ?_
      refine lv_goto (tgt := 22) hx hb dX4_suspects_18 (by decide) ?_
      refine lv_iconst (v := 1) hx hb dX4_suspects_22 (by decide) ?_
      refine wx_calli (va_runV (As := [.int 1, .int 1]) (rest := []) ⟨hx, hb, hml, hown, hts⟩ (k_fails l hst g base n L (by omega) (st y 0 0 0 0) ch r0 st_eq 1 1 (by decide)) (cwV 2 hts gX4_suspects_X4_fails rfl rfl rfl (by decide +kernel) ⟨Nat.le_of_ble_eq_true rfl, Nat.le_of_ble_eq_true rfl⟩) (hPW.preV hP hS (ci := 6) rfl (by omega) mw_o) rfl rfl hl.1 rfl (lv_room (Nat.le_of_ble_eq_true rfl)) dX4_suspects_23 ⟨Nat.le_of_ble_eq_true rfl, Nat.le_of_ble_eq_true rfl⟩) hS (fun r23 u23 H locs h23 hP hS => ?_)
      obtain ⟨rfl, -, e9⟩ : r23 = 1 ∧ True ∧ u23 = st (st y 0 0 0 0) 0 0 0 1 := by rcases h23 with ⟨-, b, -⟩ | ⟨a, -, b⟩; exact absurd b (by decide); exact ⟨a, trivial, b⟩
      have e9 := e9.symm
      subst e9
      refine lv_if_eq (tgt := 33) hx hb dX4_suspects_26 (by decide) (fun c26 => absurd c26 (by decide)) (fun c26 => ?_)
      refine lv_iconst (v := 0) hx hb dX4_suspects_29 (by decide) ?_
      refine lv_goto (tgt := 39) hx hb dX4_suspects_30 (by decide) ?_
      refine W.widen (k := 0) (n := 0) (Nat.le_of_ble_eq_true rfl) (Nat.le_of_ble_eq_true rfl) ?_
      exact W.iret (v := 0) hx hb hr (fun t ht hW => ⟨⟨0, (st (st y 0 0 0 0) 0 0 0 1), rfl, Or.inl ⟨(by revert h7 c14; (try simp only [Int32.lt_iff_toInt_lt, Int32.le_iff_toInt_le, ← Int32.toInt_inj, i_0, i_1, i_2, i_3, i_4, i_6, i_9, i_20, i_32, i_40, i_48, i_60, i_200, i_999, i_2000, i_m1]); omega), st_eq⟩, PB.mk9 hP ht⟩, hS.F ht⟩) hS.2.2 dX4_suspects_39

set_option maxHeartbeats 4000000 in
set_option maxRecDepth 100000 in
theorem km_suspectAt (l : Launch) (hst : l.stackTraces = false) (g : gE) (base n : Nat) (L : Nat → Nat) (hn : 123 ≤ n) (y : St) (ch : Int64) (r0 : Nat → va_E) (hy1 : y 1 0 0 = nI 0) (hy2 : y 2 0 0 = 2) (hy3 : y 3 0 0 = nI 0) (hy4 : y 4 0 0 = nI 0) (p0 p1 p2 : Int32) : Met l yX4_suspectAt wsX4_suspectAt ({ frames := 5, cells := 0, slots := 0, locals := 140 }) (va_Pc [.ref (L 106), .int p0, .int p1, .int p2] (PW SS g base n L (mw g L y ch r0))) (va_Qi (fun (_ : Int32) (u : St) => ((p1.toInt < 0 ∨ 3 < p1.toInt ∨ p0.toInt = 0) ∧ u 0 0 0 = 1) ∨ (¬ (p1.toInt < 0 ∨ 3 < p1.toInt ∨ p0.toInt = 0) ∧ u 0 0 0 = 2)) (fun (u : St) t => PB g n L (mw g L u ch r0) t) (fun q => base ≤ q)) 0 0 (fun q => base ≤ q) := by
  refine Met.ofW (cc := cX4_suspectAt) (maxL := 9) (ret := (some .int)) (by decide) rfl ?_
  intro p e s m args below meth c s₁ B hml hv
  obtain ⟨rfl, hPW⟩ := hv
  obtain ⟨hbs, hJ, hP, hK, hE⟩ := id hPW
  have hx := B.exec
  have hb := B.bytes
  have hr := B.returns
  have hts := atoms_spec (ws := wsX4_suspectAt) B.pre
  have hown : s.vm.findClass RX4 = some m.cls := findClass_of_methodNamed B.named
  have hlocks := B.notSynchronized
  have hS : va_S (fun q : Nat => base ≤ q) s.heap s.heap [] := va_S.rf
  have hl := lv_entry ([.ref (L 106), .int p0, .int p1, .int p2]) (n := 9) (Nat.le_of_ble_eq_true rfl)
  rw [lg_entry_eq]
  generalize (lg_sl ([.ref (L 106), .int p0, .int p1, .int p2]) ++ List.replicate (9 - (lg_sl ([.ref (L 106), .int p0, .int p1, .int p2])).length) Slot.unset).toArray = ls at hl ⊢
  have hl : lv_has ls 9 [(0, .ref (L 106)), (1, .int p0), (2, .int p1), (3, .int p2)] := hl
  have iX4 : ∀ w ∈ wsX40, w ∈ wsX4_suspectAt := by decide +kernel
  have hn1 : ((0 : Int32) - 1).toInt = -1 := by decide
  refine lv_aload_n hx hb dX4_suspectAt_0 rfl (lv_at hl 0 rfl) ?_
  refine lv_iconst (v := 0) hx hb dX4_suspectAt_1 (by decide) ?_
  refine wx_put (D := g.1) (cl := vwCl) (ci := 6) (v := .int 0) (ty := .int) (w' := mw g L (st y 0 0 0 0) ch r0) (C := RX4) (T := TX4) (N := 22) hx hb hts iX4 tyX4 tyX4_ok nmX4 hown hK hP hJ hS (106) (by omega) mw_o rfl 0 (by decide) (hts (.fieldLink RX4 64 "FerroDeskModel" "thrown" "I") (by decide +kernel)) (fun _ h9 => h9) rfl (by decide +kernel) rfl rfl (Nat.le_of_ble_eq_true rfl) dX4_suspectAt_2 (mw_put (r := 0) (i := 0) (j := 0) rfl (by omega) (mk_o.trans (by simp [mF, st]))) (fun H locs hP hS => ?_)
  refine lv_aload_n hx hb dX4_suspectAt_5 rfl (lv_at hl 0 rfl) ?_
  refine lv_iload_n hx hb dX4_suspectAt_6 rfl (lv_at hl 2 rfl) ?_
  refine wx_calli (va_runS (As := [.int p1]) (rest := [.ref (L 106)]) ⟨hx, hb, hml, hown, hts⟩ (k_noDistrict l hst g base n L (mw g L (st y 0 0 0 0) ch r0) p1) (va_cwS 1 hts gX4_suspectAt_X4_noDistrict rfl rfl rfl (by decide +kernel) ⟨Nat.le_of_ble_eq_true rfl, Nat.le_of_ble_eq_true rfl⟩) (hPW.preS hP hS) rfl rfl hl.1 rfl (lv_room (Nat.le_of_ble_eq_true rfl)) dX4_suspectAt_7 ⟨Nat.le_of_ble_eq_true rfl, Nat.le_of_ble_eq_true rfl⟩) hS (fun r7 u7 H locs h7 hP hS => ?_)
  rcases h7 with ⟨rfl, h7⟩ | ⟨rfl, h7⟩
  · refine lv_if_ne (tgt := 17) hx hb dX4_suspectAt_10 (by decide) (fun c10 => ?_) (fun c10 => absurd c10 (by decide))
    refine lv_iconst (v := 1) hx hb dX4_suspectAt_17 (by decide) ?_
    refine lv_goto (tgt := 22) hx hb dX4_suspectAt_18 (by decide) ?_
    refine lv_iconst (v := 1) hx hb dX4_suspectAt_22 (by decide) ?_
    refine wx_calli (va_runV (As := [.int 1, .int 1]) (rest := []) ⟨hx, hb, hml, hown, hts⟩ (k_fails l hst g base n L (by omega) (st y 0 0 0 0) ch r0 st_eq 1 1 (by decide)) (cwV 2 hts gX4_suspectAt_X4_fails rfl rfl rfl (by decide +kernel) ⟨Nat.le_of_ble_eq_true rfl, Nat.le_of_ble_eq_true rfl⟩) (hPW.preV hP hS (ci := 6) rfl (by omega) mw_o) rfl rfl hl.1 rfl (lv_room (Nat.le_of_ble_eq_true rfl)) dX4_suspectAt_23 ⟨Nat.le_of_ble_eq_true rfl, Nat.le_of_ble_eq_true rfl⟩) hS (fun r23 u23 H locs h23 hP hS => ?_)
    obtain ⟨rfl, -, e9⟩ : r23 = 1 ∧ True ∧ u23 = st (st y 0 0 0 0) 0 0 0 1 := by rcases h23 with ⟨-, b, -⟩ | ⟨a, -, b⟩; exact absurd b (by decide); exact ⟨a, trivial, b⟩
    have e9 := e9.symm
    subst e9
    refine lv_if_ne (tgt := 58) hx hb dX4_suspectAt_26 (by decide) (fun c26 => ?_) (fun c26 => absurd c26 (by decide))
    refine lv_iconst (v := 0) hx hb dX4_suspectAt_58 (by decide) ?_
    refine W.widen (k := 0) (n := 0) (Nat.le_of_ble_eq_true rfl) (Nat.le_of_ble_eq_true rfl) ?_
    exact W.iret (v := 0) hx hb hr (fun t ht hW => ⟨⟨0, (st (st y 0 0 0 0) 0 0 0 1), rfl, Or.inl ⟨(by revert h7; (try simp only [Int32.lt_iff_toInt_lt, Int32.le_iff_toInt_le, ← Int32.toInt_inj, i_0, i_1, i_2, i_3, i_4, i_6, i_9, i_20, i_32, i_40, i_48, i_60, i_200, i_999, i_2000, i_m1]); omega), st_eq⟩, PB.mk9 hP ht⟩, hS.F ht⟩) hS.2.2 dX4_suspectAt_59
  · refine lv_if_ne (tgt := 17) hx hb dX4_suspectAt_10 (by decide) (fun c10 => absurd c10 (by decide)) (fun c10 => ?_)
    refine lv_iload_n hx hb dX4_suspectAt_13 rfl (lv_at hl 1 rfl) ?_
    refine lv_if_ne (tgt := 21) hx hb dX4_suspectAt_14 (by decide) (fun c14 => ?_) (fun c14 => ?_)
    · refine lv_iconst (v := 0) hx hb dX4_suspectAt_21 (by decide) ?_
      refine lv_iconst (v := 1) hx hb dX4_suspectAt_22 (by decide) ?_
      refine wx_calli (va_runV (As := [.int 0, .int 1]) (rest := []) ⟨hx, hb, hml, hown, hts⟩ (k_fails l hst g base n L (by omega) (st y 0 0 0 0) ch r0 st_eq 0 1 (by decide)) (cwV 2 hts gX4_suspectAt_X4_fails rfl rfl rfl (by decide +kernel) ⟨Nat.le_of_ble_eq_true rfl, Nat.le_of_ble_eq_true rfl⟩) (hPW.preV hP hS (ci := 6) rfl (by omega) mw_o) rfl rfl hl.1 rfl (lv_room (Nat.le_of_ble_eq_true rfl)) dX4_suspectAt_23 ⟨Nat.le_of_ble_eq_true rfl, Nat.le_of_ble_eq_true rfl⟩) hS (fun r23 u23 H locs h23 hP hS => ?_)
      obtain ⟨rfl, -, e9⟩ : r23 = 0 ∧ True ∧ u23 = st y 0 0 0 0 := by rcases h23 with ⟨a, -, b⟩ | ⟨-, b, -⟩; exact ⟨a, trivial, b⟩; exact absurd rfl b
      have e9 := e9.symm
      subst e9
      refine lv_if_ne (tgt := 58) hx hb dX4_suspectAt_26 (by decide) (fun c26 => absurd c26 (by decide)) (fun c26 => ?_)
      refine lv_aload_n hx hb dX4_suspectAt_29 rfl (lv_at hl 0 rfl) ?_
      refine lv_iload_n hx hb dX4_suspectAt_30 rfl (lv_at hl 3 rfl) ?_
      refine lv_iconst (v := 0) hx hb dX4_suspectAt_31 (by decide) ?_
      refine lv_aload_n hx hb dX4_suspectAt_32 rfl (lv_at hl 0 rfl) ?_
      refine lv_iload_n hx hb dX4_suspectAt_33 rfl (lv_at hl 1 rfl) ?_
      refine lv_iload_n hx hb dX4_suspectAt_34 rfl (lv_at hl 2 rfl) ?_
      refine wx_calli (va_runV (As := [.int p0, .int p1]) (rest := [.int 0, .int p2, .ref (L 106)]) ⟨hx, hb, hml, hown, hts⟩ (k_manySuspects l hst g base n L (by omega) (st y 0 0 0 0) ch r0 (st_ne (by decide) |>.trans hy4) p0 p1) (cwV 2 hts gX4_suspectAt_X4_manySuspects rfl rfl rfl (by decide +kernel) ⟨Nat.le_of_ble_eq_true rfl, Nat.le_of_ble_eq_true rfl⟩) (hPW.preV hP hS (ci := 6) rfl (by omega) mw_o) rfl rfl hl.1 rfl (lv_room (Nat.le_of_ble_eq_true rfl)) dX4_suspectAt_35 ⟨Nat.le_of_ble_eq_true rfl, Nat.le_of_ble_eq_true rfl⟩) hS (fun r35 u35 H locs h35 hP hS => ?_)
      obtain ⟨rfl, e9⟩ := h35
      have e9 := e9.symm
      subst e9
      refine lv_iconst (v := 1) hx hb dX4_suspectAt_38 (by decide) ?_
      refine lv_isub hx hb dX4_suspectAt_39 ?_
      refine wx_calli (va_runS (As := [.int p2, .int 0, .int (0 - 1)]) (rest := [.ref (L 106)]) ⟨hx, hb, hml, hown, hts⟩ (k_in l hst g base n L (mw g L (st y 0 0 0 0) ch r0) p2 0 (0 - 1)) (va_cwS 3 hts gX4_suspectAt_X4_in rfl rfl rfl (by decide +kernel) ⟨Nat.le_of_ble_eq_true rfl, Nat.le_of_ble_eq_true rfl⟩) (hPW.preS hP hS) rfl rfl hl.1 rfl (lv_room (Nat.le_of_ble_eq_true rfl)) dX4_suspectAt_40 ⟨Nat.le_of_ble_eq_true rfl, Nat.le_of_ble_eq_true rfl⟩) hS (fun r40 u40 H locs h40 hP hS => ?_)
      obtain rfl : r40 = 0 := by rcases h40 with ⟨-, a, b⟩ | ⟨a, -⟩; exact absurd (Int.le_trans a b) (by rw [hn1]; decide); exact a
      refine lv_if_ne (tgt := 50) hx hb dX4_suspectAt_43 (by decide) (fun c43 => absurd c43 (by decide)) (fun c43 => ?_)
      refine lv_iconst (v := 1) hx hb dX4_suspectAt_46 (by decide) ?_
      refine lv_goto (tgt := 51) hx hb dX4_suspectAt_47 (by decide) ?_
      refine lv_iconst (v := 2) hx hb dX4_suspectAt_51 (by decide) ?_
      refine wx_calli (va_runV (As := [.int 1, .int 2]) (rest := []) ⟨hx, hb, hml, hown, hts⟩ (k_fails l hst g base n L (by omega) (st y 0 0 0 0) ch r0 st_eq 1 2 (by decide)) (cwV 2 hts gX4_suspectAt_X4_fails rfl rfl rfl (by decide +kernel) ⟨Nat.le_of_ble_eq_true rfl, Nat.le_of_ble_eq_true rfl⟩) (hPW.preV hP hS (ci := 6) rfl (by omega) mw_o) rfl rfl hl.1 rfl (lv_room (Nat.le_of_ble_eq_true rfl)) dX4_suspectAt_52 ⟨Nat.le_of_ble_eq_true rfl, Nat.le_of_ble_eq_true rfl⟩) hS (fun r52 u52 H locs h52 hP hS => ?_)
      obtain ⟨rfl, -, e9⟩ : r52 = 1 ∧ True ∧ u52 = st (st y 0 0 0 0) 0 0 0 2 := by rcases h52 with ⟨-, b, -⟩ | ⟨a, -, b⟩; exact absurd b (by decide); exact ⟨a, trivial, b⟩
      have e9 := e9.symm
      subst e9
      refine lv_if_eq (tgt := 60) hx hb dX4_suspectAt_55 (by decide) (fun c55 => absurd c55 (by decide)) (fun c55 => ?_)
      refine lv_iconst (v := 0) hx hb dX4_suspectAt_58 (by decide) ?_
      refine W.widen (k := 0) (n := 0) (Nat.le_of_ble_eq_true rfl) (Nat.le_of_ble_eq_true rfl) ?_
      exact W.iret (v := 0) hx hb hr (fun t ht hW => ⟨⟨0, (st (st y 0 0 0 0) 0 0 0 2), rfl, Or.inr ⟨(by revert h7 c14; (try simp only [Int32.lt_iff_toInt_lt, Int32.le_iff_toInt_le, ← Int32.toInt_inj, i_0, i_1, i_2, i_3, i_4, i_6, i_9, i_20, i_32, i_40, i_48, i_60, i_200, i_999, i_2000, i_m1]); omega), st_eq⟩, PB.mk9 hP ht⟩, hS.F ht⟩) hS.2.2 dX4_suspectAt_59
    · refine lv_iconst (v := 1) hx hb dX4_suspectAt_17 (by decide) ?_
      refine lv_goto (tgt := 22) hx hb dX4_suspectAt_18 (by decide) ?_
      refine lv_iconst (v := 1) hx hb dX4_suspectAt_22 (by decide) ?_
      refine wx_calli (va_runV (As := [.int 1, .int 1]) (rest := []) ⟨hx, hb, hml, hown, hts⟩ (k_fails l hst g base n L (by omega) (st y 0 0 0 0) ch r0 st_eq 1 1 (by decide)) (cwV 2 hts gX4_suspectAt_X4_fails rfl rfl rfl (by decide +kernel) ⟨Nat.le_of_ble_eq_true rfl, Nat.le_of_ble_eq_true rfl⟩) (hPW.preV hP hS (ci := 6) rfl (by omega) mw_o) rfl rfl hl.1 rfl (lv_room (Nat.le_of_ble_eq_true rfl)) dX4_suspectAt_23 ⟨Nat.le_of_ble_eq_true rfl, Nat.le_of_ble_eq_true rfl⟩) hS (fun r23 u23 H locs h23 hP hS => ?_)
      obtain ⟨rfl, -, e9⟩ : r23 = 1 ∧ True ∧ u23 = st (st y 0 0 0 0) 0 0 0 1 := by rcases h23 with ⟨-, b, -⟩ | ⟨a, -, b⟩; exact absurd b (by decide); exact ⟨a, trivial, b⟩
      have e9 := e9.symm
      subst e9
      refine lv_if_ne (tgt := 58) hx hb dX4_suspectAt_26 (by decide) (fun c26 => ?_) (fun c26 => absurd c26 (by decide))
      refine lv_iconst (v := 0) hx hb dX4_suspectAt_58 (by decide) ?_
      refine W.widen (k := 0) (n := 0) (Nat.le_of_ble_eq_true rfl) (Nat.le_of_ble_eq_true rfl) ?_
      exact W.iret (v := 0) hx hb hr (fun t ht hW => ⟨⟨0, (st (st y 0 0 0 0) 0 0 0 1), rfl, Or.inl ⟨(by revert h7 c14; (try simp only [Int32.lt_iff_toInt_lt, Int32.le_iff_toInt_le, ← Int32.toInt_inj, i_0, i_1, i_2, i_3, i_4, i_6, i_9, i_20, i_32, i_40, i_48, i_60, i_200, i_999, i_2000, i_m1]); omega), st_eq⟩, PB.mk9 hP ht⟩, hS.F ht⟩) hS.2.2 dX4_suspectAt_59

set_option maxHeartbeats 4000000 in
set_option maxRecDepth 100000 in
theorem km_go (l : Launch) (hst : l.stackTraces = false) (g : gE) (base n : Nat) (L : Nat → Nat) (hn : 123 ≤ n) (y : St) (ch : Int64) (r0 : Nat → va_E) (hy1 : y 1 0 0 = nI 0) (hy2 : y 2 0 0 = 2) (hy3 : y 3 0 0 = nI 0) (hy4 : y 4 0 0 = nI 0) (p0 : Int32) : Met l yX4_go wsX4_go ({ frames := 5, cells := 0, slots := 0, locals := 140 }) (va_Pc [.ref (L 106), .int p0] (PW SS g base n L (mw g L y ch r0))) (va_Qi (fun (r : Int32) (u : St) => ((p0.toInt < 1 ∨ 48 < p0.toInt) ∧ u 0 0 0 = 1) ∨ (¬ (p0.toInt < 1 ∨ 48 < p0.toInt) ∧ u 0 0 0 = 0 ∧ r = p0)) (fun (u : St) t => PB g n L (mw g L u ch r0) t) (fun q => base ≤ q)) 0 0 (fun q => base ≤ q) := by
  refine Met.ofW (cc := cX4_go) (maxL := 4) (ret := (some .int)) (by decide) rfl ?_
  intro p e s m args below meth c s₁ B hml hv
  obtain ⟨rfl, hPW⟩ := hv
  obtain ⟨hbs, hJ, hP, hK, hE⟩ := id hPW
  have hx := B.exec
  have hb := B.bytes
  have hr := B.returns
  have hts := atoms_spec (ws := wsX4_go) B.pre
  have hown : s.vm.findClass RX4 = some m.cls := findClass_of_methodNamed B.named
  have hlocks := B.notSynchronized
  have hS : va_S (fun q : Nat => base ≤ q) s.heap s.heap [] := va_S.rf
  have hl := lv_entry ([.ref (L 106), .int p0]) (n := 4) (Nat.le_of_ble_eq_true rfl)
  rw [lg_entry_eq]
  generalize (lg_sl ([.ref (L 106), .int p0]) ++ List.replicate (4 - (lg_sl ([.ref (L 106), .int p0])).length) Slot.unset).toArray = ls at hl ⊢
  have hl : lv_has ls 4 [(0, .ref (L 106)), (1, .int p0)] := hl
  have iX4 : ∀ w ∈ wsX40, w ∈ wsX4_go := by decide +kernel
  refine lv_aload_n hx hb dX4_go_0 rfl (lv_at hl 0 rfl) ?_
  refine lv_iconst (v := 0) hx hb dX4_go_1 (by decide) ?_
  refine wx_put (D := g.1) (cl := vwCl) (ci := 6) (v := .int 0) (ty := .int) (w' := mw g L (st y 0 0 0 0) ch r0) (C := RX4) (T := TX4) (N := 22) hx hb hts iX4 tyX4 tyX4_ok nmX4 hown hK hP hJ hS (106) (by omega) mw_o rfl 0 (by decide) (hts (.fieldLink RX4 64 "FerroDeskModel" "thrown" "I") (by decide +kernel)) (fun _ h9 => h9) rfl (by decide +kernel) rfl rfl (Nat.le_of_ble_eq_true rfl) dX4_go_2 (mw_put (r := 0) (i := 0) (j := 0) rfl (by omega) (mk_o.trans (by simp [mF, st]))) (fun H locs hP hS => ?_)
  refine lv_aload_n hx hb dX4_go_5 rfl (lv_at hl 0 rfl) ?_
  refine lv_iload_n hx hb dX4_go_6 rfl (lv_at hl 1 rfl) ?_
  refine lv_iconst (v := 1) hx hb dX4_go_7 (by decide) ?_
  refine lv_bipush (v := 48) hx hb dX4_go_8 (by decide) ?_
  refine wx_calli (va_runS (As := [.int p0, .int 1, .int 48]) (rest := [.ref (L 106)]) ⟨hx, hb, hml, hown, hts⟩ (k_in l hst g base n L (mw g L (st y 0 0 0 0) ch r0) p0 1 48) (va_cwS 3 hts gX4_go_X4_in rfl rfl rfl (by decide +kernel) ⟨Nat.le_of_ble_eq_true rfl, Nat.le_of_ble_eq_true rfl⟩) (hPW.preS hP hS) rfl rfl hl.1 rfl (lv_room (Nat.le_of_ble_eq_true rfl)) dX4_go_10 ⟨Nat.le_of_ble_eq_true rfl, Nat.le_of_ble_eq_true rfl⟩) hS (fun r10 u10 H locs h10 hP hS => ?_)
  rcases h10 with ⟨rfl, h10⟩ | ⟨rfl, h10⟩
  · refine lv_if_ne (tgt := 20) hx hb dX4_go_13 (by decide) (fun c13 => ?_) (fun c13 => absurd c13 (by decide))
    refine lv_iconst (v := 0) hx hb dX4_go_20 (by decide) ?_
    refine lv_iconst (v := 1) hx hb dX4_go_21 (by decide) ?_
    refine wx_calli (va_runV (As := [.int 0, .int 1]) (rest := []) ⟨hx, hb, hml, hown, hts⟩ (k_fails l hst g base n L (by omega) (st y 0 0 0 0) ch r0 st_eq 0 1 (by decide)) (cwV 2 hts gX4_go_X4_fails rfl rfl rfl (by decide +kernel) ⟨Nat.le_of_ble_eq_true rfl, Nat.le_of_ble_eq_true rfl⟩) (hPW.preV hP hS (ci := 6) rfl (by omega) mw_o) rfl rfl hl.1 rfl (lv_room (Nat.le_of_ble_eq_true rfl)) dX4_go_22 ⟨Nat.le_of_ble_eq_true rfl, Nat.le_of_ble_eq_true rfl⟩) hS (fun r22 u22 H locs h22 hP hS => ?_)
    obtain ⟨rfl, -, e9⟩ : r22 = 0 ∧ True ∧ u22 = st y 0 0 0 0 := by rcases h22 with ⟨a, -, b⟩ | ⟨-, b, -⟩; exact ⟨a, trivial, b⟩; exact absurd rfl b
    have e9 := e9.symm
    subst e9
    refine lv_if_ne (tgt := 53) hx hb dX4_go_25 (by decide) (fun c25 => absurd c25 (by decide)) (fun c25 => ?_)
    refine lv_aload_n hx hb dX4_go_28 rfl (lv_at hl 0 rfl) ?_
    refine lv_aload_n hx hb dX4_go_29 rfl (lv_at hl 0 rfl) ?_
    refine wx_get (D := g.1) (cl := vwCl) (ci := 6) (v := .int ((st y 0 0 0 0) 1 0 0)) (C := RX4) (T := TX4) (N := 22) hx hb hts iX4 hown hK hP (106) (by omega) mw_o rfl 1 (by decide) (hts (.fieldLink RX4 101 "FerroDeskModel" "hour" "I") (by decide +kernel)) (fun _ h9 => h9) rfl dX4_go_30 ?_
    refine lv_iload_n hx hb dX4_go_33 rfl (lv_at hl 1 rfl) ?_
    refine lv_iadd hx hb dX4_go_34 ?_
    have e0 : (st y 0 0 0 0) 1 0 0 + p0 = p0 := by rw [st_ne (by decide), hy1, nI_0, Int32.zero_add]
    refine lv_sipush (v := 2000) hx hb dX4_go_35 (by decide) ?_
    refine lv_icmp_le (tgt := 45) hx hb dX4_go_38 (by decide) (fun c38 => ?_) (fun c38 => absurd (by rw [e0]; revert h10; simp only [Int32.lt_iff_toInt_lt, Int32.le_iff_toInt_le, ← Int32.toInt_inj, i_0, i_1, i_2, i_3, i_4, i_6, i_9, i_20, i_32, i_40, i_48, i_60, i_200, i_999, i_2000, i_m1]; omega) c38)
    refine lv_iconst (v := 0) hx hb dX4_go_45 (by decide) ?_
    refine lv_iconst (v := 2) hx hb dX4_go_46 (by decide) ?_
    refine wx_calli (va_runV (As := [.int 0, .int 2]) (rest := []) ⟨hx, hb, hml, hown, hts⟩ (k_fails l hst g base n L (by omega) (st y 0 0 0 0) ch r0 st_eq 0 2 (by decide)) (cwV 2 hts gX4_go_X4_fails rfl rfl rfl (by decide +kernel) ⟨Nat.le_of_ble_eq_true rfl, Nat.le_of_ble_eq_true rfl⟩) (hPW.preV hP hS (ci := 6) rfl (by omega) mw_o) rfl rfl hl.1 rfl (lv_room (Nat.le_of_ble_eq_true rfl)) dX4_go_47 ⟨Nat.le_of_ble_eq_true rfl, Nat.le_of_ble_eq_true rfl⟩) hS (fun r47 u47 H locs h47 hP hS => ?_)
    obtain ⟨rfl, -, e9⟩ : r47 = 0 ∧ True ∧ u47 = st y 0 0 0 0 := by rcases h47 with ⟨a, -, b⟩ | ⟨-, b, -⟩; exact ⟨a, trivial, b⟩; exact absurd rfl b
    have e9 := e9.symm
    subst e9
    refine lv_if_eq (tgt := 55) hx hb dX4_go_50 (by decide) (fun c50 => ?_) (fun c50 => absurd (by decide) c50)
    refine lv_iconst (v := 0) hx hb dX4_go_55 (by decide) ?_
    refine lv_istore_n (lv' := [(2, .int 0), (0, .ref (L 106)), (1, .int p0)]) hx hb dX4_go_56 rfl hl (by decide) rfl (fun ls hl => ?_)
    obtain ⟨N, hN, eN⟩ : ∃ N : Nat, N ≤ 48 ∧ p0 = nI N := nI_of2 (M := 48) (by decide) (by revert h10; simp only [Int32.lt_iff_toInt_lt, Int32.le_iff_toInt_le, ← Int32.toInt_inj, i_0, i_1, i_2, i_3, i_4, i_6, i_9, i_20, i_32, i_40, i_48, i_60, i_200, i_999, i_2000, i_m1]; omega) (by revert h10; simp only [Int32.lt_iff_toInt_lt, Int32.le_iff_toInt_le, ← Int32.toInt_inj, i_0, i_1, i_2, i_3, i_4, i_6, i_9, i_20, i_32, i_40, i_48, i_60, i_200, i_999, i_2000, i_m1]; omega)
    have key : ∀ (d k : Nat) (y1 : St) (z2 : Int32) (H : Heap) (locs : List Loc) (ls : Array Slot), k + d = N → z2 = nI k → y1 3 0 0 = nI 0 → y1 1 0 0 = nI k → y1 0 0 0 = 0 → va_P g.1 vwCl (wl n L (mw g L y1 ch r0)) H → va_S (fun q : Nat => base ≤ q) s.heap H locs → lv_has ls 4 [(2, .int z2), (0, .ref (L 106)), (1, .int p0)] → W p l e (headSpec wsX4_go ({ frames := 5, cells := 0, slots := 0, locals := 140 })).room s m ([.ref (L 106), .int p0] : List Value).toArray below meth c H locs 0 0 (MQ below (va_Qi (fun (r : Int32) (u : St) => ((p0.toInt < 1 ∨ 48 < p0.toInt) ∧ u 0 0 0 = 1) ∨ (¬ (p0.toInt < 1 ∨ 48 < p0.toInt) ∧ u 0 0 0 = 0 ∧ r = p0)) (fun (u : St) t => PB g n L (mw g L u ch r0) t) (fun q => base ≤ q)) ([.ref (L 106), .int p0] : List Value).toArray s 0 0 (fun q => base ≤ q)) (F0 m 57 ls []) := by
      intro d
      induction d with
      | zero =>
        intro k y1 z2 H locs ls hk ez h0 h3 hth hP hS hl
        refine lv_iload_n hx hb dX4_go_57 rfl (lv_at hl 0 rfl) ?_
        refine lv_iload_n hx hb dX4_go_58 rfl (lv_at hl 2 rfl) ?_
        refine lv_icmp_ge (tgt := 155) hx hb dX4_go_59 (by decide) (fun c59 => ?_) (fun c59 => absurd (by rw [ez, eN]; exact nI_le (by omega) (by omega)) c59)
        refine lv_aload_n hx hb dX4_go_155 rfl (lv_at hl 1 rfl) ?_
        refine wx_get (D := g.1) (cl := vwCl) (ci := 6) (v := .int (y1 1 0 0)) (C := RX4) (T := TX4) (N := 22) hx hb hts iX4 hown hK hP (106) (by omega) mw_o rfl 1 (by decide) (hts (.fieldLink RX4 101 "FerroDeskModel" "hour" "I") (by decide +kernel)) (fun _ h9 => h9) rfl dX4_go_156 ?_
        refine W.widen (k := 0) (n := 0) (Nat.le_of_ble_eq_true rfl) (Nat.le_of_ble_eq_true rfl) ?_
        exact W.iret (v := y1 1 0 0) hx hb hr (fun t ht hW => ⟨⟨y1 1 0 0, y1, rfl, Or.inr ⟨(by revert h10; (try simp only [Int32.lt_iff_toInt_lt, Int32.le_iff_toInt_le, ← Int32.toInt_inj, i_0, i_1, i_2, i_3, i_4, i_6, i_9, i_20, i_32, i_40, i_48, i_60, i_200, i_999, i_2000, i_m1]); omega), hth, (by rw [h3, eN, show k = N by omega])⟩, PB.mk9 hP ht⟩, hS.F ht⟩) hS.2.2 dX4_go_159
      | succ d ih =>
        intro k y1 z2 H locs ls hk ez h0 h3 hth hP hS hl
        refine lv_iload_n hx hb dX4_go_57 rfl (lv_at hl 0 rfl) ?_
        refine lv_iload_n hx hb dX4_go_58 rfl (lv_at hl 2 rfl) ?_
        refine lv_icmp_ge (tgt := 155) hx hb dX4_go_59 (by decide) (fun c59 => absurd c59 (by rw [ez, eN]; exact nI_ge (by omega) (by omega))) (fun c59 => ?_)
        refine lv_aload_n hx hb dX4_go_62 rfl (lv_at hl 1 rfl) ?_
        refine lv_dup hx hb dX4_go_63 rfl ?_
        refine wx_get (D := g.1) (cl := vwCl) (ci := 6) (v := .int (y1 1 0 0)) (C := RX4) (T := TX4) (N := 22) hx hb hts iX4 hown hK hP (106) (by omega) mw_o rfl 1 (by decide) (hts (.fieldLink RX4 101 "FerroDeskModel" "hour" "I") (by decide +kernel)) (fun _ h9 => h9) rfl dX4_go_64 ?_
        refine lv_iconst (v := 1) hx hb dX4_go_67 (by decide) ?_
        refine lv_iadd hx hb dX4_go_68 ?_
        refine wx_put (D := g.1) (cl := vwCl) (ci := 6) (v := .int ((y1 1 0 0) + 1)) (ty := .int) (w' := mw g L (st y1 1 0 0 ((y1 1 0 0) + 1)) ch r0) (C := RX4) (T := TX4) (N := 22) hx hb hts iX4 tyX4 tyX4_ok nmX4 hown hK hP hJ hS (106) (by omega) mw_o rfl 1 (by decide) (hts (.fieldLink RX4 101 "FerroDeskModel" "hour" "I") (by decide +kernel)) (fun _ h9 => h9) rfl (by decide +kernel) rfl rfl (Nat.le_of_ble_eq_true rfl) dX4_go_69 (mw_put (r := 1) (i := 0) (j := 0) rfl (by omega) (mk_o.trans (by simp [mF, st]))) (fun H locs hP hS => ?_)
        refine lv_iconst (v := 0) hx hb dX4_go_72 (by decide) ?_
        refine lv_istore_n (lv' := [(3, .int 0), (2, .int z2), (0, .ref (L 106)), (1, .int p0)]) hx hb dX4_go_73 rfl hl (by decide) rfl (fun ls hl => ?_)
        refine lv_iload_n hx hb dX4_go_74 rfl (lv_at hl 0 rfl) ?_
        refine lv_aload_n hx hb dX4_go_75 rfl (lv_at hl 2 rfl) ?_
        refine wx_get (D := g.1) (cl := vwCl) (ci := 6) (v := .int ((st y1 1 0 0 ((y1 1 0 0) + 1)) 3 0 0)) (C := RX4) (T := TX4) (N := 22) hx hb hts iX4 hown hK hP (106) (by omega) mw_o rfl 3 (by decide) (hts (.fieldLink RX4 67 "FerroDeskModel" "boards" "I") (by decide +kernel)) (fun _ h9 => h9) rfl dX4_go_76 ?_
        refine lv_icmp_ge (tgt := 149) hx hb dX4_go_79 (by decide) (fun c79 => ?_) (fun c79 => absurd (by rw [st_ne (by decide), h0]; decide) c79)
        obtain ⟨z149, ez149⟩ : ∃ y : Int32, y = z2 + 1 := ⟨_, rfl⟩
        refine lv_iinc (v := z149) (lv' := [(2, .int z149), (3, .int 0), (0, .ref (L 106)), (1, .int p0)]) hx hb dX4_go_149 hl (k := 1) rfl (by rw [ez149]; rfl) (by decide) rfl (fun ls hl => ?_)
        refine lv_goto (tgt := 57) hx hb dX4_go_152 (by decide) ?_
        exact ih (k + 1) _ z149 _ _ _ (by omega) (by rw [ez149, ez, nI_1]) (by rw [st_ne (by decide)]; exact h0) (by rw [st_eq, h3, nI_1]) (by rw [st_ne (by decide)]; exact hth) hP hS (lv_sub hl [0, 2, 3] rfl)
    exact key N 0 _ 0 _ _ _ (by omega) rfl (by rw [st_ne (by decide)]; exact hy3) (by rw [st_ne (by decide)]; exact hy1) st_eq hP hS (lv_sub hl [0, 1, 2] rfl)
  · refine lv_if_ne (tgt := 20) hx hb dX4_go_13 (by decide) (fun c13 => absurd c13 (by decide)) (fun c13 => ?_)
    refine lv_iconst (v := 1) hx hb dX4_go_16 (by decide) ?_
    refine lv_goto (tgt := 21) hx hb dX4_go_17 (by decide) ?_
    refine lv_iconst (v := 1) hx hb dX4_go_21 (by decide) ?_
    refine wx_calli (va_runV (As := [.int 1, .int 1]) (rest := []) ⟨hx, hb, hml, hown, hts⟩ (k_fails l hst g base n L (by omega) (st y 0 0 0 0) ch r0 st_eq 1 1 (by decide)) (cwV 2 hts gX4_go_X4_fails rfl rfl rfl (by decide +kernel) ⟨Nat.le_of_ble_eq_true rfl, Nat.le_of_ble_eq_true rfl⟩) (hPW.preV hP hS (ci := 6) rfl (by omega) mw_o) rfl rfl hl.1 rfl (lv_room (Nat.le_of_ble_eq_true rfl)) dX4_go_22 ⟨Nat.le_of_ble_eq_true rfl, Nat.le_of_ble_eq_true rfl⟩) hS (fun r22 u22 H locs h22 hP hS => ?_)
    obtain ⟨rfl, -, e9⟩ : r22 = 1 ∧ True ∧ u22 = st (st y 0 0 0 0) 0 0 0 1 := by rcases h22 with ⟨-, b, -⟩ | ⟨a, -, b⟩; exact absurd b (by decide); exact ⟨a, trivial, b⟩
    have e9 := e9.symm
    subst e9
    refine lv_if_ne (tgt := 53) hx hb dX4_go_25 (by decide) (fun c25 => ?_) (fun c25 => absurd c25 (by decide))
    refine lv_iconst (v := 0) hx hb dX4_go_53 (by decide) ?_
    refine W.widen (k := 0) (n := 0) (Nat.le_of_ble_eq_true rfl) (Nat.le_of_ble_eq_true rfl) ?_
    exact W.iret (v := 0) hx hb hr (fun t ht hW => ⟨⟨0, (st (st y 0 0 0 0) 0 0 0 1), rfl, Or.inl ⟨(by revert h10; (try simp only [Int32.lt_iff_toInt_lt, Int32.le_iff_toInt_le, ← Int32.toInt_inj, i_0, i_1, i_2, i_3, i_4, i_6, i_9, i_20, i_32, i_40, i_48, i_60, i_200, i_999, i_2000, i_m1]); omega), st_eq⟩, PB.mk9 hP ht⟩, hS.F ht⟩) hS.2.2 dX4_go_54

set_option maxHeartbeats 4000000 in
set_option maxRecDepth 100000 in
theorem km_shownShare (l : Launch) (hst : l.stackTraces = false) (g : gE) (base n : Nat) (L : Nat → Nat) (hn : 123 ≤ n) (y : St) (ch : Int64) (r0 : Nat → va_E) (hy1 : y 1 0 0 = nI 0) (hy2 : y 2 0 0 = 2) (hy3 : y 3 0 0 = nI 0) (hy4 : y 4 0 0 = nI 0)  : Met l yX4_shownShare wsX4_shownShare ({ frames := 5, cells := 0, slots := 0, locals := 140 }) (va_Pc [.ref (L 106)] (PW SS g base n L (mw g L y ch r0))) (va_Qf (fun (_ : UInt32) (u : St) => u 0 0 0 = 1) (fun (u : St) t => PB g n L (mw g L u ch r0) t) (fun q => base ≤ q)) 0 0 (fun q => base ≤ q) := by
  refine Met.ofW (cc := cX4_shownShare) (maxL := 3) (ret := (some .float)) (by decide) rfl ?_
  intro p e s m args below meth c s₁ B hml hv
  obtain ⟨rfl, hPW⟩ := hv
  obtain ⟨hbs, hJ, hP, hK, hE⟩ := id hPW
  have hx := B.exec
  have hb := B.bytes
  have hr := B.returns
  have hts := atoms_spec (ws := wsX4_shownShare) B.pre
  have hown : s.vm.findClass RX4 = some m.cls := findClass_of_methodNamed B.named
  have hlocks := B.notSynchronized
  have hS : va_S (fun q : Nat => base ≤ q) s.heap s.heap [] := va_S.rf
  have hl := lv_entry ([.ref (L 106)]) (n := 3) (Nat.le_of_ble_eq_true rfl)
  rw [lg_entry_eq]
  generalize (lg_sl ([.ref (L 106)]) ++ List.replicate (3 - (lg_sl ([.ref (L 106)])).length) Slot.unset).toArray = ls at hl ⊢
  have hl : lv_has ls 3 [(0, .ref (L 106))] := hl
  have iX4 : ∀ w ∈ wsX40, w ∈ wsX4_shownShare := by decide +kernel
  refine lv_aload_n hx hb dX4_shownShare_0 rfl (lv_at hl 0 rfl) ?_
  refine lv_iconst (v := 0) hx hb dX4_shownShare_1 (by decide) ?_
  refine wx_put (D := g.1) (cl := vwCl) (ci := 6) (v := .int 0) (ty := .int) (w' := mw g L (st y 0 0 0 0) ch r0) (C := RX4) (T := TX4) (N := 22) hx hb hts iX4 tyX4 tyX4_ok nmX4 hown hK hP hJ hS (106) (by omega) mw_o rfl 0 (by decide) (hts (.fieldLink RX4 64 "FerroDeskModel" "thrown" "I") (by decide +kernel)) (fun _ h9 => h9) rfl (by decide +kernel) rfl rfl (Nat.le_of_ble_eq_true rfl) dX4_shownShare_2 (mw_put (r := 0) (i := 0) (j := 0) rfl (by omega) (mk_o.trans (by simp [mF, st]))) (fun H locs hP hS => ?_)
  refine lv_aload_n hx hb dX4_shownShare_5 rfl (lv_at hl 0 rfl) ?_
  refine lv_aload_n hx hb dX4_shownShare_6 rfl (lv_at hl 0 rfl) ?_
  refine wx_get (D := g.1) (cl := vwCl) (ci := 6) (v := .int ((st y 0 0 0 0) 3 0 0)) (C := RX4) (T := TX4) (N := 22) hx hb hts iX4 hown hK hP (106) (by omega) mw_o rfl 3 (by decide) (hts (.fieldLink RX4 67 "FerroDeskModel" "boards" "I") (by decide +kernel)) (fun _ h9 => h9) rfl dX4_shownShare_7 ?_
  refine lv_if_ne (tgt := 17) hx hb dX4_shownShare_10 (by decide) (fun c10 => absurd c10 (fun h => h (by rw [st_ne (by decide), hy3]; decide))) (fun c10 => ?_)
  refine lv_iconst (v := 1) hx hb dX4_shownShare_13 (by decide) ?_
  refine lv_goto (tgt := 18) hx hb dX4_shownShare_14 (by decide) ?_
  refine lv_iconst (v := 1) hx hb dX4_shownShare_18 (by decide) ?_
  refine wx_calli (va_runV (As := [.int 1, .int 1]) (rest := []) ⟨hx, hb, hml, hown, hts⟩ (k_fails l hst g base n L (by omega) (st y 0 0 0 0) ch r0 st_eq 1 1 (by decide)) (cwV 2 hts gX4_shownShare_X4_fails rfl rfl rfl (by decide +kernel) ⟨Nat.le_of_ble_eq_true rfl, Nat.le_of_ble_eq_true rfl⟩) (hPW.preV hP hS (ci := 6) rfl (by omega) mw_o) rfl rfl hl.1 rfl (lv_room (Nat.le_of_ble_eq_true rfl)) dX4_shownShare_19 ⟨Nat.le_of_ble_eq_true rfl, Nat.le_of_ble_eq_true rfl⟩) hS (fun r19 u19 H locs h19 hP hS => ?_)
  obtain ⟨rfl, -, e9⟩ : r19 = 1 ∧ True ∧ u19 = st (st y 0 0 0 0) 0 0 0 1 := by rcases h19 with ⟨-, b, -⟩ | ⟨a, -, b⟩; exact absurd b (by decide); exact ⟨a, trivial, b⟩
  have e9 := e9.symm
  subst e9
  refine lv_if_eq (tgt := 27) hx hb dX4_shownShare_22 (by decide) (fun c22 => absurd c22 (by decide)) (fun c22 => ?_)
  refine lv_fconst0 hx hb dX4_shownShare_25 ?_
  refine W.widen (k := 0) (n := 0) (Nat.le_of_ble_eq_true rfl) (Nat.le_of_ble_eq_true rfl) ?_
  exact W.fret (v := FP.fconst0) hx hb hr (fun t ht hW => ⟨⟨FP.fconst0, (st (st y 0 0 0 0) 0 0 0 1), rfl, st_eq, PB.mk9 hP ht⟩, hS.F ht⟩) hS.2.2 dX4_shownShare_26

set_option maxHeartbeats 4000000 in
set_option maxRecDepth 100000 in
theorem km_meanWear (l : Launch) (hst : l.stackTraces = false) (g : gE) (base n : Nat) (L : Nat → Nat) (hn : 123 ≤ n) (y : St) (ch : Int64) (r0 : Nat → va_E) (hy1 : y 1 0 0 = nI 0) (hy2 : y 2 0 0 = 2) (hy3 : y 3 0 0 = nI 0) (hy4 : y 4 0 0 = nI 0)  : Met l yX4_meanWear wsX4_meanWear ({ frames := 5, cells := 0, slots := 0, locals := 140 }) (va_Pc [.ref (L 106)] (PW SS g base n L (mw g L y ch r0))) (va_Qd (fun (_ : UInt64) (u : St) => u 0 0 0 = 1) (fun (u : St) t => PB g n L (mw g L u ch r0) t) (fun q => base ≤ q)) 0 0 (fun q => base ≤ q) := by
  refine Met.ofW (cc := cX4_meanWear) (maxL := 3) (ret := (some .double)) (by decide) rfl ?_
  intro p e s m args below meth c s₁ B hml hv
  obtain ⟨rfl, hPW⟩ := hv
  obtain ⟨hbs, hJ, hP, hK, hE⟩ := id hPW
  have hx := B.exec
  have hb := B.bytes
  have hr := B.returns
  have hts := atoms_spec (ws := wsX4_meanWear) B.pre
  have hown : s.vm.findClass RX4 = some m.cls := findClass_of_methodNamed B.named
  have hlocks := B.notSynchronized
  have hS : va_S (fun q : Nat => base ≤ q) s.heap s.heap [] := va_S.rf
  have hl := lv_entry ([.ref (L 106)]) (n := 3) (Nat.le_of_ble_eq_true rfl)
  rw [lg_entry_eq]
  generalize (lg_sl ([.ref (L 106)]) ++ List.replicate (3 - (lg_sl ([.ref (L 106)])).length) Slot.unset).toArray = ls at hl ⊢
  have hl : lv_has ls 3 [(0, .ref (L 106))] := hl
  have iX4 : ∀ w ∈ wsX40, w ∈ wsX4_meanWear := by decide +kernel
  refine lv_aload_n hx hb dX4_meanWear_0 rfl (lv_at hl 0 rfl) ?_
  refine lv_iconst (v := 0) hx hb dX4_meanWear_1 (by decide) ?_
  refine wx_put (D := g.1) (cl := vwCl) (ci := 6) (v := .int 0) (ty := .int) (w' := mw g L (st y 0 0 0 0) ch r0) (C := RX4) (T := TX4) (N := 22) hx hb hts iX4 tyX4 tyX4_ok nmX4 hown hK hP hJ hS (106) (by omega) mw_o rfl 0 (by decide) (hts (.fieldLink RX4 64 "FerroDeskModel" "thrown" "I") (by decide +kernel)) (fun _ h9 => h9) rfl (by decide +kernel) rfl rfl (Nat.le_of_ble_eq_true rfl) dX4_meanWear_2 (mw_put (r := 0) (i := 0) (j := 0) rfl (by omega) (mk_o.trans (by simp [mF, st]))) (fun H locs hP hS => ?_)
  refine lv_aload_n hx hb dX4_meanWear_5 rfl (lv_at hl 0 rfl) ?_
  refine lv_aload_n hx hb dX4_meanWear_6 rfl (lv_at hl 0 rfl) ?_
  refine wx_get (D := g.1) (cl := vwCl) (ci := 6) (v := .int ((st y 0 0 0 0) 3 0 0)) (C := RX4) (T := TX4) (N := 22) hx hb hts iX4 hown hK hP (106) (by omega) mw_o rfl 3 (by decide) (hts (.fieldLink RX4 67 "FerroDeskModel" "boards" "I") (by decide +kernel)) (fun _ h9 => h9) rfl dX4_meanWear_7 ?_
  refine lv_if_ne (tgt := 17) hx hb dX4_meanWear_10 (by decide) (fun c10 => absurd c10 (fun h => h (by rw [st_ne (by decide), hy3]; decide))) (fun c10 => ?_)
  refine lv_iconst (v := 1) hx hb dX4_meanWear_13 (by decide) ?_
  refine lv_goto (tgt := 18) hx hb dX4_meanWear_14 (by decide) ?_
  refine lv_iconst (v := 1) hx hb dX4_meanWear_18 (by decide) ?_
  refine wx_calli (va_runV (As := [.int 1, .int 1]) (rest := []) ⟨hx, hb, hml, hown, hts⟩ (k_fails l hst g base n L (by omega) (st y 0 0 0 0) ch r0 st_eq 1 1 (by decide)) (cwV 2 hts gX4_meanWear_X4_fails rfl rfl rfl (by decide +kernel) ⟨Nat.le_of_ble_eq_true rfl, Nat.le_of_ble_eq_true rfl⟩) (hPW.preV hP hS (ci := 6) rfl (by omega) mw_o) rfl rfl hl.1 rfl (lv_room (Nat.le_of_ble_eq_true rfl)) dX4_meanWear_19 ⟨Nat.le_of_ble_eq_true rfl, Nat.le_of_ble_eq_true rfl⟩) hS (fun r19 u19 H locs h19 hP hS => ?_)
  obtain ⟨rfl, -, e9⟩ : r19 = 1 ∧ True ∧ u19 = st (st y 0 0 0 0) 0 0 0 1 := by rcases h19 with ⟨-, b, -⟩ | ⟨a, -, b⟩; exact absurd b (by decide); exact ⟨a, trivial, b⟩
  have e9 := e9.symm
  subst e9
  refine lv_if_eq (tgt := 27) hx hb dX4_meanWear_22 (by decide) (fun c22 => absurd c22 (by decide)) (fun c22 => ?_)
  refine lv_dconst0 hx hb dX4_meanWear_25 ?_
  refine W.widen (k := 0) (n := 0) (Nat.le_of_ble_eq_true rfl) (Nat.le_of_ble_eq_true rfl) ?_
  exact W.dret (v := FP.dconst0) hx hb hr (fun t ht hW => ⟨⟨FP.dconst0, (st (st y 0 0 0 0) 0 0 0 1), rfl, st_eq, PB.mk9 hP ht⟩, hS.F ht⟩) hS.2.2 dX4_meanWear_26

set_option maxHeartbeats 4000000 in
set_option maxRecDepth 100000 in
theorem km_hour (l : Launch) (hst : l.stackTraces = false) (g : gE) (base n : Nat) (L : Nat → Nat) (hn : 123 ≤ n) (y : St) (ch : Int64) (r0 : Nat → va_E) (hy1 : y 1 0 0 = nI 0) (hy2 : y 2 0 0 = 2) (hy3 : y 3 0 0 = nI 0) (hy4 : y 4 0 0 = nI 0)  : Met l yX4_hour wsX4_hour ({ frames := 5, cells := 0, slots := 0, locals := 140 }) (va_Pc [.ref (L 106)] (PW SS g base n L (mw g L y ch r0))) (va_Qi (fun (r : Int32) (u : St) => r = 0) (fun (u : St) t => PB g n L (mw g L u ch r0) t) (fun q => base ≤ q)) 0 0 (fun q => base ≤ q) := by
  refine Met.ofW (cc := cX4_hour) (maxL := 1) (ret := (some .int)) (by decide) rfl ?_
  intro p e s m args below meth c s₁ B hml hv
  obtain ⟨rfl, hPW⟩ := hv
  obtain ⟨hbs, hJ, hP, hK, hE⟩ := id hPW
  have hx := B.exec
  have hb := B.bytes
  have hr := B.returns
  have hts := atoms_spec (ws := wsX4_hour) B.pre
  have hown : s.vm.findClass RX4 = some m.cls := findClass_of_methodNamed B.named
  have hlocks := B.notSynchronized
  have hS : va_S (fun q : Nat => base ≤ q) s.heap s.heap [] := va_S.rf
  have hl := lv_entry ([.ref (L 106)]) (n := 1) (Nat.le_of_ble_eq_true rfl)
  rw [lg_entry_eq]
  generalize (lg_sl ([.ref (L 106)]) ++ List.replicate (1 - (lg_sl ([.ref (L 106)])).length) Slot.unset).toArray = ls at hl ⊢
  have hl : lv_has ls 1 [(0, .ref (L 106))] := hl
  have iX4 : ∀ w ∈ wsX40, w ∈ wsX4_hour := by decide +kernel
  refine lv_aload_n hx hb dX4_hour_0 rfl (lv_at hl 0 rfl) ?_
  refine lv_iconst (v := 0) hx hb dX4_hour_1 (by decide) ?_
  refine wx_put (D := g.1) (cl := vwCl) (ci := 6) (v := .int 0) (ty := .int) (w' := mw g L (st y 0 0 0 0) ch r0) (C := RX4) (T := TX4) (N := 22) hx hb hts iX4 tyX4 tyX4_ok nmX4 hown hK hP hJ hS (106) (by omega) mw_o rfl 0 (by decide) (hts (.fieldLink RX4 64 "FerroDeskModel" "thrown" "I") (by decide +kernel)) (fun _ h9 => h9) rfl (by decide +kernel) rfl rfl (Nat.le_of_ble_eq_true rfl) dX4_hour_2 (mw_put (r := 0) (i := 0) (j := 0) rfl (by omega) (mk_o.trans (by simp [mF, st]))) (fun H locs hP hS => ?_)
  refine lv_aload_n hx hb dX4_hour_5 rfl (lv_at hl 0 rfl) ?_
  refine wx_get (D := g.1) (cl := vwCl) (ci := 6) (v := .int ((st y 0 0 0 0) 1 0 0)) (C := RX4) (T := TX4) (N := 22) hx hb hts iX4 hown hK hP (106) (by omega) mw_o rfl 1 (by decide) (hts (.fieldLink RX4 101 "FerroDeskModel" "hour" "I") (by decide +kernel)) (fun _ h9 => h9) rfl dX4_hour_6 ?_
  refine W.widen (k := 0) (n := 0) (Nat.le_of_ble_eq_true rfl) (Nat.le_of_ble_eq_true rfl) ?_
  exact W.iret (v := (st y 0 0 0 0) 1 0 0) hx hb hr (fun t ht hW => ⟨⟨(st y 0 0 0 0) 1 0 0, (st y 0 0 0 0), rfl, (by rw [st_ne (by decide), hy1]; exact nI_0), PB.mk9 hP ht⟩, hS.F ht⟩) hS.2.2 dX4_hour_9

set_option maxHeartbeats 4000000 in
set_option maxRecDepth 100000 in
theorem km_boards (l : Launch) (hst : l.stackTraces = false) (g : gE) (base n : Nat) (L : Nat → Nat) (hn : 123 ≤ n) (y : St) (ch : Int64) (r0 : Nat → va_E) (hy1 : y 1 0 0 = nI 0) (hy2 : y 2 0 0 = 2) (hy3 : y 3 0 0 = nI 0) (hy4 : y 4 0 0 = nI 0)  : Met l yX4_boards wsX4_boards ({ frames := 5, cells := 0, slots := 0, locals := 140 }) (va_Pc [.ref (L 106)] (PW SS g base n L (mw g L y ch r0))) (va_Qi (fun (r : Int32) (u : St) => r = 0) (fun (u : St) t => PB g n L (mw g L u ch r0) t) (fun q => base ≤ q)) 0 0 (fun q => base ≤ q) := by
  refine Met.ofW (cc := cX4_boards) (maxL := 1) (ret := (some .int)) (by decide) rfl ?_
  intro p e s m args below meth c s₁ B hml hv
  obtain ⟨rfl, hPW⟩ := hv
  obtain ⟨hbs, hJ, hP, hK, hE⟩ := id hPW
  have hx := B.exec
  have hb := B.bytes
  have hr := B.returns
  have hts := atoms_spec (ws := wsX4_boards) B.pre
  have hown : s.vm.findClass RX4 = some m.cls := findClass_of_methodNamed B.named
  have hlocks := B.notSynchronized
  have hS : va_S (fun q : Nat => base ≤ q) s.heap s.heap [] := va_S.rf
  have hl := lv_entry ([.ref (L 106)]) (n := 1) (Nat.le_of_ble_eq_true rfl)
  rw [lg_entry_eq]
  generalize (lg_sl ([.ref (L 106)]) ++ List.replicate (1 - (lg_sl ([.ref (L 106)])).length) Slot.unset).toArray = ls at hl ⊢
  have hl : lv_has ls 1 [(0, .ref (L 106))] := hl
  have iX4 : ∀ w ∈ wsX40, w ∈ wsX4_boards := by decide +kernel
  refine lv_aload_n hx hb dX4_boards_0 rfl (lv_at hl 0 rfl) ?_
  refine lv_iconst (v := 0) hx hb dX4_boards_1 (by decide) ?_
  refine wx_put (D := g.1) (cl := vwCl) (ci := 6) (v := .int 0) (ty := .int) (w' := mw g L (st y 0 0 0 0) ch r0) (C := RX4) (T := TX4) (N := 22) hx hb hts iX4 tyX4 tyX4_ok nmX4 hown hK hP hJ hS (106) (by omega) mw_o rfl 0 (by decide) (hts (.fieldLink RX4 64 "FerroDeskModel" "thrown" "I") (by decide +kernel)) (fun _ h9 => h9) rfl (by decide +kernel) rfl rfl (Nat.le_of_ble_eq_true rfl) dX4_boards_2 (mw_put (r := 0) (i := 0) (j := 0) rfl (by omega) (mk_o.trans (by simp [mF, st]))) (fun H locs hP hS => ?_)
  refine lv_aload_n hx hb dX4_boards_5 rfl (lv_at hl 0 rfl) ?_
  refine wx_get (D := g.1) (cl := vwCl) (ci := 6) (v := .int ((st y 0 0 0 0) 3 0 0)) (C := RX4) (T := TX4) (N := 22) hx hb hts iX4 hown hK hP (106) (by omega) mw_o rfl 3 (by decide) (hts (.fieldLink RX4 67 "FerroDeskModel" "boards" "I") (by decide +kernel)) (fun _ h9 => h9) rfl dX4_boards_6 ?_
  refine W.widen (k := 0) (n := 0) (Nat.le_of_ble_eq_true rfl) (Nat.le_of_ble_eq_true rfl) ?_
  exact W.iret (v := (st y 0 0 0 0) 3 0 0) hx hb hr (fun t ht hW => ⟨⟨(st y 0 0 0 0) 3 0 0, (st y 0 0 0 0), rfl, (by rw [st_ne (by decide), hy3]; exact nI_0), PB.mk9 hP ht⟩, hS.F ht⟩) hS.2.2 dX4_boards_9

set_option maxHeartbeats 4000000 in
set_option maxRecDepth 100000 in
theorem km_notices (l : Launch) (hst : l.stackTraces = false) (g : gE) (base n : Nat) (L : Nat → Nat) (hn : 123 ≤ n) (y : St) (ch : Int64) (r0 : Nat → va_E) (hy1 : y 1 0 0 = nI 0) (hy2 : y 2 0 0 = 2) (hy3 : y 3 0 0 = nI 0) (hy4 : y 4 0 0 = nI 0)  : Met l yX4_notices wsX4_notices ({ frames := 5, cells := 0, slots := 0, locals := 140 }) (va_Pc [.ref (L 106)] (PW SS g base n L (mw g L y ch r0))) (va_Qi (fun (r : Int32) (u : St) => r = 0) (fun (u : St) t => PB g n L (mw g L u ch r0) t) (fun q => base ≤ q)) 0 0 (fun q => base ≤ q) := by
  refine Met.ofW (cc := cX4_notices) (maxL := 1) (ret := (some .int)) (by decide) rfl ?_
  intro p e s m args below meth c s₁ B hml hv
  obtain ⟨rfl, hPW⟩ := hv
  obtain ⟨hbs, hJ, hP, hK, hE⟩ := id hPW
  have hx := B.exec
  have hb := B.bytes
  have hr := B.returns
  have hts := atoms_spec (ws := wsX4_notices) B.pre
  have hown : s.vm.findClass RX4 = some m.cls := findClass_of_methodNamed B.named
  have hlocks := B.notSynchronized
  have hS : va_S (fun q : Nat => base ≤ q) s.heap s.heap [] := va_S.rf
  have hl := lv_entry ([.ref (L 106)]) (n := 1) (Nat.le_of_ble_eq_true rfl)
  rw [lg_entry_eq]
  generalize (lg_sl ([.ref (L 106)]) ++ List.replicate (1 - (lg_sl ([.ref (L 106)])).length) Slot.unset).toArray = ls at hl ⊢
  have hl : lv_has ls 1 [(0, .ref (L 106))] := hl
  have iX4 : ∀ w ∈ wsX40, w ∈ wsX4_notices := by decide +kernel
  refine lv_aload_n hx hb dX4_notices_0 rfl (lv_at hl 0 rfl) ?_
  refine lv_iconst (v := 0) hx hb dX4_notices_1 (by decide) ?_
  refine wx_put (D := g.1) (cl := vwCl) (ci := 6) (v := .int 0) (ty := .int) (w' := mw g L (st y 0 0 0 0) ch r0) (C := RX4) (T := TX4) (N := 22) hx hb hts iX4 tyX4 tyX4_ok nmX4 hown hK hP hJ hS (106) (by omega) mw_o rfl 0 (by decide) (hts (.fieldLink RX4 64 "FerroDeskModel" "thrown" "I") (by decide +kernel)) (fun _ h9 => h9) rfl (by decide +kernel) rfl rfl (Nat.le_of_ble_eq_true rfl) dX4_notices_2 (mw_put (r := 0) (i := 0) (j := 0) rfl (by omega) (mk_o.trans (by simp [mF, st]))) (fun H locs hP hS => ?_)
  refine lv_aload_n hx hb dX4_notices_5 rfl (lv_at hl 0 rfl) ?_
  refine wx_get (D := g.1) (cl := vwCl) (ci := 6) (v := .int ((st y 0 0 0 0) 4 0 0)) (C := RX4) (T := TX4) (N := 22) hx hb hts iX4 hown hK hP (106) (by omega) mw_o rfl 4 (by decide) (hts (.fieldLink RX4 74 "FerroDeskModel" "notices" "I") (by decide +kernel)) (fun _ h9 => h9) rfl dX4_notices_6 ?_
  refine W.widen (k := 0) (n := 0) (Nat.le_of_ble_eq_true rfl) (Nat.le_of_ble_eq_true rfl) ?_
  exact W.iret (v := (st y 0 0 0 0) 4 0 0) hx hb hr (fun t ht hW => ⟨⟨(st y 0 0 0 0) 4 0 0, (st y 0 0 0 0), rfl, (by rw [st_ne (by decide), hy4]; exact nI_0), PB.mk9 hP ht⟩, hS.F ht⟩) hS.2.2 dX4_notices_9

set_option maxHeartbeats 4000000 in
set_option maxRecDepth 100000 in
theorem km_changes (l : Launch) (hst : l.stackTraces = false) (g : gE) (base n : Nat) (L : Nat → Nat) (hn : 123 ≤ n) (y : St) (ch : Int64) (r0 : Nat → va_E) (hy1 : y 1 0 0 = nI 0) (hy2 : y 2 0 0 = 2) (hy3 : y 3 0 0 = nI 0) (hy4 : y 4 0 0 = nI 0)  : Met l yX4_changes wsX4_changes ({ frames := 5, cells := 0, slots := 0, locals := 140 }) (va_Pc [.ref (L 106)] (PW SS g base n L (mw g L y ch r0))) (va_Ql (fun (r : Int64) (u : St) => r = ch) (fun (u : St) t => PB g n L (mw g L u ch r0) t) (fun q => base ≤ q)) 0 0 (fun q => base ≤ q) := by
  refine Met.ofW (cc := cX4_changes) (maxL := 1) (ret := (some .long)) (by decide) rfl ?_
  intro p e s m args below meth c s₁ B hml hv
  obtain ⟨rfl, hPW⟩ := hv
  obtain ⟨hbs, hJ, hP, hK, hE⟩ := id hPW
  have hx := B.exec
  have hb := B.bytes
  have hr := B.returns
  have hts := atoms_spec (ws := wsX4_changes) B.pre
  have hown : s.vm.findClass RX4 = some m.cls := findClass_of_methodNamed B.named
  have hlocks := B.notSynchronized
  have hS : va_S (fun q : Nat => base ≤ q) s.heap s.heap [] := va_S.rf
  have hl := lv_entry ([.ref (L 106)]) (n := 1) (Nat.le_of_ble_eq_true rfl)
  rw [lg_entry_eq]
  generalize (lg_sl ([.ref (L 106)]) ++ List.replicate (1 - (lg_sl ([.ref (L 106)])).length) Slot.unset).toArray = ls at hl ⊢
  have hl : lv_has ls 1 [(0, .ref (L 106))] := hl
  have iX4 : ∀ w ∈ wsX40, w ∈ wsX4_changes := by decide +kernel
  refine lv_aload_n hx hb dX4_changes_0 rfl (lv_at hl 0 rfl) ?_
  refine lv_iconst (v := 0) hx hb dX4_changes_1 (by decide) ?_
  refine wx_put (D := g.1) (cl := vwCl) (ci := 6) (v := .int 0) (ty := .int) (w' := mw g L (st y 0 0 0 0) ch r0) (C := RX4) (T := TX4) (N := 22) hx hb hts iX4 tyX4 tyX4_ok nmX4 hown hK hP hJ hS (106) (by omega) mw_o rfl 0 (by decide) (hts (.fieldLink RX4 64 "FerroDeskModel" "thrown" "I") (by decide +kernel)) (fun _ h9 => h9) rfl (by decide +kernel) rfl rfl (Nat.le_of_ble_eq_true rfl) dX4_changes_2 (mw_put (r := 0) (i := 0) (j := 0) rfl (by omega) (mk_o.trans (by simp [mF, st]))) (fun H locs hP hS => ?_)
  refine lv_aload_n hx hb dX4_changes_5 rfl (lv_at hl 0 rfl) ?_
  refine wx_get (D := g.1) (cl := vwCl) (ci := 6) (v := .long ch) (C := RX4) (T := TX4) (N := 22) hx hb hts iX4 hown hK hP (106) (by omega) mw_o rfl 5 (by decide) (hts (.fieldLink RX4 134 "FerroDeskModel" "changes" "J") (by decide +kernel)) (fun _ h9 => h9) rfl dX4_changes_6 ?_
  refine W.widen (k := 0) (n := 0) (Nat.le_of_ble_eq_true rfl) (Nat.le_of_ble_eq_true rfl) ?_
  exact W.lret (v := ch) hx hb hr (fun t ht hW => ⟨⟨ch, (st y 0 0 0 0), rfl, rfl, PB.mk9 hP ht⟩, hS.F ht⟩) hS.2.2 dX4_changes_9

set_option maxHeartbeats 4000000 in
set_option maxRecDepth 100000 in
theorem km_checksum (l : Launch) (hst : l.stackTraces = false) (g : gE) (base n : Nat) (L : Nat → Nat) (hn : 123 ≤ n) (y : St) (ch : Int64) (r0 : Nat → va_E) (hy1 : y 1 0 0 = nI 0) (hy2 : y 2 0 0 = 2) (hy3 : y 3 0 0 = nI 0) (hy4 : y 4 0 0 = nI 0)  : Met l yX4_checksum wsX4_checksum ({ frames := 5, cells := 0, slots := 0, locals := 140 }) (va_Pc [.ref (L 106)] (PW SS g base n L (mw g L y ch r0))) (va_Ql (fun (r : Int64) (u : St) => r = 0) (fun (u : St) t => PB g n L (mw g L u ch r0) t) (fun q => base ≤ q)) 0 0 (fun q => base ≤ q) := by
  refine Met.ofW (cc := cX4_checksum) (maxL := 4) (ret := (some .long)) (by decide) rfl ?_
  intro p e s m args below meth c s₁ B hml hv
  obtain ⟨rfl, hPW⟩ := hv
  obtain ⟨hbs, hJ, hP, hK, hE⟩ := id hPW
  have hx := B.exec
  have hb := B.bytes
  have hr := B.returns
  have hts := atoms_spec (ws := wsX4_checksum) B.pre
  have hown : s.vm.findClass RX4 = some m.cls := findClass_of_methodNamed B.named
  have hlocks := B.notSynchronized
  have hS : va_S (fun q : Nat => base ≤ q) s.heap s.heap [] := va_S.rf
  have hl := lv_entry ([.ref (L 106)]) (n := 4) (Nat.le_of_ble_eq_true rfl)
  rw [lg_entry_eq]
  generalize (lg_sl ([.ref (L 106)]) ++ List.replicate (4 - (lg_sl ([.ref (L 106)])).length) Slot.unset).toArray = ls at hl ⊢
  have hl : lv_has ls 4 [(0, .ref (L 106))] := hl
  have iX4 : ∀ w ∈ wsX40, w ∈ wsX4_checksum := by decide +kernel
  refine lv_aload_n hx hb dX4_checksum_0 rfl (lv_at hl 0 rfl) ?_
  refine lv_iconst (v := 0) hx hb dX4_checksum_1 (by decide) ?_
  refine wx_put (D := g.1) (cl := vwCl) (ci := 6) (v := .int 0) (ty := .int) (w' := mw g L (st y 0 0 0 0) ch r0) (C := RX4) (T := TX4) (N := 22) hx hb hts iX4 tyX4 tyX4_ok nmX4 hown hK hP hJ hS (106) (by omega) mw_o rfl 0 (by decide) (hts (.fieldLink RX4 64 "FerroDeskModel" "thrown" "I") (by decide +kernel)) (fun _ h9 => h9) rfl (by decide +kernel) rfl rfl (Nat.le_of_ble_eq_true rfl) dX4_checksum_2 (mw_put (r := 0) (i := 0) (j := 0) rfl (by omega) (mk_o.trans (by simp [mF, st]))) (fun H locs hP hS => ?_)
  refine lv_lconst (v := 0) hx hb dX4_checksum_5 (by decide) ?_
  refine lv_lstore_n (lv' := [(1, .long 0), (0, .ref (L 106))]) hx hb dX4_checksum_6 rfl hl (by decide) rfl (fun ls hl => ?_)
  refine lv_iconst (v := 0) hx hb dX4_checksum_7 (by decide) ?_
  refine lv_istore_n (lv' := [(3, .int 0), (1, .long 0), (0, .ref (L 106))]) hx hb dX4_checksum_8 rfl hl (by decide) rfl (fun ls hl => ?_)
  refine lv_iload_n hx hb dX4_checksum_9 rfl (lv_at hl 0 rfl) ?_
  refine lv_bipush (v := 32) hx hb dX4_checksum_10 (by decide) ?_
  refine lv_aload_n hx hb dX4_checksum_12 rfl (lv_at hl 2 rfl) ?_
  refine wx_get (D := g.1) (cl := vwCl) (ci := 6) (v := .int ((st y 0 0 0 0) 3 0 0)) (C := RX4) (T := TX4) (N := 22) hx hb hts iX4 hown hK hP (106) (by omega) mw_o rfl 3 (by decide) (hts (.fieldLink RX4 67 "FerroDeskModel" "boards" "I") (by decide +kernel)) (fun _ h9 => h9) rfl dX4_checksum_13 ?_
  refine lv_imul hx hb dX4_checksum_16 ?_
  refine lv_icmp_ge (tgt := 60) hx hb dX4_checksum_17 (by decide) (fun c17 => ?_) (fun c17 => absurd ((by rw [st_ne (by decide), hy3]; decide)) c17)
  refine lv_lload_n hx hb dX4_checksum_60 rfl (lv_at hl 1 rfl) ?_
  refine W.widen (k := 0) (n := 0) (Nat.le_of_ble_eq_true rfl) (Nat.le_of_ble_eq_true rfl) ?_
  exact W.lret (v := 0) hx hb hr (fun t ht hW => ⟨⟨0, (st y 0 0 0 0), rfl, rfl, PB.mk9 hP ht⟩, hS.F ht⟩) hS.2.2 dX4_checksum_61

set_option maxHeartbeats 4000000 in
set_option maxRecDepth 100000 in
theorem km_isSound (l : Launch) (hst : l.stackTraces = false) (g : gE) (base n : Nat) (L : Nat → Nat) (hn : 123 ≤ n) (y : St) (ch : Int64) (r0 : Nat → va_E) (hy1 : y 1 0 0 = nI 0) (hy2 : y 2 0 0 = 2) (hy3 : y 3 0 0 = nI 0) (hy4 : y 4 0 0 = nI 0)  : Met l yX4_isSound wsX4_isSound ({ frames := 5, cells := 0, slots := 0, locals := 140 }) (va_Pc [.ref (L 106)] (PW SS g base n L (mw g L y ch r0))) (va_Qi (fun (r : Int32) (u : St) => r = 1) (fun (u : St) t => PB g n L (mw g L u ch r0) t) (fun q => base ≤ q)) 0 0 (fun q => base ≤ q) := by
  refine Met.ofW (cc := cX4_isSound) (maxL := 1) (ret := (some .boolean)) (by decide) rfl ?_
  intro p e s m args below meth c s₁ B hml hv
  obtain ⟨rfl, hPW⟩ := hv
  obtain ⟨hbs, hJ, hP, hK, hE⟩ := id hPW
  have hx := B.exec
  have hb := B.bytes
  have hr := B.returns
  have hts := atoms_spec (ws := wsX4_isSound) B.pre
  have hown : s.vm.findClass RX4 = some m.cls := findClass_of_methodNamed B.named
  have hlocks := B.notSynchronized
  have hS : va_S (fun q : Nat => base ≤ q) s.heap s.heap [] := va_S.rf
  have hl := lv_entry ([.ref (L 106)]) (n := 1) (Nat.le_of_ble_eq_true rfl)
  rw [lg_entry_eq]
  generalize (lg_sl ([.ref (L 106)]) ++ List.replicate (1 - (lg_sl ([.ref (L 106)])).length) Slot.unset).toArray = ls at hl ⊢
  have hl : lv_has ls 1 [(0, .ref (L 106))] := hl
  have iX4 : ∀ w ∈ wsX40, w ∈ wsX4_isSound := by decide +kernel
  refine lv_aload_n hx hb dX4_isSound_0 rfl (lv_at hl 0 rfl) ?_
  refine lv_iconst (v := 0) hx hb dX4_isSound_1 (by decide) ?_
  refine wx_put (D := g.1) (cl := vwCl) (ci := 6) (v := .int 0) (ty := .int) (w' := mw g L (st y 0 0 0 0) ch r0) (C := RX4) (T := TX4) (N := 22) hx hb hts iX4 tyX4 tyX4_ok nmX4 hown hK hP hJ hS (106) (by omega) mw_o rfl 0 (by decide) (hts (.fieldLink RX4 64 "FerroDeskModel" "thrown" "I") (by decide +kernel)) (fun _ h9 => h9) rfl (by decide +kernel) rfl rfl (Nat.le_of_ble_eq_true rfl) dX4_isSound_2 (mw_put (r := 0) (i := 0) (j := 0) rfl (by omega) (mk_o.trans (by simp [mF, st]))) (fun H locs hP hS => ?_)
  refine lv_iconst (v := 1) hx hb dX4_isSound_5 (by decide) ?_
  refine W.widen (k := 0) (n := 0) (Nat.le_of_ble_eq_true rfl) (Nat.le_of_ble_eq_true rfl) ?_
  exact W.zret (v := 1) hx hb hr (by decide) (fun t ht hW => ⟨⟨1, (st y 0 0 0 0), rfl, rfl, PB.mk9 hP ht⟩, hS.F ht⟩) hS.2.2 dX4_isSound_6

set_option maxHeartbeats 4000000 in
set_option maxRecDepth 100000 in
theorem km_thrown (l : Launch) (hst : l.stackTraces = false) (g : gE) (base n : Nat) (L : Nat → Nat) (hn : 123 ≤ n) (y : St) (ch : Int64) (r0 : Nat → va_E)  : Met l yX4_thrown wsX4_thrown ({ frames := 0, cells := 0, slots := 0, locals := 0 }) (va_Pc [.ref (L 106)] (PW SS g base n L (mw g L y ch r0))) (va_Qi (fun (r : Int32) (u : St) => r = y 0 0 0 ∧ u = y) (fun (u : St) t => PB g n L (mw g L u ch r0) t) (fun q => base ≤ q)) 0 0 (fun q => base ≤ q) := by
  refine Met.ofW (cc := cX4_thrown) (maxL := 1) (ret := (some .int)) (by decide) rfl ?_
  intro p e s m args below meth c s₁ B hml hv
  obtain ⟨rfl, hPW⟩ := hv
  obtain ⟨hbs, hJ, hP, hK, hE⟩ := id hPW
  have hx := B.exec
  have hb := B.bytes
  have hr := B.returns
  have hts := atoms_spec (ws := wsX4_thrown) B.pre
  have hown : s.vm.findClass RX4 = some m.cls := findClass_of_methodNamed B.named
  have hlocks := B.notSynchronized
  have hS : va_S (fun q : Nat => base ≤ q) s.heap s.heap [] := va_S.rf
  have hl := lv_entry ([.ref (L 106)]) (n := 1) (Nat.le_of_ble_eq_true rfl)
  rw [lg_entry_eq]
  generalize (lg_sl ([.ref (L 106)]) ++ List.replicate (1 - (lg_sl ([.ref (L 106)])).length) Slot.unset).toArray = ls at hl ⊢
  have hl : lv_has ls 1 [(0, .ref (L 106))] := hl
  have iX4 : ∀ w ∈ wsX40, w ∈ wsX4_thrown := by decide +kernel
  refine lv_aload_n hx hb dX4_thrown_0 rfl (lv_at hl 0 rfl) ?_
  refine wx_get (D := g.1) (cl := vwCl) (ci := 6) (v := .int (y 0 0 0)) (C := RX4) (T := TX4) (N := 22) hx hb hts iX4 hown hK hP (106) (by omega) mw_o rfl 0 (by decide) (hts (.fieldLink RX4 64 "FerroDeskModel" "thrown" "I") (by decide +kernel)) (fun _ h9 => h9) rfl dX4_thrown_1 ?_
  refine W.widen (k := 0) (n := 0) (Nat.le_of_ble_eq_true rfl) (Nat.le_of_ble_eq_true rfl) ?_
  exact W.iret (v := y 0 0 0) hx hb hr (fun t ht hW => ⟨⟨y 0 0 0, y, rfl, ⟨rfl, rfl⟩, PB.mk9 hP ht⟩, hS.F ht⟩) hS.2.2 dX4_thrown_4
