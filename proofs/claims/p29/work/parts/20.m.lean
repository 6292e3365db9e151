/-! laid by wip/gen -/
set_option maxHeartbeats 4000000 in
set_option maxRecDepth 100000 in
theorem m_add (l : Launch) (hst : l.stackTraces = false) (g : gE) (base n : Nat) (L : Nat → Nat) (hn : 123 ≤ n) (y : St) (ch : Int64) (r0 : Nat → va_E) (nn : Nat) (hnn : nn ≤ 40) (hy4 : y 4 0 0 = nI nn) (hlt : nn < 40) (p0 p1 p2 p3 : Int32) : Met l yX4_add wsX4_add ({ frames := 0, cells := 0, slots := 0, locals := 0 }) (va_Pc [.ref (L 106), .int p0, .int p1, .int p2, .int p3] (PW SS g base n L (mw g L y ch r0))) (va_Qi (fun (r : Int32) (u : St) => u = adM y nn p0 p1 p2 p3 ∧ r = nI nn) (fun (u : St) t => PB g n L (mw g L u ch r0) t) (fun q => base ≤ q)) 0 0 (fun q => base ≤ q) := by
  refine Met.ofW (cc := cX4_add) (maxL := 5) (ret := (some .int)) (by decide) rfl ?_
  intro p e s m args below meth c s₁ B hml hv
  obtain ⟨rfl, hPW⟩ := hv
  obtain ⟨hbs, hJ, hP, hK, hE⟩ := id hPW
  have hx := B.exec
  have hb := B.bytes
  have hr := B.returns
  have hts := atoms_spec (ws := wsX4_add) B.pre
  have hown : s.vm.findClass RX4 = some m.cls := findClass_of_methodNamed B.named
  have hlocks := B.notSynchronized
  have hS : va_S (fun q : Nat => base ≤ q) s.heap s.heap [] := va_S.rf
  have hl := lv_entry ([.ref (L 106), .int p0, .int p1, .int p2, .int p3]) (n := 5) (Nat.le_of_ble_eq_true rfl)
  rw [lg_entry_eq]
  generalize (lg_sl ([.ref (L 106), .int p0, .int p1, .int p2, .int p3]) ++ List.replicate (5 - (lg_sl ([.ref (L 106), .int p0, .int p1, .int p2, .int p3])).length) Slot.unset).toArray = ls at hl ⊢
  have hl : lv_has ls 5 [(0, .ref (L 106)), (1, .int p0), (2, .int p1), (3, .int p2), (4, .int p3)] := hl
  have iX4 : ∀ w ∈ wsX40, w ∈ wsX4_add := by decide +kernel
  refine lv_aload_n hx hb dX4_add_0 rfl (lv_at hl 0 rfl) ?_
  refine wx_get (D := g.1) (cl := vwCl) (ci := 6) (v := .ref (L 114)) (C := RX4) (T := TX4) (N := 22) hx hb hts iX4 hown hK hP (106) (by omega) mw_o rfl 13 (by decide) (hts (.fieldLink RX4 36 "FerroDeskModel" "rank" "[I") (by decide +kernel)) (fun _ h9 => h9) rfl dX4_add_1 ?_
  refine lv_aload_n hx hb dX4_add_4 rfl (lv_at hl 0 rfl) ?_
  refine wx_get (D := g.1) (cl := vwCl) (ci := 6) (v := .int (y 4 0 0)) (C := RX4) (T := TX4) (N := 22) hx hb hts iX4 hown hK hP (106) (by omega) mw_o rfl 4 (by decide) (hts (.fieldLink RX4 74 "FerroDeskModel" "notices" "I") (by decide +kernel)) (fun _ h9 => h9) rfl dX4_add_5 ?_
  refine lv_iload_n hx hb dX4_add_8 rfl (lv_at hl 1 rfl) ?_
  refine wx_iast (D := g.1) (cl := vwCl) (N := 40) (f := fun j9 => y 17 0 j9) (w' := mw g L (st y 17 0 nn p0) ch r0) hx hb hK hP hJ hS (114) 0 (by omega) (mw_a (by decide) (by decide)) rfl (i := y 4 0 0) (by rw [show y 4 0 0 = nI nn from (by repeat (first | exact hy4 | rw [st_nr (by omega)]))]; exact vp_in_nI (by omega) (by decide)) dX4_add_9 (by rw [show y 4 0 0 = nI nn from (by repeat (first | exact hy4 | rw [st_nr (by omega)]))]; rw [nI_clamp (by omega)]; exact mw_st (r := 17) rfl (by decide) (by decide) rfl rfl rfl) (fun H locs hP hS => ?_)
  refine lv_aload_n hx hb dX4_add_10 rfl (lv_at hl 0 rfl) ?_
  refine wx_get (D := g.1) (cl := vwCl) (ci := 6) (v := .ref (L 115)) (C := RX4) (T := TX4) (N := 22) hx hb hts iX4 hown hK hP (106) (by omega) mw_o rfl 14 (by decide) (hts (.fieldLink RX4 39 "FerroDeskModel" "picture" "[I") (by decide +kernel)) (fun _ h9 => h9) rfl dX4_add_11 ?_
  refine lv_aload_n hx hb dX4_add_14 rfl (lv_at hl 0 rfl) ?_
  refine wx_get (D := g.1) (cl := vwCl) (ci := 6) (v := .int ((st y 17 0 nn p0) 4 0 0)) (C := RX4) (T := TX4) (N := 22) hx hb hts iX4 hown hK hP (106) (by omega) mw_o rfl 4 (by decide) (hts (.fieldLink RX4 74 "FerroDeskModel" "notices" "I") (by decide +kernel)) (fun _ h9 => h9) rfl dX4_add_15 ?_
  refine lv_iload_n hx hb dX4_add_18 rfl (lv_at hl 2 rfl) ?_
  refine wx_iast (D := g.1) (cl := vwCl) (N := 40) (f := fun j9 => (st y 17 0 nn p0) 18 0 j9) (w' := mw g L (st (st y 17 0 nn p0) 18 0 nn p1) ch r0) hx hb hK hP hJ hS (115) 0 (by omega) (mw_a (by decide) (by decide)) rfl (i := (st y 17 0 nn p0) 4 0 0) (by rw [show (st y 17 0 nn p0) 4 0 0 = nI nn from (by repeat (first | exact hy4 | rw [st_nr (by omega)]))]; exact vp_in_nI (by omega) (by decide)) dX4_add_19 (by rw [show (st y 17 0 nn p0) 4 0 0 = nI nn from (by repeat (first | exact hy4 | rw [st_nr (by omega)]))]; rw [nI_clamp (by omega)]; exact mw_st (r := 18) rfl (by decide) (by decide) rfl rfl rfl) (fun H locs hP hS => ?_)
  refine lv_aload_n hx hb dX4_add_20 rfl (lv_at hl 0 rfl) ?_
  refine wx_get (D := g.1) (cl := vwCl) (ci := 6) (v := .ref (L 116)) (C := RX4) (T := TX4) (N := 22) hx hb hts iX4 hown hK hP (106) (by omega) mw_o rfl 15 (by decide) (hts (.fieldLink RX4 42 "FerroDeskModel" "from" "[I") (by decide +kernel)) (fun _ h9 => h9) rfl dX4_add_21 ?_
  refine lv_aload_n hx hb dX4_add_24 rfl (lv_at hl 0 rfl) ?_
  refine wx_get (D := g.1) (cl := vwCl) (ci := 6) (v := .int ((st (st y 17 0 nn p0) 18 0 nn p1) 4 0 0)) (C := RX4) (T := TX4) (N := 22) hx hb hts iX4 hown hK hP (106) (by omega) mw_o rfl 4 (by decide) (hts (.fieldLink RX4 74 "FerroDeskModel" "notices" "I") (by decide +kernel)) (fun _ h9 => h9) rfl dX4_add_25 ?_
  refine lv_iload_n hx hb dX4_add_28 rfl (lv_at hl 3 rfl) ?_
  refine wx_iast (D := g.1) (cl := vwCl) (N := 40) (f := fun j9 => (st (st y 17 0 nn p0) 18 0 nn p1) 19 0 j9) (w' := mw g L (st (st (st y 17 0 nn p0) 18 0 nn p1) 19 0 nn p2) ch r0) hx hb hK hP hJ hS (116) 0 (by omega) (mw_a (by decide) (by decide)) rfl (i := (st (st y 17 0 nn p0) 18 0 nn p1) 4 0 0) (by rw [show (st (st y 17 0 nn p0) 18 0 nn p1) 4 0 0 = nI nn from (by repeat (first | exact hy4 | rw [st_nr (by omega)]))]; exact vp_in_nI (by omega) (by decide)) dX4_add_29 (by rw [show (st (st y 17 0 nn p0) 18 0 nn p1) 4 0 0 = nI nn from (by repeat (first | exact hy4 | rw [st_nr (by omega)]))]; rw [nI_clamp (by omega)]; exact mw_st (r := 19) rfl (by decide) (by decide) rfl rfl rfl) (fun H locs hP hS => ?_)
  refine lv_aload_n hx hb dX4_add_30 rfl (lv_at hl 0 rfl) ?_
  refine wx_get (D := g.1) (cl := vwCl) (ci := 6) (v := .ref (L 117)) (C := RX4) (T := TX4) (N := 22) hx hb hts iX4 hown hK hP (106) (by omega) mw_o rfl 16 (by decide) (hts (.fieldLink RX4 45 "FerroDeskModel" "till" "[I") (by decide +kernel)) (fun _ h9 => h9) rfl dX4_add_31 ?_
  refine lv_aload_n hx hb dX4_add_34 rfl (lv_at hl 0 rfl) ?_
  refine wx_get (D := g.1) (cl := vwCl) (ci := 6) (v := .int ((st (st (st y 17 0 nn p0) 18 0 nn p1) 19 0 nn p2) 4 0 0)) (C := RX4) (T := TX4) (N := 22) hx hb hts iX4 hown hK hP (106) (by omega) mw_o rfl 4 (by decide) (hts (.fieldLink RX4 74 "FerroDeskModel" "notices" "I") (by decide +kernel)) (fun _ h9 => h9) rfl dX4_add_35 ?_
  refine lv_iload hx hb dX4_add_38 (lv_at hl 4 rfl) ?_
  refine wx_iast (D := g.1) (cl := vwCl) (N := 40) (f := fun j9 => (st (st (st y 17 0 nn p0) 18 0 nn p1) 19 0 nn p2) 20 0 j9) (w' := mw g L (st (st (st (st y 17 0 nn p0) 18 0 nn p1) 19 0 nn p2) 20 0 nn p3) ch r0) hx hb hK hP hJ hS (117) 0 (by omega) (mw_a (by decide) (by decide)) rfl (i := (st (st (st y 17 0 nn p0) 18 0 nn p1) 19 0 nn p2) 4 0 0) (by rw [show (st (st (st y 17 0 nn p0) 18 0 nn p1) 19 0 nn p2) 4 0 0 = nI nn from (by repeat (first | exact hy4 | rw [st_nr (by omega)]))]; exact vp_in_nI (by omega) (by decide)) dX4_add_40 (by rw [show (st (st (st y 17 0 nn p0) 18 0 nn p1) 19 0 nn p2) 4 0 0 = nI nn from (by repeat (first | exact hy4 | rw [st_nr (by omega)]))]; rw [nI_clamp (by omega)]; exact mw_st (r := 20) rfl (by decide) (by decide) rfl rfl rfl) (fun H locs hP hS => ?_)
  refine lv_aload_n hx hb dX4_add_41 rfl (lv_at hl 0 rfl) ?_
  refine lv_dup hx hb dX4_add_42 rfl ?_
  refine wx_get (D := g.1) (cl := vwCl) (ci := 6) (v := .int ((st (st (st (st y 17 0 nn p0) 18 0 nn p1) 19 0 nn p2) 20 0 nn p3) 4 0 0)) (C := RX4) (T := TX4) (N := 22) hx hb hts iX4 hown hK hP (106) (by omega) mw_o rfl 4 (by decide) (hts (.fieldLink RX4 74 "FerroDeskModel" "notices" "I") (by decide +kernel)) (fun _ h9 => h9) rfl dX4_add_43 ?_
  refine lv_iconst (v := 1) hx hb dX4_add_46 (by decide) ?_
  refine lv_iadd hx hb dX4_add_47 ?_
  refine wx_put (D := g.1) (cl := vwCl) (ci := 6) (v := .int (((st (st (st (st y 17 0 nn p0) 18 0 nn p1) 19 0 nn p2) 20 0 nn p3) 4 0 0) + 1)) (ty := .int) (w' := mw g L (st (st (st (st (st y 17 0 nn p0) 18 0 nn p1) 19 0 nn p2) 20 0 nn p3) 4 0 0 (((st (st (st (st y 17 0 nn p0) 18 0 nn p1) 19 0 nn p2) 20 0 nn p3) 4 0 0) + 1)) ch r0) (C := RX4) (T := TX4) (N := 22) hx hb hts iX4 tyX4 tyX4_ok nmX4 hown hK hP hJ hS (106) (by omega) mw_o rfl 4 (by decide) (hts (.fieldLink RX4 74 "FerroDeskModel" "notices" "I") (by decide +kernel)) (fun _ h9 => h9) rfl (by decide +kernel) rfl rfl (Nat.le_of_ble_eq_true rfl) dX4_add_48 (mw_put (r := 4) (i := 0) (j := 0) rfl (by omega) (mk_o.trans (by simp [mF, st]))) (fun H locs hP hS => ?_)
  refine lv_aload_n hx hb dX4_add_51 rfl (lv_at hl 0 rfl) ?_
  refine wx_get (D := g.1) (cl := vwCl) (ci := 6) (v := .int ((st (st (st (st (st y 17 0 nn p0) 18 0 nn p1) 19 0 nn p2) 20 0 nn p3) 4 0 0 (((st (st (st (st y 17 0 nn p0) 18 0 nn p1) 19 0 nn p2) 20 0 nn p3) 4 0 0) + 1)) 4 0 0)) (C := RX4) (T := TX4) (N := 22) hx hb hts iX4 hown hK hP (106) (by omega) mw_o rfl 4 (by decide) (hts (.fieldLink RX4 74 "FerroDeskModel" "notices" "I") (by decide +kernel)) (fun _ h9 => h9) rfl dX4_add_52 ?_
  refine lv_iconst (v := 1) hx hb dX4_add_55 (by decide) ?_
  refine lv_isub hx hb dX4_add_56 ?_
  refine W.widen (k := 0) (n := 0) (Nat.le_of_ble_eq_true rfl) (Nat.le_of_ble_eq_true rfl) ?_
  exact W.iret (v := ((st (st (st (st (st y 17 0 nn p0) 18 0 nn p1) 19 0 nn p2) 20 0 nn p3) 4 0 0 (((st (st (st (st y 17 0 nn p0) 18 0 nn p1) 19 0 nn p2) 20 0 nn p3) 4 0 0) + 1)) 4 0 0) - 1) hx hb hr (fun t ht hW => ⟨⟨((st (st (st (st (st y 17 0 nn p0) 18 0 nn p1) 19 0 nn p2) 20 0 nn p3) 4 0 0 (((st (st (st (st y 17 0 nn p0) 18 0 nn p1) 19 0 nn p2) 20 0 nn p3) 4 0 0) + 1)) 4 0 0) - 1, (st (st (st (st (st y 17 0 nn p0) 18 0 nn p1) 19 0 nn p2) 20 0 nn p3) 4 0 0 (((st (st (st (st y 17 0 nn p0) 18 0 nn p1) 19 0 nn p2) 20 0 nn p3) 4 0 0) + 1)), rfl, ⟨rfl, by rw [st_eq]; (repeat (first | rw [hy4] | rw [st_nr (by omega)])); rw [nI_1, nI_pred]⟩, PB.mk9 hP ht⟩, hS.F ht⟩) hS.2.2 dX4_add_57

set_option maxHeartbeats 4000000 in
set_option maxRecDepth 100000 in
theorem m_post (l : Launch) (hst : l.stackTraces = false) (g : gE) (base n : Nat) (L : Nat → Nat) (hn : 123 ≤ n) (y : St) (ch : Int64) (r0 : Nat → va_E) (nb nn : Nat) (hM : MI y nb nn) (p0 p1 p2 p3 : Int32) : Met l yX4_post wsX4_post ({ frames := 2, cells := 0, slots := 0, locals := 120 }) (va_Pc [.ref (L 106), .int p0, .int p1, .int p2, .int p3] (PW SS g base n L (mw g L y ch r0))) (va_Qi (fun (r : Int32) (u : MS) => (¬ (0 ≤ p0.toInt ∧ p0.toInt ≤ 9 ∧ p1.toInt ≠ 0 ∧ 0 ≤ p2.toInt ∧ p2.toInt < p3.toInt ∧ p3.toInt ≤ 2000) ∧ u = (st (st y 0 0 0 0) 0 0 0 1, ch)) ∨ ((0 ≤ p0.toInt ∧ p0.toInt ≤ 9 ∧ p1.toInt ≠ 0 ∧ 0 ≤ p2.toInt ∧ p2.toInt < p3.toInt ∧ p3.toInt ≤ 2000) ∧ nn = 40 ∧ u = (st (st y 0 0 0 0) 0 0 0 2, ch)) ∨ ((0 ≤ p0.toInt ∧ p0.toInt ≤ 9 ∧ p1.toInt ≠ 0 ∧ 0 ≤ p2.toInt ∧ p2.toInt < p3.toInt ∧ p3.toInt ≤ 2000) ∧ nn < 40 ∧ u = (adM (st y 0 0 0 0) nn p0 p1 p2 p3, ch) ∧ r = nI nn)) (fun (u : MS) t => PB g n L (mw g L u.1 u.2 r0) t) (fun q => base ≤ q)) 0 0 (fun q => base ≤ q) := by
  refine Met.ofW (cc := cX4_post) (maxL := 6) (ret := (some .int)) (by decide) rfl ?_
  intro p e s m args below meth c s₁ B hml hv
  obtain ⟨rfl, hPW⟩ := hv
  obtain ⟨hbs, hJ, hP, hK, hE⟩ := id hPW
  have hx := B.exec
  have hb := B.bytes
  have hr := B.returns
  have hts := atoms_spec (ws := wsX4_post) B.pre
  have hown : s.vm.findClass RX4 = some m.cls := findClass_of_methodNamed B.named
  have hlocks := B.notSynchronized
  have hS : va_S (fun q : Nat => base ≤ q) s.heap s.heap [] := va_S.rf
  have hl := lv_entry ([.ref (L 106), .int p0, .int p1, .int p2, .int p3]) (n := 6) (Nat.le_of_ble_eq_true rfl)
  rw [lg_entry_eq]
  generalize (lg_sl ([.ref (L 106), .int p0, .int p1, .int p2, .int p3]) ++ List.replicate (6 - (lg_sl ([.ref (L 106), .int p0, .int p1, .int p2, .int p3])).length) Slot.unset).toArray = ls at hl ⊢
  have hl : lv_has ls 6 [(0, .ref (L 106)), (1, .int p0), (2, .int p1), (3, .int p2), (4, .int p3)] := hl
  have iX4 : ∀ w ∈ wsX40, w ∈ wsX4_post := by decide +kernel
  have hnb := hM.nb6
  have hnn := hM.nn40
  have hy3 := hM.y3
  have hy4 := hM.y4
  have hT3 : (st y 0 0 0 0) 3 0 0 = nI nb := (st_nr (by omega)).trans hy3
  have hT4 : (st y 0 0 0 0) 4 0 0 = nI nn := (st_nr (by omega)).trans hy4
  refine lv_aload_n hx hb dX4_post_0 rfl (lv_at hl 0 rfl) ?_
  refine lv_iconst (v := 0) hx hb dX4_post_1 (by decide) ?_
  refine wx_put (D := g.1) (cl := vwCl) (ci := 6) (v := .int 0) (ty := .int) (w' := mw g L (st y 0 0 0 0) ch r0) (C := RX4) (T := TX4) (N := 22) hx hb hts iX4 tyX4 tyX4_ok nmX4 hown hK hP hJ hS (106) (by omega) mw_o rfl 0 (by decide) (hts (.fieldLink RX4 64 "FerroDeskModel" "thrown" "I") (by decide +kernel)) (fun _ h9 => h9) rfl (by decide +kernel) rfl rfl (Nat.le_of_ble_eq_true rfl) dX4_post_2 (mw_put (r := 0) (i := 0) (j := 0) rfl (by omega) (mk_o.trans (by simp [mF, st]))) (fun H locs hP hS => ?_)
  refine lv_iload_n hx hb dX4_post_5 rfl (lv_at hl 1 rfl) ?_
  refine lv_iconst (v := 0) hx hb dX4_post_6 (by decide) ?_
  refine lv_bipush (v := 9) hx hb dX4_post_7 (by decide) ?_
  refine wx_calli (va_runS (As := [.int p0, .int 0, .int 9]) (rest := []) ⟨hx, hb, hml, hown, hts⟩ (m_in l hst g base n L (mw g L (st y 0 0 0 0) ch r0) p0 0 9) (va_cwS 3 hts gX4_post_X4_in rfl rfl rfl (by decide +kernel) ⟨Nat.le_of_ble_eq_true rfl, Nat.le_of_ble_eq_true rfl⟩) (hPW.preS hP hS) rfl rfl hl.1 rfl (lv_room (Nat.le_of_ble_eq_true rfl)) dX4_post_9 ⟨Nat.le_of_ble_eq_true rfl, Nat.le_of_ble_eq_true rfl⟩) hS (fun r9 u9 H locs h9 hP hS => ?_)
  rcases h9 with ⟨rfl, h9⟩ | ⟨rfl, h9⟩
  · refine lv_if_eq (tgt := 52) hx hb dX4_post_12 (by decide) (fun c12 => absurd c12 (by decide)) (fun c12 => ?_)
    refine lv_iload_n hx hb dX4_post_15 rfl (lv_at hl 2 rfl) ?_
    refine lv_if_eq (tgt := 52) hx hb dX4_post_16 (by decide) (fun c16 => ?_) (fun c16 => ?_)
    · refine lv_iconst (v := 0) hx hb dX4_post_52 (by decide) ?_
      refine lv_istore (lv' := [(5, .int 0), (0, .ref (L 106)), (1, .int p0), (2, .int p1), (3, .int p2), (4, .int p3)]) hx hb dX4_post_53 hl (by decide) rfl (fun ls hl => ?_)
      refine lv_aload_n hx hb dX4_post_55 rfl (lv_at hl 1 rfl) ?_
      refine lv_iload hx hb dX4_post_56 (lv_at hl 0 rfl) ?_
      refine lv_if_ne (tgt := 65) hx hb dX4_post_58 (by decide) (fun c58 => absurd c58 (by decide)) (fun c58 => ?_)
      refine lv_iconst (v := 1) hx hb dX4_post_61 (by decide) ?_
      refine lv_goto (tgt := 66) hx hb dX4_post_62 (by decide) ?_
      refine lv_iconst (v := 1) hx hb dX4_post_66 (by decide) ?_
      refine wx_calli (va_runV (As := [.int 1, .int 1]) (rest := []) ⟨hx, hb, hml, hown, hts⟩ (m_fails l hst g base n L (by omega) (st y 0 0 0 0) ch r0 st_eq 1 1 (by decide)) (cwV 2 hts gX4_post_X4_fails rfl rfl rfl (by decide +kernel) ⟨Nat.le_of_ble_eq_true rfl, Nat.le_of_ble_eq_true rfl⟩) (hPW.preV hP hS (ci := 6) rfl (by omega) mw_o) rfl rfl hl.1 rfl (lv_room (Nat.le_of_ble_eq_true rfl)) dX4_post_67 ⟨Nat.le_of_ble_eq_true rfl, Nat.le_of_ble_eq_true rfl⟩) hS (fun r67 u67 H locs h67 hP hS => ?_)
      obtain ⟨rfl, -, e9⟩ : r67 = 1 ∧ True ∧ u67 = st (st y 0 0 0 0) 0 0 0 1 := by rcases h67 with ⟨-, b, -⟩ | ⟨a, -, b⟩; exact absurd b (by decide); exact ⟨a, trivial, b⟩
      have e9 := e9.symm
      subst e9
      refine lv_if_ne (tgt := 95) hx hb dX4_post_70 (by decide) (fun c70 => ?_) (fun c70 => absurd c70 (by decide))
      refine lv_iconst (v := 0) hx hb dX4_post_95 (by decide) ?_
      refine lv_goto (tgt := 108) hx hb dX4_post_96 (by decide) ?_
      refine W.widen (k := 0) (n := 0) (Nat.le_of_ble_eq_true rfl) (Nat.le_of_ble_eq_true rfl) ?_
      exact W.iret (v := 0) hx hb hr (fun t ht hW => ⟨⟨0, (st (st y 0 0 0 0) 0 0 0 1, ch), rfl, Or.inl ⟨(by (try revert h9 c16); (try simp only [xor_m1]); (try simp only [Int32.lt_iff_toInt_lt, Int32.le_iff_toInt_le, ← Int32.toInt_inj, i_0, i_1, i_2, i_3, i_4, i_6, i_9, i_20, i_32, i_40, i_48, i_60, i_200, i_999, i_2000, i_m1, i_8]); (try simp only [i_8, i_7]); omega), rfl⟩, PB.mk9 hP ht⟩, hS.F ht⟩) hS.2.2 dX4_post_108
    · refine lv_iload_n hx hb dX4_post_19 rfl (lv_at hl 3 rfl) ?_
      refine lv_iconst (v := 0) hx hb dX4_post_20 (by decide) ?_
      refine lv_sipush (v := 2000) hx hb dX4_post_21 (by decide) ?_
      refine wx_calli (va_runS (As := [.int p2, .int 0, .int 2000]) (rest := []) ⟨hx, hb, hml, hown, hts⟩ (m_in l hst g base n L (mw g L (st y 0 0 0 0) ch r0) p2 0 2000) (va_cwS 3 hts gX4_post_X4_in rfl rfl rfl (by decide +kernel) ⟨Nat.le_of_ble_eq_true rfl, Nat.le_of_ble_eq_true rfl⟩) (hPW.preS hP hS) rfl rfl hl.1 rfl (lv_room (Nat.le_of_ble_eq_true rfl)) dX4_post_24 ⟨Nat.le_of_ble_eq_true rfl, Nat.le_of_ble_eq_true rfl⟩) hS (fun r24 u24 H locs h24 hP hS => ?_)
      rcases h24 with ⟨rfl, h24⟩ | ⟨rfl, h24⟩
      · refine lv_if_eq (tgt := 52) hx hb dX4_post_27 (by decide) (fun c27 => absurd c27 (by decide)) (fun c27 => ?_)
        refine lv_iload hx hb dX4_post_30 (lv_at hl 4 rfl) ?_
        refine lv_iconst (v := 0) hx hb dX4_post_32 (by decide) ?_
        refine lv_sipush (v := 2000) hx hb dX4_post_33 (by decide) ?_
        refine wx_calli (va_runS (As := [.int p3, .int 0, .int 2000]) (rest := []) ⟨hx, hb, hml, hown, hts⟩ (m_in l hst g base n L (mw g L (st y 0 0 0 0) ch r0) p3 0 2000) (va_cwS 3 hts gX4_post_X4_in rfl rfl rfl (by decide +kernel) ⟨Nat.le_of_ble_eq_true rfl, Nat.le_of_ble_eq_true rfl⟩) (hPW.preS hP hS) rfl rfl hl.1 rfl (lv_room (Nat.le_of_ble_eq_true rfl)) dX4_post_36 ⟨Nat.le_of_ble_eq_true rfl, Nat.le_of_ble_eq_true rfl⟩) hS (fun r36 u36 H locs h36 hP hS => ?_)
        rcases h36 with ⟨rfl, h36⟩ | ⟨rfl, h36⟩
        · refine lv_if_eq (tgt := 52) hx hb dX4_post_39 (by decide) (fun c39 => absurd c39 (by decide)) (fun c39 => ?_)
          refine lv_iload_n hx hb dX4_post_42 rfl (lv_at hl 3 rfl) ?_
          refine lv_iload hx hb dX4_post_43 (lv_at hl 4 rfl) ?_
          refine lv_icmp_ge (tgt := 52) hx hb dX4_post_45 (by decide) (fun c45 => ?_) (fun c45 => ?_)
          · refine lv_iconst (v := 0) hx hb dX4_post_52 (by decide) ?_
            refine lv_istore (lv' := [(5, .int 0), (0, .ref (L 106)), (1, .int p0), (2, .int p1), (3, .int p2), (4, .int p3)]) hx hb dX4_post_53 hl (by decide) rfl (fun ls hl => ?_)
            refine lv_aload_n hx hb dX4_post_55 rfl (lv_at hl 1 rfl) ?_
            refine lv_iload hx hb dX4_post_56 (lv_at hl 0 rfl) ?_
            refine lv_if_ne (tgt := 65) hx hb dX4_post_58 (by decide) (fun c58 => absurd c58 (by decide)) (fun c58 => ?_)
            refine lv_iconst (v := 1) hx hb dX4_post_61 (by decide) ?_
            refine lv_goto (tgt := 66) hx hb dX4_post_62 (by decide) ?_
            refine lv_iconst (v := 1) hx hb dX4_post_66 (by decide) ?_
            refine wx_calli (va_runV (As := [.int 1, .int 1]) (rest := []) ⟨hx, hb, hml, hown, hts⟩ (m_fails l hst g base n L (by omega) (st y 0 0 0 0) ch r0 st_eq 1 1 (by decide)) (cwV 2 hts gX4_post_X4_fails rfl rfl rfl (by decide +kernel) ⟨Nat.le_of_ble_eq_true rfl, Nat.le_of_ble_eq_true rfl⟩) (hPW.preV hP hS (ci := 6) rfl (by omega) mw_o) rfl rfl hl.1 rfl (lv_room (Nat.le_of_ble_eq_true rfl)) dX4_post_67 ⟨Nat.le_of_ble_eq_true rfl, Nat.le_of_ble_eq_true rfl⟩) hS (fun r67 u67 H locs h67 hP hS => ?_)
            obtain ⟨rfl, -, e9⟩ : r67 = 1 ∧ True ∧ u67 = st (st y 0 0 0 0) 0 0 0 1 := by rcases h67 with ⟨-, b, -⟩ | ⟨a, -, b⟩; exact absurd b (by decide); exact ⟨a, trivial, b⟩
            have e9 := e9.symm
            subst e9
            refine lv_if_ne (tgt := 95) hx hb dX4_post_70 (by decide) (fun c70 => ?_) (fun c70 => absurd c70 (by decide))
            refine lv_iconst (v := 0) hx hb dX4_post_95 (by decide) ?_
            refine lv_goto (tgt := 108) hx hb dX4_post_96 (by decide) ?_
            refine W.widen (k := 0) (n := 0) (Nat.le_of_ble_eq_true rfl) (Nat.le_of_ble_eq_true rfl) ?_
            exact W.iret (v := 0) hx hb hr (fun t ht hW => ⟨⟨0, (st (st y 0 0 0 0) 0 0 0 1, ch), rfl, Or.inl ⟨(by (try revert h9 c16 h24 h36 c45); (try simp only [xor_m1]); (try simp only [Int32.lt_iff_toInt_lt, Int32.le_iff_toInt_le, ← Int32.toInt_inj, i_0, i_1, i_2, i_3, i_4, i_6, i_9, i_20, i_32, i_40, i_48, i_60, i_200, i_999, i_2000, i_m1, i_8]); (try simp only [i_8, i_7]); omega), rfl⟩, PB.mk9 hP ht⟩, hS.F ht⟩) hS.2.2 dX4_post_108
          · refine lv_iconst (v := 1) hx hb dX4_post_48 (by decide) ?_
            refine lv_goto (tgt := 53) hx hb dX4_post_49 (by decide) ?_
            refine lv_istore (lv' := [(5, .int 1), (0, .ref (L 106)), (1, .int p0), (2, .int p1), (3, .int p2), (4, .int p3)]) hx hb dX4_post_53 hl (by decide) rfl (fun ls hl => ?_)
            refine lv_aload_n hx hb dX4_post_55 rfl (lv_at hl 1 rfl) ?_
            refine lv_iload hx hb dX4_post_56 (lv_at hl 0 rfl) ?_
            refine lv_if_ne (tgt := 65) hx hb dX4_post_58 (by decide) (fun c58 => ?_) (fun c58 => absurd c58 (by decide))
            refine lv_iconst (v := 0) hx hb dX4_post_65 (by decide) ?_
            refine lv_iconst (v := 1) hx hb dX4_post_66 (by decide) ?_
            refine wx_calli (va_runV (As := [.int 0, .int 1]) (rest := []) ⟨hx, hb, hml, hown, hts⟩ (m_fails l hst g base n L (by omega) (st y 0 0 0 0) ch r0 st_eq 0 1 (by decide)) (cwV 2 hts gX4_post_X4_fails rfl rfl rfl (by decide +kernel) ⟨Nat.le_of_ble_eq_true rfl, Nat.le_of_ble_eq_true rfl⟩) (hPW.preV hP hS (ci := 6) rfl (by omega) mw_o) rfl rfl hl.1 rfl (lv_room (Nat.le_of_ble_eq_true rfl)) dX4_post_67 ⟨Nat.le_of_ble_eq_true rfl, Nat.le_of_ble_eq_true rfl⟩) hS (fun r67 u67 H locs h67 hP hS => ?_)
            obtain ⟨rfl, -, e9⟩ : r67 = 0 ∧ True ∧ u67 = st y 0 0 0 0 := by rcases h67 with ⟨a, -, b⟩ | ⟨-, b, -⟩; exact ⟨a, trivial, b⟩; exact absurd rfl b
            have e9 := e9.symm
            subst e9
            refine lv_if_ne (tgt := 95) hx hb dX4_post_70 (by decide) (fun c70 => absurd c70 (by decide)) (fun c70 => ?_)
            refine lv_aload_n hx hb dX4_post_73 rfl (lv_at hl 1 rfl) ?_
            refine lv_aload_n hx hb dX4_post_74 rfl (lv_at hl 1 rfl) ?_
            refine wx_get (D := g.1) (cl := vwCl) (ci := 6) (v := .int ((st y 0 0 0 0) 4 0 0)) (C := RX4) (T := TX4) (N := 22) hx hb hts iX4 hown hK hP (106) (by omega) mw_o rfl 4 (by decide) (hts (.fieldLink RX4 74 "FerroDeskModel" "notices" "I") (by decide +kernel)) (fun _ h9 => h9) rfl dX4_post_75 ?_
            refine lv_bipush (v := 40) hx hb dX4_post_78 (by decide) ?_
            refine lv_icmp_ne (tgt := 87) hx hb dX4_post_80 (by decide) (fun c80 => ?_) (fun c80 => ?_)
            · refine lv_iconst (v := 0) hx hb dX4_post_87 (by decide) ?_
              refine lv_iconst (v := 2) hx hb dX4_post_88 (by decide) ?_
              refine wx_calli (va_runV (As := [.int 0, .int 2]) (rest := []) ⟨hx, hb, hml, hown, hts⟩ (m_fails l hst g base n L (by omega) (st y 0 0 0 0) ch r0 st_eq 0 2 (by decide)) (cwV 2 hts gX4_post_X4_fails rfl rfl rfl (by decide +kernel) ⟨Nat.le_of_ble_eq_true rfl, Nat.le_of_ble_eq_true rfl⟩) (hPW.preV hP hS (ci := 6) rfl (by omega) mw_o) rfl rfl hl.1 rfl (lv_room (Nat.le_of_ble_eq_true rfl)) dX4_post_89 ⟨Nat.le_of_ble_eq_true rfl, Nat.le_of_ble_eq_true rfl⟩) hS (fun r89 u89 H locs h89 hP hS => ?_)
              obtain ⟨rfl, -, e9⟩ : r89 = 0 ∧ True ∧ u89 = st y 0 0 0 0 := by rcases h89 with ⟨a, -, b⟩ | ⟨-, b, -⟩; exact ⟨a, trivial, b⟩; exact absurd rfl b
              have e9 := e9.symm
              subst e9
              refine lv_if_eq (tgt := 99) hx hb dX4_post_92 (by decide) (fun c92 => ?_) (fun c92 => absurd (by decide) c92)
              have hlt : nn < 40 := (by have h9 : nn ≠ 40 := fun h8 => c80 (hT4.trans (by rw [h8]; rfl)); omega)
              refine lv_aload_n hx hb dX4_post_99 rfl (lv_at hl 1 rfl) ?_
              refine lv_iload_n hx hb dX4_post_100 rfl (lv_at hl 2 rfl) ?_
              refine lv_iload_n hx hb dX4_post_101 rfl (lv_at hl 3 rfl) ?_
              refine lv_iload_n hx hb dX4_post_102 rfl (lv_at hl 4 rfl) ?_
              refine lv_iload hx hb dX4_post_103 (lv_at hl 5 rfl) ?_
              refine wx_calli (va_runV (As := [.int p0, .int p1, .int p2, .int p3]) (rest := []) ⟨hx, hb, hml, hown, hts⟩ (m_add l hst g base n L (by omega) (st y 0 0 0 0) ch r0 nn hnn hT4 hlt p0 p1 p2 p3) (cwV 4 hts gX4_post_X4_add rfl rfl rfl (by decide +kernel) ⟨Nat.le_of_ble_eq_true rfl, Nat.le_of_ble_eq_true rfl⟩) (hPW.preV hP hS (ci := 6) rfl (by omega) mw_o) rfl rfl hl.1 rfl (lv_room (Nat.le_of_ble_eq_true rfl)) dX4_post_105 ⟨Nat.le_of_ble_eq_true rfl, Nat.le_of_ble_eq_true rfl⟩) hS (fun r105 u105 H locs h105 hP hS => ?_)
              obtain ⟨rfl, rfl⟩ := h105
              refine W.widen (k := 0) (n := 0) (Nat.le_of_ble_eq_true rfl) (Nat.le_of_ble_eq_true rfl) ?_
              exact W.iret (v := nI nn) hx hb hr (fun t ht hW => ⟨⟨nI nn, (adM (st y 0 0 0 0) nn p0 p1 p2 p3, ch), rfl, Or.inr (Or.inr ⟨(by (try revert h9 c16 h24 h36 c45); (try simp only [xor_m1]); (try simp only [Int32.lt_iff_toInt_lt, Int32.le_iff_toInt_le, ← Int32.toInt_inj, i_0, i_1, i_2, i_3, i_4, i_6, i_9, i_20, i_32, i_40, i_48, i_60, i_200, i_999, i_2000, i_m1, i_8]); (try simp only [i_8, i_7]); omega), hlt, rfl, rfl⟩), PB.mk9 hP ht⟩, hS.F ht⟩) hS.2.2 dX4_post_108
            · refine lv_iconst (v := 1) hx hb dX4_post_83 (by decide) ?_
              refine lv_goto (tgt := 88) hx hb dX4_post_84 (by decide) ?_
              refine lv_iconst (v := 2) hx hb dX4_post_88 (by decide) ?_
              refine wx_calli (va_runV (As := [.int 1, .int 2]) (rest := []) ⟨hx, hb, hml, hown, hts⟩ (m_fails l hst g base n L (by omega) (st y 0 0 0 0) ch r0 st_eq 1 2 (by decide)) (cwV 2 hts gX4_post_X4_fails rfl rfl rfl (by decide +kernel) ⟨Nat.le_of_ble_eq_true rfl, Nat.le_of_ble_eq_true rfl⟩) (hPW.preV hP hS (ci := 6) rfl (by omega) mw_o) rfl rfl hl.1 rfl (lv_room (Nat.le_of_ble_eq_true rfl)) dX4_post_89 ⟨Nat.le_of_ble_eq_true rfl, Nat.le_of_ble_eq_true rfl⟩) hS (fun r89 u89 H locs h89 hP hS => ?_)
              obtain ⟨rfl, -, e9⟩ : r89 = 1 ∧ True ∧ u89 = st (st y 0 0 0 0) 0 0 0 2 := by rcases h89 with ⟨-, b, -⟩ | ⟨a, -, b⟩; exact absurd b (by decide); exact ⟨a, trivial, b⟩
              have e9 := e9.symm
              subst e9
              refine lv_if_eq (tgt := 99) hx hb dX4_post_92 (by decide) (fun c92 => absurd c92 (by decide)) (fun c92 => ?_)
              refine lv_iconst (v := 0) hx hb dX4_post_95 (by decide) ?_
              refine lv_goto (tgt := 108) hx hb dX4_post_96 (by decide) ?_
              refine W.widen (k := 0) (n := 0) (Nat.le_of_ble_eq_true rfl) (Nat.le_of_ble_eq_true rfl) ?_
              exact W.iret (v := 0) hx hb hr (fun t ht hW => ⟨⟨0, (st (st y 0 0 0 0) 0 0 0 2, ch), rfl, Or.inr (Or.inl ⟨(by (try revert h9 c16 h24 h36 c45); (try simp only [xor_m1]); (try simp only [Int32.lt_iff_toInt_lt, Int32.le_iff_toInt_le, ← Int32.toInt_inj, i_0, i_1, i_2, i_3, i_4, i_6, i_9, i_20, i_32, i_40, i_48, i_60, i_200, i_999, i_2000, i_m1, i_8]); (try simp only [i_8, i_7]); omega), ((nI_eq (b := 40) (by omega) (by omega)).mp (hT4.symm.trans c80)), rfl⟩), PB.mk9 hP ht⟩, hS.F ht⟩) hS.2.2 dX4_post_108
        · refine lv_if_eq (tgt := 52) hx hb dX4_post_39 (by decide) (fun c39 => ?_) (fun c39 => absurd (by decide) c39)
          refine lv_iconst (v := 0) hx hb dX4_post_52 (by decide) ?_
          refine lv_istore (lv' := [(5, .int 0), (0, .ref (L 106)), (1, .int p0), (2, .int p1), (3, .int p2), (4, .int p3)]) hx hb dX4_post_53 hl (by decide) rfl (fun ls hl => ?_)
          refine lv_aload_n hx hb dX4_post_55 rfl (lv_at hl 1 rfl) ?_
          refine lv_iload hx hb dX4_post_56 (lv_at hl 0 rfl) ?_
          refine lv_if_ne (tgt := 65) hx hb dX4_post_58 (by decide) (fun c58 => absurd c58 (by decide)) (fun c58 => ?_)
          refine lv_iconst (v := 1) hx hb dX4_post_61 (by decide) ?_
          refine lv_goto (tgt := 66) hx hb dX4_post_62 (by decide) ?_
          refine lv_iconst (v := 1) hx hb dX4_post_66 (by decide) ?_
          refine wx_calli (va_runV (As := [.int 1, .int 1]) (rest := []) ⟨hx, hb, hml, hown, hts⟩ (m_fails l hst g base n L (by omega) (st y 0 0 0 0) ch r0 st_eq 1 1 (by decide)) (cwV 2 hts gX4_post_X4_fails rfl rfl rfl (by decide +kernel) ⟨Nat.le_of_ble_eq_true rfl, Nat.le_of_ble_eq_true rfl⟩) (hPW.preV hP hS (ci := 6) rfl (by omega) mw_o) rfl rfl hl.1 rfl (lv_room (Nat.le_of_ble_eq_true rfl)) dX4_post_67 ⟨Nat.le_of_ble_eq_true rfl, Nat.le_of_ble_eq_true rfl⟩) hS (fun r67 u67 H locs h67 hP hS => ?_)
          obtain ⟨rfl, -, e9⟩ : r67 = 1 ∧ True ∧ u67 = st (st y 0 0 0 0) 0 0 0 1 := by rcases h67 with ⟨-, b, -⟩ | ⟨a, -, b⟩; exact absurd b (by decide); exact ⟨a, trivial, b⟩
          have e9 := e9.symm
          subst e9
          refine lv_if_ne (tgt := 95) hx hb dX4_post_70 (by decide) (fun c70 => ?_) (fun c70 => absurd c70 (by decide))
          refine lv_iconst (v := 0) hx hb dX4_post_95 (by decide) ?_
          refine lv_goto (tgt := 108) hx hb dX4_post_96 (by decide) ?_
          refine W.widen (k := 0) (n := 0) (Nat.le_of_ble_eq_true rfl) (Nat.le_of_ble_eq_true rfl) ?_
          exact W.iret (v := 0) hx hb hr (fun t ht hW => ⟨⟨0, (st (st y 0 0 0 0) 0 0 0 1, ch), rfl, Or.inl ⟨(by (try revert h9 c16 h24 h36); (try simp only [xor_m1]); (try simp only [Int32.lt_iff_toInt_lt, Int32.le_iff_toInt_le, ← Int32.toInt_inj, i_0, i_1, i_2, i_3, i_4, i_6, i_9, i_20, i_32, i_40, i_48, i_60, i_200, i_999, i_2000, i_m1, i_8]); (try simp only [i_8, i_7]); omega), rfl⟩, PB.mk9 hP ht⟩, hS.F ht⟩) hS.2.2 dX4_post_108
      · refine lv_if_eq (tgt := 52) hx hb dX4_post_27 (by decide) (fun c27 => ?_) (fun c27 => absurd (by decide) c27)
        refine lv_iconst (v := 0) hx hb dX4_post_52 (by decide) ?_
        refine lv_istore (lv' := [(5, .int 0), (0, .ref (L 106)), (1, .int p0), (2, .int p1), (3, .int p2), (4, .int p3)]) hx hb dX4_post_53 hl (by decide) rfl (fun ls hl => ?_)
        refine lv_aload_n hx hb dX4_post_55 rfl (lv_at hl 1 rfl) ?_
        refine lv_iload hx hb dX4_post_56 (lv_at hl 0 rfl) ?_
        refine lv_if_ne (tgt := 65) hx hb dX4_post_58 (by decide) (fun c58 => absurd c58 (by decide)) (fun c58 => ?_)
        refine lv_iconst (v := 1) hx hb dX4_post_61 (by decide) ?_
        refine lv_goto (tgt := 66) hx hb dX4_post_62 (by decide) ?_
        refine lv_iconst (v := 1) hx hb dX4_post_66 (by decide) ?_
        refine wx_calli (va_runV (As := [.int 1, .int 1]) (rest := []) ⟨hx, hb, hml, hown, hts⟩ (m_fails l hst g base n L (by omega) (st y 0 0 0 0) ch r0 st_eq 1 1 (by decide)) (cwV 2 hts gX4_post_X4_fails rfl rfl rfl (by decide +kernel) ⟨Nat.le_of_ble_eq_true rfl, Nat.le_of_ble_eq_true rfl⟩) (hPW.preV hP hS (ci := 6) rfl (by omega) mw_o) rfl rfl hl.1 rfl (lv_room (Nat.le_of_ble_eq_true rfl)) dX4_post_67 ⟨Nat.le_of_ble_eq_true rfl, Nat.le_of_ble_eq_true rfl⟩) hS (fun r67 u67 H locs h67 hP hS => ?_)
        obtain ⟨rfl, -, e9⟩ : r67 = 1 ∧ True ∧ u67 = st (st y 0 0 0 0) 0 0 0 1 := by rcases h67 with ⟨-, b, -⟩ | ⟨a, -, b⟩; exact absurd b (by decide); exact ⟨a, trivial, b⟩
        have e9 := e9.symm
        subst e9
        refine lv_if_ne (tgt := 95) hx hb dX4_post_70 (by decide) (fun c70 => ?_) (fun c70 => absurd c70 (by decide))
        refine lv_iconst (v := 0) hx hb dX4_post_95 (by decide) ?_
        refine lv_goto (tgt := 108) hx hb dX4_post_96 (by decide) ?_
        refine W.widen (k := 0) (n := 0) (Nat.le_of_ble_eq_true rfl) (Nat.le_of_ble_eq_true rfl) ?_
        exact W.iret (v := 0) hx hb hr (fun t ht hW => ⟨⟨0, (st (st y 0 0 0 0) 0 0 0 1, ch), rfl, Or.inl ⟨(by (try revert h9 c16 h24); (try simp only [xor_m1]); (try simp only [Int32.lt_iff_toInt_lt, Int32.le_iff_toInt_le, ← Int32.toInt_inj, i_0, i_1, i_2, i_3, i_4, i_6, i_9, i_20, i_32, i_40, i_48, i_60, i_200, i_999, i_2000, i_m1, i_8]); (try simp only [i_8, i_7]); omega), rfl⟩, PB.mk9 hP ht⟩, hS.F ht⟩) hS.2.2 dX4_post_108
  · refine lv_if_eq (tgt := 52) hx hb dX4_post_12 (by decide) (fun c12 => ?_) (fun c12 => absurd (by decide) c12)
    refine lv_iconst (v := 0) hx hb dX4_post_52 (by decide) ?_
    refine lv_istore (lv' := [(5, .int 0), (0, .ref (L 106)), (1, .int p0), (2, .int p1), (3, .int p2), (4, .int p3)]) hx hb dX4_post_53 hl (by decide) rfl (fun ls hl => ?_)
    refine lv_aload_n hx hb dX4_post_55 rfl (lv_at hl 1 rfl) ?_
    refine lv_iload hx hb dX4_post_56 (lv_at hl 0 rfl) ?_
    refine lv_if_ne (tgt := 65) hx hb dX4_post_58 (by decide) (fun c58 => absurd c58 (by decide)) (fun c58 => ?_)
    refine lv_iconst (v := 1) hx hb dX4_post_61 (by decide) ?_
    refine lv_goto (tgt := 66) hx hb dX4_post_62 (by decide) ?_
    refine lv_iconst (v := 1) hx hb dX4_post_66 (by decide) ?_
    refine wx_calli (va_runV (As := [.int 1, .int 1]) (rest := []) ⟨hx, hb, hml, hown, hts⟩ (m_fails l hst g base n L (by omega) (st y 0 0 0 0) ch r0 st_eq 1 1 (by decide)) (cwV 2 hts gX4_post_X4_fails rfl rfl rfl (by decide +kernel) ⟨Nat.le_of_ble_eq_true rfl, Nat.le_of_ble_eq_true rfl⟩) (hPW.preV hP hS (ci := 6) rfl (by omega) mw_o) rfl rfl hl.1 rfl (lv_room (Nat.le_of_ble_eq_true rfl)) dX4_post_67 ⟨Nat.le_of_ble_eq_true rfl, Nat.le_of_ble_eq_true rfl⟩) hS (fun r67 u67 H locs h67 hP hS => ?_)
    obtain ⟨rfl, -, e9⟩ : r67 = 1 ∧ True ∧ u67 = st (st y 0 0 0 0) 0 0 0 1 := by rcases h67 with ⟨-, b, -⟩ | ⟨a, -, b⟩; exact absurd b (by decide); exact ⟨a, trivial, b⟩
    have e9 := e9.symm
    subst e9
    refine lv_if_ne (tgt := 95) hx hb dX4_post_70 (by decide) (fun c70 => ?_) (fun c70 => absurd c70 (by decide))
    refine lv_iconst (v := 0) hx hb dX4_post_95 (by decide) ?_
    refine lv_goto (tgt := 108) hx hb dX4_post_96 (by decide) ?_
    refine W.widen (k := 0) (n := 0) (Nat.le_of_ble_eq_true rfl) (Nat.le_of_ble_eq_true rfl) ?_
    exact W.iret (v := 0) hx hb hr (fun t ht hW => ⟨⟨0, (st (st y 0 0 0 0) 0 0 0 1, ch), rfl, Or.inl ⟨(by (try revert h9); (try simp only [xor_m1]); (try simp only [Int32.lt_iff_toInt_lt, Int32.le_iff_toInt_le, ← Int32.toInt_inj, i_0, i_1, i_2, i_3, i_4, i_6, i_9, i_20, i_32, i_40, i_48, i_60, i_200, i_999, i_2000, i_m1, i_8]); (try simp only [i_8, i_7]); omega), rfl⟩, PB.mk9 hP ht⟩, hS.F ht⟩) hS.2.2 dX4_post_108

set_option maxHeartbeats 4000000 in
set_option maxRecDepth 100000 in
theorem m_queue (l : Launch) (hst : l.stackTraces = false) (g : gE) (base n : Nat) (L : Nat → Nat) (hn : 123 ≤ n) (y : St) (ch : Int64) (r0 : Nat → va_E) (nb nn : Nat) (hM : MI y nb nn) (p0 p1 : Int32) : Met l yX4_queue wsX4_queue ({ frames := 2, cells := 0, slots := 0, locals := 120 }) (va_Pc [.ref (L 106), .int p0, .int p1] (PW SS g base n L (mw g L y ch r0))) (va_Qi (fun (r : Int32) (u : MS) => ((p0.toInt < 0 ∨ nn ≤ p0.toInt) ∧ u = (st (st y 0 0 0 0) 0 0 0 1, ch)) ∨ (∃ j, j < nn ∧ p0 = nI j ∧ (((p1.toInt < 0 ∨ 3 < p1.toInt) ∧ u = (st (st y 0 0 0 0) 0 0 0 2, ch)) ∨ ((0 ≤ p1.toInt ∧ p1.toInt ≤ 3) ∧ ¬ ((st y 0 0 0 0) 21 0 j = 0 ∧ (st y 0 0 0 0) 22 0 j = 0) ∧ u = (st (st y 0 0 0 0) 0 0 0 3, ch)) ∨ (∃ d, d < 4 ∧ p1 = nI d ∧ ((st y 0 0 0 0) 21 0 j = 0 ∧ (st y 0 0 0 0) 22 0 j = 0) ∧ u = (qsM (st y 0 0 0 0) j d, ch))))) (fun (u : MS) t => PB g n L (mw g L u.1 u.2 r0) t) (fun q => base ≤ q)) 0 0 (fun q => base ≤ q) := by
  refine Met.ofW (cc := cX4_queue) (maxL := 4) (ret := (some .boolean)) (by decide) rfl ?_
  intro p e s m args below meth c s₁ B hml hv
  obtain ⟨rfl, hPW⟩ := hv
  obtain ⟨hbs, hJ, hP, hK, hE⟩ := id hPW
  have hx := B.exec
  have hb := B.bytes
  have hr := B.returns
  have hts := atoms_spec (ws := wsX4_queue) B.pre
  have hown : s.vm.findClass RX4 = some m.cls := findClass_of_methodNamed B.named
  have hlocks := B.notSynchronized
  have hS : va_S (fun q : Nat => base ≤ q) s.heap s.heap [] := va_S.rf
  have hl := lv_entry ([.ref (L 106), .int p0, .int p1]) (n := 4) (Nat.le_of_ble_eq_true rfl)
  rw [lg_entry_eq]
  generalize (lg_sl ([.ref (L 106), .int p0, .int p1]) ++ List.replicate (4 - (lg_sl ([.ref (L 106), .int p0, .int p1])).length) Slot.unset).toArray = ls at hl ⊢
  have hl : lv_has ls 4 [(0, .ref (L 106)), (1, .int p0), (2, .int p1)] := hl
  have iX4 : ∀ w ∈ wsX40, w ∈ wsX4_queue := by decide +kernel
  have hnb := hM.nb6
  have hnn := hM.nn40
  have hy3 := hM.y3
  have hy4 := hM.y4
  have hT3 : (st y 0 0 0 0) 3 0 0 = nI nb := (st_nr (by omega)).trans hy3
  have hT4 : (st y 0 0 0 0) 4 0 0 = nI nn := (st_nr (by omega)).trans hy4
  refine lv_aload_n hx hb dX4_queue_0 rfl (lv_at hl 0 rfl) ?_
  refine lv_iconst (v := 0) hx hb dX4_queue_1 (by decide) ?_
  refine wx_put (D := g.1) (cl := vwCl) (ci := 6) (v := .int 0) (ty := .int) (w' := mw g L (st y 0 0 0 0) ch r0) (C := RX4) (T := TX4) (N := 22) hx hb hts iX4 tyX4 tyX4_ok nmX4 hown hK hP hJ hS (106) (by omega) mw_o rfl 0 (by decide) (hts (.fieldLink RX4 64 "FerroDeskModel" "thrown" "I") (by decide +kernel)) (fun _ h9 => h9) rfl (by decide +kernel) rfl rfl (Nat.le_of_ble_eq_true rfl) dX4_queue_2 (mw_put (r := 0) (i := 0) (j := 0) rfl (by omega) (mk_o.trans (by simp [mF, st]))) (fun H locs hP hS => ?_)
  refine lv_aload_n hx hb dX4_queue_5 rfl (lv_at hl 0 rfl) ?_
  refine lv_aload_n hx hb dX4_queue_6 rfl (lv_at hl 0 rfl) ?_
  refine lv_iload_n hx hb dX4_queue_7 rfl (lv_at hl 1 rfl) ?_
  refine wx_calli (va_runV (As := [.int p0]) (rest := [.ref (L 106)]) ⟨hx, hb, hml, hown, hts⟩ (m_noNotice l hst g base n L (by omega) (st y 0 0 0 0) ch r0 nn hnn (by repeat (first | exact hy4 | rw [st_nr (by omega)])) p0) (cwV 1 hts gX4_queue_X4_noNotice rfl rfl rfl (by decide +kernel) ⟨Nat.le_of_ble_eq_true rfl, Nat.le_of_ble_eq_true rfl⟩) (hPW.preV hP hS (ci := 6) rfl (by omega) mw_o) rfl rfl hl.1 rfl (lv_room (Nat.le_of_ble_eq_true rfl)) dX4_queue_8 ⟨Nat.le_of_ble_eq_true rfl, Nat.le_of_ble_eq_true rfl⟩) hS (fun r8 u8 H locs h8 hP hS => ?_)
  rcases h8 with ⟨rfl, h8⟩ | ⟨rfl, k8, hk8, rfl⟩
  · refine lv_iconst (v := 1) hx hb dX4_queue_11 (by decide) ?_
    refine wx_calli (va_runV (As := [.int 1, .int 1]) (rest := []) ⟨hx, hb, hml, hown, hts⟩ (m_fails l hst g base n L (by omega) (st y 0 0 0 0) ch r0 st_eq 1 1 (by decide)) (cwV 2 hts gX4_queue_X4_fails rfl rfl rfl (by decide +kernel) ⟨Nat.le_of_ble_eq_true rfl, Nat.le_of_ble_eq_true rfl⟩) (hPW.preV hP hS (ci := 6) rfl (by omega) mw_o) rfl rfl hl.1 rfl (lv_room (Nat.le_of_ble_eq_true rfl)) dX4_queue_12 ⟨Nat.le_of_ble_eq_true rfl, Nat.le_of_ble_eq_true rfl⟩) hS (fun r12 u12 H locs h12 hP hS => ?_)
    obtain ⟨rfl, -, e9⟩ : r12 = 1 ∧ True ∧ u12 = st (st y 0 0 0 0) 0 0 0 1 := by rcases h12 with ⟨-, b, -⟩ | ⟨a, -, b⟩; exact absurd b (by decide); exact ⟨a, trivial, b⟩
    have e9 := e9.symm
    subst e9
    refine lv_if_ne (tgt := 61) hx hb dX4_queue_15 (by decide) (fun c15 => ?_) (fun c15 => absurd c15 (by decide))
    refine lv_iconst (v := 0) hx hb dX4_queue_61 (by decide) ?_
    refine W.widen (k := 0) (n := 0) (Nat.le_of_ble_eq_true rfl) (Nat.le_of_ble_eq_true rfl) ?_
    exact W.zret (v := 0) hx hb hr (by decide) (fun t ht hW => ⟨⟨0, (st (st y 0 0 0 0) 0 0 0 1, ch), rfl, Or.inl ⟨h8, rfl⟩, PB.mk9 hP ht⟩, hS.F ht⟩) hS.2.2 dX4_queue_62
  · refine lv_iconst (v := 1) hx hb dX4_queue_11 (by decide) ?_
    refine wx_calli (va_runV (As := [.int 0, .int 1]) (rest := []) ⟨hx, hb, hml, hown, hts⟩ (m_fails l hst g base n L (by omega) (st y 0 0 0 0) ch r0 st_eq 0 1 (by decide)) (cwV 2 hts gX4_queue_X4_fails rfl rfl rfl (by decide +kernel) ⟨Nat.le_of_ble_eq_true rfl, Nat.le_of_ble_eq_true rfl⟩) (hPW.preV hP hS (ci := 6) rfl (by omega) mw_o) rfl rfl hl.1 rfl (lv_room (Nat.le_of_ble_eq_true rfl)) dX4_queue_12 ⟨Nat.le_of_ble_eq_true rfl, Nat.le_of_ble_eq_true rfl⟩) hS (fun r12 u12 H locs h12 hP hS => ?_)
    obtain ⟨rfl, -, e9⟩ : r12 = 0 ∧ True ∧ u12 = st y 0 0 0 0 := by rcases h12 with ⟨a, -, b⟩ | ⟨-, b, -⟩; exact ⟨a, trivial, b⟩; exact absurd rfl b
    have e9 := e9.symm
    subst e9
    refine lv_if_ne (tgt := 61) hx hb dX4_queue_15 (by decide) (fun c15 => absurd c15 (by decide)) (fun c15 => ?_)
    refine lv_aload_n hx hb dX4_queue_18 rfl (lv_at hl 0 rfl) ?_
    refine lv_iload_n hx hb dX4_queue_19 rfl (lv_at hl 2 rfl) ?_
    refine wx_calli (va_runS (As := [.int p1]) (rest := [.ref (L 106)]) ⟨hx, hb, hml, hown, hts⟩ (m_noDistrict l hst g base n L (mw g L (st y 0 0 0 0) ch r0) p1) (va_cwS 1 hts gX4_queue_X4_noDistrict rfl rfl rfl (by decide +kernel) ⟨Nat.le_of_ble_eq_true rfl, Nat.le_of_ble_eq_true rfl⟩) (hPW.preS hP hS) rfl rfl hl.1 rfl (lv_room (Nat.le_of_ble_eq_true rfl)) dX4_queue_20 ⟨Nat.le_of_ble_eq_true rfl, Nat.le_of_ble_eq_true rfl⟩) hS (fun r20 u20 H locs h20 hP hS => ?_)
    rcases h20 with ⟨rfl, h20⟩ | ⟨rfl, d20, hd20, rfl⟩
    · refine lv_iconst (v := 2) hx hb dX4_queue_23 (by decide) ?_
      refine wx_calli (va_runV (As := [.int 1, .int 2]) (rest := []) ⟨hx, hb, hml, hown, hts⟩ (m_fails l hst g base n L (by omega) (st y 0 0 0 0) ch r0 st_eq 1 2 (by decide)) (cwV 2 hts gX4_queue_X4_fails rfl rfl rfl (by decide +kernel) ⟨Nat.le_of_ble_eq_true rfl, Nat.le_of_ble_eq_true rfl⟩) (hPW.preV hP hS (ci := 6) rfl (by omega) mw_o) rfl rfl hl.1 rfl (lv_room (Nat.le_of_ble_eq_true rfl)) dX4_queue_24 ⟨Nat.le_of_ble_eq_true rfl, Nat.le_of_ble_eq_true rfl⟩) hS (fun r24 u24 H locs h24 hP hS => ?_)
      obtain ⟨rfl, -, e9⟩ : r24 = 1 ∧ True ∧ u24 = st (st y 0 0 0 0) 0 0 0 2 := by rcases h24 with ⟨-, b, -⟩ | ⟨a, -, b⟩; exact absurd b (by decide); exact ⟨a, trivial, b⟩
      have e9 := e9.symm
      subst e9
      refine lv_if_ne (tgt := 61) hx hb dX4_queue_27 (by decide) (fun c27 => ?_) (fun c27 => absurd c27 (by decide))
      refine lv_iconst (v := 0) hx hb dX4_queue_61 (by decide) ?_
      refine W.widen (k := 0) (n := 0) (Nat.le_of_ble_eq_true rfl) (Nat.le_of_ble_eq_true rfl) ?_
      exact W.zret (v := 0) hx hb hr (by decide) (fun t ht hW => ⟨⟨0, (st (st y 0 0 0 0) 0 0 0 2, ch), rfl, Or.inr ⟨k8, hk8, rfl, Or.inl ⟨h20, rfl⟩⟩, PB.mk9 hP ht⟩, hS.F ht⟩) hS.2.2 dX4_queue_62
    · refine lv_iconst (v := 2) hx hb dX4_queue_23 (by decide) ?_
      refine wx_calli (va_runV (As := [.int 0, .int 2]) (rest := []) ⟨hx, hb, hml, hown, hts⟩ (m_fails l hst g base n L (by omega) (st y 0 0 0 0) ch r0 st_eq 0 2 (by decide)) (cwV 2 hts gX4_queue_X4_fails rfl rfl rfl (by decide +kernel) ⟨Nat.le_of_ble_eq_true rfl, Nat.le_of_ble_eq_true rfl⟩) (hPW.preV hP hS (ci := 6) rfl (by omega) mw_o) rfl rfl hl.1 rfl (lv_room (Nat.le_of_ble_eq_true rfl)) dX4_queue_24 ⟨Nat.le_of_ble_eq_true rfl, Nat.le_of_ble_eq_true rfl⟩) hS (fun r24 u24 H locs h24 hP hS => ?_)
      obtain ⟨rfl, -, e9⟩ : r24 = 0 ∧ True ∧ u24 = st y 0 0 0 0 := by rcases h24 with ⟨a, -, b⟩ | ⟨-, b, -⟩; exact ⟨a, trivial, b⟩; exact absurd rfl b
      have e9 := e9.symm
      subst e9
      refine lv_if_ne (tgt := 61) hx hb dX4_queue_27 (by decide) (fun c27 => absurd c27 (by decide)) (fun c27 => ?_)
      refine lv_aload_n hx hb dX4_queue_30 rfl (lv_at hl 0 rfl) ?_
      refine lv_aload_n hx hb dX4_queue_31 rfl (lv_at hl 0 rfl) ?_
      refine wx_get (D := g.1) (cl := vwCl) (ci := 6) (v := .ref (L 118)) (C := RX4) (T := TX4) (N := 22) hx hb hts iX4 hown hK hP (106) (by omega) mw_o rfl 17 (by decide) (hts (.fieldLink RX4 48 "FerroDeskModel" "isBack" "[Z") (by decide +kernel)) (fun _ h9 => h9) rfl dX4_queue_32 ?_
      refine lv_iload_n hx hb dX4_queue_35 rfl (lv_at hl 1 rfl) ?_
      refine wx_zaldv (D := g.1) (cl := vwCl) (N := 40) (f := fun j9 => (st y 0 0 0 0) 21 0 j9) (v := (st y 0 0 0 0) 21 0 k8) hx hb hK hP (118) 3 (by omega) (mw_a (by decide) (by decide)) rfl (i := (nI k8)) (by exact vp_in_nI (by omega) (by decide)) (by rw [nI_clamp (by omega)]) dX4_queue_36 ?_
      refine lv_if_ne (tgt := 49) hx hb dX4_queue_37 (by decide) (fun c37 => ?_) (fun c37 => ?_)
      · refine lv_iconst (v := 1) hx hb dX4_queue_49 (by decide) ?_
        refine lv_goto (tgt := 54) hx hb dX4_queue_50 (by decide) ?_
        refine lv_iconst (v := 3) hx hb dX4_queue_54 (by decide) ?_
        refine wx_calli (va_runV (As := [.int 1, .int 3]) (rest := []) ⟨hx, hb, hml, hown, hts⟩ (m_fails l hst g base n L (by omega) (st y 0 0 0 0) ch r0 st_eq 1 3 (by decide)) (cwV 2 hts gX4_queue_X4_fails rfl rfl rfl (by decide +kernel) ⟨Nat.le_of_ble_eq_true rfl, Nat.le_of_ble_eq_true rfl⟩) (hPW.preV hP hS (ci := 6) rfl (by omega) mw_o) rfl rfl hl.1 rfl (lv_room (Nat.le_of_ble_eq_true rfl)) dX4_queue_55 ⟨Nat.le_of_ble_eq_true rfl, Nat.le_of_ble_eq_true rfl⟩) hS (fun r55 u55 H locs h55 hP hS => ?_)
        obtain ⟨rfl, -, e9⟩ : r55 = 1 ∧ True ∧ u55 = st (st y 0 0 0 0) 0 0 0 3 := by rcases h55 with ⟨-, b, -⟩ | ⟨a, -, b⟩; exact absurd b (by decide); exact ⟨a, trivial, b⟩
        have e9 := e9.symm
        subst e9
        refine lv_if_eq (tgt := 63) hx hb dX4_queue_58 (by decide) (fun c58 => absurd c58 (by decide)) (fun c58 => ?_)
        refine lv_iconst (v := 0) hx hb dX4_queue_61 (by decide) ?_
        refine W.widen (k := 0) (n := 0) (Nat.le_of_ble_eq_true rfl) (Nat.le_of_ble_eq_true rfl) ?_
        exact W.zret (v := 0) hx hb hr (by decide) (fun t ht hW => ⟨⟨0, (st (st y 0 0 0 0) 0 0 0 3, ch), rfl, Or.inr ⟨k8, hk8, rfl, Or.inr (Or.inl ⟨dsOK hd20 rfl, fun h9 => c37 h9.1, rfl⟩)⟩, PB.mk9 hP ht⟩, hS.F ht⟩) hS.2.2 dX4_queue_62
      · refine lv_aload_n hx hb dX4_queue_40 rfl (lv_at hl 0 rfl) ?_
        refine wx_get (D := g.1) (cl := vwCl) (ci := 6) (v := .ref (L 119)) (C := RX4) (T := TX4) (N := 22) hx hb hts iX4 hown hK hP (106) (by omega) mw_o rfl 18 (by decide) (hts (.fieldLink RX4 51 "FerroDeskModel" "isMended" "[Z") (by decide +kernel)) (fun _ h9 => h9) rfl dX4_queue_41 ?_
        refine lv_iload_n hx hb dX4_queue_44 rfl (lv_at hl 1 rfl) ?_
        refine wx_zaldv (D := g.1) (cl := vwCl) (N := 40) (f := fun j9 => (st y 0 0 0 0) 22 0 j9) (v := (st y 0 0 0 0) 22 0 k8) hx hb hK hP (119) 3 (by omega) (mw_a (by decide) (by decide)) rfl (i := (nI k8)) (by exact vp_in_nI (by omega) (by decide)) (by rw [nI_clamp (by omega)]) dX4_queue_45 ?_
        refine lv_if_eq (tgt := 53) hx hb dX4_queue_46 (by decide) (fun c46 => ?_) (fun c46 => ?_)
        · refine lv_iconst (v := 0) hx hb dX4_queue_53 (by decide) ?_
          refine lv_iconst (v := 3) hx hb dX4_queue_54 (by decide) ?_
          refine wx_calli (va_runV (As := [.int 0, .int 3]) (rest := []) ⟨hx, hb, hml, hown, hts⟩ (m_fails l hst g base n L (by omega) (st y 0 0 0 0) ch r0 st_eq 0 3 (by decide)) (cwV 2 hts gX4_queue_X4_fails rfl rfl rfl (by decide +kernel) ⟨Nat.le_of_ble_eq_true rfl, Nat.le_of_ble_eq_true rfl⟩) (hPW.preV hP hS (ci := 6) rfl (by omega) mw_o) rfl rfl hl.1 rfl (lv_room (Nat.le_of_ble_eq_true rfl)) dX4_queue_55 ⟨Nat.le_of_ble_eq_true rfl, Nat.le_of_ble_eq_true rfl⟩) hS (fun r55 u55 H locs h55 hP hS => ?_)
          obtain ⟨rfl, -, e9⟩ : r55 = 0 ∧ True ∧ u55 = st y 0 0 0 0 := by rcases h55 with ⟨a, -, b⟩ | ⟨-, b, -⟩; exact ⟨a, trivial, b⟩; exact absurd rfl b
          have e9 := e9.symm
          subst e9
          refine lv_if_eq (tgt := 63) hx hb dX4_queue_58 (by decide) (fun c58 => ?_) (fun c58 => absurd (by decide) c58)
          refine lv_aload_n hx hb dX4_queue_63 rfl (lv_at hl 0 rfl) ?_
          refine wx_get (D := g.1) (cl := vwCl) (ci := 6) (v := .ref (L 120)) (C := RX4) (T := TX4) (N := 22) hx hb hts iX4 hown hK hP (106) (by omega) mw_o rfl 19 (by decide) (hts (.fieldLink RX4 54 "FerroDeskModel" "isQueued" "[Z") (by decide +kernel)) (fun _ h9 => h9) rfl dX4_queue_64 ?_
          refine lv_iconst (v := 4) hx hb dX4_queue_67 (by decide) ?_
          refine lv_iload_n hx hb dX4_queue_68 rfl (lv_at hl 1 rfl) ?_
          refine lv_imul hx hb dX4_queue_69 ?_
          refine lv_iload_n hx hb dX4_queue_70 rfl (lv_at hl 2 rfl) ?_
          refine lv_iadd hx hb dX4_queue_71 ?_
          refine wx_zaldv (D := g.1) (cl := vwCl) (N := 160) (f := fun j9 => (st y 0 0 0 0) 23 0 j9) (v := (st y 0 0 0 0) 23 0 (4 * k8 + d20)) hx hb hK hP (120) 3 (by omega) (mw_a (by decide) (by decide)) rfl (i := (4 * (nI k8)) + (nI d20)) (by simp only [m4, nI_add]; exact vp_in_nI (by omega) (by decide)) (by simp only [m4, nI_add]; rw [nI_clamp (by omega)]) dX4_queue_72 ?_
          refine lv_istore_n (lv' := [(3, .int ((st y 0 0 0 0) 23 0 (4 * k8 + d20))), (0, .ref (L 106)), (1, .int (nI k8)), (2, .int (nI d20))]) hx hb dX4_queue_73 rfl hl (by decide) rfl (fun ls hl => ?_)
          refine lv_aload_n hx hb dX4_queue_74 rfl (lv_at hl 1 rfl) ?_
          refine wx_get (D := g.1) (cl := vwCl) (ci := 6) (v := .ref (L 120)) (C := RX4) (T := TX4) (N := 22) hx hb hts iX4 hown hK hP (106) (by omega) mw_o rfl 19 (by decide) (hts (.fieldLink RX4 54 "FerroDeskModel" "isQueued" "[Z") (by decide +kernel)) (fun _ h9 => h9) rfl dX4_queue_75 ?_
          refine lv_iconst (v := 4) hx hb dX4_queue_78 (by decide) ?_
          refine lv_iload_n hx hb dX4_queue_79 rfl (lv_at hl 2 rfl) ?_
          refine lv_imul hx hb dX4_queue_80 ?_
          refine lv_iload_n hx hb dX4_queue_81 rfl (lv_at hl 3 rfl) ?_
          refine lv_iadd hx hb dX4_queue_82 ?_
          refine lv_iconst (v := 1) hx hb dX4_queue_83 (by decide) ?_
          refine wx_zast (D := g.1) (cl := vwCl) (N := 160) (f := fun j9 => (st y 0 0 0 0) 23 0 j9) (w' := mw g L (st (st y 0 0 0 0) 23 0 (4 * k8 + d20) 1) ch r0) hx hb hK hP hJ hS (120) 3 (by omega) (mw_a (by decide) (by decide)) rfl (i := (4 * (nI k8)) + (nI d20)) (by simp only [m4, nI_add]; exact vp_in_nI (by omega) (by decide)) (by decide) dX4_queue_84 (by simp only [m4, nI_add]; rw [nI_clamp (by omega)]; exact mw_st (r := 23) rfl (by decide) (by decide) rfl rfl rfl) (fun H locs hP hS => ?_)
          refine lv_iload_n hx hb dX4_queue_85 rfl (lv_at hl 0 rfl) ?_
          refine lv_if_ne (tgt := 93) hx hb dX4_queue_86 (by decide) (fun c86 => ?_) (fun c86 => ?_)
          · refine lv_iconst (v := 0) hx hb dX4_queue_93 (by decide) ?_
            refine W.widen (k := 0) (n := 0) (Nat.le_of_ble_eq_true rfl) (Nat.le_of_ble_eq_true rfl) ?_
            exact W.zret (v := 0) hx hb hr (by decide) (fun t ht hW => ⟨⟨0, (st (st y 0 0 0 0) 23 0 (4 * k8 + d20) 1, ch), rfl, Or.inr ⟨k8, hk8, rfl, Or.inr (Or.inr ⟨d20, hd20, rfl, ⟨c37, c46⟩, rfl⟩)⟩, PB.mk9 hP ht⟩, hS.F ht⟩) hS.2.2 dX4_queue_94
          · refine lv_iconst (v := 1) hx hb dX4_queue_89 (by decide) ?_
            refine lv_goto (tgt := 94) hx hb dX4_queue_90 (by decide) ?_
            refine W.widen (k := 0) (n := 0) (Nat.le_of_ble_eq_true rfl) (Nat.le_of_ble_eq_true rfl) ?_
            exact W.zret (v := 1) hx hb hr (by decide) (fun t ht hW => ⟨⟨1, (st (st y 0 0 0 0) 23 0 (4 * k8 + d20) 1, ch), rfl, Or.inr ⟨k8, hk8, rfl, Or.inr (Or.inr ⟨d20, hd20, rfl, ⟨c37, c46⟩, rfl⟩)⟩, PB.mk9 hP ht⟩, hS.F ht⟩) hS.2.2 dX4_queue_94
        · refine lv_iconst (v := 1) hx hb dX4_queue_49 (by decide) ?_
          refine lv_goto (tgt := 54) hx hb dX4_queue_50 (by decide) ?_
          refine lv_iconst (v := 3) hx hb dX4_queue_54 (by decide) ?_
          refine wx_calli (va_runV (As := [.int 1, .int 3]) (rest := []) ⟨hx, hb, hml, hown, hts⟩ (m_fails l hst g base n L (by omega) (st y 0 0 0 0) ch r0 st_eq 1 3 (by decide)) (cwV 2 hts gX4_queue_X4_fails rfl rfl rfl (by decide +kernel) ⟨Nat.le_of_ble_eq_true rfl, Nat.le_of_ble_eq_true rfl⟩) (hPW.preV hP hS (ci := 6) rfl (by omega) mw_o) rfl rfl hl.1 rfl (lv_room (Nat.le_of_ble_eq_true rfl)) dX4_queue_55 ⟨Nat.le_of_ble_eq_true rfl, Nat.le_of_ble_eq_true rfl⟩) hS (fun r55 u55 H locs h55 hP hS => ?_)
          obtain ⟨rfl, -, e9⟩ : r55 = 1 ∧ True ∧ u55 = st (st y 0 0 0 0) 0 0 0 3 := by rcases h55 with ⟨-, b, -⟩ | ⟨a, -, b⟩; exact absurd b (by decide); exact ⟨a, trivial, b⟩
          have e9 := e9.symm
          subst e9
          refine lv_if_eq (tgt := 63) hx hb dX4_queue_58 (by decide) (fun c58 => absurd c58 (by decide)) (fun c58 => ?_)
          refine lv_iconst (v := 0) hx hb dX4_queue_61 (by decide) ?_
          refine W.widen (k := 0) (n := 0) (Nat.le_of_ble_eq_true rfl) (Nat.le_of_ble_eq_true rfl) ?_
          exact W.zret (v := 0) hx hb hr (by decide) (fun t ht hW => ⟨⟨0, (st (st y 0 0 0 0) 0 0 0 3, ch), rfl, Or.inr ⟨k8, hk8, rfl, Or.inr (Or.inl ⟨dsOK hd20 rfl, fun h9 => c46 h9.2, rfl⟩)⟩, PB.mk9 hP ht⟩, hS.F ht⟩) hS.2.2 dX4_queue_62

set_option maxHeartbeats 4000000 in
set_option maxRecDepth 100000 in
theorem m_takeBack (l : Launch) (hst : l.stackTraces = false) (g : gE) (base n : Nat) (L : Nat → Nat) (hn : 123 ≤ n) (y : St) (ch : Int64) (r0 : Nat → va_E) (nb nn : Nat) (hM : MI y nb nn) (p0 p1 : Int32) : Met l yX4_takeBack wsX4_takeBack ({ frames := 2, cells := 0, slots := 0, locals := 120 }) (va_Pc [.ref (L 106), .int p0, .int p1] (PW SS g base n L (mw g L y ch r0))) (va_Qi (fun (r : Int32) (u : MS) => ((p0.toInt < 0 ∨ nn ≤ p0.toInt) ∧ u = (st (st y 0 0 0 0) 0 0 0 1, ch)) ∨ (∃ j, j < nn ∧ p0 = nI j ∧ (((p1 ≤ (st y 0 0 0 0) 1 0 0 ∨ ¬ p1 ≤ (st y 0 0 0 0) 20 0 j) ∧ u = (st (st y 0 0 0 0) 0 0 0 2, ch)) ∨ ((¬ p1 ≤ (st y 0 0 0 0) 1 0 0 ∧ p1 ≤ (st y 0 0 0 0) 20 0 j) ∧ (st y 0 0 0 0) 22 0 j ≠ 0 ∧ u = (st (st y 0 0 0 0) 0 0 0 3, ch)) ∨ ((¬ p1 ≤ (st y 0 0 0 0) 1 0 0 ∧ p1 ≤ (st y 0 0 0 0) 20 0 j) ∧ (st y 0 0 0 0) 22 0 j = 0 ∧ u = (tbM (st y 0 0 0 0) j p1, ch) ∧ r = cnP (fun b => u.1 12 0 b = nI j) nb)))) (fun (u : MS) t => PB g n L (mw g L u.1 u.2 r0) t) (fun q => base ≤ q)) 0 0 (fun q => base ≤ q) := by
  refine Met.ofW (cc := cX4_takeBack) (maxL := 5) (ret := (some .int)) (by decide) rfl ?_
  intro p e s m args below meth c s₁ B hml hv
  obtain ⟨rfl, hPW⟩ := hv
  obtain ⟨hbs, hJ, hP, hK, hE⟩ := id hPW
  have hx := B.exec
  have hb := B.bytes
  have hr := B.returns
  have hts := atoms_spec (ws := wsX4_takeBack) B.pre
  have hown : s.vm.findClass RX4 = some m.cls := findClass_of_methodNamed B.named
  have hlocks := B.notSynchronized
  have hS : va_S (fun q : Nat => base ≤ q) s.heap s.heap [] := va_S.rf
  have hl := lv_entry ([.ref (L 106), .int p0, .int p1]) (n := 5) (Nat.le_of_ble_eq_true rfl)
  rw [lg_entry_eq]
  generalize (lg_sl ([.ref (L 106), .int p0, .int p1]) ++ List.replicate (5 - (lg_sl ([.ref (L 106), .int p0, .int p1])).length) Slot.unset).toArray = ls at hl ⊢
  have hl : lv_has ls 5 [(0, .ref (L 106)), (1, .int p0), (2, .int p1)] := hl
  have iX4 : ∀ w ∈ wsX40, w ∈ wsX4_takeBack := by decide +kernel
  have hnb := hM.nb6
  have hnn := hM.nn40
  have hy3 := hM.y3
  have hy4 := hM.y4
  have hT3 : (st y 0 0 0 0) 3 0 0 = nI nb := (st_nr (by omega)).trans hy3
  have hT4 : (st y 0 0 0 0) 4 0 0 = nI nn := (st_nr (by omega)).trans hy4
  refine lv_aload_n hx hb dX4_takeBack_0 rfl (lv_at hl 0 rfl) ?_
  refine lv_iconst (v := 0) hx hb dX4_takeBack_1 (by decide) ?_
  refine wx_put (D := g.1) (cl := vwCl) (ci := 6) (v := .int 0) (ty := .int) (w' := mw g L (st y 0 0 0 0) ch r0) (C := RX4) (T := TX4) (N := 22) hx hb hts iX4 tyX4 tyX4_ok nmX4 hown hK hP hJ hS (106) (by omega) mw_o rfl 0 (by decide) (hts (.fieldLink RX4 64 "FerroDeskModel" "thrown" "I") (by decide +kernel)) (fun _ h9 => h9) rfl (by decide +kernel) rfl rfl (Nat.le_of_ble_eq_true rfl) dX4_takeBack_2 (mw_put (r := 0) (i := 0) (j := 0) rfl (by omega) (mk_o.trans (by simp [mF, st]))) (fun H locs hP hS => ?_)
  refine lv_aload_n hx hb dX4_takeBack_5 rfl (lv_at hl 0 rfl) ?_
  refine lv_aload_n hx hb dX4_takeBack_6 rfl (lv_at hl 0 rfl) ?_
  refine lv_iload_n hx hb dX4_takeBack_7 rfl (lv_at hl 1 rfl) ?_
  refine wx_calli (va_runV (As := [.int p0]) (rest := [.ref (L 106)]) ⟨hx, hb, hml, hown, hts⟩ (m_noNotice l hst g base n L (by omega) (st y 0 0 0 0) ch r0 nn hnn (by repeat (first | exact hy4 | rw [st_nr (by omega)])) p0) (cwV 1 hts gX4_takeBack_X4_noNotice rfl rfl rfl (by decide +kernel) ⟨Nat.le_of_ble_eq_true rfl, Nat.le_of_ble_eq_true rfl⟩) (hPW.preV hP hS (ci := 6) rfl (by omega) mw_o) rfl rfl hl.1 rfl (lv_room (Nat.le_of_ble_eq_true rfl)) dX4_takeBack_8 ⟨Nat.le_of_ble_eq_true rfl, Nat.le_of_ble_eq_true rfl⟩) hS (fun r8 u8 H locs h8 hP hS => ?_)
  rcases h8 with ⟨rfl, h8⟩ | ⟨rfl, k8, hk8, rfl⟩
  · refine lv_iconst (v := 1) hx hb dX4_takeBack_11 (by decide) ?_
    refine wx_calli (va_runV (As := [.int 1, .int 1]) (rest := []) ⟨hx, hb, hml, hown, hts⟩ (m_fails l hst g base n L (by omega) (st y 0 0 0 0) ch r0 st_eq 1 1 (by decide)) (cwV 2 hts gX4_takeBack_X4_fails rfl rfl rfl (by decide +kernel) ⟨Nat.le_of_ble_eq_true rfl, Nat.le_of_ble_eq_true rfl⟩) (hPW.preV hP hS (ci := 6) rfl (by omega) mw_o) rfl rfl hl.1 rfl (lv_room (Nat.le_of_ble_eq_true rfl)) dX4_takeBack_12 ⟨Nat.le_of_ble_eq_true rfl, Nat.le_of_ble_eq_true rfl⟩) hS (fun r12 u12 H locs h12 hP hS => ?_)
    obtain ⟨rfl, -, e9⟩ : r12 = 1 ∧ True ∧ u12 = st (st y 0 0 0 0) 0 0 0 1 := by rcases h12 with ⟨-, b, -⟩ | ⟨a, -, b⟩; exact absurd b (by decide); exact ⟨a, trivial, b⟩
    have e9 := e9.symm
    subst e9
    refine lv_if_ne (tgt := 63) hx hb dX4_takeBack_15 (by decide) (fun c15 => ?_) (fun c15 => absurd c15 (by decide))
    refine lv_iconst (v := 0) hx hb dX4_takeBack_63 (by decide) ?_
    refine W.widen (k := 0) (n := 0) (Nat.le_of_ble_eq_true rfl) (Nat.le_of_ble_eq_true rfl) ?_
    exact W.iret (v := 0) hx hb hr (fun t ht hW => ⟨⟨0, (st (st y 0 0 0 0) 0 0 0 1, ch), rfl, Or.inl ⟨h8, rfl⟩, PB.mk9 hP ht⟩, hS.F ht⟩) hS.2.2 dX4_takeBack_64
  · refine lv_iconst (v := 1) hx hb dX4_takeBack_11 (by decide) ?_
    refine wx_calli (va_runV (As := [.int 0, .int 1]) (rest := []) ⟨hx, hb, hml, hown, hts⟩ (m_fails l hst g base n L (by omega) (st y 0 0 0 0) ch r0 st_eq 0 1 (by decide)) (cwV 2 hts gX4_takeBack_X4_fails rfl rfl rfl (by decide +kernel) ⟨Nat.le_of_ble_eq_true rfl, Nat.le_of_ble_eq_true rfl⟩) (hPW.preV hP hS (ci := 6) rfl (by omega) mw_o) rfl rfl hl.1 rfl (lv_room (Nat.le_of_ble_eq_true rfl)) dX4_takeBack_12 ⟨Nat.le_of_ble_eq_true rfl, Nat.le_of_ble_eq_true rfl⟩) hS (fun r12 u12 H locs h12 hP hS => ?_)
    obtain ⟨rfl, -, e9⟩ : r12 = 0 ∧ True ∧ u12 = st y 0 0 0 0 := by rcases h12 with ⟨a, -, b⟩ | ⟨-, b, -⟩; exact ⟨a, trivial, b⟩; exact absurd rfl b
    have e9 := e9.symm
    subst e9
    refine lv_if_ne (tgt := 63) hx hb dX4_takeBack_15 (by decide) (fun c15 => absurd c15 (by decide)) (fun c15 => ?_)
    refine lv_aload_n hx hb dX4_takeBack_18 rfl (lv_at hl 0 rfl) ?_
    refine lv_iload_n hx hb dX4_takeBack_19 rfl (lv_at hl 2 rfl) ?_
    refine lv_aload_n hx hb dX4_takeBack_20 rfl (lv_at hl 0 rfl) ?_
    refine wx_get (D := g.1) (cl := vwCl) (ci := 6) (v := .int ((st y 0 0 0 0) 1 0 0)) (C := RX4) (T := TX4) (N := 22) hx hb hts iX4 hown hK hP (106) (by omega) mw_o rfl 1 (by decide) (hts (.fieldLink RX4 101 "FerroDeskModel" "hour" "I") (by decide +kernel)) (fun _ h9 => h9) rfl dX4_takeBack_21 ?_
    refine lv_icmp_le (tgt := 37) hx hb dX4_takeBack_24 (by decide) (fun c24 => ?_) (fun c24 => ?_)
    · refine lv_iconst (v := 1) hx hb dX4_takeBack_37 (by decide) ?_
      refine lv_goto (tgt := 42) hx hb dX4_takeBack_38 (by decide) ?_
      refine lv_iconst (v := 2) hx hb dX4_takeBack_42 (by decide) ?_
      refine wx_calli (va_runV (As := [.int 1, .int 2]) (rest := []) ⟨hx, hb, hml, hown, hts⟩ (m_fails l hst g base n L (by omega) (st y 0 0 0 0) ch r0 st_eq 1 2 (by decide)) (cwV 2 hts gX4_takeBack_X4_fails rfl rfl rfl (by decide +kernel) ⟨Nat.le_of_ble_eq_true rfl, Nat.le_of_ble_eq_true rfl⟩) (hPW.preV hP hS (ci := 6) rfl (by omega) mw_o) rfl rfl hl.1 rfl (lv_room (Nat.le_of_ble_eq_true rfl)) dX4_takeBack_43 ⟨Nat.le_of_ble_eq_true rfl, Nat.le_of_ble_eq_true rfl⟩) hS (fun r43 u43 H locs h43 hP hS => ?_)
      obtain ⟨rfl, -, e9⟩ : r43 = 1 ∧ True ∧ u43 = st (st y 0 0 0 0) 0 0 0 2 := by rcases h43 with ⟨-, b, -⟩ | ⟨a, -, b⟩; exact absurd b (by decide); exact ⟨a, trivial, b⟩
      have e9 := e9.symm
      subst e9
      refine lv_if_ne (tgt := 63) hx hb dX4_takeBack_46 (by decide) (fun c46 => ?_) (fun c46 => absurd c46 (by decide))
      refine lv_iconst (v := 0) hx hb dX4_takeBack_63 (by decide) ?_
      refine W.widen (k := 0) (n := 0) (Nat.le_of_ble_eq_true rfl) (Nat.le_of_ble_eq_true rfl) ?_
      exact W.iret (v := 0) hx hb hr (fun t ht hW => ⟨⟨0, (st (st y 0 0 0 0) 0 0 0 2, ch), rfl, Or.inr ⟨k8, hk8, rfl, Or.inl ⟨Or.inl c24, rfl⟩⟩, PB.mk9 hP ht⟩, hS.F ht⟩) hS.2.2 dX4_takeBack_64
    · refine lv_iload_n hx hb dX4_takeBack_27 rfl (lv_at hl 2 rfl) ?_
      refine lv_aload_n hx hb dX4_takeBack_28 rfl (lv_at hl 0 rfl) ?_
      refine wx_get (D := g.1) (cl := vwCl) (ci := 6) (v := .ref (L 117)) (C := RX4) (T := TX4) (N := 22) hx hb hts iX4 hown hK hP (106) (by omega) mw_o rfl 16 (by decide) (hts (.fieldLink RX4 45 "FerroDeskModel" "till" "[I") (by decide +kernel)) (fun _ h9 => h9) rfl dX4_takeBack_29 ?_
      refine lv_iload_n hx hb dX4_takeBack_32 rfl (lv_at hl 1 rfl) ?_
      refine wx_ialdv (D := g.1) (cl := vwCl) (N := 40) (f := fun j9 => (st y 0 0 0 0) 20 0 j9) (v := (st y 0 0 0 0) 20 0 k8) hx hb hK hP (117) 0 (by omega) (mw_a (by decide) (by decide)) rfl (i := (nI k8)) (by exact vp_in_nI (by omega) (by decide)) (by rw [nI_clamp (by omega)]) dX4_takeBack_33 ?_
      refine lv_icmp_le (tgt := 41) hx hb dX4_takeBack_34 (by decide) (fun c34 => ?_) (fun c34 => ?_)
      · refine lv_iconst (v := 0) hx hb dX4_takeBack_41 (by decide) ?_
        refine lv_iconst (v := 2) hx hb dX4_takeBack_42 (by decide) ?_
        refine wx_calli (va_runV (As := [.int 0, .int 2]) (rest := []) ⟨hx, hb, hml, hown, hts⟩ (m_fails l hst g base n L (by omega) (st y 0 0 0 0) ch r0 st_eq 0 2 (by decide)) (cwV 2 hts gX4_takeBack_X4_fails rfl rfl rfl (by decide +kernel) ⟨Nat.le_of_ble_eq_true rfl, Nat.le_of_ble_eq_true rfl⟩) (hPW.preV hP hS (ci := 6) rfl (by omega) mw_o) rfl rfl hl.1 rfl (lv_room (Nat.le_of_ble_eq_true rfl)) dX4_takeBack_43 ⟨Nat.le_of_ble_eq_true rfl, Nat.le_of_ble_eq_true rfl⟩) hS (fun r43 u43 H locs h43 hP hS => ?_)
        obtain ⟨rfl, -, e9⟩ : r43 = 0 ∧ True ∧ u43 = st y 0 0 0 0 := by rcases h43 with ⟨a, -, b⟩ | ⟨-, b, -⟩; exact ⟨a, trivial, b⟩; exact absurd rfl b
        have e9 := e9.symm
        subst e9
        refine lv_if_ne (tgt := 63) hx hb dX4_takeBack_46 (by decide) (fun c46 => absurd c46 (by decide)) (fun c46 => ?_)
        refine lv_aload_n hx hb dX4_takeBack_49 rfl (lv_at hl 0 rfl) ?_
        refine lv_aload_n hx hb dX4_takeBack_50 rfl (lv_at hl 0 rfl) ?_
        refine wx_get (D := g.1) (cl := vwCl) (ci := 6) (v := .ref (L 119)) (C := RX4) (T := TX4) (N := 22) hx hb hts iX4 hown hK hP (106) (by omega) mw_o rfl 18 (by decide) (hts (.fieldLink RX4 51 "FerroDeskModel" "isMended" "[Z") (by decide +kernel)) (fun _ h9 => h9) rfl dX4_takeBack_51 ?_
        refine lv_iload_n hx hb dX4_takeBack_54 rfl (lv_at hl 1 rfl) ?_
        refine wx_zaldv (D := g.1) (cl := vwCl) (N := 40) (f := fun j9 => (st y 0 0 0 0) 22 0 j9) (v := (st y 0 0 0 0) 22 0 k8) hx hb hK hP (119) 3 (by omega) (mw_a (by decide) (by decide)) rfl (i := (nI k8)) (by exact vp_in_nI (by omega) (by decide)) (by rw [nI_clamp (by omega)]) dX4_takeBack_55 ?_
        refine lv_iconst (v := 3) hx hb dX4_takeBack_56 (by decide) ?_
        refine wx_calli (va_runV (As := [.int ((st y 0 0 0 0) 22 0 k8), .int 3]) (rest := []) ⟨hx, hb, hml, hown, hts⟩ (m_fails l hst g base n L (by omega) (st y 0 0 0 0) ch r0 st_eq ((st y 0 0 0 0) 22 0 k8) 3 (by decide)) (cwV 2 hts gX4_takeBack_X4_fails rfl rfl rfl (by decide +kernel) ⟨Nat.le_of_ble_eq_true rfl, Nat.le_of_ble_eq_true rfl⟩) (hPW.preV hP hS (ci := 6) rfl (by omega) mw_o) rfl rfl hl.1 rfl (lv_room (Nat.le_of_ble_eq_true rfl)) dX4_takeBack_57 ⟨Nat.le_of_ble_eq_true rfl, Nat.le_of_ble_eq_true rfl⟩) hS (fun r57 u57 H locs h57 hP hS => ?_)
        rcases h57 with ⟨rfl, h57, e9⟩ | ⟨rfl, h57, e9⟩
        · have e9 := e9.symm
          subst e9
          refine lv_if_eq (tgt := 65) hx hb dX4_takeBack_60 (by decide) (fun c60 => ?_) (fun c60 => absurd (by decide) c60)
          refine lv_aload_n hx hb dX4_takeBack_65 rfl (lv_at hl 0 rfl) ?_
          refine wx_get (D := g.1) (cl := vwCl) (ci := 6) (v := .ref (L 117)) (C := RX4) (T := TX4) (N := 22) hx hb hts iX4 hown hK hP (106) (by omega) mw_o rfl 16 (by decide) (hts (.fieldLink RX4 45 "FerroDeskModel" "till" "[I") (by decide +kernel)) (fun _ h9 => h9) rfl dX4_takeBack_66 ?_
          refine lv_iload_n hx hb dX4_takeBack_69 rfl (lv_at hl 1 rfl) ?_
          refine lv_iload_n hx hb dX4_takeBack_70 rfl (lv_at hl 2 rfl) ?_
          refine wx_iast (D := g.1) (cl := vwCl) (N := 40) (f := fun j9 => (st y 0 0 0 0) 20 0 j9) (w' := mw g L (st (st y 0 0 0 0) 20 0 k8 p1) ch r0) hx hb hK hP hJ hS (117) 0 (by omega) (mw_a (by decide) (by decide)) rfl (i := (nI k8)) (by exact vp_in_nI (by omega) (by decide)) dX4_takeBack_71 (by rw [nI_clamp (by omega)]; exact mw_st (r := 20) rfl (by decide) (by decide) rfl rfl rfl) (fun H locs hP hS => ?_)
          refine lv_aload_n hx hb dX4_takeBack_72 rfl (lv_at hl 0 rfl) ?_
          refine wx_get (D := g.1) (cl := vwCl) (ci := 6) (v := .ref (L 118)) (C := RX4) (T := TX4) (N := 22) hx hb hts iX4 hown hK hP (106) (by omega) mw_o rfl 17 (by decide) (hts (.fieldLink RX4 48 "FerroDeskModel" "isBack" "[Z") (by decide +kernel)) (fun _ h9 => h9) rfl dX4_takeBack_73 ?_
          refine lv_iload_n hx hb dX4_takeBack_76 rfl (lv_at hl 1 rfl) ?_
          refine lv_iconst (v := 1) hx hb dX4_takeBack_77 (by decide) ?_
          refine wx_zast (D := g.1) (cl := vwCl) (N := 40) (f := fun j9 => (st (st y 0 0 0 0) 20 0 k8 p1) 21 0 j9) (w' := mw g L (st (st (st y 0 0 0 0) 20 0 k8 p1) 21 0 k8 1) ch r0) hx hb hK hP hJ hS (118) 3 (by omega) (mw_a (by decide) (by decide)) rfl (i := (nI k8)) (by exact vp_in_nI (by omega) (by decide)) (by decide) dX4_takeBack_78 (by rw [nI_clamp (by omega)]; exact mw_st (r := 21) rfl (by decide) (by decide) rfl rfl rfl) (fun H locs hP hS => ?_)
          refine lv_iconst (v := 0) hx hb dX4_takeBack_79 (by decide) ?_
          refine lv_istore_n (lv' := [(3, .int 0), (0, .ref (L 106)), (1, .int (nI k8)), (2, .int p1)]) hx hb dX4_takeBack_80 rfl hl (by decide) rfl (fun ls hl => ?_)
          refine lv_iconst (v := 0) hx hb dX4_takeBack_81 (by decide) ?_
          refine lv_istore (lv' := [(4, .int 0), (3, .int 0), (0, .ref (L 106)), (1, .int (nI k8)), (2, .int p1)]) hx hb dX4_takeBack_82 hl (by decide) rfl (fun ls hl => ?_)
          have key84 : ∀ (d k : Nat) (z4 : Int32) (z3 : Int32) (H : Heap) (locs : List Loc) (ls : Array Slot), k + d = nb → (z4 = nI k) → (z3 = cnP (fun b => (tbM (st y 0 0 0 0) k8 p1) 12 0 b = nI k8) k) → va_P g.1 vwCl (wl n L (mw g L (st (st (st y 0 0 0 0) 20 0 k8 p1) 21 0 k8 1) ch r0)) H → va_S (fun q : Nat => base ≤ q) s.heap H locs → lv_has ls 5 [(4, .int z4), (3, .int z3), (0, .ref (L 106)), (1, .int (nI k8)), (2, .int p1)] → W p l e (headSpec wsX4_takeBack ({ frames := 2, cells := 0, slots := 0, locals := 120 })).room s m ([.ref (L 106), .int (nI k8), .int p1] : List Value).toArray below meth c H locs (0 + 0 + 0 + 0 + 0) (0 + 0 + 0 + 0 + 0) (MQ below (va_Qi (fun (r : Int32) (u : MS) => (((nI k8).toInt < 0 ∨ nn ≤ (nI k8).toInt) ∧ u = (st (st y 0 0 0 0) 0 0 0 1, ch)) ∨ (∃ j, j < nn ∧ (nI k8) = nI j ∧ (((p1 ≤ (st y 0 0 0 0) 1 0 0 ∨ ¬ p1 ≤ (st y 0 0 0 0) 20 0 j) ∧ u = (st (st y 0 0 0 0) 0 0 0 2, ch)) ∨ ((¬ p1 ≤ (st y 0 0 0 0) 1 0 0 ∧ p1 ≤ (st y 0 0 0 0) 20 0 j) ∧ (st y 0 0 0 0) 22 0 j ≠ 0 ∧ u = (st (st y 0 0 0 0) 0 0 0 3, ch)) ∨ ((¬ p1 ≤ (st y 0 0 0 0) 1 0 0 ∧ p1 ≤ (st y 0 0 0 0) 20 0 j) ∧ (st y 0 0 0 0) 22 0 j = 0 ∧ u = (tbM (st y 0 0 0 0) j p1, ch) ∧ r = cnP (fun b => u.1 12 0 b = nI j) nb)))) (fun (u : MS) t => PB g n L (mw g L u.1 u.2 r0) t) (fun q => base ≤ q)) ([.ref (L 106), .int (nI k8), .int p1] : List Value).toArray s 0 0 (fun q => base ≤ q)) (F0 m 84 ls []) := by
            intro d
            induction d with
            | zero =>
              intro k z4 z3 H locs ls hkd ek4 ek3 hP hS hl
              obtain rfl : nb = k := by omega
              subst ek4 ek3
              refine lv_iload hx hb dX4_takeBack_84 (lv_at hl 0 rfl) ?_
              refine lv_aload_n hx hb dX4_takeBack_86 rfl (lv_at hl 2 rfl) ?_
              refine wx_get (D := g.1) (cl := vwCl) (ci := 6) (v := .int ((st (st (st y 0 0 0 0) 20 0 k8 p1) 21 0 k8 1) 3 0 0)) (C := RX4) (T := TX4) (N := 22) hx hb hts iX4 hown hK hP (106) (by omega) mw_o rfl 3 (by decide) (hts (.fieldLink RX4 67 "FerroDeskModel" "boards" "I") (by decide +kernel)) (fun _ h9 => h9) rfl dX4_takeBack_87 ?_
              refine lv_icmp_ge (tgt := 118) hx hb dX4_takeBack_90 (by decide) (fun c90 => ?_) (fun c90 => absurd (by rw [show (st (st (st y 0 0 0 0) 20 0 k8 p1) 21 0 k8 1) 3 0 0 = nI nb from (st_nr (by omega)).trans ((st_nr (by omega)).trans hT3)]; exact nI_le (Nat.le_refl _) (by omega)) c90)
              refine lv_iload_n hx hb dX4_takeBack_118 rfl (lv_at hl 1 rfl) ?_
              refine W.widen (k := 0) (n := 0) (Nat.le_of_ble_eq_true rfl) (Nat.le_of_ble_eq_true rfl) ?_
              exact W.iret (v := cnP (fun b => (tbM (st y 0 0 0 0) k8 p1) 12 0 b = nI k8) nb) hx hb hr (fun t ht hW => ⟨⟨cnP (fun b => (tbM (st y 0 0 0 0) k8 p1) 12 0 b = nI k8) nb, (st (st (st y 0 0 0 0) 20 0 k8 p1) 21 0 k8 1, ch), rfl, Or.inr ⟨k8, hk8, rfl, Or.inr (Or.inr ⟨⟨c24, c34⟩, h57, rfl, rfl⟩)⟩, PB.mk9 hP ht⟩, hS.F ht⟩) hS.2.2 dX4_takeBack_119
            | succ d ih =>
              intro k z4 z3 H locs ls hkd ek4 ek3 hP hS hl
              have hkN : k < nb := by omega
              subst ek4 ek3
              refine lv_iload hx hb dX4_takeBack_84 (lv_at hl 0 rfl) ?_
              refine lv_aload_n hx hb dX4_takeBack_86 rfl (lv_at hl 2 rfl) ?_
              refine wx_get (D := g.1) (cl := vwCl) (ci := 6) (v := .int ((st (st (st y 0 0 0 0) 20 0 k8 p1) 21 0 k8 1) 3 0 0)) (C := RX4) (T := TX4) (N := 22) hx hb hts iX4 hown hK hP (106) (by omega) mw_o rfl 3 (by decide) (hts (.fieldLink RX4 67 "FerroDeskModel" "boards" "I") (by decide +kernel)) (fun _ h9 => h9) rfl dX4_takeBack_87 ?_
              refine lv_icmp_ge (tgt := 118) hx hb dX4_takeBack_90 (by decide) (fun c90 => absurd c90 (by rw [show (st (st (st y 0 0 0 0) 20 0 k8 p1) 21 0 k8 1) 3 0 0 = nI nb from (st_nr (by omega)).trans ((st_nr (by omega)).trans hT3)]; exact nI_ge hkN (by omega))) (fun c90 => ?_)
              refine lv_iload_n hx hb dX4_takeBack_93 rfl (lv_at hl 1 rfl) ?_
              refine lv_aload_n hx hb dX4_takeBack_94 rfl (lv_at hl 2 rfl) ?_
              refine wx_get (D := g.1) (cl := vwCl) (ci := 6) (v := .ref (L 109)) (C := RX4) (T := TX4) (N := 22) hx hb hts iX4 hown hK hP (106) (by omega) mw_o rfl 8 (by decide) (hts (.fieldLink RX4 20 "FerroDeskModel" "shown" "[I") (by decide +kernel)) (fun _ h9 => h9) rfl dX4_takeBack_95 ?_
              refine lv_iload hx hb dX4_takeBack_98 (lv_at hl 0 rfl) ?_
              refine wx_ialdv (D := g.1) (cl := vwCl) (N := 6) (f := fun j9 => (st (st (st y 0 0 0 0) 20 0 k8 p1) 21 0 k8 1) 12 0 j9) (v := (st (st (st y 0 0 0 0) 20 0 k8 p1) 21 0 k8 1) 12 0 k) hx hb hK hP (109) 0 (by omega) (mw_a (by decide) (by decide)) rfl (i := nI k) (by exact vp_in_nI (by omega) (by decide)) (by rw [nI_clamp (by omega)]) dX4_takeBack_100 ?_
              refine lv_iload_n hx hb dX4_takeBack_101 rfl (lv_at hl 3 rfl) ?_
              refine lv_icmp_ne (tgt := 109) hx hb dX4_takeBack_102 (by decide) (fun c102 => ?_) (fun c102 => ?_)
              · refine lv_iconst (v := 0) hx hb dX4_takeBack_109 (by decide) ?_
                refine lv_iadd hx hb dX4_takeBack_110 ?_
                refine lv_istore_n (lv' := [(3, .int ((cnP (fun b => (tbM (st y 0 0 0 0) k8 p1) 12 0 b = nI k8) k) + 0)), (4, .int (nI k)), (0, .ref (L 106)), (1, .int (nI k8)), (2, .int p1)]) hx hb dX4_takeBack_111 rfl hl (by decide) rfl (fun ls hl => ?_)
                obtain ⟨z112, ez112⟩ : ∃ y : Int32, y = nI k + 1 := ⟨_, rfl⟩
                refine lv_iinc (v := z112) (lv' := [(4, .int z112), (3, .int ((cnP (fun b => (tbM (st y 0 0 0 0) k8 p1) 12 0 b = nI k8) k) + 0)), (0, .ref (L 106)), (1, .int (nI k8)), (2, .int p1)]) hx hb dX4_takeBack_112 hl (k := 1) rfl (by rw [ez112]; rfl) (by decide) rfl (fun ls hl => ?_)
                refine lv_goto (tgt := 84) hx hb dX4_takeBack_115 (by decide) ?_
                exact ih (k + 1) _ _ _ _ _ (by omega) (by rw [ez112, nI_1]) (cnP_f c102) hP hS (lv_sub hl [0, 1, 2, 3, 4] rfl)
              · refine lv_iconst (v := 1) hx hb dX4_takeBack_105 (by decide) ?_
                refine lv_goto (tgt := 110) hx hb dX4_takeBack_106 (by decide) ?_
                refine lv_iadd hx hb dX4_takeBack_110 ?_
                refine lv_istore_n (lv' := [(3, .int ((cnP (fun b => (tbM (st y 0 0 0 0) k8 p1) 12 0 b = nI k8) k) + 1)), (4, .int (nI k)), (0, .ref (L 106)), (1, .int (nI k8)), (2, .int p1)]) hx hb dX4_takeBack_111 rfl hl (by decide) rfl (fun ls hl => ?_)
                obtain ⟨z112, ez112⟩ : ∃ y : Int32, y = nI k + 1 := ⟨_, rfl⟩
                refine lv_iinc (v := z112) (lv' := [(4, .int z112), (3, .int ((cnP (fun b => (tbM (st y 0 0 0 0) k8 p1) 12 0 b = nI k8) k) + 1)), (0, .ref (L 106)), (1, .int (nI k8)), (2, .int p1)]) hx hb dX4_takeBack_112 hl (k := 1) rfl (by rw [ez112]; rfl) (by decide) rfl (fun ls hl => ?_)
                refine lv_goto (tgt := 84) hx hb dX4_takeBack_115 (by decide) ?_
                exact ih (k + 1) _ _ _ _ _ (by omega) (by rw [ez112, nI_1]) (cnP_t c102) hP hS (lv_sub hl [0, 1, 2, 3, 4] rfl)
          exact key84 nb 0 _ _ _ _ _ (by omega) rfl rfl hP hS (lv_sub hl [0, 1, 2, 3, 4] rfl)
        · have e9 := e9.symm
          subst e9
          refine lv_if_eq (tgt := 65) hx hb dX4_takeBack_60 (by decide) (fun c60 => absurd c60 (by decide)) (fun c60 => ?_)
          refine lv_iconst (v := 0) hx hb dX4_takeBack_63 (by decide) ?_
          refine W.widen (k := 0) (n := 0) (Nat.le_of_ble_eq_true rfl) (Nat.le_of_ble_eq_true rfl) ?_
          exact W.iret (v := 0) hx hb hr (fun t ht hW => ⟨⟨0, (st (st y 0 0 0 0) 0 0 0 3, ch), rfl, Or.inr ⟨k8, hk8, rfl, Or.inr (Or.inl ⟨⟨c24, c34⟩, h57, rfl⟩)⟩, PB.mk9 hP ht⟩, hS.F ht⟩) hS.2.2 dX4_takeBack_64
      · refine lv_iconst (v := 1) hx hb dX4_takeBack_37 (by decide) ?_
        refine lv_goto (tgt := 42) hx hb dX4_takeBack_38 (by decide) ?_
        refine lv_iconst (v := 2) hx hb dX4_takeBack_42 (by decide) ?_
        refine wx_calli (va_runV (As := [.int 1, .int 2]) (rest := []) ⟨hx, hb, hml, hown, hts⟩ (m_fails l hst g base n L (by omega) (st y 0 0 0 0) ch r0 st_eq 1 2 (by decide)) (cwV 2 hts gX4_takeBack_X4_fails rfl rfl rfl (by decide +kernel) ⟨Nat.le_of_ble_eq_true rfl, Nat.le_of_ble_eq_true rfl⟩) (hPW.preV hP hS (ci := 6) rfl (by omega) mw_o) rfl rfl hl.1 rfl (lv_room (Nat.le_of_ble_eq_true rfl)) dX4_takeBack_43 ⟨Nat.le_of_ble_eq_true rfl, Nat.le_of_ble_eq_true rfl⟩) hS (fun r43 u43 H locs h43 hP hS => ?_)
        obtain ⟨rfl, -, e9⟩ : r43 = 1 ∧ True ∧ u43 = st (st y 0 0 0 0) 0 0 0 2 := by rcases h43 with ⟨-, b, -⟩ | ⟨a, -, b⟩; exact absurd b (by decide); exact ⟨a, trivial, b⟩
        have e9 := e9.symm
        subst e9
        refine lv_if_ne (tgt := 63) hx hb dX4_takeBack_46 (by decide) (fun c46 => ?_) (fun c46 => absurd c46 (by decide))
        refine lv_iconst (v := 0) hx hb dX4_takeBack_63 (by decide) ?_
        refine W.widen (k := 0) (n := 0) (Nat.le_of_ble_eq_true rfl) (Nat.le_of_ble_eq_true rfl) ?_
        exact W.iret (v := 0) hx hb hr (fun t ht hW => ⟨⟨0, (st (st y 0 0 0 0) 0 0 0 2, ch), rfl, Or.inr ⟨k8, hk8, rfl, Or.inl ⟨Or.inr c34, rfl⟩⟩, PB.mk9 hP ht⟩, hS.F ht⟩) hS.2.2 dX4_takeBack_64

