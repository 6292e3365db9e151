/-! laid by wip/gen -/
set_option maxHeartbeats 4000000 in
set_option maxRecDepth 100000 in
theorem m_mend (l : Launch) (hst : l.stackTraces = false) (g : gE) (base n : Nat) (L : Nat → Nat) (hn : 123 ≤ n) (y : St) (ch : Int64) (r0 : Nat → va_E) (nb nn : Nat) (hM : MI y nb nn) (p0 p1 : Int32) : Met l yX4_mend wsX4_mend ({ frames := 2, cells := 0, slots := 0, locals := 120 }) (va_Pc [.ref (L 106), .int p0, .int p1] (PW SS g base n L (mw g L y ch r0))) (va_Qi (fun (r : Int32) (u : MS) => ((p0.toInt < 0 ∨ nn ≤ p0.toInt) ∧ u = (st (st y 0 0 0 0) 0 0 0 1, ch)) ∨ (∃ j, j < nn ∧ p0 = nI j ∧ ((¬ (p1 ≠ 0 ∧ p1 ≠ (st y 0 0 0 0) 18 0 j) ∧ u = (st (st y 0 0 0 0) 0 0 0 2, ch)) ∨ ((p1 ≠ 0 ∧ p1 ≠ (st y 0 0 0 0) 18 0 j) ∧ ¬ ((st y 0 0 0 0) 22 0 j = 0 ∧ ¬ (st y 0 0 0 0) 20 0 j ≤ (st y 0 0 0 0) 1 0 0) ∧ u = (st (st y 0 0 0 0) 0 0 0 3, ch)) ∨ ((p1 ≠ 0 ∧ p1 ≠ (st y 0 0 0 0) 18 0 j) ∧ ((st y 0 0 0 0) 22 0 j = 0 ∧ ¬ (st y 0 0 0 0) 20 0 j ≤ (st y 0 0 0 0) 1 0 0) ∧ nn = 40 ∧ u = (st (st y 0 0 0 0) 0 0 0 4, ch)) ∨ ((p1 ≠ 0 ∧ p1 ≠ (st y 0 0 0 0) 18 0 j) ∧ ((st y 0 0 0 0) 22 0 j = 0 ∧ ¬ (st y 0 0 0 0) 20 0 j ≤ (st y 0 0 0 0) 1 0 0) ∧ nn < 40 ∧ u = (mdM (st y 0 0 0 0) j nn nb p1, ch) ∧ r = nI nn)))) (fun (u : MS) t => PB g n L (mw g L u.1 u.2 r0) t) (fun q => base ≤ q)) 0 0 (fun q => base ≤ q) := by
  refine Met.ofW (cc := cX4_mend) (maxL := 5) (ret := (some .int)) (by decide) rfl ?_
  intro p e s m args below meth c s₁ B hml hv
  obtain ⟨rfl, hPW⟩ := hv
  obtain ⟨hbs, hJ, hP, hK, hE⟩ := id hPW
  have hx := B.exec
  have hb := B.bytes
  have hr := B.returns
  have hts := atoms_spec (ws := wsX4_mend) B.pre
  have hown : s.vm.findClass RX4 = some m.cls := findClass_of_methodNamed B.named
  have hlocks := B.notSynchronized
  have hS : va_S (fun q : Nat => base ≤ q) s.heap s.heap [] := va_S.rf
  have hl := lv_entry ([.ref (L 106), .int p0, .int p1]) (n := 5) (Nat.le_of_ble_eq_true rfl)
  rw [lg_entry_eq]
  generalize (lg_sl ([.ref (L 106), .int p0, .int p1]) ++ List.replicate (5 - (lg_sl ([.ref (L 106), .int p0, .int p1])).length) Slot.unset).toArray = ls at hl ⊢
  have hl : lv_has ls 5 [(0, .ref (L 106)), (1, .int p0), (2, .int p1)] := hl
  have iX4 : ∀ w ∈ wsX40, w ∈ wsX4_mend := by decide +kernel
  have hnb := hM.nb6
  have hnn := hM.nn40
  have hy3 := hM.y3
  have hy4 := hM.y4
  have hT3 : (st y 0 0 0 0) 3 0 0 = nI nb := (st_nr (by omega)).trans hy3
  have hT4 : (st y 0 0 0 0) 4 0 0 = nI nn := (st_nr (by omega)).trans hy4
  refine lv_aload_n hx hb dX4_mend_0 rfl (lv_at hl 0 rfl) ?_
  refine lv_iconst (v := 0) hx hb dX4_mend_1 (by decide) ?_
  refine wx_put (D := g.1) (cl := vwCl) (ci := 6) (v := .int 0) (ty := .int) (w' := mw g L (st y 0 0 0 0) ch r0) (C := RX4) (T := TX4) (N := 22) hx hb hts iX4 tyX4 tyX4_ok nmX4 hown hK hP hJ hS (106) (by omega) mw_o rfl 0 (by decide) (hts (.fieldLink RX4 64 "FerroDeskModel" "thrown" "I") (by decide +kernel)) (fun _ h9 => h9) rfl (by decide +kernel) rfl rfl (Nat.le_of_ble_eq_true rfl) dX4_mend_2 (mw_put (r := 0) (i := 0) (j := 0) rfl (by omega) (mk_o.trans (by simp [mF, st]))) (fun H locs hP hS => ?_)
  refine lv_aload_n hx hb dX4_mend_5 rfl (lv_at hl 0 rfl) ?_
  refine lv_aload_n hx hb dX4_mend_6 rfl (lv_at hl 0 rfl) ?_
  refine lv_iload_n hx hb dX4_mend_7 rfl (lv_at hl 1 rfl) ?_
  refine wx_calli (va_runV (As := [.int p0]) (rest := [.ref (L 106)]) ⟨hx, hb, hml, hown, hts⟩ (m_noNotice l hst g base n L (by omega) (st y 0 0 0 0) ch r0 nn hnn (by repeat (first | exact hy4 | rw [st_nr (by omega)])) p0) (cwV 1 hts gX4_mend_X4_noNotice rfl rfl rfl (by decide +kernel) ⟨Nat.le_of_ble_eq_true rfl, Nat.le_of_ble_eq_true rfl⟩) (hPW.preV hP hS (ci := 6) rfl (by omega) mw_o) rfl rfl hl.1 rfl (lv_room (Nat.le_of_ble_eq_true rfl)) dX4_mend_8 ⟨Nat.le_of_ble_eq_true rfl, Nat.le_of_ble_eq_true rfl⟩) hS (fun r8 u8 H locs h8 hP hS => ?_)
  rcases h8 with ⟨rfl, h8⟩ | ⟨rfl, k8, hk8, rfl⟩
  · refine lv_iconst (v := 1) hx hb dX4_mend_11 (by decide) ?_
    refine wx_calli (va_runV (As := [.int 1, .int 1]) (rest := []) ⟨hx, hb, hml, hown, hts⟩ (m_fails l hst g base n L (by omega) (st y 0 0 0 0) ch r0 st_eq 1 1 (by decide)) (cwV 2 hts gX4_mend_X4_fails rfl rfl rfl (by decide +kernel) ⟨Nat.le_of_ble_eq_true rfl, Nat.le_of_ble_eq_true rfl⟩) (hPW.preV hP hS (ci := 6) rfl (by omega) mw_o) rfl rfl hl.1 rfl (lv_room (Nat.le_of_ble_eq_true rfl)) dX4_mend_12 ⟨Nat.le_of_ble_eq_true rfl, Nat.le_of_ble_eq_true rfl⟩) hS (fun r12 u12 H locs h12 hP hS => ?_)
    obtain ⟨rfl, -, e9⟩ : r12 = 1 ∧ True ∧ u12 = st (st y 0 0 0 0) 0 0 0 1 := by rcases h12 with ⟨-, b, -⟩ | ⟨a, -, b⟩; exact absurd b (by decide); exact ⟨a, trivial, b⟩
    have e9 := e9.symm
    subst e9
    refine lv_if_ne (tgt := 45) hx hb dX4_mend_15 (by decide) (fun c15 => ?_) (fun c15 => absurd c15 (by decide))
    refine lv_iconst (v := 0) hx hb dX4_mend_45 (by decide) ?_
    refine W.widen (k := 0) (n := 0) (Nat.le_of_ble_eq_true rfl) (Nat.le_of_ble_eq_true rfl) ?_
    exact W.iret (v := 0) hx hb hr (fun t ht hW => ⟨⟨0, (st (st y 0 0 0 0) 0 0 0 1, ch), rfl, Or.inl ⟨h8, rfl⟩, PB.mk9 hP ht⟩, hS.F ht⟩) hS.2.2 dX4_mend_46
  · refine lv_iconst (v := 1) hx hb dX4_mend_11 (by decide) ?_
    refine wx_calli (va_runV (As := [.int 0, .int 1]) (rest := []) ⟨hx, hb, hml, hown, hts⟩ (m_fails l hst g base n L (by omega) (st y 0 0 0 0) ch r0 st_eq 0 1 (by decide)) (cwV 2 hts gX4_mend_X4_fails rfl rfl rfl (by decide +kernel) ⟨Nat.le_of_ble_eq_true rfl, Nat.le_of_ble_eq_true rfl⟩) (hPW.preV hP hS (ci := 6) rfl (by omega) mw_o) rfl rfl hl.1 rfl (lv_room (Nat.le_of_ble_eq_true rfl)) dX4_mend_12 ⟨Nat.le_of_ble_eq_true rfl, Nat.le_of_ble_eq_true rfl⟩) hS (fun r12 u12 H locs h12 hP hS => ?_)
    obtain ⟨rfl, -, e9⟩ : r12 = 0 ∧ True ∧ u12 = st y 0 0 0 0 := by rcases h12 with ⟨a, -, b⟩ | ⟨-, b, -⟩; exact ⟨a, trivial, b⟩; exact absurd rfl b
    have e9 := e9.symm
    subst e9
    refine lv_if_ne (tgt := 45) hx hb dX4_mend_15 (by decide) (fun c15 => absurd c15 (by decide)) (fun c15 => ?_)
    refine lv_aload_n hx hb dX4_mend_18 rfl (lv_at hl 0 rfl) ?_
    refine lv_iload_n hx hb dX4_mend_19 rfl (lv_at hl 2 rfl) ?_
    refine lv_if_eq (tgt := 33) hx hb dX4_mend_20 (by decide) (fun c20 => ?_) (fun c20 => ?_)
    · refine lv_iconst (v := 1) hx hb dX4_mend_33 (by decide) ?_
      refine lv_goto (tgt := 38) hx hb dX4_mend_34 (by decide) ?_
      refine lv_iconst (v := 2) hx hb dX4_mend_38 (by decide) ?_
      refine wx_calli (va_runV (As := [.int 1, .int 2]) (rest := []) ⟨hx, hb, hml, hown, hts⟩ (m_fails l hst g base n L (by omega) (st y 0 0 0 0) ch r0 st_eq 1 2 (by decide)) (cwV 2 hts gX4_mend_X4_fails rfl rfl rfl (by decide +kernel) ⟨Nat.le_of_ble_eq_true rfl, Nat.le_of_ble_eq_true rfl⟩) (hPW.preV hP hS (ci := 6) rfl (by omega) mw_o) rfl rfl hl.1 rfl (lv_room (Nat.le_of_ble_eq_true rfl)) dX4_mend_39 ⟨Nat.le_of_ble_eq_true rfl, Nat.le_of_ble_eq_true rfl⟩) hS (fun r39 u39 H locs h39 hP hS => ?_)
      obtain ⟨rfl, -, e9⟩ : r39 = 1 ∧ True ∧ u39 = st (st y 0 0 0 0) 0 0 0 2 := by rcases h39 with ⟨-, b, -⟩ | ⟨a, -, b⟩; exact absurd b (by decide); exact ⟨a, trivial, b⟩
      have e9 := e9.symm
      subst e9
      refine lv_if_eq (tgt := 47) hx hb dX4_mend_42 (by decide) (fun c42 => absurd c42 (by decide)) (fun c42 => ?_)
      refine lv_iconst (v := 0) hx hb dX4_mend_45 (by decide) ?_
      refine W.widen (k := 0) (n := 0) (Nat.le_of_ble_eq_true rfl) (Nat.le_of_ble_eq_true rfl) ?_
      exact W.iret (v := 0) hx hb hr (fun t ht hW => ⟨⟨0, (st (st y 0 0 0 0) 0 0 0 2, ch), rfl, Or.inr ⟨k8, hk8, rfl, Or.inl ⟨fun h9 => h9.1 c20, rfl⟩⟩, PB.mk9 hP ht⟩, hS.F ht⟩) hS.2.2 dX4_mend_46
    · refine lv_iload_n hx hb dX4_mend_23 rfl (lv_at hl 2 rfl) ?_
      refine lv_aload_n hx hb dX4_mend_24 rfl (lv_at hl 0 rfl) ?_
      refine wx_get (D := g.1) (cl := vwCl) (ci := 6) (v := .ref (L 115)) (C := RX4) (T := TX4) (N := 22) hx hb hts iX4 hown hK hP (106) (by omega) mw_o rfl 14 (by decide) (hts (.fieldLink RX4 39 "FerroDeskModel" "picture" "[I") (by decide +kernel)) (fun _ h9 => h9) rfl dX4_mend_25 ?_
      refine lv_iload_n hx hb dX4_mend_28 rfl (lv_at hl 1 rfl) ?_
      refine wx_ialdv (D := g.1) (cl := vwCl) (N := 40) (f := fun j9 => (st y 0 0 0 0) 18 0 j9) (v := (st y 0 0 0 0) 18 0 k8) hx hb hK hP (115) 0 (by omega) (mw_a (by decide) (by decide)) rfl (i := (nI k8)) (by exact vp_in_nI (by omega) (by decide)) (by rw [nI_clamp (by omega)]) dX4_mend_29 ?_
      refine lv_icmp_ne (tgt := 37) hx hb dX4_mend_30 (by decide) (fun c30 => ?_) (fun c30 => ?_)
      · refine lv_iconst (v := 0) hx hb dX4_mend_37 (by decide) ?_
        refine lv_iconst (v := 2) hx hb dX4_mend_38 (by decide) ?_
        refine wx_calli (va_runV (As := [.int 0, .int 2]) (rest := []) ⟨hx, hb, hml, hown, hts⟩ (m_fails l hst g base n L (by omega) (st y 0 0 0 0) ch r0 st_eq 0 2 (by decide)) (cwV 2 hts gX4_mend_X4_fails rfl rfl rfl (by decide +kernel) ⟨Nat.le_of_ble_eq_true rfl, Nat.le_of_ble_eq_true rfl⟩) (hPW.preV hP hS (ci := 6) rfl (by omega) mw_o) rfl rfl hl.1 rfl (lv_room (Nat.le_of_ble_eq_true rfl)) dX4_mend_39 ⟨Nat.le_of_ble_eq_true rfl, Nat.le_of_ble_eq_true rfl⟩) hS (fun r39 u39 H locs h39 hP hS => ?_)
        obtain ⟨rfl, -, e9⟩ : r39 = 0 ∧ True ∧ u39 = st y 0 0 0 0 := by rcases h39 with ⟨a, -, b⟩ | ⟨-, b, -⟩; exact ⟨a, trivial, b⟩; exact absurd rfl b
        have e9 := e9.symm
        subst e9
        refine lv_if_eq (tgt := 47) hx hb dX4_mend_42 (by decide) (fun c42 => ?_) (fun c42 => absurd (by decide) c42)
        refine lv_aload_n hx hb dX4_mend_47 rfl (lv_at hl 0 rfl) ?_
        refine lv_aload_n hx hb dX4_mend_48 rfl (lv_at hl 0 rfl) ?_
        refine wx_get (D := g.1) (cl := vwCl) (ci := 6) (v := .ref (L 119)) (C := RX4) (T := TX4) (N := 22) hx hb hts iX4 hown hK hP (106) (by omega) mw_o rfl 18 (by decide) (hts (.fieldLink RX4 51 "FerroDeskModel" "isMended" "[Z") (by decide +kernel)) (fun _ h9 => h9) rfl dX4_mend_49 ?_
        refine lv_iload_n hx hb dX4_mend_52 rfl (lv_at hl 1 rfl) ?_
        refine wx_zaldv (D := g.1) (cl := vwCl) (N := 40) (f := fun j9 => (st y 0 0 0 0) 22 0 j9) (v := (st y 0 0 0 0) 22 0 k8) hx hb hK hP (119) 3 (by omega) (mw_a (by decide) (by decide)) rfl (i := (nI k8)) (by exact vp_in_nI (by omega) (by decide)) (by rw [nI_clamp (by omega)]) dX4_mend_53 ?_
        refine lv_if_ne (tgt := 70) hx hb dX4_mend_54 (by decide) (fun c54 => ?_) (fun c54 => ?_)
        · refine lv_iconst (v := 1) hx hb dX4_mend_70 (by decide) ?_
          refine lv_goto (tgt := 75) hx hb dX4_mend_71 (by decide) ?_
          refine lv_iconst (v := 3) hx hb dX4_mend_75 (by decide) ?_
          refine wx_calli (va_runV (As := [.int 1, .int 3]) (rest := []) ⟨hx, hb, hml, hown, hts⟩ (m_fails l hst g base n L (by omega) (st y 0 0 0 0) ch r0 st_eq 1 3 (by decide)) (cwV 2 hts gX4_mend_X4_fails rfl rfl rfl (by decide +kernel) ⟨Nat.le_of_ble_eq_true rfl, Nat.le_of_ble_eq_true rfl⟩) (hPW.preV hP hS (ci := 6) rfl (by omega) mw_o) rfl rfl hl.1 rfl (lv_room (Nat.le_of_ble_eq_true rfl)) dX4_mend_76 ⟨Nat.le_of_ble_eq_true rfl, Nat.le_of_ble_eq_true rfl⟩) hS (fun r76 u76 H locs h76 hP hS => ?_)
          obtain ⟨rfl, -, e9⟩ : r76 = 1 ∧ True ∧ u76 = st (st y 0 0 0 0) 0 0 0 3 := by rcases h76 with ⟨-, b, -⟩ | ⟨a, -, b⟩; exact absurd b (by decide); exact ⟨a, trivial, b⟩
          have e9 := e9.symm
          subst e9
          refine lv_if_ne (tgt := 104) hx hb dX4_mend_79 (by decide) (fun c79 => ?_) (fun c79 => absurd c79 (by decide))
          refine lv_iconst (v := 0) hx hb dX4_mend_104 (by decide) ?_
          refine W.widen (k := 0) (n := 0) (Nat.le_of_ble_eq_true rfl) (Nat.le_of_ble_eq_true rfl) ?_
          exact W.iret (v := 0) hx hb hr (fun t ht hW => ⟨⟨0, (st (st y 0 0 0 0) 0 0 0 3, ch), rfl, Or.inr ⟨k8, hk8, rfl, Or.inr (Or.inl ⟨⟨c20, c30⟩, fun h9 => c54 h9.1, rfl⟩)⟩, PB.mk9 hP ht⟩, hS.F ht⟩) hS.2.2 dX4_mend_105
        · refine lv_aload_n hx hb dX4_mend_57 rfl (lv_at hl 0 rfl) ?_
          refine wx_get (D := g.1) (cl := vwCl) (ci := 6) (v := .int ((st y 0 0 0 0) 1 0 0)) (C := RX4) (T := TX4) (N := 22) hx hb hts iX4 hown hK hP (106) (by omega) mw_o rfl 1 (by decide) (hts (.fieldLink RX4 101 "FerroDeskModel" "hour" "I") (by decide +kernel)) (fun _ h9 => h9) rfl dX4_mend_58 ?_
          refine lv_aload_n hx hb dX4_mend_61 rfl (lv_at hl 0 rfl) ?_
          refine wx_get (D := g.1) (cl := vwCl) (ci := 6) (v := .ref (L 117)) (C := RX4) (T := TX4) (N := 22) hx hb hts iX4 hown hK hP (106) (by omega) mw_o rfl 16 (by decide) (hts (.fieldLink RX4 45 "FerroDeskModel" "till" "[I") (by decide +kernel)) (fun _ h9 => h9) rfl dX4_mend_62 ?_
          refine lv_iload_n hx hb dX4_mend_65 rfl (lv_at hl 1 rfl) ?_
          refine wx_ialdv (D := g.1) (cl := vwCl) (N := 40) (f := fun j9 => (st y 0 0 0 0) 20 0 j9) (v := (st y 0 0 0 0) 20 0 k8) hx hb hK hP (117) 0 (by omega) (mw_a (by decide) (by decide)) rfl (i := (nI k8)) (by exact vp_in_nI (by omega) (by decide)) (by rw [nI_clamp (by omega)]) dX4_mend_66 ?_
          refine lv_icmp_lt (tgt := 74) hx hb dX4_mend_67 (by decide) (fun c67 => ?_) (fun c67 => ?_)
          · refine lv_iconst (v := 0) hx hb dX4_mend_74 (by decide) ?_
            refine lv_iconst (v := 3) hx hb dX4_mend_75 (by decide) ?_
            refine wx_calli (va_runV (As := [.int 0, .int 3]) (rest := []) ⟨hx, hb, hml, hown, hts⟩ (m_fails l hst g base n L (by omega) (st y 0 0 0 0) ch r0 st_eq 0 3 (by decide)) (cwV 2 hts gX4_mend_X4_fails rfl rfl rfl (by decide +kernel) ⟨Nat.le_of_ble_eq_true rfl, Nat.le_of_ble_eq_true rfl⟩) (hPW.preV hP hS (ci := 6) rfl (by omega) mw_o) rfl rfl hl.1 rfl (lv_room (Nat.le_of_ble_eq_true rfl)) dX4_mend_76 ⟨Nat.le_of_ble_eq_true rfl, Nat.le_of_ble_eq_true rfl⟩) hS (fun r76 u76 H locs h76 hP hS => ?_)
            obtain ⟨rfl, -, e9⟩ : r76 = 0 ∧ True ∧ u76 = st y 0 0 0 0 := by rcases h76 with ⟨a, -, b⟩ | ⟨-, b, -⟩; exact ⟨a, trivial, b⟩; exact absurd rfl b
            have e9 := e9.symm
            subst e9
            refine lv_if_ne (tgt := 104) hx hb dX4_mend_79 (by decide) (fun c79 => absurd c79 (by decide)) (fun c79 => ?_)
            refine lv_aload_n hx hb dX4_mend_82 rfl (lv_at hl 0 rfl) ?_
            refine lv_aload_n hx hb dX4_mend_83 rfl (lv_at hl 0 rfl) ?_
            refine wx_get (D := g.1) (cl := vwCl) (ci := 6) (v := .int ((st y 0 0 0 0) 4 0 0)) (C := RX4) (T := TX4) (N := 22) hx hb hts iX4 hown hK hP (106) (by omega) mw_o rfl 4 (by decide) (hts (.fieldLink RX4 74 "FerroDeskModel" "notices" "I") (by decide +kernel)) (fun _ h9 => h9) rfl dX4_mend_84 ?_
            refine lv_bipush (v := 40) hx hb dX4_mend_87 (by decide) ?_
            refine lv_icmp_ne (tgt := 96) hx hb dX4_mend_89 (by decide) (fun c89 => ?_) (fun c89 => ?_)
            · refine lv_iconst (v := 0) hx hb dX4_mend_96 (by decide) ?_
              refine lv_iconst (v := 4) hx hb dX4_mend_97 (by decide) ?_
              refine wx_calli (va_runV (As := [.int 0, .int 4]) (rest := []) ⟨hx, hb, hml, hown, hts⟩ (m_fails l hst g base n L (by omega) (st y 0 0 0 0) ch r0 st_eq 0 4 (by decide)) (cwV 2 hts gX4_mend_X4_fails rfl rfl rfl (by decide +kernel) ⟨Nat.le_of_ble_eq_true rfl, Nat.le_of_ble_eq_true rfl⟩) (hPW.preV hP hS (ci := 6) rfl (by omega) mw_o) rfl rfl hl.1 rfl (lv_room (Nat.le_of_ble_eq_true rfl)) dX4_mend_98 ⟨Nat.le_of_ble_eq_true rfl, Nat.le_of_ble_eq_true rfl⟩) hS (fun r98 u98 H locs h98 hP hS => ?_)
              obtain ⟨rfl, -, e9⟩ : r98 = 0 ∧ True ∧ u98 = st y 0 0 0 0 := by rcases h98 with ⟨a, -, b⟩ | ⟨-, b, -⟩; exact ⟨a, trivial, b⟩; exact absurd rfl b
              have e9 := e9.symm
              subst e9
              refine lv_if_eq (tgt := 106) hx hb dX4_mend_101 (by decide) (fun c101 => ?_) (fun c101 => absurd (by decide) c101)
              have hlt : nn < 40 := (by have h9 : nn ≠ 40 := fun h8 => c89 (hT4.trans (by rw [h8]; rfl)); omega)
              refine lv_aload_n hx hb dX4_mend_106 rfl (lv_at hl 0 rfl) ?_
              refine lv_bipush (v := 10) hx hb dX4_mend_107 (by decide) ?_
              refine lv_aload_n hx hb dX4_mend_109 rfl (lv_at hl 0 rfl) ?_
              refine wx_get (D := g.1) (cl := vwCl) (ci := 6) (v := .ref (L 114)) (C := RX4) (T := TX4) (N := 22) hx hb hts iX4 hown hK hP (106) (by omega) mw_o rfl 13 (by decide) (hts (.fieldLink RX4 36 "FerroDeskModel" "rank" "[I") (by decide +kernel)) (fun _ h9 => h9) rfl dX4_mend_110 ?_
              refine lv_iload_n hx hb dX4_mend_113 rfl (lv_at hl 1 rfl) ?_
              refine wx_ialdv (D := g.1) (cl := vwCl) (N := 40) (f := fun j9 => (st y 0 0 0 0) 17 0 j9) (v := (st y 0 0 0 0) 17 0 k8) hx hb hK hP (114) 0 (by omega) (mw_a (by decide) (by decide)) rfl (i := (nI k8)) (by exact vp_in_nI (by omega) (by decide)) (by rw [nI_clamp (by omega)]) dX4_mend_114 ?_
              refine lv_iconst (v := 1) hx hb dX4_mend_115 (by decide) ?_
              refine lv_iadd hx hb dX4_mend_116 ?_
              refine wx_calli (va_runS (As := [.int 10, .int (((st y 0 0 0 0) 17 0 k8) + 1)]) (rest := [.ref (L 106)]) ⟨hx, hb, hml, hown, hts⟩ (m_least l hst g base n L (mw g L (st y 0 0 0 0) ch r0) 10 (((st y 0 0 0 0) 17 0 k8) + 1)) (va_cwS 2 hts gX4_mend_X4_least rfl rfl rfl (by decide +kernel) ⟨Nat.le_of_ble_eq_true rfl, Nat.le_of_ble_eq_true rfl⟩) (hPW.preS hP hS) rfl rfl hl.1 rfl (lv_room (Nat.le_of_ble_eq_true rfl)) dX4_mend_117 ⟨Nat.le_of_ble_eq_true rfl, Nat.le_of_ble_eq_true rfl⟩) hS (fun r117 u117 H locs h117 hP hS => ?_)
              obtain rfl := h117
              refine lv_iload_n hx hb dX4_mend_120 rfl (lv_at hl 2 rfl) ?_
              refine lv_aload_n hx hb dX4_mend_121 rfl (lv_at hl 0 rfl) ?_
              refine wx_get (D := g.1) (cl := vwCl) (ci := 6) (v := .int ((st y 0 0 0 0) 1 0 0)) (C := RX4) (T := TX4) (N := 22) hx hb hts iX4 hown hK hP (106) (by omega) mw_o rfl 1 (by decide) (hts (.fieldLink RX4 101 "FerroDeskModel" "hour" "I") (by decide +kernel)) (fun _ h9 => h9) rfl dX4_mend_122 ?_
              refine lv_aload_n hx hb dX4_mend_125 rfl (lv_at hl 0 rfl) ?_
              refine wx_get (D := g.1) (cl := vwCl) (ci := 6) (v := .ref (L 116)) (C := RX4) (T := TX4) (N := 22) hx hb hts iX4 hown hK hP (106) (by omega) mw_o rfl 15 (by decide) (hts (.fieldLink RX4 42 "FerroDeskModel" "from" "[I") (by decide +kernel)) (fun _ h9 => h9) rfl dX4_mend_126 ?_
              refine lv_iload_n hx hb dX4_mend_129 rfl (lv_at hl 1 rfl) ?_
              refine wx_ialdv (D := g.1) (cl := vwCl) (N := 40) (f := fun j9 => (st y 0 0 0 0) 19 0 j9) (v := (st y 0 0 0 0) 19 0 k8) hx hb hK hP (116) 0 (by omega) (mw_a (by decide) (by decide)) rfl (i := (nI k8)) (by exact vp_in_nI (by omega) (by decide)) (by rw [nI_clamp (by omega)]) dX4_mend_130 ?_
              refine wx_calli (va_runS (As := [.int ((st y 0 0 0 0) 1 0 0), .int ((st y 0 0 0 0) 19 0 k8)]) (rest := [.int p1, .int (leI 10 (((st y 0 0 0 0) 17 0 k8) + 1)), .ref (L 106)]) ⟨hx, hb, hml, hown, hts⟩ (m_most l hst g base n L (mw g L (st y 0 0 0 0) ch r0) ((st y 0 0 0 0) 1 0 0) ((st y 0 0 0 0) 19 0 k8)) (va_cwS 2 hts gX4_mend_X4_most rfl rfl rfl (by decide +kernel) ⟨Nat.le_of_ble_eq_true rfl, Nat.le_of_ble_eq_true rfl⟩) (hPW.preS hP hS) rfl rfl hl.1 rfl (lv_room (Nat.le_of_ble_eq_true rfl)) dX4_mend_131 ⟨Nat.le_of_ble_eq_true rfl, Nat.le_of_ble_eq_true rfl⟩) hS (fun r131 u131 H locs h131 hP hS => ?_)
              obtain rfl := h131
              refine lv_aload_n hx hb dX4_mend_134 rfl (lv_at hl 0 rfl) ?_
              refine wx_get (D := g.1) (cl := vwCl) (ci := 6) (v := .ref (L 117)) (C := RX4) (T := TX4) (N := 22) hx hb hts iX4 hown hK hP (106) (by omega) mw_o rfl 16 (by decide) (hts (.fieldLink RX4 45 "FerroDeskModel" "till" "[I") (by decide +kernel)) (fun _ h9 => h9) rfl dX4_mend_135 ?_
              refine lv_iload_n hx hb dX4_mend_138 rfl (lv_at hl 1 rfl) ?_
              refine wx_ialdv (D := g.1) (cl := vwCl) (N := 40) (f := fun j9 => (st y 0 0 0 0) 20 0 j9) (v := (st y 0 0 0 0) 20 0 k8) hx hb hK hP (117) 0 (by omega) (mw_a (by decide) (by decide)) rfl (i := (nI k8)) (by exact vp_in_nI (by omega) (by decide)) (by rw [nI_clamp (by omega)]) dX4_mend_139 ?_
              refine wx_calli (va_runV (As := [.int (leI 10 (((st y 0 0 0 0) 17 0 k8) + 1)), .int p1, .int (moI ((st y 0 0 0 0) 1 0 0) ((st y 0 0 0 0) 19 0 k8)), .int ((st y 0 0 0 0) 20 0 k8)]) (rest := []) ⟨hx, hb, hml, hown, hts⟩ (m_add l hst g base n L (by omega) (st y 0 0 0 0) ch r0 nn hnn hT4 hlt (leI 10 (((st y 0 0 0 0) 17 0 k8) + 1)) p1 (moI ((st y 0 0 0 0) 1 0 0) ((st y 0 0 0 0) 19 0 k8)) ((st y 0 0 0 0) 20 0 k8)) (cwV 4 hts gX4_mend_X4_add rfl rfl rfl (by decide +kernel) ⟨Nat.le_of_ble_eq_true rfl, Nat.le_of_ble_eq_true rfl⟩) (hPW.preV hP hS (ci := 6) rfl (by omega) mw_o) rfl rfl hl.1 rfl (lv_room (Nat.le_of_ble_eq_true rfl)) dX4_mend_140 ⟨Nat.le_of_ble_eq_true rfl, Nat.le_of_ble_eq_true rfl⟩) hS (fun r140 u140 H locs h140 hP hS => ?_)
              obtain ⟨rfl, rfl⟩ := h140
              refine lv_istore_n (lv' := [(3, .int (nI nn)), (0, .ref (L 106)), (1, .int (nI k8)), (2, .int p1)]) hx hb dX4_mend_143 rfl hl (by decide) rfl (fun ls hl => ?_)
              refine lv_iconst (v := 0) hx hb dX4_mend_144 (by decide) ?_
              refine lv_istore (lv' := [(4, .int 0), (3, .int (nI nn)), (0, .ref (L 106)), (1, .int (nI k8)), (2, .int p1)]) hx hb dX4_mend_145 hl (by decide) rfl (fun ls hl => ?_)
              have key147 : ∀ (d k : Nat) (z4 : Int32) (s1 : St) (H : Heap) (locs : List Loc) (ls : Array Slot), k + d = 4 → (z4 = nI k) → (s1 = mdL (adM (st y 0 0 0 0) nn (leI 10 ((st y 0 0 0 0) 17 0 k8 + 1)) p1 (moI ((st y 0 0 0 0) 1 0 0) ((st y 0 0 0 0) 19 0 k8)) ((st y 0 0 0 0) 20 0 k8)) nn k8 nb k) → va_P g.1 vwCl (wl n L (mw g L s1 ch r0)) H → va_S (fun q : Nat => base ≤ q) s.heap H locs → lv_has ls 5 [(4, .int z4), (0, .ref (L 106)), (1, .int (nI k8)), (2, .int p1), (3, .int (nI nn))] → W p l e (headSpec wsX4_mend ({ frames := 2, cells := 0, slots := 0, locals := 120 })).room s m ([.ref (L 106), .int (nI k8), .int p1] : List Value).toArray below meth c H locs (0 + 0 + 0 + 0 + 0 + 0 + 0 + 0 + 0) (0 + 0 + 0 + 0 + 0 + 0 + 0 + 0 + 0) (MQ below (va_Qi (fun (r : Int32) (u : MS) => (((nI k8).toInt < 0 ∨ nn ≤ (nI k8).toInt) ∧ u = (st (st y 0 0 0 0) 0 0 0 1, ch)) ∨ (∃ j, j < nn ∧ (nI k8) = nI j ∧ ((¬ (p1 ≠ 0 ∧ p1 ≠ (st y 0 0 0 0) 18 0 j) ∧ u = (st (st y 0 0 0 0) 0 0 0 2, ch)) ∨ ((p1 ≠ 0 ∧ p1 ≠ (st y 0 0 0 0) 18 0 j) ∧ ¬ ((st y 0 0 0 0) 22 0 j = 0 ∧ ¬ (st y 0 0 0 0) 20 0 j ≤ (st y 0 0 0 0) 1 0 0) ∧ u = (st (st y 0 0 0 0) 0 0 0 3, ch)) ∨ ((p1 ≠ 0 ∧ p1 ≠ (st y 0 0 0 0) 18 0 j) ∧ ((st y 0 0 0 0) 22 0 j = 0 ∧ ¬ (st y 0 0 0 0) 20 0 j ≤ (st y 0 0 0 0) 1 0 0) ∧ nn = 40 ∧ u = (st (st y 0 0 0 0) 0 0 0 4, ch)) ∨ ((p1 ≠ 0 ∧ p1 ≠ (st y 0 0 0 0) 18 0 j) ∧ ((st y 0 0 0 0) 22 0 j = 0 ∧ ¬ (st y 0 0 0 0) 20 0 j ≤ (st y 0 0 0 0) 1 0 0) ∧ nn < 40 ∧ u = (mdM (st y 0 0 0 0) j nn nb p1, ch) ∧ r = nI nn)))) (fun (u : MS) t => PB g n L (mw g L u.1 u.2 r0) t) (fun q => base ≤ q)) ([.ref (L 106), .int (nI k8), .int p1] : List Value).toArray s 0 0 (fun q => base ≤ q)) (F0 m 147 ls []) := by
                intro d
                induction d with
                | zero =>
                  intro k z4 s1 H locs ls hkd ek4 es1 hP hS hl
                  obtain rfl : k = 4 := by omega
                  subst ek4 es1
                  refine lv_iload hx hb dX4_mend_147 (lv_at hl 0 rfl) ?_
                  refine lv_iconst (v := 4) hx hb dX4_mend_149 (by decide) ?_
                  refine lv_icmp_ge (tgt := 199) hx hb dX4_mend_150 (by decide) (fun c150 => ?_) (fun c150 => absurd (by decide) c150)
                  refine lv_aload_n hx hb dX4_mend_199 rfl (lv_at hl 1 rfl) ?_
                  refine wx_get (D := g.1) (cl := vwCl) (ci := 6) (v := .ref (L 119)) (C := RX4) (T := TX4) (N := 22) hx hb hts iX4 hown hK hP (106) (by omega) mw_o rfl 18 (by decide) (hts (.fieldLink RX4 51 "FerroDeskModel" "isMended" "[Z") (by decide +kernel)) (fun _ h9 => h9) rfl dX4_mend_200 ?_
                  refine lv_iload_n hx hb dX4_mend_203 rfl (lv_at hl 2 rfl) ?_
                  refine lv_iconst (v := 1) hx hb dX4_mend_204 (by decide) ?_
                  refine wx_zast (D := g.1) (cl := vwCl) (N := 40) (f := fun j9 => (mdL (adM (st y 0 0 0 0) nn (leI 10 ((st y 0 0 0 0) 17 0 k8 + 1)) p1 (moI ((st y 0 0 0 0) 1 0 0) ((st y 0 0 0 0) 19 0 k8)) ((st y 0 0 0 0) 20 0 k8)) nn k8 nb 4) 22 0 j9) (w' := mw g L (st (mdL (adM (st y 0 0 0 0) nn (leI 10 ((st y 0 0 0 0) 17 0 k8 + 1)) p1 (moI ((st y 0 0 0 0) 1 0 0) ((st y 0 0 0 0) 19 0 k8)) ((st y 0 0 0 0) 20 0 k8)) nn k8 nb 4) 22 0 k8 1) ch r0) hx hb hK hP hJ hS (119) 3 (by omega) (mw_a (by decide) (by decide)) rfl (i := (nI k8)) (by exact vp_in_nI (by omega) (by decide)) (by decide) dX4_mend_205 (by rw [nI_clamp (by omega)]; exact mw_st (r := 22) rfl (by decide) (by decide) rfl rfl rfl) (fun H locs hP hS => ?_)
                  refine lv_aload_n hx hb dX4_mend_206 rfl (lv_at hl 1 rfl) ?_
                  refine wx_get (D := g.1) (cl := vwCl) (ci := 6) (v := .ref (L 117)) (C := RX4) (T := TX4) (N := 22) hx hb hts iX4 hown hK hP (106) (by omega) mw_o rfl 16 (by decide) (hts (.fieldLink RX4 45 "FerroDeskModel" "till" "[I") (by decide +kernel)) (fun _ h9 => h9) rfl dX4_mend_207 ?_
                  refine lv_iload_n hx hb dX4_mend_210 rfl (lv_at hl 2 rfl) ?_
                  refine lv_aload_n hx hb dX4_mend_211 rfl (lv_at hl 1 rfl) ?_
                  refine wx_get (D := g.1) (cl := vwCl) (ci := 6) (v := .int ((st (mdL (adM (st y 0 0 0 0) nn (leI 10 ((st y 0 0 0 0) 17 0 k8 + 1)) p1 (moI ((st y 0 0 0 0) 1 0 0) ((st y 0 0 0 0) 19 0 k8)) ((st y 0 0 0 0) 20 0 k8)) nn k8 nb 4) 22 0 k8 1) 1 0 0)) (C := RX4) (T := TX4) (N := 22) hx hb hts iX4 hown hK hP (106) (by omega) mw_o rfl 1 (by decide) (hts (.fieldLink RX4 101 "FerroDeskModel" "hour" "I") (by decide +kernel)) (fun _ h9 => h9) rfl dX4_mend_212 ?_
                  refine lv_iconst (v := 1) hx hb dX4_mend_215 (by decide) ?_
                  refine lv_iadd hx hb dX4_mend_216 ?_
                  refine wx_iast (D := g.1) (cl := vwCl) (N := 40) (f := fun j9 => (st (mdL (adM (st y 0 0 0 0) nn (leI 10 ((st y 0 0 0 0) 17 0 k8 + 1)) p1 (moI ((st y 0 0 0 0) 1 0 0) ((st y 0 0 0 0) 19 0 k8)) ((st y 0 0 0 0) 20 0 k8)) nn k8 nb 4) 22 0 k8 1) 20 0 j9) (w' := mw g L (st (st (mdL (adM (st y 0 0 0 0) nn (leI 10 ((st y 0 0 0 0) 17 0 k8 + 1)) p1 (moI ((st y 0 0 0 0) 1 0 0) ((st y 0 0 0 0) 19 0 k8)) ((st y 0 0 0 0) 20 0 k8)) nn k8 nb 4) 22 0 k8 1) 20 0 k8 (((st (mdL (adM (st y 0 0 0 0) nn (leI 10 ((st y 0 0 0 0) 17 0 k8 + 1)) p1 (moI ((st y 0 0 0 0) 1 0 0) ((st y 0 0 0 0) 19 0 k8)) ((st y 0 0 0 0) 20 0 k8)) nn k8 nb 4) 22 0 k8 1) 1 0 0) + 1)) ch r0) hx hb hK hP hJ hS (117) 0 (by omega) (mw_a (by decide) (by decide)) rfl (i := (nI k8)) (by exact vp_in_nI (by omega) (by decide)) dX4_mend_217 (by rw [nI_clamp (by omega)]; exact mw_st (r := 20) rfl (by decide) (by decide) rfl rfl rfl) (fun H locs hP hS => ?_)
                  refine lv_iload_n hx hb dX4_mend_218 rfl (lv_at hl 4 rfl) ?_
                  refine W.widen (k := 0) (n := 0) (Nat.le_of_ble_eq_true rfl) (Nat.le_of_ble_eq_true rfl) ?_
                  exact W.iret (v := nI nn) hx hb hr (fun t ht hW => ⟨⟨nI nn, (st (st (mdL (adM (st y 0 0 0 0) nn (leI 10 ((st y 0 0 0 0) 17 0 k8 + 1)) p1 (moI ((st y 0 0 0 0) 1 0 0) ((st y 0 0 0 0) 19 0 k8)) ((st y 0 0 0 0) 20 0 k8)) nn k8 nb 4) 22 0 k8 1) 20 0 k8 (((st (mdL (adM (st y 0 0 0 0) nn (leI 10 ((st y 0 0 0 0) 17 0 k8 + 1)) p1 (moI ((st y 0 0 0 0) 1 0 0) ((st y 0 0 0 0) 19 0 k8)) ((st y 0 0 0 0) 20 0 k8)) nn k8 nb 4) 22 0 k8 1) 1 0 0) + 1), ch), rfl, Or.inr ⟨k8, hk8, rfl, Or.inr (Or.inr (Or.inr ⟨⟨c20, c30⟩, ⟨c54, Int32.not_le.mpr c67⟩, hlt, rfl, rfl⟩))⟩, PB.mk9 hP ht⟩, hS.F ht⟩) hS.2.2 dX4_mend_219
                | succ d ih =>
                  intro k z4 s1 H locs ls hkd ek4 es1 hP hS hl
                  have hkN : k < 4 := by omega
                  subst ek4 es1
                  refine lv_iload hx hb dX4_mend_147 (lv_at hl 0 rfl) ?_
                  refine lv_iconst (v := 4) hx hb dX4_mend_149 (by decide) ?_
                  refine lv_icmp_ge (tgt := 199) hx hb dX4_mend_150 (by decide) (fun c150 => absurd c150 (nI_ge (b := 4) hkN (by decide))) (fun c150 => ?_)
                  refine lv_aload_n hx hb dX4_mend_153 rfl (lv_at hl 1 rfl) ?_
                  refine wx_get (D := g.1) (cl := vwCl) (ci := 6) (v := .ref (L 120)) (C := RX4) (T := TX4) (N := 22) hx hb hts iX4 hown hK hP (106) (by omega) mw_o rfl 19 (by decide) (hts (.fieldLink RX4 54 "FerroDeskModel" "isQueued" "[Z") (by decide +kernel)) (fun _ h9 => h9) rfl dX4_mend_154 ?_
                  refine lv_iconst (v := 4) hx hb dX4_mend_157 (by decide) ?_
                  refine lv_iload_n hx hb dX4_mend_158 rfl (lv_at hl 4 rfl) ?_
                  refine lv_imul hx hb dX4_mend_159 ?_
                  refine lv_iload hx hb dX4_mend_160 (lv_at hl 0 rfl) ?_
                  refine lv_iadd hx hb dX4_mend_162 ?_
                  refine lv_aload_n hx hb dX4_mend_163 rfl (lv_at hl 1 rfl) ?_
                  refine wx_get (D := g.1) (cl := vwCl) (ci := 6) (v := .ref (L 120)) (C := RX4) (T := TX4) (N := 22) hx hb hts iX4 hown hK hP (106) (by omega) mw_o rfl 19 (by decide) (hts (.fieldLink RX4 54 "FerroDeskModel" "isQueued" "[Z") (by decide +kernel)) (fun _ h9 => h9) rfl dX4_mend_164 ?_
                  refine lv_iconst (v := 4) hx hb dX4_mend_167 (by decide) ?_
                  refine lv_iload_n hx hb dX4_mend_168 rfl (lv_at hl 2 rfl) ?_
                  refine lv_imul hx hb dX4_mend_169 ?_
                  refine lv_iload hx hb dX4_mend_170 (lv_at hl 0 rfl) ?_
                  refine lv_iadd hx hb dX4_mend_172 ?_
                  refine wx_zaldv (D := g.1) (cl := vwCl) (N := 160) (f := fun j9 => (mdL (adM (st y 0 0 0 0) nn (leI 10 ((st y 0 0 0 0) 17 0 k8 + 1)) p1 (moI ((st y 0 0 0 0) 1 0 0) ((st y 0 0 0 0) 19 0 k8)) ((st y 0 0 0 0) 20 0 k8)) nn k8 nb k) 23 0 j9) (v := (mdL (adM (st y 0 0 0 0) nn (leI 10 ((st y 0 0 0 0) 17 0 k8 + 1)) p1 (moI ((st y 0 0 0 0) 1 0 0) ((st y 0 0 0 0) 19 0 k8)) ((st y 0 0 0 0) 20 0 k8)) nn k8 nb k) 23 0 (4 * k8 + k)) hx hb hK hP (120) 3 (by omega) (mw_a (by decide) (by decide)) rfl (i := (4 * (nI k8)) + (nI k)) (by simp only [m4, nI_add]; exact vp_in_nI (by omega) (by decide)) (by simp only [m4, nI_add]; rw [nI_clamp (by omega)]) dX4_mend_173 ?_
                  refine lv_if_eq (tgt := 191) hx hb dX4_mend_174 (by decide) (fun c174 => ?_) (fun c174 => ?_)
                  · refine lv_iconst (v := 0) hx hb dX4_mend_191 (by decide) ?_
                    refine wx_zast (D := g.1) (cl := vwCl) (N := 160) (f := fun j9 => (mdL (adM (st y 0 0 0 0) nn (leI 10 ((st y 0 0 0 0) 17 0 k8 + 1)) p1 (moI ((st y 0 0 0 0) 1 0 0) ((st y 0 0 0 0) 19 0 k8)) ((st y 0 0 0 0) 20 0 k8)) nn k8 nb k) 23 0 j9) (w' := mw g L (st (mdL (adM (st y 0 0 0 0) nn (leI 10 ((st y 0 0 0 0) 17 0 k8 + 1)) p1 (moI ((st y 0 0 0 0) 1 0 0) ((st y 0 0 0 0) 19 0 k8)) ((st y 0 0 0 0) 20 0 k8)) nn k8 nb k) 23 0 (4 * nn + k) 0) ch r0) hx hb hK hP hJ hS (120) 3 (by omega) (mw_a (by decide) (by decide)) rfl (i := (4 * (nI nn)) + (nI k)) (by simp only [m4, nI_add]; exact vp_in_nI (by omega) (by decide)) (by decide) dX4_mend_192 (by simp only [m4, nI_add]; rw [nI_clamp (by omega)]; exact mw_st (r := 23) rfl (by decide) (by decide) rfl rfl rfl) (fun H locs hP hS => ?_)
                    obtain ⟨z193, ez193⟩ : ∃ y : Int32, y = nI k + 1 := ⟨_, rfl⟩
                    refine lv_iinc (v := z193) (lv' := [(4, .int z193), (0, .ref (L 106)), (1, .int (nI k8)), (2, .int p1), (3, .int (nI nn))]) hx hb dX4_mend_193 hl (k := 0) rfl (by rw [ez193]; rfl) (by decide) rfl (fun ls hl => ?_)
                    refine lv_goto (tgt := 147) hx hb dX4_mend_196 (by decide) ?_
                    exact ih (k + 1) _ (st (mdL (adM (st y 0 0 0 0) nn (leI 10 ((st y 0 0 0 0) 17 0 k8 + 1)) p1 (moI ((st y 0 0 0 0) 1 0 0) ((st y 0 0 0 0) 19 0 k8)) ((st y 0 0 0 0) 20 0 k8)) nn k8 nb k) 23 0 (4 * nn + k) 0) _ _ _ (by omega) (by rw [ez193, nI_1]) (by show _ = st (mdL (adM (st y 0 0 0 0) nn (leI 10 ((st y 0 0 0 0) 17 0 k8 + 1)) p1 (moI ((st y 0 0 0 0) 1 0 0) ((st y 0 0 0 0) 19 0 k8)) ((st y 0 0 0 0) 20 0 k8)) nn k8 nb k) 23 0 (4 * nn + k) (bz _); rw [bz_f (fun h9 => h9.1 c174)]) hP hS (lv_sub hl [0, 1, 2, 3, 4] rfl)
                  · refine lv_aload_n hx hb dX4_mend_177 rfl (lv_at hl 1 rfl) ?_
                    refine lv_iload_n hx hb dX4_mend_178 rfl (lv_at hl 2 rfl) ?_
                    refine lv_iload hx hb dX4_mend_179 (lv_at hl 0 rfl) ?_
                    refine wx_calli (va_runV (As := [.int (nI k8), .int (nI k)]) (rest := [.int ((4 * (nI nn)) + (nI k)), .ref (L 120)]) ⟨hx, hb, hml, hown, hts⟩ (m_readersOf l hst g base n L (by omega) (mdL (adM (st y 0 0 0 0) nn (leI 10 ((st y 0 0 0 0) 17 0 k8 + 1)) p1 (moI ((st y 0 0 0 0) 1 0 0) ((st y 0 0 0 0) 19 0 k8)) ((st y 0 0 0 0) 20 0 k8)) nn k8 nb k) ch r0 nb hnb ((mdL_r (by omega)).trans ((ad_r (by omega)).trans hT3)) k8 (by omega) (nI k)) (cwV 2 hts gX4_mend_X4_readersOf rfl rfl rfl (by decide +kernel) ⟨Nat.le_of_ble_eq_true rfl, Nat.le_of_ble_eq_true rfl⟩) (hPW.preV hP hS (ci := 6) rfl (by omega) mw_o) rfl rfl hl.1 rfl (lv_room (Nat.le_of_ble_eq_true rfl)) dX4_mend_181 ⟨Nat.le_of_ble_eq_true rfl, Nat.le_of_ble_eq_true rfl⟩) hS (fun r181 u181 H locs h181 hP hS => ?_)
                    obtain rfl := h181
                    refine lv_if_le (tgt := 191) hx hb dX4_mend_184 (by decide) (fun c184 => ?_) (fun c184 => ?_)
                    · refine lv_iconst (v := 0) hx hb dX4_mend_191 (by decide) ?_
                      refine wx_zast (D := g.1) (cl := vwCl) (N := 160) (f := fun j9 => (mdL (adM (st y 0 0 0 0) nn (leI 10 ((st y 0 0 0 0) 17 0 k8 + 1)) p1 (moI ((st y 0 0 0 0) 1 0 0) ((st y 0 0 0 0) 19 0 k8)) ((st y 0 0 0 0) 20 0 k8)) nn k8 nb k) 23 0 j9) (w' := mw g L (st (mdL (adM (st y 0 0 0 0) nn (leI 10 ((st y 0 0 0 0) 17 0 k8 + 1)) p1 (moI ((st y 0 0 0 0) 1 0 0) ((st y 0 0 0 0) 19 0 k8)) ((st y 0 0 0 0) 20 0 k8)) nn k8 nb k) 23 0 (4 * nn + k) 0) ch r0) hx hb hK hP hJ hS (120) 3 (by omega) (mw_a (by decide) (by decide)) rfl (i := (4 * (nI nn)) + (nI k)) (by simp only [m4, nI_add]; exact vp_in_nI (by omega) (by decide)) (by decide) dX4_mend_192 (by simp only [m4, nI_add]; rw [nI_clamp (by omega)]; exact mw_st (r := 23) rfl (by decide) (by decide) rfl rfl rfl) (fun H locs hP hS => ?_)
                      obtain ⟨z193, ez193⟩ : ∃ y : Int32, y = nI k + 1 := ⟨_, rfl⟩
                      refine lv_iinc (v := z193) (lv' := [(4, .int z193), (0, .ref (L 106)), (1, .int (nI k8)), (2, .int p1), (3, .int (nI nn))]) hx hb dX4_mend_193 hl (k := 0) rfl (by rw [ez193]; rfl) (by decide) rfl (fun ls hl => ?_)
                      refine lv_goto (tgt := 147) hx hb dX4_mend_196 (by decide) ?_
                      exact ih (k + 1) _ (st (mdL (adM (st y 0 0 0 0) nn (leI 10 ((st y 0 0 0 0) 17 0 k8 + 1)) p1 (moI ((st y 0 0 0 0) 1 0 0) ((st y 0 0 0 0) 19 0 k8)) ((st y 0 0 0 0) 20 0 k8)) nn k8 nb k) 23 0 (4 * nn + k) 0) _ _ _ (by omega) (by rw [ez193, nI_1]) (by show _ = st (mdL (adM (st y 0 0 0 0) nn (leI 10 ((st y 0 0 0 0) 17 0 k8 + 1)) p1 (moI ((st y 0 0 0 0) 1 0 0) ((st y 0 0 0 0) 19 0 k8)) ((st y 0 0 0 0) 20 0 k8)) nn k8 nb k) 23 0 (4 * nn + k) (bz _); rw [bz_f (fun h9 => h9.2 c184)]) hP hS (lv_sub hl [0, 1, 2, 3, 4] rfl)
                    · refine lv_iconst (v := 1) hx hb dX4_mend_187 (by decide) ?_
                      refine lv_goto (tgt := 192) hx hb dX4_mend_188 (by decide) ?_
                      refine wx_zast (D := g.1) (cl := vwCl) (N := 160) (f := fun j9 => (mdL (adM (st y 0 0 0 0) nn (leI 10 ((st y 0 0 0 0) 17 0 k8 + 1)) p1 (moI ((st y 0 0 0 0) 1 0 0) ((st y 0 0 0 0) 19 0 k8)) ((st y 0 0 0 0) 20 0 k8)) nn k8 nb k) 23 0 j9) (w' := mw g L (st (mdL (adM (st y 0 0 0 0) nn (leI 10 ((st y 0 0 0 0) 17 0 k8 + 1)) p1 (moI ((st y 0 0 0 0) 1 0 0) ((st y 0 0 0 0) 19 0 k8)) ((st y 0 0 0 0) 20 0 k8)) nn k8 nb k) 23 0 (4 * nn + k) 1) ch r0) hx hb hK hP hJ hS (120) 3 (by omega) (mw_a (by decide) (by decide)) rfl (i := (4 * (nI nn)) + (nI k)) (by simp only [m4, nI_add]; exact vp_in_nI (by omega) (by decide)) (by decide) dX4_mend_192 (by simp only [m4, nI_add]; rw [nI_clamp (by omega)]; exact mw_st (r := 23) rfl (by decide) (by decide) rfl rfl rfl) (fun H locs hP hS => ?_)
                      obtain ⟨z193, ez193⟩ : ∃ y : Int32, y = nI k + 1 := ⟨_, rfl⟩
                      refine lv_iinc (v := z193) (lv' := [(4, .int z193), (0, .ref (L 106)), (1, .int (nI k8)), (2, .int p1), (3, .int (nI nn))]) hx hb dX4_mend_193 hl (k := 0) rfl (by rw [ez193]; rfl) (by decide) rfl (fun ls hl => ?_)
                      refine lv_goto (tgt := 147) hx hb dX4_mend_196 (by decide) ?_
                      exact ih (k + 1) _ (st (mdL (adM (st y 0 0 0 0) nn (leI 10 ((st y 0 0 0 0) 17 0 k8 + 1)) p1 (moI ((st y 0 0 0 0) 1 0 0) ((st y 0 0 0 0) 19 0 k8)) ((st y 0 0 0 0) 20 0 k8)) nn k8 nb k) 23 0 (4 * nn + k) 1) _ _ _ (by omega) (by rw [ez193, nI_1]) (by show _ = st (mdL (adM (st y 0 0 0 0) nn (leI 10 ((st y 0 0 0 0) 17 0 k8 + 1)) p1 (moI ((st y 0 0 0 0) 1 0 0) ((st y 0 0 0 0) 19 0 k8)) ((st y 0 0 0 0) 20 0 k8)) nn k8 nb k) 23 0 (4 * nn + k) (bz _); rw [bz_t ⟨c174, c184⟩]) hP hS (lv_sub hl [0, 1, 2, 3, 4] rfl)
              exact key147 4 0 _ (adM (st y 0 0 0 0) nn (leI 10 (((st y 0 0 0 0) 17 0 k8) + 1)) p1 (moI ((st y 0 0 0 0) 1 0 0) ((st y 0 0 0 0) 19 0 k8)) ((st y 0 0 0 0) 20 0 k8)) _ _ _ (by omega) rfl rfl hP hS (lv_sub hl [0, 2, 3, 4, 1] rfl)
            · refine lv_iconst (v := 1) hx hb dX4_mend_92 (by decide) ?_
              refine lv_goto (tgt := 97) hx hb dX4_mend_93 (by decide) ?_
              refine lv_iconst (v := 4) hx hb dX4_mend_97 (by decide) ?_
              refine wx_calli (va_runV (As := [.int 1, .int 4]) (rest := []) ⟨hx, hb, hml, hown, hts⟩ (m_fails l hst g base n L (by omega) (st y 0 0 0 0) ch r0 st_eq 1 4 (by decide)) (cwV 2 hts gX4_mend_X4_fails rfl rfl rfl (by decide +kernel) ⟨Nat.le_of_ble_eq_true rfl, Nat.le_of_ble_eq_true rfl⟩) (hPW.preV hP hS (ci := 6) rfl (by omega) mw_o) rfl rfl hl.1 rfl (lv_room (Nat.le_of_ble_eq_true rfl)) dX4_mend_98 ⟨Nat.le_of_ble_eq_true rfl, Nat.le_of_ble_eq_true rfl⟩) hS (fun r98 u98 H locs h98 hP hS => ?_)
              obtain ⟨rfl, -, e9⟩ : r98 = 1 ∧ True ∧ u98 = st (st y 0 0 0 0) 0 0 0 4 := by rcases h98 with ⟨-, b, -⟩ | ⟨a, -, b⟩; exact absurd b (by decide); exact ⟨a, trivial, b⟩
              have e9 := e9.symm
              subst e9
              refine lv_if_eq (tgt := 106) hx hb dX4_mend_101 (by decide) (fun c101 => absurd c101 (by decide)) (fun c101 => ?_)
              refine lv_iconst (v := 0) hx hb dX4_mend_104 (by decide) ?_
              refine W.widen (k := 0) (n := 0) (Nat.le_of_ble_eq_true rfl) (Nat.le_of_ble_eq_true rfl) ?_
              exact W.iret (v := 0) hx hb hr (fun t ht hW => ⟨⟨0, (st (st y 0 0 0 0) 0 0 0 4, ch), rfl, Or.inr ⟨k8, hk8, rfl, Or.inr (Or.inr (Or.inl ⟨⟨c20, c30⟩, ⟨c54, Int32.not_le.mpr c67⟩, ((nI_eq (b := 40) (by omega) (by omega)).mp (hT4.symm.trans c89)), rfl⟩))⟩, PB.mk9 hP ht⟩, hS.F ht⟩) hS.2.2 dX4_mend_105
          · refine lv_iconst (v := 1) hx hb dX4_mend_70 (by decide) ?_
            refine lv_goto (tgt := 75) hx hb dX4_mend_71 (by decide) ?_
            refine lv_iconst (v := 3) hx hb dX4_mend_75 (by decide) ?_
            refine wx_calli (va_runV (As := [.int 1, .int 3]) (rest := []) ⟨hx, hb, hml, hown, hts⟩ (m_fails l hst g base n L (by omega) (st y 0 0 0 0) ch r0 st_eq 1 3 (by decide)) (cwV 2 hts gX4_mend_X4_fails rfl rfl rfl (by decide +kernel) ⟨Nat.le_of_ble_eq_true rfl, Nat.le_of_ble_eq_true rfl⟩) (hPW.preV hP hS (ci := 6) rfl (by omega) mw_o) rfl rfl hl.1 rfl (lv_room (Nat.le_of_ble_eq_true rfl)) dX4_mend_76 ⟨Nat.le_of_ble_eq_true rfl, Nat.le_of_ble_eq_true rfl⟩) hS (fun r76 u76 H locs h76 hP hS => ?_)
            obtain ⟨rfl, -, e9⟩ : r76 = 1 ∧ True ∧ u76 = st (st y 0 0 0 0) 0 0 0 3 := by rcases h76 with ⟨-, b, -⟩ | ⟨a, -, b⟩; exact absurd b (by decide); exact ⟨a, trivial, b⟩
            have e9 := e9.symm
            subst e9
            refine lv_if_ne (tgt := 104) hx hb dX4_mend_79 (by decide) (fun c79 => ?_) (fun c79 => absurd c79 (by decide))
            refine lv_iconst (v := 0) hx hb dX4_mend_104 (by decide) ?_
            refine W.widen (k := 0) (n := 0) (Nat.le_of_ble_eq_true rfl) (Nat.le_of_ble_eq_true rfl) ?_
            exact W.iret (v := 0) hx hb hr (fun t ht hW => ⟨⟨0, (st (st y 0 0 0 0) 0 0 0 3, ch), rfl, Or.inr ⟨k8, hk8, rfl, Or.inr (Or.inl ⟨⟨c20, c30⟩, fun h9 => h9.2 (Int32.not_lt.mp c67), rfl⟩)⟩, PB.mk9 hP ht⟩, hS.F ht⟩) hS.2.2 dX4_mend_105
      · refine lv_iconst (v := 1) hx hb dX4_mend_33 (by decide) ?_
        refine lv_goto (tgt := 38) hx hb dX4_mend_34 (by decide) ?_
        refine lv_iconst (v := 2) hx hb dX4_mend_38 (by decide) ?_
        refine wx_calli (va_runV (As := [.int 1, .int 2]) (rest := []) ⟨hx, hb, hml, hown, hts⟩ (m_fails l hst g base n L (by omega) (st y 0 0 0 0) ch r0 st_eq 1 2 (by decide)) (cwV 2 hts gX4_mend_X4_fails rfl rfl rfl (by decide +kernel) ⟨Nat.le_of_ble_eq_true rfl, Nat.le_of_ble_eq_true rfl⟩) (hPW.preV hP hS (ci := 6) rfl (by omega) mw_o) rfl rfl hl.1 rfl (lv_room (Nat.le_of_ble_eq_true rfl)) dX4_mend_39 ⟨Nat.le_of_ble_eq_true rfl, Nat.le_of_ble_eq_true rfl⟩) hS (fun r39 u39 H locs h39 hP hS => ?_)
        obtain ⟨rfl, -, e9⟩ : r39 = 1 ∧ True ∧ u39 = st (st y 0 0 0 0) 0 0 0 2 := by rcases h39 with ⟨-, b, -⟩ | ⟨a, -, b⟩; exact absurd b (by decide); exact ⟨a, trivial, b⟩
        have e9 := e9.symm
        subst e9
        refine lv_if_eq (tgt := 47) hx hb dX4_mend_42 (by decide) (fun c42 => absurd c42 (by decide)) (fun c42 => ?_)
        refine lv_iconst (v := 0) hx hb dX4_mend_45 (by decide) ?_
        refine W.widen (k := 0) (n := 0) (Nat.le_of_ble_eq_true rfl) (Nat.le_of_ble_eq_true rfl) ?_
        exact W.iret (v := 0) hx hb hr (fun t ht hW => ⟨⟨0, (st (st y 0 0 0 0) 0 0 0 2, ch), rfl, Or.inr ⟨k8, hk8, rfl, Or.inl ⟨fun h9 => h9.2 c30, rfl⟩⟩, PB.mk9 hP ht⟩, hS.F ht⟩) hS.2.2 dX4_mend_46

set_option maxHeartbeats 4000000 in
set_option maxRecDepth 100000 in
theorem m_deny (l : Launch) (hst : l.stackTraces = false) (g : gE) (base n : Nat) (L : Nat → Nat) (hn : 123 ≤ n) (y : St) (ch : Int64) (r0 : Nat → va_E) (nb nn : Nat) (hM : MI y nb nn) (p0 p1 p2 : Int32) : Met l yX4_deny wsX4_deny ({ frames := 2, cells := 0, slots := 0, locals := 120 }) (va_Pc [.ref (L 106), .int p0, .int p1, .int p2] (PW SS g base n L (mw g L y ch r0))) (va_Qi (fun (r : Int32) (u : MS) => (¬ ((0 ≤ p1.toInt ∧ p1.toInt ≤ 3) ∧ (p0.toInt ≠ 0 ∧ p0.toInt ≠ -1) ∧ ((st y 0 0 0 0) 1 0 0 + 1).toInt ≤ p2.toInt ∧ p2.toInt ≤ 2000) ∧ u = (st (st y 0 0 0 0) 0 0 0 1, ch)) ∨ (((0 ≤ p1.toInt ∧ p1.toInt ≤ 3) ∧ (p0.toInt ≠ 0 ∧ p0.toInt ≠ -1) ∧ ((st y 0 0 0 0) 1 0 0 + 1).toInt ≤ p2.toInt ∧ p2.toInt ≤ 2000) ∧ nn = 40 ∧ u = (st (st y 0 0 0 0) 0 0 0 2, ch)) ∨ (((0 ≤ p1.toInt ∧ p1.toInt ≤ 3) ∧ (p0.toInt ≠ 0 ∧ p0.toInt ≠ -1) ∧ ((st y 0 0 0 0) 1 0 0 + 1).toInt ≤ p2.toInt ∧ p2.toInt ≤ 2000) ∧ nn < 40 ∧ ∃ d, d < 4 ∧ p1 = nI d ∧ u = (qsM (adM (st y 0 0 0 0) nn 10 (p0 ^^^ (-1)) ((st y 0 0 0 0) 1 0 0) p2) nn d, ch) ∧ r = nI nn)) (fun (u : MS) t => PB g n L (mw g L u.1 u.2 r0) t) (fun q => base ≤ q)) 0 0 (fun q => base ≤ q) := by
  refine Met.ofW (cc := cX4_deny) (maxL := 6) (ret := (some .int)) (by decide) rfl ?_
  intro p e s m args below meth c s₁ B hml hv
  obtain ⟨rfl, hPW⟩ := hv
  obtain ⟨hbs, hJ, hP, hK, hE⟩ := id hPW
  have hx := B.exec
  have hb := B.bytes
  have hr := B.returns
  have hts := atoms_spec (ws := wsX4_deny) B.pre
  have hown : s.vm.findClass RX4 = some m.cls := findClass_of_methodNamed B.named
  have hlocks := B.notSynchronized
  have hS : va_S (fun q : Nat => base ≤ q) s.heap s.heap [] := va_S.rf
  have hl := lv_entry ([.ref (L 106), .int p0, .int p1, .int p2]) (n := 6) (Nat.le_of_ble_eq_true rfl)
  rw [lg_entry_eq]
  generalize (lg_sl ([.ref (L 106), .int p0, .int p1, .int p2]) ++ List.replicate (6 - (lg_sl ([.ref (L 106), .int p0, .int p1, .int p2])).length) Slot.unset).toArray = ls at hl ⊢
  have hl : lv_has ls 6 [(0, .ref (L 106)), (1, .int p0), (2, .int p1), (3, .int p2)] := hl
  have iX4 : ∀ w ∈ wsX40, w ∈ wsX4_deny := by decide +kernel
  have hnb := hM.nb6
  have hnn := hM.nn40
  have hy3 := hM.y3
  have hy4 := hM.y4
  have hT3 : (st y 0 0 0 0) 3 0 0 = nI nb := (st_nr (by omega)).trans hy3
  have hT4 : (st y 0 0 0 0) 4 0 0 = nI nn := (st_nr (by omega)).trans hy4
  refine lv_aload_n hx hb dX4_deny_0 rfl (lv_at hl 0 rfl) ?_
  refine lv_iconst (v := 0) hx hb dX4_deny_1 (by decide) ?_
  refine wx_put (D := g.1) (cl := vwCl) (ci := 6) (v := .int 0) (ty := .int) (w' := mw g L (st y 0 0 0 0) ch r0) (C := RX4) (T := TX4) (N := 22) hx hb hts iX4 tyX4 tyX4_ok nmX4 hown hK hP hJ hS (106) (by omega) mw_o rfl 0 (by decide) (hts (.fieldLink RX4 64 "FerroDeskModel" "thrown" "I") (by decide +kernel)) (fun _ h9 => h9) rfl (by decide +kernel) rfl rfl (Nat.le_of_ble_eq_true rfl) dX4_deny_2 (mw_put (r := 0) (i := 0) (j := 0) rfl (by omega) (mk_o.trans (by simp [mF, st]))) (fun H locs hP hS => ?_)
  refine lv_iload_n hx hb dX4_deny_5 rfl (lv_at hl 2 rfl) ?_
  refine wx_calli (va_runS (As := [.int p1]) (rest := []) ⟨hx, hb, hml, hown, hts⟩ (m_noDistrict l hst g base n L (mw g L (st y 0 0 0 0) ch r0) p1) (va_cwS 1 hts gX4_deny_X4_noDistrict rfl rfl rfl (by decide +kernel) ⟨Nat.le_of_ble_eq_true rfl, Nat.le_of_ble_eq_true rfl⟩) (hPW.preS hP hS) rfl rfl hl.1 rfl (lv_room (Nat.le_of_ble_eq_true rfl)) dX4_deny_6 ⟨Nat.le_of_ble_eq_true rfl, Nat.le_of_ble_eq_true rfl⟩) hS (fun r6 u6 H locs h6 hP hS => ?_)
  rcases h6 with ⟨rfl, h6⟩ | ⟨rfl, d6, hd6, rfl⟩
  · refine lv_if_ne (tgt := 42) hx hb dX4_deny_9 (by decide) (fun c9 => ?_) (fun c9 => absurd c9 (by decide))
    refine lv_iconst (v := 0) hx hb dX4_deny_42 (by decide) ?_
    refine lv_istore (lv' := [(4, .int 0), (0, .ref (L 106)), (1, .int p0), (2, .int p1), (3, .int p2)]) hx hb dX4_deny_43 hl (by decide) rfl (fun ls hl => ?_)
    refine lv_aload_n hx hb dX4_deny_45 rfl (lv_at hl 1 rfl) ?_
    refine lv_iload hx hb dX4_deny_46 (lv_at hl 0 rfl) ?_
    refine lv_if_ne (tgt := 55) hx hb dX4_deny_48 (by decide) (fun c48 => absurd c48 (by decide)) (fun c48 => ?_)
    refine lv_iconst (v := 1) hx hb dX4_deny_51 (by decide) ?_
    refine lv_goto (tgt := 56) hx hb dX4_deny_52 (by decide) ?_
    refine lv_iconst (v := 1) hx hb dX4_deny_56 (by decide) ?_
    refine wx_calli (va_runV (As := [.int 1, .int 1]) (rest := []) ⟨hx, hb, hml, hown, hts⟩ (m_fails l hst g base n L (by omega) (st y 0 0 0 0) ch r0 st_eq 1 1 (by decide)) (cwV 2 hts gX4_deny_X4_fails rfl rfl rfl (by decide +kernel) ⟨Nat.le_of_ble_eq_true rfl, Nat.le_of_ble_eq_true rfl⟩) (hPW.preV hP hS (ci := 6) rfl (by omega) mw_o) rfl rfl hl.1 rfl (lv_room (Nat.le_of_ble_eq_true rfl)) dX4_deny_57 ⟨Nat.le_of_ble_eq_true rfl, Nat.le_of_ble_eq_true rfl⟩) hS (fun r57 u57 H locs h57 hP hS => ?_)
    obtain ⟨rfl, -, e9⟩ : r57 = 1 ∧ True ∧ u57 = st (st y 0 0 0 0) 0 0 0 1 := by rcases h57 with ⟨-, b, -⟩ | ⟨a, -, b⟩; exact absurd b (by decide); exact ⟨a, trivial, b⟩
    have e9 := e9.symm
    subst e9
    refine lv_if_ne (tgt := 85) hx hb dX4_deny_60 (by decide) (fun c60 => ?_) (fun c60 => absurd c60 (by decide))
    refine lv_iconst (v := 0) hx hb dX4_deny_85 (by decide) ?_
    refine W.widen (k := 0) (n := 0) (Nat.le_of_ble_eq_true rfl) (Nat.le_of_ble_eq_true rfl) ?_
    exact W.iret (v := 0) hx hb hr (fun t ht hW => ⟨⟨0, (st (st y 0 0 0 0) 0 0 0 1, ch), rfl, Or.inl ⟨(by (try revert h6); (try simp only [xor_m1]); (try simp only [Int32.lt_iff_toInt_lt, Int32.le_iff_toInt_le, ← Int32.toInt_inj, i_0, i_1, i_2, i_3, i_4, i_6, i_9, i_20, i_32, i_40, i_48, i_60, i_200, i_999, i_2000, i_m1, i_8]); (try simp only [i_8, i_7]); omega), rfl⟩, PB.mk9 hP ht⟩, hS.F ht⟩) hS.2.2 dX4_deny_86
  · refine lv_if_ne (tgt := 42) hx hb dX4_deny_9 (by decide) (fun c9 => absurd c9 (by decide)) (fun c9 => ?_)
    refine lv_iload_n hx hb dX4_deny_12 rfl (lv_at hl 1 rfl) ?_
    refine lv_if_eq (tgt := 42) hx hb dX4_deny_13 (by decide) (fun c13 => ?_) (fun c13 => ?_)
    · refine lv_iconst (v := 0) hx hb dX4_deny_42 (by decide) ?_
      refine lv_istore (lv' := [(4, .int 0), (0, .ref (L 106)), (1, .int p0), (2, .int (nI d6)), (3, .int p2)]) hx hb dX4_deny_43 hl (by decide) rfl (fun ls hl => ?_)
      refine lv_aload_n hx hb dX4_deny_45 rfl (lv_at hl 1 rfl) ?_
      refine lv_iload hx hb dX4_deny_46 (lv_at hl 0 rfl) ?_
      refine lv_if_ne (tgt := 55) hx hb dX4_deny_48 (by decide) (fun c48 => absurd c48 (by decide)) (fun c48 => ?_)
      refine lv_iconst (v := 1) hx hb dX4_deny_51 (by decide) ?_
      refine lv_goto (tgt := 56) hx hb dX4_deny_52 (by decide) ?_
      refine lv_iconst (v := 1) hx hb dX4_deny_56 (by decide) ?_
      refine wx_calli (va_runV (As := [.int 1, .int 1]) (rest := []) ⟨hx, hb, hml, hown, hts⟩ (m_fails l hst g base n L (by omega) (st y 0 0 0 0) ch r0 st_eq 1 1 (by decide)) (cwV 2 hts gX4_deny_X4_fails rfl rfl rfl (by decide +kernel) ⟨Nat.le_of_ble_eq_true rfl, Nat.le_of_ble_eq_true rfl⟩) (hPW.preV hP hS (ci := 6) rfl (by omega) mw_o) rfl rfl hl.1 rfl (lv_room (Nat.le_of_ble_eq_true rfl)) dX4_deny_57 ⟨Nat.le_of_ble_eq_true rfl, Nat.le_of_ble_eq_true rfl⟩) hS (fun r57 u57 H locs h57 hP hS => ?_)
      obtain ⟨rfl, -, e9⟩ : r57 = 1 ∧ True ∧ u57 = st (st y 0 0 0 0) 0 0 0 1 := by rcases h57 with ⟨-, b, -⟩ | ⟨a, -, b⟩; exact absurd b (by decide); exact ⟨a, trivial, b⟩
      have e9 := e9.symm
      subst e9
      refine lv_if_ne (tgt := 85) hx hb dX4_deny_60 (by decide) (fun c60 => ?_) (fun c60 => absurd c60 (by decide))
      refine lv_iconst (v := 0) hx hb dX4_deny_85 (by decide) ?_
      refine W.widen (k := 0) (n := 0) (Nat.le_of_ble_eq_true rfl) (Nat.le_of_ble_eq_true rfl) ?_
      exact W.iret (v := 0) hx hb hr (fun t ht hW => ⟨⟨0, (st (st y 0 0 0 0) 0 0 0 1, ch), rfl, Or.inl ⟨(by have h9 := dsOK hd6 rfl; (try revert c13 h9); (try simp only [xor_m1]); (try simp only [Int32.lt_iff_toInt_lt, Int32.le_iff_toInt_le, ← Int32.toInt_inj, i_0, i_1, i_2, i_3, i_4, i_6, i_9, i_20, i_32, i_40, i_48, i_60, i_200, i_999, i_2000, i_m1, i_8]); (try simp only [i_8, i_7]); omega), rfl⟩, PB.mk9 hP ht⟩, hS.F ht⟩) hS.2.2 dX4_deny_86
    · refine lv_iload_n hx hb dX4_deny_16 rfl (lv_at hl 1 rfl) ?_
      refine lv_iconst (v := (-1)) hx hb dX4_deny_17 (by decide) ?_
      refine lv_ixor hx hb dX4_deny_18 ?_
      refine lv_if_eq (tgt := 42) hx hb dX4_deny_19 (by decide) (fun c19 => ?_) (fun c19 => ?_)
      · refine lv_iconst (v := 0) hx hb dX4_deny_42 (by decide) ?_
        refine lv_istore (lv' := [(4, .int 0), (0, .ref (L 106)), (1, .int p0), (2, .int (nI d6)), (3, .int p2)]) hx hb dX4_deny_43 hl (by decide) rfl (fun ls hl => ?_)
        refine lv_aload_n hx hb dX4_deny_45 rfl (lv_at hl 1 rfl) ?_
        refine lv_iload hx hb dX4_deny_46 (lv_at hl 0 rfl) ?_
        refine lv_if_ne (tgt := 55) hx hb dX4_deny_48 (by decide) (fun c48 => absurd c48 (by decide)) (fun c48 => ?_)
        refine lv_iconst (v := 1) hx hb dX4_deny_51 (by decide) ?_
        refine lv_goto (tgt := 56) hx hb dX4_deny_52 (by decide) ?_
        refine lv_iconst (v := 1) hx hb dX4_deny_56 (by decide) ?_
        refine wx_calli (va_runV (As := [.int 1, .int 1]) (rest := []) ⟨hx, hb, hml, hown, hts⟩ (m_fails l hst g base n L (by omega) (st y 0 0 0 0) ch r0 st_eq 1 1 (by decide)) (cwV 2 hts gX4_deny_X4_fails rfl rfl rfl (by decide +kernel) ⟨Nat.le_of_ble_eq_true rfl, Nat.le_of_ble_eq_true rfl⟩) (hPW.preV hP hS (ci := 6) rfl (by omega) mw_o) rfl rfl hl.1 rfl (lv_room (Nat.le_of_ble_eq_true rfl)) dX4_deny_57 ⟨Nat.le_of_ble_eq_true rfl, Nat.le_of_ble_eq_true rfl⟩) hS (fun r57 u57 H locs h57 hP hS => ?_)
        obtain ⟨rfl, -, e9⟩ : r57 = 1 ∧ True ∧ u57 = st (st y 0 0 0 0) 0 0 0 1 := by rcases h57 with ⟨-, b, -⟩ | ⟨a, -, b⟩; exact absurd b (by decide); exact ⟨a, trivial, b⟩
        have e9 := e9.symm
        subst e9
        refine lv_if_ne (tgt := 85) hx hb dX4_deny_60 (by decide) (fun c60 => ?_) (fun c60 => absurd c60 (by decide))
        refine lv_iconst (v := 0) hx hb dX4_deny_85 (by decide) ?_
        refine W.widen (k := 0) (n := 0) (Nat.le_of_ble_eq_true rfl) (Nat.le_of_ble_eq_true rfl) ?_
        exact W.iret (v := 0) hx hb hr (fun t ht hW => ⟨⟨0, (st (st y 0 0 0 0) 0 0 0 1, ch), rfl, Or.inl ⟨(by have h9 := dsOK hd6 rfl; (try revert c13 c19 h9); (try simp only [xor_m1]); (try simp only [Int32.lt_iff_toInt_lt, Int32.le_iff_toInt_le, ← Int32.toInt_inj, i_0, i_1, i_2, i_3, i_4, i_6, i_9, i_20, i_32, i_40, i_48, i_60, i_200, i_999, i_2000, i_m1, i_8]); (try simp only [i_8, i_7]); omega), rfl⟩, PB.mk9 hP ht⟩, hS.F ht⟩) hS.2.2 dX4_deny_86
      · refine lv_iload_n hx hb dX4_deny_22 rfl (lv_at hl 3 rfl) ?_
        refine lv_aload_n hx hb dX4_deny_23 rfl (lv_at hl 0 rfl) ?_
        refine wx_get (D := g.1) (cl := vwCl) (ci := 6) (v := .int ((st y 0 0 0 0) 1 0 0)) (C := RX4) (T := TX4) (N := 22) hx hb hts iX4 hown hK hP (106) (by omega) mw_o rfl 1 (by decide) (hts (.fieldLink RX4 101 "FerroDeskModel" "hour" "I") (by decide +kernel)) (fun _ h9 => h9) rfl dX4_deny_24 ?_
        refine lv_iconst (v := 1) hx hb dX4_deny_27 (by decide) ?_
        refine lv_iadd hx hb dX4_deny_28 ?_
        refine lv_sipush (v := 2000) hx hb dX4_deny_29 (by decide) ?_
        refine wx_calli (va_runS (As := [.int p2, .int (((st y 0 0 0 0) 1 0 0) + 1), .int 2000]) (rest := []) ⟨hx, hb, hml, hown, hts⟩ (m_in l hst g base n L (mw g L (st y 0 0 0 0) ch r0) p2 (((st y 0 0 0 0) 1 0 0) + 1) 2000) (va_cwS 3 hts gX4_deny_X4_in rfl rfl rfl (by decide +kernel) ⟨Nat.le_of_ble_eq_true rfl, Nat.le_of_ble_eq_true rfl⟩) (hPW.preS hP hS) rfl rfl hl.1 rfl (lv_room (Nat.le_of_ble_eq_true rfl)) dX4_deny_32 ⟨Nat.le_of_ble_eq_true rfl, Nat.le_of_ble_eq_true rfl⟩) hS (fun r32 u32 H locs h32 hP hS => ?_)
        rcases h32 with ⟨rfl, h32⟩ | ⟨rfl, h32⟩
        · refine lv_if_eq (tgt := 42) hx hb dX4_deny_35 (by decide) (fun c35 => absurd c35 (by decide)) (fun c35 => ?_)
          refine lv_iconst (v := 1) hx hb dX4_deny_38 (by decide) ?_
          refine lv_goto (tgt := 43) hx hb dX4_deny_39 (by decide) ?_
          refine lv_istore (lv' := [(4, .int 1), (0, .ref (L 106)), (1, .int p0), (2, .int (nI d6)), (3, .int p2)]) hx hb dX4_deny_43 hl (by decide) rfl (fun ls hl => ?_)
          refine lv_aload_n hx hb dX4_deny_45 rfl (lv_at hl 1 rfl) ?_
          refine lv_iload hx hb dX4_deny_46 (lv_at hl 0 rfl) ?_
          refine lv_if_ne (tgt := 55) hx hb dX4_deny_48 (by decide) (fun c48 => ?_) (fun c48 => absurd c48 (by decide))
          refine lv_iconst (v := 0) hx hb dX4_deny_55 (by decide) ?_
          refine lv_iconst (v := 1) hx hb dX4_deny_56 (by decide) ?_
          refine wx_calli (va_runV (As := [.int 0, .int 1]) (rest := []) ⟨hx, hb, hml, hown, hts⟩ (m_fails l hst g base n L (by omega) (st y 0 0 0 0) ch r0 st_eq 0 1 (by decide)) (cwV 2 hts gX4_deny_X4_fails rfl rfl rfl (by decide +kernel) ⟨Nat.le_of_ble_eq_true rfl, Nat.le_of_ble_eq_true rfl⟩) (hPW.preV hP hS (ci := 6) rfl (by omega) mw_o) rfl rfl hl.1 rfl (lv_room (Nat.le_of_ble_eq_true rfl)) dX4_deny_57 ⟨Nat.le_of_ble_eq_true rfl, Nat.le_of_ble_eq_true rfl⟩) hS (fun r57 u57 H locs h57 hP hS => ?_)
          obtain ⟨rfl, -, e9⟩ : r57 = 0 ∧ True ∧ u57 = st y 0 0 0 0 := by rcases h57 with ⟨a, -, b⟩ | ⟨-, b, -⟩; exact ⟨a, trivial, b⟩; exact absurd rfl b
          have e9 := e9.symm
          subst e9
          refine lv_if_ne (tgt := 85) hx hb dX4_deny_60 (by decide) (fun c60 => absurd c60 (by decide)) (fun c60 => ?_)
          refine lv_aload_n hx hb dX4_deny_63 rfl (lv_at hl 1 rfl) ?_
          refine lv_aload_n hx hb dX4_deny_64 rfl (lv_at hl 1 rfl) ?_
          refine wx_get (D := g.1) (cl := vwCl) (ci := 6) (v := .int ((st y 0 0 0 0) 4 0 0)) (C := RX4) (T := TX4) (N := 22) hx hb hts iX4 hown hK hP (106) (by omega) mw_o rfl 4 (by decide) (hts (.fieldLink RX4 74 "FerroDeskModel" "notices" "I") (by decide +kernel)) (fun _ h9 => h9) rfl dX4_deny_65 ?_
          refine lv_bipush (v := 40) hx hb dX4_deny_68 (by decide) ?_
          refine lv_icmp_ne (tgt := 77) hx hb dX4_deny_70 (by decide) (fun c70 => ?_) (fun c70 => ?_)
          · refine lv_iconst (v := 0) hx hb dX4_deny_77 (by decide) ?_
            refine lv_iconst (v := 2) hx hb dX4_deny_78 (by decide) ?_
            refine wx_calli (va_runV (As := [.int 0, .int 2]) (rest := []) ⟨hx, hb, hml, hown, hts⟩ (m_fails l hst g base n L (by omega) (st y 0 0 0 0) ch r0 st_eq 0 2 (by decide)) (cwV 2 hts gX4_deny_X4_fails rfl rfl rfl (by decide +kernel) ⟨Nat.le_of_ble_eq_true rfl, Nat.le_of_ble_eq_true rfl⟩) (hPW.preV hP hS (ci := 6) rfl (by omega) mw_o) rfl rfl hl.1 rfl (lv_room (Nat.le_of_ble_eq_true rfl)) dX4_deny_79 ⟨Nat.le_of_ble_eq_true rfl, Nat.le_of_ble_eq_true rfl⟩) hS (fun r79 u79 H locs h79 hP hS => ?_)
            obtain ⟨rfl, -, e9⟩ : r79 = 0 ∧ True ∧ u79 = st y 0 0 0 0 := by rcases h79 with ⟨a, -, b⟩ | ⟨-, b, -⟩; exact ⟨a, trivial, b⟩; exact absurd rfl b
            have e9 := e9.symm
            subst e9
            refine lv_if_eq (tgt := 87) hx hb dX4_deny_82 (by decide) (fun c82 => ?_) (fun c82 => absurd (by decide) c82)
            have hlt : nn < 40 := (by have h9 : nn ≠ 40 := fun h8 => c70 (hT4.trans (by rw [h8]; rfl)); omega)
            refine lv_aload_n hx hb dX4_deny_87 rfl (lv_at hl 1 rfl) ?_
            refine lv_bipush (v := 10) hx hb dX4_deny_88 (by decide) ?_
            refine lv_iload_n hx hb dX4_deny_90 rfl (lv_at hl 2 rfl) ?_
            refine lv_iconst (v := (-1)) hx hb dX4_deny_91 (by decide) ?_
            refine lv_ixor hx hb dX4_deny_92 ?_
            refine lv_aload_n hx hb dX4_deny_93 rfl (lv_at hl 1 rfl) ?_
            refine wx_get (D := g.1) (cl := vwCl) (ci := 6) (v := .int ((st y 0 0 0 0) 1 0 0)) (C := RX4) (T := TX4) (N := 22) hx hb hts iX4 hown hK hP (106) (by omega) mw_o rfl 1 (by decide) (hts (.fieldLink RX4 101 "FerroDeskModel" "hour" "I") (by decide +kernel)) (fun _ h9 => h9) rfl dX4_deny_94 ?_
            refine lv_iload_n hx hb dX4_deny_97 rfl (lv_at hl 4 rfl) ?_
            refine wx_calli (va_runV (As := [.int 10, .int (p0 ^^^ (-1)), .int ((st y 0 0 0 0) 1 0 0), .int p2]) (rest := []) ⟨hx, hb, hml, hown, hts⟩ (m_add l hst g base n L (by omega) (st y 0 0 0 0) ch r0 nn hnn hT4 hlt 10 (p0 ^^^ (-1)) ((st y 0 0 0 0) 1 0 0) p2) (cwV 4 hts gX4_deny_X4_add rfl rfl rfl (by decide +kernel) ⟨Nat.le_of_ble_eq_true rfl, Nat.le_of_ble_eq_true rfl⟩) (hPW.preV hP hS (ci := 6) rfl (by omega) mw_o) rfl rfl hl.1 rfl (lv_room (Nat.le_of_ble_eq_true rfl)) dX4_deny_98 ⟨Nat.le_of_ble_eq_true rfl, Nat.le_of_ble_eq_true rfl⟩) hS (fun r98 u98 H locs h98 hP hS => ?_)
            obtain ⟨rfl, rfl⟩ := h98
            refine lv_istore (lv' := [(5, .int (nI nn)), (4, .int 1), (0, .ref (L 106)), (1, .int p0), (2, .int (nI d6)), (3, .int p2)]) hx hb dX4_deny_101 hl (by decide) rfl (fun ls hl => ?_)
            refine lv_aload_n hx hb dX4_deny_103 rfl (lv_at hl 2 rfl) ?_
            refine wx_get (D := g.1) (cl := vwCl) (ci := 6) (v := .ref (L 120)) (C := RX4) (T := TX4) (N := 22) hx hb hts iX4 hown hK hP (106) (by omega) mw_o rfl 19 (by decide) (hts (.fieldLink RX4 54 "FerroDeskModel" "isQueued" "[Z") (by decide +kernel)) (fun _ h9 => h9) rfl dX4_deny_104 ?_
            refine lv_iconst (v := 4) hx hb dX4_deny_107 (by decide) ?_
            refine lv_iload hx hb dX4_deny_108 (lv_at hl 0 rfl) ?_
            refine lv_imul hx hb dX4_deny_110 ?_
            refine lv_iload_n hx hb dX4_deny_111 rfl (lv_at hl 4 rfl) ?_
            refine lv_iadd hx hb dX4_deny_112 ?_
            refine lv_iconst (v := 1) hx hb dX4_deny_113 (by decide) ?_
            refine wx_zast (D := g.1) (cl := vwCl) (N := 160) (f := fun j9 => (adM (st y 0 0 0 0) nn 10 (p0 ^^^ (-1)) ((st y 0 0 0 0) 1 0 0) p2) 23 0 j9) (w' := mw g L (st (adM (st y 0 0 0 0) nn 10 (p0 ^^^ (-1)) ((st y 0 0 0 0) 1 0 0) p2) 23 0 (4 * nn + d6) 1) ch r0) hx hb hK hP hJ hS (120) 3 (by omega) (mw_a (by decide) (by decide)) rfl (i := (4 * (nI nn)) + (nI d6)) (by simp only [m4, nI_add]; exact vp_in_nI (by omega) (by decide)) (by decide) dX4_deny_114 (by simp only [m4, nI_add]; rw [nI_clamp (by omega)]; exact mw_st (r := 23) rfl (by decide) (by decide) rfl rfl rfl) (fun H locs hP hS => ?_)
            refine lv_iload hx hb dX4_deny_115 (lv_at hl 0 rfl) ?_
            refine W.widen (k := 0) (n := 0) (Nat.le_of_ble_eq_true rfl) (Nat.le_of_ble_eq_true rfl) ?_
            exact W.iret (v := nI nn) hx hb hr (fun t ht hW => ⟨⟨nI nn, (st (adM (st y 0 0 0 0) nn 10 (p0 ^^^ (-1)) ((st y 0 0 0 0) 1 0 0) p2) 23 0 (4 * nn + d6) 1, ch), rfl, Or.inr (Or.inr ⟨(by have h9 := dsOK hd6 rfl; (try revert c13 c19 h32 h9); (try simp only [xor_m1]); (try simp only [Int32.lt_iff_toInt_lt, Int32.le_iff_toInt_le, ← Int32.toInt_inj, i_0, i_1, i_2, i_3, i_4, i_6, i_9, i_20, i_32, i_40, i_48, i_60, i_200, i_999, i_2000, i_m1, i_8]); (try simp only [i_8, i_7]); omega), hlt, d6, hd6, rfl, rfl, rfl⟩), PB.mk9 hP ht⟩, hS.F ht⟩) hS.2.2 dX4_deny_117
          · refine lv_iconst (v := 1) hx hb dX4_deny_73 (by decide) ?_
            refine lv_goto (tgt := 78) hx hb dX4_deny_74 (by decide) ?_
            refine lv_iconst (v := 2) hx hb dX4_deny_78 (by decide) ?_
            refine wx_calli (va_runV (As := [.int 1, .int 2]) (rest := []) ⟨hx, hb, hml, hown, hts⟩ (m_fails l hst g base n L (by omega) (st y 0 0 0 0) ch r0 st_eq 1 2 (by decide)) (cwV 2 hts gX4_deny_X4_fails rfl rfl rfl (by decide +kernel) ⟨Nat.le_of_ble_eq_true rfl, Nat.le_of_ble_eq_true rfl⟩) (hPW.preV hP hS (ci := 6) rfl (by omega) mw_o) rfl rfl hl.1 rfl (lv_room (Nat.le_of_ble_eq_true rfl)) dX4_deny_79 ⟨Nat.le_of_ble_eq_true rfl, Nat.le_of_ble_eq_true rfl⟩) hS (fun r79 u79 H locs h79 hP hS => ?_)
            obtain ⟨rfl, -, e9⟩ : r79 = 1 ∧ True ∧ u79 = st (st y 0 0 0 0) 0 0 0 2 := by rcases h79 with ⟨-, b, -⟩ | ⟨a, -, b⟩; exact absurd b (by decide); exact ⟨a, trivial, b⟩
            have e9 := e9.symm
            subst e9
            refine lv_if_eq (tgt := 87) hx hb dX4_deny_82 (by decide) (fun c82 => absurd c82 (by decide)) (fun c82 => ?_)
            refine lv_iconst (v := 0) hx hb dX4_deny_85 (by decide) ?_
            refine W.widen (k := 0) (n := 0) (Nat.le_of_ble_eq_true rfl) (Nat.le_of_ble_eq_true rfl) ?_
            exact W.iret (v := 0) hx hb hr (fun t ht hW => ⟨⟨0, (st (st y 0 0 0 0) 0 0 0 2, ch), rfl, Or.inr (Or.inl ⟨(by have h9 := dsOK hd6 rfl; (try revert c13 c19 h32 h9); (try simp only [xor_m1]); (try simp only [Int32.lt_iff_toInt_lt, Int32.le_iff_toInt_le, ← Int32.toInt_inj, i_0, i_1, i_2, i_3, i_4, i_6, i_9, i_20, i_32, i_40, i_48, i_60, i_200, i_999, i_2000, i_m1, i_8]); (try simp only [i_8, i_7]); omega), ((nI_eq (b := 40) (by omega) (by omega)).mp (hT4.symm.trans c70)), rfl⟩), PB.mk9 hP ht⟩, hS.F ht⟩) hS.2.2 dX4_deny_86
        · refine lv_if_eq (tgt := 42) hx hb dX4_deny_35 (by decide) (fun c35 => ?_) (fun c35 => absurd (by decide) c35)
          refine lv_iconst (v := 0) hx hb dX4_deny_42 (by decide) ?_
          refine lv_istore (lv' := [(4, .int 0), (0, .ref (L 106)), (1, .int p0), (2, .int (nI d6)), (3, .int p2)]) hx hb dX4_deny_43 hl (by decide) rfl (fun ls hl => ?_)
          refine lv_aload_n hx hb dX4_deny_45 rfl (lv_at hl 1 rfl) ?_
          refine lv_iload hx hb dX4_deny_46 (lv_at hl 0 rfl) ?_
          refine lv_if_ne (tgt := 55) hx hb dX4_deny_48 (by decide) (fun c48 => absurd c48 (by decide)) (fun c48 => ?_)
          refine lv_iconst (v := 1) hx hb dX4_deny_51 (by decide) ?_
          refine lv_goto (tgt := 56) hx hb dX4_deny_52 (by decide) ?_
          refine lv_iconst (v := 1) hx hb dX4_deny_56 (by decide) ?_
          refine wx_calli (va_runV (As := [.int 1, .int 1]) (rest := []) ⟨hx, hb, hml, hown, hts⟩ (m_fails l hst g base n L (by omega) (st y 0 0 0 0) ch r0 st_eq 1 1 (by decide)) (cwV 2 hts gX4_deny_X4_fails rfl rfl rfl (by decide +kernel) ⟨Nat.le_of_ble_eq_true rfl, Nat.le_of_ble_eq_true rfl⟩) (hPW.preV hP hS (ci := 6) rfl (by omega) mw_o) rfl rfl hl.1 rfl (lv_room (Nat.le_of_ble_eq_true rfl)) dX4_deny_57 ⟨Nat.le_of_ble_eq_true rfl, Nat.le_of_ble_eq_true rfl⟩) hS (fun r57 u57 H locs h57 hP hS => ?_)
          obtain ⟨rfl, -, e9⟩ : r57 = 1 ∧ True ∧ u57 = st (st y 0 0 0 0) 0 0 0 1 := by rcases h57 with ⟨-, b, -⟩ | ⟨a, -, b⟩; exact absurd b (by decide); exact ⟨a, trivial, b⟩
          have e9 := e9.symm
          subst e9
          refine lv_if_ne (tgt := 85) hx hb dX4_deny_60 (by decide) (fun c60 => ?_) (fun c60 => absurd c60 (by decide))
          refine lv_iconst (v := 0) hx hb dX4_deny_85 (by decide) ?_
          refine W.widen (k := 0) (n := 0) (Nat.le_of_ble_eq_true rfl) (Nat.le_of_ble_eq_true rfl) ?_
          exact W.iret (v := 0) hx hb hr (fun t ht hW => ⟨⟨0, (st (st y 0 0 0 0) 0 0 0 1, ch), rfl, Or.inl ⟨(by have h9 := dsOK hd6 rfl; (try revert c13 c19 h32 h9); (try simp only [xor_m1]); (try simp only [Int32.lt_iff_toInt_lt, Int32.le_iff_toInt_le, ← Int32.toInt_inj, i_0, i_1, i_2, i_3, i_4, i_6, i_9, i_20, i_32, i_40, i_48, i_60, i_200, i_999, i_2000, i_m1, i_8]); (try simp only [i_8, i_7]); omega), rfl⟩, PB.mk9 hP ht⟩, hS.F ht⟩) hS.2.2 dX4_deny_86

set_option maxHeartbeats 4000000 in
set_option maxRecDepth 100000 in
theorem m_queued (l : Launch) (hst : l.stackTraces = false) (g : gE) (base n : Nat) (L : Nat → Nat) (hn : 123 ≤ n) (y : St) (ch : Int64) (r0 : Nat → va_E) (nb nn : Nat) (hM : MI y nb nn) (p0 : Int32) : Met l yX4_queued wsX4_queued ({ frames := 2, cells := 0, slots := 0, locals := 120 }) (va_Pc [.ref (L 106), .int p0] (PW SS g base n L (mw g L y ch r0))) (va_Qi (fun (r : Int32) (u : MS) => ((p0.toInt < 0 ∨ 3 < p0.toInt) ∧ u = (st (st y 0 0 0 0) 0 0 0 1, ch)) ∨ (∃ d, d < 4 ∧ p0 = nI d ∧ u = (st y 0 0 0 0, ch) ∧ r = mqF (st y 0 0 0 0) d nn)) (fun (u : MS) t => PB g n L (mw g L u.1 u.2 r0) t) (fun q => base ≤ q)) 0 0 (fun q => base ≤ q) := by
  refine Met.ofW (cc := cX4_queued) (maxL := 2) (ret := (some .int)) (by decide) rfl ?_
  intro p e s m args below meth c s₁ B hml hv
  obtain ⟨rfl, hPW⟩ := hv
  obtain ⟨hbs, hJ, hP, hK, hE⟩ := id hPW
  have hx := B.exec
  have hb := B.bytes
  have hr := B.returns
  have hts := atoms_spec (ws := wsX4_queued) B.pre
  have hown : s.vm.findClass RX4 = some m.cls := findClass_of_methodNamed B.named
  have hlocks := B.notSynchronized
  have hS : va_S (fun q : Nat => base ≤ q) s.heap s.heap [] := va_S.rf
  have hl := lv_entry ([.ref (L 106), .int p0]) (n := 2) (Nat.le_of_ble_eq_true rfl)
  rw [lg_entry_eq]
  generalize (lg_sl ([.ref (L 106), .int p0]) ++ List.replicate (2 - (lg_sl ([.ref (L 106), .int p0])).length) Slot.unset).toArray = ls at hl ⊢
  have hl : lv_has ls 2 [(0, .ref (L 106)), (1, .int p0)] := hl
  have iX4 : ∀ w ∈ wsX40, w ∈ wsX4_queued := by decide +kernel
  have hnb := hM.nb6
  have hnn := hM.nn40
  have hy3 := hM.y3
  have hy4 := hM.y4
  have hT3 : (st y 0 0 0 0) 3 0 0 = nI nb := (st_nr (by omega)).trans hy3
  have hT4 : (st y 0 0 0 0) 4 0 0 = nI nn := (st_nr (by omega)).trans hy4
  refine lv_aload_n hx hb dX4_queued_0 rfl (lv_at hl 0 rfl) ?_
  refine lv_iconst (v := 0) hx hb dX4_queued_1 (by decide) ?_
  refine wx_put (D := g.1) (cl := vwCl) (ci := 6) (v := .int 0) (ty := .int) (w' := mw g L (st y 0 0 0 0) ch r0) (C := RX4) (T := TX4) (N := 22) hx hb hts iX4 tyX4 tyX4_ok nmX4 hown hK hP hJ hS (106) (by omega) mw_o rfl 0 (by decide) (hts (.fieldLink RX4 64 "FerroDeskModel" "thrown" "I") (by decide +kernel)) (fun _ h9 => h9) rfl (by decide +kernel) rfl rfl (Nat.le_of_ble_eq_true rfl) dX4_queued_2 (mw_put (r := 0) (i := 0) (j := 0) rfl (by omega) (mk_o.trans (by simp [mF, st]))) (fun H locs hP hS => ?_)
  refine lv_aload_n hx hb dX4_queued_5 rfl (lv_at hl 0 rfl) ?_
  refine lv_iload_n hx hb dX4_queued_6 rfl (lv_at hl 1 rfl) ?_
  refine wx_calli (va_runS (As := [.int p0]) (rest := [.ref (L 106)]) ⟨hx, hb, hml, hown, hts⟩ (m_noDistrict l hst g base n L (mw g L (st y 0 0 0 0) ch r0) p0) (va_cwS 1 hts gX4_queued_X4_noDistrict rfl rfl rfl (by decide +kernel) ⟨Nat.le_of_ble_eq_true rfl, Nat.le_of_ble_eq_true rfl⟩) (hPW.preS hP hS) rfl rfl hl.1 rfl (lv_room (Nat.le_of_ble_eq_true rfl)) dX4_queued_7 ⟨Nat.le_of_ble_eq_true rfl, Nat.le_of_ble_eq_true rfl⟩) hS (fun r7 u7 H locs h7 hP hS => ?_)
  rcases h7 with ⟨rfl, h7⟩ | ⟨rfl, d7, hd7, rfl⟩
  · refine lv_iconst (v := 1) hx hb dX4_queued_10 (by decide) ?_
    refine wx_calli (va_runV (As := [.int 1, .int 1]) (rest := []) ⟨hx, hb, hml, hown, hts⟩ (m_fails l hst g base n L (by omega) (st y 0 0 0 0) ch r0 st_eq 1 1 (by decide)) (cwV 2 hts gX4_queued_X4_fails rfl rfl rfl (by decide +kernel) ⟨Nat.le_of_ble_eq_true rfl, Nat.le_of_ble_eq_true rfl⟩) (hPW.preV hP hS (ci := 6) rfl (by omega) mw_o) rfl rfl hl.1 rfl (lv_room (Nat.le_of_ble_eq_true rfl)) dX4_queued_11 ⟨Nat.le_of_ble_eq_true rfl, Nat.le_of_ble_eq_true rfl⟩) hS (fun r11 u11 H locs h11 hP hS => ?_)
    obtain ⟨rfl, -, e9⟩ : r11 = 1 ∧ True ∧ u11 = st (st y 0 0 0 0) 0 0 0 1 := by rcases h11 with ⟨-, b, -⟩ | ⟨a, -, b⟩; exact absurd b (by decide); exact ⟨a, trivial, b⟩
    have e9 := e9.symm
    subst e9
    refine lv_if_eq (tgt := 21) hx hb dX4_queued_14 (by decide) (fun c14 => absurd c14 (by decide)) (fun c14 => ?_)
    refine lv_iconst (v := 0) hx hb dX4_queued_17 (by decide) ?_
    refine lv_goto (tgt := 26) hx hb dX4_queued_18 (by decide) ?_
    refine W.widen (k := 0) (n := 0) (Nat.le_of_ble_eq_true rfl) (Nat.le_of_ble_eq_true rfl) ?_
    exact W.iret (v := 0) hx hb hr (fun t ht hW => ⟨⟨0, (st (st y 0 0 0 0) 0 0 0 1, ch), rfl, Or.inl ⟨h7, rfl⟩, PB.mk9 hP ht⟩, hS.F ht⟩) hS.2.2 dX4_queued_26
  · refine lv_iconst (v := 1) hx hb dX4_queued_10 (by decide) ?_
    refine wx_calli (va_runV (As := [.int 0, .int 1]) (rest := []) ⟨hx, hb, hml, hown, hts⟩ (m_fails l hst g base n L (by omega) (st y 0 0 0 0) ch r0 st_eq 0 1 (by decide)) (cwV 2 hts gX4_queued_X4_fails rfl rfl rfl (by decide +kernel) ⟨Nat.le_of_ble_eq_true rfl, Nat.le_of_ble_eq_true rfl⟩) (hPW.preV hP hS (ci := 6) rfl (by omega) mw_o) rfl rfl hl.1 rfl (lv_room (Nat.le_of_ble_eq_true rfl)) dX4_queued_11 ⟨Nat.le_of_ble_eq_true rfl, Nat.le_of_ble_eq_true rfl⟩) hS (fun r11 u11 H locs h11 hP hS => ?_)
    obtain ⟨rfl, -, e9⟩ : r11 = 0 ∧ True ∧ u11 = st y 0 0 0 0 := by rcases h11 with ⟨a, -, b⟩ | ⟨-, b, -⟩; exact ⟨a, trivial, b⟩; exact absurd rfl b
    have e9 := e9.symm
    subst e9
    refine lv_if_eq (tgt := 21) hx hb dX4_queued_14 (by decide) (fun c14 => ?_) (fun c14 => absurd (by decide) c14)
    refine lv_aload_n hx hb dX4_queued_21 rfl (lv_at hl 0 rfl) ?_
    refine lv_iload_n hx hb dX4_queued_22 rfl (lv_at hl 1 rfl) ?_
    refine wx_calli (va_runV (As := [.int (nI d7)]) (rest := []) ⟨hx, hb, hml, hown, hts⟩ (m_manyQueued l hst g base n L (by omega) (st y 0 0 0 0) ch r0 nn hnn hT4 d7 (by omega)) (cwV 1 hts gX4_queued_X4_manyQueued rfl rfl rfl (by decide +kernel) ⟨Nat.le_of_ble_eq_true rfl, Nat.le_of_ble_eq_true rfl⟩) (hPW.preV hP hS (ci := 6) rfl (by omega) mw_o) rfl rfl hl.1 rfl (lv_room (Nat.le_of_ble_eq_true rfl)) dX4_queued_23 ⟨Nat.le_of_ble_eq_true rfl, Nat.le_of_ble_eq_true rfl⟩) hS (fun r23 u23 H locs h23 hP hS => ?_)
    obtain rfl := h23
    refine W.widen (k := 0) (n := 0) (Nat.le_of_ble_eq_true rfl) (Nat.le_of_ble_eq_true rfl) ?_
    exact W.iret (v := mqF (st y 0 0 0 0) d7 nn) hx hb hr (fun t ht hW => ⟨⟨mqF (st y 0 0 0 0) d7 nn, (st y 0 0 0 0, ch), rfl, Or.inr ⟨d7, hd7, rfl, rfl, rfl⟩, PB.mk9 hP ht⟩, hS.F ht⟩) hS.2.2 dX4_queued_26

set_option maxHeartbeats 4000000 in
set_option maxRecDepth 100000 in
theorem m_queuedAt (l : Launch) (hst : l.stackTraces = false) (g : gE) (base n : Nat) (L : Nat → Nat) (hn : 123 ≤ n) (y : St) (ch : Int64) (r0 : Nat → va_E) (nb nn : Nat) (hM : MI y nb nn) (p0 p1 : Int32) : Met l yX4_queuedAt wsX4_queuedAt ({ frames := 2, cells := 0, slots := 0, locals := 120 }) (va_Pc [.ref (L 106), .int p0, .int p1] (PW SS g base n L (mw g L y ch r0))) (va_Qi (fun (r : Int32) (u : MS) => ((p0.toInt < 0 ∨ 3 < p0.toInt) ∧ u = (st (st y 0 0 0 0) 0 0 0 1, ch)) ∨ (∃ d, d < 4 ∧ p0 = nI d ∧ ((¬ ((0 : Int32).toInt ≤ p1.toInt ∧ p1.toInt ≤ (mqF (st y 0 0 0 0) d nn - 1).toInt) ∧ u = (st (st y 0 0 0 0) 0 0 0 2, ch)) ∨ (((0 : Int32).toInt ≤ p1.toInt ∧ p1.toInt ≤ (mqF (st y 0 0 0 0) d nn - 1).toInt) ∧ u = (st y 0 0 0 0, ch) ∧ r = iqO (st y 0 0 0 0) d nn 11 p1)))) (fun (u : MS) t => PB g n L (mw g L u.1 u.2 r0) t) (fun q => base ≤ q)) 0 0 (fun q => base ≤ q) := by
  refine Met.ofW (cc := cX4_queuedAt) (maxL := 3) (ret := (some .int)) (by decide) rfl ?_
  intro p e s m args below meth c s₁ B hml hv
  obtain ⟨rfl, hPW⟩ := hv
  obtain ⟨hbs, hJ, hP, hK, hE⟩ := id hPW
  have hx := B.exec
  have hb := B.bytes
  have hr := B.returns
  have hts := atoms_spec (ws := wsX4_queuedAt) B.pre
  have hown : s.vm.findClass RX4 = some m.cls := findClass_of_methodNamed B.named
  have hlocks := B.notSynchronized
  have hS : va_S (fun q : Nat => base ≤ q) s.heap s.heap [] := va_S.rf
  have hl := lv_entry ([.ref (L 106), .int p0, .int p1]) (n := 3) (Nat.le_of_ble_eq_true rfl)
  rw [lg_entry_eq]
  generalize (lg_sl ([.ref (L 106), .int p0, .int p1]) ++ List.replicate (3 - (lg_sl ([.ref (L 106), .int p0, .int p1])).length) Slot.unset).toArray = ls at hl ⊢
  have hl : lv_has ls 3 [(0, .ref (L 106)), (1, .int p0), (2, .int p1)] := hl
  have iX4 : ∀ w ∈ wsX40, w ∈ wsX4_queuedAt := by decide +kernel
  have hnb := hM.nb6
  have hnn := hM.nn40
  have hy3 := hM.y3
  have hy4 := hM.y4
  have hT3 : (st y 0 0 0 0) 3 0 0 = nI nb := (st_nr (by omega)).trans hy3
  have hT4 : (st y 0 0 0 0) 4 0 0 = nI nn := (st_nr (by omega)).trans hy4
  refine lv_aload_n hx hb dX4_queuedAt_0 rfl (lv_at hl 0 rfl) ?_
  refine lv_iconst (v := 0) hx hb dX4_queuedAt_1 (by decide) ?_
  refine wx_put (D := g.1) (cl := vwCl) (ci := 6) (v := .int 0) (ty := .int) (w' := mw g L (st y 0 0 0 0) ch r0) (C := RX4) (T := TX4) (N := 22) hx hb hts iX4 tyX4 tyX4_ok nmX4 hown hK hP hJ hS (106) (by omega) mw_o rfl 0 (by decide) (hts (.fieldLink RX4 64 "FerroDeskModel" "thrown" "I") (by decide +kernel)) (fun _ h9 => h9) rfl (by decide +kernel) rfl rfl (Nat.le_of_ble_eq_true rfl) dX4_queuedAt_2 (mw_put (r := 0) (i := 0) (j := 0) rfl (by omega) (mk_o.trans (by simp [mF, st]))) (fun H locs hP hS => ?_)
  refine lv_aload_n hx hb dX4_queuedAt_5 rfl (lv_at hl 0 rfl) ?_
  refine lv_iload_n hx hb dX4_queuedAt_6 rfl (lv_at hl 1 rfl) ?_
  refine wx_calli (va_runS (As := [.int p0]) (rest := [.ref (L 106)]) ⟨hx, hb, hml, hown, hts⟩ (m_noDistrict l hst g base n L (mw g L (st y 0 0 0 0) ch r0) p0) (va_cwS 1 hts gX4_queuedAt_X4_noDistrict rfl rfl rfl (by decide +kernel) ⟨Nat.le_of_ble_eq_true rfl, Nat.le_of_ble_eq_true rfl⟩) (hPW.preS hP hS) rfl rfl hl.1 rfl (lv_room (Nat.le_of_ble_eq_true rfl)) dX4_queuedAt_7 ⟨Nat.le_of_ble_eq_true rfl, Nat.le_of_ble_eq_true rfl⟩) hS (fun r7 u7 H locs h7 hP hS => ?_)
  rcases h7 with ⟨rfl, h7⟩ | ⟨rfl, d7, hd7, rfl⟩
  · refine lv_iconst (v := 1) hx hb dX4_queuedAt_10 (by decide) ?_
    refine wx_calli (va_runV (As := [.int 1, .int 1]) (rest := []) ⟨hx, hb, hml, hown, hts⟩ (m_fails l hst g base n L (by omega) (st y 0 0 0 0) ch r0 st_eq 1 1 (by decide)) (cwV 2 hts gX4_queuedAt_X4_fails rfl rfl rfl (by decide +kernel) ⟨Nat.le_of_ble_eq_true rfl, Nat.le_of_ble_eq_true rfl⟩) (hPW.preV hP hS (ci := 6) rfl (by omega) mw_o) rfl rfl hl.1 rfl (lv_room (Nat.le_of_ble_eq_true rfl)) dX4_queuedAt_11 ⟨Nat.le_of_ble_eq_true rfl, Nat.le_of_ble_eq_true rfl⟩) hS (fun r11 u11 H locs h11 hP hS => ?_)
    obtain ⟨rfl, -, e9⟩ : r11 = 1 ∧ True ∧ u11 = st (st y 0 0 0 0) 0 0 0 1 := by rcases h11 with ⟨-, b, -⟩ | ⟨a, -, b⟩; exact absurd b (by decide); exact ⟨a, trivial, b⟩
    have e9 := e9.symm
    subst e9
    refine lv_if_ne (tgt := 45) hx hb dX4_queuedAt_14 (by decide) (fun c14 => ?_) (fun c14 => absurd c14 (by decide))
    refine lv_iconst (v := 0) hx hb dX4_queuedAt_45 (by decide) ?_
    refine lv_goto (tgt := 55) hx hb dX4_queuedAt_46 (by decide) ?_
    refine W.widen (k := 0) (n := 0) (Nat.le_of_ble_eq_true rfl) (Nat.le_of_ble_eq_true rfl) ?_
    exact W.iret (v := 0) hx hb hr (fun t ht hW => ⟨⟨0, (st (st y 0 0 0 0) 0 0 0 1, ch), rfl, Or.inl ⟨h7, rfl⟩, PB.mk9 hP ht⟩, hS.F ht⟩) hS.2.2 dX4_queuedAt_55
  · refine lv_iconst (v := 1) hx hb dX4_queuedAt_10 (by decide) ?_
    refine wx_calli (va_runV (As := [.int 0, .int 1]) (rest := []) ⟨hx, hb, hml, hown, hts⟩ (m_fails l hst g base n L (by omega) (st y 0 0 0 0) ch r0 st_eq 0 1 (by decide)) (cwV 2 hts gX4_queuedAt_X4_fails rfl rfl rfl (by decide +kernel) ⟨Nat.le_of_ble_eq_true rfl, Nat.le_of_ble_eq_true rfl⟩) (hPW.preV hP hS (ci := 6) rfl (by omega) mw_o) rfl rfl hl.1 rfl (lv_room (Nat.le_of_ble_eq_true rfl)) dX4_queuedAt_11 ⟨Nat.le_of_ble_eq_true rfl, Nat.le_of_ble_eq_true rfl⟩) hS (fun r11 u11 H locs h11 hP hS => ?_)
    obtain ⟨rfl, -, e9⟩ : r11 = 0 ∧ True ∧ u11 = st y 0 0 0 0 := by rcases h11 with ⟨a, -, b⟩ | ⟨-, b, -⟩; exact ⟨a, trivial, b⟩; exact absurd rfl b
    have e9 := e9.symm
    subst e9
    refine lv_if_ne (tgt := 45) hx hb dX4_queuedAt_14 (by decide) (fun c14 => absurd c14 (by decide)) (fun c14 => ?_)
    refine lv_aload_n hx hb dX4_queuedAt_17 rfl (lv_at hl 0 rfl) ?_
    refine lv_iload_n hx hb dX4_queuedAt_18 rfl (lv_at hl 2 rfl) ?_
    refine lv_iconst (v := 0) hx hb dX4_queuedAt_19 (by decide) ?_
    refine lv_aload_n hx hb dX4_queuedAt_20 rfl (lv_at hl 0 rfl) ?_
    refine lv_iload_n hx hb dX4_queuedAt_21 rfl (lv_at hl 1 rfl) ?_
    refine wx_calli (va_runV (As := [.int (nI d7)]) (rest := [.int 0, .int p1, .ref (L 106)]) ⟨hx, hb, hml, hown, hts⟩ (m_manyQueued l hst g base n L (by omega) (st y 0 0 0 0) ch r0 nn hnn hT4 d7 (by omega)) (cwV 1 hts gX4_queuedAt_X4_manyQueued rfl rfl rfl (by decide +kernel) ⟨Nat.le_of_ble_eq_true rfl, Nat.le_of_ble_eq_true rfl⟩) (hPW.preV hP hS (ci := 6) rfl (by omega) mw_o) rfl rfl hl.1 rfl (lv_room (Nat.le_of_ble_eq_true rfl)) dX4_queuedAt_22 ⟨Nat.le_of_ble_eq_true rfl, Nat.le_of_ble_eq_true rfl⟩) hS (fun r22 u22 H locs h22 hP hS => ?_)
    obtain rfl := h22
    refine lv_iconst (v := 1) hx hb dX4_queuedAt_25 (by decide) ?_
    refine lv_isub hx hb dX4_queuedAt_26 ?_
    refine wx_calli (va_runS (As := [.int p1, .int 0, .int ((mqF (st y 0 0 0 0) d7 nn) - 1)]) (rest := [.ref (L 106)]) ⟨hx, hb, hml, hown, hts⟩ (m_in l hst g base n L (mw g L (st y 0 0 0 0) ch r0) p1 0 ((mqF (st y 0 0 0 0) d7 nn) - 1)) (va_cwS 3 hts gX4_queuedAt_X4_in rfl rfl rfl (by decide +kernel) ⟨Nat.le_of_ble_eq_true rfl, Nat.le_of_ble_eq_true rfl⟩) (hPW.preS hP hS) rfl rfl hl.1 rfl (lv_room (Nat.le_of_ble_eq_true rfl)) dX4_queuedAt_27 ⟨Nat.le_of_ble_eq_true rfl, Nat.le_of_ble_eq_true rfl⟩) hS (fun r27 u27 H locs h27 hP hS => ?_)
    rcases h27 with ⟨rfl, h27⟩ | ⟨rfl, h27⟩
    · refine lv_if_ne (tgt := 37) hx hb dX4_queuedAt_30 (by decide) (fun c30 => ?_) (fun c30 => absurd c30 (by decide))
      refine lv_iconst (v := 0) hx hb dX4_queuedAt_37 (by decide) ?_
      refine lv_iconst (v := 2) hx hb dX4_queuedAt_38 (by decide) ?_
      refine wx_calli (va_runV (As := [.int 0, .int 2]) (rest := []) ⟨hx, hb, hml, hown, hts⟩ (m_fails l hst g base n L (by omega) (st y 0 0 0 0) ch r0 st_eq 0 2 (by decide)) (cwV 2 hts gX4_queuedAt_X4_fails rfl rfl rfl (by decide +kernel) ⟨Nat.le_of_ble_eq_true rfl, Nat.le_of_ble_eq_true rfl⟩) (hPW.preV hP hS (ci := 6) rfl (by omega) mw_o) rfl rfl hl.1 rfl (lv_room (Nat.le_of_ble_eq_true rfl)) dX4_queuedAt_39 ⟨Nat.le_of_ble_eq_true rfl, Nat.le_of_ble_eq_true rfl⟩) hS (fun r39 u39 H locs h39 hP hS => ?_)
      obtain ⟨rfl, -, e9⟩ : r39 = 0 ∧ True ∧ u39 = st y 0 0 0 0 := by rcases h39 with ⟨a, -, b⟩ | ⟨-, b, -⟩; exact ⟨a, trivial, b⟩; exact absurd rfl b
      have e9 := e9.symm
      subst e9
      refine lv_if_eq (tgt := 49) hx hb dX4_queuedAt_42 (by decide) (fun c42 => ?_) (fun c42 => absurd (by decide) c42)
      refine lv_aload_n hx hb dX4_queuedAt_49 rfl (lv_at hl 0 rfl) ?_
      refine lv_iload_n hx hb dX4_queuedAt_50 rfl (lv_at hl 1 rfl) ?_
      refine lv_iload_n hx hb dX4_queuedAt_51 rfl (lv_at hl 2 rfl) ?_
      refine wx_calli (va_runV (As := [.int (nI d7), .int p1]) (rest := []) ⟨hx, hb, hml, hown, hts⟩ (m_inQueue l hst g base n L (by omega) (st y 0 0 0 0) ch r0 nn hnn hT4 d7 (by omega) p1) (cwV 2 hts gX4_queuedAt_X4_inQueue rfl rfl rfl (by decide +kernel) ⟨Nat.le_of_ble_eq_true rfl, Nat.le_of_ble_eq_true rfl⟩) (hPW.preV hP hS (ci := 6) rfl (by omega) mw_o) rfl rfl hl.1 rfl (lv_room (Nat.le_of_ble_eq_true rfl)) dX4_queuedAt_52 ⟨Nat.le_of_ble_eq_true rfl, Nat.le_of_ble_eq_true rfl⟩) hS (fun r52 u52 H locs h52 hP hS => ?_)
      obtain rfl := h52
      refine W.widen (k := 0) (n := 0) (Nat.le_of_ble_eq_true rfl) (Nat.le_of_ble_eq_true rfl) ?_
      exact W.iret (v := iqO (st y 0 0 0 0) d7 nn 11 p1) hx hb hr (fun t ht hW => ⟨⟨iqO (st y 0 0 0 0) d7 nn 11 p1, (st y 0 0 0 0, ch), rfl, Or.inr ⟨d7, hd7, rfl, Or.inr ⟨h27, rfl, rfl⟩⟩, PB.mk9 hP ht⟩, hS.F ht⟩) hS.2.2 dX4_queuedAt_55
    · refine lv_if_ne (tgt := 37) hx hb dX4_queuedAt_30 (by decide) (fun c30 => absurd c30 (by decide)) (fun c30 => ?_)
      refine lv_iconst (v := 1) hx hb dX4_queuedAt_33 (by decide) ?_
      refine lv_goto (tgt := 38) hx hb dX4_queuedAt_34 (by decide) ?_
      refine lv_iconst (v := 2) hx hb dX4_queuedAt_38 (by decide) ?_
      refine wx_calli (va_runV (As := [.int 1, .int 2]) (rest := []) ⟨hx, hb, hml, hown, hts⟩ (m_fails l hst g base n L (by omega) (st y 0 0 0 0) ch r0 st_eq 1 2 (by decide)) (cwV 2 hts gX4_queuedAt_X4_fails rfl rfl rfl (by decide +kernel) ⟨Nat.le_of_ble_eq_true rfl, Nat.le_of_ble_eq_true rfl⟩) (hPW.preV hP hS (ci := 6) rfl (by omega) mw_o) rfl rfl hl.1 rfl (lv_room (Nat.le_of_ble_eq_true rfl)) dX4_queuedAt_39 ⟨Nat.le_of_ble_eq_true rfl, Nat.le_of_ble_eq_true rfl⟩) hS (fun r39 u39 H locs h39 hP hS => ?_)
      obtain ⟨rfl, -, e9⟩ : r39 = 1 ∧ True ∧ u39 = st (st y 0 0 0 0) 0 0 0 2 := by rcases h39 with ⟨-, b, -⟩ | ⟨a, -, b⟩; exact absurd b (by decide); exact ⟨a, trivial, b⟩
      have e9 := e9.symm
      subst e9
      refine lv_if_eq (tgt := 49) hx hb dX4_queuedAt_42 (by decide) (fun c42 => absurd c42 (by decide)) (fun c42 => ?_)
      refine lv_iconst (v := 0) hx hb dX4_queuedAt_45 (by decide) ?_
      refine lv_goto (tgt := 55) hx hb dX4_queuedAt_46 (by decide) ?_
      refine W.widen (k := 0) (n := 0) (Nat.le_of_ble_eq_true rfl) (Nat.le_of_ble_eq_true rfl) ?_
      exact W.iret (v := 0) hx hb hr (fun t ht hW => ⟨⟨0, (st (st y 0 0 0 0) 0 0 0 2, ch), rfl, Or.inr ⟨d7, hd7, rfl, Or.inl ⟨h27, rfl⟩⟩, PB.mk9 hP ht⟩, hS.F ht⟩) hS.2.2 dX4_queuedAt_55

set_option maxHeartbeats 4000000 in
set_option maxRecDepth 100000 in
theorem m_isDue (l : Launch) (hst : l.stackTraces = false) (g : gE) (base n : Nat) (L : Nat → Nat) (hn : 123 ≤ n) (y : St) (ch : Int64) (r0 : Nat → va_E) (nb nn : Nat) (hM : MI y nb nn) (p0 : Int32) : Met l yX4_isDue wsX4_isDue ({ frames := 2, cells := 0, slots := 0, locals := 120 }) (va_Pc [.ref (L 106), .int p0] (PW SS g base n L (mw g L y ch r0))) (va_Qi (fun (r : Int32) (u : MS) => ((p0.toInt < 0 ∨ nn ≤ p0.toInt) ∧ u = (st (st y 0 0 0 0) 0 0 0 1, ch)) ∨ (∃ j, j < nn ∧ p0 = nI j ∧ u = (st y 0 0 0 0, ch) ∧ ((r = 1 ∧ duP (st y 0 0 0 0) j) ∨ (r = 0 ∧ ¬ (duP (st y 0 0 0 0) j))))) (fun (u : MS) t => PB g n L (mw g L u.1 u.2 r0) t) (fun q => base ≤ q)) 0 0 (fun q => base ≤ q) := by
  refine Met.ofW (cc := cX4_isDue) (maxL := 2) (ret := (some .boolean)) (by decide) rfl ?_
  intro p e s m args below meth c s₁ B hml hv
  obtain ⟨rfl, hPW⟩ := hv
  obtain ⟨hbs, hJ, hP, hK, hE⟩ := id hPW
  have hx := B.exec
  have hb := B.bytes
  have hr := B.returns
  have hts := atoms_spec (ws := wsX4_isDue) B.pre
  have hown : s.vm.findClass RX4 = some m.cls := findClass_of_methodNamed B.named
  have hlocks := B.notSynchronized
  have hS : va_S (fun q : Nat => base ≤ q) s.heap s.heap [] := va_S.rf
  have hl := lv_entry ([.ref (L 106), .int p0]) (n := 2) (Nat.le_of_ble_eq_true rfl)
  rw [lg_entry_eq]
  generalize (lg_sl ([.ref (L 106), .int p0]) ++ List.replicate (2 - (lg_sl ([.ref (L 106), .int p0])).length) Slot.unset).toArray = ls at hl ⊢
  have hl : lv_has ls 2 [(0, .ref (L 106)), (1, .int p0)] := hl
  have iX4 : ∀ w ∈ wsX40, w ∈ wsX4_isDue := by decide +kernel
  have hnb := hM.nb6
  have hnn := hM.nn40
  have hy3 := hM.y3
  have hy4 := hM.y4
  have hT3 : (st y 0 0 0 0) 3 0 0 = nI nb := (st_nr (by omega)).trans hy3
  have hT4 : (st y 0 0 0 0) 4 0 0 = nI nn := (st_nr (by omega)).trans hy4
  refine lv_aload_n hx hb dX4_isDue_0 rfl (lv_at hl 0 rfl) ?_
  refine lv_iconst (v := 0) hx hb dX4_isDue_1 (by decide) ?_
  refine wx_put (D := g.1) (cl := vwCl) (ci := 6) (v := .int 0) (ty := .int) (w' := mw g L (st y 0 0 0 0) ch r0) (C := RX4) (T := TX4) (N := 22) hx hb hts iX4 tyX4 tyX4_ok nmX4 hown hK hP hJ hS (106) (by omega) mw_o rfl 0 (by decide) (hts (.fieldLink RX4 64 "FerroDeskModel" "thrown" "I") (by decide +kernel)) (fun _ h9 => h9) rfl (by decide +kernel) rfl rfl (Nat.le_of_ble_eq_true rfl) dX4_isDue_2 (mw_put (r := 0) (i := 0) (j := 0) rfl (by omega) (mk_o.trans (by simp [mF, st]))) (fun H locs hP hS => ?_)
  refine lv_aload_n hx hb dX4_isDue_5 rfl (lv_at hl 0 rfl) ?_
  refine lv_aload_n hx hb dX4_isDue_6 rfl (lv_at hl 0 rfl) ?_
  refine lv_iload_n hx hb dX4_isDue_7 rfl (lv_at hl 1 rfl) ?_
  refine wx_calli (va_runV (As := [.int p0]) (rest := [.ref (L 106)]) ⟨hx, hb, hml, hown, hts⟩ (m_noNotice l hst g base n L (by omega) (st y 0 0 0 0) ch r0 nn hnn (by repeat (first | exact hy4 | rw [st_nr (by omega)])) p0) (cwV 1 hts gX4_isDue_X4_noNotice rfl rfl rfl (by decide +kernel) ⟨Nat.le_of_ble_eq_true rfl, Nat.le_of_ble_eq_true rfl⟩) (hPW.preV hP hS (ci := 6) rfl (by omega) mw_o) rfl rfl hl.1 rfl (lv_room (Nat.le_of_ble_eq_true rfl)) dX4_isDue_8 ⟨Nat.le_of_ble_eq_true rfl, Nat.le_of_ble_eq_true rfl⟩) hS (fun r8 u8 H locs h8 hP hS => ?_)
  rcases h8 with ⟨rfl, h8⟩ | ⟨rfl, k8, hk8, rfl⟩
  · refine lv_iconst (v := 1) hx hb dX4_isDue_11 (by decide) ?_
    refine wx_calli (va_runV (As := [.int 1, .int 1]) (rest := []) ⟨hx, hb, hml, hown, hts⟩ (m_fails l hst g base n L (by omega) (st y 0 0 0 0) ch r0 st_eq 1 1 (by decide)) (cwV 2 hts gX4_isDue_X4_fails rfl rfl rfl (by decide +kernel) ⟨Nat.le_of_ble_eq_true rfl, Nat.le_of_ble_eq_true rfl⟩) (hPW.preV hP hS (ci := 6) rfl (by omega) mw_o) rfl rfl hl.1 rfl (lv_room (Nat.le_of_ble_eq_true rfl)) dX4_isDue_12 ⟨Nat.le_of_ble_eq_true rfl, Nat.le_of_ble_eq_true rfl⟩) hS (fun r12 u12 H locs h12 hP hS => ?_)
    obtain ⟨rfl, -, e9⟩ : r12 = 1 ∧ True ∧ u12 = st (st y 0 0 0 0) 0 0 0 1 := by rcases h12 with ⟨-, b, -⟩ | ⟨a, -, b⟩; exact absurd b (by decide); exact ⟨a, trivial, b⟩
    have e9 := e9.symm
    subst e9
    refine lv_if_ne (tgt := 30) hx hb dX4_isDue_15 (by decide) (fun c15 => ?_) (fun c15 => absurd c15 (by decide))
    refine lv_iconst (v := 0) hx hb dX4_isDue_30 (by decide) ?_
    refine W.widen (k := 0) (n := 0) (Nat.le_of_ble_eq_true rfl) (Nat.le_of_ble_eq_true rfl) ?_
    exact W.zret (v := 0) hx hb hr (by decide) (fun t ht hW => ⟨⟨0, (st (st y 0 0 0 0) 0 0 0 1, ch), rfl, Or.inl ⟨h8, rfl⟩, PB.mk9 hP ht⟩, hS.F ht⟩) hS.2.2 dX4_isDue_31
  · refine lv_iconst (v := 1) hx hb dX4_isDue_11 (by decide) ?_
    refine wx_calli (va_runV (As := [.int 0, .int 1]) (rest := []) ⟨hx, hb, hml, hown, hts⟩ (m_fails l hst g base n L (by omega) (st y 0 0 0 0) ch r0 st_eq 0 1 (by decide)) (cwV 2 hts gX4_isDue_X4_fails rfl rfl rfl (by decide +kernel) ⟨Nat.le_of_ble_eq_true rfl, Nat.le_of_ble_eq_true rfl⟩) (hPW.preV hP hS (ci := 6) rfl (by omega) mw_o) rfl rfl hl.1 rfl (lv_room (Nat.le_of_ble_eq_true rfl)) dX4_isDue_12 ⟨Nat.le_of_ble_eq_true rfl, Nat.le_of_ble_eq_true rfl⟩) hS (fun r12 u12 H locs h12 hP hS => ?_)
    obtain ⟨rfl, -, e9⟩ : r12 = 0 ∧ True ∧ u12 = st y 0 0 0 0 := by rcases h12 with ⟨a, -, b⟩ | ⟨-, b, -⟩; exact ⟨a, trivial, b⟩; exact absurd rfl b
    have e9 := e9.symm
    subst e9
    refine lv_if_ne (tgt := 30) hx hb dX4_isDue_15 (by decide) (fun c15 => absurd c15 (by decide)) (fun c15 => ?_)
    refine lv_aload_n hx hb dX4_isDue_18 rfl (lv_at hl 0 rfl) ?_
    refine lv_iload_n hx hb dX4_isDue_19 rfl (lv_at hl 1 rfl) ?_
    refine wx_calli (va_runV (As := [.int (nI k8)]) (rest := []) ⟨hx, hb, hml, hown, hts⟩ (m_dueNow l hst g base n L (by omega) (st y 0 0 0 0) ch r0 k8 (by omega)) (cwV 1 hts gX4_isDue_X4_dueNow rfl rfl rfl (by decide +kernel) ⟨Nat.le_of_ble_eq_true rfl, Nat.le_of_ble_eq_true rfl⟩) (hPW.preV hP hS (ci := 6) rfl (by omega) mw_o) rfl rfl hl.1 rfl (lv_room (Nat.le_of_ble_eq_true rfl)) dX4_isDue_20 ⟨Nat.le_of_ble_eq_true rfl, Nat.le_of_ble_eq_true rfl⟩) hS (fun r20 u20 H locs h20 hP hS => ?_)
    rcases h20 with ⟨rfl, h20⟩ | ⟨rfl, h20⟩
    · refine lv_if_eq (tgt := 30) hx hb dX4_isDue_23 (by decide) (fun c23 => absurd c23 (by decide)) (fun c23 => ?_)
      refine lv_iconst (v := 1) hx hb dX4_isDue_26 (by decide) ?_
      refine lv_goto (tgt := 31) hx hb dX4_isDue_27 (by decide) ?_
      refine W.widen (k := 0) (n := 0) (Nat.le_of_ble_eq_true rfl) (Nat.le_of_ble_eq_true rfl) ?_
      exact W.zret (v := 1) hx hb hr (by decide) (fun t ht hW => ⟨⟨1, (st y 0 0 0 0, ch), rfl, Or.inr ⟨k8, hk8, rfl, rfl, Or.inl ⟨rfl, h20⟩⟩, PB.mk9 hP ht⟩, hS.F ht⟩) hS.2.2 dX4_isDue_31
    · refine lv_if_eq (tgt := 30) hx hb dX4_isDue_23 (by decide) (fun c23 => ?_) (fun c23 => absurd (by decide) c23)
      refine lv_iconst (v := 0) hx hb dX4_isDue_30 (by decide) ?_
      refine W.widen (k := 0) (n := 0) (Nat.le_of_ble_eq_true rfl) (Nat.le_of_ble_eq_true rfl) ?_
      exact W.zret (v := 0) hx hb hr (by decide) (fun t ht hW => ⟨⟨0, (st y 0 0 0 0, ch), rfl, Or.inr ⟨k8, hk8, rfl, rfl, Or.inr ⟨rfl, h20⟩⟩, PB.mk9 hP ht⟩, hS.F ht⟩) hS.2.2 dX4_isDue_31

set_option maxHeartbeats 4000000 in
set_option maxRecDepth 100000 in
theorem m_pass (l : Launch) (hst : l.stackTraces = false) (g : gE) (base n : Nat) (L : Nat → Nat) (hn : 123 ≤ n) (y : St) (ch : Int64) (r0 : Nat → va_E) (nb nn : Nat) (hM : MI y nb nn) (hr9 : Nat) (hhr : hr9 ≤ 2000) (hyh : y 1 0 0 = nI hr9) (p0 p1 : Int32) : Met l yX4_pass wsX4_pass ({ frames := 2, cells := 0, slots := 0, locals := 120 }) (va_Pc [.ref (L 106), .int p0, .int p1] (PW SS g base n L (mw g L y ch r0))) (va_Qi (fun (r : Int32) (u : MS) => ((p0.toInt < 0 ∨ nb ≤ p0.toInt) ∧ u = (st (st y 0 0 0 0) 0 0 0 1, ch)) ∨ (∃ j, j < nb ∧ p0 = nI j ∧ ((¬ (1 ≤ p1.toInt ∧ p1.toInt ≤ 999) ∧ u = (st (st y 0 0 0 0) 0 0 0 2, ch)) ∨ ((1 ≤ p1.toInt ∧ p1.toInt ≤ 999) ∧ (((st y 0 0 0 0) 12 0 j = -1 ∧ u = (st y 0 0 0 0, ch) ∧ r = 0) ∨ (∃ k, k < 40 ∧ (st y 0 0 0 0) 12 0 j = nI k ∧ u = (psM (st y 0 0 0 0) k j hr9 p1, ch) ∧ r = u.1 24 0 (6 * k + j))))))) (fun (u : MS) t => PB g n L (mw g L u.1 u.2 r0) t) (fun q => base ≤ q)) 0 0 (fun q => base ≤ q) := by
  refine Met.ofW (cc := cX4_pass) (maxL := 4) (ret := (some .int)) (by decide) rfl ?_
  intro p e s m args below meth c s₁ B hml hv
  obtain ⟨rfl, hPW⟩ := hv
  obtain ⟨hbs, hJ, hP, hK, hE⟩ := id hPW
  have hx := B.exec
  have hb := B.bytes
  have hr := B.returns
  have hts := atoms_spec (ws := wsX4_pass) B.pre
  have hown : s.vm.findClass RX4 = some m.cls := findClass_of_methodNamed B.named
  have hlocks := B.notSynchronized
  have hS : va_S (fun q : Nat => base ≤ q) s.heap s.heap [] := va_S.rf
  have hl := lv_entry ([.ref (L 106), .int p0, .int p1]) (n := 4) (Nat.le_of_ble_eq_true rfl)
  rw [lg_entry_eq]
  generalize (lg_sl ([.ref (L 106), .int p0, .int p1]) ++ List.replicate (4 - (lg_sl ([.ref (L 106), .int p0, .int p1])).length) Slot.unset).toArray = ls at hl ⊢
  have hl : lv_has ls 4 [(0, .ref (L 106)), (1, .int p0), (2, .int p1)] := hl
  have iX4 : ∀ w ∈ wsX40, w ∈ wsX4_pass := by decide +kernel
  have hnb := hM.nb6
  have hnn := hM.nn40
  have hy3 := hM.y3
  have hy4 := hM.y4
  have hT3 : (st y 0 0 0 0) 3 0 0 = nI nb := (st_nr (by omega)).trans hy3
  have hT4 : (st y 0 0 0 0) 4 0 0 = nI nn := (st_nr (by omega)).trans hy4
  refine lv_aload_n hx hb dX4_pass_0 rfl (lv_at hl 0 rfl) ?_
  refine lv_iconst (v := 0) hx hb dX4_pass_1 (by decide) ?_
  refine wx_put (D := g.1) (cl := vwCl) (ci := 6) (v := .int 0) (ty := .int) (w' := mw g L (st y 0 0 0 0) ch r0) (C := RX4) (T := TX4) (N := 22) hx hb hts iX4 tyX4 tyX4_ok nmX4 hown hK hP hJ hS (106) (by omega) mw_o rfl 0 (by decide) (hts (.fieldLink RX4 64 "FerroDeskModel" "thrown" "I") (by decide +kernel)) (fun _ h9 => h9) rfl (by decide +kernel) rfl rfl (Nat.le_of_ble_eq_true rfl) dX4_pass_2 (mw_put (r := 0) (i := 0) (j := 0) rfl (by omega) (mk_o.trans (by simp [mF, st]))) (fun H locs hP hS => ?_)
  refine lv_aload_n hx hb dX4_pass_5 rfl (lv_at hl 0 rfl) ?_
  refine lv_aload_n hx hb dX4_pass_6 rfl (lv_at hl 0 rfl) ?_
  refine lv_iload_n hx hb dX4_pass_7 rfl (lv_at hl 1 rfl) ?_
  refine wx_calli (va_runV (As := [.int p0]) (rest := [.ref (L 106)]) ⟨hx, hb, hml, hown, hts⟩ (m_noBoard l hst g base n L (by omega) (st y 0 0 0 0) ch r0 nb hnb (by repeat (first | exact hy3 | rw [st_nr (by omega)])) p0) (cwV 1 hts gX4_pass_X4_noBoard rfl rfl rfl (by decide +kernel) ⟨Nat.le_of_ble_eq_true rfl, Nat.le_of_ble_eq_true rfl⟩) (hPW.preV hP hS (ci := 6) rfl (by omega) mw_o) rfl rfl hl.1 rfl (lv_room (Nat.le_of_ble_eq_true rfl)) dX4_pass_8 ⟨Nat.le_of_ble_eq_true rfl, Nat.le_of_ble_eq_true rfl⟩) hS (fun r8 u8 H locs h8 hP hS => ?_)
  rcases h8 with ⟨rfl, h8⟩ | ⟨rfl, j8, hj8, rfl⟩
  · refine lv_iconst (v := 1) hx hb dX4_pass_11 (by decide) ?_
    refine wx_calli (va_runV (As := [.int 1, .int 1]) (rest := []) ⟨hx, hb, hml, hown, hts⟩ (m_fails l hst g base n L (by omega) (st y 0 0 0 0) ch r0 st_eq 1 1 (by decide)) (cwV 2 hts gX4_pass_X4_fails rfl rfl rfl (by decide +kernel) ⟨Nat.le_of_ble_eq_true rfl, Nat.le_of_ble_eq_true rfl⟩) (hPW.preV hP hS (ci := 6) rfl (by omega) mw_o) rfl rfl hl.1 rfl (lv_room (Nat.le_of_ble_eq_true rfl)) dX4_pass_12 ⟨Nat.le_of_ble_eq_true rfl, Nat.le_of_ble_eq_true rfl⟩) hS (fun r12 u12 H locs h12 hP hS => ?_)
    obtain ⟨rfl, -, e9⟩ : r12 = 1 ∧ True ∧ u12 = st (st y 0 0 0 0) 0 0 0 1 := by rcases h12 with ⟨-, b, -⟩ | ⟨a, -, b⟩; exact absurd b (by decide); exact ⟨a, trivial, b⟩
    have e9 := e9.symm
    subst e9
    refine lv_if_ne (tgt := 52) hx hb dX4_pass_15 (by decide) (fun c15 => ?_) (fun c15 => absurd c15 (by decide))
    refine lv_iconst (v := 0) hx hb dX4_pass_52 (by decide) ?_
    refine W.widen (k := 0) (n := 0) (Nat.le_of_ble_eq_true rfl) (Nat.le_of_ble_eq_true rfl) ?_
    exact W.iret (v := 0) hx hb hr (fun t ht hW => ⟨⟨0, (st (st y 0 0 0 0) 0 0 0 1, ch), rfl, Or.inl ⟨h8, rfl⟩, PB.mk9 hP ht⟩, hS.F ht⟩) hS.2.2 dX4_pass_53
  · refine lv_iconst (v := 1) hx hb dX4_pass_11 (by decide) ?_
    refine wx_calli (va_runV (As := [.int 0, .int 1]) (rest := []) ⟨hx, hb, hml, hown, hts⟩ (m_fails l hst g base n L (by omega) (st y 0 0 0 0) ch r0 st_eq 0 1 (by decide)) (cwV 2 hts gX4_pass_X4_fails rfl rfl rfl (by decide +kernel) ⟨Nat.le_of_ble_eq_true rfl, Nat.le_of_ble_eq_true rfl⟩) (hPW.preV hP hS (ci := 6) rfl (by omega) mw_o) rfl rfl hl.1 rfl (lv_room (Nat.le_of_ble_eq_true rfl)) dX4_pass_12 ⟨Nat.le_of_ble_eq_true rfl, Nat.le_of_ble_eq_true rfl⟩) hS (fun r12 u12 H locs h12 hP hS => ?_)
    obtain ⟨rfl, -, e9⟩ : r12 = 0 ∧ True ∧ u12 = st y 0 0 0 0 := by rcases h12 with ⟨a, -, b⟩ | ⟨-, b, -⟩; exact ⟨a, trivial, b⟩; exact absurd rfl b
    have e9 := e9.symm
    subst e9
    refine lv_if_ne (tgt := 52) hx hb dX4_pass_15 (by decide) (fun c15 => absurd c15 (by decide)) (fun c15 => ?_)
    refine lv_aload_n hx hb dX4_pass_18 rfl (lv_at hl 0 rfl) ?_
    refine lv_iload_n hx hb dX4_pass_19 rfl (lv_at hl 2 rfl) ?_
    refine lv_iconst (v := 1) hx hb dX4_pass_20 (by decide) ?_
    refine lv_sipush (v := 999) hx hb dX4_pass_21 (by decide) ?_
    refine wx_calli (va_runS (As := [.int p1, .int 1, .int 999]) (rest := [.ref (L 106)]) ⟨hx, hb, hml, hown, hts⟩ (m_in l hst g base n L (mw g L (st y 0 0 0 0) ch r0) p1 1 999) (va_cwS 3 hts gX4_pass_X4_in rfl rfl rfl (by decide +kernel) ⟨Nat.le_of_ble_eq_true rfl, Nat.le_of_ble_eq_true rfl⟩) (hPW.preS hP hS) rfl rfl hl.1 rfl (lv_room (Nat.le_of_ble_eq_true rfl)) dX4_pass_24 ⟨Nat.le_of_ble_eq_true rfl, Nat.le_of_ble_eq_true rfl⟩) hS (fun r24 u24 H locs h24 hP hS => ?_)
    rcases h24 with ⟨rfl, h24⟩ | ⟨rfl, h24⟩
    · refine lv_if_ne (tgt := 34) hx hb dX4_pass_27 (by decide) (fun c27 => ?_) (fun c27 => absurd c27 (by decide))
      refine lv_iconst (v := 0) hx hb dX4_pass_34 (by decide) ?_
      refine lv_iconst (v := 2) hx hb dX4_pass_35 (by decide) ?_
      refine wx_calli (va_runV (As := [.int 0, .int 2]) (rest := []) ⟨hx, hb, hml, hown, hts⟩ (m_fails l hst g base n L (by omega) (st y 0 0 0 0) ch r0 st_eq 0 2 (by decide)) (cwV 2 hts gX4_pass_X4_fails rfl rfl rfl (by decide +kernel) ⟨Nat.le_of_ble_eq_true rfl, Nat.le_of_ble_eq_true rfl⟩) (hPW.preV hP hS (ci := 6) rfl (by omega) mw_o) rfl rfl hl.1 rfl (lv_room (Nat.le_of_ble_eq_true rfl)) dX4_pass_36 ⟨Nat.le_of_ble_eq_true rfl, Nat.le_of_ble_eq_true rfl⟩) hS (fun r36 u36 H locs h36 hP hS => ?_)
      obtain ⟨rfl, -, e9⟩ : r36 = 0 ∧ True ∧ u36 = st y 0 0 0 0 := by rcases h36 with ⟨a, -, b⟩ | ⟨-, b, -⟩; exact ⟨a, trivial, b⟩; exact absurd rfl b
      have e9 := e9.symm
      subst e9
      refine lv_if_ne (tgt := 52) hx hb dX4_pass_39 (by decide) (fun c39 => absurd c39 (by decide)) (fun c39 => ?_)
      refine lv_aload_n hx hb dX4_pass_42 rfl (lv_at hl 0 rfl) ?_
      refine wx_get (D := g.1) (cl := vwCl) (ci := 6) (v := .ref (L 109)) (C := RX4) (T := TX4) (N := 22) hx hb hts iX4 hown hK hP (106) (by omega) mw_o rfl 8 (by decide) (hts (.fieldLink RX4 20 "FerroDeskModel" "shown" "[I") (by decide +kernel)) (fun _ h9 => h9) rfl dX4_pass_43 ?_
      refine lv_iload_n hx hb dX4_pass_46 rfl (lv_at hl 1 rfl) ?_
      refine wx_ialdv (D := g.1) (cl := vwCl) (N := 6) (f := fun j9 => (st y 0 0 0 0) 12 0 j9) (v := (st y 0 0 0 0) 12 0 j8) hx hb hK hP (109) 0 (by omega) (mw_a (by decide) (by decide)) rfl (i := (nI j8)) (by exact vp_in_nI (by omega) (by decide)) (by rw [nI_clamp (by omega)]) dX4_pass_47 ?_
      refine lv_iconst (v := (-1)) hx hb dX4_pass_48 (by decide) ?_
      refine lv_icmp_ne (tgt := 54) hx hb dX4_pass_49 (by decide) (fun c49 => ?_) (fun c49 => ?_)
      · obtain ⟨kq, hkq, ekq⟩ := (hM.tz.sh j8 (by omega)).resolve_left c49
        refine lv_aload_n hx hb dX4_pass_54 rfl (lv_at hl 0 rfl) ?_
        refine wx_get (D := g.1) (cl := vwCl) (ci := 6) (v := .ref (L 109)) (C := RX4) (T := TX4) (N := 22) hx hb hts iX4 hown hK hP (106) (by omega) mw_o rfl 8 (by decide) (hts (.fieldLink RX4 20 "FerroDeskModel" "shown" "[I") (by decide +kernel)) (fun _ h9 => h9) rfl dX4_pass_55 ?_
        refine lv_iload_n hx hb dX4_pass_58 rfl (lv_at hl 1 rfl) ?_
        refine wx_ialdv (D := g.1) (cl := vwCl) (N := 6) (f := fun j9 => (st y 0 0 0 0) 12 0 j9) (v := (st y 0 0 0 0) 12 0 j8) hx hb hK hP (109) 0 (by omega) (mw_a (by decide) (by decide)) rfl (i := (nI j8)) (by exact vp_in_nI (by omega) (by decide)) (by rw [nI_clamp (by omega)]) dX4_pass_59 ?_
        rw [ekq]
        refine lv_istore_n (lv' := [(3, .int (nI kq)), (0, .ref (L 106)), (1, .int (nI j8)), (2, .int p1)]) hx hb dX4_pass_60 rfl hl (by decide) rfl (fun ls hl => ?_)
        refine lv_aload_n hx hb dX4_pass_61 rfl (lv_at hl 1 rfl) ?_
        refine wx_get (D := g.1) (cl := vwCl) (ci := 6) (v := .ref (L 121)) (C := RX4) (T := TX4) (N := 22) hx hb hts iX4 hown hK hP (106) (by omega) mw_o rfl 20 (by decide) (hts (.fieldLink RX4 57 "FerroDeskModel" "readAt" "[I") (by decide +kernel)) (fun _ h9 => h9) rfl dX4_pass_62 ?_
        refine lv_bipush (v := 6) hx hb dX4_pass_65 (by decide) ?_
        refine lv_iload_n hx hb dX4_pass_67 rfl (lv_at hl 0 rfl) ?_
        refine lv_imul hx hb dX4_pass_68 ?_
        refine lv_iload_n hx hb dX4_pass_69 rfl (lv_at hl 2 rfl) ?_
        refine lv_iadd hx hb dX4_pass_70 ?_
        refine lv_dup2_11 hx hb dX4_pass_71 rfl rfl ?_
        refine wx_ialdv (D := g.1) (cl := vwCl) (N := 240) (f := fun j9 => (st y 0 0 0 0) 24 0 j9) (v := (st y 0 0 0 0) 24 0 (6 * kq + j8)) hx hb hK hP (121) 0 (by omega) (mw_a (by decide) (by decide)) rfl (i := (6 * (nI kq)) + (nI j8)) (by simp only [m6, nI_add]; exact vp_in_nI (by omega) (by decide)) (by simp only [m6, nI_add]; rw [nI_clamp (by omega)]) dX4_pass_72 ?_
        refine lv_iload_n hx hb dX4_pass_73 rfl (lv_at hl 3 rfl) ?_
        refine lv_iadd hx hb dX4_pass_74 ?_
        refine wx_iast (D := g.1) (cl := vwCl) (N := 240) (f := fun j9 => (st y 0 0 0 0) 24 0 j9) (w' := mw g L (st (st y 0 0 0 0) 24 0 (6 * kq + j8) (((st y 0 0 0 0) 24 0 (6 * kq + j8)) + p1)) ch r0) hx hb hK hP hJ hS (121) 0 (by omega) (mw_a (by decide) (by decide)) rfl (i := (6 * (nI kq)) + (nI j8)) (by simp only [m6, nI_add]; exact vp_in_nI (by omega) (by decide)) dX4_pass_75 (by simp only [m6, nI_add]; rw [nI_clamp (by omega)]; exact mw_st (r := 24) rfl (by decide) (by decide) rfl rfl rfl) (fun H locs hP hS => ?_)
        refine lv_aload_n hx hb dX4_pass_76 rfl (lv_at hl 1 rfl) ?_
        refine wx_get (D := g.1) (cl := vwCl) (ci := 6) (v := .ref (L 122)) (C := RX4) (T := TX4) (N := 22) hx hb hts iX4 hown hK hP (106) (by omega) mw_o rfl 21 (by decide) (hts (.fieldLink RX4 61 "FerroDeskModel" "readIn" "[I") (by decide +kernel)) (fun _ h9 => h9) rfl dX4_pass_77 ?_
        refine lv_sipush (v := 2001) hx hb dX4_pass_80 (by decide) ?_
        refine lv_iload_n hx hb dX4_pass_83 rfl (lv_at hl 0 rfl) ?_
        refine lv_imul hx hb dX4_pass_84 ?_
        refine lv_aload_n hx hb dX4_pass_85 rfl (lv_at hl 1 rfl) ?_
        refine wx_get (D := g.1) (cl := vwCl) (ci := 6) (v := .int ((st (st y 0 0 0 0) 24 0 (6 * kq + j8) (((st y 0 0 0 0) 24 0 (6 * kq + j8)) + p1)) 1 0 0)) (C := RX4) (T := TX4) (N := 22) hx hb hts iX4 hown hK hP (106) (by omega) mw_o rfl 1 (by decide) (hts (.fieldLink RX4 101 "FerroDeskModel" "hour" "I") (by decide +kernel)) (fun _ h9 => h9) rfl dX4_pass_86 ?_
        refine lv_iadd hx hb dX4_pass_89 ?_
        refine lv_dup2_11 hx hb dX4_pass_90 rfl rfl ?_
        refine wx_ialdv (D := g.1) (cl := vwCl) (N := 80040) (f := fun j9 => (st (st y 0 0 0 0) 24 0 (6 * kq + j8) (((st y 0 0 0 0) 24 0 (6 * kq + j8)) + p1)) 25 0 j9) (v := (st (st y 0 0 0 0) 24 0 (6 * kq + j8) (((st y 0 0 0 0) 24 0 (6 * kq + j8)) + p1)) 25 0 (2001 * kq + hr9)) hx hb hK hP (122) 0 (by omega) (mw_a (by decide) (by decide)) rfl (i := (2001 * (nI kq)) + ((st (st y 0 0 0 0) 24 0 (6 * kq + j8) (((st y 0 0 0 0) 24 0 (6 * kq + j8)) + p1)) 1 0 0)) (by simp only [show (st (st y 0 0 0 0) 24 0 (6 * kq + j8) (((st y 0 0 0 0) 24 0 (6 * kq + j8)) + p1)) 1 0 0 = nI hr9 from (by repeat (first | exact hyh | rw [st_nr (by omega)])), m2001, nI_add]; exact vp_in_nI (by omega) (by decide)) (by simp only [show (st (st y 0 0 0 0) 24 0 (6 * kq + j8) (((st y 0 0 0 0) 24 0 (6 * kq + j8)) + p1)) 1 0 0 = nI hr9 from (by repeat (first | exact hyh | rw [st_nr (by omega)])), m2001, nI_add]; rw [nI_clamp (by omega)]) dX4_pass_91 ?_
        refine lv_iload_n hx hb dX4_pass_92 rfl (lv_at hl 3 rfl) ?_
        refine lv_iadd hx hb dX4_pass_93 ?_
        refine wx_iast (D := g.1) (cl := vwCl) (N := 80040) (f := fun j9 => (st (st y 0 0 0 0) 24 0 (6 * kq + j8) (((st y 0 0 0 0) 24 0 (6 * kq + j8)) + p1)) 25 0 j9) (w' := mw g L (st (st (st y 0 0 0 0) 24 0 (6 * kq + j8) (((st y 0 0 0 0) 24 0 (6 * kq + j8)) + p1)) 25 0 (2001 * kq + hr9) (((st (st y 0 0 0 0) 24 0 (6 * kq + j8) (((st y 0 0 0 0) 24 0 (6 * kq + j8)) + p1)) 25 0 (2001 * kq + hr9)) + p1)) ch r0) hx hb hK hP hJ hS (122) 0 (by omega) (mw_a (by decide) (by decide)) rfl (i := (2001 * (nI kq)) + ((st (st y 0 0 0 0) 24 0 (6 * kq + j8) (((st y 0 0 0 0) 24 0 (6 * kq + j8)) + p1)) 1 0 0)) (by simp only [show (st (st y 0 0 0 0) 24 0 (6 * kq + j8) (((st y 0 0 0 0) 24 0 (6 * kq + j8)) + p1)) 1 0 0 = nI hr9 from (by repeat (first | exact hyh | rw [st_nr (by omega)])), m2001, nI_add]; exact vp_in_nI (by omega) (by decide)) dX4_pass_94 (by simp only [show (st (st y 0 0 0 0) 24 0 (6 * kq + j8) (((st y 0 0 0 0) 24 0 (6 * kq + j8)) + p1)) 1 0 0 = nI hr9 from (by repeat (first | exact hyh | rw [st_nr (by omega)])), m2001, nI_add]; rw [nI_clamp (by omega)]; exact mw_st (r := 25) rfl (by decide) (by decide) rfl rfl rfl) (fun H locs hP hS => ?_)
        refine lv_aload_n hx hb dX4_pass_95 rfl (lv_at hl 1 rfl) ?_
        refine wx_get (D := g.1) (cl := vwCl) (ci := 6) (v := .ref (L 121)) (C := RX4) (T := TX4) (N := 22) hx hb hts iX4 hown hK hP (106) (by omega) mw_o rfl 20 (by decide) (hts (.fieldLink RX4 57 "FerroDeskModel" "readAt" "[I") (by decide +kernel)) (fun _ h9 => h9) rfl dX4_pass_96 ?_
        refine lv_bipush (v := 6) hx hb dX4_pass_99 (by decide) ?_
        refine lv_iload_n hx hb dX4_pass_101 rfl (lv_at hl 0 rfl) ?_
        refine lv_imul hx hb dX4_pass_102 ?_
        refine lv_iload_n hx hb dX4_pass_103 rfl (lv_at hl 2 rfl) ?_
        refine lv_iadd hx hb dX4_pass_104 ?_
        refine wx_ialdv (D := g.1) (cl := vwCl) (N := 240) (f := fun j9 => (st (st (st y 0 0 0 0) 24 0 (6 * kq + j8) (((st y 0 0 0 0) 24 0 (6 * kq + j8)) + p1)) 25 0 (2001 * kq + hr9) (((st (st y 0 0 0 0) 24 0 (6 * kq + j8) (((st y 0 0 0 0) 24 0 (6 * kq + j8)) + p1)) 25 0 (2001 * kq + hr9)) + p1)) 24 0 j9) (v := (st (st (st y 0 0 0 0) 24 0 (6 * kq + j8) (((st y 0 0 0 0) 24 0 (6 * kq + j8)) + p1)) 25 0 (2001 * kq + hr9) (((st (st y 0 0 0 0) 24 0 (6 * kq + j8) (((st y 0 0 0 0) 24 0 (6 * kq + j8)) + p1)) 25 0 (2001 * kq + hr9)) + p1)) 24 0 (6 * kq + j8)) hx hb hK hP (121) 0 (by omega) (mw_a (by decide) (by decide)) rfl (i := (6 * (nI kq)) + (nI j8)) (by simp only [m6, nI_add]; exact vp_in_nI (by omega) (by decide)) (by simp only [m6, nI_add]; rw [nI_clamp (by omega)]) dX4_pass_105 ?_
        refine W.widen (k := 0) (n := 0) (Nat.le_of_ble_eq_true rfl) (Nat.le_of_ble_eq_true rfl) ?_
        exact W.iret (v := (st (st (st y 0 0 0 0) 24 0 (6 * kq + j8) (((st y 0 0 0 0) 24 0 (6 * kq + j8)) + p1)) 25 0 (2001 * kq + hr9) (((st (st y 0 0 0 0) 24 0 (6 * kq + j8) (((st y 0 0 0 0) 24 0 (6 * kq + j8)) + p1)) 25 0 (2001 * kq + hr9)) + p1)) 24 0 (6 * kq + j8)) hx hb hr (fun t ht hW => ⟨⟨(st (st (st y 0 0 0 0) 24 0 (6 * kq + j8) (((st y 0 0 0 0) 24 0 (6 * kq + j8)) + p1)) 25 0 (2001 * kq + hr9) (((st (st y 0 0 0 0) 24 0 (6 * kq + j8) (((st y 0 0 0 0) 24 0 (6 * kq + j8)) + p1)) 25 0 (2001 * kq + hr9)) + p1)) 24 0 (6 * kq + j8), (st (st (st y 0 0 0 0) 24 0 (6 * kq + j8) (((st y 0 0 0 0) 24 0 (6 * kq + j8)) + p1)) 25 0 (2001 * kq + hr9) (((st (st y 0 0 0 0) 24 0 (6 * kq + j8) (((st y 0 0 0 0) 24 0 (6 * kq + j8)) + p1)) 25 0 (2001 * kq + hr9)) + p1), ch), rfl, Or.inr ⟨j8, hj8, rfl, Or.inr ⟨(by (try revert h24); (try simp only [xor_m1]); (try simp only [Int32.lt_iff_toInt_lt, Int32.le_iff_toInt_le, ← Int32.toInt_inj, i_0, i_1, i_2, i_3, i_4, i_6, i_9, i_20, i_32, i_40, i_48, i_60, i_200, i_999, i_2000, i_m1, i_8]); (try simp only [i_8, i_7]); omega), Or.inr ⟨kq, hkq, ekq, rfl, rfl⟩⟩⟩, PB.mk9 hP ht⟩, hS.F ht⟩) hS.2.2 dX4_pass_106
      · refine lv_iconst (v := 0) hx hb dX4_pass_52 (by decide) ?_
        refine W.widen (k := 0) (n := 0) (Nat.le_of_ble_eq_true rfl) (Nat.le_of_ble_eq_true rfl) ?_
        exact W.iret (v := 0) hx hb hr (fun t ht hW => ⟨⟨0, (st y 0 0 0 0, ch), rfl, Or.inr ⟨j8, hj8, rfl, Or.inr ⟨(by (try revert h24); (try simp only [xor_m1]); (try simp only [Int32.lt_iff_toInt_lt, Int32.le_iff_toInt_le, ← Int32.toInt_inj, i_0, i_1, i_2, i_3, i_4, i_6, i_9, i_20, i_32, i_40, i_48, i_60, i_200, i_999, i_2000, i_m1, i_8]); (try simp only [i_8, i_7]); omega), Or.inl ⟨c49, rfl, rfl⟩⟩⟩, PB.mk9 hP ht⟩, hS.F ht⟩) hS.2.2 dX4_pass_53
    · refine lv_if_ne (tgt := 34) hx hb dX4_pass_27 (by decide) (fun c27 => absurd c27 (by decide)) (fun c27 => ?_)
      refine lv_iconst (v := 1) hx hb dX4_pass_30 (by decide) ?_
      refine lv_goto (tgt := 35) hx hb dX4_pass_31 (by decide) ?_
      refine lv_iconst (v := 2) hx hb dX4_pass_35 (by decide) ?_
      refine wx_calli (va_runV (As := [.int 1, .int 2]) (rest := []) ⟨hx, hb, hml, hown, hts⟩ (m_fails l hst g base n L (by omega) (st y 0 0 0 0) ch r0 st_eq 1 2 (by decide)) (cwV 2 hts gX4_pass_X4_fails rfl rfl rfl (by decide +kernel) ⟨Nat.le_of_ble_eq_true rfl, Nat.le_of_ble_eq_true rfl⟩) (hPW.preV hP hS (ci := 6) rfl (by omega) mw_o) rfl rfl hl.1 rfl (lv_room (Nat.le_of_ble_eq_true rfl)) dX4_pass_36 ⟨Nat.le_of_ble_eq_true rfl, Nat.le_of_ble_eq_true rfl⟩) hS (fun r36 u36 H locs h36 hP hS => ?_)
      obtain ⟨rfl, -, e9⟩ : r36 = 1 ∧ True ∧ u36 = st (st y 0 0 0 0) 0 0 0 2 := by rcases h36 with ⟨-, b, -⟩ | ⟨a, -, b⟩; exact absurd b (by decide); exact ⟨a, trivial, b⟩
      have e9 := e9.symm
      subst e9
      refine lv_if_ne (tgt := 52) hx hb dX4_pass_39 (by decide) (fun c39 => ?_) (fun c39 => absurd c39 (by decide))
      refine lv_iconst (v := 0) hx hb dX4_pass_52 (by decide) ?_
      refine W.widen (k := 0) (n := 0) (Nat.le_of_ble_eq_true rfl) (Nat.le_of_ble_eq_true rfl) ?_
      exact W.iret (v := 0) hx hb hr (fun t ht hW => ⟨⟨0, (st (st y 0 0 0 0) 0 0 0 2, ch), rfl, Or.inr ⟨j8, hj8, rfl, Or.inl ⟨(by (try revert h24); (try simp only [xor_m1]); (try simp only [Int32.lt_iff_toInt_lt, Int32.le_iff_toInt_le, ← Int32.toInt_inj, i_0, i_1, i_2, i_3, i_4, i_6, i_9, i_20, i_32, i_40, i_48, i_60, i_200, i_999, i_2000, i_m1, i_8]); (try simp only [i_8, i_7]); omega), rfl⟩⟩, PB.mk9 hP ht⟩, hS.F ht⟩) hS.2.2 dX4_pass_53

set_option maxHeartbeats 4000000 in
set_option maxRecDepth 100000 in
theorem m_readers (l : Launch) (hst : l.stackTraces = false) (g : gE) (base n : Nat) (L : Nat → Nat) (hn : 123 ≤ n) (y : St) (ch : Int64) (r0 : Nat → va_E) (nb nn : Nat) (hM : MI y nb nn) (p0 p1 : Int32) : Met l yX4_readers wsX4_readers ({ frames := 2, cells := 0, slots := 0, locals := 120 }) (va_Pc [.ref (L 106), .int p0, .int p1] (PW SS g base n L (mw g L y ch r0))) (va_Qi (fun (r : Int32) (u : MS) => ((p0.toInt < 0 ∨ nn ≤ p0.toInt) ∧ u = (st (st y 0 0 0 0) 0 0 0 1, ch)) ∨ (∃ j, j < nn ∧ p0 = nI j ∧ (((p1.toInt < 0 ∨ 3 < p1.toInt) ∧ u = (st (st y 0 0 0 0) 0 0 0 2, ch)) ∨ ((0 ≤ p1.toInt ∧ p1.toInt ≤ 3) ∧ u = (st y 0 0 0 0, ch) ∧ r = riM (st y 0 0 0 0) j p1 nb)))) (fun (u : MS) t => PB g n L (mw g L u.1 u.2 r0) t) (fun q => base ≤ q)) 0 0 (fun q => base ≤ q) := by
  refine Met.ofW (cc := cX4_readers) (maxL := 3) (ret := (some .int)) (by decide) rfl ?_
  intro p e s m args below meth c s₁ B hml hv
  obtain ⟨rfl, hPW⟩ := hv
  obtain ⟨hbs, hJ, hP, hK, hE⟩ := id hPW
  have hx := B.exec
  have hb := B.bytes
  have hr := B.returns
  have hts := atoms_spec (ws := wsX4_readers) B.pre
  have hown : s.vm.findClass RX4 = some m.cls := findClass_of_methodNamed B.named
  have hlocks := B.notSynchronized
  have hS : va_S (fun q : Nat => base ≤ q) s.heap s.heap [] := va_S.rf
  have hl := lv_entry ([.ref (L 106), .int p0, .int p1]) (n := 3) (Nat.le_of_ble_eq_true rfl)
  rw [lg_entry_eq]
  generalize (lg_sl ([.ref (L 106), .int p0, .int p1]) ++ List.replicate (3 - (lg_sl ([.ref (L 106), .int p0, .int p1])).length) Slot.unset).toArray = ls at hl ⊢
  have hl : lv_has ls 3 [(0, .ref (L 106)), (1, .int p0), (2, .int p1)] := hl
  have iX4 : ∀ w ∈ wsX40, w ∈ wsX4_readers := by decide +kernel
  have hnb := hM.nb6
  have hnn := hM.nn40
  have hy3 := hM.y3
  have hy4 := hM.y4
  have hT3 : (st y 0 0 0 0) 3 0 0 = nI nb := (st_nr (by omega)).trans hy3
  have hT4 : (st y 0 0 0 0) 4 0 0 = nI nn := (st_nr (by omega)).trans hy4
  refine lv_aload_n hx hb dX4_readers_0 rfl (lv_at hl 0 rfl) ?_
  refine lv_iconst (v := 0) hx hb dX4_readers_1 (by decide) ?_
  refine wx_put (D := g.1) (cl := vwCl) (ci := 6) (v := .int 0) (ty := .int) (w' := mw g L (st y 0 0 0 0) ch r0) (C := RX4) (T := TX4) (N := 22) hx hb hts iX4 tyX4 tyX4_ok nmX4 hown hK hP hJ hS (106) (by omega) mw_o rfl 0 (by decide) (hts (.fieldLink RX4 64 "FerroDeskModel" "thrown" "I") (by decide +kernel)) (fun _ h9 => h9) rfl (by decide +kernel) rfl rfl (Nat.le_of_ble_eq_true rfl) dX4_readers_2 (mw_put (r := 0) (i := 0) (j := 0) rfl (by omega) (mk_o.trans (by simp [mF, st]))) (fun H locs hP hS => ?_)
  refine lv_aload_n hx hb dX4_readers_5 rfl (lv_at hl 0 rfl) ?_
  refine lv_aload_n hx hb dX4_readers_6 rfl (lv_at hl 0 rfl) ?_
  refine lv_iload_n hx hb dX4_readers_7 rfl (lv_at hl 1 rfl) ?_
  refine wx_calli (va_runV (As := [.int p0]) (rest := [.ref (L 106)]) ⟨hx, hb, hml, hown, hts⟩ (m_noNotice l hst g base n L (by omega) (st y 0 0 0 0) ch r0 nn hnn (by repeat (first | exact hy4 | rw [st_nr (by omega)])) p0) (cwV 1 hts gX4_readers_X4_noNotice rfl rfl rfl (by decide +kernel) ⟨Nat.le_of_ble_eq_true rfl, Nat.le_of_ble_eq_true rfl⟩) (hPW.preV hP hS (ci := 6) rfl (by omega) mw_o) rfl rfl hl.1 rfl (lv_room (Nat.le_of_ble_eq_true rfl)) dX4_readers_8 ⟨Nat.le_of_ble_eq_true rfl, Nat.le_of_ble_eq_true rfl⟩) hS (fun r8 u8 H locs h8 hP hS => ?_)
  rcases h8 with ⟨rfl, h8⟩ | ⟨rfl, k8, hk8, rfl⟩
  · refine lv_iconst (v := 1) hx hb dX4_readers_11 (by decide) ?_
    refine wx_calli (va_runV (As := [.int 1, .int 1]) (rest := []) ⟨hx, hb, hml, hown, hts⟩ (m_fails l hst g base n L (by omega) (st y 0 0 0 0) ch r0 st_eq 1 1 (by decide)) (cwV 2 hts gX4_readers_X4_fails rfl rfl rfl (by decide +kernel) ⟨Nat.le_of_ble_eq_true rfl, Nat.le_of_ble_eq_true rfl⟩) (hPW.preV hP hS (ci := 6) rfl (by omega) mw_o) rfl rfl hl.1 rfl (lv_room (Nat.le_of_ble_eq_true rfl)) dX4_readers_12 ⟨Nat.le_of_ble_eq_true rfl, Nat.le_of_ble_eq_true rfl⟩) hS (fun r12 u12 H locs h12 hP hS => ?_)
    obtain ⟨rfl, -, e9⟩ : r12 = 1 ∧ True ∧ u12 = st (st y 0 0 0 0) 0 0 0 1 := by rcases h12 with ⟨-, b, -⟩ | ⟨a, -, b⟩; exact absurd b (by decide); exact ⟨a, trivial, b⟩
    have e9 := e9.symm
    subst e9
    refine lv_if_ne (tgt := 30) hx hb dX4_readers_15 (by decide) (fun c15 => ?_) (fun c15 => absurd c15 (by decide))
    refine lv_iconst (v := 0) hx hb dX4_readers_30 (by decide) ?_
    refine lv_goto (tgt := 40) hx hb dX4_readers_31 (by decide) ?_
    refine W.widen (k := 0) (n := 0) (Nat.le_of_ble_eq_true rfl) (Nat.le_of_ble_eq_true rfl) ?_
    exact W.iret (v := 0) hx hb hr (fun t ht hW => ⟨⟨0, (st (st y 0 0 0 0) 0 0 0 1, ch), rfl, Or.inl ⟨h8, rfl⟩, PB.mk9 hP ht⟩, hS.F ht⟩) hS.2.2 dX4_readers_40
  · refine lv_iconst (v := 1) hx hb dX4_readers_11 (by decide) ?_
    refine wx_calli (va_runV (As := [.int 0, .int 1]) (rest := []) ⟨hx, hb, hml, hown, hts⟩ (m_fails l hst g base n L (by omega) (st y 0 0 0 0) ch r0 st_eq 0 1 (by decide)) (cwV 2 hts gX4_readers_X4_fails rfl rfl rfl (by decide +kernel) ⟨Nat.le_of_ble_eq_true rfl, Nat.le_of_ble_eq_true rfl⟩) (hPW.preV hP hS (ci := 6) rfl (by omega) mw_o) rfl rfl hl.1 rfl (lv_room (Nat.le_of_ble_eq_true rfl)) dX4_readers_12 ⟨Nat.le_of_ble_eq_true rfl, Nat.le_of_ble_eq_true rfl⟩) hS (fun r12 u12 H locs h12 hP hS => ?_)
    obtain ⟨rfl, -, e9⟩ : r12 = 0 ∧ True ∧ u12 = st y 0 0 0 0 := by rcases h12 with ⟨a, -, b⟩ | ⟨-, b, -⟩; exact ⟨a, trivial, b⟩; exact absurd rfl b
    have e9 := e9.symm
    subst e9
    refine lv_if_ne (tgt := 30) hx hb dX4_readers_15 (by decide) (fun c15 => absurd c15 (by decide)) (fun c15 => ?_)
    refine lv_aload_n hx hb dX4_readers_18 rfl (lv_at hl 0 rfl) ?_
    refine lv_iload_n hx hb dX4_readers_19 rfl (lv_at hl 2 rfl) ?_
    refine wx_calli (va_runS (As := [.int p1]) (rest := [.ref (L 106)]) ⟨hx, hb, hml, hown, hts⟩ (m_noDistrict l hst g base n L (mw g L (st y 0 0 0 0) ch r0) p1) (va_cwS 1 hts gX4_readers_X4_noDistrict rfl rfl rfl (by decide +kernel) ⟨Nat.le_of_ble_eq_true rfl, Nat.le_of_ble_eq_true rfl⟩) (hPW.preS hP hS) rfl rfl hl.1 rfl (lv_room (Nat.le_of_ble_eq_true rfl)) dX4_readers_20 ⟨Nat.le_of_ble_eq_true rfl, Nat.le_of_ble_eq_true rfl⟩) hS (fun r20 u20 H locs h20 hP hS => ?_)
    rcases h20 with ⟨rfl, h20⟩ | ⟨rfl, d20, hd20, rfl⟩
    · refine lv_iconst (v := 2) hx hb dX4_readers_23 (by decide) ?_
      refine wx_calli (va_runV (As := [.int 1, .int 2]) (rest := []) ⟨hx, hb, hml, hown, hts⟩ (m_fails l hst g base n L (by omega) (st y 0 0 0 0) ch r0 st_eq 1 2 (by decide)) (cwV 2 hts gX4_readers_X4_fails rfl rfl rfl (by decide +kernel) ⟨Nat.le_of_ble_eq_true rfl, Nat.le_of_ble_eq_true rfl⟩) (hPW.preV hP hS (ci := 6) rfl (by omega) mw_o) rfl rfl hl.1 rfl (lv_room (Nat.le_of_ble_eq_true rfl)) dX4_readers_24 ⟨Nat.le_of_ble_eq_true rfl, Nat.le_of_ble_eq_true rfl⟩) hS (fun r24 u24 H locs h24 hP hS => ?_)
      obtain ⟨rfl, -, e9⟩ : r24 = 1 ∧ True ∧ u24 = st (st y 0 0 0 0) 0 0 0 2 := by rcases h24 with ⟨-, b, -⟩ | ⟨a, -, b⟩; exact absurd b (by decide); exact ⟨a, trivial, b⟩
      have e9 := e9.symm
      subst e9
      refine lv_if_eq (tgt := 34) hx hb dX4_readers_27 (by decide) (fun c27 => absurd c27 (by decide)) (fun c27 => ?_)
      refine lv_iconst (v := 0) hx hb dX4_readers_30 (by decide) ?_
      refine lv_goto (tgt := 40) hx hb dX4_readers_31 (by decide) ?_
      refine W.widen (k := 0) (n := 0) (Nat.le_of_ble_eq_true rfl) (Nat.le_of_ble_eq_true rfl) ?_
      exact W.iret (v := 0) hx hb hr (fun t ht hW => ⟨⟨0, (st (st y 0 0 0 0) 0 0 0 2, ch), rfl, Or.inr ⟨k8, hk8, rfl, Or.inl ⟨h20, rfl⟩⟩, PB.mk9 hP ht⟩, hS.F ht⟩) hS.2.2 dX4_readers_40
    · refine lv_iconst (v := 2) hx hb dX4_readers_23 (by decide) ?_
      refine wx_calli (va_runV (As := [.int 0, .int 2]) (rest := []) ⟨hx, hb, hml, hown, hts⟩ (m_fails l hst g base n L (by omega) (st y 0 0 0 0) ch r0 st_eq 0 2 (by decide)) (cwV 2 hts gX4_readers_X4_fails rfl rfl rfl (by decide +kernel) ⟨Nat.le_of_ble_eq_true rfl, Nat.le_of_ble_eq_true rfl⟩) (hPW.preV hP hS (ci := 6) rfl (by omega) mw_o) rfl rfl hl.1 rfl (lv_room (Nat.le_of_ble_eq_true rfl)) dX4_readers_24 ⟨Nat.le_of_ble_eq_true rfl, Nat.le_of_ble_eq_true rfl⟩) hS (fun r24 u24 H locs h24 hP hS => ?_)
      obtain ⟨rfl, -, e9⟩ : r24 = 0 ∧ True ∧ u24 = st y 0 0 0 0 := by rcases h24 with ⟨a, -, b⟩ | ⟨-, b, -⟩; exact ⟨a, trivial, b⟩; exact absurd rfl b
      have e9 := e9.symm
      subst e9
      refine lv_if_eq (tgt := 34) hx hb dX4_readers_27 (by decide) (fun c27 => ?_) (fun c27 => absurd (by decide) c27)
      refine lv_aload_n hx hb dX4_readers_34 rfl (lv_at hl 0 rfl) ?_
      refine lv_iload_n hx hb dX4_readers_35 rfl (lv_at hl 1 rfl) ?_
      refine lv_iload_n hx hb dX4_readers_36 rfl (lv_at hl 2 rfl) ?_
      refine wx_calli (va_runV (As := [.int (nI k8), .int (nI d20)]) (rest := []) ⟨hx, hb, hml, hown, hts⟩ (m_readersOf l hst g base n L (by omega) (st y 0 0 0 0) ch r0 nb hnb hT3 k8 (by omega) (nI d20)) (cwV 2 hts gX4_readers_X4_readersOf rfl rfl rfl (by decide +kernel) ⟨Nat.le_of_ble_eq_true rfl, Nat.le_of_ble_eq_true rfl⟩) (hPW.preV hP hS (ci := 6) rfl (by omega) mw_o) rfl rfl hl.1 rfl (lv_room (Nat.le_of_ble_eq_true rfl)) dX4_readers_37 ⟨Nat.le_of_ble_eq_true rfl, Nat.le_of_ble_eq_true rfl⟩) hS (fun r37 u37 H locs h37 hP hS => ?_)
      obtain rfl := h37
      refine W.widen (k := 0) (n := 0) (Nat.le_of_ble_eq_true rfl) (Nat.le_of_ble_eq_true rfl) ?_
      exact W.iret (v := riM (st y 0 0 0 0) k8 (nI d20) nb) hx hb hr (fun t ht hW => ⟨⟨riM (st y 0 0 0 0) k8 (nI d20) nb, (st y 0 0 0 0, ch), rfl, Or.inr ⟨k8, hk8, rfl, Or.inr ⟨dsOK hd20 rfl, rfl, rfl⟩⟩, PB.mk9 hP ht⟩, hS.F ht⟩) hS.2.2 dX4_readers_40

set_option maxHeartbeats 4000000 in
set_option maxRecDepth 100000 in
theorem m_readIn (l : Launch) (hst : l.stackTraces = false) (g : gE) (base n : Nat) (L : Nat → Nat) (hn : 123 ≤ n) (y : St) (ch : Int64) (r0 : Nat → va_E) (nb nn : Nat) (hM : MI y nb nn) (p0 p1 : Int32) : Met l yX4_readIn wsX4_readIn ({ frames := 2, cells := 0, slots := 0, locals := 120 }) (va_Pc [.ref (L 106), .int p0, .int p1] (PW SS g base n L (mw g L y ch r0))) (va_Qi (fun (r : Int32) (u : MS) => ((p0.toInt < 0 ∨ nn ≤ p0.toInt) ∧ u = (st (st y 0 0 0 0) 0 0 0 1, ch)) ∨ (∃ j, j < nn ∧ p0 = nI j ∧ u = (st y 0 0 0 0, ch) ∧ ((¬ (0 ≤ p1.toInt ∧ p1.toInt ≤ 2000) ∧ r = 0) ∨ (∃ h, h ≤ 2000 ∧ p1 = nI h ∧ r = (st y 0 0 0 0) 25 0 (2001 * j + h))))) (fun (u : MS) t => PB g n L (mw g L u.1 u.2 r0) t) (fun q => base ≤ q)) 0 0 (fun q => base ≤ q) := by
  refine Met.ofW (cc := cX4_readIn) (maxL := 3) (ret := (some .int)) (by decide) rfl ?_
  intro p e s m args below meth c s₁ B hml hv
  obtain ⟨rfl, hPW⟩ := hv
  obtain ⟨hbs, hJ, hP, hK, hE⟩ := id hPW
  have hx := B.exec
  have hb := B.bytes
  have hr := B.returns
  have hts := atoms_spec (ws := wsX4_readIn) B.pre
  have hown : s.vm.findClass RX4 = some m.cls := findClass_of_methodNamed B.named
  have hlocks := B.notSynchronized
  have hS : va_S (fun q : Nat => base ≤ q) s.heap s.heap [] := va_S.rf
  have hl := lv_entry ([.ref (L 106), .int p0, .int p1]) (n := 3) (Nat.le_of_ble_eq_true rfl)
  rw [lg_entry_eq]
  generalize (lg_sl ([.ref (L 106), .int p0, .int p1]) ++ List.replicate (3 - (lg_sl ([.ref (L 106), .int p0, .int p1])).length) Slot.unset).toArray = ls at hl ⊢
  have hl : lv_has ls 3 [(0, .ref (L 106)), (1, .int p0), (2, .int p1)] := hl
  have iX4 : ∀ w ∈ wsX40, w ∈ wsX4_readIn := by decide +kernel
  have hnb := hM.nb6
  have hnn := hM.nn40
  have hy3 := hM.y3
  have hy4 := hM.y4
  have hT3 : (st y 0 0 0 0) 3 0 0 = nI nb := (st_nr (by omega)).trans hy3
  have hT4 : (st y 0 0 0 0) 4 0 0 = nI nn := (st_nr (by omega)).trans hy4
  refine lv_aload_n hx hb dX4_readIn_0 rfl (lv_at hl 0 rfl) ?_
  refine lv_iconst (v := 0) hx hb dX4_readIn_1 (by decide) ?_
  refine wx_put (D := g.1) (cl := vwCl) (ci := 6) (v := .int 0) (ty := .int) (w' := mw g L (st y 0 0 0 0) ch r0) (C := RX4) (T := TX4) (N := 22) hx hb hts iX4 tyX4 tyX4_ok nmX4 hown hK hP hJ hS (106) (by omega) mw_o rfl 0 (by decide) (hts (.fieldLink RX4 64 "FerroDeskModel" "thrown" "I") (by decide +kernel)) (fun _ h9 => h9) rfl (by decide +kernel) rfl rfl (Nat.le_of_ble_eq_true rfl) dX4_readIn_2 (mw_put (r := 0) (i := 0) (j := 0) rfl (by omega) (mk_o.trans (by simp [mF, st]))) (fun H locs hP hS => ?_)
  refine lv_aload_n hx hb dX4_readIn_5 rfl (lv_at hl 0 rfl) ?_
  refine lv_aload_n hx hb dX4_readIn_6 rfl (lv_at hl 0 rfl) ?_
  refine lv_iload_n hx hb dX4_readIn_7 rfl (lv_at hl 1 rfl) ?_
  refine wx_calli (va_runV (As := [.int p0]) (rest := [.ref (L 106)]) ⟨hx, hb, hml, hown, hts⟩ (m_noNotice l hst g base n L (by omega) (st y 0 0 0 0) ch r0 nn hnn (by repeat (first | exact hy4 | rw [st_nr (by omega)])) p0) (cwV 1 hts gX4_readIn_X4_noNotice rfl rfl rfl (by decide +kernel) ⟨Nat.le_of_ble_eq_true rfl, Nat.le_of_ble_eq_true rfl⟩) (hPW.preV hP hS (ci := 6) rfl (by omega) mw_o) rfl rfl hl.1 rfl (lv_room (Nat.le_of_ble_eq_true rfl)) dX4_readIn_8 ⟨Nat.le_of_ble_eq_true rfl, Nat.le_of_ble_eq_true rfl⟩) hS (fun r8 u8 H locs h8 hP hS => ?_)
  rcases h8 with ⟨rfl, h8⟩ | ⟨rfl, k8, hk8, rfl⟩
  · refine lv_iconst (v := 1) hx hb dX4_readIn_11 (by decide) ?_
    refine wx_calli (va_runV (As := [.int 1, .int 1]) (rest := []) ⟨hx, hb, hml, hown, hts⟩ (m_fails l hst g base n L (by omega) (st y 0 0 0 0) ch r0 st_eq 1 1 (by decide)) (cwV 2 hts gX4_readIn_X4_fails rfl rfl rfl (by decide +kernel) ⟨Nat.le_of_ble_eq_true rfl, Nat.le_of_ble_eq_true rfl⟩) (hPW.preV hP hS (ci := 6) rfl (by omega) mw_o) rfl rfl hl.1 rfl (lv_room (Nat.le_of_ble_eq_true rfl)) dX4_readIn_12 ⟨Nat.le_of_ble_eq_true rfl, Nat.le_of_ble_eq_true rfl⟩) hS (fun r12 u12 H locs h12 hP hS => ?_)
    obtain ⟨rfl, -, e9⟩ : r12 = 1 ∧ True ∧ u12 = st (st y 0 0 0 0) 0 0 0 1 := by rcases h12 with ⟨-, b, -⟩ | ⟨a, -, b⟩; exact absurd b (by decide); exact ⟨a, trivial, b⟩
    have e9 := e9.symm
    subst e9
    refine lv_if_ne (tgt := 29) hx hb dX4_readIn_15 (by decide) (fun c15 => ?_) (fun c15 => absurd c15 (by decide))
    refine lv_iconst (v := 0) hx hb dX4_readIn_29 (by decide) ?_
    refine lv_goto (tgt := 45) hx hb dX4_readIn_30 (by decide) ?_
    refine W.widen (k := 0) (n := 0) (Nat.le_of_ble_eq_true rfl) (Nat.le_of_ble_eq_true rfl) ?_
    exact W.iret (v := 0) hx hb hr (fun t ht hW => ⟨⟨0, (st (st y 0 0 0 0) 0 0 0 1, ch), rfl, Or.inl ⟨h8, rfl⟩, PB.mk9 hP ht⟩, hS.F ht⟩) hS.2.2 dX4_readIn_45
  · refine lv_iconst (v := 1) hx hb dX4_readIn_11 (by decide) ?_
    refine wx_calli (va_runV (As := [.int 0, .int 1]) (rest := []) ⟨hx, hb, hml, hown, hts⟩ (m_fails l hst g base n L (by omega) (st y 0 0 0 0) ch r0 st_eq 0 1 (by decide)) (cwV 2 hts gX4_readIn_X4_fails rfl rfl rfl (by decide +kernel) ⟨Nat.le_of_ble_eq_true rfl, Nat.le_of_ble_eq_true rfl⟩) (hPW.preV hP hS (ci := 6) rfl (by omega) mw_o) rfl rfl hl.1 rfl (lv_room (Nat.le_of_ble_eq_true rfl)) dX4_readIn_12 ⟨Nat.le_of_ble_eq_true rfl, Nat.le_of_ble_eq_true rfl⟩) hS (fun r12 u12 H locs h12 hP hS => ?_)
    obtain ⟨rfl, -, e9⟩ : r12 = 0 ∧ True ∧ u12 = st y 0 0 0 0 := by rcases h12 with ⟨a, -, b⟩ | ⟨-, b, -⟩; exact ⟨a, trivial, b⟩; exact absurd rfl b
    have e9 := e9.symm
    subst e9
    refine lv_if_ne (tgt := 29) hx hb dX4_readIn_15 (by decide) (fun c15 => absurd c15 (by decide)) (fun c15 => ?_)
    refine lv_iload_n hx hb dX4_readIn_18 rfl (lv_at hl 2 rfl) ?_
    refine lv_iconst (v := 0) hx hb dX4_readIn_19 (by decide) ?_
    refine lv_sipush (v := 2000) hx hb dX4_readIn_20 (by decide) ?_
    refine wx_calli (va_runS (As := [.int p1, .int 0, .int 2000]) (rest := []) ⟨hx, hb, hml, hown, hts⟩ (m_in l hst g base n L (mw g L (st y 0 0 0 0) ch r0) p1 0 2000) (va_cwS 3 hts gX4_readIn_X4_in rfl rfl rfl (by decide +kernel) ⟨Nat.le_of_ble_eq_true rfl, Nat.le_of_ble_eq_true rfl⟩) (hPW.preS hP hS) rfl rfl hl.1 rfl (lv_room (Nat.le_of_ble_eq_true rfl)) dX4_readIn_23 ⟨Nat.le_of_ble_eq_true rfl, Nat.le_of_ble_eq_true rfl⟩) hS (fun r23 u23 H locs h23 hP hS => ?_)
    rcases h23 with ⟨rfl, h23⟩ | ⟨rfl, h23⟩
    · refine lv_if_ne (tgt := 33) hx hb dX4_readIn_26 (by decide) (fun c26 => ?_) (fun c26 => absurd c26 (by decide))
      obtain ⟨hw, hhw, ehw⟩ := nI_rng (n := 2000) (p := p1) (by (try revert h23); (try simp only [xor_m1]); (try simp only [Int32.lt_iff_toInt_lt, Int32.le_iff_toInt_le, ← Int32.toInt_inj, i_0, i_1, i_2, i_3, i_4, i_6, i_9, i_20, i_32, i_40, i_48, i_60, i_200, i_999, i_2000, i_m1, i_8]); (try simp only [i_8, i_7]); omega) (by (try revert h23); (try simp only [xor_m1]); (try simp only [Int32.lt_iff_toInt_lt, Int32.le_iff_toInt_le, ← Int32.toInt_inj, i_0, i_1, i_2, i_3, i_4, i_6, i_9, i_20, i_32, i_40, i_48, i_60, i_200, i_999, i_2000, i_m1, i_8]); (try simp only [i_8, i_7]); omega)
      refine lv_aload_n hx hb dX4_readIn_33 rfl (lv_at hl 0 rfl) ?_
      refine wx_get (D := g.1) (cl := vwCl) (ci := 6) (v := .ref (L 122)) (C := RX4) (T := TX4) (N := 22) hx hb hts iX4 hown hK hP (106) (by omega) mw_o rfl 21 (by decide) (hts (.fieldLink RX4 61 "FerroDeskModel" "readIn" "[I") (by decide +kernel)) (fun _ h9 => h9) rfl dX4_readIn_34 ?_
      refine lv_sipush (v := 2001) hx hb dX4_readIn_37 (by decide) ?_
      refine lv_iload_n hx hb dX4_readIn_40 rfl (lv_at hl 1 rfl) ?_
      refine lv_imul hx hb dX4_readIn_41 ?_
      refine lv_iload_n hx hb dX4_readIn_42 rfl (lv_at hl 2 rfl) ?_
      rw [ehw]
      refine lv_iadd hx hb dX4_readIn_43 ?_
      refine wx_ialdv (D := g.1) (cl := vwCl) (N := 80040) (f := fun j9 => (st y 0 0 0 0) 25 0 j9) (v := (st y 0 0 0 0) 25 0 (2001 * k8 + hw)) hx hb hK hP (122) 0 (by omega) (mw_a (by decide) (by decide)) rfl (i := (2001 * (nI k8)) + (nI hw)) (by simp only [m2001, nI_add]; exact vp_in_nI (by omega) (by decide)) (by simp only [m2001, nI_add]; rw [nI_clamp (by omega)]) dX4_readIn_44 ?_
      refine W.widen (k := 0) (n := 0) (Nat.le_of_ble_eq_true rfl) (Nat.le_of_ble_eq_true rfl) ?_
      exact W.iret (v := (st y 0 0 0 0) 25 0 (2001 * k8 + hw)) hx hb hr (fun t ht hW => ⟨⟨(st y 0 0 0 0) 25 0 (2001 * k8 + hw), (st y 0 0 0 0, ch), rfl, Or.inr ⟨k8, hk8, rfl, rfl, Or.inr ⟨hw, hhw, rfl, rfl⟩⟩, PB.mk9 hP ht⟩, hS.F ht⟩) hS.2.2 dX4_readIn_45
    · refine lv_if_ne (tgt := 33) hx hb dX4_readIn_26 (by decide) (fun c26 => absurd c26 (by decide)) (fun c26 => ?_)
      refine lv_iconst (v := 0) hx hb dX4_readIn_29 (by decide) ?_
      refine lv_goto (tgt := 45) hx hb dX4_readIn_30 (by decide) ?_
      refine W.widen (k := 0) (n := 0) (Nat.le_of_ble_eq_true rfl) (Nat.le_of_ble_eq_true rfl) ?_
      exact W.iret (v := 0) hx hb hr (fun t ht hW => ⟨⟨0, (st y 0 0 0 0, ch), rfl, Or.inr ⟨k8, hk8, rfl, rfl, Or.inl ⟨(by (try revert h23); (try simp only [xor_m1]); (try simp only [Int32.lt_iff_toInt_lt, Int32.le_iff_toInt_le, ← Int32.toInt_inj, i_0, i_1, i_2, i_3, i_4, i_6, i_9, i_20, i_32, i_40, i_48, i_60, i_200, i_999, i_2000, i_m1, i_8]); (try simp only [i_8, i_7]); omega), rfl⟩⟩, PB.mk9 hP ht⟩, hS.F ht⟩) hS.2.2 dX4_readIn_45

