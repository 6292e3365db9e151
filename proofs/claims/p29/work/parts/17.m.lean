/-! laid by wip/gen -/
set_option maxHeartbeats 4000000 in
set_option maxRecDepth 100000 in
theorem m_canHaveMade (l : Launch) (hst : l.stackTraces = false) (g : gE) (base n : Nat) (L : Nat → Nat) (hn : 123 ≤ n) (y : St) (ch : Int64) (r0 : Nat → va_E) (nb : Nat) (hnb : nb ≤ 6) (hy3 : y 3 0 0 = nI nb) (k0 : Nat) (hk0 : k0 < 40) (p0 p1 : Int32) : Met l yX4_canHaveMade wsX4_canHaveMade ({ frames := 1, cells := 0, slots := 0, locals := 60 }) (va_Pc [.ref (L 106), .int (nI k0), .int p0, .int p1] (PW SS g base n L (mw g L y ch r0))) (va_Qi (fun (r : Int32) (_ : Unit) => (r = 1 ∧ csP y k0 p0 p1 nb) ∨ (r = 0 ∧ ¬ csP y k0 p0 p1 nb)) (fun (u : Unit) t => PB g n L (mw g L y ch r0) t) (fun q => base ≤ q)) 0 0 (fun q => base ≤ q) := by
  refine Met.ofW (cc := cX4_canHaveMade) (maxL := 8) (ret := (some .boolean)) (by decide) rfl ?_
  intro p e s m args below meth c s₁ B hml hv
  obtain ⟨rfl, hPW⟩ := hv
  obtain ⟨hbs, hJ, hP, hK, hE⟩ := id hPW
  have hx := B.exec
  have hb := B.bytes
  have hr := B.returns
  have hts := atoms_spec (ws := wsX4_canHaveMade) B.pre
  have hown : s.vm.findClass RX4 = some m.cls := findClass_of_methodNamed B.named
  have hlocks := B.notSynchronized
  have hS : va_S (fun q : Nat => base ≤ q) s.heap s.heap [] := va_S.rf
  have hl := lv_entry ([.ref (L 106), .int (nI k0), .int p0, .int p1]) (n := 8) (Nat.le_of_ble_eq_true rfl)
  rw [lg_entry_eq]
  generalize (lg_sl ([.ref (L 106), .int (nI k0), .int p0, .int p1]) ++ List.replicate (8 - (lg_sl ([.ref (L 106), .int (nI k0), .int p0, .int p1])).length) Slot.unset).toArray = ls at hl ⊢
  have hl : lv_has ls 8 [(0, .ref (L 106)), (1, .int (nI k0)), (2, .int p0), (3, .int p1)] := hl
  have iX4 : ∀ w ∈ wsX40, w ∈ wsX4_canHaveMade := by decide +kernel
  refine lv_iconst (v := 0) hx hb dX4_canHaveMade_0 (by decide) ?_
  refine lv_istore (lv' := [(4, .int 0), (0, .ref (L 106)), (1, .int (nI k0)), (2, .int p0), (3, .int p1)]) hx hb dX4_canHaveMade_1 hl (by decide) rfl (fun ls hl => ?_)
  refine lv_iconst (v := 0) hx hb dX4_canHaveMade_3 (by decide) ?_
  refine lv_istore (lv' := [(5, .int 0), (4, .int 0), (0, .ref (L 106)), (1, .int (nI k0)), (2, .int p0), (3, .int p1)]) hx hb dX4_canHaveMade_4 hl (by decide) rfl (fun ls hl => ?_)
  have key6 : ∀ (dj j : Nat) (z5 : Int32) (z4 : Int32) (H : Heap) (locs : List Loc) (ls : Array Slot), j + dj = 8 → (z5 = nI j) → (z4 = bz (cmP y k0 p0 j)) → va_P g.1 vwCl (wl n L (mw g L y ch r0)) H → va_S (fun q : Nat => base ≤ q) s.heap H locs → lv_has ls 8 [(5, .int z5), (4, .int z4), (0, .ref (L 106)), (1, .int (nI k0)), (2, .int p0), (3, .int p1)] → W p l e (headSpec wsX4_canHaveMade ({ frames := 1, cells := 0, slots := 0, locals := 60 })).room s m ([.ref (L 106), .int (nI k0), .int p0, .int p1] : List Value).toArray below meth c H locs 0 0 (MQ below (va_Qi (fun (r : Int32) (_ : Unit) => (r = 1 ∧ csP y k0 p0 p1 nb) ∨ (r = 0 ∧ ¬ csP y k0 p0 p1 nb)) (fun (u : Unit) t => PB g n L (mw g L y ch r0) t) (fun q => base ≤ q)) ([.ref (L 106), .int (nI k0), .int p0, .int p1] : List Value).toArray s 0 0 (fun q => base ≤ q)) (F0 m 6 ls []) := by
    intro dj
    induction dj with
    | zero =>
      intro j z5 z4 H locs ls hkdj ek5 ek4 hP hS hl
      obtain rfl : j = 8 := by omega
      subst ek5 ek4
      refine lv_iload hx hb dX4_canHaveMade_6 (lv_at hl 0 rfl) ?_
      refine lv_bipush (v := 8) hx hb dX4_canHaveMade_8 (by decide) ?_
      refine lv_icmp_ge (tgt := 93) hx hb dX4_canHaveMade_10 (by decide) (fun c10 => ?_) (fun c10 => absurd (by decide) c10)
      refine lv_iload hx hb dX4_canHaveMade_93 (lv_at hl 1 rfl) ?_
      refine lv_if_eq (tgt := 111) hx hb dX4_canHaveMade_95 (by decide) (fun c95 => ?_) (fun c95 => ?_)
      · refine lv_iconst (v := 0) hx hb dX4_canHaveMade_111 (by decide) ?_
        refine W.widen (k := 0) (n := 0) (Nat.le_of_ble_eq_true rfl) (Nat.le_of_ble_eq_true rfl) ?_
        exact W.zret (v := 0) hx hb hr (by decide) (fun t ht hW => ⟨⟨0, (), rfl, Or.inr ⟨rfl, fun h9 => bz_0 c95 h9.1⟩, PB.mk9 hP ht⟩, hS.F ht⟩) hS.2.2 dX4_canHaveMade_112
      · refine lv_aload_n hx hb dX4_canHaveMade_98 rfl (lv_at hl 2 rfl) ?_
        refine lv_iload_n hx hb dX4_canHaveMade_99 rfl (lv_at hl 3 rfl) ?_
        refine lv_iload_n hx hb dX4_canHaveMade_100 rfl (lv_at hl 5 rfl) ?_
        refine wx_calli (va_runV (As := [.int (nI k0), .int p1]) (rest := []) ⟨hx, hb, hml, hown, hts⟩ (m_readersOf l hst g base n L (by omega) y ch r0 nb hnb hy3 k0 (by omega) p1) (cwV 2 hts gX4_canHaveMade_X4_readersOf rfl rfl rfl (by decide +kernel) ⟨Nat.le_of_ble_eq_true rfl, Nat.le_of_ble_eq_true rfl⟩) (hPW.preV hP hS (ci := 6) rfl (by omega) mw_o) rfl rfl hl.1 rfl (lv_room (Nat.le_of_ble_eq_true rfl)) dX4_canHaveMade_101 ⟨Nat.le_of_ble_eq_true rfl, Nat.le_of_ble_eq_true rfl⟩) hS (fun r101 u101 H locs h101 hP hS => ?_)
        obtain rfl := h101
        refine lv_if_le (tgt := 111) hx hb dX4_canHaveMade_104 (by decide) (fun c104 => ?_) (fun c104 => ?_)
        · refine lv_iconst (v := 0) hx hb dX4_canHaveMade_111 (by decide) ?_
          refine W.widen (k := 0) (n := 0) (Nat.le_of_ble_eq_true rfl) (Nat.le_of_ble_eq_true rfl) ?_
          exact W.zret (v := 0) hx hb hr (by decide) (fun t ht hW => ⟨⟨0, (), rfl, Or.inr ⟨rfl, fun h9 => h9.2 c104⟩, PB.mk9 hP ht⟩, hS.F ht⟩) hS.2.2 dX4_canHaveMade_112
        · refine lv_iconst (v := 1) hx hb dX4_canHaveMade_107 (by decide) ?_
          refine lv_goto (tgt := 112) hx hb dX4_canHaveMade_108 (by decide) ?_
          refine W.widen (k := 0) (n := 0) (Nat.le_of_ble_eq_true rfl) (Nat.le_of_ble_eq_true rfl) ?_
          exact W.zret (v := 1) hx hb hr (by decide) (fun t ht hW => ⟨⟨1, (), rfl, Or.inl ⟨rfl, bz_n0 c95, c104⟩, PB.mk9 hP ht⟩, hS.F ht⟩) hS.2.2 dX4_canHaveMade_112
    | succ dj ihj =>
      intro j z5 z4 H locs ls hkdj ek5 ek4 hP hS hl
      have hkNj : j < 8 := by omega
      subst ek5 ek4
      refine lv_iload hx hb dX4_canHaveMade_6 (lv_at hl 0 rfl) ?_
      refine lv_bipush (v := 8) hx hb dX4_canHaveMade_8 (by decide) ?_
      refine lv_icmp_ge (tgt := 93) hx hb dX4_canHaveMade_10 (by decide) (fun c10 => absurd c10 (nI_ge (b := 8) hkNj (by decide))) (fun c10 => ?_)
      refine lv_iconst (v := 1) hx hb dX4_canHaveMade_13 (by decide) ?_
      refine lv_istore (lv' := [(6, .int 1), (5, .int (nI j)), (4, .int (bz (cmP y k0 p0 j))), (0, .ref (L 106)), (1, .int (nI k0)), (2, .int p0), (3, .int p1)]) hx hb dX4_canHaveMade_14 hl (by decide) rfl (fun ls hl => ?_)
      refine lv_iconst (v := 0) hx hb dX4_canHaveMade_16 (by decide) ?_
      refine lv_istore (lv' := [(7, .int 0), (6, .int 1), (5, .int (nI j)), (4, .int (bz (cmP y k0 p0 j))), (0, .ref (L 106)), (1, .int (nI k0)), (2, .int p0), (3, .int p1)]) hx hb dX4_canHaveMade_17 hl (by decide) rfl (fun ls hl => ?_)
      have key19 : ∀ (d k : Nat) (z7 : Int32) (z6 : Int32) (H : Heap) (locs : List Loc) (ls : Array Slot), k + d = 32 → (z7 = nI k) → (z6 = bz (cmQ y k0 p0 j k)) → va_P g.1 vwCl (wl n L (mw g L y ch r0)) H → va_S (fun q : Nat => base ≤ q) s.heap H locs → lv_has ls 8 [(7, .int z7), (6, .int z6), (0, .ref (L 106)), (1, .int (nI k0)), (2, .int p0), (3, .int p1), (4, .int (bz (cmP y k0 p0 j))), (5, .int (nI j))] → W p l e (headSpec wsX4_canHaveMade ({ frames := 1, cells := 0, slots := 0, locals := 60 })).room s m ([.ref (L 106), .int (nI k0), .int p0, .int p1] : List Value).toArray below meth c H locs 0 0 (MQ below (va_Qi (fun (r : Int32) (_ : Unit) => (r = 1 ∧ csP y k0 p0 p1 nb) ∨ (r = 0 ∧ ¬ csP y k0 p0 p1 nb)) (fun (u : Unit) t => PB g n L (mw g L y ch r0) t) (fun q => base ≤ q)) ([.ref (L 106), .int (nI k0), .int p0, .int p1] : List Value).toArray s 0 0 (fun q => base ≤ q)) (F0 m 19 ls []) := by
        intro d
        induction d with
        | zero =>
          intro k z7 z6 H locs ls hkd ek7 ek6 hP hS hl
          obtain rfl : k = 32 := by omega
          subst ek7 ek6
          refine lv_iload hx hb dX4_canHaveMade_19 (lv_at hl 0 rfl) ?_
          refine lv_bipush (v := 32) hx hb dX4_canHaveMade_21 (by decide) ?_
          refine lv_icmp_ge (tgt := 70) hx hb dX4_canHaveMade_23 (by decide) (fun c23 => ?_) (fun c23 => absurd (by decide) c23)
          refine lv_iload hx hb dX4_canHaveMade_70 (lv_at hl 6 rfl) ?_
          refine lv_if_ne (tgt := 80) hx hb dX4_canHaveMade_72 (by decide) (fun c72 => ?_) (fun c72 => ?_)
          · refine lv_iconst (v := 1) hx hb dX4_canHaveMade_80 (by decide) ?_
            refine lv_goto (tgt := 85) hx hb dX4_canHaveMade_81 (by decide) ?_
            refine lv_istore (lv' := [(4, .int 1), (7, .int (nI 32)), (6, .int (bz (cmQ y k0 p0 j 32))), (0, .ref (L 106)), (1, .int (nI k0)), (2, .int p0), (3, .int p1), (5, .int (nI j))]) hx hb dX4_canHaveMade_85 hl (by decide) rfl (fun ls hl => ?_)
            obtain ⟨z87, ez87⟩ : ∃ y : Int32, y = nI j + 1 := ⟨_, rfl⟩
            refine lv_iinc (v := z87) (lv' := [(5, .int z87), (4, .int 1), (7, .int (nI 32)), (6, .int (bz (cmQ y k0 p0 j 32))), (0, .ref (L 106)), (1, .int (nI k0)), (2, .int p0), (3, .int p1)]) hx hb dX4_canHaveMade_87 hl (k := 7) rfl (by rw [ez87]; rfl) (by decide) rfl (fun ls hl => ?_)
            refine lv_goto (tgt := 6) hx hb dX4_canHaveMade_90 (by decide) ?_
            exact ihj (j + 1) _ _ _ _ _ (by omega) (by rw [ez87, nI_1]) ((bz_t (cmP_y (Or.inl (bz_n0 c72)))).symm) hP hS (lv_sub hl [0, 1, 4, 5, 6, 7] rfl)
          · refine lv_iload hx hb dX4_canHaveMade_75 (lv_at hl 1 rfl) ?_
            refine lv_if_eq (tgt := 84) hx hb dX4_canHaveMade_77 (by decide) (fun c77 => ?_) (fun c77 => ?_)
            · refine lv_iconst (v := 0) hx hb dX4_canHaveMade_84 (by decide) ?_
              refine lv_istore (lv' := [(4, .int 0), (7, .int (nI 32)), (6, .int (bz (cmQ y k0 p0 j 32))), (0, .ref (L 106)), (1, .int (nI k0)), (2, .int p0), (3, .int p1), (5, .int (nI j))]) hx hb dX4_canHaveMade_85 hl (by decide) rfl (fun ls hl => ?_)
              obtain ⟨z87, ez87⟩ : ∃ y : Int32, y = nI j + 1 := ⟨_, rfl⟩
              refine lv_iinc (v := z87) (lv' := [(5, .int z87), (4, .int 0), (7, .int (nI 32)), (6, .int (bz (cmQ y k0 p0 j 32))), (0, .ref (L 106)), (1, .int (nI k0)), (2, .int p0), (3, .int p1)]) hx hb dX4_canHaveMade_87 hl (k := 7) rfl (by rw [ez87]; rfl) (by decide) rfl (fun ls hl => ?_)
              refine lv_goto (tgt := 6) hx hb dX4_canHaveMade_90 (by decide) ?_
              exact ihj (j + 1) _ _ _ _ _ (by omega) (by rw [ez87, nI_1]) ((bz_f (cmP_n (bz_0 c72) (bz_0 c77))).symm) hP hS (lv_sub hl [0, 1, 4, 5, 6, 7] rfl)
            · refine lv_iconst (v := 1) hx hb dX4_canHaveMade_80 (by decide) ?_
              refine lv_goto (tgt := 85) hx hb dX4_canHaveMade_81 (by decide) ?_
              refine lv_istore (lv' := [(4, .int 1), (7, .int (nI 32)), (6, .int (bz (cmQ y k0 p0 j 32))), (0, .ref (L 106)), (1, .int (nI k0)), (2, .int p0), (3, .int p1), (5, .int (nI j))]) hx hb dX4_canHaveMade_85 hl (by decide) rfl (fun ls hl => ?_)
              obtain ⟨z87, ez87⟩ : ∃ y : Int32, y = nI j + 1 := ⟨_, rfl⟩
              refine lv_iinc (v := z87) (lv' := [(5, .int z87), (4, .int 1), (7, .int (nI 32)), (6, .int (bz (cmQ y k0 p0 j 32))), (0, .ref (L 106)), (1, .int (nI k0)), (2, .int p0), (3, .int p1)]) hx hb dX4_canHaveMade_87 hl (k := 7) rfl (by rw [ez87]; rfl) (by decide) rfl (fun ls hl => ?_)
              refine lv_goto (tgt := 6) hx hb dX4_canHaveMade_90 (by decide) ?_
              exact ihj (j + 1) _ _ _ _ _ (by omega) (by rw [ez87, nI_1]) ((bz_t (cmP_y (Or.inr (bz_n0 c77)))).symm) hP hS (lv_sub hl [0, 1, 4, 5, 6, 7] rfl)
        | succ d ih =>
          intro k z7 z6 H locs ls hkd ek7 ek6 hP hS hl
          have hkN : k < 32 := by omega
          subst ek7 ek6
          refine lv_iload hx hb dX4_canHaveMade_19 (lv_at hl 0 rfl) ?_
          refine lv_bipush (v := 32) hx hb dX4_canHaveMade_21 (by decide) ?_
          refine lv_icmp_ge (tgt := 70) hx hb dX4_canHaveMade_23 (by decide) (fun c23 => absurd c23 (nI_ge (b := 32) hkN (by decide))) (fun c23 => ?_)
          refine lv_iload hx hb dX4_canHaveMade_26 (lv_at hl 1 rfl) ?_
          refine lv_if_eq (tgt := 61) hx hb dX4_canHaveMade_28 (by decide) (fun c28 => ?_) (fun c28 => ?_)
          · refine lv_iconst (v := 0) hx hb dX4_canHaveMade_61 (by decide) ?_
            refine lv_istore (lv' := [(6, .int 0), (7, .int (nI k)), (0, .ref (L 106)), (1, .int (nI k0)), (2, .int p0), (3, .int p1), (4, .int (bz (cmP y k0 p0 j))), (5, .int (nI j))]) hx hb dX4_canHaveMade_62 hl (by decide) rfl (fun ls hl => ?_)
            obtain ⟨z64, ez64⟩ : ∃ y : Int32, y = nI k + 1 := ⟨_, rfl⟩
            refine lv_iinc (v := z64) (lv' := [(7, .int z64), (6, .int 0), (0, .ref (L 106)), (1, .int (nI k0)), (2, .int p0), (3, .int p1), (4, .int (bz (cmP y k0 p0 j))), (5, .int (nI j))]) hx hb dX4_canHaveMade_64 hl (k := 1) rfl (by rw [ez64]; rfl) (by decide) rfl (fun ls hl => ?_)
            refine lv_goto (tgt := 19) hx hb dX4_canHaveMade_67 (by decide) ?_
            exact ih (k + 1) _ _ _ _ _ (by omega) (by rw [ez64, nI_1]) ((bz_f (cmQ_n (bz_0 c28))).symm) hP hS (lv_sub hl [0, 1, 2, 3, 4, 5, 6, 7] rfl)
          · refine lv_iload_n hx hb dX4_canHaveMade_31 rfl (lv_at hl 4 rfl) ?_
            refine lv_iconst (v := 0) hx hb dX4_canHaveMade_32 (by decide) ?_
            refine lv_iload hx hb dX4_canHaveMade_33 (lv_at hl 0 rfl) ?_
            refine wx_calli (va_runS (As := [.int p0, .int 0, .int (nI k)]) (rest := []) ⟨hx, hb, hml, hown, hts⟩ (m_has l hst g base n L (mw g L y ch r0) p0 0 k (by omega) (by omega)) (va_cwS 3 hts gX4_canHaveMade_X4_has rfl rfl rfl (by decide +kernel) ⟨Nat.le_of_ble_eq_true rfl, Nat.le_of_ble_eq_true rfl⟩) (hPW.preS hP hS) rfl rfl hl.1 rfl (lv_room (Nat.le_of_ble_eq_true rfl)) dX4_canHaveMade_35 ⟨Nat.le_of_ble_eq_true rfl, Nat.le_of_ble_eq_true rfl⟩) hS (fun r35 u35 H locs h35 hP hS => ?_)
            rcases h35 with ⟨rfl, h35⟩ | ⟨rfl, h35⟩
            · refine lv_if_eq (tgt := 57) hx hb dX4_canHaveMade_38 (by decide) (fun c38 => absurd c38 (by decide)) (fun c38 => ?_)
              refine lv_aload_n hx hb dX4_canHaveMade_41 rfl (lv_at hl 2 rfl) ?_
              refine wx_get (D := g.1) (cl := vwCl) (ci := 6) (v := .ref (L 115)) (C := RX4) (T := TX4) (N := 22) hx hb hts iX4 hown hK hP (106) (by omega) mw_o rfl 14 (by decide) (hts (.fieldLink RX4 39 "FerroDeskModel" "picture" "[I") (by decide +kernel)) (fun _ h9 => h9) rfl dX4_canHaveMade_42 ?_
              refine lv_iload_n hx hb dX4_canHaveMade_45 rfl (lv_at hl 3 rfl) ?_
              refine wx_ialdv (D := g.1) (cl := vwCl) (N := 40) (f := fun j9 => y 18 0 j9) (v := y 18 0 k0) hx hb hK hP (115) 0 (by omega) (mw_a (by decide) (by decide)) rfl (i := (nI k0)) (by exact vp_in_nI (by omega) (by decide)) (by rw [nI_clamp (by omega)]) dX4_canHaveMade_46 ?_
              refine lv_iload hx hb dX4_canHaveMade_47 (lv_at hl 7 rfl) ?_
              refine lv_iload hx hb dX4_canHaveMade_49 (lv_at hl 0 rfl) ?_
              refine wx_calli (va_runS (As := [.int (y 18 0 k0), .int (nI j), .int (nI k)]) (rest := []) ⟨hx, hb, hml, hown, hts⟩ (m_has l hst g base n L (mw g L y ch r0) (y 18 0 k0) j k (by omega) (by omega)) (va_cwS 3 hts gX4_canHaveMade_X4_has rfl rfl rfl (by decide +kernel) ⟨Nat.le_of_ble_eq_true rfl, Nat.le_of_ble_eq_true rfl⟩) (hPW.preS hP hS) rfl rfl hl.1 rfl (lv_room (Nat.le_of_ble_eq_true rfl)) dX4_canHaveMade_51 ⟨Nat.le_of_ble_eq_true rfl, Nat.le_of_ble_eq_true rfl⟩) hS (fun r51 u51 H locs h51 hP hS => ?_)
              rcases h51 with ⟨rfl, h51⟩ | ⟨rfl, h51⟩
              · refine lv_if_eq (tgt := 61) hx hb dX4_canHaveMade_54 (by decide) (fun c54 => absurd c54 (by decide)) (fun c54 => ?_)
                refine lv_iconst (v := 1) hx hb dX4_canHaveMade_57 (by decide) ?_
                refine lv_goto (tgt := 62) hx hb dX4_canHaveMade_58 (by decide) ?_
                refine lv_istore (lv' := [(6, .int 1), (7, .int (nI k)), (0, .ref (L 106)), (1, .int (nI k0)), (2, .int p0), (3, .int p1), (4, .int (bz (cmP y k0 p0 j))), (5, .int (nI j))]) hx hb dX4_canHaveMade_62 hl (by decide) rfl (fun ls hl => ?_)
                obtain ⟨z64, ez64⟩ : ∃ y : Int32, y = nI k + 1 := ⟨_, rfl⟩
                refine lv_iinc (v := z64) (lv' := [(7, .int z64), (6, .int 1), (0, .ref (L 106)), (1, .int (nI k0)), (2, .int p0), (3, .int p1), (4, .int (bz (cmP y k0 p0 j))), (5, .int (nI j))]) hx hb dX4_canHaveMade_64 hl (k := 1) rfl (by rw [ez64]; rfl) (by decide) rfl (fun ls hl => ?_)
                refine lv_goto (tgt := 19) hx hb dX4_canHaveMade_67 (by decide) ?_
                exact ih (k + 1) _ _ _ _ _ (by omega) (by rw [ez64, nI_1]) ((bz_t (cmQ_y (bz_n0 c28) (fun _ => h51))).symm) hP hS (lv_sub hl [0, 1, 2, 3, 4, 5, 6, 7] rfl)
              · refine lv_if_eq (tgt := 61) hx hb dX4_canHaveMade_54 (by decide) (fun c54 => ?_) (fun c54 => absurd (by decide) c54)
                refine lv_iconst (v := 0) hx hb dX4_canHaveMade_61 (by decide) ?_
                refine lv_istore (lv' := [(6, .int 0), (7, .int (nI k)), (0, .ref (L 106)), (1, .int (nI k0)), (2, .int p0), (3, .int p1), (4, .int (bz (cmP y k0 p0 j))), (5, .int (nI j))]) hx hb dX4_canHaveMade_62 hl (by decide) rfl (fun ls hl => ?_)
                obtain ⟨z64, ez64⟩ : ∃ y : Int32, y = nI k + 1 := ⟨_, rfl⟩
                refine lv_iinc (v := z64) (lv' := [(7, .int z64), (6, .int 0), (0, .ref (L 106)), (1, .int (nI k0)), (2, .int p0), (3, .int p1), (4, .int (bz (cmP y k0 p0 j))), (5, .int (nI j))]) hx hb dX4_canHaveMade_64 hl (k := 1) rfl (by rw [ez64]; rfl) (by decide) rfl (fun ls hl => ?_)
                refine lv_goto (tgt := 19) hx hb dX4_canHaveMade_67 (by decide) ?_
                exact ih (k + 1) _ _ _ _ _ (by omega) (by rw [ez64, nI_1]) ((bz_f (cmQ_m h35 h51)).symm) hP hS (lv_sub hl [0, 1, 2, 3, 4, 5, 6, 7] rfl)
            · refine lv_if_eq (tgt := 57) hx hb dX4_canHaveMade_38 (by decide) (fun c38 => ?_) (fun c38 => absurd (by decide) c38)
              refine lv_iconst (v := 1) hx hb dX4_canHaveMade_57 (by decide) ?_
              refine lv_goto (tgt := 62) hx hb dX4_canHaveMade_58 (by decide) ?_
              refine lv_istore (lv' := [(6, .int 1), (7, .int (nI k)), (0, .ref (L 106)), (1, .int (nI k0)), (2, .int p0), (3, .int p1), (4, .int (bz (cmP y k0 p0 j))), (5, .int (nI j))]) hx hb dX4_canHaveMade_62 hl (by decide) rfl (fun ls hl => ?_)
              obtain ⟨z64, ez64⟩ : ∃ y : Int32, y = nI k + 1 := ⟨_, rfl⟩
              refine lv_iinc (v := z64) (lv' := [(7, .int z64), (6, .int 1), (0, .ref (L 106)), (1, .int (nI k0)), (2, .int p0), (3, .int p1), (4, .int (bz (cmP y k0 p0 j))), (5, .int (nI j))]) hx hb dX4_canHaveMade_64 hl (k := 1) rfl (by rw [ez64]; rfl) (by decide) rfl (fun ls hl => ?_)
              refine lv_goto (tgt := 19) hx hb dX4_canHaveMade_67 (by decide) ?_
              exact ih (k + 1) _ _ _ _ _ (by omega) (by rw [ez64, nI_1]) ((bz_t (cmQ_y (bz_n0 c28) (fun h9 => absurd h9 h35))).symm) hP hS (lv_sub hl [0, 1, 2, 3, 4, 5, 6, 7] rfl)
      exact key19 32 0 _ _ _ _ _ (by omega) rfl ((bz_t (fun _ h9 => absurd h9 (Nat.not_lt_zero _))).symm) hP hS (lv_sub hl [0, 1, 4, 5, 6, 7, 3, 2] rfl)
  exact key6 8 0 _ _ _ _ _ (by omega) rfl ((bz_f (fun ⟨_, h9, _⟩ => absurd h9 (Nat.not_lt_zero _))).symm) hP hS (lv_sub hl [0, 1, 2, 3, 4, 5] rfl)

set_option maxHeartbeats 4000000 in
set_option maxRecDepth 100000 in
theorem m_manySuspects (l : Launch) (hst : l.stackTraces = false) (g : gE) (base n : Nat) (L : Nat → Nat) (hn : 123 ≤ n) (y : St) (ch : Int64) (r0 : Nat → va_E) (nb : Nat) (hnb : nb ≤ 6) (hy3 : y 3 0 0 = nI nb) (nn : Nat) (hnn : nn ≤ 40) (hy4 : y 4 0 0 = nI nn) (p0 p1 : Int32) : Met l yX4_manySuspects wsX4_manySuspects ({ frames := 2, cells := 0, slots := 0, locals := 120 }) (va_Pc [.ref (L 106), .int p0, .int p1] (PW SS g base n L (mw g L y ch r0))) (va_Qi (fun (r : Int32) (_ : Unit) => r = msF y p0 p1 nb nn) (fun (u : Unit) t => PB g n L (mw g L y ch r0) t) (fun q => base ≤ q)) 0 0 (fun q => base ≤ q) := by
  refine Met.ofW (cc := cX4_manySuspects) (maxL := 5) (ret := (some .int)) (by decide) rfl ?_
  intro p e s m args below meth c s₁ B hml hv
  obtain ⟨rfl, hPW⟩ := hv
  obtain ⟨hbs, hJ, hP, hK, hE⟩ := id hPW
  have hx := B.exec
  have hb := B.bytes
  have hr := B.returns
  have hts := atoms_spec (ws := wsX4_manySuspects) B.pre
  have hown : s.vm.findClass RX4 = some m.cls := findClass_of_methodNamed B.named
  have hlocks := B.notSynchronized
  have hS : va_S (fun q : Nat => base ≤ q) s.heap s.heap [] := va_S.rf
  have hl := lv_entry ([.ref (L 106), .int p0, .int p1]) (n := 5) (Nat.le_of_ble_eq_true rfl)
  rw [lg_entry_eq]
  generalize (lg_sl ([.ref (L 106), .int p0, .int p1]) ++ List.replicate (5 - (lg_sl ([.ref (L 106), .int p0, .int p1])).length) Slot.unset).toArray = ls at hl ⊢
  have hl : lv_has ls 5 [(0, .ref (L 106)), (1, .int p0), (2, .int p1)] := hl
  have iX4 : ∀ w ∈ wsX40, w ∈ wsX4_manySuspects := by decide +kernel
  refine lv_iconst (v := 0) hx hb dX4_manySuspects_0 (by decide) ?_
  refine lv_istore_n (lv' := [(3, .int 0), (0, .ref (L 106)), (1, .int p0), (2, .int p1)]) hx hb dX4_manySuspects_1 rfl hl (by decide) rfl (fun ls hl => ?_)
  refine lv_iconst (v := 0) hx hb dX4_manySuspects_2 (by decide) ?_
  refine lv_istore (lv' := [(4, .int 0), (3, .int 0), (0, .ref (L 106)), (1, .int p0), (2, .int p1)]) hx hb dX4_manySuspects_3 hl (by decide) rfl (fun ls hl => ?_)
  have key5 : ∀ (d k : Nat) (z4 : Int32) (z3 : Int32) (H : Heap) (locs : List Loc) (ls : Array Slot), k + d = nn → (z4 = nI k) → (z3 = msF y p0 p1 nb k) → va_P g.1 vwCl (wl n L (mw g L y ch r0)) H → va_S (fun q : Nat => base ≤ q) s.heap H locs → lv_has ls 5 [(4, .int z4), (3, .int z3), (0, .ref (L 106)), (1, .int p0), (2, .int p1)] → W p l e (headSpec wsX4_manySuspects ({ frames := 2, cells := 0, slots := 0, locals := 120 })).room s m ([.ref (L 106), .int p0, .int p1] : List Value).toArray below meth c H locs 0 0 (MQ below (va_Qi (fun (r : Int32) (_ : Unit) => r = msF y p0 p1 nb nn) (fun (u : Unit) t => PB g n L (mw g L y ch r0) t) (fun q => base ≤ q)) ([.ref (L 106), .int p0, .int p1] : List Value).toArray s 0 0 (fun q => base ≤ q)) (F0 m 5 ls []) := by
    intro d
    induction d with
    | zero =>
      intro k z4 z3 H locs ls hkd ek4 ek3 hP hS hl
      obtain rfl : nn = k := by omega
      subst ek4 ek3
      refine lv_iload hx hb dX4_manySuspects_5 (lv_at hl 0 rfl) ?_
      refine lv_aload_n hx hb dX4_manySuspects_7 rfl (lv_at hl 2 rfl) ?_
      refine wx_get (D := g.1) (cl := vwCl) (ci := 6) (v := .int (y 4 0 0)) (C := RX4) (T := TX4) (N := 22) hx hb hts iX4 hown hK hP (106) (by omega) mw_o rfl 4 (by decide) (hts (.fieldLink RX4 74 "FerroDeskModel" "notices" "I") (by decide +kernel)) (fun _ h9 => h9) rfl dX4_manySuspects_8 ?_
      refine lv_icmp_ge (tgt := 39) hx hb dX4_manySuspects_11 (by decide) (fun c11 => ?_) (fun c11 => absurd (by rw [hy4]; exact nI_le (Nat.le_refl _) (by omega)) c11)
      refine lv_iload_n hx hb dX4_manySuspects_39 rfl (lv_at hl 1 rfl) ?_
      refine W.widen (k := 0) (n := 0) (Nat.le_of_ble_eq_true rfl) (Nat.le_of_ble_eq_true rfl) ?_
      exact W.iret (v := msF y p0 p1 nb nn) hx hb hr (fun t ht hW => ⟨⟨msF y p0 p1 nb nn, (), rfl, rfl, PB.mk9 hP ht⟩, hS.F ht⟩) hS.2.2 dX4_manySuspects_40
    | succ d ih =>
      intro k z4 z3 H locs ls hkd ek4 ek3 hP hS hl
      have hkN : k < nn := by omega
      subst ek4 ek3
      refine lv_iload hx hb dX4_manySuspects_5 (lv_at hl 0 rfl) ?_
      refine lv_aload_n hx hb dX4_manySuspects_7 rfl (lv_at hl 2 rfl) ?_
      refine wx_get (D := g.1) (cl := vwCl) (ci := 6) (v := .int (y 4 0 0)) (C := RX4) (T := TX4) (N := 22) hx hb hts iX4 hown hK hP (106) (by omega) mw_o rfl 4 (by decide) (hts (.fieldLink RX4 74 "FerroDeskModel" "notices" "I") (by decide +kernel)) (fun _ h9 => h9) rfl dX4_manySuspects_8 ?_
      refine lv_icmp_ge (tgt := 39) hx hb dX4_manySuspects_11 (by decide) (fun c11 => absurd c11 (by rw [hy4]; exact nI_ge hkN (by omega))) (fun c11 => ?_)
      refine lv_iload_n hx hb dX4_manySuspects_14 rfl (lv_at hl 1 rfl) ?_
      refine lv_aload_n hx hb dX4_manySuspects_15 rfl (lv_at hl 2 rfl) ?_
      refine lv_iload hx hb dX4_manySuspects_16 (lv_at hl 0 rfl) ?_
      refine lv_iload_n hx hb dX4_manySuspects_18 rfl (lv_at hl 3 rfl) ?_
      refine lv_iload_n hx hb dX4_manySuspects_19 rfl (lv_at hl 4 rfl) ?_
      refine wx_calli (va_runV (As := [.int (nI k), .int p0, .int p1]) (rest := [.int (msF y p0 p1 nb k)]) ⟨hx, hb, hml, hown, hts⟩ (m_canHaveMade l hst g base n L (by omega) y ch r0 nb hnb hy3 k (by omega) p0 p1) (cwV 3 hts gX4_manySuspects_X4_canHaveMade rfl rfl rfl (by decide +kernel) ⟨Nat.le_of_ble_eq_true rfl, Nat.le_of_ble_eq_true rfl⟩) (hPW.preV hP hS (ci := 6) rfl (by omega) mw_o) rfl rfl hl.1 rfl (lv_room (Nat.le_of_ble_eq_true rfl)) dX4_manySuspects_20 ⟨Nat.le_of_ble_eq_true rfl, Nat.le_of_ble_eq_true rfl⟩) hS (fun r20 u20 H locs h20 hP hS => ?_)
      rcases h20 with ⟨rfl, h20⟩ | ⟨rfl, h20⟩
      · refine lv_if_eq (tgt := 30) hx hb dX4_manySuspects_23 (by decide) (fun c23 => absurd c23 (by decide)) (fun c23 => ?_)
        refine lv_iconst (v := 1) hx hb dX4_manySuspects_26 (by decide) ?_
        refine lv_goto (tgt := 31) hx hb dX4_manySuspects_27 (by decide) ?_
        refine lv_iadd hx hb dX4_manySuspects_31 ?_
        refine lv_istore_n (lv' := [(3, .int ((msF y p0 p1 nb k) + 1)), (4, .int (nI k)), (0, .ref (L 106)), (1, .int p0), (2, .int p1)]) hx hb dX4_manySuspects_32 rfl hl (by decide) rfl (fun ls hl => ?_)
        obtain ⟨z33, ez33⟩ : ∃ y : Int32, y = nI k + 1 := ⟨_, rfl⟩
        refine lv_iinc (v := z33) (lv' := [(4, .int z33), (3, .int ((msF y p0 p1 nb k) + 1)), (0, .ref (L 106)), (1, .int p0), (2, .int p1)]) hx hb dX4_manySuspects_33 hl (k := 1) rfl (by rw [ez33]; rfl) (by decide) rfl (fun ls hl => ?_)
        refine lv_goto (tgt := 5) hx hb dX4_manySuspects_36 (by decide) ?_
        exact ih (k + 1) _ _ _ _ _ (by omega) (by rw [ez33, nI_1]) (cnP_t h20) hP hS (lv_sub hl [0, 1, 2, 3, 4] rfl)
      · refine lv_if_eq (tgt := 30) hx hb dX4_manySuspects_23 (by decide) (fun c23 => ?_) (fun c23 => absurd (by decide) c23)
        refine lv_iconst (v := 0) hx hb dX4_manySuspects_30 (by decide) ?_
        refine lv_iadd hx hb dX4_manySuspects_31 ?_
        refine lv_istore_n (lv' := [(3, .int ((msF y p0 p1 nb k) + 0)), (4, .int (nI k)), (0, .ref (L 106)), (1, .int p0), (2, .int p1)]) hx hb dX4_manySuspects_32 rfl hl (by decide) rfl (fun ls hl => ?_)
        obtain ⟨z33, ez33⟩ : ∃ y : Int32, y = nI k + 1 := ⟨_, rfl⟩
        refine lv_iinc (v := z33) (lv' := [(4, .int z33), (3, .int ((msF y p0 p1 nb k) + 0)), (0, .ref (L 106)), (1, .int p0), (2, .int p1)]) hx hb dX4_manySuspects_33 hl (k := 1) rfl (by rw [ez33]; rfl) (by decide) rfl (fun ls hl => ?_)
        refine lv_goto (tgt := 5) hx hb dX4_manySuspects_36 (by decide) ?_
        exact ih (k + 1) _ _ _ _ _ (by omega) (by rw [ez33, nI_1]) (cnP_f h20) hP hS (lv_sub hl [0, 1, 2, 3, 4] rfl)
  exact key5 nn 0 _ _ _ _ _ (by omega) rfl rfl hP hS (lv_sub hl [0, 1, 2, 3, 4] rfl)

set_option maxHeartbeats 4000000 in
set_option maxRecDepth 100000 in
theorem m_change (l : Launch) (hst : l.stackTraces = false) (g : gE) (base n : Nat) (L : Nat → Nat) (hn : 123 ≤ n) (y : St) (ch : Int64) (r0 : Nat → va_E) (a : Nat) (ha : a < 192) : Met l yX4_change wsX4_change ({ frames := 0, cells := 0, slots := 0, locals := 0 }) (va_Pc [.ref (L 106), .int (nI a)] (PW SS g base n L (mw g L y ch r0))) (va_Qv (fun (u : MS) => u = cgM (y, ch) a) (fun (u : MS) t => PB g n L (mw g L u.1 u.2 r0) t) (fun q => base ≤ q)) 0 0 (fun q => base ≤ q) := by
  refine Met.ofW (cc := cX4_change) (maxL := 2) (ret := none) (by decide) rfl ?_
  intro p e s m args below meth c s₁ B hml hv
  obtain ⟨rfl, hPW⟩ := hv
  obtain ⟨hbs, hJ, hP, hK, hE⟩ := id hPW
  have hx := B.exec
  have hb := B.bytes
  have hr := B.returns
  have hts := atoms_spec (ws := wsX4_change) B.pre
  have hown : s.vm.findClass RX4 = some m.cls := findClass_of_methodNamed B.named
  have hlocks := B.notSynchronized
  have hS : va_S (fun q : Nat => base ≤ q) s.heap s.heap [] := va_S.rf
  have hl := lv_entry ([.ref (L 106), .int (nI a)]) (n := 2) (Nat.le_of_ble_eq_true rfl)
  rw [lg_entry_eq]
  generalize (lg_sl ([.ref (L 106), .int (nI a)]) ++ List.replicate (2 - (lg_sl ([.ref (L 106), .int (nI a)])).length) Slot.unset).toArray = ls at hl ⊢
  have hl : lv_has ls 2 [(0, .ref (L 106)), (1, .int (nI a))] := hl
  have iX4 : ∀ w ∈ wsX40, w ∈ wsX4_change := by decide +kernel
  refine lv_aload_n hx hb dX4_change_0 rfl (lv_at hl 0 rfl) ?_
  refine wx_get (D := g.1) (cl := vwCl) (ci := 6) (v := .ref (L 112)) (C := RX4) (T := TX4) (N := 22) hx hb hts iX4 hown hK hP (106) (by omega) mw_o rfl 11 (by decide) (hts (.fieldLink RX4 30 "FerroDeskModel" "isBlack" "[Z") (by decide +kernel)) (fun _ h9 => h9) rfl dX4_change_1 ?_
  refine lv_iload_n hx hb dX4_change_4 rfl (lv_at hl 1 rfl) ?_
  refine lv_aload_n hx hb dX4_change_5 rfl (lv_at hl 0 rfl) ?_
  refine wx_get (D := g.1) (cl := vwCl) (ci := 6) (v := .ref (L 112)) (C := RX4) (T := TX4) (N := 22) hx hb hts iX4 hown hK hP (106) (by omega) mw_o rfl 11 (by decide) (hts (.fieldLink RX4 30 "FerroDeskModel" "isBlack" "[Z") (by decide +kernel)) (fun _ h9 => h9) rfl dX4_change_6 ?_
  refine lv_iload_n hx hb dX4_change_9 rfl (lv_at hl 1 rfl) ?_
  refine wx_zaldv (D := g.1) (cl := vwCl) (N := 192) (f := fun j9 => y 15 0 j9) (v := y 15 0 a) hx hb hK hP (112) 3 (by omega) (mw_a (by decide) (by decide)) rfl (i := (nI a)) (by exact vp_in_nI (by omega) (by decide)) (by rw [nI_clamp (by omega)]) dX4_change_10 ?_
  refine lv_if_ne (tgt := 18) hx hb dX4_change_11 (by decide) (fun c11 => ?_) (fun c11 => ?_)
  · refine lv_iconst (v := 0) hx hb dX4_change_18 (by decide) ?_
    refine wx_zast (D := g.1) (cl := vwCl) (N := 192) (f := fun j9 => y 15 0 j9) (w' := mw g L (st y 15 0 a 0) ch r0) hx hb hK hP hJ hS (112) 3 (by omega) (mw_a (by decide) (by decide)) rfl (i := (nI a)) (by exact vp_in_nI (by omega) (by decide)) (by decide) dX4_change_19 (by rw [nI_clamp (by omega)]; exact mw_st (r := 15) rfl (by decide) (by decide) rfl rfl rfl) (fun H locs hP hS => ?_)
    refine lv_aload_n hx hb dX4_change_20 rfl (lv_at hl 0 rfl) ?_
    refine wx_get (D := g.1) (cl := vwCl) (ci := 6) (v := .ref (L 113)) (C := RX4) (T := TX4) (N := 22) hx hb hts iX4 hown hK hP (106) (by omega) mw_o rfl 12 (by decide) (hts (.fieldLink RX4 33 "FerroDeskModel" "wear" "[I") (by decide +kernel)) (fun _ h9 => h9) rfl dX4_change_21 ?_
    refine lv_iload_n hx hb dX4_change_24 rfl (lv_at hl 1 rfl) ?_
    refine lv_dup2_11 hx hb dX4_change_25 rfl rfl ?_
    refine wx_ialdv (D := g.1) (cl := vwCl) (N := 192) (f := fun j9 => (st y 15 0 a 0) 16 0 j9) (v := (st y 15 0 a 0) 16 0 a) hx hb hK hP (113) 0 (by omega) (mw_a (by decide) (by decide)) rfl (i := (nI a)) (by exact vp_in_nI (by omega) (by decide)) (by rw [nI_clamp (by omega)]) dX4_change_26 ?_
    refine lv_iconst (v := 1) hx hb dX4_change_27 (by decide) ?_
    refine lv_iadd hx hb dX4_change_28 ?_
    refine wx_iast (D := g.1) (cl := vwCl) (N := 192) (f := fun j9 => (st y 15 0 a 0) 16 0 j9) (w' := mw g L (st (st y 15 0 a 0) 16 0 a (((st y 15 0 a 0) 16 0 a) + 1)) ch r0) hx hb hK hP hJ hS (113) 0 (by omega) (mw_a (by decide) (by decide)) rfl (i := (nI a)) (by exact vp_in_nI (by omega) (by decide)) dX4_change_29 (by rw [nI_clamp (by omega)]; exact mw_st (r := 16) rfl (by decide) (by decide) rfl rfl rfl) (fun H locs hP hS => ?_)
    refine lv_aload_n hx hb dX4_change_30 rfl (lv_at hl 0 rfl) ?_
    refine lv_dup hx hb dX4_change_31 rfl ?_
    refine wx_get (D := g.1) (cl := vwCl) (ci := 6) (v := .long ch) (C := RX4) (T := TX4) (N := 22) hx hb hts iX4 hown hK hP (106) (by omega) mw_o rfl 5 (by decide) (hts (.fieldLink RX4 134 "FerroDeskModel" "changes" "J") (by decide +kernel)) (fun _ h9 => h9) rfl dX4_change_32 ?_
    refine lv_lconst (v := 1) hx hb dX4_change_35 (by decide) ?_
    refine lv_ladd hx hb dX4_change_36 ?_
    refine wx_put (D := g.1) (cl := vwCl) (ci := 6) (v := .long (ch + 1)) (ty := .long) (w' := mw g L (st (st y 15 0 a 0) 16 0 a (((st y 15 0 a 0) 16 0 a) + 1)) (ch + 1) r0) (C := RX4) (T := TX4) (N := 22) hx hb hts iX4 tyX4 tyX4_ok nmX4 hown hK hP hJ hS (106) (by omega) mw_o rfl 5 (by decide) (hts (.fieldLink RX4 134 "FerroDeskModel" "changes" "J") (by decide +kernel)) (fun _ h9 => h9) rfl (by decide +kernel) rfl rfl (Nat.le_of_ble_eq_true rfl) dX4_change_37 (mw_putch) (fun H locs hP hS => ?_)
    refine W.widen (k := 0) (n := 0) (Nat.le_of_ble_eq_true rfl) (Nat.le_of_ble_eq_true rfl) ?_
    exact W.vret hx hb hr (fun t ht hW => ⟨⟨(st (st y 15 0 a 0) 16 0 a (((st y 15 0 a 0) 16 0 a) + 1), ch + 1), rfl, (by unfold cgM; dsimp only; rw [if_neg c11]), PB.mk9 hP ht⟩, hS.F ht⟩) hS.2.2 dX4_change_40
  · refine lv_iconst (v := 1) hx hb dX4_change_14 (by decide) ?_
    refine lv_goto (tgt := 19) hx hb dX4_change_15 (by decide) ?_
    refine wx_zast (D := g.1) (cl := vwCl) (N := 192) (f := fun j9 => y 15 0 j9) (w' := mw g L (st y 15 0 a 1) ch r0) hx hb hK hP hJ hS (112) 3 (by omega) (mw_a (by decide) (by decide)) rfl (i := (nI a)) (by exact vp_in_nI (by omega) (by decide)) (by decide) dX4_change_19 (by rw [nI_clamp (by omega)]; exact mw_st (r := 15) rfl (by decide) (by decide) rfl rfl rfl) (fun H locs hP hS => ?_)
    refine lv_aload_n hx hb dX4_change_20 rfl (lv_at hl 0 rfl) ?_
    refine wx_get (D := g.1) (cl := vwCl) (ci := 6) (v := .ref (L 113)) (C := RX4) (T := TX4) (N := 22) hx hb hts iX4 hown hK hP (106) (by omega) mw_o rfl 12 (by decide) (hts (.fieldLink RX4 33 "FerroDeskModel" "wear" "[I") (by decide +kernel)) (fun _ h9 => h9) rfl dX4_change_21 ?_
    refine lv_iload_n hx hb dX4_change_24 rfl (lv_at hl 1 rfl) ?_
    refine lv_dup2_11 hx hb dX4_change_25 rfl rfl ?_
    refine wx_ialdv (D := g.1) (cl := vwCl) (N := 192) (f := fun j9 => (st y 15 0 a 1) 16 0 j9) (v := (st y 15 0 a 1) 16 0 a) hx hb hK hP (113) 0 (by omega) (mw_a (by decide) (by decide)) rfl (i := (nI a)) (by exact vp_in_nI (by omega) (by decide)) (by rw [nI_clamp (by omega)]) dX4_change_26 ?_
    refine lv_iconst (v := 1) hx hb dX4_change_27 (by decide) ?_
    refine lv_iadd hx hb dX4_change_28 ?_
    refine wx_iast (D := g.1) (cl := vwCl) (N := 192) (f := fun j9 => (st y 15 0 a 1) 16 0 j9) (w' := mw g L (st (st y 15 0 a 1) 16 0 a (((st y 15 0 a 1) 16 0 a) + 1)) ch r0) hx hb hK hP hJ hS (113) 0 (by omega) (mw_a (by decide) (by decide)) rfl (i := (nI a)) (by exact vp_in_nI (by omega) (by decide)) dX4_change_29 (by rw [nI_clamp (by omega)]; exact mw_st (r := 16) rfl (by decide) (by decide) rfl rfl rfl) (fun H locs hP hS => ?_)
    refine lv_aload_n hx hb dX4_change_30 rfl (lv_at hl 0 rfl) ?_
    refine lv_dup hx hb dX4_change_31 rfl ?_
    refine wx_get (D := g.1) (cl := vwCl) (ci := 6) (v := .long ch) (C := RX4) (T := TX4) (N := 22) hx hb hts iX4 hown hK hP (106) (by omega) mw_o rfl 5 (by decide) (hts (.fieldLink RX4 134 "FerroDeskModel" "changes" "J") (by decide +kernel)) (fun _ h9 => h9) rfl dX4_change_32 ?_
    refine lv_lconst (v := 1) hx hb dX4_change_35 (by decide) ?_
    refine lv_ladd hx hb dX4_change_36 ?_
    refine wx_put (D := g.1) (cl := vwCl) (ci := 6) (v := .long (ch + 1)) (ty := .long) (w' := mw g L (st (st y 15 0 a 1) 16 0 a (((st y 15 0 a 1) 16 0 a) + 1)) (ch + 1) r0) (C := RX4) (T := TX4) (N := 22) hx hb hts iX4 tyX4 tyX4_ok nmX4 hown hK hP hJ hS (106) (by omega) mw_o rfl 5 (by decide) (hts (.fieldLink RX4 134 "FerroDeskModel" "changes" "J") (by decide +kernel)) (fun _ h9 => h9) rfl (by decide +kernel) rfl rfl (Nat.le_of_ble_eq_true rfl) dX4_change_37 (mw_putch) (fun H locs hP hS => ?_)
    refine W.widen (k := 0) (n := 0) (Nat.le_of_ble_eq_true rfl) (Nat.le_of_ble_eq_true rfl) ?_
    exact W.vret hx hb hr (fun t ht hW => ⟨⟨(st (st y 15 0 a 1) 16 0 a (((st y 15 0 a 1) 16 0 a) + 1), ch + 1), rfl, (by unfold cgM; dsimp only; rw [if_pos c11]), PB.mk9 hP ht⟩, hS.F ht⟩) hS.2.2 dX4_change_40

set_option maxHeartbeats 4000000 in
set_option maxRecDepth 100000 in
theorem m_wipe (l : Launch) (hst : l.stackTraces = false) (g : gE) (base n : Nat) (L : Nat → Nat) (hn : 123 ≤ n) (y : St) (ch : Int64) (r0 : Nat → va_E) (b : Nat) (hb6 : b < 6) : Met l yX4_wipe wsX4_wipe ({ frames := 1, cells := 0, slots := 0, locals := 60 }) (va_Pc [.ref (L 106), .int (nI b)] (PW SS g base n L (mw g L y ch r0))) (va_Qv (fun (u : MS) => u = wpM (y, ch) b) (fun (u : MS) t => PB g n L (mw g L u.1 u.2 r0) t) (fun q => base ≤ q)) 0 0 (fun q => base ≤ q) := by
  refine Met.ofW (cc := cX4_wipe) (maxL := 3) (ret := none) (by decide) rfl ?_
  intro p e s m args below meth c s₁ B hml hv
  obtain ⟨rfl, hPW⟩ := hv
  obtain ⟨hbs, hJ, hP, hK, hE⟩ := id hPW
  have hx := B.exec
  have hb := B.bytes
  have hr := B.returns
  have hts := atoms_spec (ws := wsX4_wipe) B.pre
  have hown : s.vm.findClass RX4 = some m.cls := findClass_of_methodNamed B.named
  have hlocks := B.notSynchronized
  have hS : va_S (fun q : Nat => base ≤ q) s.heap s.heap [] := va_S.rf
  have hl := lv_entry ([.ref (L 106), .int (nI b)]) (n := 3) (Nat.le_of_ble_eq_true rfl)
  rw [lg_entry_eq]
  generalize (lg_sl ([.ref (L 106), .int (nI b)]) ++ List.replicate (3 - (lg_sl ([.ref (L 106), .int (nI b)])).length) Slot.unset).toArray = ls at hl ⊢
  have hl : lv_has ls 3 [(0, .ref (L 106)), (1, .int (nI b))] := hl
  have iX4 : ∀ w ∈ wsX40, w ∈ wsX4_wipe := by decide +kernel
  refine lv_bipush (v := 32) hx hb dX4_wipe_0 (by decide) ?_
  refine lv_iload_n hx hb dX4_wipe_2 rfl (lv_at hl 1 rfl) ?_
  refine lv_imul hx hb dX4_wipe_3 ?_
  refine lv_istore_n (lv' := [(2, .int (32 * (nI b))), (0, .ref (L 106)), (1, .int (nI b))]) hx hb dX4_wipe_4 rfl hl (by decide) rfl (fun ls hl => ?_)
  have key5 : ∀ (d k : Nat) (z2 : Int32) (s1 : MS) (H : Heap) (locs : List Loc) (ls : Array Slot), k + d = 32 → (z2 = nI (32 * b + k)) → (s1 = wpL (y, ch) b k) → va_P g.1 vwCl (wl n L (mw g L s1.1 s1.2 r0)) H → va_S (fun q : Nat => base ≤ q) s.heap H locs → lv_has ls 3 [(2, .int z2), (0, .ref (L 106)), (1, .int (nI b))] → W p l e (headSpec wsX4_wipe ({ frames := 1, cells := 0, slots := 0, locals := 60 })).room s m ([.ref (L 106), .int (nI b)] : List Value).toArray below meth c H locs 0 0 (MQ below (va_Qv (fun (u : MS) => u = wpM (y, ch) b) (fun (u : MS) t => PB g n L (mw g L u.1 u.2 r0) t) (fun q => base ≤ q)) ([.ref (L 106), .int (nI b)] : List Value).toArray s 0 0 (fun q => base ≤ q)) (F0 m 5 ls []) := by
    intro d
    induction d with
    | zero =>
      intro k z2 s1 H locs ls hkd ek2 es1 hP hS hl
      obtain rfl : k = 32 := by omega
      subst ek2 es1
      refine lv_iload_n hx hb dX4_wipe_5 rfl (lv_at hl 0 rfl) ?_
      refine lv_bipush (v := 32) hx hb dX4_wipe_6 (by decide) ?_
      refine lv_iload_n hx hb dX4_wipe_8 rfl (lv_at hl 2 rfl) ?_
      refine lv_imul hx hb dX4_wipe_9 ?_
      refine lv_bipush (v := 32) hx hb dX4_wipe_10 (by decide) ?_
      refine lv_iadd hx hb dX4_wipe_12 ?_
      refine lv_icmp_ge (tgt := 46) hx hb dX4_wipe_13 (by decide) (fun c13 => ?_) (fun c13 => absurd (by rw [m32, show (32 : Int32) = nI 32 from rfl, nI_add]; exact nI_le (Nat.le_refl _) (by omega)) c13)
      refine lv_aload_n hx hb dX4_wipe_46 rfl (lv_at hl 1 rfl) ?_
      refine wx_get (D := g.1) (cl := vwCl) (ci := 6) (v := .ref (L 109)) (C := RX4) (T := TX4) (N := 22) hx hb hts iX4 hown hK hP (106) (by omega) mw_o rfl 8 (by decide) (hts (.fieldLink RX4 20 "FerroDeskModel" "shown" "[I") (by decide +kernel)) (fun _ h9 => h9) rfl dX4_wipe_47 ?_
      refine lv_iload_n hx hb dX4_wipe_50 rfl (lv_at hl 2 rfl) ?_
      refine lv_iconst (v := (-1)) hx hb dX4_wipe_51 (by decide) ?_
      refine wx_iast (D := g.1) (cl := vwCl) (N := 6) (f := fun j9 => ((wpL (y, ch) b 32).1) 12 0 j9) (w' := mw g L (st ((wpL (y, ch) b 32).1) 12 0 b (-1)) ((wpL (y, ch) b 32).2) r0) hx hb hK hP hJ hS (109) 0 (by omega) (mw_a (by decide) (by decide)) rfl (i := (nI b)) (by exact vp_in_nI (by omega) (by decide)) dX4_wipe_52 (by rw [nI_clamp (by omega)]; exact mw_st (r := 12) rfl (by decide) (by decide) rfl rfl rfl) (fun H locs hP hS => ?_)
      refine lv_aload_n hx hb dX4_wipe_53 rfl (lv_at hl 1 rfl) ?_
      refine wx_get (D := g.1) (cl := vwCl) (ci := 6) (v := .ref (L 110)) (C := RX4) (T := TX4) (N := 22) hx hb hts iX4 hown hK hP (106) (by omega) mw_o rfl 9 (by decide) (hts (.fieldLink RX4 23 "FerroDeskModel" "shift" "[I") (by decide +kernel)) (fun _ h9 => h9) rfl dX4_wipe_54 ?_
      refine lv_iload_n hx hb dX4_wipe_57 rfl (lv_at hl 2 rfl) ?_
      refine lv_iconst (v := 0) hx hb dX4_wipe_58 (by decide) ?_
      refine wx_iast (D := g.1) (cl := vwCl) (N := 6) (f := fun j9 => (st ((wpL (y, ch) b 32).1) 12 0 b (-1)) 13 0 j9) (w' := mw g L (st (st ((wpL (y, ch) b 32).1) 12 0 b (-1)) 13 0 b 0) ((wpL (y, ch) b 32).2) r0) hx hb hK hP hJ hS (110) 0 (by omega) (mw_a (by decide) (by decide)) rfl (i := (nI b)) (by exact vp_in_nI (by omega) (by decide)) dX4_wipe_59 (by rw [nI_clamp (by omega)]; exact mw_st (r := 13) rfl (by decide) (by decide) rfl rfl rfl) (fun H locs hP hS => ?_)
      refine W.widen (k := 0) (n := 0) (Nat.le_of_ble_eq_true rfl) (Nat.le_of_ble_eq_true rfl) ?_
      exact W.vret hx hb hr (fun t ht hW => ⟨⟨(st (st ((wpL (y, ch) b 32).1) 12 0 b (-1)) 13 0 b 0, (wpL (y, ch) b 32).2), rfl, rfl, PB.mk9 hP ht⟩, hS.F ht⟩) hS.2.2 dX4_wipe_60
    | succ d ih =>
      intro k z2 s1 H locs ls hkd ek2 es1 hP hS hl
      have hkN : k < 32 := by omega
      subst ek2 es1
      refine lv_iload_n hx hb dX4_wipe_5 rfl (lv_at hl 0 rfl) ?_
      refine lv_bipush (v := 32) hx hb dX4_wipe_6 (by decide) ?_
      refine lv_iload_n hx hb dX4_wipe_8 rfl (lv_at hl 2 rfl) ?_
      refine lv_imul hx hb dX4_wipe_9 ?_
      refine lv_bipush (v := 32) hx hb dX4_wipe_10 (by decide) ?_
      refine lv_iadd hx hb dX4_wipe_12 ?_
      refine lv_icmp_ge (tgt := 46) hx hb dX4_wipe_13 (by decide) (fun c13 => absurd c13 (by rw [m32, show (32 : Int32) = nI 32 from rfl, nI_add]; exact nI_ge (by omega) (by omega))) (fun c13 => ?_)
      refine lv_aload_n hx hb dX4_wipe_16 rfl (lv_at hl 1 rfl) ?_
      refine wx_get (D := g.1) (cl := vwCl) (ci := 6) (v := .ref (L 112)) (C := RX4) (T := TX4) (N := 22) hx hb hts iX4 hown hK hP (106) (by omega) mw_o rfl 11 (by decide) (hts (.fieldLink RX4 30 "FerroDeskModel" "isBlack" "[Z") (by decide +kernel)) (fun _ h9 => h9) rfl dX4_wipe_17 ?_
      refine lv_iload_n hx hb dX4_wipe_20 rfl (lv_at hl 0 rfl) ?_
      refine wx_zaldv (D := g.1) (cl := vwCl) (N := 192) (f := fun j9 => ((wpL (y, ch) b k).1) 15 0 j9) (v := ((wpL (y, ch) b k).1) 15 0 (32 * b + k)) hx hb hK hP (112) 3 (by omega) (mw_a (by decide) (by decide)) rfl (i := nI (32 * b + k)) (by exact vp_in_nI (by omega) (by decide)) (by rw [nI_clamp (by omega)]) dX4_wipe_21 ?_
      refine lv_if_eq (tgt := 40) hx hb dX4_wipe_22 (by decide) (fun c22 => ?_) (fun c22 => ?_)
      · obtain ⟨z40, ez40⟩ : ∃ y : Int32, y = nI (32 * b + k) + 1 := ⟨_, rfl⟩
        refine lv_iinc (v := z40) (lv' := [(2, .int z40), (0, .ref (L 106)), (1, .int (nI b))]) hx hb dX4_wipe_40 hl (k := 0) rfl (by rw [ez40]; rfl) (by decide) rfl (fun ls hl => ?_)
        refine lv_goto (tgt := 5) hx hb dX4_wipe_43 (by decide) ?_
        exact ih (k + 1) _ (wpL (y, ch) b k) _ _ _ (by omega) (by rw [ez40, nI_1]; rfl) (wpL_t c22) hP hS (lv_sub hl [0, 1, 2] rfl)
      · refine lv_aload_n hx hb dX4_wipe_25 rfl (lv_at hl 1 rfl) ?_
        refine lv_iload_n hx hb dX4_wipe_26 rfl (lv_at hl 0 rfl) ?_
        refine wx_callv (va_runV (As := [.int (nI (32 * b + k))]) (rest := []) ⟨hx, hb, hml, hown, hts⟩ (m_change l hst g base n L (by omega) ((wpL (y, ch) b k).1) ((wpL (y, ch) b k).2) r0 (32 * b + k) (by omega)) (cwV 1 hts gX4_wipe_X4_change rfl rfl rfl (by decide +kernel) ⟨Nat.le_of_ble_eq_true rfl, Nat.le_of_ble_eq_true rfl⟩) (hPW.preV hP hS (ci := 6) rfl (by omega) mw_o) rfl rfl hl.1 rfl (lv_room (Nat.le_of_ble_eq_true rfl)) dX4_wipe_27 ⟨Nat.le_of_ble_eq_true rfl, Nat.le_of_ble_eq_true rfl⟩) hS (fun u27 H locs h27 hP hS => ?_)
        obtain rfl := h27
        refine lv_aload_n hx hb dX4_wipe_30 rfl (lv_at hl 1 rfl) ?_
        refine wx_get (D := g.1) (cl := vwCl) (ci := 6) (v := .ref (L 108)) (C := RX4) (T := TX4) (N := 22) hx hb hts iX4 hown hK hP (106) (by omega) mw_o rfl 7 (by decide) (hts (.fieldLink RX4 17 "FerroDeskModel" "charge" "[I") (by decide +kernel)) (fun _ h9 => h9) rfl dX4_wipe_31 ?_
        refine lv_iload_n hx hb dX4_wipe_34 rfl (lv_at hl 2 rfl) ?_
        refine lv_dup2_11 hx hb dX4_wipe_35 rfl rfl ?_
        refine wx_ialdv (D := g.1) (cl := vwCl) (N := 6) (f := fun j9 => ((cgM (wpL (y, ch) b k) (32 * b + k)).1) 11 0 j9) (v := ((cgM (wpL (y, ch) b k) (32 * b + k)).1) 11 0 b) hx hb hK hP (108) 0 (by omega) (mw_a (by decide) (by decide)) rfl (i := (nI b)) (by exact vp_in_nI (by omega) (by decide)) (by rw [nI_clamp (by omega)]) dX4_wipe_36 ?_
        refine lv_iconst (v := 1) hx hb dX4_wipe_37 (by decide) ?_
        refine lv_isub hx hb dX4_wipe_38 ?_
        refine wx_iast (D := g.1) (cl := vwCl) (N := 6) (f := fun j9 => ((cgM (wpL (y, ch) b k) (32 * b + k)).1) 11 0 j9) (w' := mw g L (st ((cgM (wpL (y, ch) b k) (32 * b + k)).1) 11 0 b ((((cgM (wpL (y, ch) b k) (32 * b + k)).1) 11 0 b) - 1)) ((cgM (wpL (y, ch) b k) (32 * b + k)).2) r0) hx hb hK hP hJ hS (108) 0 (by omega) (mw_a (by decide) (by decide)) rfl (i := (nI b)) (by exact vp_in_nI (by omega) (by decide)) dX4_wipe_39 (by rw [nI_clamp (by omega)]; exact mw_st (r := 11) rfl (by decide) (by decide) rfl rfl rfl) (fun H locs hP hS => ?_)
        obtain ⟨z40, ez40⟩ : ∃ y : Int32, y = nI (32 * b + k) + 1 := ⟨_, rfl⟩
        refine lv_iinc (v := z40) (lv' := [(2, .int z40), (0, .ref (L 106)), (1, .int (nI b))]) hx hb dX4_wipe_40 hl (k := 0) rfl (by rw [ez40]; rfl) (by decide) rfl (fun ls hl => ?_)
        refine lv_goto (tgt := 5) hx hb dX4_wipe_43 (by decide) ?_
        exact ih (k + 1) _ (st ((cgM (wpL (y, ch) b k) (32 * b + k)).1) 11 0 b ((((cgM (wpL (y, ch) b k) (32 * b + k)).1) 11 0 b) - 1), (cgM (wpL (y, ch) b k) (32 * b + k)).2) _ _ _ (by omega) (by rw [ez40, nI_1]; rfl) (wpL_f c22) hP hS (lv_sub hl [0, 1, 2] rfl)
  exact key5 32 0 _ (y, ch) _ _ _ (by omega) (by rw [m32]; rfl) wpL_0.symm hP hS (lv_sub hl [0, 1, 2] rfl)

set_option maxHeartbeats 4000000 in
set_option maxRecDepth 100000 in
theorem m_differs (l : Launch) (hst : l.stackTraces = false) (g : gE) (base n : Nat) (L : Nat → Nat) (hn : 123 ≤ n) (y : St) (ch : Int64) (r0 : Nat → va_E) (b : Nat) (hb6 : b < 6) (p1 : Int32) (j : Nat) (hj8 : j < 8) (c0 : Nat) (hc32 : c0 < 32) : Met l yX4_differs wsX4_differs ({ frames := 1, cells := 0, slots := 0, locals := 60 }) (va_Pc [.ref (L 106), .int (nI b), .int p1, .int (nI j), .int (nI c0)] (PW SS g base n L (mw g L y ch r0))) (va_Qi (fun (r : Int32) (_ : Unit) => (r = 1 ∧ dfP y b p1 j c0) ∨ (r = 0 ∧ ¬ dfP y b p1 j c0)) (fun (u : Unit) t => PB g n L (mw g L y ch r0) t) (fun q => base ≤ q)) 0 0 (fun q => base ≤ q) := by
  refine Met.ofW (cc := cX4_differs) (maxL := 5) (ret := (some .boolean)) (by decide) rfl ?_
  intro p e s m args below meth c s₁ B hml hv
  obtain ⟨rfl, hPW⟩ := hv
  obtain ⟨hbs, hJ, hP, hK, hE⟩ := id hPW
  have hx := B.exec
  have hb := B.bytes
  have hr := B.returns
  have hts := atoms_spec (ws := wsX4_differs) B.pre
  have hown : s.vm.findClass RX4 = some m.cls := findClass_of_methodNamed B.named
  have hlocks := B.notSynchronized
  have hS : va_S (fun q : Nat => base ≤ q) s.heap s.heap [] := va_S.rf
  have hl := lv_entry ([.ref (L 106), .int (nI b), .int p1, .int (nI j), .int (nI c0)]) (n := 5) (Nat.le_of_ble_eq_true rfl)
  rw [lg_entry_eq]
  generalize (lg_sl ([.ref (L 106), .int (nI b), .int p1, .int (nI j), .int (nI c0)]) ++ List.replicate (5 - (lg_sl ([.ref (L 106), .int (nI b), .int p1, .int (nI j), .int (nI c0)])).length) Slot.unset).toArray = ls at hl ⊢
  have hl : lv_has ls 5 [(0, .ref (L 106)), (1, .int (nI b)), (2, .int p1), (3, .int (nI j)), (4, .int (nI c0))] := hl
  have iX4 : ∀ w ∈ wsX40, w ∈ wsX4_differs := by decide +kernel
  refine lv_aload_n hx hb dX4_differs_0 rfl (lv_at hl 0 rfl) ?_
  refine wx_get (D := g.1) (cl := vwCl) (ci := 6) (v := .ref (L 112)) (C := RX4) (T := TX4) (N := 22) hx hb hts iX4 hown hK hP (106) (by omega) mw_o rfl 11 (by decide) (hts (.fieldLink RX4 30 "FerroDeskModel" "isBlack" "[Z") (by decide +kernel)) (fun _ h9 => h9) rfl dX4_differs_1 ?_
  refine lv_bipush (v := 32) hx hb dX4_differs_4 (by decide) ?_
  refine lv_iload_n hx hb dX4_differs_6 rfl (lv_at hl 1 rfl) ?_
  refine lv_imul hx hb dX4_differs_7 ?_
  refine lv_iload hx hb dX4_differs_8 (lv_at hl 4 rfl) ?_
  refine lv_iadd hx hb dX4_differs_10 ?_
  refine wx_zaldv (D := g.1) (cl := vwCl) (N := 192) (f := fun j9 => y 15 0 j9) (v := y 15 0 (32 * b + c0)) hx hb hK hP (112) 3 (by omega) (mw_a (by decide) (by decide)) rfl (i := (32 * (nI b)) + (nI c0)) (by simp only [m32, nI_add]; exact vp_in_nI (by omega) (by decide)) (by simp only [m32, nI_add]; rw [nI_clamp (by omega)]) dX4_differs_11 ?_
  refine lv_iload_n hx hb dX4_differs_12 rfl (lv_at hl 2 rfl) ?_
  refine lv_iload_n hx hb dX4_differs_13 rfl (lv_at hl 3 rfl) ?_
  refine lv_iload hx hb dX4_differs_14 (lv_at hl 4 rfl) ?_
  refine wx_calli (va_runS (As := [.int p1, .int (nI j), .int (nI c0)]) (rest := [.int (y 15 0 (32 * b + c0))]) ⟨hx, hb, hml, hown, hts⟩ (m_has l hst g base n L (mw g L y ch r0) p1 j c0 (by omega) (by omega)) (va_cwS 3 hts gX4_differs_X4_has rfl rfl rfl (by decide +kernel) ⟨Nat.le_of_ble_eq_true rfl, Nat.le_of_ble_eq_true rfl⟩) (hPW.preS hP hS) rfl rfl hl.1 rfl (lv_room (Nat.le_of_ble_eq_true rfl)) dX4_differs_16 ⟨Nat.le_of_ble_eq_true rfl, Nat.le_of_ble_eq_true rfl⟩) hS (fun r16 u16 H locs h16 hP hS => ?_)
  rcases h16 with ⟨rfl, h16⟩ | ⟨rfl, h16⟩
  · refine lv_icmp_eq (tgt := 26) hx hb dX4_differs_19 (by decide) (fun c19 => ?_) (fun c19 => ?_)
    · refine lv_iconst (v := 0) hx hb dX4_differs_26 (by decide) ?_
      refine W.widen (k := 0) (n := 0) (Nat.le_of_ble_eq_true rfl) (Nat.le_of_ble_eq_true rfl) ?_
      exact W.zret (v := 0) hx hb hr (by decide) (fun t ht hW => ⟨⟨0, (), rfl, Or.inr ⟨rfl, by unfold dfP; rw [bz_t h16]; exact fun h9 => h9 c19⟩, PB.mk9 hP ht⟩, hS.F ht⟩) hS.2.2 dX4_differs_27
    · refine lv_iconst (v := 1) hx hb dX4_differs_22 (by decide) ?_
      refine lv_goto (tgt := 27) hx hb dX4_differs_23 (by decide) ?_
      refine W.widen (k := 0) (n := 0) (Nat.le_of_ble_eq_true rfl) (Nat.le_of_ble_eq_true rfl) ?_
      exact W.zret (v := 1) hx hb hr (by decide) (fun t ht hW => ⟨⟨1, (), rfl, Or.inl ⟨rfl, by unfold dfP; rw [bz_t h16]; exact c19⟩, PB.mk9 hP ht⟩, hS.F ht⟩) hS.2.2 dX4_differs_27
  · refine lv_icmp_eq (tgt := 26) hx hb dX4_differs_19 (by decide) (fun c19 => ?_) (fun c19 => ?_)
    · refine lv_iconst (v := 0) hx hb dX4_differs_26 (by decide) ?_
      refine W.widen (k := 0) (n := 0) (Nat.le_of_ble_eq_true rfl) (Nat.le_of_ble_eq_true rfl) ?_
      exact W.zret (v := 0) hx hb hr (by decide) (fun t ht hW => ⟨⟨0, (), rfl, Or.inr ⟨rfl, by unfold dfP; rw [bz_f h16]; exact fun h9 => h9 c19⟩, PB.mk9 hP ht⟩, hS.F ht⟩) hS.2.2 dX4_differs_27
    · refine lv_iconst (v := 1) hx hb dX4_differs_22 (by decide) ?_
      refine lv_goto (tgt := 27) hx hb dX4_differs_23 (by decide) ?_
      refine W.widen (k := 0) (n := 0) (Nat.le_of_ble_eq_true rfl) (Nat.le_of_ble_eq_true rfl) ?_
      exact W.zret (v := 1) hx hb hr (by decide) (fun t ht hW => ⟨⟨1, (), rfl, Or.inl ⟨rfl, by unfold dfP; rw [bz_f h16]; exact c19⟩, PB.mk9 hP ht⟩, hS.F ht⟩) hS.2.2 dX4_differs_27

set_option maxHeartbeats 4000000 in
set_option maxRecDepth 100000 in
theorem m_costs (l : Launch) (hst : l.stackTraces = false) (g : gE) (base n : Nat) (L : Nat → Nat) (hn : 123 ≤ n) (y : St) (ch : Int64) (r0 : Nat → va_E) (b : Nat) (hb6 : b < 6) (p1 : Int32) (j : Nat) (hj8 : j < 8) : Met l yX4_costs wsX4_costs ({ frames := 2, cells := 0, slots := 0, locals := 120 }) (va_Pc [.ref (L 106), .int (nI b), .int p1, .int (nI j)] (PW SS g base n L (mw g L y ch r0))) (va_Qi (fun (r : Int32) (_ : Unit) => r = coF y b p1 j 32) (fun (u : Unit) t => PB g n L (mw g L y ch r0) t) (fun q => base ≤ q)) 0 0 (fun q => base ≤ q) := by
  refine Met.ofW (cc := cX4_costs) (maxL := 6) (ret := (some .int)) (by decide) rfl ?_
  intro p e s m args below meth c s₁ B hml hv
  obtain ⟨rfl, hPW⟩ := hv
  obtain ⟨hbs, hJ, hP, hK, hE⟩ := id hPW
  have hx := B.exec
  have hb := B.bytes
  have hr := B.returns
  have hts := atoms_spec (ws := wsX4_costs) B.pre
  have hown : s.vm.findClass RX4 = some m.cls := findClass_of_methodNamed B.named
  have hlocks := B.notSynchronized
  have hS : va_S (fun q : Nat => base ≤ q) s.heap s.heap [] := va_S.rf
  have hl := lv_entry ([.ref (L 106), .int (nI b), .int p1, .int (nI j)]) (n := 6) (Nat.le_of_ble_eq_true rfl)
  rw [lg_entry_eq]
  generalize (lg_sl ([.ref (L 106), .int (nI b), .int p1, .int (nI j)]) ++ List.replicate (6 - (lg_sl ([.ref (L 106), .int (nI b), .int p1, .int (nI j)])).length) Slot.unset).toArray = ls at hl ⊢
  have hl : lv_has ls 6 [(0, .ref (L 106)), (1, .int (nI b)), (2, .int p1), (3, .int (nI j))] := hl
  refine lv_iconst (v := 0) hx hb dX4_costs_0 (by decide) ?_
  refine lv_istore (lv' := [(4, .int 0), (0, .ref (L 106)), (1, .int (nI b)), (2, .int p1), (3, .int (nI j))]) hx hb dX4_costs_1 hl (by decide) rfl (fun ls hl => ?_)
  refine lv_iconst (v := 0) hx hb dX4_costs_3 (by decide) ?_
  refine lv_istore (lv' := [(5, .int 0), (4, .int 0), (0, .ref (L 106)), (1, .int (nI b)), (2, .int p1), (3, .int (nI j))]) hx hb dX4_costs_4 hl (by decide) rfl (fun ls hl => ?_)
  have key6 : ∀ (d k : Nat) (z5 : Int32) (z4 : Int32) (H : Heap) (locs : List Loc) (ls : Array Slot), k + d = 32 → (z5 = nI k) → (z4 = coF y b p1 j k) → va_P g.1 vwCl (wl n L (mw g L y ch r0)) H → va_S (fun q : Nat => base ≤ q) s.heap H locs → lv_has ls 6 [(5, .int z5), (4, .int z4), (0, .ref (L 106)), (1, .int (nI b)), (2, .int p1), (3, .int (nI j))] → W p l e (headSpec wsX4_costs ({ frames := 2, cells := 0, slots := 0, locals := 120 })).room s m ([.ref (L 106), .int (nI b), .int p1, .int (nI j)] : List Value).toArray below meth c H locs 0 0 (MQ below (va_Qi (fun (r : Int32) (_ : Unit) => r = coF y b p1 j 32) (fun (u : Unit) t => PB g n L (mw g L y ch r0) t) (fun q => base ≤ q)) ([.ref (L 106), .int (nI b), .int p1, .int (nI j)] : List Value).toArray s 0 0 (fun q => base ≤ q)) (F0 m 6 ls []) := by
    intro d
    induction d with
    | zero =>
      intro k z5 z4 H locs ls hkd ek5 ek4 hP hS hl
      obtain rfl : k = 32 := by omega
      subst ek5 ek4
      refine lv_iload hx hb dX4_costs_6 (lv_at hl 0 rfl) ?_
      refine lv_bipush (v := 32) hx hb dX4_costs_8 (by decide) ?_
      refine lv_icmp_ge (tgt := 41) hx hb dX4_costs_10 (by decide) (fun c10 => ?_) (fun c10 => absurd (by decide) c10)
      refine lv_iload hx hb dX4_costs_41 (lv_at hl 1 rfl) ?_
      refine W.widen (k := 0) (n := 0) (Nat.le_of_ble_eq_true rfl) (Nat.le_of_ble_eq_true rfl) ?_
      exact W.iret (v := coF y b p1 j 32) hx hb hr (fun t ht hW => ⟨⟨coF y b p1 j 32, (), rfl, rfl, PB.mk9 hP ht⟩, hS.F ht⟩) hS.2.2 dX4_costs_43
    | succ d ih =>
      intro k z5 z4 H locs ls hkd ek5 ek4 hP hS hl
      have hkN : k < 32 := by omega
      subst ek5 ek4
      refine lv_iload hx hb dX4_costs_6 (lv_at hl 0 rfl) ?_
      refine lv_bipush (v := 32) hx hb dX4_costs_8 (by decide) ?_
      refine lv_icmp_ge (tgt := 41) hx hb dX4_costs_10 (by decide) (fun c10 => absurd c10 (nI_ge (b := 32) hkN (by decide))) (fun c10 => ?_)
      refine lv_iload hx hb dX4_costs_13 (lv_at hl 1 rfl) ?_
      refine lv_aload_n hx hb dX4_costs_15 rfl (lv_at hl 2 rfl) ?_
      refine lv_iload_n hx hb dX4_costs_16 rfl (lv_at hl 3 rfl) ?_
      refine lv_iload_n hx hb dX4_costs_17 rfl (lv_at hl 4 rfl) ?_
      refine lv_iload_n hx hb dX4_costs_18 rfl (lv_at hl 5 rfl) ?_
      refine lv_iload hx hb dX4_costs_19 (lv_at hl 0 rfl) ?_
      refine wx_calli (va_runV (As := [.int (nI b), .int p1, .int (nI j), .int (nI k)]) (rest := [.int (coF y b p1 j k)]) ⟨hx, hb, hml, hown, hts⟩ (m_differs l hst g base n L (by omega) y ch r0 b (by omega) p1 j (by omega) k (by omega)) (cwV 4 hts gX4_costs_X4_differs rfl rfl rfl (by decide +kernel) ⟨Nat.le_of_ble_eq_true rfl, Nat.le_of_ble_eq_true rfl⟩) (hPW.preV hP hS (ci := 6) rfl (by omega) mw_o) rfl rfl hl.1 rfl (lv_room (Nat.le_of_ble_eq_true rfl)) dX4_costs_21 ⟨Nat.le_of_ble_eq_true rfl, Nat.le_of_ble_eq_true rfl⟩) hS (fun r21 u21 H locs h21 hP hS => ?_)
      rcases h21 with ⟨rfl, h21⟩ | ⟨rfl, h21⟩
      · refine lv_if_eq (tgt := 31) hx hb dX4_costs_24 (by decide) (fun c24 => absurd c24 (by decide)) (fun c24 => ?_)
        refine lv_iconst (v := 1) hx hb dX4_costs_27 (by decide) ?_
        refine lv_goto (tgt := 32) hx hb dX4_costs_28 (by decide) ?_
        refine lv_iadd hx hb dX4_costs_32 ?_
        refine lv_istore (lv' := [(4, .int ((coF y b p1 j k) + 1)), (5, .int (nI k)), (0, .ref (L 106)), (1, .int (nI b)), (2, .int p1), (3, .int (nI j))]) hx hb dX4_costs_33 hl (by decide) rfl (fun ls hl => ?_)
        obtain ⟨z35, ez35⟩ : ∃ y : Int32, y = nI k + 1 := ⟨_, rfl⟩
        refine lv_iinc (v := z35) (lv' := [(5, .int z35), (4, .int ((coF y b p1 j k) + 1)), (0, .ref (L 106)), (1, .int (nI b)), (2, .int p1), (3, .int (nI j))]) hx hb dX4_costs_35 hl (k := 1) rfl (by rw [ez35]; rfl) (by decide) rfl (fun ls hl => ?_)
        refine lv_goto (tgt := 6) hx hb dX4_costs_38 (by decide) ?_
        exact ih (k + 1) _ _ _ _ _ (by omega) (by rw [ez35, nI_1]) (cnP_t h21) hP hS (lv_sub hl [0, 1, 2, 3, 4, 5] rfl)
      · refine lv_if_eq (tgt := 31) hx hb dX4_costs_24 (by decide) (fun c24 => ?_) (fun c24 => absurd (by decide) c24)
        refine lv_iconst (v := 0) hx hb dX4_costs_31 (by decide) ?_
        refine lv_iadd hx hb dX4_costs_32 ?_
        refine lv_istore (lv' := [(4, .int ((coF y b p1 j k) + 0)), (5, .int (nI k)), (0, .ref (L 106)), (1, .int (nI b)), (2, .int p1), (3, .int (nI j))]) hx hb dX4_costs_33 hl (by decide) rfl (fun ls hl => ?_)
        obtain ⟨z35, ez35⟩ : ∃ y : Int32, y = nI k + 1 := ⟨_, rfl⟩
        refine lv_iinc (v := z35) (lv' := [(5, .int z35), (4, .int ((coF y b p1 j k) + 0)), (0, .ref (L 106)), (1, .int (nI b)), (2, .int p1), (3, .int (nI j))]) hx hb dX4_costs_35 hl (k := 1) rfl (by rw [ez35]; rfl) (by decide) rfl (fun ls hl => ?_)
        refine lv_goto (tgt := 6) hx hb dX4_costs_38 (by decide) ?_
        exact ih (k + 1) _ _ _ _ _ (by omega) (by rw [ez35, nI_1]) (cnP_f h21) hP hS (lv_sub hl [0, 1, 2, 3, 4, 5] rfl)
  exact key6 32 0 _ _ _ _ _ (by omega) rfl rfl hP hS (lv_sub hl [0, 1, 2, 3, 4, 5] rfl)

set_option maxHeartbeats 4000000 in
set_option maxRecDepth 100000 in
theorem m_worstBehind (l : Launch) (hst : l.stackTraces = false) (g : gE) (base n : Nat) (L : Nat → Nat) (hn : 123 ≤ n) (y : St) (ch : Int64) (r0 : Nat → va_E) (b : Nat) (hb6 : b < 6) (p1 : Int32) (j : Nat) (hj8 : j < 8) : Met l yX4_worstBehind wsX4_worstBehind ({ frames := 2, cells := 0, slots := 0, locals := 120 }) (va_Pc [.ref (L 106), .int (nI b), .int p1, .int (nI j)] (PW SS g base n L (mw g L y ch r0))) (va_Qi (fun (r : Int32) (_ : Unit) => r = wbF y b p1 j 32) (fun (u : Unit) t => PB g n L (mw g L y ch r0) t) (fun q => base ≤ q)) 0 0 (fun q => base ≤ q) := by
  refine Met.ofW (cc := cX4_worstBehind) (maxL := 6) (ret := (some .int)) (by decide) rfl ?_
  intro p e s m args below meth c s₁ B hml hv
  obtain ⟨rfl, hPW⟩ := hv
  obtain ⟨hbs, hJ, hP, hK, hE⟩ := id hPW
  have hx := B.exec
  have hb := B.bytes
  have hr := B.returns
  have hts := atoms_spec (ws := wsX4_worstBehind) B.pre
  have hown : s.vm.findClass RX4 = some m.cls := findClass_of_methodNamed B.named
  have hlocks := B.notSynchronized
  have hS : va_S (fun q : Nat => base ≤ q) s.heap s.heap [] := va_S.rf
  have hl := lv_entry ([.ref (L 106), .int (nI b), .int p1, .int (nI j)]) (n := 6) (Nat.le_of_ble_eq_true rfl)
  rw [lg_entry_eq]
  generalize (lg_sl ([.ref (L 106), .int (nI b), .int p1, .int (nI j)]) ++ List.replicate (6 - (lg_sl ([.ref (L 106), .int (nI b), .int p1, .int (nI j)])).length) Slot.unset).toArray = ls at hl ⊢
  have hl : lv_has ls 6 [(0, .ref (L 106)), (1, .int (nI b)), (2, .int p1), (3, .int (nI j))] := hl
  have iX4 : ∀ w ∈ wsX40, w ∈ wsX4_worstBehind := by decide +kernel
  refine lv_iconst (v := 0) hx hb dX4_worstBehind_0 (by decide) ?_
  refine lv_istore (lv' := [(4, .int 0), (0, .ref (L 106)), (1, .int (nI b)), (2, .int p1), (3, .int (nI j))]) hx hb dX4_worstBehind_1 hl (by decide) rfl (fun ls hl => ?_)
  refine lv_iconst (v := 0) hx hb dX4_worstBehind_3 (by decide) ?_
  refine lv_istore (lv' := [(5, .int 0), (4, .int 0), (0, .ref (L 106)), (1, .int (nI b)), (2, .int p1), (3, .int (nI j))]) hx hb dX4_worstBehind_4 hl (by decide) rfl (fun ls hl => ?_)
  have key6 : ∀ (d k : Nat) (z5 : Int32) (z4 : Int32) (H : Heap) (locs : List Loc) (ls : Array Slot), k + d = 32 → (z5 = nI k) → (z4 = wbF y b p1 j k) → va_P g.1 vwCl (wl n L (mw g L y ch r0)) H → va_S (fun q : Nat => base ≤ q) s.heap H locs → lv_has ls 6 [(5, .int z5), (4, .int z4), (0, .ref (L 106)), (1, .int (nI b)), (2, .int p1), (3, .int (nI j))] → W p l e (headSpec wsX4_worstBehind ({ frames := 2, cells := 0, slots := 0, locals := 120 })).room s m ([.ref (L 106), .int (nI b), .int p1, .int (nI j)] : List Value).toArray below meth c H locs 0 0 (MQ below (va_Qi (fun (r : Int32) (_ : Unit) => r = wbF y b p1 j 32) (fun (u : Unit) t => PB g n L (mw g L y ch r0) t) (fun q => base ≤ q)) ([.ref (L 106), .int (nI b), .int p1, .int (nI j)] : List Value).toArray s 0 0 (fun q => base ≤ q)) (F0 m 6 ls []) := by
    intro d
    induction d with
    | zero =>
      intro k z5 z4 H locs ls hkd ek5 ek4 hP hS hl
      obtain rfl : k = 32 := by omega
      subst ek5 ek4
      refine lv_iload hx hb dX4_worstBehind_6 (lv_at hl 0 rfl) ?_
      refine lv_bipush (v := 32) hx hb dX4_worstBehind_8 (by decide) ?_
      refine lv_icmp_ge (tgt := 56) hx hb dX4_worstBehind_10 (by decide) (fun c10 => ?_) (fun c10 => absurd (by decide) c10)
      refine lv_iload hx hb dX4_worstBehind_56 (lv_at hl 1 rfl) ?_
      refine W.widen (k := 0) (n := 0) (Nat.le_of_ble_eq_true rfl) (Nat.le_of_ble_eq_true rfl) ?_
      exact W.iret (v := wbF y b p1 j 32) hx hb hr (fun t ht hW => ⟨⟨wbF y b p1 j 32, (), rfl, rfl, PB.mk9 hP ht⟩, hS.F ht⟩) hS.2.2 dX4_worstBehind_58
    | succ d ih =>
      intro k z5 z4 H locs ls hkd ek5 ek4 hP hS hl
      have hkN : k < 32 := by omega
      subst ek5 ek4
      refine lv_iload hx hb dX4_worstBehind_6 (lv_at hl 0 rfl) ?_
      refine lv_bipush (v := 32) hx hb dX4_worstBehind_8 (by decide) ?_
      refine lv_icmp_ge (tgt := 56) hx hb dX4_worstBehind_10 (by decide) (fun c10 => absurd c10 (nI_ge (b := 32) hkN (by decide))) (fun c10 => ?_)
      refine lv_iload hx hb dX4_worstBehind_13 (lv_at hl 1 rfl) ?_
      refine lv_aload_n hx hb dX4_worstBehind_15 rfl (lv_at hl 2 rfl) ?_
      refine wx_get (D := g.1) (cl := vwCl) (ci := 6) (v := .ref (L 113)) (C := RX4) (T := TX4) (N := 22) hx hb hts iX4 hown hK hP (106) (by omega) mw_o rfl 12 (by decide) (hts (.fieldLink RX4 33 "FerroDeskModel" "wear" "[I") (by decide +kernel)) (fun _ h9 => h9) rfl dX4_worstBehind_16 ?_
      refine lv_bipush (v := 32) hx hb dX4_worstBehind_19 (by decide) ?_
      refine lv_iload_n hx hb dX4_worstBehind_21 rfl (lv_at hl 3 rfl) ?_
      refine lv_imul hx hb dX4_worstBehind_22 ?_
      refine lv_iload hx hb dX4_worstBehind_23 (lv_at hl 0 rfl) ?_
      refine lv_iadd hx hb dX4_worstBehind_25 ?_
      refine wx_ialdv (D := g.1) (cl := vwCl) (N := 192) (f := fun j9 => y 16 0 j9) (v := y 16 0 (32 * b + k)) hx hb hK hP (113) 0 (by omega) (mw_a (by decide) (by decide)) rfl (i := (32 * (nI b)) + (nI k)) (by simp only [m32, nI_add]; exact vp_in_nI (by omega) (by decide)) (by simp only [m32, nI_add]; rw [nI_clamp (by omega)]) dX4_worstBehind_26 ?_
      refine lv_aload_n hx hb dX4_worstBehind_27 rfl (lv_at hl 2 rfl) ?_
      refine lv_iload_n hx hb dX4_worstBehind_28 rfl (lv_at hl 3 rfl) ?_
      refine lv_iload_n hx hb dX4_worstBehind_29 rfl (lv_at hl 4 rfl) ?_
      refine lv_iload_n hx hb dX4_worstBehind_30 rfl (lv_at hl 5 rfl) ?_
      refine lv_iload hx hb dX4_worstBehind_31 (lv_at hl 0 rfl) ?_
      refine wx_calli (va_runV (As := [.int (nI b), .int p1, .int (nI j), .int (nI k)]) (rest := [.int (y 16 0 (32 * b + k)), .int (wbF y b p1 j k)]) ⟨hx, hb, hml, hown, hts⟩ (m_differs l hst g base n L (by omega) y ch r0 b (by omega) p1 j (by omega) k (by omega)) (cwV 4 hts gX4_worstBehind_X4_differs rfl rfl rfl (by decide +kernel) ⟨Nat.le_of_ble_eq_true rfl, Nat.le_of_ble_eq_true rfl⟩) (hPW.preV hP hS (ci := 6) rfl (by omega) mw_o) rfl rfl hl.1 rfl (lv_room (Nat.le_of_ble_eq_true rfl)) dX4_worstBehind_33 ⟨Nat.le_of_ble_eq_true rfl, Nat.le_of_ble_eq_true rfl⟩) hS (fun r33 u33 H locs h33 hP hS => ?_)
      rcases h33 with ⟨rfl, h33⟩ | ⟨rfl, h33⟩
      · refine lv_if_eq (tgt := 43) hx hb dX4_worstBehind_36 (by decide) (fun c36 => absurd c36 (by decide)) (fun c36 => ?_)
        refine lv_iconst (v := 1) hx hb dX4_worstBehind_39 (by decide) ?_
        refine lv_goto (tgt := 44) hx hb dX4_worstBehind_40 (by decide) ?_
        refine lv_iadd hx hb dX4_worstBehind_44 ?_
        refine wx_calli (va_runS (As := [.int (wbF y b p1 j k), .int ((y 16 0 (32 * b + k)) + 1)]) (rest := []) ⟨hx, hb, hml, hown, hts⟩ (m_most l hst g base n L (mw g L y ch r0) (wbF y b p1 j k) ((y 16 0 (32 * b + k)) + 1)) (va_cwS 2 hts gX4_worstBehind_X4_most rfl rfl rfl (by decide +kernel) ⟨Nat.le_of_ble_eq_true rfl, Nat.le_of_ble_eq_true rfl⟩) (hPW.preS hP hS) rfl rfl hl.1 rfl (lv_room (Nat.le_of_ble_eq_true rfl)) dX4_worstBehind_45 ⟨Nat.le_of_ble_eq_true rfl, Nat.le_of_ble_eq_true rfl⟩) hS (fun r45 u45 H locs h45 hP hS => ?_)
        obtain rfl := h45
        refine lv_istore (lv' := [(4, .int (moI (wbF y b p1 j k) ((y 16 0 (32 * b + k)) + 1))), (5, .int (nI k)), (0, .ref (L 106)), (1, .int (nI b)), (2, .int p1), (3, .int (nI j))]) hx hb dX4_worstBehind_48 hl (by decide) rfl (fun ls hl => ?_)
        obtain ⟨z50, ez50⟩ : ∃ y : Int32, y = nI k + 1 := ⟨_, rfl⟩
        refine lv_iinc (v := z50) (lv' := [(5, .int z50), (4, .int (moI (wbF y b p1 j k) ((y 16 0 (32 * b + k)) + 1))), (0, .ref (L 106)), (1, .int (nI b)), (2, .int p1), (3, .int (nI j))]) hx hb dX4_worstBehind_50 hl (k := 1) rfl (by rw [ez50]; rfl) (by decide) rfl (fun ls hl => ?_)
        refine lv_goto (tgt := 6) hx hb dX4_worstBehind_53 (by decide) ?_
        exact ih (k + 1) _ _ _ _ _ (by omega) (by rw [ez50, nI_1]) (by show _ = moI (wbF y b p1 j k) (y 16 0 (32 * b + k) + bz (dfP y b p1 j k)); rw [bz_t h33]) hP hS (lv_sub hl [0, 1, 2, 3, 4, 5] rfl)
      · refine lv_if_eq (tgt := 43) hx hb dX4_worstBehind_36 (by decide) (fun c36 => ?_) (fun c36 => absurd (by decide) c36)
        refine lv_iconst (v := 0) hx hb dX4_worstBehind_43 (by decide) ?_
        refine lv_iadd hx hb dX4_worstBehind_44 ?_
        refine wx_calli (va_runS (As := [.int (wbF y b p1 j k), .int ((y 16 0 (32 * b + k)) + 0)]) (rest := []) ⟨hx, hb, hml, hown, hts⟩ (m_most l hst g base n L (mw g L y ch r0) (wbF y b p1 j k) ((y 16 0 (32 * b + k)) + 0)) (va_cwS 2 hts gX4_worstBehind_X4_most rfl rfl rfl (by decide +kernel) ⟨Nat.le_of_ble_eq_true rfl, Nat.le_of_ble_eq_true rfl⟩) (hPW.preS hP hS) rfl rfl hl.1 rfl (lv_room (Nat.le_of_ble_eq_true rfl)) dX4_worstBehind_45 ⟨Nat.le_of_ble_eq_true rfl, Nat.le_of_ble_eq_true rfl⟩) hS (fun r45 u45 H locs h45 hP hS => ?_)
        obtain rfl := h45
        refine lv_istore (lv' := [(4, .int (moI (wbF y b p1 j k) ((y 16 0 (32 * b + k)) + 0))), (5, .int (nI k)), (0, .ref (L 106)), (1, .int (nI b)), (2, .int p1), (3, .int (nI j))]) hx hb dX4_worstBehind_48 hl (by decide) rfl (fun ls hl => ?_)
        obtain ⟨z50, ez50⟩ : ∃ y : Int32, y = nI k + 1 := ⟨_, rfl⟩
        refine lv_iinc (v := z50) (lv' := [(5, .int z50), (4, .int (moI (wbF y b p1 j k) ((y 16 0 (32 * b + k)) + 0))), (0, .ref (L 106)), (1, .int (nI b)), (2, .int p1), (3, .int (nI j))]) hx hb dX4_worstBehind_50 hl (k := 1) rfl (by rw [ez50]; rfl) (by decide) rfl (fun ls hl => ?_)
        refine lv_goto (tgt := 6) hx hb dX4_worstBehind_53 (by decide) ?_
        exact ih (k + 1) _ _ _ _ _ (by omega) (by rw [ez50, nI_1]) (by show _ = moI (wbF y b p1 j k) (y 16 0 (32 * b + k) + bz (dfP y b p1 j k)); rw [bz_f h33]) hP hS (lv_sub hl [0, 1, 2, 3, 4, 5] rfl)
  exact key6 32 0 _ _ _ _ _ (by omega) rfl rfl hP hS (lv_sub hl [0, 1, 2, 3, 4, 5] rfl)

set_option maxHeartbeats 4000000 in
set_option maxRecDepth 100000 in
theorem m_can (l : Launch) (hst : l.stackTraces = false) (g : gE) (base n : Nat) (L : Nat → Nat) (hn : 123 ≤ n) (y : St) (ch : Int64) (r0 : Nat → va_E) (b : Nat) (hb6 : b < 6) (p1 : Int32) (j : Nat) (hj8 : j < 8) : Met l yX4_can wsX4_can ({ frames := 3, cells := 0, slots := 0, locals := 180 }) (va_Pc [.ref (L 106), .int (nI b), .int p1, .int (nI j)] (PW SS g base n L (mw g L y ch r0))) (va_Qi (fun (r : Int32) (_ : Unit) => (r = 1 ∧ cnQ y b p1 j 32) ∨ (r = 0 ∧ ¬ cnQ y b p1 j 32)) (fun (u : Unit) t => PB g n L (mw g L y ch r0) t) (fun q => base ≤ q)) 0 0 (fun q => base ≤ q) := by
  refine Met.ofW (cc := cX4_can) (maxL := 7) (ret := (some .boolean)) (by decide) rfl ?_
  intro p e s m args below meth c s₁ B hml hv
  obtain ⟨rfl, hPW⟩ := hv
  obtain ⟨hbs, hJ, hP, hK, hE⟩ := id hPW
  have hx := B.exec
  have hb := B.bytes
  have hr := B.returns
  have hts := atoms_spec (ws := wsX4_can) B.pre
  have hown : s.vm.findClass RX4 = some m.cls := findClass_of_methodNamed B.named
  have hlocks := B.notSynchronized
  have hS : va_S (fun q : Nat => base ≤ q) s.heap s.heap [] := va_S.rf
  have hl := lv_entry ([.ref (L 106), .int (nI b), .int p1, .int (nI j)]) (n := 7) (Nat.le_of_ble_eq_true rfl)
  rw [lg_entry_eq]
  generalize (lg_sl ([.ref (L 106), .int (nI b), .int p1, .int (nI j)]) ++ List.replicate (7 - (lg_sl ([.ref (L 106), .int (nI b), .int p1, .int (nI j)])).length) Slot.unset).toArray = ls at hl ⊢
  have hl : lv_has ls 7 [(0, .ref (L 106)), (1, .int (nI b)), (2, .int p1), (3, .int (nI j))] := hl
  have iX4 : ∀ w ∈ wsX40, w ∈ wsX4_can := by decide +kernel
  refine lv_aload_n hx hb dX4_can_0 rfl (lv_at hl 0 rfl) ?_
  refine wx_get (D := g.1) (cl := vwCl) (ci := 6) (v := .ref (L 108)) (C := RX4) (T := TX4) (N := 22) hx hb hts iX4 hown hK hP (106) (by omega) mw_o rfl 7 (by decide) (hts (.fieldLink RX4 17 "FerroDeskModel" "charge" "[I") (by decide +kernel)) (fun _ h9 => h9) rfl dX4_can_1 ?_
  refine lv_iload_n hx hb dX4_can_4 rfl (lv_at hl 1 rfl) ?_
  refine wx_ialdv (D := g.1) (cl := vwCl) (N := 6) (f := fun j9 => y 11 0 j9) (v := y 11 0 b) hx hb hK hP (108) 0 (by omega) (mw_a (by decide) (by decide)) rfl (i := (nI b)) (by exact vp_in_nI (by omega) (by decide)) (by rw [nI_clamp (by omega)]) dX4_can_5 ?_
  refine lv_aload_n hx hb dX4_can_6 rfl (lv_at hl 0 rfl) ?_
  refine lv_iload_n hx hb dX4_can_7 rfl (lv_at hl 1 rfl) ?_
  refine lv_iload_n hx hb dX4_can_8 rfl (lv_at hl 2 rfl) ?_
  refine lv_iload_n hx hb dX4_can_9 rfl (lv_at hl 3 rfl) ?_
  refine wx_calli (va_runV (As := [.int (nI b), .int p1, .int (nI j)]) (rest := [.int (y 11 0 b)]) ⟨hx, hb, hml, hown, hts⟩ (m_costs l hst g base n L (by omega) y ch r0 b (by omega) p1 j (by omega)) (cwV 3 hts gX4_can_X4_costs rfl rfl rfl (by decide +kernel) ⟨Nat.le_of_ble_eq_true rfl, Nat.le_of_ble_eq_true rfl⟩) (hPW.preV hP hS (ci := 6) rfl (by omega) mw_o) rfl rfl hl.1 rfl (lv_room (Nat.le_of_ble_eq_true rfl)) dX4_can_10 ⟨Nat.le_of_ble_eq_true rfl, Nat.le_of_ble_eq_true rfl⟩) hS (fun r10 u10 H locs h10 hP hS => ?_)
  obtain rfl := h10
  refine lv_iload_n hx hb dX4_can_13 rfl (lv_at hl 2 rfl) ?_
  refine wx_calli (va_runS (As := [.int p1]) (rest := [.int (coF y b p1 j 32), .int (y 11 0 b)]) ⟨hx, hb, hml, hown, hts⟩ (m_blacks l hst g base n L (mw g L y ch r0) p1) (va_cwS 1 hts gX4_can_X4_blacks rfl rfl rfl (by decide +kernel) ⟨Nat.le_of_ble_eq_true rfl, Nat.le_of_ble_eq_true rfl⟩) (hPW.preS hP hS) rfl rfl hl.1 rfl (lv_room (Nat.le_of_ble_eq_true rfl)) dX4_can_14 ⟨Nat.le_of_ble_eq_true rfl, Nat.le_of_ble_eq_true rfl⟩) hS (fun r14 u14 H locs h14 hP hS => ?_)
  obtain rfl := h14
  refine lv_iadd hx hb dX4_can_17 ?_
  refine lv_icmp_lt (tgt := 25) hx hb dX4_can_18 (by decide) (fun c18 => ?_) (fun c18 => ?_)
  · refine lv_iconst (v := 0) hx hb dX4_can_25 (by decide) ?_
    refine lv_istore (lv' := [(4, .int 0), (0, .ref (L 106)), (1, .int (nI b)), (2, .int p1), (3, .int (nI j))]) hx hb dX4_can_26 hl (by decide) rfl (fun ls hl => ?_)
    refine lv_iconst (v := 0) hx hb dX4_can_28 (by decide) ?_
    refine lv_istore (lv' := [(5, .int 0), (4, .int 0), (0, .ref (L 106)), (1, .int (nI b)), (2, .int p1), (3, .int (nI j))]) hx hb dX4_can_29 hl (by decide) rfl (fun ls hl => ?_)
    have key31 : ∀ (d k : Nat) (z5 : Int32) (z4 : Int32) (H : Heap) (locs : List Loc) (ls : Array Slot), k + d = 32 → (z5 = nI k) → (z4 = bz (cnQ y b p1 j k)) → va_P g.1 vwCl (wl n L (mw g L y ch r0)) H → va_S (fun q : Nat => base ≤ q) s.heap H locs → lv_has ls 7 [(5, .int z5), (4, .int z4), (0, .ref (L 106)), (1, .int (nI b)), (2, .int p1), (3, .int (nI j))] → W p l e (headSpec wsX4_can ({ frames := 3, cells := 0, slots := 0, locals := 180 })).room s m ([.ref (L 106), .int (nI b), .int p1, .int (nI j)] : List Value).toArray below meth c H locs (0 + 0 + 0) (0 + 0 + 0) (MQ below (va_Qi (fun (r : Int32) (_ : Unit) => (r = 1 ∧ cnQ y b p1 j 32) ∨ (r = 0 ∧ ¬ cnQ y b p1 j 32)) (fun (u : Unit) t => PB g n L (mw g L y ch r0) t) (fun q => base ≤ q)) ([.ref (L 106), .int (nI b), .int p1, .int (nI j)] : List Value).toArray s 0 0 (fun q => base ≤ q)) (F0 m 31 ls []) := by
      intro d
      induction d with
      | zero =>
        intro k z5 z4 H locs ls hkd ek5 ek4 hP hS hl
        obtain rfl : k = 32 := by omega
        subst ek5 ek4
        refine lv_iload hx hb dX4_can_31 (lv_at hl 0 rfl) ?_
        refine lv_bipush (v := 32) hx hb dX4_can_33 (by decide) ?_
        refine lv_icmp_ge (tgt := 111) hx hb dX4_can_35 (by decide) (fun c35 => ?_) (fun c35 => absurd (by decide) c35)
        refine lv_iload hx hb dX4_can_111 (lv_at hl 1 rfl) ?_
        refine W.widen (k := 0) (n := 0) (Nat.le_of_ble_eq_true rfl) (Nat.le_of_ble_eq_true rfl) ?_
        exact W.zret (v := bz (cnQ y b p1 j 32)) hx hb hr ((bz_01 (cnQ y b p1 j 32)).elim (fun h9 => by rw [h9]; decide) (fun h9 => by rw [h9]; decide)) (fun t ht hW => ⟨⟨bz (cnQ y b p1 j 32), (), rfl, (bzr (cnQ y b p1 j 32)), PB.mk9 hP ht⟩, hS.F ht⟩) hS.2.2 dX4_can_113
      | succ d ih =>
        intro k z5 z4 H locs ls hkd ek5 ek4 hP hS hl
        have hkN : k < 32 := by omega
        subst ek5 ek4
        refine lv_iload hx hb dX4_can_31 (lv_at hl 0 rfl) ?_
        refine lv_bipush (v := 32) hx hb dX4_can_33 (by decide) ?_
        refine lv_icmp_ge (tgt := 111) hx hb dX4_can_35 (by decide) (fun c35 => absurd c35 (nI_ge (b := 32) hkN (by decide))) (fun c35 => ?_)
        refine lv_aload_n hx hb dX4_can_38 rfl (lv_at hl 2 rfl) ?_
        refine wx_get (D := g.1) (cl := vwCl) (ci := 6) (v := .ref (L 113)) (C := RX4) (T := TX4) (N := 22) hx hb hts iX4 hown hK hP (106) (by omega) mw_o rfl 12 (by decide) (hts (.fieldLink RX4 33 "FerroDeskModel" "wear" "[I") (by decide +kernel)) (fun _ h9 => h9) rfl dX4_can_39 ?_
        refine lv_bipush (v := 32) hx hb dX4_can_42 (by decide) ?_
        refine lv_iload_n hx hb dX4_can_44 rfl (lv_at hl 3 rfl) ?_
        refine lv_imul hx hb dX4_can_45 ?_
        refine lv_iload hx hb dX4_can_46 (lv_at hl 0 rfl) ?_
        refine lv_iadd hx hb dX4_can_48 ?_
        refine wx_ialdv (D := g.1) (cl := vwCl) (N := 192) (f := fun j9 => y 16 0 j9) (v := y 16 0 (32 * b + k)) hx hb hK hP (113) 0 (by omega) (mw_a (by decide) (by decide)) rfl (i := (32 * (nI b)) + (nI k)) (by simp only [m32, nI_add]; exact vp_in_nI (by omega) (by decide)) (by simp only [m32, nI_add]; rw [nI_clamp (by omega)]) dX4_can_49 ?_
        refine lv_aload_n hx hb dX4_can_50 rfl (lv_at hl 2 rfl) ?_
        refine lv_iload_n hx hb dX4_can_51 rfl (lv_at hl 3 rfl) ?_
        refine lv_iload_n hx hb dX4_can_52 rfl (lv_at hl 4 rfl) ?_
        refine lv_iload_n hx hb dX4_can_53 rfl (lv_at hl 5 rfl) ?_
        refine lv_iload hx hb dX4_can_54 (lv_at hl 0 rfl) ?_
        refine wx_calli (va_runV (As := [.int (nI b), .int p1, .int (nI j), .int (nI k)]) (rest := [.int (y 16 0 (32 * b + k))]) ⟨hx, hb, hml, hown, hts⟩ (m_differs l hst g base n L (by omega) y ch r0 b (by omega) p1 j (by omega) k (by omega)) (cwV 4 hts gX4_can_X4_differs rfl rfl rfl (by decide +kernel) ⟨Nat.le_of_ble_eq_true rfl, Nat.le_of_ble_eq_true rfl⟩) (hPW.preV hP hS (ci := 6) rfl (by omega) mw_o) rfl rfl hl.1 rfl (lv_room (Nat.le_of_ble_eq_true rfl)) dX4_can_56 ⟨Nat.le_of_ble_eq_true rfl, Nat.le_of_ble_eq_true rfl⟩) hS (fun r56 u56 H locs h56 hP hS => ?_)
        rcases h56 with ⟨rfl, h56⟩ | ⟨rfl, h56⟩
        · refine lv_if_eq (tgt := 66) hx hb dX4_can_59 (by decide) (fun c59 => absurd c59 (by decide)) (fun c59 => ?_)
          refine lv_iconst (v := 1) hx hb dX4_can_62 (by decide) ?_
          refine lv_goto (tgt := 67) hx hb dX4_can_63 (by decide) ?_
          refine lv_iadd hx hb dX4_can_67 ?_
          refine lv_iload_n hx hb dX4_can_68 rfl (lv_at hl 4 rfl) ?_
          refine lv_iload_n hx hb dX4_can_69 rfl (lv_at hl 5 rfl) ?_
          refine lv_iload hx hb dX4_can_70 (lv_at hl 0 rfl) ?_
          refine wx_calli (va_runS (As := [.int p1, .int (nI j), .int (nI k)]) (rest := [.int ((y 16 0 (32 * b + k)) + 1)]) ⟨hx, hb, hml, hown, hts⟩ (m_has l hst g base n L (mw g L y ch r0) p1 j k (by omega) (by omega)) (va_cwS 3 hts gX4_can_X4_has rfl rfl rfl (by decide +kernel) ⟨Nat.le_of_ble_eq_true rfl, Nat.le_of_ble_eq_true rfl⟩) (hPW.preS hP hS) rfl rfl hl.1 rfl (lv_room (Nat.le_of_ble_eq_true rfl)) dX4_can_72 ⟨Nat.le_of_ble_eq_true rfl, Nat.le_of_ble_eq_true rfl⟩) hS (fun r72 u72 H locs h72 hP hS => ?_)
          rcases h72 with ⟨rfl, h72⟩ | ⟨rfl, h72⟩
          · refine lv_if_eq (tgt := 82) hx hb dX4_can_75 (by decide) (fun c75 => absurd c75 (by decide)) (fun c75 => ?_)
            refine lv_iconst (v := 1) hx hb dX4_can_78 (by decide) ?_
            refine lv_goto (tgt := 83) hx hb dX4_can_79 (by decide) ?_
            refine lv_iadd hx hb dX4_can_83 ?_
            refine lv_istore (lv' := [(6, .int (((y 16 0 (32 * b + k)) + 1) + 1)), (5, .int (nI k)), (4, .int (bz (cnQ y b p1 j k))), (0, .ref (L 106)), (1, .int (nI b)), (2, .int p1), (3, .int (nI j))]) hx hb dX4_can_84 hl (by decide) rfl (fun ls hl => ?_)
            refine lv_iload hx hb dX4_can_86 (lv_at hl 2 rfl) ?_
            refine lv_if_eq (tgt := 102) hx hb dX4_can_88 (by decide) (fun c88 => ?_) (fun c88 => ?_)
            · refine lv_iconst (v := 0) hx hb dX4_can_102 (by decide) ?_
              refine lv_istore (lv' := [(4, .int 0), (6, .int (((y 16 0 (32 * b + k)) + 1) + 1)), (5, .int (nI k)), (0, .ref (L 106)), (1, .int (nI b)), (2, .int p1), (3, .int (nI j))]) hx hb dX4_can_103 hl (by decide) rfl (fun ls hl => ?_)
              obtain ⟨z105, ez105⟩ : ∃ y : Int32, y = nI k + 1 := ⟨_, rfl⟩
              refine lv_iinc (v := z105) (lv' := [(5, .int z105), (4, .int 0), (6, .int (((y 16 0 (32 * b + k)) + 1) + 1)), (0, .ref (L 106)), (1, .int (nI b)), (2, .int p1), (3, .int (nI j))]) hx hb dX4_can_105 hl (k := 2) rfl (by rw [ez105]; rfl) (by decide) rfl (fun ls hl => ?_)
              refine lv_goto (tgt := 31) hx hb dX4_can_108 (by decide) ?_
              exact ih (k + 1) _ _ _ _ _ (by omega) (by rw [ez105, nI_1]) ((bz_f (cnQ_n (bz_0 c88))).symm) hP hS (lv_sub hl [0, 1, 3, 4, 5, 6] rfl)
            · refine lv_iload hx hb dX4_can_91 (lv_at hl 0 rfl) ?_
              refine lv_bipush (v := 60) hx hb dX4_can_93 (by decide) ?_
              refine lv_icmp_gt (tgt := 102) hx hb dX4_can_95 (by decide) (fun c95 => ?_) (fun c95 => ?_)
              · refine lv_iconst (v := 0) hx hb dX4_can_102 (by decide) ?_
                refine lv_istore (lv' := [(4, .int 0), (6, .int (((y 16 0 (32 * b + k)) + 1) + 1)), (5, .int (nI k)), (0, .ref (L 106)), (1, .int (nI b)), (2, .int p1), (3, .int (nI j))]) hx hb dX4_can_103 hl (by decide) rfl (fun ls hl => ?_)
                obtain ⟨z105, ez105⟩ : ∃ y : Int32, y = nI k + 1 := ⟨_, rfl⟩
                refine lv_iinc (v := z105) (lv' := [(5, .int z105), (4, .int 0), (6, .int (((y 16 0 (32 * b + k)) + 1) + 1)), (0, .ref (L 106)), (1, .int (nI b)), (2, .int p1), (3, .int (nI j))]) hx hb dX4_can_105 hl (k := 2) rfl (by rw [ez105]; rfl) (by decide) rfl (fun ls hl => ?_)
                refine lv_goto (tgt := 31) hx hb dX4_can_108 (by decide) ?_
                exact ih (k + 1) _ _ _ _ _ (by omega) (by rw [ez105, nI_1]) ((bz_f (cnQ_m (by rw [bz_t h56, bz_t h72]; exact Int32.not_le.mpr c95))).symm) hP hS (lv_sub hl [0, 1, 3, 4, 5, 6] rfl)
              · refine lv_iconst (v := 1) hx hb dX4_can_98 (by decide) ?_
                refine lv_goto (tgt := 103) hx hb dX4_can_99 (by decide) ?_
                refine lv_istore (lv' := [(4, .int 1), (6, .int (((y 16 0 (32 * b + k)) + 1) + 1)), (5, .int (nI k)), (0, .ref (L 106)), (1, .int (nI b)), (2, .int p1), (3, .int (nI j))]) hx hb dX4_can_103 hl (by decide) rfl (fun ls hl => ?_)
                obtain ⟨z105, ez105⟩ : ∃ y : Int32, y = nI k + 1 := ⟨_, rfl⟩
                refine lv_iinc (v := z105) (lv' := [(5, .int z105), (4, .int 1), (6, .int (((y 16 0 (32 * b + k)) + 1) + 1)), (0, .ref (L 106)), (1, .int (nI b)), (2, .int p1), (3, .int (nI j))]) hx hb dX4_can_105 hl (k := 2) rfl (by rw [ez105]; rfl) (by decide) rfl (fun ls hl => ?_)
                refine lv_goto (tgt := 31) hx hb dX4_can_108 (by decide) ?_
                exact ih (k + 1) _ _ _ _ _ (by omega) (by rw [ez105, nI_1]) ((bz_t (cnQ_y (bz_n0 c88) (by rw [bz_t h56, bz_t h72]; exact Int32.not_lt.mp c95))).symm) hP hS (lv_sub hl [0, 1, 3, 4, 5, 6] rfl)
          · refine lv_if_eq (tgt := 82) hx hb dX4_can_75 (by decide) (fun c75 => ?_) (fun c75 => absurd (by decide) c75)
            refine lv_iconst (v := 0) hx hb dX4_can_82 (by decide) ?_
            refine lv_iadd hx hb dX4_can_83 ?_
            refine lv_istore (lv' := [(6, .int (((y 16 0 (32 * b + k)) + 1) + 0)), (5, .int (nI k)), (4, .int (bz (cnQ y b p1 j k))), (0, .ref (L 106)), (1, .int (nI b)), (2, .int p1), (3, .int (nI j))]) hx hb dX4_can_84 hl (by decide) rfl (fun ls hl => ?_)
            refine lv_iload hx hb dX4_can_86 (lv_at hl 2 rfl) ?_
            refine lv_if_eq (tgt := 102) hx hb dX4_can_88 (by decide) (fun c88 => ?_) (fun c88 => ?_)
            · refine lv_iconst (v := 0) hx hb dX4_can_102 (by decide) ?_
              refine lv_istore (lv' := [(4, .int 0), (6, .int (((y 16 0 (32 * b + k)) + 1) + 0)), (5, .int (nI k)), (0, .ref (L 106)), (1, .int (nI b)), (2, .int p1), (3, .int (nI j))]) hx hb dX4_can_103 hl (by decide) rfl (fun ls hl => ?_)
              obtain ⟨z105, ez105⟩ : ∃ y : Int32, y = nI k + 1 := ⟨_, rfl⟩
              refine lv_iinc (v := z105) (lv' := [(5, .int z105), (4, .int 0), (6, .int (((y 16 0 (32 * b + k)) + 1) + 0)), (0, .ref (L 106)), (1, .int (nI b)), (2, .int p1), (3, .int (nI j))]) hx hb dX4_can_105 hl (k := 2) rfl (by rw [ez105]; rfl) (by decide) rfl (fun ls hl => ?_)
              refine lv_goto (tgt := 31) hx hb dX4_can_108 (by decide) ?_
              exact ih (k + 1) _ _ _ _ _ (by omega) (by rw [ez105, nI_1]) ((bz_f (cnQ_n (bz_0 c88))).symm) hP hS (lv_sub hl [0, 1, 3, 4, 5, 6] rfl)
            · refine lv_iload hx hb dX4_can_91 (lv_at hl 0 rfl) ?_
              refine lv_bipush (v := 60) hx hb dX4_can_93 (by decide) ?_
              refine lv_icmp_gt (tgt := 102) hx hb dX4_can_95 (by decide) (fun c95 => ?_) (fun c95 => ?_)
              · refine lv_iconst (v := 0) hx hb dX4_can_102 (by decide) ?_
                refine lv_istore (lv' := [(4, .int 0), (6, .int (((y 16 0 (32 * b + k)) + 1) + 0)), (5, .int (nI k)), (0, .ref (L 106)), (1, .int (nI b)), (2, .int p1), (3, .int (nI j))]) hx hb dX4_can_103 hl (by decide) rfl (fun ls hl => ?_)
                obtain ⟨z105, ez105⟩ : ∃ y : Int32, y = nI k + 1 := ⟨_, rfl⟩
                refine lv_iinc (v := z105) (lv' := [(5, .int z105), (4, .int 0), (6, .int (((y 16 0 (32 * b + k)) + 1) + 0)), (0, .ref (L 106)), (1, .int (nI b)), (2, .int p1), (3, .int (nI j))]) hx hb dX4_can_105 hl (k := 2) rfl (by rw [ez105]; rfl) (by decide) rfl (fun ls hl => ?_)
                refine lv_goto (tgt := 31) hx hb dX4_can_108 (by decide) ?_
                exact ih (k + 1) _ _ _ _ _ (by omega) (by rw [ez105, nI_1]) ((bz_f (cnQ_m (by rw [bz_t h56, bz_f h72]; exact Int32.not_le.mpr c95))).symm) hP hS (lv_sub hl [0, 1, 3, 4, 5, 6] rfl)
              · refine lv_iconst (v := 1) hx hb dX4_can_98 (by decide) ?_
                refine lv_goto (tgt := 103) hx hb dX4_can_99 (by decide) ?_
                refine lv_istore (lv' := [(4, .int 1), (6, .int (((y 16 0 (32 * b + k)) + 1) + 0)), (5, .int (nI k)), (0, .ref (L 106)), (1, .int (nI b)), (2, .int p1), (3, .int (nI j))]) hx hb dX4_can_103 hl (by decide) rfl (fun ls hl => ?_)
                obtain ⟨z105, ez105⟩ : ∃ y : Int32, y = nI k + 1 := ⟨_, rfl⟩
                refine lv_iinc (v := z105) (lv' := [(5, .int z105), (4, .int 1), (6, .int (((y 16 0 (32 * b + k)) + 1) + 0)), (0, .ref (L 106)), (1, .int (nI b)), (2, .int p1), (3, .int (nI j))]) hx hb dX4_can_105 hl (k := 2) rfl (by rw [ez105]; rfl) (by decide) rfl (fun ls hl => ?_)
                refine lv_goto (tgt := 31) hx hb dX4_can_108 (by decide) ?_
                exact ih (k + 1) _ _ _ _ _ (by omega) (by rw [ez105, nI_1]) ((bz_t (cnQ_y (bz_n0 c88) (by rw [bz_t h56, bz_f h72]; exact Int32.not_lt.mp c95))).symm) hP hS (lv_sub hl [0, 1, 3, 4, 5, 6] rfl)
        · refine lv_if_eq (tgt := 66) hx hb dX4_can_59 (by decide) (fun c59 => ?_) (fun c59 => absurd (by decide) c59)
          refine lv_iconst (v := 0) hx hb dX4_can_66 (by decide) ?_
          refine lv_iadd hx hb dX4_can_67 ?_
          refine lv_iload_n hx hb dX4_can_68 rfl (lv_at hl 4 rfl) ?_
          refine lv_iload_n hx hb dX4_can_69 rfl (lv_at hl 5 rfl) ?_
          refine lv_iload hx hb dX4_can_70 (lv_at hl 0 rfl) ?_
          refine wx_calli (va_runS (As := [.int p1, .int (nI j), .int (nI k)]) (rest := [.int ((y 16 0 (32 * b + k)) + 0)]) ⟨hx, hb, hml, hown, hts⟩ (m_has l hst g base n L (mw g L y ch r0) p1 j k (by omega) (by omega)) (va_cwS 3 hts gX4_can_X4_has rfl rfl rfl (by decide +kernel) ⟨Nat.le_of_ble_eq_true rfl, Nat.le_of_ble_eq_true rfl⟩) (hPW.preS hP hS) rfl rfl hl.1 rfl (lv_room (Nat.le_of_ble_eq_true rfl)) dX4_can_72 ⟨Nat.le_of_ble_eq_true rfl, Nat.le_of_ble_eq_true rfl⟩) hS (fun r72 u72 H locs h72 hP hS => ?_)
          rcases h72 with ⟨rfl, h72⟩ | ⟨rfl, h72⟩
          · refine lv_if_eq (tgt := 82) hx hb dX4_can_75 (by decide) (fun c75 => absurd c75 (by decide)) (fun c75 => ?_)
            refine lv_iconst (v := 1) hx hb dX4_can_78 (by decide) ?_
            refine lv_goto (tgt := 83) hx hb dX4_can_79 (by decide) ?_
            refine lv_iadd hx hb dX4_can_83 ?_
            refine lv_istore (lv' := [(6, .int (((y 16 0 (32 * b + k)) + 0) + 1)), (5, .int (nI k)), (4, .int (bz (cnQ y b p1 j k))), (0, .ref (L 106)), (1, .int (nI b)), (2, .int p1), (3, .int (nI j))]) hx hb dX4_can_84 hl (by decide) rfl (fun ls hl => ?_)
            refine lv_iload hx hb dX4_can_86 (lv_at hl 2 rfl) ?_
            refine lv_if_eq (tgt := 102) hx hb dX4_can_88 (by decide) (fun c88 => ?_) (fun c88 => ?_)
            · refine lv_iconst (v := 0) hx hb dX4_can_102 (by decide) ?_
              refine lv_istore (lv' := [(4, .int 0), (6, .int (((y 16 0 (32 * b + k)) + 0) + 1)), (5, .int (nI k)), (0, .ref (L 106)), (1, .int (nI b)), (2, .int p1), (3, .int (nI j))]) hx hb dX4_can_103 hl (by decide) rfl (fun ls hl => ?_)
              obtain ⟨z105, ez105⟩ : ∃ y : Int32, y = nI k + 1 := ⟨_, rfl⟩
              refine lv_iinc (v := z105) (lv' := [(5, .int z105), (4, .int 0), (6, .int (((y 16 0 (32 * b + k)) + 0) + 1)), (0, .ref (L 106)), (1, .int (nI b)), (2, .int p1), (3, .int (nI j))]) hx hb dX4_can_105 hl (k := 2) rfl (by rw [ez105]; rfl) (by decide) rfl (fun ls hl => ?_)
              refine lv_goto (tgt := 31) hx hb dX4_can_108 (by decide) ?_
              exact ih (k + 1) _ _ _ _ _ (by omega) (by rw [ez105, nI_1]) ((bz_f (cnQ_n (bz_0 c88))).symm) hP hS (lv_sub hl [0, 1, 3, 4, 5, 6] rfl)
            · refine lv_iload hx hb dX4_can_91 (lv_at hl 0 rfl) ?_
              refine lv_bipush (v := 60) hx hb dX4_can_93 (by decide) ?_
              refine lv_icmp_gt (tgt := 102) hx hb dX4_can_95 (by decide) (fun c95 => ?_) (fun c95 => ?_)
              · refine lv_iconst (v := 0) hx hb dX4_can_102 (by decide) ?_
                refine lv_istore (lv' := [(4, .int 0), (6, .int (((y 16 0 (32 * b + k)) + 0) + 1)), (5, .int (nI k)), (0, .ref (L 106)), (1, .int (nI b)), (2, .int p1), (3, .int (nI j))]) hx hb dX4_can_103 hl (by decide) rfl (fun ls hl => ?_)
                obtain ⟨z105, ez105⟩ : ∃ y : Int32, y = nI k + 1 := ⟨_, rfl⟩
                refine lv_iinc (v := z105) (lv' := [(5, .int z105), (4, .int 0), (6, .int (((y 16 0 (32 * b + k)) + 0) + 1)), (0, .ref (L 106)), (1, .int (nI b)), (2, .int p1), (3, .int (nI j))]) hx hb dX4_can_105 hl (k := 2) rfl (by rw [ez105]; rfl) (by decide) rfl (fun ls hl => ?_)
                refine lv_goto (tgt := 31) hx hb dX4_can_108 (by decide) ?_
                exact ih (k + 1) _ _ _ _ _ (by omega) (by rw [ez105, nI_1]) ((bz_f (cnQ_m (by rw [bz_f h56, bz_t h72]; exact Int32.not_le.mpr c95))).symm) hP hS (lv_sub hl [0, 1, 3, 4, 5, 6] rfl)
              · refine lv_iconst (v := 1) hx hb dX4_can_98 (by decide) ?_
                refine lv_goto (tgt := 103) hx hb dX4_can_99 (by decide) ?_
                refine lv_istore (lv' := [(4, .int 1), (6, .int (((y 16 0 (32 * b + k)) + 0) + 1)), (5, .int (nI k)), (0, .ref (L 106)), (1, .int (nI b)), (2, .int p1), (3, .int (nI j))]) hx hb dX4_can_103 hl (by decide) rfl (fun ls hl => ?_)
                obtain ⟨z105, ez105⟩ : ∃ y : Int32, y = nI k + 1 := ⟨_, rfl⟩
                refine lv_iinc (v := z105) (lv' := [(5, .int z105), (4, .int 1), (6, .int (((y 16 0 (32 * b + k)) + 0) + 1)), (0, .ref (L 106)), (1, .int (nI b)), (2, .int p1), (3, .int (nI j))]) hx hb dX4_can_105 hl (k := 2) rfl (by rw [ez105]; rfl) (by decide) rfl (fun ls hl => ?_)
                refine lv_goto (tgt := 31) hx hb dX4_can_108 (by decide) ?_
                exact ih (k + 1) _ _ _ _ _ (by omega) (by rw [ez105, nI_1]) ((bz_t (cnQ_y (bz_n0 c88) (by rw [bz_f h56, bz_t h72]; exact Int32.not_lt.mp c95))).symm) hP hS (lv_sub hl [0, 1, 3, 4, 5, 6] rfl)
          · refine lv_if_eq (tgt := 82) hx hb dX4_can_75 (by decide) (fun c75 => ?_) (fun c75 => absurd (by decide) c75)
            refine lv_iconst (v := 0) hx hb dX4_can_82 (by decide) ?_
            refine lv_iadd hx hb dX4_can_83 ?_
            refine lv_istore (lv' := [(6, .int (((y 16 0 (32 * b + k)) + 0) + 0)), (5, .int (nI k)), (4, .int (bz (cnQ y b p1 j k))), (0, .ref (L 106)), (1, .int (nI b)), (2, .int p1), (3, .int (nI j))]) hx hb dX4_can_84 hl (by decide) rfl (fun ls hl => ?_)
            refine lv_iload hx hb dX4_can_86 (lv_at hl 2 rfl) ?_
            refine lv_if_eq (tgt := 102) hx hb dX4_can_88 (by decide) (fun c88 => ?_) (fun c88 => ?_)
            · refine lv_iconst (v := 0) hx hb dX4_can_102 (by decide) ?_
              refine lv_istore (lv' := [(4, .int 0), (6, .int (((y 16 0 (32 * b + k)) + 0) + 0)), (5, .int (nI k)), (0, .ref (L 106)), (1, .int (nI b)), (2, .int p1), (3, .int (nI j))]) hx hb dX4_can_103 hl (by decide) rfl (fun ls hl => ?_)
              obtain ⟨z105, ez105⟩ : ∃ y : Int32, y = nI k + 1 := ⟨_, rfl⟩
              refine lv_iinc (v := z105) (lv' := [(5, .int z105), (4, .int 0), (6, .int (((y 16 0 (32 * b + k)) + 0) + 0)), (0, .ref (L 106)), (1, .int (nI b)), (2, .int p1), (3, .int (nI j))]) hx hb dX4_can_105 hl (k := 2) rfl (by rw [ez105]; rfl) (by decide) rfl (fun ls hl => ?_)
              refine lv_goto (tgt := 31) hx hb dX4_can_108 (by decide) ?_
              exact ih (k + 1) _ _ _ _ _ (by omega) (by rw [ez105, nI_1]) ((bz_f (cnQ_n (bz_0 c88))).symm) hP hS (lv_sub hl [0, 1, 3, 4, 5, 6] rfl)
            · refine lv_iload hx hb dX4_can_91 (lv_at hl 0 rfl) ?_
              refine lv_bipush (v := 60) hx hb dX4_can_93 (by decide) ?_
              refine lv_icmp_gt (tgt := 102) hx hb dX4_can_95 (by decide) (fun c95 => ?_) (fun c95 => ?_)
              · refine lv_iconst (v := 0) hx hb dX4_can_102 (by decide) ?_
                refine lv_istore (lv' := [(4, .int 0), (6, .int (((y 16 0 (32 * b + k)) + 0) + 0)), (5, .int (nI k)), (0, .ref (L 106)), (1, .int (nI b)), (2, .int p1), (3, .int (nI j))]) hx hb dX4_can_103 hl (by decide) rfl (fun ls hl => ?_)
                obtain ⟨z105, ez105⟩ : ∃ y : Int32, y = nI k + 1 := ⟨_, rfl⟩
                refine lv_iinc (v := z105) (lv' := [(5, .int z105), (4, .int 0), (6, .int (((y 16 0 (32 * b + k)) + 0) + 0)), (0, .ref (L 106)), (1, .int (nI b)), (2, .int p1), (3, .int (nI j))]) hx hb dX4_can_105 hl (k := 2) rfl (by rw [ez105]; rfl) (by decide) rfl (fun ls hl => ?_)
                refine lv_goto (tgt := 31) hx hb dX4_can_108 (by decide) ?_
                exact ih (k + 1) _ _ _ _ _ (by omega) (by rw [ez105, nI_1]) ((bz_f (cnQ_m (by rw [bz_f h56, bz_f h72]; exact Int32.not_le.mpr c95))).symm) hP hS (lv_sub hl [0, 1, 3, 4, 5, 6] rfl)
              · refine lv_iconst (v := 1) hx hb dX4_can_98 (by decide) ?_
                refine lv_goto (tgt := 103) hx hb dX4_can_99 (by decide) ?_
                refine lv_istore (lv' := [(4, .int 1), (6, .int (((y 16 0 (32 * b + k)) + 0) + 0)), (5, .int (nI k)), (0, .ref (L 106)), (1, .int (nI b)), (2, .int p1), (3, .int (nI j))]) hx hb dX4_can_103 hl (by decide) rfl (fun ls hl => ?_)
                obtain ⟨z105, ez105⟩ : ∃ y : Int32, y = nI k + 1 := ⟨_, rfl⟩
                refine lv_iinc (v := z105) (lv' := [(5, .int z105), (4, .int 1), (6, .int (((y 16 0 (32 * b + k)) + 0) + 0)), (0, .ref (L 106)), (1, .int (nI b)), (2, .int p1), (3, .int (nI j))]) hx hb dX4_can_105 hl (k := 2) rfl (by rw [ez105]; rfl) (by decide) rfl (fun ls hl => ?_)
                refine lv_goto (tgt := 31) hx hb dX4_can_108 (by decide) ?_
                exact ih (k + 1) _ _ _ _ _ (by omega) (by rw [ez105, nI_1]) ((bz_t (cnQ_y (bz_n0 c88) (by rw [bz_f h56, bz_f h72]; exact Int32.not_lt.mp c95))).symm) hP hS (lv_sub hl [0, 1, 3, 4, 5, 6] rfl)
    exact key31 32 0 _ _ _ _ _ (by omega) rfl ((bz_f (fun h9 => absurd h9.1 (Int32.not_le.mpr c18))).symm) hP hS (lv_sub hl [0, 1, 2, 3, 4, 5] rfl)
  · refine lv_iconst (v := 1) hx hb dX4_can_21 (by decide) ?_
    refine lv_goto (tgt := 26) hx hb dX4_can_22 (by decide) ?_
    refine lv_istore (lv' := [(4, .int 1), (0, .ref (L 106)), (1, .int (nI b)), (2, .int p1), (3, .int (nI j))]) hx hb dX4_can_26 hl (by decide) rfl (fun ls hl => ?_)
    refine lv_iconst (v := 0) hx hb dX4_can_28 (by decide) ?_
    refine lv_istore (lv' := [(5, .int 0), (4, .int 1), (0, .ref (L 106)), (1, .int (nI b)), (2, .int p1), (3, .int (nI j))]) hx hb dX4_can_29 hl (by decide) rfl (fun ls hl => ?_)
    have key31 : ∀ (d k : Nat) (z5 : Int32) (z4 : Int32) (H : Heap) (locs : List Loc) (ls : Array Slot), k + d = 32 → (z5 = nI k) → (z4 = bz (cnQ y b p1 j k)) → va_P g.1 vwCl (wl n L (mw g L y ch r0)) H → va_S (fun q : Nat => base ≤ q) s.heap H locs → lv_has ls 7 [(5, .int z5), (4, .int z4), (0, .ref (L 106)), (1, .int (nI b)), (2, .int p1), (3, .int (nI j))] → W p l e (headSpec wsX4_can ({ frames := 3, cells := 0, slots := 0, locals := 180 })).room s m ([.ref (L 106), .int (nI b), .int p1, .int (nI j)] : List Value).toArray below meth c H locs (0 + 0 + 0) (0 + 0 + 0) (MQ below (va_Qi (fun (r : Int32) (_ : Unit) => (r = 1 ∧ cnQ y b p1 j 32) ∨ (r = 0 ∧ ¬ cnQ y b p1 j 32)) (fun (u : Unit) t => PB g n L (mw g L y ch r0) t) (fun q => base ≤ q)) ([.ref (L 106), .int (nI b), .int p1, .int (nI j)] : List Value).toArray s 0 0 (fun q => base ≤ q)) (F0 m 31 ls []) := by
      intro d
      induction d with
      | zero =>
        intro k z5 z4 H locs ls hkd ek5 ek4 hP hS hl
        obtain rfl : k = 32 := by omega
        subst ek5 ek4
        refine lv_iload hx hb dX4_can_31 (lv_at hl 0 rfl) ?_
        refine lv_bipush (v := 32) hx hb dX4_can_33 (by decide) ?_
        refine lv_icmp_ge (tgt := 111) hx hb dX4_can_35 (by decide) (fun c35 => ?_) (fun c35 => absurd (by decide) c35)
        refine lv_iload hx hb dX4_can_111 (lv_at hl 1 rfl) ?_
        refine W.widen (k := 0) (n := 0) (Nat.le_of_ble_eq_true rfl) (Nat.le_of_ble_eq_true rfl) ?_
        exact W.zret (v := bz (cnQ y b p1 j 32)) hx hb hr ((bz_01 (cnQ y b p1 j 32)).elim (fun h9 => by rw [h9]; decide) (fun h9 => by rw [h9]; decide)) (fun t ht hW => ⟨⟨bz (cnQ y b p1 j 32), (), rfl, (bzr (cnQ y b p1 j 32)), PB.mk9 hP ht⟩, hS.F ht⟩) hS.2.2 dX4_can_113
      | succ d ih =>
        intro k z5 z4 H locs ls hkd ek5 ek4 hP hS hl
        have hkN : k < 32 := by omega
        subst ek5 ek4
        refine lv_iload hx hb dX4_can_31 (lv_at hl 0 rfl) ?_
        refine lv_bipush (v := 32) hx hb dX4_can_33 (by decide) ?_
        refine lv_icmp_ge (tgt := 111) hx hb dX4_can_35 (by decide) (fun c35 => absurd c35 (nI_ge (b := 32) hkN (by decide))) (fun c35 => ?_)
        refine lv_aload_n hx hb dX4_can_38 rfl (lv_at hl 2 rfl) ?_
        refine wx_get (D := g.1) (cl := vwCl) (ci := 6) (v := .ref (L 113)) (C := RX4) (T := TX4) (N := 22) hx hb hts iX4 hown hK hP (106) (by omega) mw_o rfl 12 (by decide) (hts (.fieldLink RX4 33 "FerroDeskModel" "wear" "[I") (by decide +kernel)) (fun _ h9 => h9) rfl dX4_can_39 ?_
        refine lv_bipush (v := 32) hx hb dX4_can_42 (by decide) ?_
        refine lv_iload_n hx hb dX4_can_44 rfl (lv_at hl 3 rfl) ?_
        refine lv_imul hx hb dX4_can_45 ?_
        refine lv_iload hx hb dX4_can_46 (lv_at hl 0 rfl) ?_
        refine lv_iadd hx hb dX4_can_48 ?_
        refine wx_ialdv (D := g.1) (cl := vwCl) (N := 192) (f := fun j9 => y 16 0 j9) (v := y 16 0 (32 * b + k)) hx hb hK hP (113) 0 (by omega) (mw_a (by decide) (by decide)) rfl (i := (32 * (nI b)) + (nI k)) (by simp only [m32, nI_add]; exact vp_in_nI (by omega) (by decide)) (by simp only [m32, nI_add]; rw [nI_clamp (by omega)]) dX4_can_49 ?_
        refine lv_aload_n hx hb dX4_can_50 rfl (lv_at hl 2 rfl) ?_
        refine lv_iload_n hx hb dX4_can_51 rfl (lv_at hl 3 rfl) ?_
        refine lv_iload_n hx hb dX4_can_52 rfl (lv_at hl 4 rfl) ?_
        refine lv_iload_n hx hb dX4_can_53 rfl (lv_at hl 5 rfl) ?_
        refine lv_iload hx hb dX4_can_54 (lv_at hl 0 rfl) ?_
        refine wx_calli (va_runV (As := [.int (nI b), .int p1, .int (nI j), .int (nI k)]) (rest := [.int (y 16 0 (32 * b + k))]) ⟨hx, hb, hml, hown, hts⟩ (m_differs l hst g base n L (by omega) y ch r0 b (by omega) p1 j (by omega) k (by omega)) (cwV 4 hts gX4_can_X4_differs rfl rfl rfl (by decide +kernel) ⟨Nat.le_of_ble_eq_true rfl, Nat.le_of_ble_eq_true rfl⟩) (hPW.preV hP hS (ci := 6) rfl (by omega) mw_o) rfl rfl hl.1 rfl (lv_room (Nat.le_of_ble_eq_true rfl)) dX4_can_56 ⟨Nat.le_of_ble_eq_true rfl, Nat.le_of_ble_eq_true rfl⟩) hS (fun r56 u56 H locs h56 hP hS => ?_)
        rcases h56 with ⟨rfl, h56⟩ | ⟨rfl, h56⟩
        · refine lv_if_eq (tgt := 66) hx hb dX4_can_59 (by decide) (fun c59 => absurd c59 (by decide)) (fun c59 => ?_)
          refine lv_iconst (v := 1) hx hb dX4_can_62 (by decide) ?_
          refine lv_goto (tgt := 67) hx hb dX4_can_63 (by decide) ?_
          refine lv_iadd hx hb dX4_can_67 ?_
          refine lv_iload_n hx hb dX4_can_68 rfl (lv_at hl 4 rfl) ?_
          refine lv_iload_n hx hb dX4_can_69 rfl (lv_at hl 5 rfl) ?_
          refine lv_iload hx hb dX4_can_70 (lv_at hl 0 rfl) ?_
          refine wx_calli (va_runS (As := [.int p1, .int (nI j), .int (nI k)]) (rest := [.int ((y 16 0 (32 * b + k)) + 1)]) ⟨hx, hb, hml, hown, hts⟩ (m_has l hst g base n L (mw g L y ch r0) p1 j k (by omega) (by omega)) (va_cwS 3 hts gX4_can_X4_has rfl rfl rfl (by decide +kernel) ⟨Nat.le_of_ble_eq_true rfl, Nat.le_of_ble_eq_true rfl⟩) (hPW.preS hP hS) rfl rfl hl.1 rfl (lv_room (Nat.le_of_ble_eq_true rfl)) dX4_can_72 ⟨Nat.le_of_ble_eq_true rfl, Nat.le_of_ble_eq_true rfl⟩) hS (fun r72 u72 H locs h72 hP hS => ?_)
          rcases h72 with ⟨rfl, h72⟩ | ⟨rfl, h72⟩
          · refine lv_if_eq (tgt := 82) hx hb dX4_can_75 (by decide) (fun c75 => absurd c75 (by decide)) (fun c75 => ?_)
            refine lv_iconst (v := 1) hx hb dX4_can_78 (by decide) ?_
            refine lv_goto (tgt := 83) hx hb dX4_can_79 (by decide) ?_
            refine lv_iadd hx hb dX4_can_83 ?_
            refine lv_istore (lv' := [(6, .int (((y 16 0 (32 * b + k)) + 1) + 1)), (5, .int (nI k)), (4, .int (bz (cnQ y b p1 j k))), (0, .ref (L 106)), (1, .int (nI b)), (2, .int p1), (3, .int (nI j))]) hx hb dX4_can_84 hl (by decide) rfl (fun ls hl => ?_)
            refine lv_iload hx hb dX4_can_86 (lv_at hl 2 rfl) ?_
            refine lv_if_eq (tgt := 102) hx hb dX4_can_88 (by decide) (fun c88 => ?_) (fun c88 => ?_)
            · refine lv_iconst (v := 0) hx hb dX4_can_102 (by decide) ?_
              refine lv_istore (lv' := [(4, .int 0), (6, .int (((y 16 0 (32 * b + k)) + 1) + 1)), (5, .int (nI k)), (0, .ref (L 106)), (1, .int (nI b)), (2, .int p1), (3, .int (nI j))]) hx hb dX4_can_103 hl (by decide) rfl (fun ls hl => ?_)
              obtain ⟨z105, ez105⟩ : ∃ y : Int32, y = nI k + 1 := ⟨_, rfl⟩
              refine lv_iinc (v := z105) (lv' := [(5, .int z105), (4, .int 0), (6, .int (((y 16 0 (32 * b + k)) + 1) + 1)), (0, .ref (L 106)), (1, .int (nI b)), (2, .int p1), (3, .int (nI j))]) hx hb dX4_can_105 hl (k := 2) rfl (by rw [ez105]; rfl) (by decide) rfl (fun ls hl => ?_)
              refine lv_goto (tgt := 31) hx hb dX4_can_108 (by decide) ?_
              exact ih (k + 1) _ _ _ _ _ (by omega) (by rw [ez105, nI_1]) ((bz_f (cnQ_n (bz_0 c88))).symm) hP hS (lv_sub hl [0, 1, 3, 4, 5, 6] rfl)
            · refine lv_iload hx hb dX4_can_91 (lv_at hl 0 rfl) ?_
              refine lv_bipush (v := 60) hx hb dX4_can_93 (by decide) ?_
              refine lv_icmp_gt (tgt := 102) hx hb dX4_can_95 (by decide) (fun c95 => ?_) (fun c95 => ?_)
              · refine lv_iconst (v := 0) hx hb dX4_can_102 (by decide) ?_
                refine lv_istore (lv' := [(4, .int 0), (6, .int (((y 16 0 (32 * b + k)) + 1) + 1)), (5, .int (nI k)), (0, .ref (L 106)), (1, .int (nI b)), (2, .int p1), (3, .int (nI j))]) hx hb dX4_can_103 hl (by decide) rfl (fun ls hl => ?_)
                obtain ⟨z105, ez105⟩ : ∃ y : Int32, y = nI k + 1 := ⟨_, rfl⟩
                refine lv_iinc (v := z105) (lv' := [(5, .int z105), (4, .int 0), (6, .int (((y 16 0 (32 * b + k)) + 1) + 1)), (0, .ref (L 106)), (1, .int (nI b)), (2, .int p1), (3, .int (nI j))]) hx hb dX4_can_105 hl (k := 2) rfl (by rw [ez105]; rfl) (by decide) rfl (fun ls hl => ?_)
                refine lv_goto (tgt := 31) hx hb dX4_can_108 (by decide) ?_
                exact ih (k + 1) _ _ _ _ _ (by omega) (by rw [ez105, nI_1]) ((bz_f (cnQ_m (by rw [bz_t h56, bz_t h72]; exact Int32.not_le.mpr c95))).symm) hP hS (lv_sub hl [0, 1, 3, 4, 5, 6] rfl)
              · refine lv_iconst (v := 1) hx hb dX4_can_98 (by decide) ?_
                refine lv_goto (tgt := 103) hx hb dX4_can_99 (by decide) ?_
                refine lv_istore (lv' := [(4, .int 1), (6, .int (((y 16 0 (32 * b + k)) + 1) + 1)), (5, .int (nI k)), (0, .ref (L 106)), (1, .int (nI b)), (2, .int p1), (3, .int (nI j))]) hx hb dX4_can_103 hl (by decide) rfl (fun ls hl => ?_)
                obtain ⟨z105, ez105⟩ : ∃ y : Int32, y = nI k + 1 := ⟨_, rfl⟩
                refine lv_iinc (v := z105) (lv' := [(5, .int z105), (4, .int 1), (6, .int (((y 16 0 (32 * b + k)) + 1) + 1)), (0, .ref (L 106)), (1, .int (nI b)), (2, .int p1), (3, .int (nI j))]) hx hb dX4_can_105 hl (k := 2) rfl (by rw [ez105]; rfl) (by decide) rfl (fun ls hl => ?_)
                refine lv_goto (tgt := 31) hx hb dX4_can_108 (by decide) ?_
                exact ih (k + 1) _ _ _ _ _ (by omega) (by rw [ez105, nI_1]) ((bz_t (cnQ_y (bz_n0 c88) (by rw [bz_t h56, bz_t h72]; exact Int32.not_lt.mp c95))).symm) hP hS (lv_sub hl [0, 1, 3, 4, 5, 6] rfl)
          · refine lv_if_eq (tgt := 82) hx hb dX4_can_75 (by decide) (fun c75 => ?_) (fun c75 => absurd (by decide) c75)
            refine lv_iconst (v := 0) hx hb dX4_can_82 (by decide) ?_
            refine lv_iadd hx hb dX4_can_83 ?_
            refine lv_istore (lv' := [(6, .int (((y 16 0 (32 * b + k)) + 1) + 0)), (5, .int (nI k)), (4, .int (bz (cnQ y b p1 j k))), (0, .ref (L 106)), (1, .int (nI b)), (2, .int p1), (3, .int (nI j))]) hx hb dX4_can_84 hl (by decide) rfl (fun ls hl => ?_)
            refine lv_iload hx hb dX4_can_86 (lv_at hl 2 rfl) ?_
            refine lv_if_eq (tgt := 102) hx hb dX4_can_88 (by decide) (fun c88 => ?_) (fun c88 => ?_)
            · refine lv_iconst (v := 0) hx hb dX4_can_102 (by decide) ?_
              refine lv_istore (lv' := [(4, .int 0), (6, .int (((y 16 0 (32 * b + k)) + 1) + 0)), (5, .int (nI k)), (0, .ref (L 106)), (1, .int (nI b)), (2, .int p1), (3, .int (nI j))]) hx hb dX4_can_103 hl (by decide) rfl (fun ls hl => ?_)
              obtain ⟨z105, ez105⟩ : ∃ y : Int32, y = nI k + 1 := ⟨_, rfl⟩
              refine lv_iinc (v := z105) (lv' := [(5, .int z105), (4, .int 0), (6, .int (((y 16 0 (32 * b + k)) + 1) + 0)), (0, .ref (L 106)), (1, .int (nI b)), (2, .int p1), (3, .int (nI j))]) hx hb dX4_can_105 hl (k := 2) rfl (by rw [ez105]; rfl) (by decide) rfl (fun ls hl => ?_)
              refine lv_goto (tgt := 31) hx hb dX4_can_108 (by decide) ?_
              exact ih (k + 1) _ _ _ _ _ (by omega) (by rw [ez105, nI_1]) ((bz_f (cnQ_n (bz_0 c88))).symm) hP hS (lv_sub hl [0, 1, 3, 4, 5, 6] rfl)
            · refine lv_iload hx hb dX4_can_91 (lv_at hl 0 rfl) ?_
              refine lv_bipush (v := 60) hx hb dX4_can_93 (by decide) ?_
              refine lv_icmp_gt (tgt := 102) hx hb dX4_can_95 (by decide) (fun c95 => ?_) (fun c95 => ?_)
              · refine lv_iconst (v := 0) hx hb dX4_can_102 (by decide) ?_
                refine lv_istore (lv' := [(4, .int 0), (6, .int (((y 16 0 (32 * b + k)) + 1) + 0)), (5, .int (nI k)), (0, .ref (L 106)), (1, .int (nI b)), (2, .int p1), (3, .int (nI j))]) hx hb dX4_can_103 hl (by decide) rfl (fun ls hl => ?_)
                obtain ⟨z105, ez105⟩ : ∃ y : Int32, y = nI k + 1 := ⟨_, rfl⟩
                refine lv_iinc (v := z105) (lv' := [(5, .int z105), (4, .int 0), (6, .int (((y 16 0 (32 * b + k)) + 1) + 0)), (0, .ref (L 106)), (1, .int (nI b)), (2, .int p1), (3, .int (nI j))]) hx hb dX4_can_105 hl (k := 2) rfl (by rw [ez105]; rfl) (by decide) rfl (fun ls hl => ?_)
                refine lv_goto (tgt := 31) hx hb dX4_can_108 (by decide) ?_
                exact ih (k + 1) _ _ _ _ _ (by omega) (by rw [ez105, nI_1]) ((bz_f (cnQ_m (by rw [bz_t h56, bz_f h72]; exact Int32.not_le.mpr c95))).symm) hP hS (lv_sub hl [0, 1, 3, 4, 5, 6] rfl)
              · refine lv_iconst (v := 1) hx hb dX4_can_98 (by decide) ?_
                refine lv_goto (tgt := 103) hx hb dX4_can_99 (by decide) ?_
                refine lv_istore (lv' := [(4, .int 1), (6, .int (((y 16 0 (32 * b + k)) + 1) + 0)), (5, .int (nI k)), (0, .ref (L 106)), (1, .int (nI b)), (2, .int p1), (3, .int (nI j))]) hx hb dX4_can_103 hl (by decide) rfl (fun ls hl => ?_)
                obtain ⟨z105, ez105⟩ : ∃ y : Int32, y = nI k + 1 := ⟨_, rfl⟩
                refine lv_iinc (v := z105) (lv' := [(5, .int z105), (4, .int 1), (6, .int (((y 16 0 (32 * b + k)) + 1) + 0)), (0, .ref (L 106)), (1, .int (nI b)), (2, .int p1), (3, .int (nI j))]) hx hb dX4_can_105 hl (k := 2) rfl (by rw [ez105]; rfl) (by decide) rfl (fun ls hl => ?_)
                refine lv_goto (tgt := 31) hx hb dX4_can_108 (by decide) ?_
                exact ih (k + 1) _ _ _ _ _ (by omega) (by rw [ez105, nI_1]) ((bz_t (cnQ_y (bz_n0 c88) (by rw [bz_t h56, bz_f h72]; exact Int32.not_lt.mp c95))).symm) hP hS (lv_sub hl [0, 1, 3, 4, 5, 6] rfl)
        · refine lv_if_eq (tgt := 66) hx hb dX4_can_59 (by decide) (fun c59 => ?_) (fun c59 => absurd (by decide) c59)
          refine lv_iconst (v := 0) hx hb dX4_can_66 (by decide) ?_
          refine lv_iadd hx hb dX4_can_67 ?_
          refine lv_iload_n hx hb dX4_can_68 rfl (lv_at hl 4 rfl) ?_
          refine lv_iload_n hx hb dX4_can_69 rfl (lv_at hl 5 rfl) ?_
          refine lv_iload hx hb dX4_can_70 (lv_at hl 0 rfl) ?_
          refine wx_calli (va_runS (As := [.int p1, .int (nI j), .int (nI k)]) (rest := [.int ((y 16 0 (32 * b + k)) + 0)]) ⟨hx, hb, hml, hown, hts⟩ (m_has l hst g base n L (mw g L y ch r0) p1 j k (by omega) (by omega)) (va_cwS 3 hts gX4_can_X4_has rfl rfl rfl (by decide +kernel) ⟨Nat.le_of_ble_eq_true rfl, Nat.le_of_ble_eq_true rfl⟩) (hPW.preS hP hS) rfl rfl hl.1 rfl (lv_room (Nat.le_of_ble_eq_true rfl)) dX4_can_72 ⟨Nat.le_of_ble_eq_true rfl, Nat.le_of_ble_eq_true rfl⟩) hS (fun r72 u72 H locs h72 hP hS => ?_)
          rcases h72 with ⟨rfl, h72⟩ | ⟨rfl, h72⟩
          · refine lv_if_eq (tgt := 82) hx hb dX4_can_75 (by decide) (fun c75 => absurd c75 (by decide)) (fun c75 => ?_)
            refine lv_iconst (v := 1) hx hb dX4_can_78 (by decide) ?_
            refine lv_goto (tgt := 83) hx hb dX4_can_79 (by decide) ?_
            refine lv_iadd hx hb dX4_can_83 ?_
            refine lv_istore (lv' := [(6, .int (((y 16 0 (32 * b + k)) + 0) + 1)), (5, .int (nI k)), (4, .int (bz (cnQ y b p1 j k))), (0, .ref (L 106)), (1, .int (nI b)), (2, .int p1), (3, .int (nI j))]) hx hb dX4_can_84 hl (by decide) rfl (fun ls hl => ?_)
            refine lv_iload hx hb dX4_can_86 (lv_at hl 2 rfl) ?_
            refine lv_if_eq (tgt := 102) hx hb dX4_can_88 (by decide) (fun c88 => ?_) (fun c88 => ?_)
            · refine lv_iconst (v := 0) hx hb dX4_can_102 (by decide) ?_
              refine lv_istore (lv' := [(4, .int 0), (6, .int (((y 16 0 (32 * b + k)) + 0) + 1)), (5, .int (nI k)), (0, .ref (L 106)), (1, .int (nI b)), (2, .int p1), (3, .int (nI j))]) hx hb dX4_can_103 hl (by decide) rfl (fun ls hl => ?_)
              obtain ⟨z105, ez105⟩ : ∃ y : Int32, y = nI k + 1 := ⟨_, rfl⟩
              refine lv_iinc (v := z105) (lv' := [(5, .int z105), (4, .int 0), (6, .int (((y 16 0 (32 * b + k)) + 0) + 1)), (0, .ref (L 106)), (1, .int (nI b)), (2, .int p1), (3, .int (nI j))]) hx hb dX4_can_105 hl (k := 2) rfl (by rw [ez105]; rfl) (by decide) rfl (fun ls hl => ?_)
              refine lv_goto (tgt := 31) hx hb dX4_can_108 (by decide) ?_
              exact ih (k + 1) _ _ _ _ _ (by omega) (by rw [ez105, nI_1]) ((bz_f (cnQ_n (bz_0 c88))).symm) hP hS (lv_sub hl [0, 1, 3, 4, 5, 6] rfl)
            · refine lv_iload hx hb dX4_can_91 (lv_at hl 0 rfl) ?_
              refine lv_bipush (v := 60) hx hb dX4_can_93 (by decide) ?_
              refine lv_icmp_gt (tgt := 102) hx hb dX4_can_95 (by decide) (fun c95 => ?_) (fun c95 => ?_)
              · refine lv_iconst (v := 0) hx hb dX4_can_102 (by decide) ?_
                refine lv_istore (lv' := [(4, .int 0), (6, .int (((y 16 0 (32 * b + k)) + 0) + 1)), (5, .int (nI k)), (0, .ref (L 106)), (1, .int (nI b)), (2, .int p1), (3, .int (nI j))]) hx hb dX4_can_103 hl (by decide) rfl (fun ls hl => ?_)
                obtain ⟨z105, ez105⟩ : ∃ y : Int32, y = nI k + 1 := ⟨_, rfl⟩
                refine lv_iinc (v := z105) (lv' := [(5, .int z105), (4, .int 0), (6, .int (((y 16 0 (32 * b + k)) + 0) + 1)), (0, .ref (L 106)), (1, .int (nI b)), (2, .int p1), (3, .int (nI j))]) hx hb dX4_can_105 hl (k := 2) rfl (by rw [ez105]; rfl) (by decide) rfl (fun ls hl => ?_)
                refine lv_goto (tgt := 31) hx hb dX4_can_108 (by decide) ?_
                exact ih (k + 1) _ _ _ _ _ (by omega) (by rw [ez105, nI_1]) ((bz_f (cnQ_m (by rw [bz_f h56, bz_t h72]; exact Int32.not_le.mpr c95))).symm) hP hS (lv_sub hl [0, 1, 3, 4, 5, 6] rfl)
              · refine lv_iconst (v := 1) hx hb dX4_can_98 (by decide) ?_
                refine lv_goto (tgt := 103) hx hb dX4_can_99 (by decide) ?_
                refine lv_istore (lv' := [(4, .int 1), (6, .int (((y 16 0 (32 * b + k)) + 0) + 1)), (5, .int (nI k)), (0, .ref (L 106)), (1, .int (nI b)), (2, .int p1), (3, .int (nI j))]) hx hb dX4_can_103 hl (by decide) rfl (fun ls hl => ?_)
                obtain ⟨z105, ez105⟩ : ∃ y : Int32, y = nI k + 1 := ⟨_, rfl⟩
                refine lv_iinc (v := z105) (lv' := [(5, .int z105), (4, .int 1), (6, .int (((y 16 0 (32 * b + k)) + 0) + 1)), (0, .ref (L 106)), (1, .int (nI b)), (2, .int p1), (3, .int (nI j))]) hx hb dX4_can_105 hl (k := 2) rfl (by rw [ez105]; rfl) (by decide) rfl (fun ls hl => ?_)
                refine lv_goto (tgt := 31) hx hb dX4_can_108 (by decide) ?_
                exact ih (k + 1) _ _ _ _ _ (by omega) (by rw [ez105, nI_1]) ((bz_t (cnQ_y (bz_n0 c88) (by rw [bz_f h56, bz_t h72]; exact Int32.not_lt.mp c95))).symm) hP hS (lv_sub hl [0, 1, 3, 4, 5, 6] rfl)
          · refine lv_if_eq (tgt := 82) hx hb dX4_can_75 (by decide) (fun c75 => ?_) (fun c75 => absurd (by decide) c75)
            refine lv_iconst (v := 0) hx hb dX4_can_82 (by decide) ?_
            refine lv_iadd hx hb dX4_can_83 ?_
            refine lv_istore (lv' := [(6, .int (((y 16 0 (32 * b + k)) + 0) + 0)), (5, .int (nI k)), (4, .int (bz (cnQ y b p1 j k))), (0, .ref (L 106)), (1, .int (nI b)), (2, .int p1), (3, .int (nI j))]) hx hb dX4_can_84 hl (by decide) rfl (fun ls hl => ?_)
            refine lv_iload hx hb dX4_can_86 (lv_at hl 2 rfl) ?_
            refine lv_if_eq (tgt := 102) hx hb dX4_can_88 (by decide) (fun c88 => ?_) (fun c88 => ?_)
            · refine lv_iconst (v := 0) hx hb dX4_can_102 (by decide) ?_
              refine lv_istore (lv' := [(4, .int 0), (6, .int (((y 16 0 (32 * b + k)) + 0) + 0)), (5, .int (nI k)), (0, .ref (L 106)), (1, .int (nI b)), (2, .int p1), (3, .int (nI j))]) hx hb dX4_can_103 hl (by decide) rfl (fun ls hl => ?_)
              obtain ⟨z105, ez105⟩ : ∃ y : Int32, y = nI k + 1 := ⟨_, rfl⟩
              refine lv_iinc (v := z105) (lv' := [(5, .int z105), (4, .int 0), (6, .int (((y 16 0 (32 * b + k)) + 0) + 0)), (0, .ref (L 106)), (1, .int (nI b)), (2, .int p1), (3, .int (nI j))]) hx hb dX4_can_105 hl (k := 2) rfl (by rw [ez105]; rfl) (by decide) rfl (fun ls hl => ?_)
              refine lv_goto (tgt := 31) hx hb dX4_can_108 (by decide) ?_
              exact ih (k + 1) _ _ _ _ _ (by omega) (by rw [ez105, nI_1]) ((bz_f (cnQ_n (bz_0 c88))).symm) hP hS (lv_sub hl [0, 1, 3, 4, 5, 6] rfl)
            · refine lv_iload hx hb dX4_can_91 (lv_at hl 0 rfl) ?_
              refine lv_bipush (v := 60) hx hb dX4_can_93 (by decide) ?_
              refine lv_icmp_gt (tgt := 102) hx hb dX4_can_95 (by decide) (fun c95 => ?_) (fun c95 => ?_)
              · refine lv_iconst (v := 0) hx hb dX4_can_102 (by decide) ?_
                refine lv_istore (lv' := [(4, .int 0), (6, .int (((y 16 0 (32 * b + k)) + 0) + 0)), (5, .int (nI k)), (0, .ref (L 106)), (1, .int (nI b)), (2, .int p1), (3, .int (nI j))]) hx hb dX4_can_103 hl (by decide) rfl (fun ls hl => ?_)
                obtain ⟨z105, ez105⟩ : ∃ y : Int32, y = nI k + 1 := ⟨_, rfl⟩
                refine lv_iinc (v := z105) (lv' := [(5, .int z105), (4, .int 0), (6, .int (((y 16 0 (32 * b + k)) + 0) + 0)), (0, .ref (L 106)), (1, .int (nI b)), (2, .int p1), (3, .int (nI j))]) hx hb dX4_can_105 hl (k := 2) rfl (by rw [ez105]; rfl) (by decide) rfl (fun ls hl => ?_)
                refine lv_goto (tgt := 31) hx hb dX4_can_108 (by decide) ?_
                exact ih (k + 1) _ _ _ _ _ (by omega) (by rw [ez105, nI_1]) ((bz_f (cnQ_m (by rw [bz_f h56, bz_f h72]; exact Int32.not_le.mpr c95))).symm) hP hS (lv_sub hl [0, 1, 3, 4, 5, 6] rfl)
              · refine lv_iconst (v := 1) hx hb dX4_can_98 (by decide) ?_
                refine lv_goto (tgt := 103) hx hb dX4_can_99 (by decide) ?_
                refine lv_istore (lv' := [(4, .int 1), (6, .int (((y 16 0 (32 * b + k)) + 0) + 0)), (5, .int (nI k)), (0, .ref (L 106)), (1, .int (nI b)), (2, .int p1), (3, .int (nI j))]) hx hb dX4_can_103 hl (by decide) rfl (fun ls hl => ?_)
                obtain ⟨z105, ez105⟩ : ∃ y : Int32, y = nI k + 1 := ⟨_, rfl⟩
                refine lv_iinc (v := z105) (lv' := [(5, .int z105), (4, .int 1), (6, .int (((y 16 0 (32 * b + k)) + 0) + 0)), (0, .ref (L 106)), (1, .int (nI b)), (2, .int p1), (3, .int (nI j))]) hx hb dX4_can_105 hl (k := 2) rfl (by rw [ez105]; rfl) (by decide) rfl (fun ls hl => ?_)
                refine lv_goto (tgt := 31) hx hb dX4_can_108 (by decide) ?_
                exact ih (k + 1) _ _ _ _ _ (by omega) (by rw [ez105, nI_1]) ((bz_t (cnQ_y (bz_n0 c88) (by rw [bz_f h56, bz_f h72]; exact Int32.not_lt.mp c95))).symm) hP hS (lv_sub hl [0, 1, 3, 4, 5, 6] rfl)
    exact key31 32 0 _ _ _ _ _ (by omega) rfl ((bz_t ⟨Int32.not_lt.mp c18, fun _ h9 => absurd h9 (Nat.not_lt_zero _)⟩).symm) hP hS (lv_sub hl [0, 1, 2, 3, 4, 5] rfl)

