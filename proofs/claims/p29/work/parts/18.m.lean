/-! laid by wip/gen -/
set_option maxHeartbeats 4000000 in
set_option maxRecDepth 100000 in
theorem m_shiftFor (l : Launch) (hst : l.stackTraces = false) (g : gE) (base n : Nat) (L : Nat → Nat) (hn : 123 ≤ n) (y : St) (ch : Int64) (r0 : Nat → va_E) (b : Nat) (hb6 : b < 6) (p1 : Int32) : Met l yX4_shiftFor wsX4_shiftFor ({ frames := 4, cells := 0, slots := 0, locals := 240 }) (va_Pc [.ref (L 106), .int (nI b), .int p1] (PW SS g base n L (mw g L y ch r0))) (va_Qi (fun (r : Int32) (_ : Unit) => r = sfF y b p1 8) (fun (u : Unit) t => PB g n L (mw g L y ch r0) t) (fun q => base ≤ q)) 0 0 (fun q => base ≤ q) := by
  refine Met.ofW (cc := cX4_shiftFor) (maxL := 7) (ret := (some .int)) (by decide) rfl ?_
  intro p e s m args below meth c s₁ B hml hv
  obtain ⟨rfl, hPW⟩ := hv
  obtain ⟨hbs, hJ, hP, hK, hE⟩ := id hPW
  have hx := B.exec
  have hb := B.bytes
  have hr := B.returns
  have hts := atoms_spec (ws := wsX4_shiftFor) B.pre
  have hown : s.vm.findClass RX4 = some m.cls := findClass_of_methodNamed B.named
  have hlocks := B.notSynchronized
  have hS : va_S (fun q : Nat => base ≤ q) s.heap s.heap [] := va_S.rf
  have hl := lv_entry ([.ref (L 106), .int (nI b), .int p1]) (n := 7) (Nat.le_of_ble_eq_true rfl)
  rw [lg_entry_eq]
  generalize (lg_sl ([.ref (L 106), .int (nI b), .int p1]) ++ List.replicate (7 - (lg_sl ([.ref (L 106), .int (nI b), .int p1])).length) Slot.unset).toArray = ls at hl ⊢
  have hl : lv_has ls 7 [(0, .ref (L 106)), (1, .int (nI b)), (2, .int p1)] := hl
  refine lv_iconst (v := (-1)) hx hb dX4_shiftFor_0 (by decide) ?_
  refine lv_istore_n (lv' := [(3, .int (-1)), (0, .ref (L 106)), (1, .int (nI b)), (2, .int p1)]) hx hb dX4_shiftFor_1 rfl hl (by decide) rfl (fun ls hl => ?_)
  refine lv_iconst (v := 0) hx hb dX4_shiftFor_2 (by decide) ?_
  refine lv_istore (lv' := [(4, .int 0), (3, .int (-1)), (0, .ref (L 106)), (1, .int (nI b)), (2, .int p1)]) hx hb dX4_shiftFor_3 hl (by decide) rfl (fun ls hl => ?_)
  have key5 : ∀ (d k : Nat) (z4 : Int32) (z3 : Int32) (H : Heap) (locs : List Loc) (ls : Array Slot), k + d = 8 → (z4 = nI k) → (z3 = sfF y b p1 k) → va_P g.1 vwCl (wl n L (mw g L y ch r0)) H → va_S (fun q : Nat => base ≤ q) s.heap H locs → lv_has ls 7 [(4, .int z4), (3, .int z3), (0, .ref (L 106)), (1, .int (nI b)), (2, .int p1)] → W p l e (headSpec wsX4_shiftFor ({ frames := 4, cells := 0, slots := 0, locals := 240 })).room s m ([.ref (L 106), .int (nI b), .int p1] : List Value).toArray below meth c H locs 0 0 (MQ below (va_Qi (fun (r : Int32) (_ : Unit) => r = sfF y b p1 8) (fun (u : Unit) t => PB g n L (mw g L y ch r0) t) (fun q => base ≤ q)) ([.ref (L 106), .int (nI b), .int p1] : List Value).toArray s 0 0 (fun q => base ≤ q)) (F0 m 5 ls []) := by
    intro d
    induction d with
    | zero =>
      intro k z4 z3 H locs ls hkd ek4 ek3 hP hS hl
      obtain rfl : k = 8 := by omega
      subst ek4 ek3
      refine lv_iload hx hb dX4_shiftFor_5 (lv_at hl 0 rfl) ?_
      refine lv_bipush (v := 8) hx hb dX4_shiftFor_7 (by decide) ?_
      refine lv_icmp_ge (tgt := 103) hx hb dX4_shiftFor_9 (by decide) (fun c9 => ?_) (fun c9 => absurd (by decide) c9)
      refine lv_iload_n hx hb dX4_shiftFor_103 rfl (lv_at hl 1 rfl) ?_
      refine W.widen (k := 0) (n := 0) (Nat.le_of_ble_eq_true rfl) (Nat.le_of_ble_eq_true rfl) ?_
      exact W.iret (v := sfF y b p1 8) hx hb hr (fun t ht hW => ⟨⟨sfF y b p1 8, (), rfl, rfl, PB.mk9 hP ht⟩, hS.F ht⟩) hS.2.2 dX4_shiftFor_104
    | succ d ih =>
      intro k z4 z3 H locs ls hkd ek4 ek3 hP hS hl
      have hkN : k < 8 := by omega
      subst ek4 ek3
      refine lv_iload hx hb dX4_shiftFor_5 (lv_at hl 0 rfl) ?_
      refine lv_bipush (v := 8) hx hb dX4_shiftFor_7 (by decide) ?_
      refine lv_icmp_ge (tgt := 103) hx hb dX4_shiftFor_9 (by decide) (fun c9 => absurd c9 (nI_ge (b := 8) hkN (by decide))) (fun c9 => ?_)
      refine lv_aload_n hx hb dX4_shiftFor_12 rfl (lv_at hl 2 rfl) ?_
      refine lv_iload_n hx hb dX4_shiftFor_13 rfl (lv_at hl 3 rfl) ?_
      refine lv_iload_n hx hb dX4_shiftFor_14 rfl (lv_at hl 4 rfl) ?_
      refine lv_iload hx hb dX4_shiftFor_15 (lv_at hl 0 rfl) ?_
      refine wx_calli (va_runV (As := [.int (nI b), .int p1, .int (nI k)]) (rest := []) ⟨hx, hb, hml, hown, hts⟩ (m_can l hst g base n L (by omega) y ch r0 b (by omega) p1 k (by omega)) (cwV 3 hts gX4_shiftFor_X4_can rfl rfl rfl (by decide +kernel) ⟨Nat.le_of_ble_eq_true rfl, Nat.le_of_ble_eq_true rfl⟩) (hPW.preV hP hS (ci := 6) rfl (by omega) mw_o) rfl rfl hl.1 rfl (lv_room (Nat.le_of_ble_eq_true rfl)) dX4_shiftFor_17 ⟨Nat.le_of_ble_eq_true rfl, Nat.le_of_ble_eq_true rfl⟩) hS (fun r17 u17 H locs h17 hP hS => ?_)
      rcases h17 with ⟨rfl, h17⟩ | ⟨rfl, h17⟩
      · refine lv_if_eq (tgt := 97) hx hb dX4_shiftFor_20 (by decide) (fun c20 => absurd c20 (by decide)) (fun c20 => ?_)
        refine lv_iload_n hx hb dX4_shiftFor_23 rfl (lv_at hl 1 rfl) ?_
        refine lv_iconst (v := (-1)) hx hb dX4_shiftFor_24 (by decide) ?_
        refine lv_icmp_ne (tgt := 32) hx hb dX4_shiftFor_25 (by decide) (fun c25 => ?_) (fun c25 => ?_)
        · obtain ⟨jb, hjb, ejb⟩ : ∃ jb, jb < k ∧ sfF y b p1 k = nI jb := (sfF_r k).resolve_left c25
          have ejc : (sfF y b p1 k).toNatClampNeg = jb := by rw [ejb, nI_clamp (by omega)]
          refine lv_aload_n hx hb dX4_shiftFor_32 rfl (lv_at hl 2 rfl) ?_
          refine lv_iload_n hx hb dX4_shiftFor_33 rfl (lv_at hl 3 rfl) ?_
          refine lv_iload_n hx hb dX4_shiftFor_34 rfl (lv_at hl 4 rfl) ?_
          refine lv_iload hx hb dX4_shiftFor_35 (lv_at hl 0 rfl) ?_
          refine wx_calli (va_runV (As := [.int (nI b), .int p1, .int (nI k)]) (rest := []) ⟨hx, hb, hml, hown, hts⟩ (m_worstBehind l hst g base n L (by omega) y ch r0 b (by omega) p1 k (by omega)) (cwV 3 hts gX4_shiftFor_X4_worstBehind rfl rfl rfl (by decide +kernel) ⟨Nat.le_of_ble_eq_true rfl, Nat.le_of_ble_eq_true rfl⟩) (hPW.preV hP hS (ci := 6) rfl (by omega) mw_o) rfl rfl hl.1 rfl (lv_room (Nat.le_of_ble_eq_true rfl)) dX4_shiftFor_37 ⟨Nat.le_of_ble_eq_true rfl, Nat.le_of_ble_eq_true rfl⟩) hS (fun r37 u37 H locs h37 hP hS => ?_)
          obtain rfl := h37
          refine lv_aload_n hx hb dX4_shiftFor_40 rfl (lv_at hl 2 rfl) ?_
          refine lv_iload_n hx hb dX4_shiftFor_41 rfl (lv_at hl 3 rfl) ?_
          refine lv_iload_n hx hb dX4_shiftFor_42 rfl (lv_at hl 4 rfl) ?_
          refine lv_iload_n hx hb dX4_shiftFor_43 rfl (lv_at hl 1 rfl) ?_
          rw [ejb]
          refine wx_calli (va_runV (As := [.int (nI b), .int p1, .int (nI jb)]) (rest := [.int (wbF y b p1 k 32)]) ⟨hx, hb, hml, hown, hts⟩ (m_worstBehind l hst g base n L (by omega) y ch r0 b (by omega) p1 jb (by omega)) (cwV 3 hts gX4_shiftFor_X4_worstBehind rfl rfl rfl (by decide +kernel) ⟨Nat.le_of_ble_eq_true rfl, Nat.le_of_ble_eq_true rfl⟩) (hPW.preV hP hS (ci := 6) rfl (by omega) mw_o) rfl rfl hl.1 rfl (lv_room (Nat.le_of_ble_eq_true rfl)) dX4_shiftFor_44 ⟨Nat.le_of_ble_eq_true rfl, Nat.le_of_ble_eq_true rfl⟩) hS (fun r44 u44 H locs h44 hP hS => ?_)
          obtain rfl := h44
          refine lv_isub hx hb dX4_shiftFor_47 ?_
          refine lv_istore (lv' := [(5, .int ((wbF y b p1 k 32) - (wbF y b p1 jb 32))), (4, .int (nI k)), (3, .int (sfF y b p1 k)), (0, .ref (L 106)), (1, .int (nI b)), (2, .int p1)]) hx hb dX4_shiftFor_48 hl (by decide) rfl (fun ls hl => ?_)
          refine lv_iload hx hb dX4_shiftFor_50 (lv_at hl 0 rfl) ?_
          refine lv_if_lt (tgt := 78) hx hb dX4_shiftFor_52 (by decide) (fun c52 => ?_) (fun c52 => ?_)
          · refine lv_iconst (v := 1) hx hb dX4_shiftFor_78 (by decide) ?_
            refine lv_goto (tgt := 83) hx hb dX4_shiftFor_79 (by decide) ?_
            refine lv_istore (lv' := [(6, .int 1), (5, .int ((wbF y b p1 k 32) - (wbF y b p1 jb 32))), (4, .int (nI k)), (3, .int (sfF y b p1 k)), (0, .ref (L 106)), (1, .int (nI b)), (2, .int p1)]) hx hb dX4_shiftFor_83 hl (by decide) rfl (fun ls hl => ?_)
            refine lv_iload hx hb dX4_shiftFor_85 (lv_at hl 0 rfl) ?_
            refine lv_if_eq (tgt := 95) hx hb dX4_shiftFor_87 (by decide) (fun c87 => absurd c87 (by decide)) (fun c87 => ?_)
            refine lv_iload hx hb dX4_shiftFor_90 (lv_at hl 2 rfl) ?_
            refine lv_goto (tgt := 96) hx hb dX4_shiftFor_92 (by decide) ?_
            refine lv_istore_n (lv' := [(3, .int (nI k)), (6, .int 1), (5, .int ((wbF y b p1 k 32) - (wbF y b p1 jb 32))), (4, .int (nI k)), (0, .ref (L 106)), (1, .int (nI b)), (2, .int p1)]) hx hb dX4_shiftFor_96 rfl hl (by decide) rfl (fun ls hl => ?_)
            obtain ⟨z97, ez97⟩ : ∃ y : Int32, y = nI k + 1 := ⟨_, rfl⟩
            refine lv_iinc (v := z97) (lv' := [(4, .int z97), (3, .int (nI k)), (6, .int 1), (5, .int ((wbF y b p1 k 32) - (wbF y b p1 jb 32))), (0, .ref (L 106)), (1, .int (nI b)), (2, .int p1)]) hx hb dX4_shiftFor_97 hl (k := 3) rfl (by rw [ez97]; rfl) (by decide) rfl (fun ls hl => ?_)
            refine lv_goto (tgt := 5) hx hb dX4_shiftFor_100 (by decide) ?_
            exact ih (k + 1) _ _ _ _ _ (by omega) (by rw [ez97, nI_1]) (sfF_t ⟨h17, Or.inr (Or.inl (by rw [ejc]; exact c52))⟩) hP hS (lv_sub hl [0, 1, 4, 5, 6] rfl)
          · refine lv_iload hx hb dX4_shiftFor_55 (lv_at hl 0 rfl) ?_
            refine lv_if_ne (tgt := 82) hx hb dX4_shiftFor_57 (by decide) (fun c57 => ?_) (fun c57 => ?_)
            · refine lv_iconst (v := 0) hx hb dX4_shiftFor_82 (by decide) ?_
              refine lv_istore (lv' := [(6, .int 0), (5, .int ((wbF y b p1 k 32) - (wbF y b p1 jb 32))), (4, .int (nI k)), (3, .int (sfF y b p1 k)), (0, .ref (L 106)), (1, .int (nI b)), (2, .int p1)]) hx hb dX4_shiftFor_83 hl (by decide) rfl (fun ls hl => ?_)
              refine lv_iload hx hb dX4_shiftFor_85 (lv_at hl 0 rfl) ?_
              refine lv_if_eq (tgt := 95) hx hb dX4_shiftFor_87 (by decide) (fun c87 => ?_) (fun c87 => absurd (by decide) c87)
              refine lv_iload_n hx hb dX4_shiftFor_95 rfl (lv_at hl 3 rfl) ?_
              refine lv_istore_n (lv' := [(3, .int (sfF y b p1 k)), (6, .int 0), (5, .int ((wbF y b p1 k 32) - (wbF y b p1 jb 32))), (4, .int (nI k)), (0, .ref (L 106)), (1, .int (nI b)), (2, .int p1)]) hx hb dX4_shiftFor_96 rfl hl (by decide) rfl (fun ls hl => ?_)
              obtain ⟨z97, ez97⟩ : ∃ y : Int32, y = nI k + 1 := ⟨_, rfl⟩
              refine lv_iinc (v := z97) (lv' := [(4, .int z97), (3, .int (sfF y b p1 k)), (6, .int 0), (5, .int ((wbF y b p1 k 32) - (wbF y b p1 jb 32))), (0, .ref (L 106)), (1, .int (nI b)), (2, .int p1)]) hx hb dX4_shiftFor_97 hl (k := 3) rfl (by rw [ez97]; rfl) (by decide) rfl (fun ls hl => ?_)
              refine lv_goto (tgt := 5) hx hb dX4_shiftFor_100 (by decide) ?_
              exact ih (k + 1) _ _ _ _ _ (by omega) (by rw [ez97, nI_1]) (sfF_f (fun h9 => h9.2.elim c25 (fun h8 => h8.elim (fun h7 => c52 (by rw [ejc] at h7; exact h7)) (fun h7 => c57 (by have h6 := h7.1; rw [ejc] at h6; exact h6))))) hP hS (lv_sub hl [0, 1, 4, 5, 6] rfl)
            · refine lv_aload_n hx hb dX4_shiftFor_60 rfl (lv_at hl 3 rfl) ?_
              refine lv_iload_n hx hb dX4_shiftFor_61 rfl (lv_at hl 4 rfl) ?_
              refine lv_iload_n hx hb dX4_shiftFor_62 rfl (lv_at hl 5 rfl) ?_
              refine lv_iload hx hb dX4_shiftFor_63 (lv_at hl 1 rfl) ?_
              refine wx_calli (va_runV (As := [.int (nI b), .int p1, .int (nI k)]) (rest := []) ⟨hx, hb, hml, hown, hts⟩ (m_costs l hst g base n L (by omega) y ch r0 b (by omega) p1 k (by omega)) (cwV 3 hts gX4_shiftFor_X4_costs rfl rfl rfl (by decide +kernel) ⟨Nat.le_of_ble_eq_true rfl, Nat.le_of_ble_eq_true rfl⟩) (hPW.preV hP hS (ci := 6) rfl (by omega) mw_o) rfl rfl hl.1 rfl (lv_room (Nat.le_of_ble_eq_true rfl)) dX4_shiftFor_65 ⟨Nat.le_of_ble_eq_true rfl, Nat.le_of_ble_eq_true rfl⟩) hS (fun r65 u65 H locs h65 hP hS => ?_)
              obtain rfl := h65
              refine lv_aload_n hx hb dX4_shiftFor_68 rfl (lv_at hl 3 rfl) ?_
              refine lv_iload_n hx hb dX4_shiftFor_69 rfl (lv_at hl 4 rfl) ?_
              refine lv_iload_n hx hb dX4_shiftFor_70 rfl (lv_at hl 5 rfl) ?_
              refine lv_iload_n hx hb dX4_shiftFor_71 rfl (lv_at hl 2 rfl) ?_
              rw [ejb]
              refine wx_calli (va_runV (As := [.int (nI b), .int p1, .int (nI jb)]) (rest := [.int (coF y b p1 k 32)]) ⟨hx, hb, hml, hown, hts⟩ (m_costs l hst g base n L (by omega) y ch r0 b (by omega) p1 jb (by omega)) (cwV 3 hts gX4_shiftFor_X4_costs rfl rfl rfl (by decide +kernel) ⟨Nat.le_of_ble_eq_true rfl, Nat.le_of_ble_eq_true rfl⟩) (hPW.preV hP hS (ci := 6) rfl (by omega) mw_o) rfl rfl hl.1 rfl (lv_room (Nat.le_of_ble_eq_true rfl)) dX4_shiftFor_72 ⟨Nat.le_of_ble_eq_true rfl, Nat.le_of_ble_eq_true rfl⟩) hS (fun r72 u72 H locs h72 hP hS => ?_)
              obtain rfl := h72
              refine lv_icmp_ge (tgt := 82) hx hb dX4_shiftFor_75 (by decide) (fun c75 => ?_) (fun c75 => ?_)
              · refine lv_iconst (v := 0) hx hb dX4_shiftFor_82 (by decide) ?_
                refine lv_istore (lv' := [(6, .int 0), (5, .int ((wbF y b p1 k 32) - (wbF y b p1 jb 32))), (4, .int (nI k)), (3, .int (sfF y b p1 k)), (0, .ref (L 106)), (1, .int (nI b)), (2, .int p1)]) hx hb dX4_shiftFor_83 hl (by decide) rfl (fun ls hl => ?_)
                refine lv_iload hx hb dX4_shiftFor_85 (lv_at hl 0 rfl) ?_
                refine lv_if_eq (tgt := 95) hx hb dX4_shiftFor_87 (by decide) (fun c87 => ?_) (fun c87 => absurd (by decide) c87)
                refine lv_iload_n hx hb dX4_shiftFor_95 rfl (lv_at hl 3 rfl) ?_
                refine lv_istore_n (lv' := [(3, .int (sfF y b p1 k)), (6, .int 0), (5, .int ((wbF y b p1 k 32) - (wbF y b p1 jb 32))), (4, .int (nI k)), (0, .ref (L 106)), (1, .int (nI b)), (2, .int p1)]) hx hb dX4_shiftFor_96 rfl hl (by decide) rfl (fun ls hl => ?_)
                obtain ⟨z97, ez97⟩ : ∃ y : Int32, y = nI k + 1 := ⟨_, rfl⟩
                refine lv_iinc (v := z97) (lv' := [(4, .int z97), (3, .int (sfF y b p1 k)), (6, .int 0), (5, .int ((wbF y b p1 k 32) - (wbF y b p1 jb 32))), (0, .ref (L 106)), (1, .int (nI b)), (2, .int p1)]) hx hb dX4_shiftFor_97 hl (k := 3) rfl (by rw [ez97]; rfl) (by decide) rfl (fun ls hl => ?_)
                refine lv_goto (tgt := 5) hx hb dX4_shiftFor_100 (by decide) ?_
                exact ih (k + 1) _ _ _ _ _ (by omega) (by rw [ez97, nI_1]) (sfF_f (fun h9 => h9.2.elim c25 (fun h8 => h8.elim (fun h7 => c52 (by rw [ejc] at h7; exact h7)) (fun h7 => h7.2 (by rw [ejc]; exact c75))))) hP hS (lv_sub hl [0, 1, 4, 5, 6] rfl)
              · refine lv_iconst (v := 1) hx hb dX4_shiftFor_78 (by decide) ?_
                refine lv_goto (tgt := 83) hx hb dX4_shiftFor_79 (by decide) ?_
                refine lv_istore (lv' := [(6, .int 1), (5, .int ((wbF y b p1 k 32) - (wbF y b p1 jb 32))), (4, .int (nI k)), (3, .int (sfF y b p1 k)), (0, .ref (L 106)), (1, .int (nI b)), (2, .int p1)]) hx hb dX4_shiftFor_83 hl (by decide) rfl (fun ls hl => ?_)
                refine lv_iload hx hb dX4_shiftFor_85 (lv_at hl 0 rfl) ?_
                refine lv_if_eq (tgt := 95) hx hb dX4_shiftFor_87 (by decide) (fun c87 => absurd c87 (by decide)) (fun c87 => ?_)
                refine lv_iload hx hb dX4_shiftFor_90 (lv_at hl 2 rfl) ?_
                refine lv_goto (tgt := 96) hx hb dX4_shiftFor_92 (by decide) ?_
                refine lv_istore_n (lv' := [(3, .int (nI k)), (6, .int 1), (5, .int ((wbF y b p1 k 32) - (wbF y b p1 jb 32))), (4, .int (nI k)), (0, .ref (L 106)), (1, .int (nI b)), (2, .int p1)]) hx hb dX4_shiftFor_96 rfl hl (by decide) rfl (fun ls hl => ?_)
                obtain ⟨z97, ez97⟩ : ∃ y : Int32, y = nI k + 1 := ⟨_, rfl⟩
                refine lv_iinc (v := z97) (lv' := [(4, .int z97), (3, .int (nI k)), (6, .int 1), (5, .int ((wbF y b p1 k 32) - (wbF y b p1 jb 32))), (0, .ref (L 106)), (1, .int (nI b)), (2, .int p1)]) hx hb dX4_shiftFor_97 hl (k := 3) rfl (by rw [ez97]; rfl) (by decide) rfl (fun ls hl => ?_)
                refine lv_goto (tgt := 5) hx hb dX4_shiftFor_100 (by decide) ?_
                exact ih (k + 1) _ _ _ _ _ (by omega) (by rw [ez97, nI_1]) (sfF_t ⟨h17, Or.inr (Or.inr ⟨by rw [ejc]; exact c57, by rw [ejc]; exact c75⟩)⟩) hP hS (lv_sub hl [0, 1, 4, 5, 6] rfl)
        · refine lv_iconst (v := (-1)) hx hb dX4_shiftFor_28 (by decide) ?_
          refine lv_goto (tgt := 48) hx hb dX4_shiftFor_29 (by decide) ?_
          refine lv_istore (lv' := [(5, .int (-1)), (4, .int (nI k)), (3, .int (sfF y b p1 k)), (0, .ref (L 106)), (1, .int (nI b)), (2, .int p1)]) hx hb dX4_shiftFor_48 hl (by decide) rfl (fun ls hl => ?_)
          refine lv_iload hx hb dX4_shiftFor_50 (lv_at hl 0 rfl) ?_
          refine lv_if_lt (tgt := 78) hx hb dX4_shiftFor_52 (by decide) (fun c52 => ?_) (fun c52 => absurd (by decide) c52)
          refine lv_iconst (v := 1) hx hb dX4_shiftFor_78 (by decide) ?_
          refine lv_goto (tgt := 83) hx hb dX4_shiftFor_79 (by decide) ?_
          refine lv_istore (lv' := [(6, .int 1), (5, .int (-1)), (4, .int (nI k)), (3, .int (sfF y b p1 k)), (0, .ref (L 106)), (1, .int (nI b)), (2, .int p1)]) hx hb dX4_shiftFor_83 hl (by decide) rfl (fun ls hl => ?_)
          refine lv_iload hx hb dX4_shiftFor_85 (lv_at hl 0 rfl) ?_
          refine lv_if_eq (tgt := 95) hx hb dX4_shiftFor_87 (by decide) (fun c87 => absurd c87 (by decide)) (fun c87 => ?_)
          refine lv_iload hx hb dX4_shiftFor_90 (lv_at hl 2 rfl) ?_
          refine lv_goto (tgt := 96) hx hb dX4_shiftFor_92 (by decide) ?_
          refine lv_istore_n (lv' := [(3, .int (nI k)), (6, .int 1), (5, .int (-1)), (4, .int (nI k)), (0, .ref (L 106)), (1, .int (nI b)), (2, .int p1)]) hx hb dX4_shiftFor_96 rfl hl (by decide) rfl (fun ls hl => ?_)
          obtain ⟨z97, ez97⟩ : ∃ y : Int32, y = nI k + 1 := ⟨_, rfl⟩
          refine lv_iinc (v := z97) (lv' := [(4, .int z97), (3, .int (nI k)), (6, .int 1), (5, .int (-1)), (0, .ref (L 106)), (1, .int (nI b)), (2, .int p1)]) hx hb dX4_shiftFor_97 hl (k := 3) rfl (by rw [ez97]; rfl) (by decide) rfl (fun ls hl => ?_)
          refine lv_goto (tgt := 5) hx hb dX4_shiftFor_100 (by decide) ?_
          exact ih (k + 1) _ _ _ _ _ (by omega) (by rw [ez97, nI_1]) (sfF_t ⟨h17, Or.inl c25⟩) hP hS (lv_sub hl [0, 1, 4, 5, 6] rfl)
      · refine lv_if_eq (tgt := 97) hx hb dX4_shiftFor_20 (by decide) (fun c20 => ?_) (fun c20 => absurd (by decide) c20)
        obtain ⟨z97, ez97⟩ : ∃ y : Int32, y = nI k + 1 := ⟨_, rfl⟩
        refine lv_iinc (v := z97) (lv' := [(4, .int z97), (3, .int (sfF y b p1 k)), (0, .ref (L 106)), (1, .int (nI b)), (2, .int p1)]) hx hb dX4_shiftFor_97 hl (k := 0) rfl (by rw [ez97]; rfl) (by decide) rfl (fun ls hl => ?_)
        refine lv_goto (tgt := 5) hx hb dX4_shiftFor_100 (by decide) ?_
        exact ih (k + 1) _ _ _ _ _ (by omega) (by rw [ez97, nI_1]) (sfF_f (fun h9 => h17 h9.1)) hP hS (lv_sub hl [0, 1, 2, 3, 4] rfl)
  exact key5 8 0 _ _ _ _ _ (by omega) rfl rfl hP hS (lv_sub hl [0, 1, 2, 3, 4] rfl)

set_option maxHeartbeats 4000000 in
set_option maxRecDepth 100000 in
theorem m_show (l : Launch) (hst : l.stackTraces = false) (g : gE) (base n : Nat) (L : Nat → Nat) (hn : 123 ≤ n) (y : St) (ch : Int64) (r0 : Nat → va_E) (b : Nat) (hb6 : b < 6) (k0 : Nat) (hk0 : k0 < 40) (j : Nat) (hj8 : j < 8) : Met l yX4_show wsX4_show ({ frames := 2, cells := 0, slots := 0, locals := 120 }) (va_Pc [.ref (L 106), .int (nI b), .int (nI k0), .int (nI j)] (PW SS g base n L (mw g L y ch r0))) (va_Qv (fun (u : MS) => u = shM (y, ch) b k0 j) (fun (u : MS) t => PB g n L (mw g L u.1 u.2 r0) t) (fun q => base ≤ q)) 0 0 (fun q => base ≤ q) := by
  refine Met.ofW (cc := cX4_show) (maxL := 5) (ret := none) (by decide) rfl ?_
  intro p e s m args below meth c s₁ B hml hv
  obtain ⟨rfl, hPW⟩ := hv
  obtain ⟨hbs, hJ, hP, hK, hE⟩ := id hPW
  have hx := B.exec
  have hb := B.bytes
  have hr := B.returns
  have hts := atoms_spec (ws := wsX4_show) B.pre
  have hown : s.vm.findClass RX4 = some m.cls := findClass_of_methodNamed B.named
  have hlocks := B.notSynchronized
  have hS : va_S (fun q : Nat => base ≤ q) s.heap s.heap [] := va_S.rf
  have hl := lv_entry ([.ref (L 106), .int (nI b), .int (nI k0), .int (nI j)]) (n := 5) (Nat.le_of_ble_eq_true rfl)
  rw [lg_entry_eq]
  generalize (lg_sl ([.ref (L 106), .int (nI b), .int (nI k0), .int (nI j)]) ++ List.replicate (5 - (lg_sl ([.ref (L 106), .int (nI b), .int (nI k0), .int (nI j)])).length) Slot.unset).toArray = ls at hl ⊢
  have hl : lv_has ls 5 [(0, .ref (L 106)), (1, .int (nI b)), (2, .int (nI k0)), (3, .int (nI j))] := hl
  have iX4 : ∀ w ∈ wsX40, w ∈ wsX4_show := by decide +kernel
  refine lv_iconst (v := 0) hx hb dX4_show_0 (by decide) ?_
  refine lv_istore (lv' := [(4, .int 0), (0, .ref (L 106)), (1, .int (nI b)), (2, .int (nI k0)), (3, .int (nI j))]) hx hb dX4_show_1 hl (by decide) rfl (fun ls hl => ?_)
  have key3 : ∀ (d k : Nat) (z4 : Int32) (s1 : MS) (H : Heap) (locs : List Loc) (ls : Array Slot), k + d = 32 → (z4 = nI k) → (s1 = shL (y, ch) b (y 18 0 k0) j k) → va_P g.1 vwCl (wl n L (mw g L s1.1 s1.2 r0)) H → va_S (fun q : Nat => base ≤ q) s.heap H locs → lv_has ls 5 [(4, .int z4), (0, .ref (L 106)), (1, .int (nI b)), (2, .int (nI k0)), (3, .int (nI j))] → W p l e (headSpec wsX4_show ({ frames := 2, cells := 0, slots := 0, locals := 120 })).room s m ([.ref (L 106), .int (nI b), .int (nI k0), .int (nI j)] : List Value).toArray below meth c H locs 0 0 (MQ below (va_Qv (fun (u : MS) => u = shM (y, ch) b k0 j) (fun (u : MS) t => PB g n L (mw g L u.1 u.2 r0) t) (fun q => base ≤ q)) ([.ref (L 106), .int (nI b), .int (nI k0), .int (nI j)] : List Value).toArray s 0 0 (fun q => base ≤ q)) (F0 m 3 ls []) := by
    intro d
    induction d with
    | zero =>
      intro k z4 s1 H locs ls hkd ek4 es1 hP hS hl
      obtain rfl : k = 32 := by omega
      subst ek4 es1
      refine lv_iload hx hb dX4_show_3 (lv_at hl 0 rfl) ?_
      refine lv_bipush (v := 32) hx hb dX4_show_5 (by decide) ?_
      refine lv_icmp_ge (tgt := 54) hx hb dX4_show_7 (by decide) (fun c7 => ?_) (fun c7 => absurd (by decide) c7)
      refine lv_aload_n hx hb dX4_show_54 rfl (lv_at hl 1 rfl) ?_
      refine wx_get (D := g.1) (cl := vwCl) (ci := 6) (v := .ref (L 109)) (C := RX4) (T := TX4) (N := 22) hx hb hts iX4 hown hK hP (106) (by omega) mw_o rfl 8 (by decide) (hts (.fieldLink RX4 20 "FerroDeskModel" "shown" "[I") (by decide +kernel)) (fun _ h9 => h9) rfl dX4_show_55 ?_
      refine lv_iload_n hx hb dX4_show_58 rfl (lv_at hl 2 rfl) ?_
      refine lv_iload_n hx hb dX4_show_59 rfl (lv_at hl 3 rfl) ?_
      refine wx_iast (D := g.1) (cl := vwCl) (N := 6) (f := fun j9 => ((shL (y, ch) b (y 18 0 k0) j 32).1) 12 0 j9) (w' := mw g L (st ((shL (y, ch) b (y 18 0 k0) j 32).1) 12 0 b (nI k0)) ((shL (y, ch) b (y 18 0 k0) j 32).2) r0) hx hb hK hP hJ hS (109) 0 (by omega) (mw_a (by decide) (by decide)) rfl (i := (nI b)) (by exact vp_in_nI (by omega) (by decide)) dX4_show_60 (by rw [nI_clamp (by omega)]; exact mw_st (r := 12) rfl (by decide) (by decide) rfl rfl rfl) (fun H locs hP hS => ?_)
      refine lv_aload_n hx hb dX4_show_61 rfl (lv_at hl 1 rfl) ?_
      refine wx_get (D := g.1) (cl := vwCl) (ci := 6) (v := .ref (L 110)) (C := RX4) (T := TX4) (N := 22) hx hb hts iX4 hown hK hP (106) (by omega) mw_o rfl 9 (by decide) (hts (.fieldLink RX4 23 "FerroDeskModel" "shift" "[I") (by decide +kernel)) (fun _ h9 => h9) rfl dX4_show_62 ?_
      refine lv_iload_n hx hb dX4_show_65 rfl (lv_at hl 2 rfl) ?_
      refine lv_iload_n hx hb dX4_show_66 rfl (lv_at hl 4 rfl) ?_
      refine wx_iast (D := g.1) (cl := vwCl) (N := 6) (f := fun j9 => (st ((shL (y, ch) b (y 18 0 k0) j 32).1) 12 0 b (nI k0)) 13 0 j9) (w' := mw g L (st (st ((shL (y, ch) b (y 18 0 k0) j 32).1) 12 0 b (nI k0)) 13 0 b (nI j)) ((shL (y, ch) b (y 18 0 k0) j 32).2) r0) hx hb hK hP hJ hS (110) 0 (by omega) (mw_a (by decide) (by decide)) rfl (i := (nI b)) (by exact vp_in_nI (by omega) (by decide)) dX4_show_67 (by rw [nI_clamp (by omega)]; exact mw_st (r := 13) rfl (by decide) (by decide) rfl rfl rfl) (fun H locs hP hS => ?_)
      refine W.widen (k := 0) (n := 0) (Nat.le_of_ble_eq_true rfl) (Nat.le_of_ble_eq_true rfl) ?_
      exact W.vret hx hb hr (fun t ht hW => ⟨⟨(st (st ((shL (y, ch) b (y 18 0 k0) j 32).1) 12 0 b (nI k0)) 13 0 b (nI j), (shL (y, ch) b (y 18 0 k0) j 32).2), rfl, rfl, PB.mk9 hP ht⟩, hS.F ht⟩) hS.2.2 dX4_show_68
    | succ d ih =>
      intro k z4 s1 H locs ls hkd ek4 es1 hP hS hl
      have hkN : k < 32 := by omega
      subst ek4 es1
      refine lv_iload hx hb dX4_show_3 (lv_at hl 0 rfl) ?_
      refine lv_bipush (v := 32) hx hb dX4_show_5 (by decide) ?_
      refine lv_icmp_ge (tgt := 54) hx hb dX4_show_7 (by decide) (fun c7 => absurd c7 (nI_ge (b := 32) hkN (by decide))) (fun c7 => ?_)
      refine lv_aload_n hx hb dX4_show_10 rfl (lv_at hl 1 rfl) ?_
      refine lv_iload_n hx hb dX4_show_11 rfl (lv_at hl 2 rfl) ?_
      refine lv_aload_n hx hb dX4_show_12 rfl (lv_at hl 1 rfl) ?_
      refine wx_get (D := g.1) (cl := vwCl) (ci := 6) (v := .ref (L 115)) (C := RX4) (T := TX4) (N := 22) hx hb hts iX4 hown hK hP (106) (by omega) mw_o rfl 14 (by decide) (hts (.fieldLink RX4 39 "FerroDeskModel" "picture" "[I") (by decide +kernel)) (fun _ h9 => h9) rfl dX4_show_13 ?_
      refine lv_iload_n hx hb dX4_show_16 rfl (lv_at hl 3 rfl) ?_
      refine wx_ialdv (D := g.1) (cl := vwCl) (N := 40) (f := fun j9 => ((shL (y, ch) b (y 18 0 k0) j k).1) 18 0 j9) (v := ((shL (y, ch) b (y 18 0 k0) j k).1) 18 0 k0) hx hb hK hP (115) 0 (by omega) (mw_a (by decide) (by decide)) rfl (i := (nI k0)) (by exact vp_in_nI (by omega) (by decide)) (by rw [nI_clamp (by omega)]) dX4_show_17 ?_
      rw [show (shL (y, ch) b (y 18 0 k0) j k).1 18 0 k0 = y 18 0 k0 from shL_r (by omega)]
      refine lv_iload_n hx hb dX4_show_18 rfl (lv_at hl 4 rfl) ?_
      refine lv_iload hx hb dX4_show_19 (lv_at hl 0 rfl) ?_
      refine wx_calli (va_runV (As := [.int (nI b), .int (y 18 0 k0), .int (nI j), .int (nI k)]) (rest := []) ⟨hx, hb, hml, hown, hts⟩ (m_differs l hst g base n L (by omega) ((shL (y, ch) b (y 18 0 k0) j k).1) ((shL (y, ch) b (y 18 0 k0) j k).2) r0 b (by omega) (y 18 0 k0) j (by omega) k (by omega)) (cwV 4 hts gX4_show_X4_differs rfl rfl rfl (by decide +kernel) ⟨Nat.le_of_ble_eq_true rfl, Nat.le_of_ble_eq_true rfl⟩) (hPW.preV hP hS (ci := 6) rfl (by omega) mw_o) rfl rfl hl.1 rfl (lv_room (Nat.le_of_ble_eq_true rfl)) dX4_show_21 ⟨Nat.le_of_ble_eq_true rfl, Nat.le_of_ble_eq_true rfl⟩) hS (fun r21 u21 H locs h21 hP hS => ?_)
      rcases h21 with ⟨rfl, h21⟩ | ⟨rfl, h21⟩
      · refine lv_if_eq (tgt := 48) hx hb dX4_show_24 (by decide) (fun c24 => absurd c24 (by decide)) (fun c24 => ?_)
        refine lv_aload_n hx hb dX4_show_27 rfl (lv_at hl 1 rfl) ?_
        refine lv_bipush (v := 32) hx hb dX4_show_28 (by decide) ?_
        refine lv_iload_n hx hb dX4_show_30 rfl (lv_at hl 2 rfl) ?_
        refine lv_imul hx hb dX4_show_31 ?_
        refine lv_iload hx hb dX4_show_32 (lv_at hl 0 rfl) ?_
        refine lv_iadd hx hb dX4_show_34 ?_
        rw [m32, nI_add]
        refine wx_callv (va_runV (As := [.int (nI (32 * b + k))]) (rest := []) ⟨hx, hb, hml, hown, hts⟩ (m_change l hst g base n L (by omega) ((shL (y, ch) b (y 18 0 k0) j k).1) ((shL (y, ch) b (y 18 0 k0) j k).2) r0 (32 * b + k) (by omega)) (cwV 1 hts gX4_show_X4_change rfl rfl rfl (by decide +kernel) ⟨Nat.le_of_ble_eq_true rfl, Nat.le_of_ble_eq_true rfl⟩) (hPW.preV hP hS (ci := 6) rfl (by omega) mw_o) rfl rfl hl.1 rfl (lv_room (Nat.le_of_ble_eq_true rfl)) dX4_show_35 ⟨Nat.le_of_ble_eq_true rfl, Nat.le_of_ble_eq_true rfl⟩) hS (fun u35 H locs h35 hP hS => ?_)
        obtain rfl := h35
        refine lv_aload_n hx hb dX4_show_38 rfl (lv_at hl 1 rfl) ?_
        refine wx_get (D := g.1) (cl := vwCl) (ci := 6) (v := .ref (L 108)) (C := RX4) (T := TX4) (N := 22) hx hb hts iX4 hown hK hP (106) (by omega) mw_o rfl 7 (by decide) (hts (.fieldLink RX4 17 "FerroDeskModel" "charge" "[I") (by decide +kernel)) (fun _ h9 => h9) rfl dX4_show_39 ?_
        refine lv_iload_n hx hb dX4_show_42 rfl (lv_at hl 2 rfl) ?_
        refine lv_dup2_11 hx hb dX4_show_43 rfl rfl ?_
        refine wx_ialdv (D := g.1) (cl := vwCl) (N := 6) (f := fun j9 => ((cgM (shL (y, ch) b (y 18 0 k0) j k) (32 * b + k)).1) 11 0 j9) (v := ((cgM (shL (y, ch) b (y 18 0 k0) j k) (32 * b + k)).1) 11 0 b) hx hb hK hP (108) 0 (by omega) (mw_a (by decide) (by decide)) rfl (i := (nI b)) (by exact vp_in_nI (by omega) (by decide)) (by rw [nI_clamp (by omega)]) dX4_show_44 ?_
        refine lv_iconst (v := 1) hx hb dX4_show_45 (by decide) ?_
        refine lv_isub hx hb dX4_show_46 ?_
        refine wx_iast (D := g.1) (cl := vwCl) (N := 6) (f := fun j9 => ((cgM (shL (y, ch) b (y 18 0 k0) j k) (32 * b + k)).1) 11 0 j9) (w' := mw g L (st ((cgM (shL (y, ch) b (y 18 0 k0) j k) (32 * b + k)).1) 11 0 b ((((cgM (shL (y, ch) b (y 18 0 k0) j k) (32 * b + k)).1) 11 0 b) - 1)) ((cgM (shL (y, ch) b (y 18 0 k0) j k) (32 * b + k)).2) r0) hx hb hK hP hJ hS (108) 0 (by omega) (mw_a (by decide) (by decide)) rfl (i := (nI b)) (by exact vp_in_nI (by omega) (by decide)) dX4_show_47 (by rw [nI_clamp (by omega)]; exact mw_st (r := 11) rfl (by decide) (by decide) rfl rfl rfl) (fun H locs hP hS => ?_)
        obtain ⟨z48, ez48⟩ : ∃ y : Int32, y = nI k + 1 := ⟨_, rfl⟩
        refine lv_iinc (v := z48) (lv' := [(4, .int z48), (0, .ref (L 106)), (1, .int (nI b)), (2, .int (nI k0)), (3, .int (nI j))]) hx hb dX4_show_48 hl (k := 0) rfl (by rw [ez48]; rfl) (by decide) rfl (fun ls hl => ?_)
        refine lv_goto (tgt := 3) hx hb dX4_show_51 (by decide) ?_
        exact ih (k + 1) _ (st ((cgM (shL (y, ch) b (y 18 0 k0) j k) (32 * b + k)).1) 11 0 b ((((cgM (shL (y, ch) b (y 18 0 k0) j k) (32 * b + k)).1) 11 0 b) - 1), (cgM (shL (y, ch) b (y 18 0 k0) j k) (32 * b + k)).2) _ _ _ (by omega) (by rw [ez48, nI_1]) (shL_t h21) hP hS (lv_sub hl [0, 1, 2, 3, 4] rfl)
      · refine lv_if_eq (tgt := 48) hx hb dX4_show_24 (by decide) (fun c24 => ?_) (fun c24 => absurd (by decide) c24)
        obtain ⟨z48, ez48⟩ : ∃ y : Int32, y = nI k + 1 := ⟨_, rfl⟩
        refine lv_iinc (v := z48) (lv' := [(4, .int z48), (0, .ref (L 106)), (1, .int (nI b)), (2, .int (nI k0)), (3, .int (nI j))]) hx hb dX4_show_48 hl (k := 0) rfl (by rw [ez48]; rfl) (by decide) rfl (fun ls hl => ?_)
        refine lv_goto (tgt := 3) hx hb dX4_show_51 (by decide) ?_
        exact ih (k + 1) _ (shL (y, ch) b (y 18 0 k0) j k) _ _ _ (by omega) (by rw [ez48, nI_1]) (shL_f h21) hP hS (lv_sub hl [0, 1, 2, 3, 4] rfl)
  exact key3 32 0 _ (y, ch) _ _ _ (by omega) rfl shL_0.symm hP hS (lv_sub hl [0, 1, 2, 3, 4] rfl)

set_option maxHeartbeats 4000000 in
set_option maxRecDepth 100000 in
theorem m_choose (l : Launch) (hst : l.stackTraces = false) (g : gE) (base n : Nat) (L : Nat → Nat) (hn : 123 ≤ n) (y : St) (ch : Int64) (r0 : Nat → va_E) (nb nn : Nat) (hM : MI y nb nn) (b : Nat) (hb6 : b < 6) : Met l yX4_choose wsX4_choose ({ frames := 5, cells := 0, slots := 0, locals := 300 }) (va_Pc [.ref (L 106), .int (nI b)] (PW SS g base n L (mw g L y ch r0))) (va_Qv (fun (u : MS) => u = chM (y, ch) b nn) (fun (u : MS) t => PB g n L (mw g L u.1 u.2 r0) t) (fun q => base ≤ q)) 0 0 (fun q => base ≤ q) := by
  refine Met.ofW (cc := cX4_choose) (maxL := 7) (ret := none) (by decide) rfl ?_
  intro p e s m args below meth c s₁ B hml hv
  obtain ⟨rfl, hPW⟩ := hv
  obtain ⟨hbs, hJ, hP, hK, hE⟩ := id hPW
  have hx := B.exec
  have hb := B.bytes
  have hr := B.returns
  have hts := atoms_spec (ws := wsX4_choose) B.pre
  have hown : s.vm.findClass RX4 = some m.cls := findClass_of_methodNamed B.named
  have hlocks := B.notSynchronized
  have hS : va_S (fun q : Nat => base ≤ q) s.heap s.heap [] := va_S.rf
  have hl := lv_entry ([.ref (L 106), .int (nI b)]) (n := 7) (Nat.le_of_ble_eq_true rfl)
  rw [lg_entry_eq]
  generalize (lg_sl ([.ref (L 106), .int (nI b)]) ++ List.replicate (7 - (lg_sl ([.ref (L 106), .int (nI b)])).length) Slot.unset).toArray = ls at hl ⊢
  have hl : lv_has ls 7 [(0, .ref (L 106)), (1, .int (nI b))] := hl
  have iX4 : ∀ w ∈ wsX40, w ∈ wsX4_choose := by decide +kernel
  have hnb := hM.nb6
  have hnn := hM.nn40
  have hy3 := hM.y3
  have hy4 := hM.y4
  refine lv_aload_n hx hb dX4_choose_0 rfl (lv_at hl 0 rfl) ?_
  refine wx_get (D := g.1) (cl := vwCl) (ci := 6) (v := .ref (L 107)) (C := RX4) (T := TX4) (N := 22) hx hb hts iX4 hown hK hP (106) (by omega) mw_o rfl 6 (by decide) (hts (.fieldLink RX4 13 "FerroDeskModel" "districtOf" "[I") (by decide +kernel)) (fun _ h9 => h9) rfl dX4_choose_1 ?_
  refine lv_iload_n hx hb dX4_choose_4 rfl (lv_at hl 1 rfl) ?_
  refine wx_ialdv (D := g.1) (cl := vwCl) (N := 6) (f := fun j9 => y 10 0 j9) (v := y 10 0 b) hx hb hK hP (107) 0 (by omega) (mw_a (by decide) (by decide)) rfl (i := (nI b)) (by exact vp_in_nI (by omega) (by decide)) (by rw [nI_clamp (by omega)]) dX4_choose_5 ?_
  obtain ⟨dd, hd, ed⟩ := hM.ds b hb6
  rw [ed]
  refine lv_istore_n (lv' := [(2, .int (nI dd)), (0, .ref (L 106)), (1, .int (nI b))]) hx hb dX4_choose_6 rfl hl (by decide) rfl (fun ls hl => ?_)
  refine lv_aload_n hx hb dX4_choose_7 rfl (lv_at hl 1 rfl) ?_
  refine wx_get (D := g.1) (cl := vwCl) (ci := 6) (v := .ref (L 111)) (C := RX4) (T := TX4) (N := 22) hx hb hts iX4 hown hK hP (106) (by omega) mw_o rfl 10 (by decide) (hts (.fieldLink RX4 26 "FerroDeskModel" "isAsleep" "[Z") (by decide +kernel)) (fun _ h9 => h9) rfl dX4_choose_8 ?_
  refine lv_iload_n hx hb dX4_choose_11 rfl (lv_at hl 2 rfl) ?_
  refine lv_iconst (v := 0) hx hb dX4_choose_12 (by decide) ?_
  refine wx_zast (D := g.1) (cl := vwCl) (N := 6) (f := fun j9 => y 14 0 j9) (w' := mw g L (st y 14 0 b 0) ch r0) hx hb hK hP hJ hS (111) 3 (by omega) (mw_a (by decide) (by decide)) rfl (i := (nI b)) (by exact vp_in_nI (by omega) (by decide)) (by decide) dX4_choose_13 (by rw [nI_clamp (by omega)]; exact mw_st (r := 14) rfl (by decide) (by decide) rfl rfl rfl) (fun H locs hP hS => ?_)
  refine lv_aload_n hx hb dX4_choose_14 rfl (lv_at hl 1 rfl) ?_
  refine lv_iload_n hx hb dX4_choose_15 rfl (lv_at hl 0 rfl) ?_
  refine wx_calli (va_runV (As := [.int (nI dd)]) (rest := []) ⟨hx, hb, hml, hown, hts⟩ (m_manyQueued l hst g base n L (by omega) (st y 14 0 b 0) ch r0 nn hnn (by repeat (first | exact hy4 | rw [st_nr (by omega)])) dd (by omega)) (cwV 1 hts gX4_choose_X4_manyQueued rfl rfl rfl (by decide +kernel) ⟨Nat.le_of_ble_eq_true rfl, Nat.le_of_ble_eq_true rfl⟩) (hPW.preV hP hS (ci := 6) rfl (by omega) mw_o) rfl rfl hl.1 rfl (lv_room (Nat.le_of_ble_eq_true rfl)) dX4_choose_16 ⟨Nat.le_of_ble_eq_true rfl, Nat.le_of_ble_eq_true rfl⟩) hS (fun r16 u16 H locs h16 hP hS => ?_)
  obtain rfl := h16
  obtain ⟨mc, hmc, emc⟩ := cnP_nat (fun k => iiP (st y 14 0 b 0) k dd) nn
  have emc : mqF (st y 14 0 b 0) dd nn = nI mc := emc
  rw [emc]
  refine lv_istore_n (lv' := [(3, .int (nI mc)), (2, .int (nI dd)), (0, .ref (L 106)), (1, .int (nI b))]) hx hb dX4_choose_19 rfl hl (by decide) rfl (fun ls hl => ?_)
  refine lv_iconst (v := 0) hx hb dX4_choose_20 (by decide) ?_
  refine lv_istore (lv' := [(4, .int 0), (3, .int (nI mc)), (2, .int (nI dd)), (0, .ref (L 106)), (1, .int (nI b))]) hx hb dX4_choose_21 hl (by decide) rfl (fun ls hl => ?_)
  have key23 : ∀ (d k : Nat) (z4 : Int32) (s1 : MS) (H : Heap) (locs : List Loc) (ls : Array Slot), k + d = mc → (z4 = nI k) → (MI s1.1 nb nn) → (∀ r i j, r ≠ 14 → s1.1 r i j = st y 14 0 b 0 r i j) → (chL b dd nn (mc - k) k s1 = chM (y, ch) b nn) → va_P g.1 vwCl (wl n L (mw g L s1.1 s1.2 r0)) H → va_S (fun q : Nat => base ≤ q) s.heap H locs → lv_has ls 7 [(4, .int z4), (0, .ref (L 106)), (1, .int (nI b)), (2, .int (nI dd)), (3, .int (nI mc))] → W p l e (headSpec wsX4_choose ({ frames := 5, cells := 0, slots := 0, locals := 300 })).room s m ([.ref (L 106), .int (nI b)] : List Value).toArray below meth c H locs (0 + 0) (0 + 0) (MQ below (va_Qv (fun (u : MS) => u = chM (y, ch) b nn) (fun (u : MS) t => PB g n L (mw g L u.1 u.2 r0) t) (fun q => base ≤ q)) ([.ref (L 106), .int (nI b)] : List Value).toArray s 0 0 (fun q => base ≤ q)) (F0 m 23 ls []) := by
    intro d
    induction d with
    | zero =>
      intro k z4 s1 H locs ls hkd ek4 hM1 hq hF hP hS hl
      obtain rfl : mc = k := by omega
      subst ek4
      refine lv_iload hx hb dX4_choose_23 (lv_at hl 0 rfl) ?_
      refine lv_iload_n hx hb dX4_choose_25 rfl (lv_at hl 4 rfl) ?_
      refine lv_icmp_ge (tgt := 102) hx hb dX4_choose_26 (by decide) (fun c26 => ?_) (fun c26 => absurd (nI_le (Nat.le_refl _) (by omega)) c26)
      refine lv_aload_n hx hb dX4_choose_102 rfl (lv_at hl 1 rfl) ?_
      refine lv_iload_n hx hb dX4_choose_103 rfl (lv_at hl 2 rfl) ?_
      refine wx_callv (va_runV (As := [.int (nI b)]) (rest := []) ⟨hx, hb, hml, hown, hts⟩ (m_wipe l hst g base n L (by omega) s1.1 s1.2 r0 b (by omega)) (cwV 1 hts gX4_choose_X4_wipe rfl rfl rfl (by decide +kernel) ⟨Nat.le_of_ble_eq_true rfl, Nat.le_of_ble_eq_true rfl⟩) (hPW.preV hP hS (ci := 6) rfl (by omega) mw_o) rfl rfl hl.1 rfl (lv_room (Nat.le_of_ble_eq_true rfl)) dX4_choose_104 ⟨Nat.le_of_ble_eq_true rfl, Nat.le_of_ble_eq_true rfl⟩) hS (fun u104 H locs h104 hP hS => ?_)
      obtain rfl := h104
      refine W.widen (k := 0) (n := 0) (Nat.le_of_ble_eq_true rfl) (Nat.le_of_ble_eq_true rfl) ?_
      exact W.vret hx hb hr (fun t ht hW => ⟨⟨wpM s1 b, rfl, (by rw [← hF, Nat.sub_self]; rfl), PB.mk9 hP ht⟩, hS.F ht⟩) hS.2.2 dX4_choose_107
    | succ d ih =>
      intro k z4 s1 H locs ls hkd ek4 hM1 hq hF hP hS hl
      have hkN : k < mc := by omega
      subst ek4
      refine lv_iload hx hb dX4_choose_23 (lv_at hl 0 rfl) ?_
      refine lv_iload_n hx hb dX4_choose_25 rfl (lv_at hl 4 rfl) ?_
      refine lv_icmp_ge (tgt := 102) hx hb dX4_choose_26 (by decide) (fun c26 => absurd c26 (nI_ge hkN (by omega))) (fun c26 => ?_)
      refine lv_aload_n hx hb dX4_choose_29 rfl (lv_at hl 1 rfl) ?_
      refine lv_iload_n hx hb dX4_choose_30 rfl (lv_at hl 3 rfl) ?_
      refine lv_iload hx hb dX4_choose_31 (lv_at hl 0 rfl) ?_
      refine wx_calli (va_runV (As := [.int (nI dd), .int (nI k)]) (rest := []) ⟨hx, hb, hml, hown, hts⟩ (m_inQueue l hst g base n L (by omega) s1.1 s1.2 r0 nn hnn hM1.y4 dd (by omega) (nI k)) (cwV 2 hts gX4_choose_X4_inQueue rfl rfl rfl (by decide +kernel) ⟨Nat.le_of_ble_eq_true rfl, Nat.le_of_ble_eq_true rfl⟩) (hPW.preV hP hS (ci := 6) rfl (by omega) mw_o) rfl rfl hl.1 rfl (lv_room (Nat.le_of_ble_eq_true rfl)) dX4_choose_33 ⟨Nat.le_of_ble_eq_true rfl, Nat.le_of_ble_eq_true rfl⟩) hS (fun r33 u33 H locs h33 hP hS => ?_)
      obtain rfl := h33
      obtain ⟨jq, hjq, -, ejq⟩ := iq_at (y := s1.1) (d := dd) (mc := mc) (k := k) hM1.rk hM.nn40 ((mqF_congr hq).trans emc) hmc hkN
      have eN : iqN s1.1 dd nn k = jq := by unfold iqN; rw [ejq, nI_clamp (by omega)]
      rw [ejq]
      refine lv_istore (lv' := [(5, .int (nI jq)), (4, .int (nI k)), (0, .ref (L 106)), (1, .int (nI b)), (2, .int (nI dd)), (3, .int (nI mc))]) hx hb dX4_choose_36 hl (by decide) rfl (fun ls hl => ?_)
      refine lv_aload_n hx hb dX4_choose_38 rfl (lv_at hl 2 rfl) ?_
      refine lv_iload hx hb dX4_choose_39 (lv_at hl 0 rfl) ?_
      refine wx_calli (va_runV (As := [.int (nI jq)]) (rest := []) ⟨hx, hb, hml, hown, hts⟩ (m_dueNow l hst g base n L (by omega) s1.1 s1.2 r0 jq (by omega)) (cwV 1 hts gX4_choose_X4_dueNow rfl rfl rfl (by decide +kernel) ⟨Nat.le_of_ble_eq_true rfl, Nat.le_of_ble_eq_true rfl⟩) (hPW.preV hP hS (ci := 6) rfl (by omega) mw_o) rfl rfl hl.1 rfl (lv_room (Nat.le_of_ble_eq_true rfl)) dX4_choose_41 ⟨Nat.le_of_ble_eq_true rfl, Nat.le_of_ble_eq_true rfl⟩) hS (fun r41 u41 H locs h41 hP hS => ?_)
      rcases h41 with ⟨rfl, h41⟩ | ⟨rfl, h41⟩
      · refine lv_if_eq (tgt := 96) hx hb dX4_choose_44 (by decide) (fun c44 => absurd c44 (by decide)) (fun c44 => ?_)
        refine lv_aload_n hx hb dX4_choose_47 rfl (lv_at hl 2 rfl) ?_
        refine wx_get (D := g.1) (cl := vwCl) (ci := 6) (v := .ref (L 109)) (C := RX4) (T := TX4) (N := 22) hx hb hts iX4 hown hK hP (106) (by omega) mw_o rfl 8 (by decide) (hts (.fieldLink RX4 20 "FerroDeskModel" "shown" "[I") (by decide +kernel)) (fun _ h9 => h9) rfl dX4_choose_48 ?_
        refine lv_iload_n hx hb dX4_choose_51 rfl (lv_at hl 3 rfl) ?_
        refine wx_ialdv (D := g.1) (cl := vwCl) (N := 6) (f := fun j9 => s1.1 12 0 j9) (v := s1.1 12 0 b) hx hb hK hP (109) 0 (by omega) (mw_a (by decide) (by decide)) rfl (i := (nI b)) (by exact vp_in_nI (by omega) (by decide)) (by rw [nI_clamp (by omega)]) dX4_choose_52 ?_
        refine lv_iload hx hb dX4_choose_53 (lv_at hl 0 rfl) ?_
        refine lv_icmp_ne (tgt := 59) hx hb dX4_choose_55 (by decide) (fun c55 => ?_) (fun c55 => ?_)
        · refine lv_aload_n hx hb dX4_choose_59 rfl (lv_at hl 2 rfl) ?_
          refine lv_iload_n hx hb dX4_choose_60 rfl (lv_at hl 3 rfl) ?_
          refine lv_aload_n hx hb dX4_choose_61 rfl (lv_at hl 2 rfl) ?_
          refine wx_get (D := g.1) (cl := vwCl) (ci := 6) (v := .ref (L 115)) (C := RX4) (T := TX4) (N := 22) hx hb hts iX4 hown hK hP (106) (by omega) mw_o rfl 14 (by decide) (hts (.fieldLink RX4 39 "FerroDeskModel" "picture" "[I") (by decide +kernel)) (fun _ h9 => h9) rfl dX4_choose_62 ?_
          refine lv_iload hx hb dX4_choose_65 (lv_at hl 0 rfl) ?_
          refine wx_ialdv (D := g.1) (cl := vwCl) (N := 40) (f := fun j9 => s1.1 18 0 j9) (v := s1.1 18 0 jq) hx hb hK hP (115) 0 (by omega) (mw_a (by decide) (by decide)) rfl (i := nI jq) (by exact vp_in_nI (by omega) (by decide)) (by rw [nI_clamp (by omega)]) dX4_choose_67 ?_
          refine wx_calli (va_runV (As := [.int (nI b), .int (s1.1 18 0 jq)]) (rest := []) ⟨hx, hb, hml, hown, hts⟩ (m_shiftFor l hst g base n L (by omega) s1.1 s1.2 r0 b (by omega) (s1.1 18 0 jq)) (cwV 2 hts gX4_choose_X4_shiftFor rfl rfl rfl (by decide +kernel) ⟨Nat.le_of_ble_eq_true rfl, Nat.le_of_ble_eq_true rfl⟩) (hPW.preV hP hS (ci := 6) rfl (by omega) mw_o) rfl rfl hl.1 rfl (lv_room (Nat.le_of_ble_eq_true rfl)) dX4_choose_68 ⟨Nat.le_of_ble_eq_true rfl, Nat.le_of_ble_eq_true rfl⟩) hS (fun r68 u68 H locs h68 hP hS => ?_)
          obtain rfl := h68
          refine lv_istore (lv' := [(6, .int (sfF s1.1 b (s1.1 18 0 jq) 8)), (5, .int (nI jq)), (4, .int (nI k)), (0, .ref (L 106)), (1, .int (nI b)), (2, .int (nI dd)), (3, .int (nI mc))]) hx hb dX4_choose_71 hl (by decide) rfl (fun ls hl => ?_)
          refine lv_iload hx hb dX4_choose_73 (lv_at hl 0 rfl) ?_
          refine lv_iconst (v := (-1)) hx hb dX4_choose_75 (by decide) ?_
          refine lv_icmp_eq (tgt := 89) hx hb dX4_choose_76 (by decide) (fun c76 => ?_) (fun c76 => ?_)
          · refine lv_aload_n hx hb dX4_choose_89 rfl (lv_at hl 3 rfl) ?_
            refine wx_get (D := g.1) (cl := vwCl) (ci := 6) (v := .ref (L 111)) (C := RX4) (T := TX4) (N := 22) hx hb hts iX4 hown hK hP (106) (by omega) mw_o rfl 10 (by decide) (hts (.fieldLink RX4 26 "FerroDeskModel" "isAsleep" "[Z") (by decide +kernel)) (fun _ h9 => h9) rfl dX4_choose_90 ?_
            refine lv_iload_n hx hb dX4_choose_93 rfl (lv_at hl 4 rfl) ?_
            refine lv_iconst (v := 1) hx hb dX4_choose_94 (by decide) ?_
            refine wx_zast (D := g.1) (cl := vwCl) (N := 6) (f := fun j9 => s1.1 14 0 j9) (w' := mw g L (st s1.1 14 0 b 1) s1.2 r0) hx hb hK hP hJ hS (111) 3 (by omega) (mw_a (by decide) (by decide)) rfl (i := (nI b)) (by exact vp_in_nI (by omega) (by decide)) (by decide) dX4_choose_95 (by rw [nI_clamp (by omega)]; exact mw_st (r := 14) rfl (by decide) (by decide) rfl rfl rfl) (fun H locs hP hS => ?_)
            obtain ⟨z96, ez96⟩ : ∃ y : Int32, y = nI k + 1 := ⟨_, rfl⟩
            refine lv_iinc (v := z96) (lv' := [(4, .int z96), (6, .int (sfF s1.1 b (s1.1 18 0 jq) 8)), (5, .int (nI jq)), (0, .ref (L 106)), (1, .int (nI b)), (2, .int (nI dd)), (3, .int (nI mc))]) hx hb dX4_choose_96 hl (k := 2) rfl (by rw [ez96]; rfl) (by decide) rfl (fun ls hl => ?_)
            refine lv_goto (tgt := 23) hx hb dX4_choose_99 (by decide) ?_
            exact ih (k + 1) _ (st s1.1 14 0 b 1, s1.2) _ _ _ (by omega) (by rw [ez96, nI_1]) (hM1.k9 (by omega)) (fun r i j h9 => (st_nr (Ne.symm h9)).trans (hq r i j h9)) (by rw [← hF, show mc - k = (mc - (k + 1)) + 1 by omega]; exact (chL_a (by rw [eN]; exact h41) (by rw [eN]; exact c55) (by rw [eN]; exact c76)).symm) hP hS (lv_sub hl [0, 3, 4, 5, 6] rfl)
          · obtain ⟨j8, hj8, ej8⟩ := (sfF_r (y := s1.1) (b := b) (p := s1.1 18 0 jq) 8).resolve_left c76
            refine lv_aload_n hx hb dX4_choose_79 rfl (lv_at hl 3 rfl) ?_
            refine lv_iload_n hx hb dX4_choose_80 rfl (lv_at hl 4 rfl) ?_
            refine lv_iload hx hb dX4_choose_81 (lv_at hl 1 rfl) ?_
            refine lv_iload hx hb dX4_choose_83 (lv_at hl 0 rfl) ?_
            rw [ej8]
            refine wx_callv (va_runV (As := [.int (nI b), .int (nI jq), .int (nI j8)]) (rest := []) ⟨hx, hb, hml, hown, hts⟩ (m_show l hst g base n L (by omega) s1.1 s1.2 r0 b (by omega) jq (by omega) j8 (by omega)) (cwV 3 hts gX4_choose_X4_show rfl rfl rfl (by decide +kernel) ⟨Nat.le_of_ble_eq_true rfl, Nat.le_of_ble_eq_true rfl⟩) (hPW.preV hP hS (ci := 6) rfl (by omega) mw_o) rfl rfl hl.1 rfl (lv_room (Nat.le_of_ble_eq_true rfl)) dX4_choose_85 ⟨Nat.le_of_ble_eq_true rfl, Nat.le_of_ble_eq_true rfl⟩) hS (fun u85 H locs h85 hP hS => ?_)
            obtain rfl := h85
            refine W.widen (k := 0) (n := 0) (Nat.le_of_ble_eq_true rfl) (Nat.le_of_ble_eq_true rfl) ?_
            exact W.vret hx hb hr (fun t ht hW => ⟨⟨shM s1 b jq j8, rfl, (by rw [← hF, show mc - k = (mc - (k + 1)) + 1 by omega, chL_t (by rw [eN]; exact h41) (by rw [eN]; exact c55) (by rw [eN]; exact c76), eN, ej8, nI_clamp (show j8 < 2 ^ 31 by omega)]), PB.mk9 hP ht⟩, hS.F ht⟩) hS.2.2 dX4_choose_88
        · refine W.widen (k := 0) (n := 0) (Nat.le_of_ble_eq_true rfl) (Nat.le_of_ble_eq_true rfl) ?_
          exact W.vret hx hb hr (fun t ht hW => ⟨⟨s1, rfl, (by rw [← hF, show mc - k = (mc - (k + 1)) + 1 by omega]; exact (chL_s (by rw [eN]; exact h41) (by rw [eN]; exact c55)).symm), PB.mk9 hP ht⟩, hS.F ht⟩) hS.2.2 dX4_choose_58
      · refine lv_if_eq (tgt := 96) hx hb dX4_choose_44 (by decide) (fun c44 => ?_) (fun c44 => absurd (by decide) c44)
        obtain ⟨z96, ez96⟩ : ∃ y : Int32, y = nI k + 1 := ⟨_, rfl⟩
        refine lv_iinc (v := z96) (lv' := [(4, .int z96), (5, .int (nI jq)), (0, .ref (L 106)), (1, .int (nI b)), (2, .int (nI dd)), (3, .int (nI mc))]) hx hb dX4_choose_96 hl (k := 1) rfl (by rw [ez96]; rfl) (by decide) rfl (fun ls hl => ?_)
        refine lv_goto (tgt := 23) hx hb dX4_choose_99 (by decide) ?_
        exact ih (k + 1) _ s1 _ _ _ (by omega) (by rw [ez96, nI_1]) hM1 hq (by rw [← hF, show mc - k = (mc - (k + 1)) + 1 by omega]; exact (chL_n (by rw [eN]; exact h41)).symm) hP hS (lv_sub hl [0, 2, 3, 4, 5] rfl)
  exact key23 mc 0 _ (st y 14 0 b 0, ch) _ _ _ (by omega) rfl (hM.k9 (by omega)) (fun _ _ _ _ => rfl) (by unfold chM; dsimp only; rw [ed, nI_clamp (show dd < 2 ^ 31 by omega), emc, nI_clamp (show mc < 2 ^ 31 by omega)]; rfl) hP hS (lv_sub hl [0, 3, 4, 2, 1] rfl)

