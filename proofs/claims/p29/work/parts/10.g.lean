/-! laid by wip/gen -/
set_option maxHeartbeats 4000000 in
set_option maxRecDepth 100000 in
theorem k_isSuspect (l : Launch) (hst : l.stackTraces = false) (g : gE) (base n : Nat) (L : Nat → Nat) (hn : 106 ≤ n) (x : St) (r0 : Nat → va_E) (nb : Nat) (hnb : nb ≤ 6) (hx0 : x 0 0 0 = nI nb) (k0 : Nat) (hk0 : k0 < 40) (p0 p1 : Int32) : Met l yX3_isSuspect wsX3_isSuspect ({ frames := 2, cells := 0, slots := 0, locals := 80 }) (va_Pc [.ref (L 0), .ref (L (26 + 2 * k0)), .int p0, .int p1] (PW SS g base n L (cw g L x r0))) (va_Qi (fun (r : Int32) (_ : Unit) => (r = 1 ∧ suP x k0 p0 p1 nb) ∨ (r = 0 ∧ ¬ (suP x k0 p0 p1 nb))) (fun (u : Unit) t => PB g n L (cw g L x r0) t) (fun q => base ≤ q)) 0 0 (fun q => base ≤ q) := by
  refine Met.ofW (cc := cX3_isSuspect) (maxL := 4) (ret := (some .boolean)) (by decide) rfl ?_
  intro p e s m args below meth c s₁ B hml hv
  obtain ⟨rfl, hPW⟩ := hv
  obtain ⟨hbs, hJ, hP, hK, hE⟩ := id hPW
  have hx := B.exec
  have hb := B.bytes
  have hr := B.returns
  have hts := atoms_spec (ws := wsX3_isSuspect) B.pre
  have hown : s.vm.findClass RX3 = some m.cls := findClass_of_methodNamed B.named
  have hlocks := B.notSynchronized
  have hS : va_S (fun q : Nat => base ≤ q) s.heap s.heap [] := va_S.rf
  have hl := lv_entry ([.ref (L 0), .ref (L (26 + 2 * k0)), .int p0, .int p1]) (n := 4) (Nat.le_of_ble_eq_true rfl)
  rw [lg_entry_eq]
  generalize (lg_sl ([.ref (L 0), .ref (L (26 + 2 * k0)), .int p0, .int p1]) ++ List.replicate (4 - (lg_sl ([.ref (L 0), .ref (L (26 + 2 * k0)), .int p0, .int p1])).length) Slot.unset).toArray = ls at hl ⊢
  have hl : lv_has ls 4 [(0, .ref (L 0)), (1, .ref (L (26 + 2 * k0))), (2, .int p0), (3, .int p1)] := hl
  refine lv_aload_n hx hb dX3_isSuspect_0 rfl (lv_at hl 0 rfl) ?_
  refine lv_aload_n hx hb dX3_isSuspect_1 rfl (lv_at hl 1 rfl) ?_
  refine lv_iload_n hx hb dX3_isSuspect_2 rfl (lv_at hl 3 rfl) ?_
  refine wx_calli (va_runV (As := [.ref (L (26 + 2 * k0)), .int p1]) (rest := []) ⟨hx, hb, hml, hown, hts⟩ (k_readersIn l hst g base n L (by omega) x r0 nb hnb hx0 k0 (by omega) p1) (cwV 2 hts gX3_isSuspect_X3_readersIn rfl rfl rfl (by decide +kernel) ⟨Nat.le_of_ble_eq_true rfl, Nat.le_of_ble_eq_true rfl⟩) (hPW.preV hP hS (ci := 5) rfl (by omega) cw_d) rfl rfl hl.1 rfl (lv_room (Nat.le_of_ble_eq_true rfl)) dX3_isSuspect_3 ⟨Nat.le_of_ble_eq_true rfl, Nat.le_of_ble_eq_true rfl⟩) hS (fun r3 u3 H locs h3 hP hS => ?_)
  obtain rfl := h3
  refine lv_if_le (tgt := 21) hx hb dX3_isSuspect_6 (by decide) (fun c6 => ?_) (fun c6 => ?_)
  · refine lv_iconst (v := 0) hx hb dX3_isSuspect_21 (by decide) ?_
    refine W.widen (k := 0) (n := 0) (Nat.le_of_ble_eq_true rfl) (Nat.le_of_ble_eq_true rfl) ?_
    exact W.zret (v := 0) hx hb hr (by decide) (fun t ht hW => ⟨⟨0, (), rfl, Or.inr ⟨rfl, fun h9 => h9.1 c6⟩, PB.mk9 hP ht⟩, hS.F ht⟩) hS.2.2 dX3_isSuspect_22
  · refine lv_aload_n hx hb dX3_isSuspect_9 rfl (lv_at hl 1 rfl) ?_
    refine lv_iload_n hx hb dX3_isSuspect_10 rfl (lv_at hl 2 rfl) ?_
    refine wx_calli (va_runV (As := [.int p0]) (rest := []) ⟨hx, hb, hml, hown, hts⟩ (k_canHaveMade l hst g base n L (by omega) x r0 k0 (by omega) p0) (cwV 1 hts gX3_isSuspect_X1_canHaveMade rfl rfl rfl (by decide +kernel) ⟨Nat.le_of_ble_eq_true rfl, Nat.le_of_ble_eq_true rfl⟩) (hPW.preV hP hS (ci := 3) rfl (by omega) (cw_n (by omega))) rfl rfl hl.1 rfl (lv_room (Nat.le_of_ble_eq_true rfl)) dX3_isSuspect_11 ⟨Nat.le_of_ble_eq_true rfl, Nat.le_of_ble_eq_true rfl⟩) hS (fun r11 u11 H locs h11 hP hS => ?_)
    rcases h11 with ⟨rfl, h11⟩ | ⟨rfl, h11⟩
    · refine lv_if_eq (tgt := 21) hx hb dX3_isSuspect_14 (by decide) (fun c14 => absurd c14 (by decide)) (fun c14 => ?_)
      refine lv_iconst (v := 1) hx hb dX3_isSuspect_17 (by decide) ?_
      refine lv_goto (tgt := 22) hx hb dX3_isSuspect_18 (by decide) ?_
      refine W.widen (k := 0) (n := 0) (Nat.le_of_ble_eq_true rfl) (Nat.le_of_ble_eq_true rfl) ?_
      exact W.zret (v := 1) hx hb hr (by decide) (fun t ht hW => ⟨⟨1, (), rfl, Or.inl ⟨rfl, c6, h11⟩, PB.mk9 hP ht⟩, hS.F ht⟩) hS.2.2 dX3_isSuspect_22
    · refine lv_if_eq (tgt := 21) hx hb dX3_isSuspect_14 (by decide) (fun c14 => ?_) (fun c14 => absurd (by decide) c14)
      refine lv_iconst (v := 0) hx hb dX3_isSuspect_21 (by decide) ?_
      refine W.widen (k := 0) (n := 0) (Nat.le_of_ble_eq_true rfl) (Nat.le_of_ble_eq_true rfl) ?_
      exact W.zret (v := 0) hx hb hr (by decide) (fun t ht hW => ⟨⟨0, (), rfl, Or.inr ⟨rfl, fun h9 => h11 h9.2⟩, PB.mk9 hP ht⟩, hS.F ht⟩) hS.2.2 dX3_isSuspect_22

set_option maxHeartbeats 4000000 in
set_option maxRecDepth 100000 in
theorem k_suspectsAhead (l : Launch) (hst : l.stackTraces = false) (g : gE) (base n : Nat) (L : Nat → Nat) (hn : 106 ≤ n) (x : St) (r0 : Nat → va_E) (nb : Nat) (hnb : nb ≤ 6) (hx0 : x 0 0 0 = nI nb) (nn : Nat) (hnn : nn ≤ 40) (hx1 : x 1 0 0 = nI nn) (k0 : Nat) (hk0 : k0 < 40) (p0 p1 : Int32) : Met l yX3_suspectsAhead wsX3_suspectsAhead ({ frames := 3, cells := 0, slots := 0, locals := 120 }) (va_Pc [.ref (L 0), .ref (L (26 + 2 * k0)), .int p0, .int p1] (PW SS g base n L (cw g L x r0))) (va_Qi (fun (r : Int32) (_ : Unit) => r = saF x k0 p0 p1 nb nn) (fun (u : Unit) t => PB g n L (cw g L x r0) t) (fun q => base ≤ q)) 0 0 (fun q => base ≤ q) := by
  refine Met.ofW (cc := cX3_suspectsAhead) (maxL := 9) (ret := (some .int)) (by decide) rfl ?_
  intro p e s m args below meth c s₁ B hml hv
  obtain ⟨rfl, hPW⟩ := hv
  obtain ⟨hbs, hJ, hP, hK, hE⟩ := id hPW
  have hx := B.exec
  have hb := B.bytes
  have hr := B.returns
  have hts := atoms_spec (ws := wsX3_suspectsAhead) B.pre
  have hown : s.vm.findClass RX3 = some m.cls := findClass_of_methodNamed B.named
  have hlocks := B.notSynchronized
  have hS : va_S (fun q : Nat => base ≤ q) s.heap s.heap [] := va_S.rf
  have hl := lv_entry ([.ref (L 0), .ref (L (26 + 2 * k0)), .int p0, .int p1]) (n := 9) (Nat.le_of_ble_eq_true rfl)
  rw [lg_entry_eq]
  generalize (lg_sl ([.ref (L 0), .ref (L (26 + 2 * k0)), .int p0, .int p1]) ++ List.replicate (9 - (lg_sl ([.ref (L 0), .ref (L (26 + 2 * k0)), .int p0, .int p1])).length) Slot.unset).toArray = ls at hl ⊢
  have hl : lv_has ls 9 [(0, .ref (L 0)), (1, .ref (L (26 + 2 * k0))), (2, .int p0), (3, .int p1)] := hl
  have iX1 : ∀ w ∈ wsX10, w ∈ wsX3_suspectsAhead := by decide +kernel
  have iX3 : ∀ w ∈ wsX30, w ∈ wsX3_suspectsAhead := by decide +kernel
  refine lv_aload_n hx hb dX3_suspectsAhead_0 rfl (lv_at hl 0 rfl) ?_
  refine lv_aload_n hx hb dX3_suspectsAhead_1 rfl (lv_at hl 1 rfl) ?_
  refine lv_iload_n hx hb dX3_suspectsAhead_2 rfl (lv_at hl 3 rfl) ?_
  refine wx_calli (va_runV (As := [.ref (L (26 + 2 * k0)), .int p1]) (rest := []) ⟨hx, hb, hml, hown, hts⟩ (k_readersIn l hst g base n L (by omega) x r0 nb hnb hx0 k0 (by omega) p1) (cwV 2 hts gX3_suspectsAhead_X3_readersIn rfl rfl rfl (by decide +kernel) ⟨Nat.le_of_ble_eq_true rfl, Nat.le_of_ble_eq_true rfl⟩) (hPW.preV hP hS (ci := 5) rfl (by omega) cw_d) rfl rfl hl.1 rfl (lv_room (Nat.le_of_ble_eq_true rfl)) dX3_suspectsAhead_3 ⟨Nat.le_of_ble_eq_true rfl, Nat.le_of_ble_eq_true rfl⟩) hS (fun r3 u3 H locs h3 hP hS => ?_)
  obtain rfl := h3
  refine lv_istore (lv' := [(4, .int (riF x k0 p1 nb)), (0, .ref (L 0)), (1, .ref (L (26 + 2 * k0))), (2, .int p0), (3, .int p1)]) hx hb dX3_suspectsAhead_6 hl (by decide) rfl (fun ls hl => ?_)
  refine lv_iconst (v := 0) hx hb dX3_suspectsAhead_8 (by decide) ?_
  refine lv_istore (lv' := [(5, .int 0), (4, .int (riF x k0 p1 nb)), (0, .ref (L 0)), (1, .ref (L (26 + 2 * k0))), (2, .int p0), (3, .int p1)]) hx hb dX3_suspectsAhead_9 hl (by decide) rfl (fun ls hl => ?_)
  refine lv_iconst (v := 0) hx hb dX3_suspectsAhead_11 (by decide) ?_
  refine lv_istore (lv' := [(6, .int 0), (5, .int 0), (4, .int (riF x k0 p1 nb)), (0, .ref (L 0)), (1, .ref (L (26 + 2 * k0))), (2, .int p0), (3, .int p1)]) hx hb dX3_suspectsAhead_12 hl (by decide) rfl (fun ls hl => ?_)
  have key14 : ∀ (d k : Nat) (z6 : Int32) (z5 : Int32) (H : Heap) (locs : List Loc) (ls : Array Slot), k + d = nn → (z6 = nI k) → (z5 = saF x k0 p0 p1 nb k) → va_P g.1 vwCl (wl n L (cw g L x r0)) H → va_S (fun q : Nat => base ≤ q) s.heap H locs → lv_has ls 9 [(6, .int z6), (5, .int z5), (0, .ref (L 0)), (1, .ref (L (26 + 2 * k0))), (2, .int p0), (3, .int p1), (4, .int (riF x k0 p1 nb))] → W p l e (headSpec wsX3_suspectsAhead ({ frames := 3, cells := 0, slots := 0, locals := 120 })).room s m ([.ref (L 0), .ref (L (26 + 2 * k0)), .int p0, .int p1] : List Value).toArray below meth c H locs (0 + 0) (0 + 0) (MQ below (va_Qi (fun (r : Int32) (_ : Unit) => r = saF x k0 p0 p1 nb nn) (fun (u : Unit) t => PB g n L (cw g L x r0) t) (fun q => base ≤ q)) ([.ref (L 0), .ref (L (26 + 2 * k0)), .int p0, .int p1] : List Value).toArray s 0 0 (fun q => base ≤ q)) (F0 m 14 ls []) := by
    intro d
    induction d with
    | zero =>
      intro k z6 z5 H locs ls hkd ek6 ek5 hP hS hl
      obtain rfl : nn = k := by omega
      subst ek6 ek5
      refine lv_iload hx hb dX3_suspectsAhead_14 (lv_at hl 0 rfl) ?_
      refine lv_aload_n hx hb dX3_suspectsAhead_16 rfl (lv_at hl 2 rfl) ?_
      refine wx_get (D := g.1) (cl := vwCl) (ci := 5) (v := .int (x 1 0 0)) (C := RX3) (T := TX3) (N := 8) hx hb hts iX3 hown hK hP (0) (by omega) cw_d rfl 4 (by decide) (hts (.fieldLink RX3 28 "FerroDesk" "noticeCount" "I") (by decide +kernel)) (fun _ h9 => h9) rfl dX3_suspectsAhead_17 ?_
      refine lv_icmp_ge (tgt := 97) hx hb dX3_suspectsAhead_20 (by decide) (fun c20 => ?_) (fun c20 => absurd (by rw [hx1]; exact nI_le (Nat.le_refl _) (by omega)) c20)
      refine lv_iload hx hb dX3_suspectsAhead_97 (lv_at hl 1 rfl) ?_
      refine W.widen (k := 0) (n := 0) (Nat.le_of_ble_eq_true rfl) (Nat.le_of_ble_eq_true rfl) ?_
      exact W.iret (v := saF x k0 p0 p1 nb nn) hx hb hr (fun t ht hW => ⟨⟨saF x k0 p0 p1 nb nn, (), rfl, rfl, PB.mk9 hP ht⟩, hS.F ht⟩) hS.2.2 dX3_suspectsAhead_99
    | succ d ih =>
      intro k z6 z5 H locs ls hkd ek6 ek5 hP hS hl
      have hkN : k < nn := by omega
      subst ek6 ek5
      refine lv_iload hx hb dX3_suspectsAhead_14 (lv_at hl 0 rfl) ?_
      refine lv_aload_n hx hb dX3_suspectsAhead_16 rfl (lv_at hl 2 rfl) ?_
      refine wx_get (D := g.1) (cl := vwCl) (ci := 5) (v := .int (x 1 0 0)) (C := RX3) (T := TX3) (N := 8) hx hb hts iX3 hown hK hP (0) (by omega) cw_d rfl 4 (by decide) (hts (.fieldLink RX3 28 "FerroDesk" "noticeCount" "I") (by decide +kernel)) (fun _ h9 => h9) rfl dX3_suspectsAhead_17 ?_
      refine lv_icmp_ge (tgt := 97) hx hb dX3_suspectsAhead_20 (by decide) (fun c20 => absurd c20 (by rw [hx1]; exact nI_ge hkN (by omega))) (fun c20 => ?_)
      refine lv_aload_n hx hb dX3_suspectsAhead_23 rfl (lv_at hl 2 rfl) ?_
      refine lv_aload_n hx hb dX3_suspectsAhead_24 rfl (lv_at hl 2 rfl) ?_
      refine wx_get (D := g.1) (cl := vwCl) (ci := 5) (v := .ref (L 2)) (C := RX3) (T := TX3) (N := 8) hx hb hts iX3 hown hK hP (0) (by omega) cw_d rfl 2 (by decide) (hts (.fieldLink RX3 21 "FerroDesk" "notices" "[LFerroDesk$Notice;") (by decide +kernel)) (fun _ h9 => h9) rfl dX3_suspectsAhead_25 ?_
      refine lv_iload hx hb dX3_suspectsAhead_28 (lv_at hl 0 rfl) ?_
      refine wx_aald (D := g.1) (cl := vwCl) (f := fun j => if j < 40 then some (L (26 + 2 * j)) else none) (a := L (26 + 2 * k)) hx hb hK hP (2) 2 (by omega) cw_2 rfl (i := nI k) (vp_in_nI (by omega) (by decide)) (by rw [nI_clamp (show k < 2 ^ 31 by omega)]; exact if_pos (by omega)) dX3_suspectsAhead_30 ?_
      refine lv_iload_n hx hb dX3_suspectsAhead_31 rfl (lv_at hl 5 rfl) ?_
      refine wx_calli (va_runV (As := [.ref (L (26 + 2 * k)), .int p1]) (rest := []) ⟨hx, hb, hml, hown, hts⟩ (k_readersIn l hst g base n L (by omega) x r0 nb hnb hx0 k (by omega) p1) (cwV 2 hts gX3_suspectsAhead_X3_readersIn rfl rfl rfl (by decide +kernel) ⟨Nat.le_of_ble_eq_true rfl, Nat.le_of_ble_eq_true rfl⟩) (hPW.preV hP hS (ci := 5) rfl (by omega) cw_d) rfl rfl hl.1 rfl (lv_room (Nat.le_of_ble_eq_true rfl)) dX3_suspectsAhead_32 ⟨Nat.le_of_ble_eq_true rfl, Nat.le_of_ble_eq_true rfl⟩) hS (fun r32 u32 H locs h32 hP hS => ?_)
      obtain rfl := h32
      refine lv_istore (lv' := [(7, .int (riF x k p1 nb)), (6, .int (nI k)), (5, .int (saF x k0 p0 p1 nb k)), (0, .ref (L 0)), (1, .ref (L (26 + 2 * k0))), (2, .int p0), (3, .int p1), (4, .int (riF x k0 p1 nb))]) hx hb dX3_suspectsAhead_35 hl (by decide) rfl (fun ls hl => ?_)
      refine lv_iload hx hb dX3_suspectsAhead_37 (lv_at hl 0 rfl) ?_
      refine lv_iload hx hb dX3_suspectsAhead_39 (lv_at hl 7 rfl) ?_
      refine lv_icmp_gt (tgt := 60) hx hb dX3_suspectsAhead_41 (by decide) (fun c41 => ?_) (fun c41 => ?_)
      · refine lv_iconst (v := 1) hx hb dX3_suspectsAhead_60 (by decide) ?_
        refine lv_goto (tgt := 65) hx hb dX3_suspectsAhead_61 (by decide) ?_
        refine lv_istore (lv' := [(8, .int 1), (7, .int (riF x k p1 nb)), (6, .int (nI k)), (5, .int (saF x k0 p0 p1 nb k)), (0, .ref (L 0)), (1, .ref (L (26 + 2 * k0))), (2, .int p0), (3, .int p1), (4, .int (riF x k0 p1 nb))]) hx hb dX3_suspectsAhead_65 hl (by decide) rfl (fun ls hl => ?_)
        refine lv_iload hx hb dX3_suspectsAhead_67 (lv_at hl 0 rfl) ?_
        refine lv_if_eq (tgt := 91) hx hb dX3_suspectsAhead_69 (by decide) (fun c69 => absurd c69 (by decide)) (fun c69 => ?_)
        refine lv_aload_n hx hb dX3_suspectsAhead_72 rfl (lv_at hl 4 rfl) ?_
        refine lv_aload_n hx hb dX3_suspectsAhead_73 rfl (lv_at hl 4 rfl) ?_
        refine wx_get (D := g.1) (cl := vwCl) (ci := 5) (v := .ref (L 2)) (C := RX3) (T := TX3) (N := 8) hx hb hts iX3 hown hK hP (0) (by omega) cw_d rfl 2 (by decide) (hts (.fieldLink RX3 21 "FerroDesk" "notices" "[LFerroDesk$Notice;") (by decide +kernel)) (fun _ h9 => h9) rfl dX3_suspectsAhead_74 ?_
        refine lv_iload hx hb dX3_suspectsAhead_77 (lv_at hl 2 rfl) ?_
        refine wx_aald (D := g.1) (cl := vwCl) (f := fun j => if j < 40 then some (L (26 + 2 * j)) else none) (a := L (26 + 2 * k)) hx hb hK hP (2) 2 (by omega) cw_2 rfl (i := nI k) (vp_in_nI (by omega) (by decide)) (by rw [nI_clamp (show k < 2 ^ 31 by omega)]; exact if_pos (by omega)) dX3_suspectsAhead_79 ?_
        refine lv_iload_n hx hb dX3_suspectsAhead_80 rfl (lv_at hl 6 rfl) ?_
        refine lv_iload_n hx hb dX3_suspectsAhead_81 rfl (lv_at hl 7 rfl) ?_
        refine wx_calli (va_runV (As := [.ref (L (26 + 2 * k)), .int p0, .int p1]) (rest := []) ⟨hx, hb, hml, hown, hts⟩ (k_isSuspect l hst g base n L (by omega) x r0 nb hnb hx0 k (by omega) p0 p1) (cwV 3 hts gX3_suspectsAhead_X3_isSuspect rfl rfl rfl (by decide +kernel) ⟨Nat.le_of_ble_eq_true rfl, Nat.le_of_ble_eq_true rfl⟩) (hPW.preV hP hS (ci := 5) rfl (by omega) cw_d) rfl rfl hl.1 rfl (lv_room (Nat.le_of_ble_eq_true rfl)) dX3_suspectsAhead_82 ⟨Nat.le_of_ble_eq_true rfl, Nat.le_of_ble_eq_true rfl⟩) hS (fun r82 u82 H locs h82 hP hS => ?_)
        rcases h82 with ⟨rfl, h82⟩ | ⟨rfl, h82⟩
        · refine lv_if_eq (tgt := 91) hx hb dX3_suspectsAhead_85 (by decide) (fun c85 => absurd c85 (by decide)) (fun c85 => ?_)
          obtain ⟨z88, ez88⟩ : ∃ y : Int32, y = saF x k0 p0 p1 nb k + 1 := ⟨_, rfl⟩
          refine lv_iinc (v := z88) (lv' := [(5, .int z88), (8, .int 1), (7, .int (riF x k p1 nb)), (6, .int (nI k)), (0, .ref (L 0)), (1, .ref (L (26 + 2 * k0))), (2, .int p0), (3, .int p1), (4, .int (riF x k0 p1 nb))]) hx hb dX3_suspectsAhead_88 hl (k := 3) rfl (by rw [ez88]; rfl) (by decide) rfl (fun ls hl => ?_)
          obtain ⟨z91, ez91⟩ : ∃ y : Int32, y = nI k + 1 := ⟨_, rfl⟩
          refine lv_iinc (v := z91) (lv' := [(6, .int z91), (5, .int z88), (8, .int 1), (7, .int (riF x k p1 nb)), (0, .ref (L 0)), (1, .ref (L (26 + 2 * k0))), (2, .int p0), (3, .int p1), (4, .int (riF x k0 p1 nb))]) hx hb dX3_suspectsAhead_91 hl (k := 3) rfl (by rw [ez91]; rfl) (by decide) rfl (fun ls hl => ?_)
          refine lv_goto (tgt := 14) hx hb dX3_suspectsAhead_94 (by decide) ?_
          exact ih (k + 1) _ _ _ _ _ (by omega) (by rw [ez91, nI_1]) (by rw [sa_t ⟨Or.inl c41, h82⟩]; simp only [ez88]) hP hS (lv_sub hl [0, 1, 4, 5, 6, 7, 8] rfl)
        · refine lv_if_eq (tgt := 91) hx hb dX3_suspectsAhead_85 (by decide) (fun c85 => ?_) (fun c85 => absurd (by decide) c85)
          obtain ⟨z91, ez91⟩ : ∃ y : Int32, y = nI k + 1 := ⟨_, rfl⟩
          refine lv_iinc (v := z91) (lv' := [(6, .int z91), (8, .int 1), (7, .int (riF x k p1 nb)), (5, .int (saF x k0 p0 p1 nb k)), (0, .ref (L 0)), (1, .ref (L (26 + 2 * k0))), (2, .int p0), (3, .int p1), (4, .int (riF x k0 p1 nb))]) hx hb dX3_suspectsAhead_91 hl (k := 2) rfl (by rw [ez91]; rfl) (by decide) rfl (fun ls hl => ?_)
          refine lv_goto (tgt := 14) hx hb dX3_suspectsAhead_94 (by decide) ?_
          exact ih (k + 1) _ _ _ _ _ (by omega) (by rw [ez91, nI_1]) ((sa_f (fun h9 => h82 h9.2)).symm) hP hS (lv_sub hl [0, 3, 4, 5, 6, 7, 8] rfl)
      · refine lv_iload hx hb dX3_suspectsAhead_44 (lv_at hl 0 rfl) ?_
        refine lv_iload hx hb dX3_suspectsAhead_46 (lv_at hl 7 rfl) ?_
        refine lv_icmp_ne (tgt := 64) hx hb dX3_suspectsAhead_48 (by decide) (fun c48 => ?_) (fun c48 => ?_)
        · refine lv_iconst (v := 0) hx hb dX3_suspectsAhead_64 (by decide) ?_
          refine lv_istore (lv' := [(8, .int 0), (7, .int (riF x k p1 nb)), (6, .int (nI k)), (5, .int (saF x k0 p0 p1 nb k)), (0, .ref (L 0)), (1, .ref (L (26 + 2 * k0))), (2, .int p0), (3, .int p1), (4, .int (riF x k0 p1 nb))]) hx hb dX3_suspectsAhead_65 hl (by decide) rfl (fun ls hl => ?_)
          refine lv_iload hx hb dX3_suspectsAhead_67 (lv_at hl 0 rfl) ?_
          refine lv_if_eq (tgt := 91) hx hb dX3_suspectsAhead_69 (by decide) (fun c69 => ?_) (fun c69 => absurd (by decide) c69)
          obtain ⟨z91, ez91⟩ : ∃ y : Int32, y = nI k + 1 := ⟨_, rfl⟩
          refine lv_iinc (v := z91) (lv' := [(6, .int z91), (8, .int 0), (7, .int (riF x k p1 nb)), (5, .int (saF x k0 p0 p1 nb k)), (0, .ref (L 0)), (1, .ref (L (26 + 2 * k0))), (2, .int p0), (3, .int p1), (4, .int (riF x k0 p1 nb))]) hx hb dX3_suspectsAhead_91 hl (k := 2) rfl (by rw [ez91]; rfl) (by decide) rfl (fun ls hl => ?_)
          refine lv_goto (tgt := 14) hx hb dX3_suspectsAhead_94 (by decide) ?_
          exact ih (k + 1) _ _ _ _ _ (by omega) (by rw [ez91, nI_1]) ((sa_f (fun h9 => h9.1.elim c41 (fun h8 => c48 h8.1))).symm) hP hS (lv_sub hl [0, 3, 4, 5, 6, 7, 8] rfl)
        · refine lv_iload hx hb dX3_suspectsAhead_51 (lv_at hl 1 rfl) ?_
          refine lv_aload_n hx hb dX3_suspectsAhead_53 rfl (lv_at hl 4 rfl) ?_
          refine wx_getN (D := g.1) (cl := vwCl) (ci := 3) (v := .int (nI k0)) (C := RX1) (T := TX1) (N := 9) hx hb hts iX1 hown hK hP (26 + 2 * k0) (by omega) (cw_n (by omega)) rfl 0 (by decide) (hE.1 _ (ng_in (w := (Cond.fieldLinkNest "FerroDesk" 94 "FerroDesk$Notice" "number" "I" "FerroDesk")) (by decide +kernel))) (fun _ h9 => h9) rfl dX3_suspectsAhead_54 ?_
          refine lv_icmp_ge (tgt := 64) hx hb dX3_suspectsAhead_57 (by decide) (fun c57 => ?_) (fun c57 => ?_)
          · refine lv_iconst (v := 0) hx hb dX3_suspectsAhead_64 (by decide) ?_
            refine lv_istore (lv' := [(8, .int 0), (7, .int (riF x k p1 nb)), (6, .int (nI k)), (5, .int (saF x k0 p0 p1 nb k)), (0, .ref (L 0)), (1, .ref (L (26 + 2 * k0))), (2, .int p0), (3, .int p1), (4, .int (riF x k0 p1 nb))]) hx hb dX3_suspectsAhead_65 hl (by decide) rfl (fun ls hl => ?_)
            refine lv_iload hx hb dX3_suspectsAhead_67 (lv_at hl 0 rfl) ?_
            refine lv_if_eq (tgt := 91) hx hb dX3_suspectsAhead_69 (by decide) (fun c69 => ?_) (fun c69 => absurd (by decide) c69)
            obtain ⟨z91, ez91⟩ : ∃ y : Int32, y = nI k + 1 := ⟨_, rfl⟩
            refine lv_iinc (v := z91) (lv' := [(6, .int z91), (8, .int 0), (7, .int (riF x k p1 nb)), (5, .int (saF x k0 p0 p1 nb k)), (0, .ref (L 0)), (1, .ref (L (26 + 2 * k0))), (2, .int p0), (3, .int p1), (4, .int (riF x k0 p1 nb))]) hx hb dX3_suspectsAhead_91 hl (k := 2) rfl (by rw [ez91]; rfl) (by decide) rfl (fun ls hl => ?_)
            refine lv_goto (tgt := 14) hx hb dX3_suspectsAhead_94 (by decide) ?_
            exact ih (k + 1) _ _ _ _ _ (by omega) (by rw [ez91, nI_1]) ((sa_f (fun h9 => h9.1.elim c41 (fun h8 => h8.2 c57))).symm) hP hS (lv_sub hl [0, 3, 4, 5, 6, 7, 8] rfl)
          · refine lv_iconst (v := 1) hx hb dX3_suspectsAhead_60 (by decide) ?_
            refine lv_goto (tgt := 65) hx hb dX3_suspectsAhead_61 (by decide) ?_
            refine lv_istore (lv' := [(8, .int 1), (7, .int (riF x k p1 nb)), (6, .int (nI k)), (5, .int (saF x k0 p0 p1 nb k)), (0, .ref (L 0)), (1, .ref (L (26 + 2 * k0))), (2, .int p0), (3, .int p1), (4, .int (riF x k0 p1 nb))]) hx hb dX3_suspectsAhead_65 hl (by decide) rfl (fun ls hl => ?_)
            refine lv_iload hx hb dX3_suspectsAhead_67 (lv_at hl 0 rfl) ?_
            refine lv_if_eq (tgt := 91) hx hb dX3_suspectsAhead_69 (by decide) (fun c69 => absurd c69 (by decide)) (fun c69 => ?_)
            refine lv_aload_n hx hb dX3_suspectsAhead_72 rfl (lv_at hl 4 rfl) ?_
            refine lv_aload_n hx hb dX3_suspectsAhead_73 rfl (lv_at hl 4 rfl) ?_
            refine wx_get (D := g.1) (cl := vwCl) (ci := 5) (v := .ref (L 2)) (C := RX3) (T := TX3) (N := 8) hx hb hts iX3 hown hK hP (0) (by omega) cw_d rfl 2 (by decide) (hts (.fieldLink RX3 21 "FerroDesk" "notices" "[LFerroDesk$Notice;") (by decide +kernel)) (fun _ h9 => h9) rfl dX3_suspectsAhead_74 ?_
            refine lv_iload hx hb dX3_suspectsAhead_77 (lv_at hl 2 rfl) ?_
            refine wx_aald (D := g.1) (cl := vwCl) (f := fun j => if j < 40 then some (L (26 + 2 * j)) else none) (a := L (26 + 2 * k)) hx hb hK hP (2) 2 (by omega) cw_2 rfl (i := nI k) (vp_in_nI (by omega) (by decide)) (by rw [nI_clamp (show k < 2 ^ 31 by omega)]; exact if_pos (by omega)) dX3_suspectsAhead_79 ?_
            refine lv_iload_n hx hb dX3_suspectsAhead_80 rfl (lv_at hl 6 rfl) ?_
            refine lv_iload_n hx hb dX3_suspectsAhead_81 rfl (lv_at hl 7 rfl) ?_
            refine wx_calli (va_runV (As := [.ref (L (26 + 2 * k)), .int p0, .int p1]) (rest := []) ⟨hx, hb, hml, hown, hts⟩ (k_isSuspect l hst g base n L (by omega) x r0 nb hnb hx0 k (by omega) p0 p1) (cwV 3 hts gX3_suspectsAhead_X3_isSuspect rfl rfl rfl (by decide +kernel) ⟨Nat.le_of_ble_eq_true rfl, Nat.le_of_ble_eq_true rfl⟩) (hPW.preV hP hS (ci := 5) rfl (by omega) cw_d) rfl rfl hl.1 rfl (lv_room (Nat.le_of_ble_eq_true rfl)) dX3_suspectsAhead_82 ⟨Nat.le_of_ble_eq_true rfl, Nat.le_of_ble_eq_true rfl⟩) hS (fun r82 u82 H locs h82 hP hS => ?_)
            rcases h82 with ⟨rfl, h82⟩ | ⟨rfl, h82⟩
            · refine lv_if_eq (tgt := 91) hx hb dX3_suspectsAhead_85 (by decide) (fun c85 => absurd c85 (by decide)) (fun c85 => ?_)
              obtain ⟨z88, ez88⟩ : ∃ y : Int32, y = saF x k0 p0 p1 nb k + 1 := ⟨_, rfl⟩
              refine lv_iinc (v := z88) (lv' := [(5, .int z88), (8, .int 1), (7, .int (riF x k p1 nb)), (6, .int (nI k)), (0, .ref (L 0)), (1, .ref (L (26 + 2 * k0))), (2, .int p0), (3, .int p1), (4, .int (riF x k0 p1 nb))]) hx hb dX3_suspectsAhead_88 hl (k := 3) rfl (by rw [ez88]; rfl) (by decide) rfl (fun ls hl => ?_)
              obtain ⟨z91, ez91⟩ : ∃ y : Int32, y = nI k + 1 := ⟨_, rfl⟩
              refine lv_iinc (v := z91) (lv' := [(6, .int z91), (5, .int z88), (8, .int 1), (7, .int (riF x k p1 nb)), (0, .ref (L 0)), (1, .ref (L (26 + 2 * k0))), (2, .int p0), (3, .int p1), (4, .int (riF x k0 p1 nb))]) hx hb dX3_suspectsAhead_91 hl (k := 3) rfl (by rw [ez91]; rfl) (by decide) rfl (fun ls hl => ?_)
              refine lv_goto (tgt := 14) hx hb dX3_suspectsAhead_94 (by decide) ?_
              exact ih (k + 1) _ _ _ _ _ (by omega) (by rw [ez91, nI_1]) (by rw [sa_t ⟨Or.inr ⟨c48, c57⟩, h82⟩]; simp only [ez88]) hP hS (lv_sub hl [0, 1, 4, 5, 6, 7, 8] rfl)
            · refine lv_if_eq (tgt := 91) hx hb dX3_suspectsAhead_85 (by decide) (fun c85 => ?_) (fun c85 => absurd (by decide) c85)
              obtain ⟨z91, ez91⟩ : ∃ y : Int32, y = nI k + 1 := ⟨_, rfl⟩
              refine lv_iinc (v := z91) (lv' := [(6, .int z91), (8, .int 1), (7, .int (riF x k p1 nb)), (5, .int (saF x k0 p0 p1 nb k)), (0, .ref (L 0)), (1, .ref (L (26 + 2 * k0))), (2, .int p0), (3, .int p1), (4, .int (riF x k0 p1 nb))]) hx hb dX3_suspectsAhead_91 hl (k := 2) rfl (by rw [ez91]; rfl) (by decide) rfl (fun ls hl => ?_)
              refine lv_goto (tgt := 14) hx hb dX3_suspectsAhead_94 (by decide) ?_
              exact ih (k + 1) _ _ _ _ _ (by omega) (by rw [ez91, nI_1]) ((sa_f (fun h9 => h82 h9.2)).symm) hP hS (lv_sub hl [0, 3, 4, 5, 6, 7, 8] rfl)
  exact key14 nn 0 _ _ _ _ _ (by omega) rfl rfl hP hS (lv_sub hl [0, 1, 3, 4, 5, 6, 2] rfl)

set_option maxHeartbeats 4000000 in
set_option maxRecDepth 100000 in
theorem k_queueWhereRead (l : Launch) (hst : l.stackTraces = false) (g : gE) (base n : Nat) (L : Nat → Nat) (hn : 106 ≤ n) (x : St) (r0 : Nat → va_E) (nb : Nat) (hnb : nb ≤ 6) (hx0 : x 0 0 0 = nI nb) (k1 : Nat) (hk1 : k1 < 40) (k0 : Nat) (hk0 : k0 < 40) : Met l yX3_queueWhereRead wsX3_queueWhereRead ({ frames := 2, cells := 0, slots := 0, locals := 90 }) (va_Pc [.ref (L 0), .ref (L (26 + 2 * k1)), .ref (L (26 + 2 * k0))] (PW SS g base n L (cw g L x r0))) (va_Qv (fun (u : St) => u = qwF x k1 k0 nb 4) (fun (u : St) t => PB g n L (cw g L u r0) t) (fun q => base ≤ q)) 0 0 (fun q => base ≤ q) := by
  refine Met.ofW (cc := cX3_queueWhereRead) (maxL := 4) (ret := none) (by decide) rfl ?_
  intro p e s m args below meth c s₁ B hml hv
  obtain ⟨rfl, hPW⟩ := hv
  obtain ⟨hbs, hJ, hP, hK, hE⟩ := id hPW
  have hx := B.exec
  have hb := B.bytes
  have hr := B.returns
  have hts := atoms_spec (ws := wsX3_queueWhereRead) B.pre
  have hown : s.vm.findClass RX3 = some m.cls := findClass_of_methodNamed B.named
  have hlocks := B.notSynchronized
  have hS : va_S (fun q : Nat => base ≤ q) s.heap s.heap [] := va_S.rf
  have hl := lv_entry ([.ref (L 0), .ref (L (26 + 2 * k1)), .ref (L (26 + 2 * k0))]) (n := 4) (Nat.le_of_ble_eq_true rfl)
  rw [lg_entry_eq]
  generalize (lg_sl ([.ref (L 0), .ref (L (26 + 2 * k1)), .ref (L (26 + 2 * k0))]) ++ List.replicate (4 - (lg_sl ([.ref (L 0), .ref (L (26 + 2 * k1)), .ref (L (26 + 2 * k0))])).length) Slot.unset).toArray = ls at hl ⊢
  have hl : lv_has ls 4 [(0, .ref (L 0)), (1, .ref (L (26 + 2 * k1))), (2, .ref (L (26 + 2 * k0)))] := hl
  have iX3 : ∀ w ∈ wsX30, w ∈ wsX3_queueWhereRead := by decide +kernel
  refine lv_iconst (v := 0) hx hb dX3_queueWhereRead_0 (by decide) ?_
  refine lv_istore_n (lv' := [(3, .int 0), (0, .ref (L 0)), (1, .ref (L (26 + 2 * k1))), (2, .ref (L (26 + 2 * k0)))]) hx hb dX3_queueWhereRead_1 rfl hl (by decide) rfl (fun ls hl => ?_)
  have key2 : ∀ (d k : Nat) (z3 : Int32) (x1 : St) (H : Heap) (locs : List Loc) (ls : Array Slot), k + d = 4 → (z3 = nI k) → (x1 = qwF x k1 k0 nb k) → va_P g.1 vwCl (wl n L (cw g L x1 r0)) H → va_S (fun q : Nat => base ≤ q) s.heap H locs → lv_has ls 4 [(3, .int z3), (0, .ref (L 0)), (1, .ref (L (26 + 2 * k1))), (2, .ref (L (26 + 2 * k0)))] → W p l e (headSpec wsX3_queueWhereRead ({ frames := 2, cells := 0, slots := 0, locals := 90 })).room s m ([.ref (L 0), .ref (L (26 + 2 * k1)), .ref (L (26 + 2 * k0))] : List Value).toArray below meth c H locs 0 0 (MQ below (va_Qv (fun (u : St) => u = qwF x k1 k0 nb 4) (fun (u : St) t => PB g n L (cw g L u r0) t) (fun q => base ≤ q)) ([.ref (L 0), .ref (L (26 + 2 * k1)), .ref (L (26 + 2 * k0))] : List Value).toArray s 0 0 (fun q => base ≤ q)) (F0 m 2 ls []) := by
    intro d
    induction d with
    | zero =>
      intro k z3 x1 H locs ls hkd ek3 es1 hP hS hl
      obtain rfl : k = 4 := by omega
      subst ek3 es1
      refine lv_iload_n hx hb dX3_queueWhereRead_2 rfl (lv_at hl 0 rfl) ?_
      refine lv_iconst (v := 4) hx hb dX3_queueWhereRead_3 (by decide) ?_
      refine lv_icmp_ge (tgt := 39) hx hb dX3_queueWhereRead_4 (by decide) (fun c4 => ?_) (fun c4 => absurd (by decide) c4)
      refine W.widen (k := 0) (n := 0) (Nat.le_of_ble_eq_true rfl) (Nat.le_of_ble_eq_true rfl) ?_
      exact W.vret hx hb hr (fun t ht hW => ⟨⟨(qwF x k1 k0 nb 4), rfl, rfl, PB.mk9 hP ht⟩, hS.F ht⟩) hS.2.2 dX3_queueWhereRead_39
    | succ d ih =>
      intro k z3 x1 H locs ls hkd ek3 es1 hP hS hl
      have hkN : k < 4 := by omega
      subst ek3 es1
      refine lv_iload_n hx hb dX3_queueWhereRead_2 rfl (lv_at hl 0 rfl) ?_
      refine lv_iconst (v := 4) hx hb dX3_queueWhereRead_3 (by decide) ?_
      refine lv_icmp_ge (tgt := 39) hx hb dX3_queueWhereRead_4 (by decide) (fun c4 => absurd c4 (nI_ge (b := 4) hkN (by decide))) (fun c4 => ?_)
      refine lv_aload_n hx hb dX3_queueWhereRead_7 rfl (lv_at hl 3 rfl) ?_
      refine lv_iload_n hx hb dX3_queueWhereRead_8 rfl (lv_at hl 0 rfl) ?_
      refine lv_aload_n hx hb dX3_queueWhereRead_9 rfl (lv_at hl 1 rfl) ?_
      refine wx_get (D := g.1) (cl := vwCl) (ci := 5) (v := .int ((qwF x k1 k0 nb k) 3 0 0)) (C := RX3) (T := TX3) (N := 8) hx hb hts iX3 hown hK hP (0) (by omega) cw_d rfl 7 (by decide) (hts (.fieldLink RX3 41 "FerroDesk" "hour" "I") (by decide +kernel)) (fun _ h9 => h9) rfl dX3_queueWhereRead_10 ?_
      refine wx_calli (va_runV (As := [.int (nI k), .int ((qwF x k1 k0 nb k) 3 0 0)]) (rest := []) ⟨hx, hb, hml, hown, hts⟩ (k_isQueuedIn l hst g base n L (by omega) (qwF x k1 k0 nb k) r0 k0 (by omega) (nI k) ((qwF x k1 k0 nb k) 3 0 0)) (cwV 2 hts gX3_queueWhereRead_X1_isQueuedIn rfl rfl rfl (by decide +kernel) ⟨Nat.le_of_ble_eq_true rfl, Nat.le_of_ble_eq_true rfl⟩) (hPW.preV hP hS (ci := 3) rfl (by omega) (cw_n (by omega))) rfl rfl hl.1 rfl (lv_room (Nat.le_of_ble_eq_true rfl)) dX3_queueWhereRead_13 ⟨Nat.le_of_ble_eq_true rfl, Nat.le_of_ble_eq_true rfl⟩) hS (fun r13 u13 H locs h13 hP hS => ?_)
      rcases h13 with ⟨rfl, h13⟩ | ⟨rfl, h13⟩
      · refine lv_if_eq (tgt := 33) hx hb dX3_queueWhereRead_16 (by decide) (fun c16 => absurd c16 (by decide)) (fun c16 => ?_)
        refine lv_aload_n hx hb dX3_queueWhereRead_19 rfl (lv_at hl 1 rfl) ?_
        refine lv_aload_n hx hb dX3_queueWhereRead_20 rfl (lv_at hl 3 rfl) ?_
        refine lv_iload_n hx hb dX3_queueWhereRead_21 rfl (lv_at hl 0 rfl) ?_
        refine wx_calli (va_runV (As := [.ref (L (26 + 2 * k0)), .int (nI k)]) (rest := []) ⟨hx, hb, hml, hown, hts⟩ (k_readersIn l hst g base n L (by omega) (qwF x k1 k0 nb k) r0 nb hnb (qw_0.trans hx0) k0 (by omega) (nI k)) (cwV 2 hts gX3_queueWhereRead_X3_readersIn rfl rfl rfl (by decide +kernel) ⟨Nat.le_of_ble_eq_true rfl, Nat.le_of_ble_eq_true rfl⟩) (hPW.preV hP hS (ci := 5) rfl (by omega) cw_d) rfl rfl hl.1 rfl (lv_room (Nat.le_of_ble_eq_true rfl)) dX3_queueWhereRead_22 ⟨Nat.le_of_ble_eq_true rfl, Nat.le_of_ble_eq_true rfl⟩) hS (fun r22 u22 H locs h22 hP hS => ?_)
        obtain rfl := h22
        refine lv_if_le (tgt := 33) hx hb dX3_queueWhereRead_25 (by decide) (fun c25 => ?_) (fun c25 => ?_)
        · obtain ⟨z33, ez33⟩ : ∃ y : Int32, y = nI k + 1 := ⟨_, rfl⟩
          refine lv_iinc (v := z33) (lv' := [(3, .int z33), (0, .ref (L 0)), (1, .ref (L (26 + 2 * k1))), (2, .ref (L (26 + 2 * k0)))]) hx hb dX3_queueWhereRead_33 hl (k := 0) rfl (by rw [ez33]; rfl) (by decide) rfl (fun ls hl => ?_)
          refine lv_goto (tgt := 2) hx hb dX3_queueWhereRead_36 (by decide) ?_
          exact ih (k + 1) _ _ _ _ _ (by omega) (by rw [ez33, nI_1]) (qw_f (fun h9 => h9.2 c25)) hP hS (lv_sub hl [0, 1, 2, 3] rfl)
        · refine lv_aload_n hx hb dX3_queueWhereRead_28 rfl (lv_at hl 2 rfl) ?_
          refine lv_iload_n hx hb dX3_queueWhereRead_29 rfl (lv_at hl 0 rfl) ?_
          refine wx_callv (va_runV (As := [.int (nI k)]) (rest := []) ⟨hx, hb, hml, hown, hts⟩ (k_putInto l hst g base n L (by omega) (qwF x k1 k0 nb k) r0 k1 (by omega) (nI k)) (cwV 1 hts gX3_queueWhereRead_X1_putInto rfl rfl rfl (by decide +kernel) ⟨Nat.le_of_ble_eq_true rfl, Nat.le_of_ble_eq_true rfl⟩) (hPW.preV hP hS (ci := 3) rfl (by omega) (cw_n (by omega))) rfl rfl hl.1 rfl (lv_room (Nat.le_of_ble_eq_true rfl)) dX3_queueWhereRead_30 ⟨Nat.le_of_ble_eq_true rfl, Nat.le_of_ble_eq_true rfl⟩) hS (fun u30 H locs h30 hP hS => ?_)
          obtain rfl := h30
          obtain ⟨z33, ez33⟩ : ∃ y : Int32, y = nI k + 1 := ⟨_, rfl⟩
          refine lv_iinc (v := z33) (lv' := [(3, .int z33), (0, .ref (L 0)), (1, .ref (L (26 + 2 * k1))), (2, .ref (L (26 + 2 * k0)))]) hx hb dX3_queueWhereRead_33 hl (k := 0) rfl (by rw [ez33]; rfl) (by decide) rfl (fun ls hl => ?_)
          refine lv_goto (tgt := 2) hx hb dX3_queueWhereRead_36 (by decide) ?_
          exact ih (k + 1) _ _ _ _ _ (by omega) (by rw [ez33, nI_1]) (qw_t ⟨h13, c25⟩) hP hS (lv_sub hl [0, 1, 2, 3] rfl)
      · refine lv_if_eq (tgt := 33) hx hb dX3_queueWhereRead_16 (by decide) (fun c16 => ?_) (fun c16 => absurd (by decide) c16)
        obtain ⟨z33, ez33⟩ : ∃ y : Int32, y = nI k + 1 := ⟨_, rfl⟩
        refine lv_iinc (v := z33) (lv' := [(3, .int z33), (0, .ref (L 0)), (1, .ref (L (26 + 2 * k1))), (2, .ref (L (26 + 2 * k0)))]) hx hb dX3_queueWhereRead_33 hl (k := 0) rfl (by rw [ez33]; rfl) (by decide) rfl (fun ls hl => ?_)
        refine lv_goto (tgt := 2) hx hb dX3_queueWhereRead_36 (by decide) ?_
        exact ih (k + 1) _ _ _ _ _ (by omega) (by rw [ez33, nI_1]) (qw_f (fun h9 => h13 h9.1)) hP hS (lv_sub hl [0, 1, 2, 3] rfl)
  exact key2 4 0 _ _ _ _ _ (by omega) rfl rfl hP hS (lv_sub hl [0, 1, 2, 3] rfl)

set_option maxHeartbeats 4000000 in
set_option maxRecDepth 100000 in
theorem k_cellAt (l : Launch) (hst : l.stackTraces = false) (g : gE) (base n : Nat) (L : Nat → Nat) (w0 : Nat → va_E) (p0 p1 : Int32) : vx_Met l yX3_cellAt wsX3_cellAt ({ frames := 6, cells := 1, slots := 6, locals := 100 }) (va_Pc [.int p0, .int p1] (PW SS g base n L (w0))) (va_Qi (fun (r : Int32) (_ : Unit) => (0 ≤ p0.toInt ∧ p0.toInt < 8 ∧ 0 ≤ p1.toInt ∧ p1.toInt < 4) ∧ r = 8 * p1 + p0) (fun (u : Unit) t => PB g n L (w0) t) (fun q => base ≤ q)) (QX g base n L (w0) (fun E => E = "java/lang/IndexOutOfBoundsException" ∧ ¬ (0 ≤ p0.toInt ∧ p0.toInt < 8 ∧ 0 ≤ p1.toInt ∧ p1.toInt < 4))) 1 6 (fun q => base ≤ q) := by
  refine vx_ofW (cc := cX3_cellAt) (maxL := 2) (ret := (some .int)) (by decide) rfl ?_
  intro p e s m args below meth c s₁ B hml hno hv
  obtain ⟨rfl, hPW⟩ := hv
  obtain ⟨hbs, hJ, hP, hK, hE⟩ := id hPW
  have hx := B.exec
  have hb := B.bytes
  have hr := B.returns
  have hts := atoms_spec (ws := wsX3_cellAt) B.pre
  have hown : s.vm.findClass RX3 = some m.cls := findClass_of_methodNamed B.named
  have hlocks := B.notSynchronized
  have hS : va_S (fun q : Nat => base ≤ q) s.heap s.heap [] := va_S.rf
  have hl := lv_entry ([.int p0, .int p1]) (n := 2) (Nat.le_of_ble_eq_true rfl)
  rw [lg_entry_eq]
  generalize (lg_sl ([.int p0, .int p1]) ++ List.replicate (2 - (lg_sl ([.int p0, .int p1])).length) Slot.unset).toArray = ls at hl ⊢
  have hl : lv_has ls 2 [(0, .int p0), (1, .int p1)] := hl
  refine lv_iload_n hx hb dX3_cellAt_0 rfl (lv_at hl 0 rfl) ?_
  refine lv_if_lt (tgt := 19) hx hb dX3_cellAt_1 (by decide) (fun c1 => ?_) (fun c1 => ?_)
  · exact wx_throwS (ik := 180) (is := 255) (ic := 184) (own := RX3) (cls := "java/lang/IndexOutOfBoundsException") (text := "there is no such cell") (names := ["java/lang/RuntimeException", "java/lang/Exception"]) hx hb hst hPW hown (by decide +kernel) (by decide +kernel) (hts (.classLink RX3 180 "java/lang/IndexOutOfBoundsException") (by decide +kernel)) (hts (.initialized "java/lang/IndexOutOfBoundsException") (by decide +kernel)) (by decide +kernel) (fun w hw => hts w (List.mem_cons_of_mem _ (List.mem_append_right _ hw))) (by decide +kernel) (by decide +kernel) hP hS (hl.1.trans hml.symm) dX3_cellAt_19 dX3_cellAt_22 dX3_cellAt_23 dX3_cellAt_25 dX3_cellAt_28 hno (Nat.lt_of_lt_of_le (Nat.lt_succ_self _) (Nat.le_of_ble_eq_true rfl)) (Nat.le_of_ble_eq_true rfl) (Nat.le_of_ble_eq_true rfl) (Nat.le_of_ble_eq_true rfl) hlocks (⟨rfl, (by revert c1; (try simp only [Int32.lt_iff_toInt_lt, Int32.le_iff_toInt_le, ← Int32.toInt_inj, i_0, i_1, i_2, i_3, i_4, i_6, i_9, i_20, i_32, i_40, i_48, i_60, i_200, i_999, i_2000, i_m1, i_8]); omega)⟩) (Nat.le_of_ble_eq_true rfl) (Nat.le_of_ble_eq_true rfl)
  · refine lv_iload_n hx hb dX3_cellAt_4 rfl (lv_at hl 0 rfl) ?_
    refine lv_bipush (v := 8) hx hb dX3_cellAt_5 (by decide) ?_
    refine lv_icmp_ge (tgt := 19) hx hb dX3_cellAt_7 (by decide) (fun c7 => ?_) (fun c7 => ?_)
    · exact wx_throwS (ik := 180) (is := 255) (ic := 184) (own := RX3) (cls := "java/lang/IndexOutOfBoundsException") (text := "there is no such cell") (names := ["java/lang/RuntimeException", "java/lang/Exception"]) hx hb hst hPW hown (by decide +kernel) (by decide +kernel) (hts (.classLink RX3 180 "java/lang/IndexOutOfBoundsException") (by decide +kernel)) (hts (.initialized "java/lang/IndexOutOfBoundsException") (by decide +kernel)) (by decide +kernel) (fun w hw => hts w (List.mem_cons_of_mem _ (List.mem_append_right _ hw))) (by decide +kernel) (by decide +kernel) hP hS (hl.1.trans hml.symm) dX3_cellAt_19 dX3_cellAt_22 dX3_cellAt_23 dX3_cellAt_25 dX3_cellAt_28 hno (Nat.lt_of_lt_of_le (Nat.lt_succ_self _) (Nat.le_of_ble_eq_true rfl)) (Nat.le_of_ble_eq_true rfl) (Nat.le_of_ble_eq_true rfl) (Nat.le_of_ble_eq_true rfl) hlocks (⟨rfl, (by revert c1 c7; (try simp only [Int32.lt_iff_toInt_lt, Int32.le_iff_toInt_le, ← Int32.toInt_inj, i_0, i_1, i_2, i_3, i_4, i_6, i_9, i_20, i_32, i_40, i_48, i_60, i_200, i_999, i_2000, i_m1, i_8]); omega)⟩) (Nat.le_of_ble_eq_true rfl) (Nat.le_of_ble_eq_true rfl)
    · refine lv_iload_n hx hb dX3_cellAt_10 rfl (lv_at hl 1 rfl) ?_
      refine lv_if_lt (tgt := 19) hx hb dX3_cellAt_11 (by decide) (fun c11 => ?_) (fun c11 => ?_)
      · exact wx_throwS (ik := 180) (is := 255) (ic := 184) (own := RX3) (cls := "java/lang/IndexOutOfBoundsException") (text := "there is no such cell") (names := ["java/lang/RuntimeException", "java/lang/Exception"]) hx hb hst hPW hown (by decide +kernel) (by decide +kernel) (hts (.classLink RX3 180 "java/lang/IndexOutOfBoundsException") (by decide +kernel)) (hts (.initialized "java/lang/IndexOutOfBoundsException") (by decide +kernel)) (by decide +kernel) (fun w hw => hts w (List.mem_cons_of_mem _ (List.mem_append_right _ hw))) (by decide +kernel) (by decide +kernel) hP hS (hl.1.trans hml.symm) dX3_cellAt_19 dX3_cellAt_22 dX3_cellAt_23 dX3_cellAt_25 dX3_cellAt_28 hno (Nat.lt_of_lt_of_le (Nat.lt_succ_self _) (Nat.le_of_ble_eq_true rfl)) (Nat.le_of_ble_eq_true rfl) (Nat.le_of_ble_eq_true rfl) (Nat.le_of_ble_eq_true rfl) hlocks (⟨rfl, (by revert c1 c7 c11; (try simp only [Int32.lt_iff_toInt_lt, Int32.le_iff_toInt_le, ← Int32.toInt_inj, i_0, i_1, i_2, i_3, i_4, i_6, i_9, i_20, i_32, i_40, i_48, i_60, i_200, i_999, i_2000, i_m1, i_8]); omega)⟩) (Nat.le_of_ble_eq_true rfl) (Nat.le_of_ble_eq_true rfl)
      · refine lv_iload_n hx hb dX3_cellAt_14 rfl (lv_at hl 1 rfl) ?_
        refine lv_iconst (v := 4) hx hb dX3_cellAt_15 (by decide) ?_
        refine lv_icmp_lt (tgt := 29) hx hb dX3_cellAt_16 (by decide) (fun c16 => ?_) (fun c16 => ?_)
        · refine lv_bipush (v := 8) hx hb dX3_cellAt_29 (by decide) ?_
          refine lv_iload_n hx hb dX3_cellAt_31 rfl (lv_at hl 1 rfl) ?_
          refine lv_imul hx hb dX3_cellAt_32 ?_
          refine lv_iload_n hx hb dX3_cellAt_33 rfl (lv_at hl 0 rfl) ?_
          refine lv_iadd hx hb dX3_cellAt_34 ?_
          refine W.widen (k := 1) (n := 6) (Nat.le_of_ble_eq_true rfl) (Nat.le_of_ble_eq_true rfl) ?_
          exact vx_ret (W.iret (v := (8 * p1) + p0) hx hb hr (fun t ht hW => ⟨⟨(8 * p1) + p0, (), rfl, ⟨(by revert c1 c7 c11 c16; (try simp only [Int32.lt_iff_toInt_lt, Int32.le_iff_toInt_le, ← Int32.toInt_inj, i_0, i_1, i_2, i_3, i_4, i_6, i_9, i_20, i_32, i_40, i_48, i_60, i_200, i_999, i_2000, i_m1, i_8]); omega), rfl⟩, PB.mk9 hP ht⟩, hS.F ht⟩) hS.2.2 dX3_cellAt_35)
        · exact wx_throwS (ik := 180) (is := 255) (ic := 184) (own := RX3) (cls := "java/lang/IndexOutOfBoundsException") (text := "there is no such cell") (names := ["java/lang/RuntimeException", "java/lang/Exception"]) hx hb hst hPW hown (by decide +kernel) (by decide +kernel) (hts (.classLink RX3 180 "java/lang/IndexOutOfBoundsException") (by decide +kernel)) (hts (.initialized "java/lang/IndexOutOfBoundsException") (by decide +kernel)) (by decide +kernel) (fun w hw => hts w (List.mem_cons_of_mem _ (List.mem_append_right _ hw))) (by decide +kernel) (by decide +kernel) hP hS (hl.1.trans hml.symm) dX3_cellAt_19 dX3_cellAt_22 dX3_cellAt_23 dX3_cellAt_25 dX3_cellAt_28 hno (Nat.lt_of_lt_of_le (Nat.lt_succ_self _) (Nat.le_of_ble_eq_true rfl)) (Nat.le_of_ble_eq_true rfl) (Nat.le_of_ble_eq_true rfl) (Nat.le_of_ble_eq_true rfl) hlocks (⟨rfl, (by revert c1 c7 c11 c16; (try simp only [Int32.lt_iff_toInt_lt, Int32.le_iff_toInt_le, ← Int32.toInt_inj, i_0, i_1, i_2, i_3, i_4, i_6, i_9, i_20, i_32, i_40, i_48, i_60, i_200, i_999, i_2000, i_m1, i_8]); omega)⟩) (Nat.le_of_ble_eq_true rfl) (Nat.le_of_ble_eq_true rfl)

