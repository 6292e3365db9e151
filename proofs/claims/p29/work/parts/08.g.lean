/-! laid by wip/gen -/
set_option maxHeartbeats 4000000 in
set_option maxRecDepth 100000 in
theorem k_wipe (l : Launch) (hst : l.stackTraces = false) (g : gE) (base n : Nat) (L : Nat → Nat) (hn : 106 ≤ n) (x : St) (r0 : Nat → va_E) (i : Nat) (hi : i < 6) (tc : Nat) (htc : tc ≤ 1920) (hx19 : x 19 i 0 = nI tc) : Met l yX0_wipe wsX0_wipe ({ frames := 3, cells := 0, slots := 0, locals := 90 }) (va_Pc [.ref (L (8 + 3 * i))] (PW SS g base n L (cw g L x r0))) (va_Qv (fun (u : St) => u = wiF x i) (fun (u : St) t => PB g n L (cw g L u r0) t) (fun q => base ≤ q)) 0 0 (fun q => base ≤ q) := by
  refine Met.ofW (cc := cX0_wipe) (maxL := 1) (ret := none) (by decide) rfl ?_
  intro p e s m args below meth c s₁ B hml hv
  obtain ⟨rfl, hPW⟩ := hv
  obtain ⟨hbs, hJ, hP, hK, hE⟩ := id hPW
  have hx := B.exec
  have hb := B.bytes
  have hr := B.returns
  have hts := atoms_spec (ws := wsX0_wipe) B.pre
  have hown : s.vm.findClass RX0 = some m.cls := findClass_of_methodNamed B.named
  have hlocks := B.notSynchronized
  have hS : va_S (fun q : Nat => base ≤ q) s.heap s.heap [] := va_S.rf
  have hl := lv_entry ([.ref (L (8 + 3 * i))]) (n := 1) (Nat.le_of_ble_eq_true rfl)
  rw [lg_entry_eq]
  generalize (lg_sl ([.ref (L (8 + 3 * i))]) ++ List.replicate (1 - (lg_sl ([.ref (L (8 + 3 * i))])).length) Slot.unset).toArray = ls at hl ⊢
  have hl : lv_has ls 1 [(0, .ref (L (8 + 3 * i)))] := hl
  have iX0 : ∀ w ∈ wsX00, w ∈ wsX0_wipe := by decide +kernel
  refine lv_aload_n hx hb dX0_wipe_0 rfl (lv_at hl 0 rfl) ?_
  refine lv_aload_n hx hb dX0_wipe_1 rfl (lv_at hl 0 rfl) ?_
  refine wx_get (D := g.1) (cl := vwCl) (ci := 2) (v := .int (x 15 i 0)) (C := RX0) (T := TX0) (N := 12) hx hb hts iX0 hown hK hP (8 + 3 * i) (by omega) (cw_b (by omega)) rfl 5 (by decide) (hts (.fieldLink RX0 29 "FerroDesk$Board" "black" "I") (by decide +kernel)) (fun _ h9 => h9) rfl dX0_wipe_2 ?_
  refine wx_callv (va_runV (As := [.int (x 15 i 0)]) (rest := []) ⟨hx, hb, hml, hown, hts⟩ (k_change l hst g base n L (by omega) x r0 i (by omega) tc htc hx19 (x 15 i 0)) (cwV 1 hts gX0_wipe_X0_change rfl rfl rfl (by decide +kernel) ⟨Nat.le_of_ble_eq_true rfl, Nat.le_of_ble_eq_true rfl⟩) (hPW.preV hP hS (ci := 2) rfl (by omega) (cw_b (by omega))) rfl rfl hl.1 rfl (lv_room (Nat.le_of_ble_eq_true rfl)) dX0_wipe_5 ⟨Nat.le_of_ble_eq_true rfl, Nat.le_of_ble_eq_true rfl⟩) hS (fun u5 H locs h5 hP hS => ?_)
  obtain rfl := h5
  refine lv_aload_n hx hb dX0_wipe_8 rfl (lv_at hl 0 rfl) ?_
  refine lv_null hx hb dX0_wipe_9 ?_
  refine wx_put (D := g.1) (cl := vwCl) (ci := 2) (v := .null) (ty := .object "FerroDesk$Notice") (w' := cw g L (st (chF x i (x 15 i 0)) 12 i 0 (-1)) r0) (C := RX0) (T := TX0) (N := 12) hx hb hts iX0 tyX0 tyX0_ok nmX0 hown hK hP hJ hS (8 + 3 * i) (by omega) (cw_b (by omega)) rfl 2 (by decide) (hts (.fieldLink RX0 18 "FerroDesk$Board" "shown" "LFerroDesk$Notice;") (by decide +kernel)) (fun _ h9 => h9) rfl (by decide +kernel) rfl rfl (Nat.le_of_ble_eq_true rfl) dX0_wipe_10 (cw_put (r := 12) (i := i) (j := 0) rfl (by omega) ((dk_b (by omega)).trans (by simp only [bF, st_eq, shw_m1]; simp [st, va_rf]))) (fun H locs hP hS => ?_)
  refine lv_aload_n hx hb dX0_wipe_13 rfl (lv_at hl 0 rfl) ?_
  refine lv_iconst (v := 0) hx hb dX0_wipe_14 (by decide) ?_
  refine wx_put (D := g.1) (cl := vwCl) (ci := 2) (v := .int 0) (ty := .int) (w' := cw g L (st (st (chF x i (x 15 i 0)) 12 i 0 (-1)) 13 i 0 0) r0) (C := RX0) (T := TX0) (N := 12) hx hb hts iX0 tyX0 tyX0_ok nmX0 hown hK hP hJ hS (8 + 3 * i) (by omega) (cw_b (by omega)) rfl 3 (by decide) (hts (.fieldLink RX0 22 "FerroDesk$Board" "shiftedBy" "I") (by decide +kernel)) (fun _ h9 => h9) rfl (by decide +kernel) rfl rfl (Nat.le_of_ble_eq_true rfl) dX0_wipe_15 (cw_put (r := 13) (i := i) (j := 0) rfl (by omega) ((dk_b (by omega)).trans (by simp [bF, st]))) (fun H locs hP hS => ?_)
  refine W.widen (k := 0) (n := 0) (Nat.le_of_ble_eq_true rfl) (Nat.le_of_ble_eq_true rfl) ?_
  exact W.vret hx hb hr (fun t ht hW => ⟨⟨(st (st (chF x i (x 15 i 0)) 12 i 0 (-1)) 13 i 0 0), rfl, rfl, PB.mk9 hP ht⟩, hS.F ht⟩) hS.2.2 dX0_wipe_18

set_option maxHeartbeats 4000000 in
set_option maxRecDepth 100000 in
theorem k_bestShift (l : Launch) (hst : l.stackTraces = false) (g : gE) (base n : Nat) (L : Nat → Nat) (hn : 106 ≤ n) (x : St) (r0 : Nat → va_E) (i : Nat) (hi : i < 6)  (p0 : Int32) : Met l yX0_bestShift wsX0_bestShift ({ frames := 2, cells := 0, slots := 0, locals := 90 }) (va_Pc [.ref (L (8 + 3 * i)), .int p0] (PW SS g base n L (cw g L x r0))) (va_Qi (fun (r : Int32) (_ : Unit) => r = (bs x i p0 8).1) (fun (u : Unit) t => PB g n L (cw g L x r0) t) (fun q => base ≤ q)) 0 0 (fun q => base ≤ q) := by
  refine Met.ofW (cc := cX0_bestShift) (maxL := 9) (ret := (some .int)) (by decide) rfl ?_
  intro p e s m args below meth c s₁ B hml hv
  obtain ⟨rfl, hPW⟩ := hv
  obtain ⟨hbs, hJ, hP, hK, hE⟩ := id hPW
  have hx := B.exec
  have hb := B.bytes
  have hr := B.returns
  have hts := atoms_spec (ws := wsX0_bestShift) B.pre
  have hown : s.vm.findClass RX0 = some m.cls := findClass_of_methodNamed B.named
  have hlocks := B.notSynchronized
  have hS : va_S (fun q : Nat => base ≤ q) s.heap s.heap [] := va_S.rf
  have hl := lv_entry ([.ref (L (8 + 3 * i)), .int p0]) (n := 9) (Nat.le_of_ble_eq_true rfl)
  rw [lg_entry_eq]
  generalize (lg_sl ([.ref (L (8 + 3 * i)), .int p0]) ++ List.replicate (9 - (lg_sl ([.ref (L (8 + 3 * i)), .int p0])).length) Slot.unset).toArray = ls at hl ⊢
  have hl : lv_has ls 9 [(0, .ref (L (8 + 3 * i))), (1, .int p0)] := hl
  have iX0 : ∀ w ∈ wsX00, w ∈ wsX0_bestShift := by decide +kernel
  refine lv_iconst (v := (-1)) hx hb dX0_bestShift_0 (by decide) ?_
  refine lv_istore_n (lv' := [(2, .int (-1)), (0, .ref (L (8 + 3 * i))), (1, .int p0)]) hx hb dX0_bestShift_1 rfl hl (by decide) rfl (fun ls hl => ?_)
  refine lv_iconst (v := 0) hx hb dX0_bestShift_2 (by decide) ?_
  refine lv_istore_n (lv' := [(3, .int 0), (2, .int (-1)), (0, .ref (L (8 + 3 * i))), (1, .int p0)]) hx hb dX0_bestShift_3 rfl hl (by decide) rfl (fun ls hl => ?_)
  refine lv_iconst (v := 0) hx hb dX0_bestShift_4 (by decide) ?_
  refine lv_istore (lv' := [(4, .int 0), (3, .int 0), (2, .int (-1)), (0, .ref (L (8 + 3 * i))), (1, .int p0)]) hx hb dX0_bestShift_5 hl (by decide) rfl (fun ls hl => ?_)
  refine lv_iconst (v := 0) hx hb dX0_bestShift_7 (by decide) ?_
  refine lv_istore (lv' := [(5, .int 0), (4, .int 0), (3, .int 0), (2, .int (-1)), (0, .ref (L (8 + 3 * i))), (1, .int p0)]) hx hb dX0_bestShift_8 hl (by decide) rfl (fun ls hl => ?_)
  have key10 : ∀ (d k : Nat) (z5 : Int32) (z2 : Int32) (z3 : Int32) (z4 : Int32) (H : Heap) (locs : List Loc) (ls : Array Slot), k + d = 8 → (z5 = nI k) → (z2 = (bs x i p0 k).1) → (z3 = (bs x i p0 k).2.1) → (z4 = (bs x i p0 k).2.2) → va_P g.1 vwCl (wl n L (cw g L x r0)) H → va_S (fun q : Nat => base ≤ q) s.heap H locs → lv_has ls 9 [(5, .int z5), (2, .int z2), (3, .int z3), (4, .int z4), (0, .ref (L (8 + 3 * i))), (1, .int p0)] → W p l e (headSpec wsX0_bestShift ({ frames := 2, cells := 0, slots := 0, locals := 90 })).room s m ([.ref (L (8 + 3 * i)), .int p0] : List Value).toArray below meth c H locs 0 0 (MQ below (va_Qi (fun (r : Int32) (_ : Unit) => r = (bs x i p0 8).1) (fun (u : Unit) t => PB g n L (cw g L x r0) t) (fun q => base ≤ q)) ([.ref (L (8 + 3 * i)), .int p0] : List Value).toArray s 0 0 (fun q => base ≤ q)) (F0 m 10 ls []) := by
    intro d
    induction d with
    | zero =>
      intro k z5 z2 z3 z4 H locs ls hkd ek5 ek2 ek3 ek4 hP hS hl
      obtain rfl : k = 8 := by omega
      subst ek5 ek2 ek3 ek4
      refine lv_iload hx hb dX0_bestShift_10 (lv_at hl 0 rfl) ?_
      refine lv_bipush (v := 8) hx hb dX0_bestShift_12 (by decide) ?_
      refine lv_icmp_ge (tgt := 99) hx hb dX0_bestShift_14 (by decide) (fun c14 => ?_) (fun c14 => absurd (by decide) c14)
      refine lv_iload_n hx hb dX0_bestShift_99 rfl (lv_at hl 1 rfl) ?_
      refine W.widen (k := 0) (n := 0) (Nat.le_of_ble_eq_true rfl) (Nat.le_of_ble_eq_true rfl) ?_
      exact W.iret (v := (bs x i p0 8).1) hx hb hr (fun t ht hW => ⟨⟨(bs x i p0 8).1, (), rfl, rfl, PB.mk9 hP ht⟩, hS.F ht⟩) hS.2.2 dX0_bestShift_100
    | succ d ih =>
      intro k z5 z2 z3 z4 H locs ls hkd ek5 ek2 ek3 ek4 hP hS hl
      have hkN : k < 8 := by omega
      subst ek5 ek2 ek3 ek4
      refine lv_iload hx hb dX0_bestShift_10 (lv_at hl 0 rfl) ?_
      refine lv_bipush (v := 8) hx hb dX0_bestShift_12 (by decide) ?_
      refine lv_icmp_ge (tgt := 99) hx hb dX0_bestShift_14 (by decide) (fun c14 => absurd c14 (nI_ge (b := 8) hkN (by decide))) (fun c14 => ?_)
      refine lv_iload_n hx hb dX0_bestShift_17 rfl (lv_at hl 5 rfl) ?_
      refine lv_iload hx hb dX0_bestShift_18 (lv_at hl 0 rfl) ?_
      refine wx_calli (va_runSN (As := [.int p0, .int (nI k)]) (rest := []) ⟨hx, hb, hml, hown, hts⟩ (k_shifted l hst g base n L (cw g L x r0) p0 (nI k)) (⟨va_cnB 2 hts gX0_bestShift_X3_shifted_n78 rfl rfl rfl (hE.1 _ (ng_in (w := (Cond.methodLinkNest "FerroDesk$Board" 78 yX3_shifted "FerroDesk")) (by decide +kernel))) (hts (.initialized RX3) (by decide +kernel)) (by decide +kernel) ⟨Nat.le_of_ble_eq_true rfl, Nat.le_of_ble_eq_true rfl⟩, hts (.static yX3_shifted) (by decide +kernel), trivial⟩) (hPW.preS hP hS) rfl rfl hl.1 rfl (lv_room (Nat.le_of_ble_eq_true rfl)) dX0_bestShift_20 ⟨Nat.le_of_ble_eq_true rfl, Nat.le_of_ble_eq_true rfl⟩) hS (fun r20 u20 H locs h20 hP hS => ?_)
      obtain rfl := h20
      refine lv_istore (lv' := [(6, .int (shF p0 (nI k))), (5, .int (nI k)), (2, .int ((bs x i p0 k).1)), (3, .int ((bs x i p0 k).2.1)), (4, .int ((bs x i p0 k).2.2)), (0, .ref (L (8 + 3 * i))), (1, .int p0)]) hx hb dX0_bestShift_23 hl (by decide) rfl (fun ls hl => ?_)
      refine lv_aload_n hx hb dX0_bestShift_25 rfl (lv_at hl 5 rfl) ?_
      refine lv_iload hx hb dX0_bestShift_26 (lv_at hl 0 rfl) ?_
      refine wx_calli (va_runV (As := [.int (shF p0 (nI k))]) (rest := []) ⟨hx, hb, hml, hown, hts⟩ (k_canTurnTo l hst g base n L (by omega) x r0 i (by omega)  (shF p0 (nI k))) (cwV 1 hts gX0_bestShift_X0_canTurnTo rfl rfl rfl (by decide +kernel) ⟨Nat.le_of_ble_eq_true rfl, Nat.le_of_ble_eq_true rfl⟩) (hPW.preV hP hS (ci := 2) rfl (by omega) (cw_b (by omega))) rfl rfl hl.1 rfl (lv_room (Nat.le_of_ble_eq_true rfl)) dX0_bestShift_28 ⟨Nat.le_of_ble_eq_true rfl, Nat.le_of_ble_eq_true rfl⟩) hS (fun r28 u28 H locs h28 hP hS => ?_)
      rcases h28 with ⟨rfl, h28⟩ | ⟨rfl, h28⟩
      · refine lv_if_eq (tgt := 93) hx hb dX0_bestShift_31 (by decide) (fun c31 => absurd c31 (by decide)) (fun c31 => ?_)
        refine lv_aload_n hx hb dX0_bestShift_34 rfl (lv_at hl 5 rfl) ?_
        refine lv_aload_n hx hb dX0_bestShift_35 rfl (lv_at hl 5 rfl) ?_
        refine wx_get (D := g.1) (cl := vwCl) (ci := 2) (v := .int (x 15 i 0)) (C := RX0) (T := TX0) (N := 12) hx hb hts iX0 hown hK hP (8 + 3 * i) (by omega) (cw_b (by omega)) rfl 5 (by decide) (hts (.fieldLink RX0 29 "FerroDesk$Board" "black" "I") (by decide +kernel)) (fun _ h9 => h9) rfl dX0_bestShift_36 ?_
        refine lv_iload hx hb dX0_bestShift_39 (lv_at hl 0 rfl) ?_
        refine lv_ixor hx hb dX0_bestShift_41 ?_
        refine wx_calli (va_runV (As := [.int ((x 15 i 0) ^^^ (shF p0 (nI k)))]) (rest := []) ⟨hx, hb, hml, hown, hts⟩ (k_gwb l hst g base n L (by omega) x r0 i (by omega)  ((x 15 i 0) ^^^ (shF p0 (nI k)))) (cwV 1 hts gX0_bestShift_X0_greatestWearBehind rfl rfl rfl (by decide +kernel) ⟨Nat.le_of_ble_eq_true rfl, Nat.le_of_ble_eq_true rfl⟩) (hPW.preV hP hS (ci := 2) rfl (by omega) (cw_b (by omega))) rfl rfl hl.1 rfl (lv_room (Nat.le_of_ble_eq_true rfl)) dX0_bestShift_42 ⟨Nat.le_of_ble_eq_true rfl, Nat.le_of_ble_eq_true rfl⟩) hS (fun r42 u42 H locs h42 hP hS => ?_)
        obtain rfl := h42
        refine lv_istore (lv' := [(7, .int (gwF x i ((x 15 i 0) ^^^ (shF p0 (nI k))))), (6, .int (shF p0 (nI k))), (5, .int (nI k)), (2, .int ((bs x i p0 k).1)), (3, .int ((bs x i p0 k).2.1)), (4, .int ((bs x i p0 k).2.2)), (0, .ref (L (8 + 3 * i))), (1, .int p0)]) hx hb dX0_bestShift_45 hl (by decide) rfl (fun ls hl => ?_)
        refine lv_aload_n hx hb dX0_bestShift_47 rfl (lv_at hl 6 rfl) ?_
        refine wx_get (D := g.1) (cl := vwCl) (ci := 2) (v := .int (x 15 i 0)) (C := RX0) (T := TX0) (N := 12) hx hb hts iX0 hown hK hP (8 + 3 * i) (by omega) (cw_b (by omega)) rfl 5 (by decide) (hts (.fieldLink RX0 29 "FerroDesk$Board" "black" "I") (by decide +kernel)) (fun _ h9 => h9) rfl dX0_bestShift_48 ?_
        refine lv_iload hx hb dX0_bestShift_51 (lv_at hl 1 rfl) ?_
        refine lv_ixor hx hb dX0_bestShift_53 ?_
        refine wx_calli (va_runS (As := [.int ((x 15 i 0) ^^^ (shF p0 (nI k)))]) (rest := []) ⟨hx, hb, hml, hown, hts⟩ (k_bitCount l hst g base n L (cw g L x r0) ((x 15 i 0) ^^^ (shF p0 (nI k)))) (va_cwS 1 hts gX0_bestShift_J6_bitCount_0f7a4 rfl rfl rfl (by decide +kernel) ⟨Nat.le_of_ble_eq_true rfl, Nat.le_of_ble_eq_true rfl⟩) (hPW.preS hP hS) rfl rfl hl.1 rfl (lv_room (Nat.le_of_ble_eq_true rfl)) dX0_bestShift_54 ⟨Nat.le_of_ble_eq_true rfl, Nat.le_of_ble_eq_true rfl⟩) hS (fun r54 u54 H locs h54 hP hS => ?_)
        obtain rfl := h54
        refine lv_istore (lv' := [(8, .int (pcF ((x 15 i 0) ^^^ (shF p0 (nI k))))), (7, .int (gwF x i ((x 15 i 0) ^^^ (shF p0 (nI k))))), (6, .int (shF p0 (nI k))), (5, .int (nI k)), (2, .int ((bs x i p0 k).1)), (3, .int ((bs x i p0 k).2.1)), (4, .int ((bs x i p0 k).2.2)), (0, .ref (L (8 + 3 * i))), (1, .int p0)]) hx hb dX0_bestShift_57 hl (by decide) rfl (fun ls hl => ?_)
        refine lv_iload_n hx hb dX0_bestShift_59 rfl (lv_at hl 4 rfl) ?_
        refine lv_iconst (v := (-1)) hx hb dX0_bestShift_60 (by decide) ?_
        refine lv_icmp_eq (tgt := 83) hx hb dX0_bestShift_61 (by decide) (fun c61 => ?_) (fun c61 => ?_)
        · refine lv_iload hx hb dX0_bestShift_83 (lv_at hl 3 rfl) ?_
          refine lv_istore_n (lv' := [(2, .int (nI k)), (8, .int (pcF ((x 15 i 0) ^^^ (shF p0 (nI k))))), (7, .int (gwF x i ((x 15 i 0) ^^^ (shF p0 (nI k))))), (6, .int (shF p0 (nI k))), (5, .int (nI k)), (3, .int ((bs x i p0 k).2.1)), (4, .int ((bs x i p0 k).2.2)), (0, .ref (L (8 + 3 * i))), (1, .int p0)]) hx hb dX0_bestShift_85 rfl hl (by decide) rfl (fun ls hl => ?_)
          refine lv_iload hx hb dX0_bestShift_86 (lv_at hl 2 rfl) ?_
          refine lv_istore_n (lv' := [(3, .int (gwF x i ((x 15 i 0) ^^^ (shF p0 (nI k))))), (2, .int (nI k)), (8, .int (pcF ((x 15 i 0) ^^^ (shF p0 (nI k))))), (7, .int (gwF x i ((x 15 i 0) ^^^ (shF p0 (nI k))))), (6, .int (shF p0 (nI k))), (5, .int (nI k)), (4, .int ((bs x i p0 k).2.2)), (0, .ref (L (8 + 3 * i))), (1, .int p0)]) hx hb dX0_bestShift_88 rfl hl (by decide) rfl (fun ls hl => ?_)
          refine lv_iload hx hb dX0_bestShift_89 (lv_at hl 2 rfl) ?_
          refine lv_istore (lv' := [(4, .int (pcF ((x 15 i 0) ^^^ (shF p0 (nI k))))), (3, .int (gwF x i ((x 15 i 0) ^^^ (shF p0 (nI k))))), (2, .int (nI k)), (8, .int (pcF ((x 15 i 0) ^^^ (shF p0 (nI k))))), (7, .int (gwF x i ((x 15 i 0) ^^^ (shF p0 (nI k))))), (6, .int (shF p0 (nI k))), (5, .int (nI k)), (0, .ref (L (8 + 3 * i))), (1, .int p0)]) hx hb dX0_bestShift_91 hl (by decide) rfl (fun ls hl => ?_)
          obtain ⟨z93, ez93⟩ : ∃ y : Int32, y = nI k + 1 := ⟨_, rfl⟩
          refine lv_iinc (v := z93) (lv' := [(5, .int z93), (4, .int (pcF ((x 15 i 0) ^^^ (shF p0 (nI k))))), (3, .int (gwF x i ((x 15 i 0) ^^^ (shF p0 (nI k))))), (2, .int (nI k)), (8, .int (pcF ((x 15 i 0) ^^^ (shF p0 (nI k))))), (7, .int (gwF x i ((x 15 i 0) ^^^ (shF p0 (nI k))))), (6, .int (shF p0 (nI k))), (0, .ref (L (8 + 3 * i))), (1, .int p0)]) hx hb dX0_bestShift_93 hl (k := 6) rfl (by rw [ez93]; rfl) (by decide) rfl (fun ls hl => ?_)
          refine lv_goto (tgt := 10) hx hb dX0_bestShift_96 (by decide) ?_
          exact ih (k + 1) _ _ _ _ _ _ _ (by omega) (by rw [ez93, nI_1]) (by rw [bs_take h28 (Or.inl c61)] <;> rfl) (by rw [bs_take h28 (Or.inl c61)] <;> rfl) (by rw [bs_take h28 (Or.inl c61)] <;> rfl) hP hS (lv_sub hl [0, 3, 2, 1, 7, 8] rfl)
        · refine lv_iload hx hb dX0_bestShift_64 (lv_at hl 1 rfl) ?_
          refine lv_iload_n hx hb dX0_bestShift_66 rfl (lv_at hl 5 rfl) ?_
          refine lv_icmp_lt (tgt := 83) hx hb dX0_bestShift_67 (by decide) (fun c67 => ?_) (fun c67 => ?_)
          · refine lv_iload hx hb dX0_bestShift_83 (lv_at hl 3 rfl) ?_
            refine lv_istore_n (lv' := [(2, .int (nI k)), (8, .int (pcF ((x 15 i 0) ^^^ (shF p0 (nI k))))), (7, .int (gwF x i ((x 15 i 0) ^^^ (shF p0 (nI k))))), (6, .int (shF p0 (nI k))), (5, .int (nI k)), (3, .int ((bs x i p0 k).2.1)), (4, .int ((bs x i p0 k).2.2)), (0, .ref (L (8 + 3 * i))), (1, .int p0)]) hx hb dX0_bestShift_85 rfl hl (by decide) rfl (fun ls hl => ?_)
            refine lv_iload hx hb dX0_bestShift_86 (lv_at hl 2 rfl) ?_
            refine lv_istore_n (lv' := [(3, .int (gwF x i ((x 15 i 0) ^^^ (shF p0 (nI k))))), (2, .int (nI k)), (8, .int (pcF ((x 15 i 0) ^^^ (shF p0 (nI k))))), (7, .int (gwF x i ((x 15 i 0) ^^^ (shF p0 (nI k))))), (6, .int (shF p0 (nI k))), (5, .int (nI k)), (4, .int ((bs x i p0 k).2.2)), (0, .ref (L (8 + 3 * i))), (1, .int p0)]) hx hb dX0_bestShift_88 rfl hl (by decide) rfl (fun ls hl => ?_)
            refine lv_iload hx hb dX0_bestShift_89 (lv_at hl 2 rfl) ?_
            refine lv_istore (lv' := [(4, .int (pcF ((x 15 i 0) ^^^ (shF p0 (nI k))))), (3, .int (gwF x i ((x 15 i 0) ^^^ (shF p0 (nI k))))), (2, .int (nI k)), (8, .int (pcF ((x 15 i 0) ^^^ (shF p0 (nI k))))), (7, .int (gwF x i ((x 15 i 0) ^^^ (shF p0 (nI k))))), (6, .int (shF p0 (nI k))), (5, .int (nI k)), (0, .ref (L (8 + 3 * i))), (1, .int p0)]) hx hb dX0_bestShift_91 hl (by decide) rfl (fun ls hl => ?_)
            obtain ⟨z93, ez93⟩ : ∃ y : Int32, y = nI k + 1 := ⟨_, rfl⟩
            refine lv_iinc (v := z93) (lv' := [(5, .int z93), (4, .int (pcF ((x 15 i 0) ^^^ (shF p0 (nI k))))), (3, .int (gwF x i ((x 15 i 0) ^^^ (shF p0 (nI k))))), (2, .int (nI k)), (8, .int (pcF ((x 15 i 0) ^^^ (shF p0 (nI k))))), (7, .int (gwF x i ((x 15 i 0) ^^^ (shF p0 (nI k))))), (6, .int (shF p0 (nI k))), (0, .ref (L (8 + 3 * i))), (1, .int p0)]) hx hb dX0_bestShift_93 hl (k := 6) rfl (by rw [ez93]; rfl) (by decide) rfl (fun ls hl => ?_)
            refine lv_goto (tgt := 10) hx hb dX0_bestShift_96 (by decide) ?_
            exact ih (k + 1) _ _ _ _ _ _ _ (by omega) (by rw [ez93, nI_1]) (by rw [bs_take h28 (Or.inr (Or.inl c67))] <;> rfl) (by rw [bs_take h28 (Or.inr (Or.inl c67))] <;> rfl) (by rw [bs_take h28 (Or.inr (Or.inl c67))] <;> rfl) hP hS (lv_sub hl [0, 3, 2, 1, 7, 8] rfl)
          · refine lv_iload hx hb dX0_bestShift_70 (lv_at hl 1 rfl) ?_
            refine lv_iload_n hx hb dX0_bestShift_72 rfl (lv_at hl 5 rfl) ?_
            refine lv_icmp_ne (tgt := 93) hx hb dX0_bestShift_73 (by decide) (fun c73 => ?_) (fun c73 => ?_)
            · obtain ⟨z93, ez93⟩ : ∃ y : Int32, y = nI k + 1 := ⟨_, rfl⟩
              refine lv_iinc (v := z93) (lv' := [(5, .int z93), (8, .int (pcF ((x 15 i 0) ^^^ (shF p0 (nI k))))), (7, .int (gwF x i ((x 15 i 0) ^^^ (shF p0 (nI k))))), (6, .int (shF p0 (nI k))), (2, .int ((bs x i p0 k).1)), (3, .int ((bs x i p0 k).2.1)), (4, .int ((bs x i p0 k).2.2)), (0, .ref (L (8 + 3 * i))), (1, .int p0)]) hx hb dX0_bestShift_93 hl (k := 3) rfl (by rw [ez93]; rfl) (by decide) rfl (fun ls hl => ?_)
              refine lv_goto (tgt := 10) hx hb dX0_bestShift_96 (by decide) ?_
              exact ih (k + 1) _ _ _ _ _ _ _ (by omega) (by rw [ez93, nI_1]) (by rw [bs_keep h28 (fun h9 => by rcases h9 with h9 | h9 | ⟨h9, h8⟩; exact c61 h9; exact c67 h9; exact c73 h9)]) (by rw [bs_keep h28 (fun h9 => by rcases h9 with h9 | h9 | ⟨h9, h8⟩; exact c61 h9; exact c67 h9; exact c73 h9)]) (by rw [bs_keep h28 (fun h9 => by rcases h9 with h9 | h9 | ⟨h9, h8⟩; exact c61 h9; exact c67 h9; exact c73 h9)]) hP hS (lv_sub hl [0, 4, 5, 6, 7, 8] rfl)
            · refine lv_iload hx hb dX0_bestShift_76 (lv_at hl 0 rfl) ?_
              refine lv_iload hx hb dX0_bestShift_78 (lv_at hl 6 rfl) ?_
              refine lv_icmp_ge (tgt := 93) hx hb dX0_bestShift_80 (by decide) (fun c80 => ?_) (fun c80 => ?_)
              · obtain ⟨z93, ez93⟩ : ∃ y : Int32, y = nI k + 1 := ⟨_, rfl⟩
                refine lv_iinc (v := z93) (lv' := [(5, .int z93), (8, .int (pcF ((x 15 i 0) ^^^ (shF p0 (nI k))))), (7, .int (gwF x i ((x 15 i 0) ^^^ (shF p0 (nI k))))), (6, .int (shF p0 (nI k))), (2, .int ((bs x i p0 k).1)), (3, .int ((bs x i p0 k).2.1)), (4, .int ((bs x i p0 k).2.2)), (0, .ref (L (8 + 3 * i))), (1, .int p0)]) hx hb dX0_bestShift_93 hl (k := 3) rfl (by rw [ez93]; rfl) (by decide) rfl (fun ls hl => ?_)
                refine lv_goto (tgt := 10) hx hb dX0_bestShift_96 (by decide) ?_
                exact ih (k + 1) _ _ _ _ _ _ _ (by omega) (by rw [ez93, nI_1]) (by rw [bs_keep h28 (fun h9 => by rcases h9 with h9 | h9 | ⟨h9, h8⟩; exact c61 h9; exact c67 h9; exact absurd h8 (Int32.not_lt.mpr c80))]) (by rw [bs_keep h28 (fun h9 => by rcases h9 with h9 | h9 | ⟨h9, h8⟩; exact c61 h9; exact c67 h9; exact absurd h8 (Int32.not_lt.mpr c80))]) (by rw [bs_keep h28 (fun h9 => by rcases h9 with h9 | h9 | ⟨h9, h8⟩; exact c61 h9; exact c67 h9; exact absurd h8 (Int32.not_lt.mpr c80))]) hP hS (lv_sub hl [0, 4, 5, 6, 7, 8] rfl)
              · refine lv_iload hx hb dX0_bestShift_83 (lv_at hl 3 rfl) ?_
                refine lv_istore_n (lv' := [(2, .int (nI k)), (8, .int (pcF ((x 15 i 0) ^^^ (shF p0 (nI k))))), (7, .int (gwF x i ((x 15 i 0) ^^^ (shF p0 (nI k))))), (6, .int (shF p0 (nI k))), (5, .int (nI k)), (3, .int ((bs x i p0 k).2.1)), (4, .int ((bs x i p0 k).2.2)), (0, .ref (L (8 + 3 * i))), (1, .int p0)]) hx hb dX0_bestShift_85 rfl hl (by decide) rfl (fun ls hl => ?_)
                refine lv_iload hx hb dX0_bestShift_86 (lv_at hl 2 rfl) ?_
                refine lv_istore_n (lv' := [(3, .int (gwF x i ((x 15 i 0) ^^^ (shF p0 (nI k))))), (2, .int (nI k)), (8, .int (pcF ((x 15 i 0) ^^^ (shF p0 (nI k))))), (7, .int (gwF x i ((x 15 i 0) ^^^ (shF p0 (nI k))))), (6, .int (shF p0 (nI k))), (5, .int (nI k)), (4, .int ((bs x i p0 k).2.2)), (0, .ref (L (8 + 3 * i))), (1, .int p0)]) hx hb dX0_bestShift_88 rfl hl (by decide) rfl (fun ls hl => ?_)
                refine lv_iload hx hb dX0_bestShift_89 (lv_at hl 2 rfl) ?_
                refine lv_istore (lv' := [(4, .int (pcF ((x 15 i 0) ^^^ (shF p0 (nI k))))), (3, .int (gwF x i ((x 15 i 0) ^^^ (shF p0 (nI k))))), (2, .int (nI k)), (8, .int (pcF ((x 15 i 0) ^^^ (shF p0 (nI k))))), (7, .int (gwF x i ((x 15 i 0) ^^^ (shF p0 (nI k))))), (6, .int (shF p0 (nI k))), (5, .int (nI k)), (0, .ref (L (8 + 3 * i))), (1, .int p0)]) hx hb dX0_bestShift_91 hl (by decide) rfl (fun ls hl => ?_)
                obtain ⟨z93, ez93⟩ : ∃ y : Int32, y = nI k + 1 := ⟨_, rfl⟩
                refine lv_iinc (v := z93) (lv' := [(5, .int z93), (4, .int (pcF ((x 15 i 0) ^^^ (shF p0 (nI k))))), (3, .int (gwF x i ((x 15 i 0) ^^^ (shF p0 (nI k))))), (2, .int (nI k)), (8, .int (pcF ((x 15 i 0) ^^^ (shF p0 (nI k))))), (7, .int (gwF x i ((x 15 i 0) ^^^ (shF p0 (nI k))))), (6, .int (shF p0 (nI k))), (0, .ref (L (8 + 3 * i))), (1, .int p0)]) hx hb dX0_bestShift_93 hl (k := 6) rfl (by rw [ez93]; rfl) (by decide) rfl (fun ls hl => ?_)
                refine lv_goto (tgt := 10) hx hb dX0_bestShift_96 (by decide) ?_
                exact ih (k + 1) _ _ _ _ _ _ _ (by omega) (by rw [ez93, nI_1]) (by rw [bs_take h28 (Or.inr (Or.inr ⟨c73, Int32.not_le.mp c80⟩))] <;> rfl) (by rw [bs_take h28 (Or.inr (Or.inr ⟨c73, Int32.not_le.mp c80⟩))] <;> rfl) (by rw [bs_take h28 (Or.inr (Or.inr ⟨c73, Int32.not_le.mp c80⟩))] <;> rfl) hP hS (lv_sub hl [0, 3, 2, 1, 7, 8] rfl)
      · refine lv_if_eq (tgt := 93) hx hb dX0_bestShift_31 (by decide) (fun c31 => ?_) (fun c31 => absurd (by decide) c31)
        obtain ⟨z93, ez93⟩ : ∃ y : Int32, y = nI k + 1 := ⟨_, rfl⟩
        refine lv_iinc (v := z93) (lv' := [(5, .int z93), (6, .int (shF p0 (nI k))), (2, .int ((bs x i p0 k).1)), (3, .int ((bs x i p0 k).2.1)), (4, .int ((bs x i p0 k).2.2)), (0, .ref (L (8 + 3 * i))), (1, .int p0)]) hx hb dX0_bestShift_93 hl (k := 1) rfl (by rw [ez93]; rfl) (by decide) rfl (fun ls hl => ?_)
        refine lv_goto (tgt := 10) hx hb dX0_bestShift_96 (by decide) ?_
        exact ih (k + 1) _ _ _ _ _ _ _ (by omega) (by rw [ez93, nI_1]) (by rw [bs_no h28]) (by rw [bs_no h28]) (by rw [bs_no h28]) hP hS (lv_sub hl [0, 2, 3, 4, 5, 6] rfl)
  exact key10 8 0 _ _ _ _ _ _ _ (by omega) rfl rfl rfl rfl hP hS (lv_sub hl [0, 3, 2, 1, 4, 5] rfl)

set_option maxHeartbeats 4000000 in
set_option maxRecDepth 100000 in
theorem k_takesUp (l : Launch) (hst : l.stackTraces = false) (g : gE) (base n : Nat) (L : Nat → Nat) (hn : 106 ≤ n) (x : St) (r0 : Nat → va_E) (i : Nat) (hi : i < 6) (tc : Nat) (htc : tc ≤ 1920) (hx19 : x 19 i 0 = nI tc) (hsh : x 12 i 0 = -1 ∨ ∃ k, k < 40 ∧ x 12 i 0 = nI k) (k0 : Nat) (hk0 : k0 < 40) : Met l yX0_takesUp wsX0_takesUp ({ frames := 4, cells := 0, slots := 0, locals := 120 }) (va_Pc [.ref (L (8 + 3 * i)), .ref (L (26 + 2 * k0))] (PW SS g base n L (cw g L x r0))) (va_Qi (fun (r : Int32) (u : St) => (r = 1 ∧ x 12 i 0 = nI k0 ∧ u = x) ∨ (x 12 i 0 ≠ nI k0 ∧ (bs x i (x 31 k0 0) 8).1 = -1 ∧ r = 0 ∧ u = x) ∨ (x 12 i 0 ≠ nI k0 ∧ (bs x i (x 31 k0 0) 8).1 ≠ -1 ∧ r = 1 ∧ u = tuF x i k0)) (fun (u : St) t => PB g n L (cw g L u r0) t) (fun q => base ≤ q)) 0 0 (fun q => base ≤ q) := by
  refine Met.ofW (cc := cX0_takesUp) (maxL := 3) (ret := (some .boolean)) (by decide) rfl ?_
  intro p e s m args below meth c s₁ B hml hv
  obtain ⟨rfl, hPW⟩ := hv
  obtain ⟨hbs, hJ, hP, hK, hE⟩ := id hPW
  have hx := B.exec
  have hb := B.bytes
  have hr := B.returns
  have hts := atoms_spec (ws := wsX0_takesUp) B.pre
  have hown : s.vm.findClass RX0 = some m.cls := findClass_of_methodNamed B.named
  have hlocks := B.notSynchronized
  have hS : va_S (fun q : Nat => base ≤ q) s.heap s.heap [] := va_S.rf
  have hl := lv_entry ([.ref (L (8 + 3 * i)), .ref (L (26 + 2 * k0))]) (n := 3) (Nat.le_of_ble_eq_true rfl)
  rw [lg_entry_eq]
  generalize (lg_sl ([.ref (L (8 + 3 * i)), .ref (L (26 + 2 * k0))]) ++ List.replicate (3 - (lg_sl ([.ref (L (8 + 3 * i)), .ref (L (26 + 2 * k0))])).length) Slot.unset).toArray = ls at hl ⊢
  have hl : lv_has ls 3 [(0, .ref (L (8 + 3 * i))), (1, .ref (L (26 + 2 * k0)))] := hl
  have iX0 : ∀ w ∈ wsX00, w ∈ wsX0_takesUp := by decide +kernel
  have iX1 : ∀ w ∈ wsX10, w ∈ wsX0_takesUp := by decide +kernel
  refine lv_aload_n hx hb dX0_takesUp_0 rfl (lv_at hl 0 rfl) ?_
  refine wx_get (D := g.1) (cl := vwCl) (ci := 2) (v := va_rf (shw L (x 12 i 0))) (C := RX0) (T := TX0) (N := 12) hx hb hts iX0 hown hK hP (8 + 3 * i) (by omega) (cw_b (by omega)) rfl 2 (by decide) (hts (.fieldLink RX0 18 "FerroDesk$Board" "shown" "LFerroDesk$Notice;") (by decide +kernel)) (fun _ h9 => h9) rfl dX0_takesUp_1 ?_
  refine lv_aload_n hx hb dX0_takesUp_4 rfl (lv_at hl 1 rfl) ?_
  refine lv_acmp_ne (rx := shw L (x 12 i 0)) (ry := some (L (26 + 2 * k0))) (tgt := 10) hx hb dX0_takesUp_5 (by decide) (fun c5 => ?_) (fun c5 => ?_)
  · refine lv_aload_n hx hb dX0_takesUp_10 rfl (lv_at hl 0 rfl) ?_
    refine lv_aload_n hx hb dX0_takesUp_11 rfl (lv_at hl 1 rfl) ?_
    refine wx_getN (D := g.1) (cl := vwCl) (ci := 3) (v := .int (x 31 k0 0)) (C := RX1) (T := TX1) (N := 9) hx hb hts iX1 hown hK hP (26 + 2 * k0) (by omega) (cw_n (by omega)) rfl 3 (by decide) (hE.1 _ (ng_in (w := (Cond.fieldLinkNest "FerroDesk$Board" 70 "FerroDesk$Notice" "picture" "I" "FerroDesk")) (by decide +kernel))) (fun _ h9 => h9) rfl dX0_takesUp_12 ?_
    refine wx_calli (va_runV (As := [.int (x 31 k0 0)]) (rest := []) ⟨hx, hb, hml, hown, hts⟩ (k_bestShift l hst g base n L (by omega) x r0 i (by omega)  (x 31 k0 0)) (cwV 1 hts gX0_takesUp_X0_bestShift rfl rfl rfl (by decide +kernel) ⟨Nat.le_of_ble_eq_true rfl, Nat.le_of_ble_eq_true rfl⟩) (hPW.preV hP hS (ci := 2) rfl (by omega) (cw_b (by omega))) rfl rfl hl.1 rfl (lv_room (Nat.le_of_ble_eq_true rfl)) dX0_takesUp_15 ⟨Nat.le_of_ble_eq_true rfl, Nat.le_of_ble_eq_true rfl⟩) hS (fun r15 u15 H locs h15 hP hS => ?_)
    obtain rfl := h15
    refine lv_istore_n (lv' := [(2, .int ((bs x i (x 31 k0 0) 8).1)), (0, .ref (L (8 + 3 * i))), (1, .ref (L (26 + 2 * k0)))]) hx hb dX0_takesUp_18 rfl hl (by decide) rfl (fun ls hl => ?_)
    refine lv_iload_n hx hb dX0_takesUp_19 rfl (lv_at hl 0 rfl) ?_
    refine lv_iconst (v := (-1)) hx hb dX0_takesUp_20 (by decide) ?_
    refine lv_icmp_ne (tgt := 26) hx hb dX0_takesUp_21 (by decide) (fun c21 => ?_) (fun c21 => ?_)
    · refine lv_aload_n hx hb dX0_takesUp_26 rfl (lv_at hl 1 rfl) ?_
      refine lv_aload_n hx hb dX0_takesUp_27 rfl (lv_at hl 1 rfl) ?_
      refine wx_get (D := g.1) (cl := vwCl) (ci := 2) (v := .int (x 15 i 0)) (C := RX0) (T := TX0) (N := 12) hx hb hts iX0 hown hK hP (8 + 3 * i) (by omega) (cw_b (by omega)) rfl 5 (by decide) (hts (.fieldLink RX0 29 "FerroDesk$Board" "black" "I") (by decide +kernel)) (fun _ h9 => h9) rfl dX0_takesUp_28 ?_
      refine lv_aload_n hx hb dX0_takesUp_31 rfl (lv_at hl 2 rfl) ?_
      refine wx_getN (D := g.1) (cl := vwCl) (ci := 3) (v := .int (x 31 k0 0)) (C := RX1) (T := TX1) (N := 9) hx hb hts iX1 hown hK hP (26 + 2 * k0) (by omega) (cw_n (by omega)) rfl 3 (by decide) (hE.1 _ (ng_in (w := (Cond.fieldLinkNest "FerroDesk$Board" 70 "FerroDesk$Notice" "picture" "I" "FerroDesk")) (by decide +kernel))) (fun _ h9 => h9) rfl dX0_takesUp_32 ?_
      refine lv_iload_n hx hb dX0_takesUp_35 rfl (lv_at hl 0 rfl) ?_
      refine wx_calli (va_runSN (As := [.int (x 31 k0 0), .int ((bs x i (x 31 k0 0) 8).1)]) (rest := [.int (x 15 i 0), .ref (L (8 + 3 * i))]) ⟨hx, hb, hml, hown, hts⟩ (k_shifted l hst g base n L (cw g L x r0) (x 31 k0 0) ((bs x i (x 31 k0 0) 8).1)) (⟨va_cnB 2 hts gX0_takesUp_X3_shifted_n78 rfl rfl rfl (hE.1 _ (ng_in (w := (Cond.methodLinkNest "FerroDesk$Board" 78 yX3_shifted "FerroDesk")) (by decide +kernel))) (hts (.initialized RX3) (by decide +kernel)) (by decide +kernel) ⟨Nat.le_of_ble_eq_true rfl, Nat.le_of_ble_eq_true rfl⟩, hts (.static yX3_shifted) (by decide +kernel), trivial⟩) (hPW.preS hP hS) rfl rfl hl.1 rfl (lv_room (Nat.le_of_ble_eq_true rfl)) dX0_takesUp_36 ⟨Nat.le_of_ble_eq_true rfl, Nat.le_of_ble_eq_true rfl⟩) hS (fun r36 u36 H locs h36 hP hS => ?_)
      obtain rfl := h36
      refine lv_ixor hx hb dX0_takesUp_39 ?_
      refine wx_callv (va_runV (As := [.int ((x 15 i 0) ^^^ (shF (x 31 k0 0) ((bs x i (x 31 k0 0) 8).1)))]) (rest := []) ⟨hx, hb, hml, hown, hts⟩ (k_change l hst g base n L (by omega) x r0 i (by omega) tc htc hx19 ((x 15 i 0) ^^^ (shF (x 31 k0 0) ((bs x i (x 31 k0 0) 8).1)))) (cwV 1 hts gX0_takesUp_X0_change rfl rfl rfl (by decide +kernel) ⟨Nat.le_of_ble_eq_true rfl, Nat.le_of_ble_eq_true rfl⟩) (hPW.preV hP hS (ci := 2) rfl (by omega) (cw_b (by omega))) rfl rfl hl.1 rfl (lv_room (Nat.le_of_ble_eq_true rfl)) dX0_takesUp_40 ⟨Nat.le_of_ble_eq_true rfl, Nat.le_of_ble_eq_true rfl⟩) hS (fun u40 H locs h40 hP hS => ?_)
      obtain rfl := h40
      refine lv_aload_n hx hb dX0_takesUp_43 rfl (lv_at hl 1 rfl) ?_
      refine lv_aload_n hx hb dX0_takesUp_44 rfl (lv_at hl 2 rfl) ?_
      refine wx_put (D := g.1) (cl := vwCl) (ci := 2) (v := .ref (L (26 + 2 * k0))) (ty := .object "FerroDesk$Notice") (w' := cw g L (st (chF x i ((x 15 i 0) ^^^ (shF (x 31 k0 0) ((bs x i (x 31 k0 0) 8).1)))) 12 i 0 (nI k0)) r0) (C := RX0) (T := TX0) (N := 12) hx hb hts iX0 tyX0 tyX0_ok nmX0 hown hK hP hJ hS (8 + 3 * i) (by omega) (cw_b (by omega)) rfl 2 (by decide) (hts (.fieldLink RX0 18 "FerroDesk$Board" "shown" "LFerroDesk$Notice;") (by decide +kernel)) (fun _ h9 => h9) rfl (by decide +kernel) rfl rfl (Nat.le_of_ble_eq_true rfl) dX0_takesUp_45 (cw_put (r := 12) (i := i) (j := 0) rfl (by omega) ((dk_b (by omega)).trans (by simp only [bF, st_eq, shw_nI (k := k0) (by omega)]; simp [st, va_rf]))) (fun H locs hP hS => ?_)
      refine lv_aload_n hx hb dX0_takesUp_48 rfl (lv_at hl 1 rfl) ?_
      refine lv_iload_n hx hb dX0_takesUp_49 rfl (lv_at hl 0 rfl) ?_
      refine wx_put (D := g.1) (cl := vwCl) (ci := 2) (v := .int ((bs x i (x 31 k0 0) 8).1)) (ty := .int) (w' := cw g L (st (st (chF x i ((x 15 i 0) ^^^ (shF (x 31 k0 0) ((bs x i (x 31 k0 0) 8).1)))) 12 i 0 (nI k0)) 13 i 0 ((bs x i (x 31 k0 0) 8).1)) r0) (C := RX0) (T := TX0) (N := 12) hx hb hts iX0 tyX0 tyX0_ok nmX0 hown hK hP hJ hS (8 + 3 * i) (by omega) (cw_b (by omega)) rfl 3 (by decide) (hts (.fieldLink RX0 22 "FerroDesk$Board" "shiftedBy" "I") (by decide +kernel)) (fun _ h9 => h9) rfl (by decide +kernel) rfl rfl (Nat.le_of_ble_eq_true rfl) dX0_takesUp_50 (cw_put (r := 13) (i := i) (j := 0) rfl (by omega) ((dk_b (by omega)).trans (by simp [bF, st]))) (fun H locs hP hS => ?_)
      refine lv_iconst (v := 1) hx hb dX0_takesUp_53 (by decide) ?_
      refine W.widen (k := 0) (n := 0) (Nat.le_of_ble_eq_true rfl) (Nat.le_of_ble_eq_true rfl) ?_
      exact W.zret (v := 1) hx hb hr (by decide) (fun t ht hW => ⟨⟨1, (st (st (chF x i ((x 15 i 0) ^^^ (shF (x 31 k0 0) ((bs x i (x 31 k0 0) 8).1)))) 12 i 0 (nI k0)) 13 i 0 ((bs x i (x 31 k0 0) 8).1)), rfl, Or.inr (Or.inr ⟨(fun h9 => c5 (by rw [h9]; exact shw_nI (by omega))), c21, rfl, rfl⟩), PB.mk9 hP ht⟩, hS.F ht⟩) hS.2.2 dX0_takesUp_54
    · refine lv_iconst (v := 0) hx hb dX0_takesUp_24 (by decide) ?_
      refine W.widen (k := 0) (n := 0) (Nat.le_of_ble_eq_true rfl) (Nat.le_of_ble_eq_true rfl) ?_
      exact W.zret (v := 0) hx hb hr (by decide) (fun t ht hW => ⟨⟨0, x, rfl, Or.inr (Or.inl ⟨(fun h9 => c5 (by rw [h9]; exact shw_nI (by omega))), c21, rfl, rfl⟩), PB.mk9 hP ht⟩, hS.F ht⟩) hS.2.2 dX0_takesUp_25
  · refine lv_iconst (v := 1) hx hb dX0_takesUp_8 (by decide) ?_
    refine W.widen (k := 0) (n := 0) (Nat.le_of_ble_eq_true rfl) (Nat.le_of_ble_eq_true rfl) ?_
    exact W.zret (v := 1) hx hb hr (by decide) (fun t ht hW => ⟨⟨1, x, rfl, Or.inl ⟨rfl, shw_is hJ (by omega) hk0 hsh c5, rfl⟩, PB.mk9 hP ht⟩, hS.F ht⟩) hS.2.2 dX0_takesUp_9

