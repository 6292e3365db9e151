/-! laid by wip/gen -/
set_option maxHeartbeats 4000000 in
set_option maxRecDepth 100000 in
theorem k_wearOf (l : Launch) (hst : l.stackTraces = false) (g : gE) (base n : Nat) (L : Nat → Nat) (hn : 106 ≤ n) (x : St) (r0 : Nat → va_E) (i : Nat) (hi : i < 6)  (p0 : Int32) : Met l yX0_wearOf wsX0_wearOf ({ frames := 0, cells := 0, slots := 0, locals := 0 }) (va_Pc [.ref (L (8 + 3 * i)), .int p0] (PW SS g base n L (cw g L x r0))) (va_Qi (fun (r : Int32) (_ : Unit) => r = wearF x i p0) (fun (u : Unit) t => PB g n L (cw g L x r0) t) (fun q => base ≤ q)) 0 0 (fun q => base ≤ q) := by
  refine Met.ofW (cc := cX0_wearOf) (maxL := 2) (ret := (some .int)) (by decide) rfl ?_
  intro p e s m args below meth c s₁ B hml hv
  obtain ⟨rfl, hPW⟩ := hv
  obtain ⟨hbs, hJ, hP, hK, hE⟩ := id hPW
  have hx := B.exec
  have hb := B.bytes
  have hr := B.returns
  have hts := atoms_spec (ws := wsX0_wearOf) B.pre
  have hown : s.vm.findClass RX0 = some m.cls := findClass_of_methodNamed B.named
  have hlocks := B.notSynchronized
  have hS : va_S (fun q : Nat => base ≤ q) s.heap s.heap [] := va_S.rf
  have hl := lv_entry ([.ref (L (8 + 3 * i)), .int p0]) (n := 2) (Nat.le_of_ble_eq_true rfl)
  rw [lg_entry_eq]
  generalize (lg_sl ([.ref (L (8 + 3 * i)), .int p0]) ++ List.replicate (2 - (lg_sl ([.ref (L (8 + 3 * i)), .int p0])).length) Slot.unset).toArray = ls at hl ⊢
  have hl : lv_has ls 2 [(0, .ref (L (8 + 3 * i))), (1, .int p0)] := hl
  have iX0 : ∀ w ∈ wsX00, w ∈ wsX0_wearOf := by decide +kernel
  refine lv_iload_n hx hb dX0_wearOf_0 rfl (lv_at hl 1 rfl) ?_
  refine lv_if_lt (tgt := 10) hx hb dX0_wearOf_1 (by decide) (fun c1 => ?_) (fun c1 => ?_)
  · refine lv_iconst (v := 0) hx hb dX0_wearOf_10 (by decide) ?_
    refine lv_goto (tgt := 20) hx hb dX0_wearOf_11 (by decide) ?_
    refine W.widen (k := 0) (n := 0) (Nat.le_of_ble_eq_true rfl) (Nat.le_of_ble_eq_true rfl) ?_
    exact W.iret (v := 0) hx hb hr (fun t ht hW => ⟨⟨0, (), rfl, (by simp only [wearF, c1, if_true, if_false]), PB.mk9 hP ht⟩, hS.F ht⟩) hS.2.2 dX0_wearOf_20
  · refine lv_iload_n hx hb dX0_wearOf_4 rfl (lv_at hl 1 rfl) ?_
    refine lv_bipush (v := 32) hx hb dX0_wearOf_5 (by decide) ?_
    refine lv_icmp_lt (tgt := 14) hx hb dX0_wearOf_7 (by decide) (fun c7 => ?_) (fun c7 => ?_)
    · refine lv_aload_n hx hb dX0_wearOf_14 rfl (lv_at hl 0 rfl) ?_
      refine wx_get (D := g.1) (cl := vwCl) (ci := 2) (v := .ref (L (9 + 3 * i))) (C := RX0) (T := TX0) (N := 12) hx hb hts iX0 hown hK hP (8 + 3 * i) (by omega) (cw_b (by omega)) rfl 6 (by decide) (hts (.fieldLink RX0 32 "FerroDesk$Board" "wearByCell" "[I") (by decide +kernel)) (fun _ h9 => h9) rfl dX0_wearOf_15 ?_
      refine lv_iload_n hx hb dX0_wearOf_18 rfl (lv_at hl 1 rfl) ?_
      refine wx_ialdv (D := g.1) (cl := vwCl) (f := fun j => x 20 i j) (v := x 20 i p0.toNatClampNeg) hx hb hK hP (9 + 3 * i) 0 (by omega) (cw_bw (by omega)) rfl (i := p0) (cell_in c1 c7) (rfl) dX0_wearOf_19 ?_
      refine W.widen (k := 0) (n := 0) (Nat.le_of_ble_eq_true rfl) (Nat.le_of_ble_eq_true rfl) ?_
      exact W.iret (v := x 20 i p0.toNatClampNeg) hx hb hr (fun t ht hW => ⟨⟨x 20 i p0.toNatClampNeg, (), rfl, (by simp only [wearF, c1, c7, if_true, if_false]), PB.mk9 hP ht⟩, hS.F ht⟩) hS.2.2 dX0_wearOf_20
    · refine lv_iconst (v := 0) hx hb dX0_wearOf_10 (by decide) ?_
      refine lv_goto (tgt := 20) hx hb dX0_wearOf_11 (by decide) ?_
      refine W.widen (k := 0) (n := 0) (Nat.le_of_ble_eq_true rfl) (Nat.le_of_ble_eq_true rfl) ?_
      exact W.iret (v := 0) hx hb hr (fun t ht hW => ⟨⟨0, (), rfl, (by simp only [wearF, c1, c7, if_true, if_false]), PB.mk9 hP ht⟩, hS.F ht⟩) hS.2.2 dX0_wearOf_20

set_option maxHeartbeats 4000000 in
set_option maxRecDepth 100000 in
theorem k_wearOfAll (l : Launch) (hst : l.stackTraces = false) (g : gE) (base n : Nat) (L : Nat → Nat) (hn : 106 ≤ n) (x : St) (r0 : Nat → va_E) (i : Nat) (hi : i < 6)  : Met l yX0_wearOfAll wsX0_wearOfAll ({ frames := 0, cells := 0, slots := 0, locals := 0 }) (va_Pc [.ref (L (8 + 3 * i))] (PW SS g base n L (cw g L x r0))) (va_Qi (fun (r : Int32) (_ : Unit) => r = sumW x i 32) (fun (u : Unit) t => PB g n L (cw g L x r0) t) (fun q => base ≤ q)) 0 0 (fun q => base ≤ q) := by
  refine Met.ofW (cc := cX0_wearOfAll) (maxL := 3) (ret := (some .int)) (by decide) rfl ?_
  intro p e s m args below meth c s₁ B hml hv
  obtain ⟨rfl, hPW⟩ := hv
  obtain ⟨hbs, hJ, hP, hK, hE⟩ := id hPW
  have hx := B.exec
  have hb := B.bytes
  have hr := B.returns
  have hts := atoms_spec (ws := wsX0_wearOfAll) B.pre
  have hown : s.vm.findClass RX0 = some m.cls := findClass_of_methodNamed B.named
  have hlocks := B.notSynchronized
  have hS : va_S (fun q : Nat => base ≤ q) s.heap s.heap [] := va_S.rf
  have hl := lv_entry ([.ref (L (8 + 3 * i))]) (n := 3) (Nat.le_of_ble_eq_true rfl)
  rw [lg_entry_eq]
  generalize (lg_sl ([.ref (L (8 + 3 * i))]) ++ List.replicate (3 - (lg_sl ([.ref (L (8 + 3 * i))])).length) Slot.unset).toArray = ls at hl ⊢
  have hl : lv_has ls 3 [(0, .ref (L (8 + 3 * i)))] := hl
  have iX0 : ∀ w ∈ wsX00, w ∈ wsX0_wearOfAll := by decide +kernel
  refine lv_iconst (v := 0) hx hb dX0_wearOfAll_0 (by decide) ?_
  refine lv_istore_n (lv' := [(1, .int 0), (0, .ref (L (8 + 3 * i)))]) hx hb dX0_wearOfAll_1 rfl hl (by decide) rfl (fun ls hl => ?_)
  refine lv_iconst (v := 0) hx hb dX0_wearOfAll_2 (by decide) ?_
  refine lv_istore_n (lv' := [(2, .int 0), (1, .int 0), (0, .ref (L (8 + 3 * i)))]) hx hb dX0_wearOfAll_3 rfl hl (by decide) rfl (fun ls hl => ?_)
  have key4 : ∀ (d k : Nat) (z2 : Int32) (z1 : Int32) (H : Heap) (locs : List Loc) (ls : Array Slot), k + d = 32 → (z2 = nI k) → (z1 = sumW x i k) → va_P g.1 vwCl (wl n L (cw g L x r0)) H → va_S (fun q : Nat => base ≤ q) s.heap H locs → lv_has ls 3 [(2, .int z2), (1, .int z1), (0, .ref (L (8 + 3 * i)))] → W p l e (headSpec wsX0_wearOfAll ({ frames := 0, cells := 0, slots := 0, locals := 0 })).room s m ([.ref (L (8 + 3 * i))] : List Value).toArray below meth c H locs 0 0 (MQ below (va_Qi (fun (r : Int32) (_ : Unit) => r = sumW x i 32) (fun (u : Unit) t => PB g n L (cw g L x r0) t) (fun q => base ≤ q)) ([.ref (L (8 + 3 * i))] : List Value).toArray s 0 0 (fun q => base ≤ q)) (F0 m 4 ls []) := by
    intro d
    induction d with
    | zero =>
      intro k z2 z1 H locs ls hkd ek2 ek1 hP hS hl
      obtain rfl : k = 32 := by omega
      subst ek2 ek1
      refine lv_iload_n hx hb dX0_wearOfAll_4 rfl (lv_at hl 0 rfl) ?_
      refine lv_bipush (v := 32) hx hb dX0_wearOfAll_5 (by decide) ?_
      refine lv_icmp_ge (tgt := 25) hx hb dX0_wearOfAll_7 (by decide) (fun c7 => ?_) (fun c7 => absurd (by decide) c7)
      refine lv_iload_n hx hb dX0_wearOfAll_25 rfl (lv_at hl 1 rfl) ?_
      refine W.widen (k := 0) (n := 0) (Nat.le_of_ble_eq_true rfl) (Nat.le_of_ble_eq_true rfl) ?_
      exact W.iret (v := sumW x i 32) hx hb hr (fun t ht hW => ⟨⟨sumW x i 32, (), rfl, rfl, PB.mk9 hP ht⟩, hS.F ht⟩) hS.2.2 dX0_wearOfAll_26
    | succ d ih =>
      intro k z2 z1 H locs ls hkd ek2 ek1 hP hS hl
      have hkN : k < 32 := by omega
      subst ek2 ek1
      refine lv_iload_n hx hb dX0_wearOfAll_4 rfl (lv_at hl 0 rfl) ?_
      refine lv_bipush (v := 32) hx hb dX0_wearOfAll_5 (by decide) ?_
      refine lv_icmp_ge (tgt := 25) hx hb dX0_wearOfAll_7 (by decide) (fun c7 => absurd c7 (nI_ge (b := 32) hkN (by decide))) (fun c7 => ?_)
      refine lv_iload_n hx hb dX0_wearOfAll_10 rfl (lv_at hl 1 rfl) ?_
      refine lv_aload_n hx hb dX0_wearOfAll_11 rfl (lv_at hl 2 rfl) ?_
      refine wx_get (D := g.1) (cl := vwCl) (ci := 2) (v := .ref (L (9 + 3 * i))) (C := RX0) (T := TX0) (N := 12) hx hb hts iX0 hown hK hP (8 + 3 * i) (by omega) (cw_b (by omega)) rfl 6 (by decide) (hts (.fieldLink RX0 32 "FerroDesk$Board" "wearByCell" "[I") (by decide +kernel)) (fun _ h9 => h9) rfl dX0_wearOfAll_12 ?_
      refine lv_iload_n hx hb dX0_wearOfAll_15 rfl (lv_at hl 0 rfl) ?_
      refine wx_ialdv (D := g.1) (cl := vwCl) (f := fun j => x 20 i j) (v := x 20 i ((nI k).toNatClampNeg)) hx hb hK hP (9 + 3 * i) 0 (by omega) (cw_bw (by omega)) rfl (i := nI k) (vp_in_nI hkN (by decide)) (rfl) dX0_wearOfAll_16 ?_
      refine lv_iadd hx hb dX0_wearOfAll_17 ?_
      refine lv_topi (fun z18 ez18 => ?_)
      refine lv_istore_n (lv' := [(1, .int z18), (2, .int (nI k)), (0, .ref (L (8 + 3 * i)))]) hx hb dX0_wearOfAll_18 rfl hl (by decide) rfl (fun ls hl => ?_)
      obtain ⟨z19, ez19⟩ : ∃ y : Int32, y = nI k + 1 := ⟨_, rfl⟩
      refine lv_iinc (v := z19) (lv' := [(2, .int z19), (1, .int z18), (0, .ref (L (8 + 3 * i)))]) hx hb dX0_wearOfAll_19 hl (k := 1) rfl (by rw [ez19]; rfl) (by decide) rfl (fun ls hl => ?_)
      refine lv_goto (tgt := 4) hx hb dX0_wearOfAll_22 (by decide) ?_
      exact ih (k + 1) _ _ _ _ _ (by omega) (by rw [ez19, nI_1]) (by simp only [ez18, ez19, sumW, nI_clamp (show k < 2 ^ 31 by omega)]) hP hS (lv_sub hl [0, 1, 2] rfl)
  exact key4 32 0 _ _ _ _ _ (by omega) rfl rfl hP hS (lv_sub hl [0, 1, 2] rfl)

set_option maxHeartbeats 4000000 in
set_option maxRecDepth 100000 in
theorem k_blackAnew (l : Launch) (hst : l.stackTraces = false) (g : gE) (base n : Nat) (L : Nat → Nat) (hn : 106 ≤ n) (x : St) (r0 : Nat → va_E) (i : Nat) (hi : i < 6) (tc : Nat) (htc : tc ≤ 1920) (hx19 : x 19 i 0 = nI tc) : Met l yX0_blackAnew wsX0_blackAnew ({ frames := 0, cells := 0, slots := 0, locals := 0 }) (va_Pc [.ref (L (8 + 3 * i))] (PW SS g base n L (cw g L x r0))) (va_Qi (fun (r : Int32) (_ : Unit) => r = xorF x i tc) (fun (u : Unit) t => PB g n L (cw g L x r0) t) (fun q => base ≤ q)) 0 0 (fun q => base ≤ q) := by
  refine Met.ofW (cc := cX0_blackAnew) (maxL := 3) (ret := (some .int)) (by decide) rfl ?_
  intro p e s m args below meth c s₁ B hml hv
  obtain ⟨rfl, hPW⟩ := hv
  obtain ⟨hbs, hJ, hP, hK, hE⟩ := id hPW
  have hx := B.exec
  have hb := B.bytes
  have hr := B.returns
  have hts := atoms_spec (ws := wsX0_blackAnew) B.pre
  have hown : s.vm.findClass RX0 = some m.cls := findClass_of_methodNamed B.named
  have hlocks := B.notSynchronized
  have hS : va_S (fun q : Nat => base ≤ q) s.heap s.heap [] := va_S.rf
  have hl := lv_entry ([.ref (L (8 + 3 * i))]) (n := 3) (Nat.le_of_ble_eq_true rfl)
  rw [lg_entry_eq]
  generalize (lg_sl ([.ref (L (8 + 3 * i))]) ++ List.replicate (3 - (lg_sl ([.ref (L (8 + 3 * i))])).length) Slot.unset).toArray = ls at hl ⊢
  have hl : lv_has ls 3 [(0, .ref (L (8 + 3 * i)))] := hl
  have iX0 : ∀ w ∈ wsX00, w ∈ wsX0_blackAnew := by decide +kernel
  refine lv_iconst (v := 0) hx hb dX0_blackAnew_0 (by decide) ?_
  refine lv_istore_n (lv' := [(1, .int 0), (0, .ref (L (8 + 3 * i)))]) hx hb dX0_blackAnew_1 rfl hl (by decide) rfl (fun ls hl => ?_)
  refine lv_iconst (v := 0) hx hb dX0_blackAnew_2 (by decide) ?_
  refine lv_istore_n (lv' := [(2, .int 0), (1, .int 0), (0, .ref (L (8 + 3 * i)))]) hx hb dX0_blackAnew_3 rfl hl (by decide) rfl (fun ls hl => ?_)
  have key4 : ∀ (d k : Nat) (z2 : Int32) (z1 : Int32) (H : Heap) (locs : List Loc) (ls : Array Slot), k + d = tc → (z2 = nI k) → (z1 = xorF x i k) → va_P g.1 vwCl (wl n L (cw g L x r0)) H → va_S (fun q : Nat => base ≤ q) s.heap H locs → lv_has ls 3 [(2, .int z2), (1, .int z1), (0, .ref (L (8 + 3 * i)))] → W p l e (headSpec wsX0_blackAnew ({ frames := 0, cells := 0, slots := 0, locals := 0 })).room s m ([.ref (L (8 + 3 * i))] : List Value).toArray below meth c H locs 0 0 (MQ below (va_Qi (fun (r : Int32) (_ : Unit) => r = xorF x i tc) (fun (u : Unit) t => PB g n L (cw g L x r0) t) (fun q => base ≤ q)) ([.ref (L (8 + 3 * i))] : List Value).toArray s 0 0 (fun q => base ≤ q)) (F0 m 4 ls []) := by
    intro d
    induction d with
    | zero =>
      intro k z2 z1 H locs ls hkd ek2 ek1 hP hS hl
      obtain rfl : tc = k := by omega
      subst ek2 ek1
      refine lv_iload_n hx hb dX0_blackAnew_4 rfl (lv_at hl 0 rfl) ?_
      refine lv_aload_n hx hb dX0_blackAnew_5 rfl (lv_at hl 2 rfl) ?_
      refine wx_get (D := g.1) (cl := vwCl) (ci := 2) (v := .int (x 19 i 0)) (C := RX0) (T := TX0) (N := 12) hx hb hts iX0 hown hK hP (8 + 3 * i) (by omega) (cw_b (by omega)) rfl 11 (by decide) (hts (.fieldLink RX0 48 "FerroDesk$Board" "timesChanged" "I") (by decide +kernel)) (fun _ h9 => h9) rfl dX0_blackAnew_6 ?_
      refine lv_icmp_ge (tgt := 27) hx hb dX0_blackAnew_9 (by decide) (fun c9 => ?_) (fun c9 => absurd (by rw [hx19]; exact nI_le (Nat.le_refl _) (by omega)) c9)
      refine lv_iload_n hx hb dX0_blackAnew_27 rfl (lv_at hl 1 rfl) ?_
      refine W.widen (k := 0) (n := 0) (Nat.le_of_ble_eq_true rfl) (Nat.le_of_ble_eq_true rfl) ?_
      exact W.iret (v := xorF x i tc) hx hb hr (fun t ht hW => ⟨⟨xorF x i tc, (), rfl, rfl, PB.mk9 hP ht⟩, hS.F ht⟩) hS.2.2 dX0_blackAnew_28
    | succ d ih =>
      intro k z2 z1 H locs ls hkd ek2 ek1 hP hS hl
      have hkN : k < tc := by omega
      subst ek2 ek1
      refine lv_iload_n hx hb dX0_blackAnew_4 rfl (lv_at hl 0 rfl) ?_
      refine lv_aload_n hx hb dX0_blackAnew_5 rfl (lv_at hl 2 rfl) ?_
      refine wx_get (D := g.1) (cl := vwCl) (ci := 2) (v := .int (x 19 i 0)) (C := RX0) (T := TX0) (N := 12) hx hb hts iX0 hown hK hP (8 + 3 * i) (by omega) (cw_b (by omega)) rfl 11 (by decide) (hts (.fieldLink RX0 48 "FerroDesk$Board" "timesChanged" "I") (by decide +kernel)) (fun _ h9 => h9) rfl dX0_blackAnew_6 ?_
      refine lv_icmp_ge (tgt := 27) hx hb dX0_blackAnew_9 (by decide) (fun c9 => absurd c9 (by rw [hx19]; exact nI_ge hkN (by omega))) (fun c9 => ?_)
      refine lv_iload_n hx hb dX0_blackAnew_12 rfl (lv_at hl 1 rfl) ?_
      refine lv_aload_n hx hb dX0_blackAnew_13 rfl (lv_at hl 2 rfl) ?_
      refine wx_get (D := g.1) (cl := vwCl) (ci := 2) (v := .ref (L (10 + 3 * i))) (C := RX0) (T := TX0) (N := 12) hx hb hts iX0 hown hK hP (8 + 3 * i) (by omega) (cw_b (by omega)) rfl 10 (by decide) (hts (.fieldLink RX0 45 "FerroDesk$Board" "changed" "[I") (by decide +kernel)) (fun _ h9 => h9) rfl dX0_blackAnew_14 ?_
      refine lv_iload_n hx hb dX0_blackAnew_17 rfl (lv_at hl 0 rfl) ?_
      refine wx_ialdv (D := g.1) (cl := vwCl) (f := fun j => x 21 i j) (v := x 21 i ((nI k).toNatClampNeg)) hx hb hK hP (10 + 3 * i) 0 (by omega) (cw_bc (by omega)) rfl (i := nI k) (vp_in_nI (by omega) (by decide)) (rfl) dX0_blackAnew_18 ?_
      refine lv_ixor hx hb dX0_blackAnew_19 ?_
      refine lv_topi (fun z20 ez20 => ?_)
      refine lv_istore_n (lv' := [(1, .int z20), (2, .int (nI k)), (0, .ref (L (8 + 3 * i)))]) hx hb dX0_blackAnew_20 rfl hl (by decide) rfl (fun ls hl => ?_)
      obtain ⟨z21, ez21⟩ : ∃ y : Int32, y = nI k + 1 := ⟨_, rfl⟩
      refine lv_iinc (v := z21) (lv' := [(2, .int z21), (1, .int z20), (0, .ref (L (8 + 3 * i)))]) hx hb dX0_blackAnew_21 hl (k := 1) rfl (by rw [ez21]; rfl) (by decide) rfl (fun ls hl => ?_)
      refine lv_goto (tgt := 4) hx hb dX0_blackAnew_24 (by decide) ?_
      exact ih (k + 1) _ _ _ _ _ (by omega) (by rw [ez21, nI_1]) (by simp only [ez20, ez21, xorF, nI_clamp (show k < 2 ^ 31 by omega)]) hP hS (lv_sub hl [0, 1, 2] rfl)
  exact key4 tc 0 _ _ _ _ _ (by omega) rfl rfl hP hS (lv_sub hl [0, 1, 2] rfl)

set_option maxHeartbeats 4000000 in
set_option maxRecDepth 100000 in
theorem k_canWipe (l : Launch) (hst : l.stackTraces = false) (g : gE) (base n : Nat) (L : Nat → Nat) (hn : 106 ≤ n) (x : St) (r0 : Nat → va_E) (i : Nat) (hi : i < 6)  : Met l yX0_canWipe wsX0_canWipe ({ frames := 1, cells := 0, slots := 0, locals := 40 }) (va_Pc [.ref (L (8 + 3 * i))] (PW SS g base n L (cw g L x r0))) (va_Qi (fun (r : Int32) (_ : Unit) => (r = 1 ∧ ((∀ j, j < 32 → ¬ (bitF (x 15 i 0) (nI j) = 1 ∧ 60 ≤ x 20 i j)) ∧ pcF (x 15 i 0) ≤ x 11 i 0)) ∨ (r = 0 ∧ ¬ (((∀ j, j < 32 → ¬ (bitF (x 15 i 0) (nI j) = 1 ∧ 60 ≤ x 20 i j)) ∧ pcF (x 15 i 0) ≤ x 11 i 0)))) (fun (u : Unit) t => PB g n L (cw g L x r0) t) (fun q => base ≤ q)) 0 0 (fun q => base ≤ q) := by
  refine Met.ofW (cc := cX0_canWipe) (maxL := 2) (ret := (some .boolean)) (by decide) rfl ?_
  intro p e s m args below meth c s₁ B hml hv
  obtain ⟨rfl, hPW⟩ := hv
  obtain ⟨hbs, hJ, hP, hK, hE⟩ := id hPW
  have hx := B.exec
  have hb := B.bytes
  have hr := B.returns
  have hts := atoms_spec (ws := wsX0_canWipe) B.pre
  have hown : s.vm.findClass RX0 = some m.cls := findClass_of_methodNamed B.named
  have hlocks := B.notSynchronized
  have hS : va_S (fun q : Nat => base ≤ q) s.heap s.heap [] := va_S.rf
  have hl := lv_entry ([.ref (L (8 + 3 * i))]) (n := 2) (Nat.le_of_ble_eq_true rfl)
  rw [lg_entry_eq]
  generalize (lg_sl ([.ref (L (8 + 3 * i))]) ++ List.replicate (2 - (lg_sl ([.ref (L (8 + 3 * i))])).length) Slot.unset).toArray = ls at hl ⊢
  have hl : lv_has ls 2 [(0, .ref (L (8 + 3 * i)))] := hl
  have iX0 : ∀ w ∈ wsX00, w ∈ wsX0_canWipe := by decide +kernel
  refine lv_iconst (v := 0) hx hb dX0_canWipe_0 (by decide) ?_
  refine lv_istore_n (lv' := [(1, .int 0), (0, .ref (L (8 + 3 * i)))]) hx hb dX0_canWipe_1 rfl hl (by decide) rfl (fun ls hl => ?_)
  have key2 : ∀ (d k : Nat) (z1 : Int32) (H : Heap) (locs : List Loc) (ls : Array Slot), k + d = 32 → (z1 = nI k) → (∀ j, j < k → ¬ (bitF (x 15 i 0) (nI j) = 1 ∧ 60 ≤ x 20 i j)) → va_P g.1 vwCl (wl n L (cw g L x r0)) H → va_S (fun q : Nat => base ≤ q) s.heap H locs → lv_has ls 2 [(1, .int z1), (0, .ref (L (8 + 3 * i)))] → W p l e (headSpec wsX0_canWipe ({ frames := 1, cells := 0, slots := 0, locals := 40 })).room s m ([.ref (L (8 + 3 * i))] : List Value).toArray below meth c H locs 0 0 (MQ below (va_Qi (fun (r : Int32) (_ : Unit) => (r = 1 ∧ ((∀ j, j < 32 → ¬ (bitF (x 15 i 0) (nI j) = 1 ∧ 60 ≤ x 20 i j)) ∧ pcF (x 15 i 0) ≤ x 11 i 0)) ∨ (r = 0 ∧ ¬ (((∀ j, j < 32 → ¬ (bitF (x 15 i 0) (nI j) = 1 ∧ 60 ≤ x 20 i j)) ∧ pcF (x 15 i 0) ≤ x 11 i 0)))) (fun (u : Unit) t => PB g n L (cw g L x r0) t) (fun q => base ≤ q)) ([.ref (L (8 + 3 * i))] : List Value).toArray s 0 0 (fun q => base ≤ q)) (F0 m 2 ls []) := by
    intro d
    induction d with
    | zero =>
      intro k z1 H locs ls hkd ek1 hno hP hS hl
      obtain rfl : k = 32 := by omega
      subst ek1
      refine lv_iload_n hx hb dX0_canWipe_2 rfl (lv_at hl 0 rfl) ?_
      refine lv_bipush (v := 32) hx hb dX0_canWipe_3 (by decide) ?_
      refine lv_icmp_ge (tgt := 39) hx hb dX0_canWipe_5 (by decide) (fun c5 => ?_) (fun c5 => absurd (by decide) c5)
      refine lv_aload_n hx hb dX0_canWipe_39 rfl (lv_at hl 1 rfl) ?_
      refine wx_get (D := g.1) (cl := vwCl) (ci := 2) (v := .int (x 15 i 0)) (C := RX0) (T := TX0) (N := 12) hx hb hts iX0 hown hK hP (8 + 3 * i) (by omega) (cw_b (by omega)) rfl 5 (by decide) (hts (.fieldLink RX0 29 "FerroDesk$Board" "black" "I") (by decide +kernel)) (fun _ h9 => h9) rfl dX0_canWipe_40 ?_
      refine wx_calli (va_runS (As := [.int (x 15 i 0)]) (rest := []) ⟨hx, hb, hml, hown, hts⟩ (k_bitCount l hst g base n L (cw g L x r0) (x 15 i 0)) (va_cwS 1 hts gX0_canWipe_J6_bitCount_0f7a4 rfl rfl rfl (by decide +kernel) ⟨Nat.le_of_ble_eq_true rfl, Nat.le_of_ble_eq_true rfl⟩) (hPW.preS hP hS) rfl rfl hl.1 rfl (lv_room (Nat.le_of_ble_eq_true rfl)) dX0_canWipe_43 ⟨Nat.le_of_ble_eq_true rfl, Nat.le_of_ble_eq_true rfl⟩) hS (fun r43 u43 H locs h43 hP hS => ?_)
      obtain rfl := h43
      refine lv_aload_n hx hb dX0_canWipe_46 rfl (lv_at hl 1 rfl) ?_
      refine wx_get (D := g.1) (cl := vwCl) (ci := 2) (v := .int (x 11 i 0)) (C := RX0) (T := TX0) (N := 12) hx hb hts iX0 hown hK hP (8 + 3 * i) (by omega) (cw_b (by omega)) rfl 1 (by decide) (hts (.fieldLink RX0 15 "FerroDesk$Board" "charge" "I") (by decide +kernel)) (fun _ h9 => h9) rfl dX0_canWipe_47 ?_
      refine lv_icmp_gt (tgt := 57) hx hb dX0_canWipe_50 (by decide) (fun c50 => ?_) (fun c50 => ?_)
      · refine lv_iconst (v := 0) hx hb dX0_canWipe_57 (by decide) ?_
        refine W.widen (k := 0) (n := 0) (Nat.le_of_ble_eq_true rfl) (Nat.le_of_ble_eq_true rfl) ?_
        exact W.zret (v := 0) hx hb hr (by decide) (fun t ht hW => ⟨⟨0, (), rfl, Or.inr ⟨rfl, fun h9 => absurd h9.2 (Int32.not_le.mpr c50)⟩, PB.mk9 hP ht⟩, hS.F ht⟩) hS.2.2 dX0_canWipe_58
      · refine lv_iconst (v := 1) hx hb dX0_canWipe_53 (by decide) ?_
        refine lv_goto (tgt := 58) hx hb dX0_canWipe_54 (by decide) ?_
        refine W.widen (k := 0) (n := 0) (Nat.le_of_ble_eq_true rfl) (Nat.le_of_ble_eq_true rfl) ?_
        exact W.zret (v := 1) hx hb hr (by decide) (fun t ht hW => ⟨⟨1, (), rfl, Or.inl ⟨rfl, fun j hj => hno j hj, Int32.not_lt.mp c50⟩, PB.mk9 hP ht⟩, hS.F ht⟩) hS.2.2 dX0_canWipe_58
    | succ d ih =>
      intro k z1 H locs ls hkd ek1 hno hP hS hl
      have hkN : k < 32 := by omega
      subst ek1
      refine lv_iload_n hx hb dX0_canWipe_2 rfl (lv_at hl 0 rfl) ?_
      refine lv_bipush (v := 32) hx hb dX0_canWipe_3 (by decide) ?_
      refine lv_icmp_ge (tgt := 39) hx hb dX0_canWipe_5 (by decide) (fun c5 => absurd c5 (nI_ge (b := 32) hkN (by decide))) (fun c5 => ?_)
      refine lv_aload_n hx hb dX0_canWipe_8 rfl (lv_at hl 1 rfl) ?_
      refine wx_get (D := g.1) (cl := vwCl) (ci := 2) (v := .int (x 15 i 0)) (C := RX0) (T := TX0) (N := 12) hx hb hts iX0 hown hK hP (8 + 3 * i) (by omega) (cw_b (by omega)) rfl 5 (by decide) (hts (.fieldLink RX0 29 "FerroDesk$Board" "black" "I") (by decide +kernel)) (fun _ h9 => h9) rfl dX0_canWipe_9 ?_
      refine lv_iload_n hx hb dX0_canWipe_12 rfl (lv_at hl 0 rfl) ?_
      refine wx_calli (va_runSN (As := [.int (x 15 i 0), .int (nI k)]) (rest := []) ⟨hx, hb, hml, hown, hts⟩ (k_bitOf l hst g base n L (cw g L x r0) (x 15 i 0) (nI k)) (⟨va_cnB 2 hts gX0_canWipe_X3_bitOf_n57 rfl rfl rfl (hE.1 _ (ng_in (w := (Cond.methodLinkNest "FerroDesk$Board" 57 yX3_bitOf "FerroDesk")) (by decide +kernel))) (hts (.initialized RX3) (by decide +kernel)) (by decide +kernel) ⟨Nat.le_of_ble_eq_true rfl, Nat.le_of_ble_eq_true rfl⟩, hts (.static yX3_bitOf) (by decide +kernel), trivial⟩) (hPW.preS hP hS) rfl rfl hl.1 rfl (lv_room (Nat.le_of_ble_eq_true rfl)) dX0_canWipe_13 ⟨Nat.le_of_ble_eq_true rfl, Nat.le_of_ble_eq_true rfl⟩) hS (fun r13 u13 H locs h13 hP hS => ?_)
      obtain rfl := h13
      refine lv_iconst (v := 1) hx hb dX0_canWipe_16 (by decide) ?_
      refine lv_icmp_ne (tgt := 33) hx hb dX0_canWipe_17 (by decide) (fun c17 => ?_) (fun c17 => ?_)
      · obtain ⟨z33, ez33⟩ : ∃ y : Int32, y = nI k + 1 := ⟨_, rfl⟩
        refine lv_iinc (v := z33) (lv' := [(1, .int z33), (0, .ref (L (8 + 3 * i)))]) hx hb dX0_canWipe_33 hl (k := 0) rfl (by rw [ez33]; rfl) (by decide) rfl (fun ls hl => ?_)
        refine lv_goto (tgt := 2) hx hb dX0_canWipe_36 (by decide) ?_
        exact ih (k + 1) _ _ _ _ (by omega) (by rw [ez33, nI_1]) (fun j hj => by rcases (show j < k ∨ j = k by omega) with h9 | rfl; exact hno j h9; exact (fun h9 => c17 h9.1)) hP hS (lv_sub hl [0, 1] rfl)
      · refine lv_aload_n hx hb dX0_canWipe_20 rfl (lv_at hl 1 rfl) ?_
        refine wx_get (D := g.1) (cl := vwCl) (ci := 2) (v := .ref (L (9 + 3 * i))) (C := RX0) (T := TX0) (N := 12) hx hb hts iX0 hown hK hP (8 + 3 * i) (by omega) (cw_b (by omega)) rfl 6 (by decide) (hts (.fieldLink RX0 32 "FerroDesk$Board" "wearByCell" "[I") (by decide +kernel)) (fun _ h9 => h9) rfl dX0_canWipe_21 ?_
        refine lv_iload_n hx hb dX0_canWipe_24 rfl (lv_at hl 0 rfl) ?_
        refine wx_ialdv (D := g.1) (cl := vwCl) (f := fun j => x 20 i j) (v := x 20 i ((nI k).toNatClampNeg)) hx hb hK hP (9 + 3 * i) 0 (by omega) (cw_bw (by omega)) rfl (i := nI k) (vp_in_nI hkN (by decide)) (rfl) dX0_canWipe_25 ?_
        refine lv_bipush (v := 60) hx hb dX0_canWipe_26 (by decide) ?_
        refine lv_icmp_lt (tgt := 33) hx hb dX0_canWipe_28 (by decide) (fun c28 => ?_) (fun c28 => ?_)
        · obtain ⟨z33, ez33⟩ : ∃ y : Int32, y = nI k + 1 := ⟨_, rfl⟩
          refine lv_iinc (v := z33) (lv' := [(1, .int z33), (0, .ref (L (8 + 3 * i)))]) hx hb dX0_canWipe_33 hl (k := 0) rfl (by rw [ez33]; rfl) (by decide) rfl (fun ls hl => ?_)
          refine lv_goto (tgt := 2) hx hb dX0_canWipe_36 (by decide) ?_
          exact ih (k + 1) _ _ _ _ (by omega) (by rw [ez33, nI_1]) (fun j hj => by rcases (show j < k ∨ j = k by omega) with h9 | rfl; exact hno j h9; exact (fun h9 => absurd c28 (by rw [nI_clamp (show j < 2 ^ 31 by omega)]; exact Int32.not_lt.mpr h9.2))) hP hS (lv_sub hl [0, 1] rfl)
        · refine lv_iconst (v := 0) hx hb dX0_canWipe_31 (by decide) ?_
          refine W.widen (k := 0) (n := 0) (Nat.le_of_ble_eq_true rfl) (Nat.le_of_ble_eq_true rfl) ?_
          exact W.zret (v := 0) hx hb hr (by decide) (fun t ht hW => ⟨⟨0, (), rfl, Or.inr ⟨rfl, fun h9 => h9.1 k hkN ⟨c17, by rw [nI_clamp (show k < 2 ^ 31 by omega)] at c28; exact Int32.not_lt.mp c28⟩⟩, PB.mk9 hP ht⟩, hS.F ht⟩) hS.2.2 dX0_canWipe_32
  exact key2 32 0 _ _ _ _ (by omega) rfl (fun j h => absurd h (Nat.not_lt_zero _)) hP hS (lv_sub hl [0, 1] rfl)

set_option maxHeartbeats 4000000 in
set_option maxRecDepth 100000 in
theorem k_gwb (l : Launch) (hst : l.stackTraces = false) (g : gE) (base n : Nat) (L : Nat → Nat) (hn : 106 ≤ n) (x : St) (r0 : Nat → va_E) (i : Nat) (hi : i < 6)  (p0 : Int32) : Met l yX0_greatestWearBehind wsX0_greatestWearBehind ({ frames := 0, cells := 0, slots := 0, locals := 0 }) (va_Pc [.ref (L (8 + 3 * i)), .int p0] (PW SS g base n L (cw g L x r0))) (va_Qi (fun (r : Int32) (_ : Unit) => r = gwF x i p0) (fun (u : Unit) t => PB g n L (cw g L x r0) t) (fun q => base ≤ q)) 0 0 (fun q => base ≤ q) := by
  refine Met.ofW (cc := cX0_greatestWearBehind) (maxL := 2) (ret := (some .int)) (by decide) rfl ?_
  intro p e s m args below meth c s₁ B hml hv
  obtain ⟨rfl, hPW⟩ := hv
  obtain ⟨hbs, hJ, hP, hK, hE⟩ := id hPW
  have hx := B.exec
  have hb := B.bytes
  have hr := B.returns
  have hts := atoms_spec (ws := wsX0_greatestWearBehind) B.pre
  have hown : s.vm.findClass RX0 = some m.cls := findClass_of_methodNamed B.named
  have hlocks := B.notSynchronized
  have hS : va_S (fun q : Nat => base ≤ q) s.heap s.heap [] := va_S.rf
  have hl := lv_entry ([.ref (L (8 + 3 * i)), .int p0]) (n := 2) (Nat.le_of_ble_eq_true rfl)
  rw [lg_entry_eq]
  generalize (lg_sl ([.ref (L (8 + 3 * i)), .int p0]) ++ List.replicate (2 - (lg_sl ([.ref (L (8 + 3 * i)), .int p0])).length) Slot.unset).toArray = ls at hl ⊢
  have hl : lv_has ls 2 [(0, .ref (L (8 + 3 * i))), (1, .int p0)] := hl
  have iX0 : ∀ w ∈ wsX00, w ∈ wsX0_greatestWearBehind := by decide +kernel
  refine lv_iload_n hx hb dX0_greatestWearBehind_0 rfl (lv_at hl 1 rfl) ?_
  refine lv_aload_n hx hb dX0_greatestWearBehind_1 rfl (lv_at hl 0 rfl) ?_
  refine wx_get (D := g.1) (cl := vwCl) (ci := 2) (v := .int (x 17 i 0)) (C := RX0) (T := TX0) (N := 12) hx hb hts iX0 hown hK hP (8 + 3 * i) (by omega) (cw_b (by omega)) rfl 8 (by decide) (hts (.fieldLink RX0 39 "FerroDesk$Board" "mostWorn" "I") (by decide +kernel)) (fun _ h9 => h9) rfl dX0_greatestWearBehind_2 ?_
  refine lv_iand hx hb dX0_greatestWearBehind_5 ?_
  refine lv_if_ne (tgt := 16) hx hb dX0_greatestWearBehind_6 (by decide) (fun c6 => ?_) (fun c6 => ?_)
  · refine lv_aload_n hx hb dX0_greatestWearBehind_16 rfl (lv_at hl 0 rfl) ?_
    refine wx_get (D := g.1) (cl := vwCl) (ci := 2) (v := .int (x 16 i 0)) (C := RX0) (T := TX0) (N := 12) hx hb hts iX0 hown hK hP (8 + 3 * i) (by omega) (cw_b (by omega)) rfl 7 (by decide) (hts (.fieldLink RX0 36 "FerroDesk$Board" "greatestWear" "I") (by decide +kernel)) (fun _ h9 => h9) rfl dX0_greatestWearBehind_17 ?_
    refine lv_iconst (v := 1) hx hb dX0_greatestWearBehind_20 (by decide) ?_
    refine lv_iadd hx hb dX0_greatestWearBehind_21 ?_
    refine W.widen (k := 0) (n := 0) (Nat.le_of_ble_eq_true rfl) (Nat.le_of_ble_eq_true rfl) ?_
    exact W.iret (v := (x 16 i 0) + 1) hx hb hr (fun t ht hW => ⟨⟨(x 16 i 0) + 1, (), rfl, (by simp only [gwF, c6, if_true, if_false]), PB.mk9 hP ht⟩, hS.F ht⟩) hS.2.2 dX0_greatestWearBehind_22
  · refine lv_aload_n hx hb dX0_greatestWearBehind_9 rfl (lv_at hl 0 rfl) ?_
    refine wx_get (D := g.1) (cl := vwCl) (ci := 2) (v := .int (x 16 i 0)) (C := RX0) (T := TX0) (N := 12) hx hb hts iX0 hown hK hP (8 + 3 * i) (by omega) (cw_b (by omega)) rfl 7 (by decide) (hts (.fieldLink RX0 36 "FerroDesk$Board" "greatestWear" "I") (by decide +kernel)) (fun _ h9 => h9) rfl dX0_greatestWearBehind_10 ?_
    refine lv_goto (tgt := 22) hx hb dX0_greatestWearBehind_13 (by decide) ?_
    refine W.widen (k := 0) (n := 0) (Nat.le_of_ble_eq_true rfl) (Nat.le_of_ble_eq_true rfl) ?_
    exact W.iret (v := x 16 i 0) hx hb hr (fun t ht hW => ⟨⟨x 16 i 0, (), rfl, (by simp only [gwF, c6, if_true, if_false]), PB.mk9 hP ht⟩, hS.F ht⟩) hS.2.2 dX0_greatestWearBehind_22

set_option maxHeartbeats 4000000 in
set_option maxRecDepth 100000 in
theorem k_canTurnTo (l : Launch) (hst : l.stackTraces = false) (g : gE) (base n : Nat) (L : Nat → Nat) (hn : 106 ≤ n) (x : St) (r0 : Nat → va_E) (i : Nat) (hi : i < 6)  (p0 : Int32) : Met l yX0_canTurnTo wsX0_canTurnTo ({ frames := 1, cells := 0, slots := 0, locals := 40 }) (va_Pc [.ref (L (8 + 3 * i)), .int p0] (PW SS g base n L (cw g L x r0))) (va_Qi (fun (r : Int32) (_ : Unit) => (r = 1 ∧ ctP x i p0) ∨ (r = 0 ∧ ¬ (ctP x i p0))) (fun (u : Unit) t => PB g n L (cw g L x r0) t) (fun q => base ≤ q)) 0 0 (fun q => base ≤ q) := by
  refine Met.ofW (cc := cX0_canTurnTo) (maxL := 3) (ret := (some .boolean)) (by decide) rfl ?_
  intro p e s m args below meth c s₁ B hml hv
  obtain ⟨rfl, hPW⟩ := hv
  obtain ⟨hbs, hJ, hP, hK, hE⟩ := id hPW
  have hx := B.exec
  have hb := B.bytes
  have hr := B.returns
  have hts := atoms_spec (ws := wsX0_canTurnTo) B.pre
  have hown : s.vm.findClass RX0 = some m.cls := findClass_of_methodNamed B.named
  have hlocks := B.notSynchronized
  have hS : va_S (fun q : Nat => base ≤ q) s.heap s.heap [] := va_S.rf
  have hl := lv_entry ([.ref (L (8 + 3 * i)), .int p0]) (n := 3) (Nat.le_of_ble_eq_true rfl)
  rw [lg_entry_eq]
  generalize (lg_sl ([.ref (L (8 + 3 * i)), .int p0]) ++ List.replicate (3 - (lg_sl ([.ref (L (8 + 3 * i)), .int p0])).length) Slot.unset).toArray = ls at hl ⊢
  have hl : lv_has ls 3 [(0, .ref (L (8 + 3 * i))), (1, .int p0)] := hl
  have iX0 : ∀ w ∈ wsX00, w ∈ wsX0_canTurnTo := by decide +kernel
  refine lv_aload_n hx hb dX0_canTurnTo_0 rfl (lv_at hl 0 rfl) ?_
  refine wx_get (D := g.1) (cl := vwCl) (ci := 2) (v := .int (x 15 i 0)) (C := RX0) (T := TX0) (N := 12) hx hb hts iX0 hown hK hP (8 + 3 * i) (by omega) (cw_b (by omega)) rfl 5 (by decide) (hts (.fieldLink RX0 29 "FerroDesk$Board" "black" "I") (by decide +kernel)) (fun _ h9 => h9) rfl dX0_canTurnTo_1 ?_
  refine lv_iload_n hx hb dX0_canTurnTo_4 rfl (lv_at hl 1 rfl) ?_
  refine lv_ixor hx hb dX0_canTurnTo_5 ?_
  refine lv_istore_n (lv' := [(2, .int ((x 15 i 0) ^^^ p0)), (0, .ref (L (8 + 3 * i))), (1, .int p0)]) hx hb dX0_canTurnTo_6 rfl hl (by decide) rfl (fun ls hl => ?_)
  refine lv_iload_n hx hb dX0_canTurnTo_7 rfl (lv_at hl 0 rfl) ?_
  refine lv_iload_n hx hb dX0_canTurnTo_8 rfl (lv_at hl 2 rfl) ?_
  refine lv_ior hx hb dX0_canTurnTo_9 ?_
  refine lv_aload_n hx hb dX0_canTurnTo_10 rfl (lv_at hl 1 rfl) ?_
  refine wx_get (D := g.1) (cl := vwCl) (ci := 2) (v := .int (x 18 i 0)) (C := RX0) (T := TX0) (N := 12) hx hb hts iX0 hown hK hP (8 + 3 * i) (by omega) (cw_b (by omega)) rfl 9 (by decide) (hts (.fieldLink RX0 42 "FerroDesk$Board" "wornOut" "I") (by decide +kernel)) (fun _ h9 => h9) rfl dX0_canTurnTo_11 ?_
  refine lv_iand hx hb dX0_canTurnTo_14 ?_
  refine lv_if_ne (tgt := 38) hx hb dX0_canTurnTo_15 (by decide) (fun c15 => ?_) (fun c15 => ?_)
  · refine lv_iconst (v := 0) hx hb dX0_canTurnTo_38 (by decide) ?_
    refine W.widen (k := 0) (n := 0) (Nat.le_of_ble_eq_true rfl) (Nat.le_of_ble_eq_true rfl) ?_
    exact W.zret (v := 0) hx hb hr (by decide) (fun t ht hW => ⟨⟨0, (), rfl, Or.inr ⟨rfl, fun h9 => c15 h9.1⟩, PB.mk9 hP ht⟩, hS.F ht⟩) hS.2.2 dX0_canTurnTo_39
  · refine lv_iload_n hx hb dX0_canTurnTo_18 rfl (lv_at hl 0 rfl) ?_
    refine wx_calli (va_runS (As := [.int ((x 15 i 0) ^^^ p0)]) (rest := []) ⟨hx, hb, hml, hown, hts⟩ (k_bitCount l hst g base n L (cw g L x r0) ((x 15 i 0) ^^^ p0)) (va_cwS 1 hts gX0_canTurnTo_J6_bitCount_0f7a4 rfl rfl rfl (by decide +kernel) ⟨Nat.le_of_ble_eq_true rfl, Nat.le_of_ble_eq_true rfl⟩) (hPW.preS hP hS) rfl rfl hl.1 rfl (lv_room (Nat.le_of_ble_eq_true rfl)) dX0_canTurnTo_19 ⟨Nat.le_of_ble_eq_true rfl, Nat.le_of_ble_eq_true rfl⟩) hS (fun r19 u19 H locs h19 hP hS => ?_)
    obtain rfl := h19
    refine lv_iload_n hx hb dX0_canTurnTo_22 rfl (lv_at hl 2 rfl) ?_
    refine wx_calli (va_runS (As := [.int p0]) (rest := [.int (pcF ((x 15 i 0) ^^^ p0))]) ⟨hx, hb, hml, hown, hts⟩ (k_bitCount l hst g base n L (cw g L x r0) p0) (va_cwS 1 hts gX0_canTurnTo_J6_bitCount_0f7a4 rfl rfl rfl (by decide +kernel) ⟨Nat.le_of_ble_eq_true rfl, Nat.le_of_ble_eq_true rfl⟩) (hPW.preS hP hS) rfl rfl hl.1 rfl (lv_room (Nat.le_of_ble_eq_true rfl)) dX0_canTurnTo_23 ⟨Nat.le_of_ble_eq_true rfl, Nat.le_of_ble_eq_true rfl⟩) hS (fun r23 u23 H locs h23 hP hS => ?_)
    obtain rfl := h23
    refine lv_iadd hx hb dX0_canTurnTo_26 ?_
    refine lv_aload_n hx hb dX0_canTurnTo_27 rfl (lv_at hl 1 rfl) ?_
    refine wx_get (D := g.1) (cl := vwCl) (ci := 2) (v := .int (x 11 i 0)) (C := RX0) (T := TX0) (N := 12) hx hb hts iX0 hown hK hP (8 + 3 * i) (by omega) (cw_b (by omega)) rfl 1 (by decide) (hts (.fieldLink RX0 15 "FerroDesk$Board" "charge" "I") (by decide +kernel)) (fun _ h9 => h9) rfl dX0_canTurnTo_28 ?_
    refine lv_icmp_gt (tgt := 38) hx hb dX0_canTurnTo_31 (by decide) (fun c31 => ?_) (fun c31 => ?_)
    · refine lv_iconst (v := 0) hx hb dX0_canTurnTo_38 (by decide) ?_
      refine W.widen (k := 0) (n := 0) (Nat.le_of_ble_eq_true rfl) (Nat.le_of_ble_eq_true rfl) ?_
      exact W.zret (v := 0) hx hb hr (by decide) (fun t ht hW => ⟨⟨0, (), rfl, Or.inr ⟨rfl, fun h9 => absurd h9.2 (Int32.not_le.mpr c31)⟩, PB.mk9 hP ht⟩, hS.F ht⟩) hS.2.2 dX0_canTurnTo_39
    · refine lv_iconst (v := 1) hx hb dX0_canTurnTo_34 (by decide) ?_
      refine lv_goto (tgt := 39) hx hb dX0_canTurnTo_35 (by decide) ?_
      refine W.widen (k := 0) (n := 0) (Nat.le_of_ble_eq_true rfl) (Nat.le_of_ble_eq_true rfl) ?_
      exact W.zret (v := 1) hx hb hr (by decide) (fun t ht hW => ⟨⟨1, (), rfl, Or.inl ⟨rfl, ⟨c15, Int32.not_lt.mp c31⟩⟩, PB.mk9 hP ht⟩, hS.F ht⟩) hS.2.2 dX0_canTurnTo_39

set_option maxHeartbeats 4000000 in
set_option maxRecDepth 100000 in
theorem k_wearOut (l : Launch) (hst : l.stackTraces = false) (g : gE) (base n : Nat) (L : Nat → Nat) (hn : 106 ≤ n) (x : St) (r0 : Nat → va_E) (i : Nat) (hi : i < 6)  (p0 : Int32) : Met l yX0_wearOut wsX0_wearOut ({ frames := 0, cells := 0, slots := 0, locals := 0 }) (va_Pc [.ref (L (8 + 3 * i)), .int p0] (PW SS g base n L (cw g L x r0))) (va_Qv (fun (u : St) => u = woF x i p0) (fun (u : St) t => PB g n L (cw g L u r0) t) (fun q => base ≤ q)) 0 0 (fun q => base ≤ q) := by
  refine Met.ofW (cc := cX0_wearOut) (maxL := 4) (ret := none) (by decide) rfl ?_
  intro p e s m args below meth c s₁ B hml hv
  obtain ⟨rfl, hPW⟩ := hv
  obtain ⟨hbs, hJ, hP, hK, hE⟩ := id hPW
  have hx := B.exec
  have hb := B.bytes
  have hr := B.returns
  have hts := atoms_spec (ws := wsX0_wearOut) B.pre
  have hown : s.vm.findClass RX0 = some m.cls := findClass_of_methodNamed B.named
  have hlocks := B.notSynchronized
  have hS : va_S (fun q : Nat => base ≤ q) s.heap s.heap [] := va_S.rf
  have hl := lv_entry ([.ref (L (8 + 3 * i)), .int p0]) (n := 4) (Nat.le_of_ble_eq_true rfl)
  rw [lg_entry_eq]
  generalize (lg_sl ([.ref (L (8 + 3 * i)), .int p0]) ++ List.replicate (4 - (lg_sl ([.ref (L (8 + 3 * i)), .int p0])).length) Slot.unset).toArray = ls at hl ⊢
  have hl : lv_has ls 4 [(0, .ref (L (8 + 3 * i))), (1, .int p0)] := hl
  have iX0 : ∀ w ∈ wsX00, w ∈ wsX0_wearOut := by decide +kernel
  refine lv_iload_n hx hb dX0_wearOut_0 rfl (lv_at hl 1 rfl) ?_
  refine lv_if_lt (tgt := 10) hx hb dX0_wearOut_1 (by decide) (fun c1 => ?_) (fun c1 => ?_)
  · refine W.widen (k := 0) (n := 0) (Nat.le_of_ble_eq_true rfl) (Nat.le_of_ble_eq_true rfl) ?_
    exact W.vret hx hb hr (fun t ht hW => ⟨⟨x, rfl, (woF_0 c1).symm, PB.mk9 hP ht⟩, hS.F ht⟩) hS.2.2 dX0_wearOut_10
  · refine lv_iload_n hx hb dX0_wearOut_4 rfl (lv_at hl 1 rfl) ?_
    refine lv_bipush (v := 32) hx hb dX0_wearOut_5 (by decide) ?_
    refine lv_icmp_lt (tgt := 11) hx hb dX0_wearOut_7 (by decide) (fun c7 => ?_) (fun c7 => ?_)
    · refine lv_aload_n hx hb dX0_wearOut_11 rfl (lv_at hl 0 rfl) ?_
      refine wx_get (D := g.1) (cl := vwCl) (ci := 2) (v := .ref (L (9 + 3 * i))) (C := RX0) (T := TX0) (N := 12) hx hb hts iX0 hown hK hP (8 + 3 * i) (by omega) (cw_b (by omega)) rfl 6 (by decide) (hts (.fieldLink RX0 32 "FerroDesk$Board" "wearByCell" "[I") (by decide +kernel)) (fun _ h9 => h9) rfl dX0_wearOut_12 ?_
      refine lv_iload_n hx hb dX0_wearOut_15 rfl (lv_at hl 1 rfl) ?_
      refine lv_dup2_11 hx hb dX0_wearOut_16 rfl rfl ?_
      refine wx_ialdv (D := g.1) (cl := vwCl) (f := fun j => x 20 i j) (v := x 20 i p0.toNatClampNeg) hx hb hK hP (9 + 3 * i) 0 (by omega) (cw_bw (by omega)) rfl (i := p0) (cell_in c1 c7) (rfl) dX0_wearOut_17 ?_
      refine lv_iconst (v := 1) hx hb dX0_wearOut_18 (by decide) ?_
      refine lv_iadd hx hb dX0_wearOut_19 ?_
      refine wx_iast (D := g.1) (cl := vwCl) (f := fun j => x 20 i j) (w' := cw g L (st x 20 i p0.toNatClampNeg ((x 20 i p0.toNatClampNeg) + 1)) r0) hx hb hK hP hJ hS (9 + 3 * i) 0 (by omega) (cw_bw (by omega)) rfl (i := p0) (cell_in c1 c7) dX0_wearOut_20 (cw_stw (by omega)) (fun H locs hP hS => ?_)
      refine lv_aload_n hx hb dX0_wearOut_21 rfl (lv_at hl 0 rfl) ?_
      refine wx_get (D := g.1) (cl := vwCl) (ci := 2) (v := .ref (L (9 + 3 * i))) (C := RX0) (T := TX0) (N := 12) hx hb hts iX0 hown hK hP (8 + 3 * i) (by omega) (cw_b (by omega)) rfl 6 (by decide) (hts (.fieldLink RX0 32 "FerroDesk$Board" "wearByCell" "[I") (by decide +kernel)) (fun _ h9 => h9) rfl dX0_wearOut_22 ?_
      refine lv_iload_n hx hb dX0_wearOut_25 rfl (lv_at hl 1 rfl) ?_
      refine wx_ialdv (D := g.1) (cl := vwCl) (f := fun j => (st x 20 i p0.toNatClampNeg ((x 20 i p0.toNatClampNeg) + 1)) 20 i j) (v := (st x 20 i p0.toNatClampNeg ((x 20 i p0.toNatClampNeg) + 1)) 20 i p0.toNatClampNeg) hx hb hK hP (9 + 3 * i) 0 (by omega) (cw_bw (by omega)) rfl (i := p0) (cell_in c1 c7) (rfl) dX0_wearOut_26 ?_
      refine lv_istore_n (lv' := [(2, .int ((st x 20 i p0.toNatClampNeg ((x 20 i p0.toNatClampNeg) + 1)) 20 i p0.toNatClampNeg)), (0, .ref (L (8 + 3 * i))), (1, .int p0)]) hx hb dX0_wearOut_27 rfl hl (by decide) rfl (fun ls hl => ?_)
      refine lv_iconst (v := 1) hx hb dX0_wearOut_28 (by decide) ?_
      refine lv_iload_n hx hb dX0_wearOut_29 rfl (lv_at hl 2 rfl) ?_
      refine lv_ishl hx hb dX0_wearOut_30 ?_
      refine lv_istore_n (lv' := [(3, .int (1 <<< (p0 &&& 31))), (2, .int ((st x 20 i p0.toNatClampNeg ((x 20 i p0.toNatClampNeg) + 1)) 20 i p0.toNatClampNeg)), (0, .ref (L (8 + 3 * i))), (1, .int p0)]) hx hb dX0_wearOut_31 rfl hl (by decide) rfl (fun ls hl => ?_)
      refine lv_iload_n hx hb dX0_wearOut_32 rfl (lv_at hl 1 rfl) ?_
      refine lv_aload_n hx hb dX0_wearOut_33 rfl (lv_at hl 2 rfl) ?_
      refine wx_get (D := g.1) (cl := vwCl) (ci := 2) (v := .int ((st x 20 i p0.toNatClampNeg ((x 20 i p0.toNatClampNeg) + 1)) 16 i 0)) (C := RX0) (T := TX0) (N := 12) hx hb hts iX0 hown hK hP (8 + 3 * i) (by omega) (cw_b (by omega)) rfl 7 (by decide) (hts (.fieldLink RX0 36 "FerroDesk$Board" "greatestWear" "I") (by decide +kernel)) (fun _ h9 => h9) rfl dX0_wearOut_34 ?_
      refine lv_icmp_le (tgt := 50) hx hb dX0_wearOut_37 (by decide) (fun c37 => ?_) (fun c37 => ?_)
      · refine lv_iload_n hx hb dX0_wearOut_50 rfl (lv_at hl 1 rfl) ?_
        refine lv_aload_n hx hb dX0_wearOut_51 rfl (lv_at hl 2 rfl) ?_
        refine wx_get (D := g.1) (cl := vwCl) (ci := 2) (v := .int ((st x 20 i p0.toNatClampNeg ((x 20 i p0.toNatClampNeg) + 1)) 16 i 0)) (C := RX0) (T := TX0) (N := 12) hx hb hts iX0 hown hK hP (8 + 3 * i) (by omega) (cw_b (by omega)) rfl 7 (by decide) (hts (.fieldLink RX0 36 "FerroDesk$Board" "greatestWear" "I") (by decide +kernel)) (fun _ h9 => h9) rfl dX0_wearOut_52 ?_
        refine lv_icmp_ne (tgt := 68) hx hb dX0_wearOut_55 (by decide) (fun c55 => ?_) (fun c55 => ?_)
        · refine lv_iload_n hx hb dX0_wearOut_68 rfl (lv_at hl 1 rfl) ?_
          refine lv_bipush (v := 60) hx hb dX0_wearOut_69 (by decide) ?_
          refine lv_icmp_lt (tgt := 84) hx hb dX0_wearOut_71 (by decide) (fun c71 => ?_) (fun c71 => ?_)
          · refine W.widen (k := 0) (n := 0) (Nat.le_of_ble_eq_true rfl) (Nat.le_of_ble_eq_true rfl) ?_
            exact W.vret hx hb hr (fun t ht hW => ⟨⟨(st x 20 i p0.toNatClampNeg ((x 20 i p0.toNatClampNeg) + 1)), rfl, (by rw [woF_2 c1 c7]; unfold wo5 wo1; rw [wo2_t c37, wo3_f c55, wo4_t c71]), PB.mk9 hP ht⟩, hS.F ht⟩) hS.2.2 dX0_wearOut_84
          · refine lv_aload_n hx hb dX0_wearOut_74 rfl (lv_at hl 2 rfl) ?_
            refine lv_dup hx hb dX0_wearOut_75 rfl ?_
            refine wx_get (D := g.1) (cl := vwCl) (ci := 2) (v := .int ((st x 20 i p0.toNatClampNeg ((x 20 i p0.toNatClampNeg) + 1)) 18 i 0)) (C := RX0) (T := TX0) (N := 12) hx hb hts iX0 hown hK hP (8 + 3 * i) (by omega) (cw_b (by omega)) rfl 9 (by decide) (hts (.fieldLink RX0 42 "FerroDesk$Board" "wornOut" "I") (by decide +kernel)) (fun _ h9 => h9) rfl dX0_wearOut_76 ?_
            refine lv_iload_n hx hb dX0_wearOut_79 rfl (lv_at hl 0 rfl) ?_
            refine lv_ior hx hb dX0_wearOut_80 ?_
            refine wx_put (D := g.1) (cl := vwCl) (ci := 2) (v := .int (((st x 20 i p0.toNatClampNeg ((x 20 i p0.toNatClampNeg) + 1)) 18 i 0) ||| (1 <<< (p0 &&& 31)))) (ty := .int) (w' := cw g L (st (st x 20 i p0.toNatClampNeg ((x 20 i p0.toNatClampNeg) + 1)) 18 i 0 (((st x 20 i p0.toNatClampNeg ((x 20 i p0.toNatClampNeg) + 1)) 18 i 0) ||| (1 <<< (p0 &&& 31)))) r0) (C := RX0) (T := TX0) (N := 12) hx hb hts iX0 tyX0 tyX0_ok nmX0 hown hK hP hJ hS (8 + 3 * i) (by omega) (cw_b (by omega)) rfl 9 (by decide) (hts (.fieldLink RX0 42 "FerroDesk$Board" "wornOut" "I") (by decide +kernel)) (fun _ h9 => h9) rfl (by decide +kernel) rfl rfl (Nat.le_of_ble_eq_true rfl) dX0_wearOut_81 (cw_put (r := 18) (i := i) (j := 0) rfl (by omega) ((dk_b (by omega)).trans (by simp [bF, st]))) (fun H locs hP hS => ?_)
            refine W.widen (k := 0) (n := 0) (Nat.le_of_ble_eq_true rfl) (Nat.le_of_ble_eq_true rfl) ?_
            exact W.vret hx hb hr (fun t ht hW => ⟨⟨(st (st x 20 i p0.toNatClampNeg ((x 20 i p0.toNatClampNeg) + 1)) 18 i 0 (((st x 20 i p0.toNatClampNeg ((x 20 i p0.toNatClampNeg) + 1)) 18 i 0) ||| (1 <<< (p0 &&& 31)))), rfl, (by rw [woF_2 c1 c7]; unfold wo5 wo1; rw [wo2_t c37, wo3_f c55, wo4_f c71]), PB.mk9 hP ht⟩, hS.F ht⟩) hS.2.2 dX0_wearOut_84
        · refine lv_aload_n hx hb dX0_wearOut_58 rfl (lv_at hl 2 rfl) ?_
          refine lv_dup hx hb dX0_wearOut_59 rfl ?_
          refine wx_get (D := g.1) (cl := vwCl) (ci := 2) (v := .int ((st x 20 i p0.toNatClampNeg ((x 20 i p0.toNatClampNeg) + 1)) 17 i 0)) (C := RX0) (T := TX0) (N := 12) hx hb hts iX0 hown hK hP (8 + 3 * i) (by omega) (cw_b (by omega)) rfl 8 (by decide) (hts (.fieldLink RX0 39 "FerroDesk$Board" "mostWorn" "I") (by decide +kernel)) (fun _ h9 => h9) rfl dX0_wearOut_60 ?_
          refine lv_iload_n hx hb dX0_wearOut_63 rfl (lv_at hl 0 rfl) ?_
          refine lv_ior hx hb dX0_wearOut_64 ?_
          refine wx_put (D := g.1) (cl := vwCl) (ci := 2) (v := .int (((st x 20 i p0.toNatClampNeg ((x 20 i p0.toNatClampNeg) + 1)) 17 i 0) ||| (1 <<< (p0 &&& 31)))) (ty := .int) (w' := cw g L (st (st x 20 i p0.toNatClampNeg ((x 20 i p0.toNatClampNeg) + 1)) 17 i 0 (((st x 20 i p0.toNatClampNeg ((x 20 i p0.toNatClampNeg) + 1)) 17 i 0) ||| (1 <<< (p0 &&& 31)))) r0) (C := RX0) (T := TX0) (N := 12) hx hb hts iX0 tyX0 tyX0_ok nmX0 hown hK hP hJ hS (8 + 3 * i) (by omega) (cw_b (by omega)) rfl 8 (by decide) (hts (.fieldLink RX0 39 "FerroDesk$Board" "mostWorn" "I") (by decide +kernel)) (fun _ h9 => h9) rfl (by decide +kernel) rfl rfl (Nat.le_of_ble_eq_true rfl) dX0_wearOut_65 (cw_put (r := 17) (i := i) (j := 0) rfl (by omega) ((dk_b (by omega)).trans (by simp [bF, st]))) (fun H locs hP hS => ?_)
          refine lv_iload_n hx hb dX0_wearOut_68 rfl (lv_at hl 1 rfl) ?_
          refine lv_bipush (v := 60) hx hb dX0_wearOut_69 (by decide) ?_
          refine lv_icmp_lt (tgt := 84) hx hb dX0_wearOut_71 (by decide) (fun c71 => ?_) (fun c71 => ?_)
          · refine W.widen (k := 0) (n := 0) (Nat.le_of_ble_eq_true rfl) (Nat.le_of_ble_eq_true rfl) ?_
            exact W.vret hx hb hr (fun t ht hW => ⟨⟨(st (st x 20 i p0.toNatClampNeg ((x 20 i p0.toNatClampNeg) + 1)) 17 i 0 (((st x 20 i p0.toNatClampNeg ((x 20 i p0.toNatClampNeg) + 1)) 17 i 0) ||| (1 <<< (p0 &&& 31)))), rfl, (by rw [woF_2 c1 c7]; unfold wo5 wo1; rw [wo2_t c37, wo3_t c55, wo4_t c71]), PB.mk9 hP ht⟩, hS.F ht⟩) hS.2.2 dX0_wearOut_84
          · refine lv_aload_n hx hb dX0_wearOut_74 rfl (lv_at hl 2 rfl) ?_
            refine lv_dup hx hb dX0_wearOut_75 rfl ?_
            refine wx_get (D := g.1) (cl := vwCl) (ci := 2) (v := .int ((st (st x 20 i p0.toNatClampNeg ((x 20 i p0.toNatClampNeg) + 1)) 17 i 0 (((st x 20 i p0.toNatClampNeg ((x 20 i p0.toNatClampNeg) + 1)) 17 i 0) ||| (1 <<< (p0 &&& 31)))) 18 i 0)) (C := RX0) (T := TX0) (N := 12) hx hb hts iX0 hown hK hP (8 + 3 * i) (by omega) (cw_b (by omega)) rfl 9 (by decide) (hts (.fieldLink RX0 42 "FerroDesk$Board" "wornOut" "I") (by decide +kernel)) (fun _ h9 => h9) rfl dX0_wearOut_76 ?_
            refine lv_iload_n hx hb dX0_wearOut_79 rfl (lv_at hl 0 rfl) ?_
            refine lv_ior hx hb dX0_wearOut_80 ?_
            refine wx_put (D := g.1) (cl := vwCl) (ci := 2) (v := .int (((st (st x 20 i p0.toNatClampNeg ((x 20 i p0.toNatClampNeg) + 1)) 17 i 0 (((st x 20 i p0.toNatClampNeg ((x 20 i p0.toNatClampNeg) + 1)) 17 i 0) ||| (1 <<< (p0 &&& 31)))) 18 i 0) ||| (1 <<< (p0 &&& 31)))) (ty := .int) (w' := cw g L (st (st (st x 20 i p0.toNatClampNeg ((x 20 i p0.toNatClampNeg) + 1)) 17 i 0 (((st x 20 i p0.toNatClampNeg ((x 20 i p0.toNatClampNeg) + 1)) 17 i 0) ||| (1 <<< (p0 &&& 31)))) 18 i 0 (((st (st x 20 i p0.toNatClampNeg ((x 20 i p0.toNatClampNeg) + 1)) 17 i 0 (((st x 20 i p0.toNatClampNeg ((x 20 i p0.toNatClampNeg) + 1)) 17 i 0) ||| (1 <<< (p0 &&& 31)))) 18 i 0) ||| (1 <<< (p0 &&& 31)))) r0) (C := RX0) (T := TX0) (N := 12) hx hb hts iX0 tyX0 tyX0_ok nmX0 hown hK hP hJ hS (8 + 3 * i) (by omega) (cw_b (by omega)) rfl 9 (by decide) (hts (.fieldLink RX0 42 "FerroDesk$Board" "wornOut" "I") (by decide +kernel)) (fun _ h9 => h9) rfl (by decide +kernel) rfl rfl (Nat.le_of_ble_eq_true rfl) dX0_wearOut_81 (cw_put (r := 18) (i := i) (j := 0) rfl (by omega) ((dk_b (by omega)).trans (by simp [bF, st]))) (fun H locs hP hS => ?_)
            refine W.widen (k := 0) (n := 0) (Nat.le_of_ble_eq_true rfl) (Nat.le_of_ble_eq_true rfl) ?_
            exact W.vret hx hb hr (fun t ht hW => ⟨⟨(st (st (st x 20 i p0.toNatClampNeg ((x 20 i p0.toNatClampNeg) + 1)) 17 i 0 (((st x 20 i p0.toNatClampNeg ((x 20 i p0.toNatClampNeg) + 1)) 17 i 0) ||| (1 <<< (p0 &&& 31)))) 18 i 0 (((st (st x 20 i p0.toNatClampNeg ((x 20 i p0.toNatClampNeg) + 1)) 17 i 0 (((st x 20 i p0.toNatClampNeg ((x 20 i p0.toNatClampNeg) + 1)) 17 i 0) ||| (1 <<< (p0 &&& 31)))) 18 i 0) ||| (1 <<< (p0 &&& 31)))), rfl, (by rw [woF_2 c1 c7]; unfold wo5 wo1; rw [wo2_t c37, wo3_t c55, wo4_f c71]), PB.mk9 hP ht⟩, hS.F ht⟩) hS.2.2 dX0_wearOut_84
      · refine lv_aload_n hx hb dX0_wearOut_40 rfl (lv_at hl 2 rfl) ?_
        refine lv_iload_n hx hb dX0_wearOut_41 rfl (lv_at hl 1 rfl) ?_
        refine wx_put (D := g.1) (cl := vwCl) (ci := 2) (v := .int ((st x 20 i p0.toNatClampNeg ((x 20 i p0.toNatClampNeg) + 1)) 20 i p0.toNatClampNeg)) (ty := .int) (w' := cw g L (st (st x 20 i p0.toNatClampNeg ((x 20 i p0.toNatClampNeg) + 1)) 16 i 0 ((st x 20 i p0.toNatClampNeg ((x 20 i p0.toNatClampNeg) + 1)) 20 i p0.toNatClampNeg)) r0) (C := RX0) (T := TX0) (N := 12) hx hb hts iX0 tyX0 tyX0_ok nmX0 hown hK hP hJ hS (8 + 3 * i) (by omega) (cw_b (by omega)) rfl 7 (by decide) (hts (.fieldLink RX0 36 "FerroDesk$Board" "greatestWear" "I") (by decide +kernel)) (fun _ h9 => h9) rfl (by decide +kernel) rfl rfl (Nat.le_of_ble_eq_true rfl) dX0_wearOut_42 (cw_put (r := 16) (i := i) (j := 0) rfl (by omega) ((dk_b (by omega)).trans (by simp [bF, st]))) (fun H locs hP hS => ?_)
        refine lv_aload_n hx hb dX0_wearOut_45 rfl (lv_at hl 2 rfl) ?_
        refine lv_iconst (v := 0) hx hb dX0_wearOut_46 (by decide) ?_
        refine wx_put (D := g.1) (cl := vwCl) (ci := 2) (v := .int 0) (ty := .int) (w' := cw g L (st (st (st x 20 i p0.toNatClampNeg ((x 20 i p0.toNatClampNeg) + 1)) 16 i 0 ((st x 20 i p0.toNatClampNeg ((x 20 i p0.toNatClampNeg) + 1)) 20 i p0.toNatClampNeg)) 17 i 0 0) r0) (C := RX0) (T := TX0) (N := 12) hx hb hts iX0 tyX0 tyX0_ok nmX0 hown hK hP hJ hS (8 + 3 * i) (by omega) (cw_b (by omega)) rfl 8 (by decide) (hts (.fieldLink RX0 39 "FerroDesk$Board" "mostWorn" "I") (by decide +kernel)) (fun _ h9 => h9) rfl (by decide +kernel) rfl rfl (Nat.le_of_ble_eq_true rfl) dX0_wearOut_47 (cw_put (r := 17) (i := i) (j := 0) rfl (by omega) ((dk_b (by omega)).trans (by simp [bF, st]))) (fun H locs hP hS => ?_)
        refine lv_iload_n hx hb dX0_wearOut_50 rfl (lv_at hl 1 rfl) ?_
        refine lv_aload_n hx hb dX0_wearOut_51 rfl (lv_at hl 2 rfl) ?_
        refine wx_get (D := g.1) (cl := vwCl) (ci := 2) (v := .int ((st (st (st x 20 i p0.toNatClampNeg ((x 20 i p0.toNatClampNeg) + 1)) 16 i 0 ((st x 20 i p0.toNatClampNeg ((x 20 i p0.toNatClampNeg) + 1)) 20 i p0.toNatClampNeg)) 17 i 0 0) 16 i 0)) (C := RX0) (T := TX0) (N := 12) hx hb hts iX0 hown hK hP (8 + 3 * i) (by omega) (cw_b (by omega)) rfl 7 (by decide) (hts (.fieldLink RX0 36 "FerroDesk$Board" "greatestWear" "I") (by decide +kernel)) (fun _ h9 => h9) rfl dX0_wearOut_52 ?_
        refine lv_icmp_ne (tgt := 68) hx hb dX0_wearOut_55 (by decide) (fun c55 => ?_) (fun c55 => ?_)
        · refine lv_iload_n hx hb dX0_wearOut_68 rfl (lv_at hl 1 rfl) ?_
          refine lv_bipush (v := 60) hx hb dX0_wearOut_69 (by decide) ?_
          refine lv_icmp_lt (tgt := 84) hx hb dX0_wearOut_71 (by decide) (fun c71 => ?_) (fun c71 => ?_)
          · refine W.widen (k := 0) (n := 0) (Nat.le_of_ble_eq_true rfl) (Nat.le_of_ble_eq_true rfl) ?_
            exact W.vret hx hb hr (fun t ht hW => ⟨⟨(st (st (st x 20 i p0.toNatClampNeg ((x 20 i p0.toNatClampNeg) + 1)) 16 i 0 ((st x 20 i p0.toNatClampNeg ((x 20 i p0.toNatClampNeg) + 1)) 20 i p0.toNatClampNeg)) 17 i 0 0), rfl, (by rw [woF_2 c1 c7]; unfold wo5 wo1; rw [wo2_f c37, wo3_f c55, wo4_t c71]), PB.mk9 hP ht⟩, hS.F ht⟩) hS.2.2 dX0_wearOut_84
          · refine lv_aload_n hx hb dX0_wearOut_74 rfl (lv_at hl 2 rfl) ?_
            refine lv_dup hx hb dX0_wearOut_75 rfl ?_
            refine wx_get (D := g.1) (cl := vwCl) (ci := 2) (v := .int ((st (st (st x 20 i p0.toNatClampNeg ((x 20 i p0.toNatClampNeg) + 1)) 16 i 0 ((st x 20 i p0.toNatClampNeg ((x 20 i p0.toNatClampNeg) + 1)) 20 i p0.toNatClampNeg)) 17 i 0 0) 18 i 0)) (C := RX0) (T := TX0) (N := 12) hx hb hts iX0 hown hK hP (8 + 3 * i) (by omega) (cw_b (by omega)) rfl 9 (by decide) (hts (.fieldLink RX0 42 "FerroDesk$Board" "wornOut" "I") (by decide +kernel)) (fun _ h9 => h9) rfl dX0_wearOut_76 ?_
            refine lv_iload_n hx hb dX0_wearOut_79 rfl (lv_at hl 0 rfl) ?_
            refine lv_ior hx hb dX0_wearOut_80 ?_
            refine wx_put (D := g.1) (cl := vwCl) (ci := 2) (v := .int (((st (st (st x 20 i p0.toNatClampNeg ((x 20 i p0.toNatClampNeg) + 1)) 16 i 0 ((st x 20 i p0.toNatClampNeg ((x 20 i p0.toNatClampNeg) + 1)) 20 i p0.toNatClampNeg)) 17 i 0 0) 18 i 0) ||| (1 <<< (p0 &&& 31)))) (ty := .int) (w' := cw g L (st (st (st (st x 20 i p0.toNatClampNeg ((x 20 i p0.toNatClampNeg) + 1)) 16 i 0 ((st x 20 i p0.toNatClampNeg ((x 20 i p0.toNatClampNeg) + 1)) 20 i p0.toNatClampNeg)) 17 i 0 0) 18 i 0 (((st (st (st x 20 i p0.toNatClampNeg ((x 20 i p0.toNatClampNeg) + 1)) 16 i 0 ((st x 20 i p0.toNatClampNeg ((x 20 i p0.toNatClampNeg) + 1)) 20 i p0.toNatClampNeg)) 17 i 0 0) 18 i 0) ||| (1 <<< (p0 &&& 31)))) r0) (C := RX0) (T := TX0) (N := 12) hx hb hts iX0 tyX0 tyX0_ok nmX0 hown hK hP hJ hS (8 + 3 * i) (by omega) (cw_b (by omega)) rfl 9 (by decide) (hts (.fieldLink RX0 42 "FerroDesk$Board" "wornOut" "I") (by decide +kernel)) (fun _ h9 => h9) rfl (by decide +kernel) rfl rfl (Nat.le_of_ble_eq_true rfl) dX0_wearOut_81 (cw_put (r := 18) (i := i) (j := 0) rfl (by omega) ((dk_b (by omega)).trans (by simp [bF, st]))) (fun H locs hP hS => ?_)
            refine W.widen (k := 0) (n := 0) (Nat.le_of_ble_eq_true rfl) (Nat.le_of_ble_eq_true rfl) ?_
            exact W.vret hx hb hr (fun t ht hW => ⟨⟨(st (st (st (st x 20 i p0.toNatClampNeg ((x 20 i p0.toNatClampNeg) + 1)) 16 i 0 ((st x 20 i p0.toNatClampNeg ((x 20 i p0.toNatClampNeg) + 1)) 20 i p0.toNatClampNeg)) 17 i 0 0) 18 i 0 (((st (st (st x 20 i p0.toNatClampNeg ((x 20 i p0.toNatClampNeg) + 1)) 16 i 0 ((st x 20 i p0.toNatClampNeg ((x 20 i p0.toNatClampNeg) + 1)) 20 i p0.toNatClampNeg)) 17 i 0 0) 18 i 0) ||| (1 <<< (p0 &&& 31)))), rfl, (by rw [woF_2 c1 c7]; unfold wo5 wo1; rw [wo2_f c37, wo3_f c55, wo4_f c71]), PB.mk9 hP ht⟩, hS.F ht⟩) hS.2.2 dX0_wearOut_84
        · refine lv_aload_n hx hb dX0_wearOut_58 rfl (lv_at hl 2 rfl) ?_
          refine lv_dup hx hb dX0_wearOut_59 rfl ?_
          refine wx_get (D := g.1) (cl := vwCl) (ci := 2) (v := .int ((st (st (st x 20 i p0.toNatClampNeg ((x 20 i p0.toNatClampNeg) + 1)) 16 i 0 ((st x 20 i p0.toNatClampNeg ((x 20 i p0.toNatClampNeg) + 1)) 20 i p0.toNatClampNeg)) 17 i 0 0) 17 i 0)) (C := RX0) (T := TX0) (N := 12) hx hb hts iX0 hown hK hP (8 + 3 * i) (by omega) (cw_b (by omega)) rfl 8 (by decide) (hts (.fieldLink RX0 39 "FerroDesk$Board" "mostWorn" "I") (by decide +kernel)) (fun _ h9 => h9) rfl dX0_wearOut_60 ?_
          refine lv_iload_n hx hb dX0_wearOut_63 rfl (lv_at hl 0 rfl) ?_
          refine lv_ior hx hb dX0_wearOut_64 ?_
          refine wx_put (D := g.1) (cl := vwCl) (ci := 2) (v := .int (((st (st (st x 20 i p0.toNatClampNeg ((x 20 i p0.toNatClampNeg) + 1)) 16 i 0 ((st x 20 i p0.toNatClampNeg ((x 20 i p0.toNatClampNeg) + 1)) 20 i p0.toNatClampNeg)) 17 i 0 0) 17 i 0) ||| (1 <<< (p0 &&& 31)))) (ty := .int) (w' := cw g L (st (st (st (st x 20 i p0.toNatClampNeg ((x 20 i p0.toNatClampNeg) + 1)) 16 i 0 ((st x 20 i p0.toNatClampNeg ((x 20 i p0.toNatClampNeg) + 1)) 20 i p0.toNatClampNeg)) 17 i 0 0) 17 i 0 (((st (st (st x 20 i p0.toNatClampNeg ((x 20 i p0.toNatClampNeg) + 1)) 16 i 0 ((st x 20 i p0.toNatClampNeg ((x 20 i p0.toNatClampNeg) + 1)) 20 i p0.toNatClampNeg)) 17 i 0 0) 17 i 0) ||| (1 <<< (p0 &&& 31)))) r0) (C := RX0) (T := TX0) (N := 12) hx hb hts iX0 tyX0 tyX0_ok nmX0 hown hK hP hJ hS (8 + 3 * i) (by omega) (cw_b (by omega)) rfl 8 (by decide) (hts (.fieldLink RX0 39 "FerroDesk$Board" "mostWorn" "I") (by decide +kernel)) (fun _ h9 => h9) rfl (by decide +kernel) rfl rfl (Nat.le_of_ble_eq_true rfl) dX0_wearOut_65 (cw_put (r := 17) (i := i) (j := 0) rfl (by omega) ((dk_b (by omega)).trans (by simp [bF, st]))) (fun H locs hP hS => ?_)
          refine lv_iload_n hx hb dX0_wearOut_68 rfl (lv_at hl 1 rfl) ?_
          refine lv_bipush (v := 60) hx hb dX0_wearOut_69 (by decide) ?_
          refine lv_icmp_lt (tgt := 84) hx hb dX0_wearOut_71 (by decide) (fun c71 => ?_) (fun c71 => ?_)
          · refine W.widen (k := 0) (n := 0) (Nat.le_of_ble_eq_true rfl) (Nat.le_of_ble_eq_true rfl) ?_
            exact W.vret hx hb hr (fun t ht hW => ⟨⟨(st (st (st (st x 20 i p0.toNatClampNeg ((x 20 i p0.toNatClampNeg) + 1)) 16 i 0 ((st x 20 i p0.toNatClampNeg ((x 20 i p0.toNatClampNeg) + 1)) 20 i p0.toNatClampNeg)) 17 i 0 0) 17 i 0 (((st (st (st x 20 i p0.toNatClampNeg ((x 20 i p0.toNatClampNeg) + 1)) 16 i 0 ((st x 20 i p0.toNatClampNeg ((x 20 i p0.toNatClampNeg) + 1)) 20 i p0.toNatClampNeg)) 17 i 0 0) 17 i 0) ||| (1 <<< (p0 &&& 31)))), rfl, (by rw [woF_2 c1 c7]; unfold wo5 wo1; rw [wo2_f c37, wo3_t c55, wo4_t c71]), PB.mk9 hP ht⟩, hS.F ht⟩) hS.2.2 dX0_wearOut_84
          · refine lv_aload_n hx hb dX0_wearOut_74 rfl (lv_at hl 2 rfl) ?_
            refine lv_dup hx hb dX0_wearOut_75 rfl ?_
            refine wx_get (D := g.1) (cl := vwCl) (ci := 2) (v := .int ((st (st (st (st x 20 i p0.toNatClampNeg ((x 20 i p0.toNatClampNeg) + 1)) 16 i 0 ((st x 20 i p0.toNatClampNeg ((x 20 i p0.toNatClampNeg) + 1)) 20 i p0.toNatClampNeg)) 17 i 0 0) 17 i 0 (((st (st (st x 20 i p0.toNatClampNeg ((x 20 i p0.toNatClampNeg) + 1)) 16 i 0 ((st x 20 i p0.toNatClampNeg ((x 20 i p0.toNatClampNeg) + 1)) 20 i p0.toNatClampNeg)) 17 i 0 0) 17 i 0) ||| (1 <<< (p0 &&& 31)))) 18 i 0)) (C := RX0) (T := TX0) (N := 12) hx hb hts iX0 hown hK hP (8 + 3 * i) (by omega) (cw_b (by omega)) rfl 9 (by decide) (hts (.fieldLink RX0 42 "FerroDesk$Board" "wornOut" "I") (by decide +kernel)) (fun _ h9 => h9) rfl dX0_wearOut_76 ?_
            refine lv_iload_n hx hb dX0_wearOut_79 rfl (lv_at hl 0 rfl) ?_
            refine lv_ior hx hb dX0_wearOut_80 ?_
            refine wx_put (D := g.1) (cl := vwCl) (ci := 2) (v := .int (((st (st (st (st x 20 i p0.toNatClampNeg ((x 20 i p0.toNatClampNeg) + 1)) 16 i 0 ((st x 20 i p0.toNatClampNeg ((x 20 i p0.toNatClampNeg) + 1)) 20 i p0.toNatClampNeg)) 17 i 0 0) 17 i 0 (((st (st (st x 20 i p0.toNatClampNeg ((x 20 i p0.toNatClampNeg) + 1)) 16 i 0 ((st x 20 i p0.toNatClampNeg ((x 20 i p0.toNatClampNeg) + 1)) 20 i p0.toNatClampNeg)) 17 i 0 0) 17 i 0) ||| (1 <<< (p0 &&& 31)))) 18 i 0) ||| (1 <<< (p0 &&& 31)))) (ty := .int) (w' := cw g L (st (st (st (st (st x 20 i p0.toNatClampNeg ((x 20 i p0.toNatClampNeg) + 1)) 16 i 0 ((st x 20 i p0.toNatClampNeg ((x 20 i p0.toNatClampNeg) + 1)) 20 i p0.toNatClampNeg)) 17 i 0 0) 17 i 0 (((st (st (st x 20 i p0.toNatClampNeg ((x 20 i p0.toNatClampNeg) + 1)) 16 i 0 ((st x 20 i p0.toNatClampNeg ((x 20 i p0.toNatClampNeg) + 1)) 20 i p0.toNatClampNeg)) 17 i 0 0) 17 i 0) ||| (1 <<< (p0 &&& 31)))) 18 i 0 (((st (st (st (st x 20 i p0.toNatClampNeg ((x 20 i p0.toNatClampNeg) + 1)) 16 i 0 ((st x 20 i p0.toNatClampNeg ((x 20 i p0.toNatClampNeg) + 1)) 20 i p0.toNatClampNeg)) 17 i 0 0) 17 i 0 (((st (st (st x 20 i p0.toNatClampNeg ((x 20 i p0.toNatClampNeg) + 1)) 16 i 0 ((st x 20 i p0.toNatClampNeg ((x 20 i p0.toNatClampNeg) + 1)) 20 i p0.toNatClampNeg)) 17 i 0 0) 17 i 0) ||| (1 <<< (p0 &&& 31)))) 18 i 0) ||| (1 <<< (p0 &&& 31)))) r0) (C := RX0) (T := TX0) (N := 12) hx hb hts iX0 tyX0 tyX0_ok nmX0 hown hK hP hJ hS (8 + 3 * i) (by omega) (cw_b (by omega)) rfl 9 (by decide) (hts (.fieldLink RX0 42 "FerroDesk$Board" "wornOut" "I") (by decide +kernel)) (fun _ h9 => h9) rfl (by decide +kernel) rfl rfl (Nat.le_of_ble_eq_true rfl) dX0_wearOut_81 (cw_put (r := 18) (i := i) (j := 0) rfl (by omega) ((dk_b (by omega)).trans (by simp [bF, st]))) (fun H locs hP hS => ?_)
            refine W.widen (k := 0) (n := 0) (Nat.le_of_ble_eq_true rfl) (Nat.le_of_ble_eq_true rfl) ?_
            exact W.vret hx hb hr (fun t ht hW => ⟨⟨(st (st (st (st (st x 20 i p0.toNatClampNeg ((x 20 i p0.toNatClampNeg) + 1)) 16 i 0 ((st x 20 i p0.toNatClampNeg ((x 20 i p0.toNatClampNeg) + 1)) 20 i p0.toNatClampNeg)) 17 i 0 0) 17 i 0 (((st (st (st x 20 i p0.toNatClampNeg ((x 20 i p0.toNatClampNeg) + 1)) 16 i 0 ((st x 20 i p0.toNatClampNeg ((x 20 i p0.toNatClampNeg) + 1)) 20 i p0.toNatClampNeg)) 17 i 0 0) 17 i 0) ||| (1 <<< (p0 &&& 31)))) 18 i 0 (((st (st (st (st x 20 i p0.toNatClampNeg ((x 20 i p0.toNatClampNeg) + 1)) 16 i 0 ((st x 20 i p0.toNatClampNeg ((x 20 i p0.toNatClampNeg) + 1)) 20 i p0.toNatClampNeg)) 17 i 0 0) 17 i 0 (((st (st (st x 20 i p0.toNatClampNeg ((x 20 i p0.toNatClampNeg) + 1)) 16 i 0 ((st x 20 i p0.toNatClampNeg ((x 20 i p0.toNatClampNeg) + 1)) 20 i p0.toNatClampNeg)) 17 i 0 0) 17 i 0) ||| (1 <<< (p0 &&& 31)))) 18 i 0) ||| (1 <<< (p0 &&& 31)))), rfl, (by rw [woF_2 c1 c7]; unfold wo5 wo1; rw [wo2_f c37, wo3_t c55, wo4_f c71]), PB.mk9 hP ht⟩, hS.F ht⟩) hS.2.2 dX0_wearOut_84
    · refine W.widen (k := 0) (n := 0) (Nat.le_of_ble_eq_true rfl) (Nat.le_of_ble_eq_true rfl) ?_
      exact W.vret hx hb hr (fun t ht hW => ⟨⟨x, rfl, (woF_1 c1 c7).symm, PB.mk9 hP ht⟩, hS.F ht⟩) hS.2.2 dX0_wearOut_10

set_option maxHeartbeats 4000000 in
set_option maxRecDepth 100000 in
theorem k_change (l : Launch) (hst : l.stackTraces = false) (g : gE) (base n : Nat) (L : Nat → Nat) (hn : 106 ≤ n) (x : St) (r0 : Nat → va_E) (i : Nat) (hi : i < 6) (tc : Nat) (htc : tc ≤ 1920) (hx19 : x 19 i 0 = nI tc) (p0 : Int32) : Met l yX0_change wsX0_change ({ frames := 2, cells := 0, slots := 0, locals := 60 }) (va_Pc [.ref (L (8 + 3 * i)), .int p0] (PW SS g base n L (cw g L x r0))) (va_Qv (fun (u : St) => u = chF x i p0) (fun (u : St) t => PB g n L (cw g L u r0) t) (fun q => base ≤ q)) 0 0 (fun q => base ≤ q) := by
  refine Met.ofW (cc := cX0_change) (maxL := 3) (ret := none) (by decide) rfl ?_
  intro p e s m args below meth c s₁ B hml hv
  obtain ⟨rfl, hPW⟩ := hv
  obtain ⟨hbs, hJ, hP, hK, hE⟩ := id hPW
  have hx := B.exec
  have hb := B.bytes
  have hr := B.returns
  have hts := atoms_spec (ws := wsX0_change) B.pre
  have hown : s.vm.findClass RX0 = some m.cls := findClass_of_methodNamed B.named
  have hlocks := B.notSynchronized
  have hS : va_S (fun q : Nat => base ≤ q) s.heap s.heap [] := va_S.rf
  have hl := lv_entry ([.ref (L (8 + 3 * i)), .int p0]) (n := 3) (Nat.le_of_ble_eq_true rfl)
  rw [lg_entry_eq]
  generalize (lg_sl ([.ref (L (8 + 3 * i)), .int p0]) ++ List.replicate (3 - (lg_sl ([.ref (L (8 + 3 * i)), .int p0])).length) Slot.unset).toArray = ls at hl ⊢
  have hl : lv_has ls 3 [(0, .ref (L (8 + 3 * i))), (1, .int p0)] := hl
  have iX0 : ∀ w ∈ wsX00, w ∈ wsX0_change := by decide +kernel
  refine lv_aload_n hx hb dX0_change_0 rfl (lv_at hl 0 rfl) ?_
  refine lv_dup hx hb dX0_change_1 rfl ?_
  refine wx_get (D := g.1) (cl := vwCl) (ci := 2) (v := .int (x 11 i 0)) (C := RX0) (T := TX0) (N := 12) hx hb hts iX0 hown hK hP (8 + 3 * i) (by omega) (cw_b (by omega)) rfl 1 (by decide) (hts (.fieldLink RX0 15 "FerroDesk$Board" "charge" "I") (by decide +kernel)) (fun _ h9 => h9) rfl dX0_change_2 ?_
  refine lv_iload_n hx hb dX0_change_5 rfl (lv_at hl 1 rfl) ?_
  refine wx_calli (va_runS (As := [.int p0]) (rest := [.int (x 11 i 0), .ref (L (8 + 3 * i))]) ⟨hx, hb, hml, hown, hts⟩ (k_bitCount l hst g base n L (cw g L x r0) p0) (va_cwS 1 hts gX0_change_J6_bitCount_0f7a4 rfl rfl rfl (by decide +kernel) ⟨Nat.le_of_ble_eq_true rfl, Nat.le_of_ble_eq_true rfl⟩) (hPW.preS hP hS) rfl rfl hl.1 rfl (lv_room (Nat.le_of_ble_eq_true rfl)) dX0_change_6 ⟨Nat.le_of_ble_eq_true rfl, Nat.le_of_ble_eq_true rfl⟩) hS (fun r6 u6 H locs h6 hP hS => ?_)
  obtain rfl := h6
  refine lv_isub hx hb dX0_change_9 ?_
  refine wx_put (D := g.1) (cl := vwCl) (ci := 2) (v := .int ((x 11 i 0) - (pcF p0))) (ty := .int) (w' := cw g L (st x 11 i 0 ((x 11 i 0) - (pcF p0))) r0) (C := RX0) (T := TX0) (N := 12) hx hb hts iX0 tyX0 tyX0_ok nmX0 hown hK hP hJ hS (8 + 3 * i) (by omega) (cw_b (by omega)) rfl 1 (by decide) (hts (.fieldLink RX0 15 "FerroDesk$Board" "charge" "I") (by decide +kernel)) (fun _ h9 => h9) rfl (by decide +kernel) rfl rfl (Nat.le_of_ble_eq_true rfl) dX0_change_10 (cw_put (r := 11) (i := i) (j := 0) rfl (by omega) ((dk_b (by omega)).trans (by simp [bF, st]))) (fun H locs hP hS => ?_)
  refine lv_aload_n hx hb dX0_change_13 rfl (lv_at hl 0 rfl) ?_
  refine lv_dup hx hb dX0_change_14 rfl ?_
  refine wx_get (D := g.1) (cl := vwCl) (ci := 2) (v := .int ((st x 11 i 0 ((x 11 i 0) - (pcF p0))) 15 i 0)) (C := RX0) (T := TX0) (N := 12) hx hb hts iX0 hown hK hP (8 + 3 * i) (by omega) (cw_b (by omega)) rfl 5 (by decide) (hts (.fieldLink RX0 29 "FerroDesk$Board" "black" "I") (by decide +kernel)) (fun _ h9 => h9) rfl dX0_change_15 ?_
  refine lv_iload_n hx hb dX0_change_18 rfl (lv_at hl 1 rfl) ?_
  refine lv_ixor hx hb dX0_change_19 ?_
  refine wx_put (D := g.1) (cl := vwCl) (ci := 2) (v := .int (((st x 11 i 0 ((x 11 i 0) - (pcF p0))) 15 i 0) ^^^ p0)) (ty := .int) (w' := cw g L (st (st x 11 i 0 ((x 11 i 0) - (pcF p0))) 15 i 0 (((st x 11 i 0 ((x 11 i 0) - (pcF p0))) 15 i 0) ^^^ p0)) r0) (C := RX0) (T := TX0) (N := 12) hx hb hts iX0 tyX0 tyX0_ok nmX0 hown hK hP hJ hS (8 + 3 * i) (by omega) (cw_b (by omega)) rfl 5 (by decide) (hts (.fieldLink RX0 29 "FerroDesk$Board" "black" "I") (by decide +kernel)) (fun _ h9 => h9) rfl (by decide +kernel) rfl rfl (Nat.le_of_ble_eq_true rfl) dX0_change_20 (cw_put (r := 15) (i := i) (j := 0) rfl (by omega) ((dk_b (by omega)).trans (by simp [bF, st]))) (fun H locs hP hS => ?_)
  refine lv_iload_n hx hb dX0_change_23 rfl (lv_at hl 1 rfl) ?_
  refine lv_if_eq (tgt := 59) hx hb dX0_change_24 (by decide) (fun c24 => ?_) (fun c24 => ?_)
  · refine lv_iconst (v := 0) hx hb dX0_change_59 (by decide) ?_
    refine lv_istore_n (lv' := [(2, .int 0), (0, .ref (L (8 + 3 * i))), (1, .int p0)]) hx hb dX0_change_60 rfl hl (by decide) rfl (fun ls hl => ?_)
    have key61 : ∀ (d k : Nat) (z2 : Int32) (x1 : St) (H : Heap) (locs : List Loc) (ls : Array Slot), k + d = 32 → (z2 = nI k) → (x1 = woL (ch2 (ch1 x i p0) i p0) i p0 k) → va_P g.1 vwCl (wl n L (cw g L x1 r0)) H → va_S (fun q : Nat => base ≤ q) s.heap H locs → lv_has ls 3 [(2, .int z2), (0, .ref (L (8 + 3 * i))), (1, .int p0)] → W p l e (headSpec wsX0_change ({ frames := 2, cells := 0, slots := 0, locals := 60 })).room s m ([.ref (L (8 + 3 * i)), .int p0] : List Value).toArray below meth c H locs (0 + 0) (0 + 0) (MQ below (va_Qv (fun (u : St) => u = chF x i p0) (fun (u : St) t => PB g n L (cw g L u r0) t) (fun q => base ≤ q)) ([.ref (L (8 + 3 * i)), .int p0] : List Value).toArray s 0 0 (fun q => base ≤ q)) (F0 m 61 ls []) := by
      intro d
      induction d with
      | zero =>
        intro k z2 x1 H locs ls hkd ek2 es1 hP hS hl
        obtain rfl : k = 32 := by omega
        subst ek2 es1
        refine lv_iload_n hx hb dX0_change_61 rfl (lv_at hl 0 rfl) ?_
        refine lv_bipush (v := 32) hx hb dX0_change_62 (by decide) ?_
        refine lv_icmp_ge (tgt := 87) hx hb dX0_change_64 (by decide) (fun c64 => ?_) (fun c64 => absurd (by decide) c64)
        refine W.widen (k := 0) (n := 0) (Nat.le_of_ble_eq_true rfl) (Nat.le_of_ble_eq_true rfl) ?_
        exact W.vret hx hb hr (fun t ht hW => ⟨⟨(woL (ch2 (ch1 x i p0) i p0) i p0 32), rfl, rfl, PB.mk9 hP ht⟩, hS.F ht⟩) hS.2.2 dX0_change_87
      | succ d ih =>
        intro k z2 x1 H locs ls hkd ek2 es1 hP hS hl
        have hkN : k < 32 := by omega
        subst ek2 es1
        refine lv_iload_n hx hb dX0_change_61 rfl (lv_at hl 0 rfl) ?_
        refine lv_bipush (v := 32) hx hb dX0_change_62 (by decide) ?_
        refine lv_icmp_ge (tgt := 87) hx hb dX0_change_64 (by decide) (fun c64 => absurd c64 (nI_ge (b := 32) hkN (by decide))) (fun c64 => ?_)
        refine lv_iload_n hx hb dX0_change_67 rfl (lv_at hl 2 rfl) ?_
        refine lv_iload_n hx hb dX0_change_68 rfl (lv_at hl 0 rfl) ?_
        refine wx_calli (va_runSN (As := [.int p0, .int (nI k)]) (rest := []) ⟨hx, hb, hml, hown, hts⟩ (k_bitOf l hst g base n L (cw g L (woL (ch2 (ch1 x i p0) i p0) i p0 k) r0) p0 (nI k)) (⟨va_cnB 2 hts gX0_change_X3_bitOf_n57 rfl rfl rfl (hE.1 _ (ng_in (w := (Cond.methodLinkNest "FerroDesk$Board" 57 yX3_bitOf "FerroDesk")) (by decide +kernel))) (hts (.initialized RX3) (by decide +kernel)) (by decide +kernel) ⟨Nat.le_of_ble_eq_true rfl, Nat.le_of_ble_eq_true rfl⟩, hts (.static yX3_bitOf) (by decide +kernel), trivial⟩) (hPW.preS hP hS) rfl rfl hl.1 rfl (lv_room (Nat.le_of_ble_eq_true rfl)) dX0_change_69 ⟨Nat.le_of_ble_eq_true rfl, Nat.le_of_ble_eq_true rfl⟩) hS (fun r69 u69 H locs h69 hP hS => ?_)
        obtain rfl := h69
        refine lv_iconst (v := 1) hx hb dX0_change_72 (by decide) ?_
        refine lv_icmp_ne (tgt := 81) hx hb dX0_change_73 (by decide) (fun c73 => ?_) (fun c73 => ?_)
        · obtain ⟨z81, ez81⟩ : ∃ y : Int32, y = nI k + 1 := ⟨_, rfl⟩
          refine lv_iinc (v := z81) (lv' := [(2, .int z81), (0, .ref (L (8 + 3 * i))), (1, .int p0)]) hx hb dX0_change_81 hl (k := 0) rfl (by rw [ez81]; rfl) (by decide) rfl (fun ls hl => ?_)
          refine lv_goto (tgt := 61) hx hb dX0_change_84 (by decide) ?_
          exact ih (k + 1) _ _ _ _ _ (by omega) (by rw [ez81, nI_1]) (woL_f c73) hP hS (lv_sub hl [0, 1, 2] rfl)
        · refine lv_aload_n hx hb dX0_change_76 rfl (lv_at hl 1 rfl) ?_
          refine lv_iload_n hx hb dX0_change_77 rfl (lv_at hl 0 rfl) ?_
          refine wx_callv (va_runV (As := [.int (nI k)]) (rest := []) ⟨hx, hb, hml, hown, hts⟩ (k_wearOut l hst g base n L (by omega) (woL (ch2 (ch1 x i p0) i p0) i p0 k) r0 i (by omega)  (nI k)) (cwV 1 hts gX0_change_X0_wearOut rfl rfl rfl (by decide +kernel) ⟨Nat.le_of_ble_eq_true rfl, Nat.le_of_ble_eq_true rfl⟩) (hPW.preV hP hS (ci := 2) rfl (by omega) (cw_b (by omega))) rfl rfl hl.1 rfl (lv_room (Nat.le_of_ble_eq_true rfl)) dX0_change_78 ⟨Nat.le_of_ble_eq_true rfl, Nat.le_of_ble_eq_true rfl⟩) hS (fun u78 H locs h78 hP hS => ?_)
          obtain rfl := h78
          obtain ⟨z81, ez81⟩ : ∃ y : Int32, y = nI k + 1 := ⟨_, rfl⟩
          refine lv_iinc (v := z81) (lv' := [(2, .int z81), (0, .ref (L (8 + 3 * i))), (1, .int p0)]) hx hb dX0_change_81 hl (k := 0) rfl (by rw [ez81]; rfl) (by decide) rfl (fun ls hl => ?_)
          refine lv_goto (tgt := 61) hx hb dX0_change_84 (by decide) ?_
          exact ih (k + 1) _ _ _ _ _ (by omega) (by rw [ez81, nI_1]) (woL_t c73) hP hS (lv_sub hl [0, 1, 2] rfl)
    exact key61 32 0 _ _ _ _ _ (by omega) rfl ((ch2_0 (x := ch1 x i p0) c24).symm) hP hS (lv_sub hl [0, 1, 2] rfl)
  · refine lv_aload_n hx hb dX0_change_27 rfl (lv_at hl 0 rfl) ?_
    refine wx_get (D := g.1) (cl := vwCl) (ci := 2) (v := .int ((st (st x 11 i 0 ((x 11 i 0) - (pcF p0))) 15 i 0 (((st x 11 i 0 ((x 11 i 0) - (pcF p0))) 15 i 0) ^^^ p0)) 19 i 0)) (C := RX0) (T := TX0) (N := 12) hx hb hts iX0 hown hK hP (8 + 3 * i) (by omega) (cw_b (by omega)) rfl 11 (by decide) (hts (.fieldLink RX0 48 "FerroDesk$Board" "timesChanged" "I") (by decide +kernel)) (fun _ h9 => h9) rfl dX0_change_28 ?_
    refine lv_aload_n hx hb dX0_change_31 rfl (lv_at hl 0 rfl) ?_
    refine wx_get (D := g.1) (cl := vwCl) (ci := 2) (v := .ref (L (10 + 3 * i))) (C := RX0) (T := TX0) (N := 12) hx hb hts iX0 hown hK hP (8 + 3 * i) (by omega) (cw_b (by omega)) rfl 10 (by decide) (hts (.fieldLink RX0 45 "FerroDesk$Board" "changed" "[I") (by decide +kernel)) (fun _ h9 => h9) rfl dX0_change_32 ?_
    refine va_alen hx hb hK hP (10 + 3 * i) 0 (wl_get (by omega) (cw_bc (by omega))) rfl (v := 1920) rfl dX0_change_35 ?_
    refine lv_icmp_ge (tgt := 59) hx hb dX0_change_36 (by decide) (fun c36 => ?_) (fun c36 => ?_)
    · refine lv_iconst (v := 0) hx hb dX0_change_59 (by decide) ?_
      refine lv_istore_n (lv' := [(2, .int 0), (0, .ref (L (8 + 3 * i))), (1, .int p0)]) hx hb dX0_change_60 rfl hl (by decide) rfl (fun ls hl => ?_)
      have key61 : ∀ (d k : Nat) (z2 : Int32) (x1 : St) (H : Heap) (locs : List Loc) (ls : Array Slot), k + d = 32 → (z2 = nI k) → (x1 = woL (ch2 (ch1 x i p0) i p0) i p0 k) → va_P g.1 vwCl (wl n L (cw g L x1 r0)) H → va_S (fun q : Nat => base ≤ q) s.heap H locs → lv_has ls 3 [(2, .int z2), (0, .ref (L (8 + 3 * i))), (1, .int p0)] → W p l e (headSpec wsX0_change ({ frames := 2, cells := 0, slots := 0, locals := 60 })).room s m ([.ref (L (8 + 3 * i)), .int p0] : List Value).toArray below meth c H locs (0 + 0) (0 + 0) (MQ below (va_Qv (fun (u : St) => u = chF x i p0) (fun (u : St) t => PB g n L (cw g L u r0) t) (fun q => base ≤ q)) ([.ref (L (8 + 3 * i)), .int p0] : List Value).toArray s 0 0 (fun q => base ≤ q)) (F0 m 61 ls []) := by
        intro d
        induction d with
        | zero =>
          intro k z2 x1 H locs ls hkd ek2 es1 hP hS hl
          obtain rfl : k = 32 := by omega
          subst ek2 es1
          refine lv_iload_n hx hb dX0_change_61 rfl (lv_at hl 0 rfl) ?_
          refine lv_bipush (v := 32) hx hb dX0_change_62 (by decide) ?_
          refine lv_icmp_ge (tgt := 87) hx hb dX0_change_64 (by decide) (fun c64 => ?_) (fun c64 => absurd (by decide) c64)
          refine W.widen (k := 0) (n := 0) (Nat.le_of_ble_eq_true rfl) (Nat.le_of_ble_eq_true rfl) ?_
          exact W.vret hx hb hr (fun t ht hW => ⟨⟨(woL (ch2 (ch1 x i p0) i p0) i p0 32), rfl, rfl, PB.mk9 hP ht⟩, hS.F ht⟩) hS.2.2 dX0_change_87
        | succ d ih =>
          intro k z2 x1 H locs ls hkd ek2 es1 hP hS hl
          have hkN : k < 32 := by omega
          subst ek2 es1
          refine lv_iload_n hx hb dX0_change_61 rfl (lv_at hl 0 rfl) ?_
          refine lv_bipush (v := 32) hx hb dX0_change_62 (by decide) ?_
          refine lv_icmp_ge (tgt := 87) hx hb dX0_change_64 (by decide) (fun c64 => absurd c64 (nI_ge (b := 32) hkN (by decide))) (fun c64 => ?_)
          refine lv_iload_n hx hb dX0_change_67 rfl (lv_at hl 2 rfl) ?_
          refine lv_iload_n hx hb dX0_change_68 rfl (lv_at hl 0 rfl) ?_
          refine wx_calli (va_runSN (As := [.int p0, .int (nI k)]) (rest := []) ⟨hx, hb, hml, hown, hts⟩ (k_bitOf l hst g base n L (cw g L (woL (ch2 (ch1 x i p0) i p0) i p0 k) r0) p0 (nI k)) (⟨va_cnB 2 hts gX0_change_X3_bitOf_n57 rfl rfl rfl (hE.1 _ (ng_in (w := (Cond.methodLinkNest "FerroDesk$Board" 57 yX3_bitOf "FerroDesk")) (by decide +kernel))) (hts (.initialized RX3) (by decide +kernel)) (by decide +kernel) ⟨Nat.le_of_ble_eq_true rfl, Nat.le_of_ble_eq_true rfl⟩, hts (.static yX3_bitOf) (by decide +kernel), trivial⟩) (hPW.preS hP hS) rfl rfl hl.1 rfl (lv_room (Nat.le_of_ble_eq_true rfl)) dX0_change_69 ⟨Nat.le_of_ble_eq_true rfl, Nat.le_of_ble_eq_true rfl⟩) hS (fun r69 u69 H locs h69 hP hS => ?_)
          obtain rfl := h69
          refine lv_iconst (v := 1) hx hb dX0_change_72 (by decide) ?_
          refine lv_icmp_ne (tgt := 81) hx hb dX0_change_73 (by decide) (fun c73 => ?_) (fun c73 => ?_)
          · obtain ⟨z81, ez81⟩ : ∃ y : Int32, y = nI k + 1 := ⟨_, rfl⟩
            refine lv_iinc (v := z81) (lv' := [(2, .int z81), (0, .ref (L (8 + 3 * i))), (1, .int p0)]) hx hb dX0_change_81 hl (k := 0) rfl (by rw [ez81]; rfl) (by decide) rfl (fun ls hl => ?_)
            refine lv_goto (tgt := 61) hx hb dX0_change_84 (by decide) ?_
            exact ih (k + 1) _ _ _ _ _ (by omega) (by rw [ez81, nI_1]) (woL_f c73) hP hS (lv_sub hl [0, 1, 2] rfl)
          · refine lv_aload_n hx hb dX0_change_76 rfl (lv_at hl 1 rfl) ?_
            refine lv_iload_n hx hb dX0_change_77 rfl (lv_at hl 0 rfl) ?_
            refine wx_callv (va_runV (As := [.int (nI k)]) (rest := []) ⟨hx, hb, hml, hown, hts⟩ (k_wearOut l hst g base n L (by omega) (woL (ch2 (ch1 x i p0) i p0) i p0 k) r0 i (by omega)  (nI k)) (cwV 1 hts gX0_change_X0_wearOut rfl rfl rfl (by decide +kernel) ⟨Nat.le_of_ble_eq_true rfl, Nat.le_of_ble_eq_true rfl⟩) (hPW.preV hP hS (ci := 2) rfl (by omega) (cw_b (by omega))) rfl rfl hl.1 rfl (lv_room (Nat.le_of_ble_eq_true rfl)) dX0_change_78 ⟨Nat.le_of_ble_eq_true rfl, Nat.le_of_ble_eq_true rfl⟩) hS (fun u78 H locs h78 hP hS => ?_)
            obtain rfl := h78
            obtain ⟨z81, ez81⟩ : ∃ y : Int32, y = nI k + 1 := ⟨_, rfl⟩
            refine lv_iinc (v := z81) (lv' := [(2, .int z81), (0, .ref (L (8 + 3 * i))), (1, .int p0)]) hx hb dX0_change_81 hl (k := 0) rfl (by rw [ez81]; rfl) (by decide) rfl (fun ls hl => ?_)
            refine lv_goto (tgt := 61) hx hb dX0_change_84 (by decide) ?_
            exact ih (k + 1) _ _ _ _ _ (by omega) (by rw [ez81, nI_1]) (woL_t c73) hP hS (lv_sub hl [0, 1, 2] rfl)
      exact key61 32 0 _ _ _ _ _ (by omega) rfl ((ch2_1 (x := ch1 x i p0) c24 c36).symm) hP hS (lv_sub hl [0, 1, 2] rfl)
    · refine lv_aload_n hx hb dX0_change_39 rfl (lv_at hl 0 rfl) ?_
      refine wx_get (D := g.1) (cl := vwCl) (ci := 2) (v := .ref (L (10 + 3 * i))) (C := RX0) (T := TX0) (N := 12) hx hb hts iX0 hown hK hP (8 + 3 * i) (by omega) (cw_b (by omega)) rfl 10 (by decide) (hts (.fieldLink RX0 45 "FerroDesk$Board" "changed" "[I") (by decide +kernel)) (fun _ h9 => h9) rfl dX0_change_40 ?_
      refine lv_aload_n hx hb dX0_change_43 rfl (lv_at hl 0 rfl) ?_
      refine wx_get (D := g.1) (cl := vwCl) (ci := 2) (v := .int ((st (st x 11 i 0 ((x 11 i 0) - (pcF p0))) 15 i 0 (((st x 11 i 0 ((x 11 i 0) - (pcF p0))) 15 i 0) ^^^ p0)) 19 i 0)) (C := RX0) (T := TX0) (N := 12) hx hb hts iX0 hown hK hP (8 + 3 * i) (by omega) (cw_b (by omega)) rfl 11 (by decide) (hts (.fieldLink RX0 48 "FerroDesk$Board" "timesChanged" "I") (by decide +kernel)) (fun _ h9 => h9) rfl dX0_change_44 ?_
      refine lv_iload_n hx hb dX0_change_47 rfl (lv_at hl 1 rfl) ?_
      refine wx_iast (D := g.1) (cl := vwCl) (f := fun j => (st (st x 11 i 0 ((x 11 i 0) - (pcF p0))) 15 i 0 (((st x 11 i 0 ((x 11 i 0) - (pcF p0))) 15 i 0) ^^^ p0)) 21 i j) (w' := cw g L (st (st (st x 11 i 0 ((x 11 i 0) - (pcF p0))) 15 i 0 (((st x 11 i 0 ((x 11 i 0) - (pcF p0))) 15 i 0) ^^^ p0)) 21 i (((st (st x 11 i 0 ((x 11 i 0) - (pcF p0))) 15 i 0 (((st x 11 i 0 ((x 11 i 0) - (pcF p0))) 15 i 0) ^^^ p0)) 19 i 0).toNatClampNeg) p0) r0) hx hb hK hP hJ hS (10 + 3 * i) 0 (by omega) (cw_bc (by omega)) rfl (i := (st (st x 11 i 0 ((x 11 i 0) - (pcF p0))) 15 i 0 (((st x 11 i 0 ((x 11 i 0) - (pcF p0))) 15 i 0) ^^^ p0)) 19 i 0) (ch_in htc hx19 c36) dX0_change_48 (cw_stc (by omega)) (fun H locs hP hS => ?_)
      refine lv_aload_n hx hb dX0_change_49 rfl (lv_at hl 0 rfl) ?_
      refine lv_dup hx hb dX0_change_50 rfl ?_
      refine wx_get (D := g.1) (cl := vwCl) (ci := 2) (v := .int ((st (st (st x 11 i 0 ((x 11 i 0) - (pcF p0))) 15 i 0 (((st x 11 i 0 ((x 11 i 0) - (pcF p0))) 15 i 0) ^^^ p0)) 21 i (((st (st x 11 i 0 ((x 11 i 0) - (pcF p0))) 15 i 0 (((st x 11 i 0 ((x 11 i 0) - (pcF p0))) 15 i 0) ^^^ p0)) 19 i 0).toNatClampNeg) p0) 19 i 0)) (C := RX0) (T := TX0) (N := 12) hx hb hts iX0 hown hK hP (8 + 3 * i) (by omega) (cw_b (by omega)) rfl 11 (by decide) (hts (.fieldLink RX0 48 "FerroDesk$Board" "timesChanged" "I") (by decide +kernel)) (fun _ h9 => h9) rfl dX0_change_51 ?_
      refine lv_iconst (v := 1) hx hb dX0_change_54 (by decide) ?_
      refine lv_iadd hx hb dX0_change_55 ?_
      refine wx_put (D := g.1) (cl := vwCl) (ci := 2) (v := .int (((st (st (st x 11 i 0 ((x 11 i 0) - (pcF p0))) 15 i 0 (((st x 11 i 0 ((x 11 i 0) - (pcF p0))) 15 i 0) ^^^ p0)) 21 i (((st (st x 11 i 0 ((x 11 i 0) - (pcF p0))) 15 i 0 (((st x 11 i 0 ((x 11 i 0) - (pcF p0))) 15 i 0) ^^^ p0)) 19 i 0).toNatClampNeg) p0) 19 i 0) + 1)) (ty := .int) (w' := cw g L (st (st (st (st x 11 i 0 ((x 11 i 0) - (pcF p0))) 15 i 0 (((st x 11 i 0 ((x 11 i 0) - (pcF p0))) 15 i 0) ^^^ p0)) 21 i (((st (st x 11 i 0 ((x 11 i 0) - (pcF p0))) 15 i 0 (((st x 11 i 0 ((x 11 i 0) - (pcF p0))) 15 i 0) ^^^ p0)) 19 i 0).toNatClampNeg) p0) 19 i 0 (((st (st (st x 11 i 0 ((x 11 i 0) - (pcF p0))) 15 i 0 (((st x 11 i 0 ((x 11 i 0) - (pcF p0))) 15 i 0) ^^^ p0)) 21 i (((st (st x 11 i 0 ((x 11 i 0) - (pcF p0))) 15 i 0 (((st x 11 i 0 ((x 11 i 0) - (pcF p0))) 15 i 0) ^^^ p0)) 19 i 0).toNatClampNeg) p0) 19 i 0) + 1)) r0) (C := RX0) (T := TX0) (N := 12) hx hb hts iX0 tyX0 tyX0_ok nmX0 hown hK hP hJ hS (8 + 3 * i) (by omega) (cw_b (by omega)) rfl 11 (by decide) (hts (.fieldLink RX0 48 "FerroDesk$Board" "timesChanged" "I") (by decide +kernel)) (fun _ h9 => h9) rfl (by decide +kernel) rfl rfl (Nat.le_of_ble_eq_true rfl) dX0_change_56 (cw_put (r := 19) (i := i) (j := 0) rfl (by omega) ((dk_b (by omega)).trans (by simp [bF, st]))) (fun H locs hP hS => ?_)
      refine lv_iconst (v := 0) hx hb dX0_change_59 (by decide) ?_
      refine lv_istore_n (lv' := [(2, .int 0), (0, .ref (L (8 + 3 * i))), (1, .int p0)]) hx hb dX0_change_60 rfl hl (by decide) rfl (fun ls hl => ?_)
      have key61 : ∀ (d k : Nat) (z2 : Int32) (x1 : St) (H : Heap) (locs : List Loc) (ls : Array Slot), k + d = 32 → (z2 = nI k) → (x1 = woL (ch2 (ch1 x i p0) i p0) i p0 k) → va_P g.1 vwCl (wl n L (cw g L x1 r0)) H → va_S (fun q : Nat => base ≤ q) s.heap H locs → lv_has ls 3 [(2, .int z2), (0, .ref (L (8 + 3 * i))), (1, .int p0)] → W p l e (headSpec wsX0_change ({ frames := 2, cells := 0, slots := 0, locals := 60 })).room s m ([.ref (L (8 + 3 * i)), .int p0] : List Value).toArray below meth c H locs (0 + 0) (0 + 0) (MQ below (va_Qv (fun (u : St) => u = chF x i p0) (fun (u : St) t => PB g n L (cw g L u r0) t) (fun q => base ≤ q)) ([.ref (L (8 + 3 * i)), .int p0] : List Value).toArray s 0 0 (fun q => base ≤ q)) (F0 m 61 ls []) := by
        intro d
        induction d with
        | zero =>
          intro k z2 x1 H locs ls hkd ek2 es1 hP hS hl
          obtain rfl : k = 32 := by omega
          subst ek2 es1
          refine lv_iload_n hx hb dX0_change_61 rfl (lv_at hl 0 rfl) ?_
          refine lv_bipush (v := 32) hx hb dX0_change_62 (by decide) ?_
          refine lv_icmp_ge (tgt := 87) hx hb dX0_change_64 (by decide) (fun c64 => ?_) (fun c64 => absurd (by decide) c64)
          refine W.widen (k := 0) (n := 0) (Nat.le_of_ble_eq_true rfl) (Nat.le_of_ble_eq_true rfl) ?_
          exact W.vret hx hb hr (fun t ht hW => ⟨⟨(woL (ch2 (ch1 x i p0) i p0) i p0 32), rfl, rfl, PB.mk9 hP ht⟩, hS.F ht⟩) hS.2.2 dX0_change_87
        | succ d ih =>
          intro k z2 x1 H locs ls hkd ek2 es1 hP hS hl
          have hkN : k < 32 := by omega
          subst ek2 es1
          refine lv_iload_n hx hb dX0_change_61 rfl (lv_at hl 0 rfl) ?_
          refine lv_bipush (v := 32) hx hb dX0_change_62 (by decide) ?_
          refine lv_icmp_ge (tgt := 87) hx hb dX0_change_64 (by decide) (fun c64 => absurd c64 (nI_ge (b := 32) hkN (by decide))) (fun c64 => ?_)
          refine lv_iload_n hx hb dX0_change_67 rfl (lv_at hl 2 rfl) ?_
          refine lv_iload_n hx hb dX0_change_68 rfl (lv_at hl 0 rfl) ?_
          refine wx_calli (va_runSN (As := [.int p0, .int (nI k)]) (rest := []) ⟨hx, hb, hml, hown, hts⟩ (k_bitOf l hst g base n L (cw g L (woL (ch2 (ch1 x i p0) i p0) i p0 k) r0) p0 (nI k)) (⟨va_cnB 2 hts gX0_change_X3_bitOf_n57 rfl rfl rfl (hE.1 _ (ng_in (w := (Cond.methodLinkNest "FerroDesk$Board" 57 yX3_bitOf "FerroDesk")) (by decide +kernel))) (hts (.initialized RX3) (by decide +kernel)) (by decide +kernel) ⟨Nat.le_of_ble_eq_true rfl, Nat.le_of_ble_eq_true rfl⟩, hts (.static yX3_bitOf) (by decide +kernel), trivial⟩) (hPW.preS hP hS) rfl rfl hl.1 rfl (lv_room (Nat.le_of_ble_eq_true rfl)) dX0_change_69 ⟨Nat.le_of_ble_eq_true rfl, Nat.le_of_ble_eq_true rfl⟩) hS (fun r69 u69 H locs h69 hP hS => ?_)
          obtain rfl := h69
          refine lv_iconst (v := 1) hx hb dX0_change_72 (by decide) ?_
          refine lv_icmp_ne (tgt := 81) hx hb dX0_change_73 (by decide) (fun c73 => ?_) (fun c73 => ?_)
          · obtain ⟨z81, ez81⟩ : ∃ y : Int32, y = nI k + 1 := ⟨_, rfl⟩
            refine lv_iinc (v := z81) (lv' := [(2, .int z81), (0, .ref (L (8 + 3 * i))), (1, .int p0)]) hx hb dX0_change_81 hl (k := 0) rfl (by rw [ez81]; rfl) (by decide) rfl (fun ls hl => ?_)
            refine lv_goto (tgt := 61) hx hb dX0_change_84 (by decide) ?_
            exact ih (k + 1) _ _ _ _ _ (by omega) (by rw [ez81, nI_1]) (woL_f c73) hP hS (lv_sub hl [0, 1, 2] rfl)
          · refine lv_aload_n hx hb dX0_change_76 rfl (lv_at hl 1 rfl) ?_
            refine lv_iload_n hx hb dX0_change_77 rfl (lv_at hl 0 rfl) ?_
            refine wx_callv (va_runV (As := [.int (nI k)]) (rest := []) ⟨hx, hb, hml, hown, hts⟩ (k_wearOut l hst g base n L (by omega) (woL (ch2 (ch1 x i p0) i p0) i p0 k) r0 i (by omega)  (nI k)) (cwV 1 hts gX0_change_X0_wearOut rfl rfl rfl (by decide +kernel) ⟨Nat.le_of_ble_eq_true rfl, Nat.le_of_ble_eq_true rfl⟩) (hPW.preV hP hS (ci := 2) rfl (by omega) (cw_b (by omega))) rfl rfl hl.1 rfl (lv_room (Nat.le_of_ble_eq_true rfl)) dX0_change_78 ⟨Nat.le_of_ble_eq_true rfl, Nat.le_of_ble_eq_true rfl⟩) hS (fun u78 H locs h78 hP hS => ?_)
            obtain rfl := h78
            obtain ⟨z81, ez81⟩ : ∃ y : Int32, y = nI k + 1 := ⟨_, rfl⟩
            refine lv_iinc (v := z81) (lv' := [(2, .int z81), (0, .ref (L (8 + 3 * i))), (1, .int p0)]) hx hb dX0_change_81 hl (k := 0) rfl (by rw [ez81]; rfl) (by decide) rfl (fun ls hl => ?_)
            refine lv_goto (tgt := 61) hx hb dX0_change_84 (by decide) ?_
            exact ih (k + 1) _ _ _ _ _ (by omega) (by rw [ez81, nI_1]) (woL_t c73) hP hS (lv_sub hl [0, 1, 2] rfl)
      exact key61 32 0 _ _ _ _ _ (by omega) rfl ((ch2_2 (x := ch1 x i p0) c24 c36).symm) hP hS (lv_sub hl [0, 1, 2] rfl)

set_option maxHeartbeats 4000000 in
set_option maxRecDepth 100000 in
theorem k_chargeBy (l : Launch) (hst : l.stackTraces = false) (g : gE) (base n : Nat) (L : Nat → Nat) (hn : 106 ≤ n) (x : St) (r0 : Nat → va_E) (i : Nat) (hi : i < 6)  (p0 : Int32) : Met l yX0_chargeBy wsX0_chargeBy ({ frames := 2, cells := 0, slots := 0, locals := 60 }) (va_Pc [.ref (L (8 + 3 * i)), .int p0] (PW SS g base n L (cw g L x r0))) (va_Qv (fun (u : St) => u = cbF x i p0) (fun (u : St) t => PB g n L (cw g L u r0) t) (fun q => base ≤ q)) 0 0 (fun q => base ≤ q) := by
  refine Met.ofW (cc := cX0_chargeBy) (maxL := 2) (ret := none) (by decide) rfl ?_
  intro p e s m args below meth c s₁ B hml hv
  obtain ⟨rfl, hPW⟩ := hv
  obtain ⟨hbs, hJ, hP, hK, hE⟩ := id hPW
  have hx := B.exec
  have hb := B.bytes
  have hr := B.returns
  have hts := atoms_spec (ws := wsX0_chargeBy) B.pre
  have hown : s.vm.findClass RX0 = some m.cls := findClass_of_methodNamed B.named
  have hlocks := B.notSynchronized
  have hS : va_S (fun q : Nat => base ≤ q) s.heap s.heap [] := va_S.rf
  have hl := lv_entry ([.ref (L (8 + 3 * i)), .int p0]) (n := 2) (Nat.le_of_ble_eq_true rfl)
  rw [lg_entry_eq]
  generalize (lg_sl ([.ref (L (8 + 3 * i)), .int p0]) ++ List.replicate (2 - (lg_sl ([.ref (L (8 + 3 * i)), .int p0])).length) Slot.unset).toArray = ls at hl ⊢
  have hl : lv_has ls 2 [(0, .ref (L (8 + 3 * i))), (1, .int p0)] := hl
  have iX0 : ∀ w ∈ wsX00, w ∈ wsX0_chargeBy := by decide +kernel
  refine lv_aload_n hx hb dX0_chargeBy_0 rfl (lv_at hl 0 rfl) ?_
  refine lv_aload_n hx hb dX0_chargeBy_1 rfl (lv_at hl 0 rfl) ?_
  refine wx_get (D := g.1) (cl := vwCl) (ci := 2) (v := .int (x 11 i 0)) (C := RX0) (T := TX0) (N := 12) hx hb hts iX0 hown hK hP (8 + 3 * i) (by omega) (cw_b (by omega)) rfl 1 (by decide) (hts (.fieldLink RX0 15 "FerroDesk$Board" "charge" "I") (by decide +kernel)) (fun _ h9 => h9) rfl dX0_chargeBy_2 ?_
  refine lv_iload_n hx hb dX0_chargeBy_5 rfl (lv_at hl 1 rfl) ?_
  refine lv_iadd hx hb dX0_chargeBy_6 ?_
  refine lv_sipush (v := 200) hx hb dX0_chargeBy_7 (by decide) ?_
  refine va_mmin hx hb (hml.trans hl.1.symm) hown (hts (.methodLink RX0 51 Lib.Math.min.name) (by decide +kernel)) (hts (.static Lib.Math.min.name) (by decide +kernel)) (hts (.initialized "java/lang/Math") (by decide +kernel)) (hts (.code Lib.Math.min.name Lib.Math.min.code 2 (some .int)) (by decide +kernel)) (Nat.le_of_ble_eq_true rfl) (Nat.le_of_ble_eq_true rfl) (Nat.le_of_ble_eq_true rfl) (Nat.le_of_ble_eq_true rfl) dX0_chargeBy_10 ?_
  refine wx_put (D := g.1) (cl := vwCl) (ci := 2) (v := .int (if 200 < ((x 11 i 0) + p0) then 200 else ((x 11 i 0) + p0))) (ty := .int) (w' := cw g L (st x 11 i 0 (if 200 < ((x 11 i 0) + p0) then 200 else ((x 11 i 0) + p0))) r0) (C := RX0) (T := TX0) (N := 12) hx hb hts iX0 tyX0 tyX0_ok nmX0 hown hK hP hJ hS (8 + 3 * i) (by omega) (cw_b (by omega)) rfl 1 (by decide) (hts (.fieldLink RX0 15 "FerroDesk$Board" "charge" "I") (by decide +kernel)) (fun _ h9 => h9) rfl (by decide +kernel) rfl rfl (Nat.le_of_ble_eq_true rfl) dX0_chargeBy_13 (cw_put (r := 11) (i := i) (j := 0) rfl (by omega) ((dk_b (by omega)).trans (by simp [bF, st]))) (fun H locs hP hS => ?_)
  refine W.widen (k := 0) (n := 0) (Nat.le_of_ble_eq_true rfl) (Nat.le_of_ble_eq_true rfl) ?_
  exact W.vret hx hb hr (fun t ht hW => ⟨⟨(st x 11 i 0 (if 200 < ((x 11 i 0) + p0) then 200 else ((x 11 i 0) + p0))), rfl, rfl, PB.mk9 hP ht⟩, hS.F ht⟩) hS.2.2 dX0_chargeBy_16

