/-! laid by wip/gen -/
set_option maxHeartbeats 4000000 in
set_option maxRecDepth 100000 in
theorem k_bitOf (l : Launch) (hst : l.stackTraces = false) (g : gE) (base n : Nat) (L : Nat → Nat) (w0 : Nat → va_E) (p0 p1 : Int32) : Met l yX3_bitOf wsX3_bitOf ({ frames := 0, cells := 0, slots := 0, locals := 0 }) (va_Pc [.int p0, .int p1] (PW SS g base n L (w0))) (va_Qi (fun (r : Int32) (_ : Unit) => r = bitF p0 p1) (fun (u : Unit) t => PB g n L (w0) t) (fun q => base ≤ q)) 0 0 (fun q => base ≤ q) := by
  refine Met.ofW (cc := cX3_bitOf) (maxL := 2) (ret := (some .int)) (by decide) rfl ?_
  intro p e s m args below meth c s₁ B hml hv
  obtain ⟨rfl, hPW⟩ := hv
  obtain ⟨hbs, hJ, hP, hK, hE⟩ := id hPW
  have hx := B.exec
  have hb := B.bytes
  have hr := B.returns
  have hts := atoms_spec (ws := wsX3_bitOf) B.pre
  have hown : s.vm.findClass RX3 = some m.cls := findClass_of_methodNamed B.named
  have hlocks := B.notSynchronized
  have hS : va_S (fun q : Nat => base ≤ q) s.heap s.heap [] := va_S.rf
  have hl := lv_entry ([.int p0, .int p1]) (n := 2) (Nat.le_of_ble_eq_true rfl)
  rw [lg_entry_eq]
  generalize (lg_sl ([.int p0, .int p1]) ++ List.replicate (2 - (lg_sl ([.int p0, .int p1])).length) Slot.unset).toArray = ls at hl ⊢
  have hl : lv_has ls 2 [(0, .int p0), (1, .int p1)] := hl
  refine lv_iload_n hx hb dX3_bitOf_0 rfl (lv_at hl 0 rfl) ?_
  refine lv_iload_n hx hb dX3_bitOf_1 rfl (lv_at hl 1 rfl) ?_
  refine lv_iushr hx hb dX3_bitOf_2 rfl ?_
  refine lv_iconst (v := 1) hx hb dX3_bitOf_3 (by decide) ?_
  refine lv_iand hx hb dX3_bitOf_4 ?_
  refine W.widen (k := 0) (n := 0) (Nat.le_of_ble_eq_true rfl) (Nat.le_of_ble_eq_true rfl) ?_
  exact W.iret (v := ((p0.toUInt32 >>> (p1.toUInt32 &&& Int32.toUInt32 31)).toInt32) &&& 1) hx hb hr (fun t ht hW => ⟨⟨((p0.toUInt32 >>> (p1.toUInt32 &&& Int32.toUInt32 31)).toInt32) &&& 1, (), rfl, rfl, PB.mk9 hP ht⟩, hS.F ht⟩) hS.2.2 dX3_bitOf_5

set_option maxHeartbeats 4000000 in
set_option maxRecDepth 100000 in
theorem k_shifted (l : Launch) (hst : l.stackTraces = false) (g : gE) (base n : Nat) (L : Nat → Nat) (w0 : Nat → va_E) (p0 p1 : Int32) : Met l yX3_shifted wsX3_shifted ({ frames := 0, cells := 0, slots := 0, locals := 0 }) (va_Pc [.int p0, .int p1] (PW SS g base n L (w0))) (va_Qi (fun (r : Int32) (_ : Unit) => r = shF p0 p1) (fun (u : Unit) t => PB g n L (w0) t) (fun q => base ≤ q)) 0 0 (fun q => base ≤ q) := by
  refine Met.ofW (cc := cX3_shifted) (maxL := 3) (ret := (some .int)) (by decide) rfl ?_
  intro p e s m args below meth c s₁ B hml hv
  obtain ⟨rfl, hPW⟩ := hv
  obtain ⟨hbs, hJ, hP, hK, hE⟩ := id hPW
  have hx := B.exec
  have hb := B.bytes
  have hr := B.returns
  have hts := atoms_spec (ws := wsX3_shifted) B.pre
  have hown : s.vm.findClass RX3 = some m.cls := findClass_of_methodNamed B.named
  have hlocks := B.notSynchronized
  have hS : va_S (fun q : Nat => base ≤ q) s.heap s.heap [] := va_S.rf
  have hl := lv_entry ([.int p0, .int p1]) (n := 3) (Nat.le_of_ble_eq_true rfl)
  rw [lg_entry_eq]
  generalize (lg_sl ([.int p0, .int p1]) ++ List.replicate (3 - (lg_sl ([.int p0, .int p1])).length) Slot.unset).toArray = ls at hl ⊢
  have hl : lv_has ls 3 [(0, .int p0), (1, .int p1)] := hl
  refine lv_sipush (v := 255) hx hb dX3_shifted_0 (by decide) ?_
  refine lv_iload_n hx hb dX3_shifted_3 rfl (lv_at hl 1 rfl) ?_
  refine lv_ishl hx hb dX3_shifted_4 ?_
  refine lv_sipush (v := 255) hx hb dX3_shifted_5 (by decide) ?_
  refine lv_iand hx hb dX3_shifted_8 ?_
  refine lv_ldcw (v := 16843009) hx hb hown (hts (.constant RX3 283 16843009) (by decide +kernel)) dX3_shifted_9 ?_
  refine lv_imul hx hb dX3_shifted_12 ?_
  refine lv_topi (fun z13 ez13 => ?_)
  refine lv_istore_n (lv' := [(2, .int z13), (0, .int p0), (1, .int p1)]) hx hb dX3_shifted_13 rfl hl (by decide) rfl (fun ls hl => ?_)
  refine lv_iload_n hx hb dX3_shifted_14 rfl (lv_at hl 1 rfl) ?_
  refine lv_iload_n hx hb dX3_shifted_15 rfl (lv_at hl 2 rfl) ?_
  refine lv_ishl hx hb dX3_shifted_16 ?_
  refine lv_iload_n hx hb dX3_shifted_17 rfl (lv_at hl 0 rfl) ?_
  refine lv_iand hx hb dX3_shifted_18 ?_
  refine lv_iload_n hx hb dX3_shifted_19 rfl (lv_at hl 1 rfl) ?_
  refine lv_bipush (v := 8) hx hb dX3_shifted_20 (by decide) ?_
  refine lv_iload_n hx hb dX3_shifted_22 rfl (lv_at hl 2 rfl) ?_
  refine lv_isub hx hb dX3_shifted_23 ?_
  refine lv_iushr hx hb dX3_shifted_24 rfl ?_
  refine lv_iload_n hx hb dX3_shifted_25 rfl (lv_at hl 0 rfl) ?_
  refine lv_iconst (v := (-1)) hx hb dX3_shifted_26 (by decide) ?_
  refine lv_ixor hx hb dX3_shifted_27 ?_
  refine lv_iand hx hb dX3_shifted_28 ?_
  refine lv_ior hx hb dX3_shifted_29 ?_
  refine W.widen (k := 0) (n := 0) (Nat.le_of_ble_eq_true rfl) (Nat.le_of_ble_eq_true rfl) ?_
  exact W.iret (v := ((p0 <<< (p1 &&& 31)) &&& z13) ||| (((p0.toUInt32 >>> ((8 - p1).toUInt32 &&& Int32.toUInt32 31)).toInt32) &&& (z13 ^^^ (-1)))) hx hb hr (fun t ht hW => ⟨⟨((p0 <<< (p1 &&& 31)) &&& z13) ||| (((p0.toUInt32 >>> ((8 - p1).toUInt32 &&& Int32.toUInt32 31)).toInt32) &&& (z13 ^^^ (-1))), (), rfl, (by rw [ez13];  rfl), PB.mk9 hP ht⟩, hS.F ht⟩) hS.2.2 dX3_shifted_30

set_option maxHeartbeats 4000000 in
set_option maxRecDepth 100000 in
theorem k_bitCount (l : Launch) (hst : l.stackTraces = false) (g : gE) (base n : Nat) (L : Nat → Nat) (w0 : Nat → va_E) (p0 : Int32) : Met l yJ6_bitCount_0f7a4 wsJ6_bitCount_0f7a4 ({ frames := 0, cells := 0, slots := 0, locals := 0 }) (va_Pc [.int p0] (PW SS g base n L (w0))) (va_Qi (fun (r : Int32) (_ : Unit) => r = pcF p0) (fun (u : Unit) t => PB g n L (w0) t) (fun q => base ≤ q)) 0 0 (fun q => base ≤ q) := by
  refine Met.ofW (cc := cJ6_bitCount_0f7a4) (maxL := 1) (ret := (some .int)) (by decide) rfl ?_
  intro p e s m args below meth c s₁ B hml hv
  obtain ⟨rfl, hPW⟩ := hv
  obtain ⟨hbs, hJ, hP, hK, hE⟩ := id hPW
  have hx := B.exec
  have hb := B.bytes
  have hr := B.returns
  have hts := atoms_spec (ws := wsJ6_bitCount_0f7a4) B.pre
  have hown : s.vm.findClass RJ6 = some m.cls := findClass_of_methodNamed B.named
  have hlocks := B.notSynchronized
  have hS : va_S (fun q : Nat => base ≤ q) s.heap s.heap [] := va_S.rf
  have hl := lv_entry ([.int p0]) (n := 1) (Nat.le_of_ble_eq_true rfl)
  rw [lg_entry_eq]
  generalize (lg_sl ([.int p0]) ++ List.replicate (1 - (lg_sl ([.int p0])).length) Slot.unset).toArray = ls at hl ⊢
  have hl : lv_has ls 1 [(0, .int p0)] := hl
  refine lv_iload_n hx hb dJ6_bitCount_0f7a4_0 rfl (lv_at hl 0 rfl) ?_
  refine lv_iload_n hx hb dJ6_bitCount_0f7a4_1 rfl (lv_at hl 0 rfl) ?_
  refine lv_iconst (v := 1) hx hb dJ6_bitCount_0f7a4_2 (by decide) ?_
  refine lv_iushr hx hb dJ6_bitCount_0f7a4_3 rfl ?_
  refine lv_ldcw (v := 1431655765) hx hb hown (hts (.constant RJ6 265 1431655765) (by decide +kernel)) dJ6_bitCount_0f7a4_4 ?_
  refine lv_iand hx hb dJ6_bitCount_0f7a4_7 ?_
  refine lv_isub hx hb dJ6_bitCount_0f7a4_8 ?_
  refine lv_topi (fun z9 ez9 => ?_)
  refine lv_istore_n (lv' := [(0, .int z9)]) hx hb dJ6_bitCount_0f7a4_9 rfl hl (by decide) rfl (fun ls hl => ?_)
  refine lv_iload_n hx hb dJ6_bitCount_0f7a4_10 rfl (lv_at hl 0 rfl) ?_
  refine lv_ldcw (v := 858993459) hx hb hown (hts (.constant RJ6 266 858993459) (by decide +kernel)) dJ6_bitCount_0f7a4_11 ?_
  refine lv_iand hx hb dJ6_bitCount_0f7a4_14 ?_
  refine lv_iload_n hx hb dJ6_bitCount_0f7a4_15 rfl (lv_at hl 0 rfl) ?_
  refine lv_iconst (v := 2) hx hb dJ6_bitCount_0f7a4_16 (by decide) ?_
  refine lv_iushr hx hb dJ6_bitCount_0f7a4_17 rfl ?_
  refine lv_ldcw (v := 858993459) hx hb hown (hts (.constant RJ6 266 858993459) (by decide +kernel)) dJ6_bitCount_0f7a4_18 ?_
  refine lv_iand hx hb dJ6_bitCount_0f7a4_21 ?_
  refine lv_iadd hx hb dJ6_bitCount_0f7a4_22 ?_
  refine lv_topi (fun z23 ez23 => ?_)
  refine lv_istore_n (lv' := [(0, .int z23)]) hx hb dJ6_bitCount_0f7a4_23 rfl hl (by decide) rfl (fun ls hl => ?_)
  refine lv_iload_n hx hb dJ6_bitCount_0f7a4_24 rfl (lv_at hl 0 rfl) ?_
  refine lv_iload_n hx hb dJ6_bitCount_0f7a4_25 rfl (lv_at hl 0 rfl) ?_
  refine lv_iconst (v := 4) hx hb dJ6_bitCount_0f7a4_26 (by decide) ?_
  refine lv_iushr hx hb dJ6_bitCount_0f7a4_27 rfl ?_
  refine lv_iadd hx hb dJ6_bitCount_0f7a4_28 ?_
  refine lv_ldcw (v := 252645135) hx hb hown (hts (.constant RJ6 267 252645135) (by decide +kernel)) dJ6_bitCount_0f7a4_29 ?_
  refine lv_iand hx hb dJ6_bitCount_0f7a4_32 ?_
  refine lv_topi (fun z33 ez33 => ?_)
  refine lv_istore_n (lv' := [(0, .int z33)]) hx hb dJ6_bitCount_0f7a4_33 rfl hl (by decide) rfl (fun ls hl => ?_)
  refine lv_iload_n hx hb dJ6_bitCount_0f7a4_34 rfl (lv_at hl 0 rfl) ?_
  refine lv_iload_n hx hb dJ6_bitCount_0f7a4_35 rfl (lv_at hl 0 rfl) ?_
  refine lv_bipush (v := 8) hx hb dJ6_bitCount_0f7a4_36 (by decide) ?_
  refine lv_iushr hx hb dJ6_bitCount_0f7a4_38 rfl ?_
  refine lv_iadd hx hb dJ6_bitCount_0f7a4_39 ?_
  refine lv_topi (fun z40 ez40 => ?_)
  refine lv_istore_n (lv' := [(0, .int z40)]) hx hb dJ6_bitCount_0f7a4_40 rfl hl (by decide) rfl (fun ls hl => ?_)
  refine lv_iload_n hx hb dJ6_bitCount_0f7a4_41 rfl (lv_at hl 0 rfl) ?_
  refine lv_iload_n hx hb dJ6_bitCount_0f7a4_42 rfl (lv_at hl 0 rfl) ?_
  refine lv_bipush (v := 16) hx hb dJ6_bitCount_0f7a4_43 (by decide) ?_
  refine lv_iushr hx hb dJ6_bitCount_0f7a4_45 rfl ?_
  refine lv_iadd hx hb dJ6_bitCount_0f7a4_46 ?_
  refine lv_topi (fun z47 ez47 => ?_)
  refine lv_istore_n (lv' := [(0, .int z47)]) hx hb dJ6_bitCount_0f7a4_47 rfl hl (by decide) rfl (fun ls hl => ?_)
  refine lv_iload_n hx hb dJ6_bitCount_0f7a4_48 rfl (lv_at hl 0 rfl) ?_
  refine lv_bipush (v := 63) hx hb dJ6_bitCount_0f7a4_49 (by decide) ?_
  refine lv_iand hx hb dJ6_bitCount_0f7a4_51 ?_
  refine W.widen (k := 0) (n := 0) (Nat.le_of_ble_eq_true rfl) (Nat.le_of_ble_eq_true rfl) ?_
  exact W.iret (v := z47 &&& 63) hx hb hr (fun t ht hW => ⟨⟨z47 &&& 63, (), rfl, (by rw [ez47]; rw [ez40]; rw [ez33]; rw [ez23]; rw [ez9];  rfl), PB.mk9 hP ht⟩, hS.F ht⟩) hS.2.2 dJ6_bitCount_0f7a4_52

set_option maxHeartbeats 4000000 in
set_option maxRecDepth 100000 in
theorem k_isOver (l : Launch) (hst : l.stackTraces = false) (g : gE) (base n : Nat) (L : Nat → Nat) (hn : 106 ≤ n) (x : St) (r0 : Nat → va_E) (i : Nat) (hi : i < 40) (p0 : Int32) : Met l yX1_isOver wsX1_isOver ({ frames := 0, cells := 0, slots := 0, locals := 0 }) (va_Pc [.ref (L (26 + 2 * i)), .int p0] (PW SS g base n L (cw g L x r0))) (va_Qi (fun (r : Int32) (_ : Unit) => (r = 1 ∧ x 33 i 0 ≤ p0) ∨ (r = 0 ∧ ¬ (x 33 i 0 ≤ p0))) (fun (u : Unit) t => PB g n L (cw g L x r0) t) (fun q => base ≤ q)) 0 0 (fun q => base ≤ q) := by
  refine Met.ofW (cc := cX1_isOver) (maxL := 2) (ret := (some .boolean)) (by decide) rfl ?_
  intro p e s m args below meth c s₁ B hml hv
  obtain ⟨rfl, hPW⟩ := hv
  obtain ⟨hbs, hJ, hP, hK, hE⟩ := id hPW
  have hx := B.exec
  have hb := B.bytes
  have hr := B.returns
  have hts := atoms_spec (ws := wsX1_isOver) B.pre
  have hown : s.vm.findClass RX1 = some m.cls := findClass_of_methodNamed B.named
  have hlocks := B.notSynchronized
  have hS : va_S (fun q : Nat => base ≤ q) s.heap s.heap [] := va_S.rf
  have hl := lv_entry ([.ref (L (26 + 2 * i)), .int p0]) (n := 2) (Nat.le_of_ble_eq_true rfl)
  rw [lg_entry_eq]
  generalize (lg_sl ([.ref (L (26 + 2 * i)), .int p0]) ++ List.replicate (2 - (lg_sl ([.ref (L (26 + 2 * i)), .int p0])).length) Slot.unset).toArray = ls at hl ⊢
  have hl : lv_has ls 2 [(0, .ref (L (26 + 2 * i))), (1, .int p0)] := hl
  have iX1 : ∀ w ∈ wsX10, w ∈ wsX1_isOver := by decide +kernel
  refine lv_aload_n hx hb dX1_isOver_0 rfl (lv_at hl 0 rfl) ?_
  refine wx_get (D := g.1) (cl := vwCl) (ci := 3) (v := .int (x 33 i 0)) (C := RX1) (T := TX1) (N := 9) hx hb hts iX1 hown hK hP (26 + 2 * i) (by omega) (cw_n (by omega)) rfl 5 (by decide) (hts (.fieldLink RX1 25 "FerroDesk$Notice" "till" "I") (by decide +kernel)) (fun _ h9 => h9) rfl dX1_isOver_1 ?_
  refine lv_iload_n hx hb dX1_isOver_4 rfl (lv_at hl 1 rfl) ?_
  refine lv_icmp_gt (tgt := 12) hx hb dX1_isOver_5 (by decide) (fun c5 => ?_) (fun c5 => ?_)
  · refine lv_iconst (v := 0) hx hb dX1_isOver_12 (by decide) ?_
    refine W.widen (k := 0) (n := 0) (Nat.le_of_ble_eq_true rfl) (Nat.le_of_ble_eq_true rfl) ?_
    exact W.zret (v := 0) hx hb hr (by decide) (fun t ht hW => ⟨⟨0, (), rfl, Or.inr ⟨rfl, (by revert c5; (try simp only [Int32.lt_iff_toInt_lt, Int32.le_iff_toInt_le, ← Int32.toInt_inj, i_0, i_1, i_2, i_3, i_4, i_6, i_9, i_20, i_32, i_40, i_48, i_60, i_200, i_999, i_2000, i_m1]); omega)⟩, PB.mk9 hP ht⟩, hS.F ht⟩) hS.2.2 dX1_isOver_13
  · refine lv_iconst (v := 1) hx hb dX1_isOver_8 (by decide) ?_
    refine lv_goto (tgt := 13) hx hb dX1_isOver_9 (by decide) ?_
    refine W.widen (k := 0) (n := 0) (Nat.le_of_ble_eq_true rfl) (Nat.le_of_ble_eq_true rfl) ?_
    exact W.zret (v := 1) hx hb hr (by decide) (fun t ht hW => ⟨⟨1, (), rfl, Or.inl ⟨rfl, (by revert c5; (try simp only [Int32.lt_iff_toInt_lt, Int32.le_iff_toInt_le, ← Int32.toInt_inj, i_0, i_1, i_2, i_3, i_4, i_6, i_9, i_20, i_32, i_40, i_48, i_60, i_200, i_999, i_2000, i_m1]); omega)⟩, PB.mk9 hP ht⟩, hS.F ht⟩) hS.2.2 dX1_isOver_13

set_option maxHeartbeats 4000000 in
set_option maxRecDepth 100000 in
theorem k_isOf (l : Launch) (hst : l.stackTraces = false) (g : gE) (base n : Nat) (L : Nat → Nat) (hn : 106 ≤ n) (x : St) (r0 : Nat → va_E) (i : Nat) (hi : i < 40) (p0 : Int32) : Met l yX1_isOf wsX1_isOf ({ frames := 0, cells := 0, slots := 0, locals := 0 }) (va_Pc [.ref (L (26 + 2 * i)), .int p0] (PW SS g base n L (cw g L x r0))) (va_Qi (fun (r : Int32) (_ : Unit) => (r = 1 ∧ (x 32 i 0 ≤ p0 ∧ p0 < x 33 i 0)) ∨ (r = 0 ∧ ¬ ((x 32 i 0 ≤ p0 ∧ p0 < x 33 i 0)))) (fun (u : Unit) t => PB g n L (cw g L x r0) t) (fun q => base ≤ q)) 0 0 (fun q => base ≤ q) := by
  refine Met.ofW (cc := cX1_isOf) (maxL := 2) (ret := (some .boolean)) (by decide) rfl ?_
  intro p e s m args below meth c s₁ B hml hv
  obtain ⟨rfl, hPW⟩ := hv
  obtain ⟨hbs, hJ, hP, hK, hE⟩ := id hPW
  have hx := B.exec
  have hb := B.bytes
  have hr := B.returns
  have hts := atoms_spec (ws := wsX1_isOf) B.pre
  have hown : s.vm.findClass RX1 = some m.cls := findClass_of_methodNamed B.named
  have hlocks := B.notSynchronized
  have hS : va_S (fun q : Nat => base ≤ q) s.heap s.heap [] := va_S.rf
  have hl := lv_entry ([.ref (L (26 + 2 * i)), .int p0]) (n := 2) (Nat.le_of_ble_eq_true rfl)
  rw [lg_entry_eq]
  generalize (lg_sl ([.ref (L (26 + 2 * i)), .int p0]) ++ List.replicate (2 - (lg_sl ([.ref (L (26 + 2 * i)), .int p0])).length) Slot.unset).toArray = ls at hl ⊢
  have hl : lv_has ls 2 [(0, .ref (L (26 + 2 * i))), (1, .int p0)] := hl
  have iX1 : ∀ w ∈ wsX10, w ∈ wsX1_isOf := by decide +kernel
  refine lv_aload_n hx hb dX1_isOf_0 rfl (lv_at hl 0 rfl) ?_
  refine wx_get (D := g.1) (cl := vwCl) (ci := 3) (v := .int (x 32 i 0)) (C := RX1) (T := TX1) (N := 9) hx hb hts iX1 hown hK hP (26 + 2 * i) (by omega) (cw_n (by omega)) rfl 4 (by decide) (hts (.fieldLink RX1 22 "FerroDesk$Notice" "from" "I") (by decide +kernel)) (fun _ h9 => h9) rfl dX1_isOf_1 ?_
  refine lv_iload_n hx hb dX1_isOf_4 rfl (lv_at hl 1 rfl) ?_
  refine lv_icmp_gt (tgt := 20) hx hb dX1_isOf_5 (by decide) (fun c5 => ?_) (fun c5 => ?_)
  · refine lv_iconst (v := 0) hx hb dX1_isOf_20 (by decide) ?_
    refine W.widen (k := 0) (n := 0) (Nat.le_of_ble_eq_true rfl) (Nat.le_of_ble_eq_true rfl) ?_
    exact W.zret (v := 0) hx hb hr (by decide) (fun t ht hW => ⟨⟨0, (), rfl, Or.inr ⟨rfl, (by revert c5; (try simp only [Int32.lt_iff_toInt_lt, Int32.le_iff_toInt_le, ← Int32.toInt_inj, i_0, i_1, i_2, i_3, i_4, i_6, i_9, i_20, i_32, i_40, i_48, i_60, i_200, i_999, i_2000, i_m1]); omega)⟩, PB.mk9 hP ht⟩, hS.F ht⟩) hS.2.2 dX1_isOf_21
  · refine lv_iload_n hx hb dX1_isOf_8 rfl (lv_at hl 1 rfl) ?_
    refine lv_aload_n hx hb dX1_isOf_9 rfl (lv_at hl 0 rfl) ?_
    refine wx_get (D := g.1) (cl := vwCl) (ci := 3) (v := .int (x 33 i 0)) (C := RX1) (T := TX1) (N := 9) hx hb hts iX1 hown hK hP (26 + 2 * i) (by omega) (cw_n (by omega)) rfl 5 (by decide) (hts (.fieldLink RX1 25 "FerroDesk$Notice" "till" "I") (by decide +kernel)) (fun _ h9 => h9) rfl dX1_isOf_10 ?_
    refine lv_icmp_ge (tgt := 20) hx hb dX1_isOf_13 (by decide) (fun c13 => ?_) (fun c13 => ?_)
    · refine lv_iconst (v := 0) hx hb dX1_isOf_20 (by decide) ?_
      refine W.widen (k := 0) (n := 0) (Nat.le_of_ble_eq_true rfl) (Nat.le_of_ble_eq_true rfl) ?_
      exact W.zret (v := 0) hx hb hr (by decide) (fun t ht hW => ⟨⟨0, (), rfl, Or.inr ⟨rfl, (by revert c5 c13; (try simp only [Int32.lt_iff_toInt_lt, Int32.le_iff_toInt_le, ← Int32.toInt_inj, i_0, i_1, i_2, i_3, i_4, i_6, i_9, i_20, i_32, i_40, i_48, i_60, i_200, i_999, i_2000, i_m1]); omega)⟩, PB.mk9 hP ht⟩, hS.F ht⟩) hS.2.2 dX1_isOf_21
    · refine lv_iconst (v := 1) hx hb dX1_isOf_16 (by decide) ?_
      refine lv_goto (tgt := 21) hx hb dX1_isOf_17 (by decide) ?_
      refine W.widen (k := 0) (n := 0) (Nat.le_of_ble_eq_true rfl) (Nat.le_of_ble_eq_true rfl) ?_
      exact W.zret (v := 1) hx hb hr (by decide) (fun t ht hW => ⟨⟨1, (), rfl, Or.inl ⟨rfl, (by revert c5 c13; (try simp only [Int32.lt_iff_toInt_lt, Int32.le_iff_toInt_le, ← Int32.toInt_inj, i_0, i_1, i_2, i_3, i_4, i_6, i_9, i_20, i_32, i_40, i_48, i_60, i_200, i_999, i_2000, i_m1]); omega)⟩, PB.mk9 hP ht⟩, hS.F ht⟩) hS.2.2 dX1_isOf_21

set_option maxHeartbeats 4000000 in
set_option maxRecDepth 100000 in
theorem k_isQueuedIn (l : Launch) (hst : l.stackTraces = false) (g : gE) (base n : Nat) (L : Nat → Nat) (hn : 106 ≤ n) (x : St) (r0 : Nat → va_E) (i : Nat) (hi : i < 40) (p0 p1 : Int32) : Met l yX1_isQueuedIn wsX1_isQueuedIn ({ frames := 1, cells := 0, slots := 0, locals := 40 }) (va_Pc [.ref (L (26 + 2 * i)), .int p0, .int p1] (PW SS g base n L (cw g L x r0))) (va_Qi (fun (r : Int32) (_ : Unit) => (r = 1 ∧ (bitF (x 36 i 0) p0 = 1 ∧ ¬ x 33 i 0 ≤ p1)) ∨ (r = 0 ∧ ¬ ((bitF (x 36 i 0) p0 = 1 ∧ ¬ x 33 i 0 ≤ p1)))) (fun (u : Unit) t => PB g n L (cw g L x r0) t) (fun q => base ≤ q)) 0 0 (fun q => base ≤ q) := by
  refine Met.ofW (cc := cX1_isQueuedIn) (maxL := 3) (ret := (some .boolean)) (by decide) rfl ?_
  intro p e s m args below meth c s₁ B hml hv
  obtain ⟨rfl, hPW⟩ := hv
  obtain ⟨hbs, hJ, hP, hK, hE⟩ := id hPW
  have hx := B.exec
  have hb := B.bytes
  have hr := B.returns
  have hts := atoms_spec (ws := wsX1_isQueuedIn) B.pre
  have hown : s.vm.findClass RX1 = some m.cls := findClass_of_methodNamed B.named
  have hlocks := B.notSynchronized
  have hS : va_S (fun q : Nat => base ≤ q) s.heap s.heap [] := va_S.rf
  have hl := lv_entry ([.ref (L (26 + 2 * i)), .int p0, .int p1]) (n := 3) (Nat.le_of_ble_eq_true rfl)
  rw [lg_entry_eq]
  generalize (lg_sl ([.ref (L (26 + 2 * i)), .int p0, .int p1]) ++ List.replicate (3 - (lg_sl ([.ref (L (26 + 2 * i)), .int p0, .int p1])).length) Slot.unset).toArray = ls at hl ⊢
  have hl : lv_has ls 3 [(0, .ref (L (26 + 2 * i))), (1, .int p0), (2, .int p1)] := hl
  have iX1 : ∀ w ∈ wsX10, w ∈ wsX1_isQueuedIn := by decide +kernel
  refine lv_aload_n hx hb dX1_isQueuedIn_0 rfl (lv_at hl 0 rfl) ?_
  refine wx_get (D := g.1) (cl := vwCl) (ci := 3) (v := .int (x 36 i 0)) (C := RX1) (T := TX1) (N := 9) hx hb hts iX1 hown hK hP (26 + 2 * i) (by omega) (cw_n (by omega)) rfl 8 (by decide) (hts (.fieldLink RX1 35 "FerroDesk$Notice" "districts" "I") (by decide +kernel)) (fun _ h9 => h9) rfl dX1_isQueuedIn_1 ?_
  refine lv_iload_n hx hb dX1_isQueuedIn_4 rfl (lv_at hl 1 rfl) ?_
  refine wx_calli (va_runSN (As := [.int (x 36 i 0), .int p0]) (rest := []) ⟨hx, hb, hml, hown, hts⟩ (k_bitOf l hst g base n L (cw g L x r0) (x 36 i 0) p0) (⟨va_cnB 2 hts gX1_isQueuedIn_X3_bitOf_n41 rfl rfl rfl (hE.1 _ (ng_in (w := (Cond.methodLinkNest "FerroDesk$Notice" 41 yX3_bitOf "FerroDesk")) (by decide +kernel))) (hts (.initialized RX3) (by decide +kernel)) (by decide +kernel) ⟨Nat.le_of_ble_eq_true rfl, Nat.le_of_ble_eq_true rfl⟩, hts (.static yX3_bitOf) (by decide +kernel), trivial⟩) (hPW.preS hP hS) rfl rfl hl.1 rfl (lv_room (Nat.le_of_ble_eq_true rfl)) dX1_isQueuedIn_5 ⟨Nat.le_of_ble_eq_true rfl, Nat.le_of_ble_eq_true rfl⟩) hS (fun r5 u5 H locs h5 hP hS => ?_)
  obtain rfl := h5
  refine lv_iconst (v := 1) hx hb dX1_isQueuedIn_8 (by decide) ?_
  refine lv_icmp_ne (tgt := 24) hx hb dX1_isQueuedIn_9 (by decide) (fun c9 => ?_) (fun c9 => ?_)
  · refine lv_iconst (v := 0) hx hb dX1_isQueuedIn_24 (by decide) ?_
    refine W.widen (k := 0) (n := 0) (Nat.le_of_ble_eq_true rfl) (Nat.le_of_ble_eq_true rfl) ?_
    exact W.zret (v := 0) hx hb hr (by decide) (fun t ht hW => ⟨⟨0, (), rfl, Or.inr ⟨rfl, by simp [c9]⟩, PB.mk9 hP ht⟩, hS.F ht⟩) hS.2.2 dX1_isQueuedIn_25
  · refine lv_aload_n hx hb dX1_isQueuedIn_12 rfl (lv_at hl 0 rfl) ?_
    refine lv_iload_n hx hb dX1_isQueuedIn_13 rfl (lv_at hl 2 rfl) ?_
    refine wx_calli (va_runV (As := [.int p1]) (rest := []) ⟨hx, hb, hml, hown, hts⟩ (k_isOver l hst g base n L (by omega) x r0 i (by omega) p1) (cwV 1 hts gX1_isQueuedIn_X1_isOver rfl rfl rfl (by decide +kernel) ⟨Nat.le_of_ble_eq_true rfl, Nat.le_of_ble_eq_true rfl⟩) (hPW.preV hP hS (ci := 3) rfl (by omega) (cw_n (by omega))) rfl rfl hl.1 rfl (lv_room (Nat.le_of_ble_eq_true rfl)) dX1_isQueuedIn_14 ⟨Nat.le_of_ble_eq_true rfl, Nat.le_of_ble_eq_true rfl⟩) hS (fun r14 u14 H locs h14 hP hS => ?_)
    rcases h14 with ⟨rfl, h14⟩ | ⟨rfl, h14⟩
    · refine lv_if_ne (tgt := 24) hx hb dX1_isQueuedIn_17 (by decide) (fun c17 => ?_) (fun c17 => absurd c17 (by decide))
      refine lv_iconst (v := 0) hx hb dX1_isQueuedIn_24 (by decide) ?_
      refine W.widen (k := 0) (n := 0) (Nat.le_of_ble_eq_true rfl) (Nat.le_of_ble_eq_true rfl) ?_
      exact W.zret (v := 0) hx hb hr (by decide) (fun t ht hW => ⟨⟨0, (), rfl, Or.inr ⟨rfl, by simp [c9, h14]⟩, PB.mk9 hP ht⟩, hS.F ht⟩) hS.2.2 dX1_isQueuedIn_25
    · refine lv_if_ne (tgt := 24) hx hb dX1_isQueuedIn_17 (by decide) (fun c17 => absurd c17 (by decide)) (fun c17 => ?_)
      refine lv_iconst (v := 1) hx hb dX1_isQueuedIn_20 (by decide) ?_
      refine lv_goto (tgt := 25) hx hb dX1_isQueuedIn_21 (by decide) ?_
      refine W.widen (k := 0) (n := 0) (Nat.le_of_ble_eq_true rfl) (Nat.le_of_ble_eq_true rfl) ?_
      exact W.zret (v := 1) hx hb hr (by decide) (fun t ht hW => ⟨⟨1, (), rfl, Or.inl ⟨rfl, by simp [c9, h14]⟩, PB.mk9 hP ht⟩, hS.F ht⟩) hS.2.2 dX1_isQueuedIn_25

set_option maxHeartbeats 4000000 in
set_option maxRecDepth 100000 in
theorem k_canHaveMade (l : Launch) (hst : l.stackTraces = false) (g : gE) (base n : Nat) (L : Nat → Nat) (hn : 106 ≤ n) (x : St) (r0 : Nat → va_E) (i : Nat) (hi : i < 40) (p0 : Int32) : Met l yX1_canHaveMade wsX1_canHaveMade ({ frames := 1, cells := 0, slots := 0, locals := 40 }) (va_Pc [.ref (L (26 + 2 * i)), .int p0] (PW SS g base n L (cw g L x r0))) (va_Qi (fun (r : Int32) (_ : Unit) => (r = 1 ∧ (∃ j, j < 8 ∧ p0 &&& (shF (x 31 i 0) (nI j) ^^^ (-1)) = 0)) ∨ (r = 0 ∧ ¬ ((∃ j, j < 8 ∧ p0 &&& (shF (x 31 i 0) (nI j) ^^^ (-1)) = 0)))) (fun (u : Unit) t => PB g n L (cw g L x r0) t) (fun q => base ≤ q)) 0 0 (fun q => base ≤ q) := by
  refine Met.ofW (cc := cX1_canHaveMade) (maxL := 3) (ret := (some .boolean)) (by decide) rfl ?_
  intro p e s m args below meth c s₁ B hml hv
  obtain ⟨rfl, hPW⟩ := hv
  obtain ⟨hbs, hJ, hP, hK, hE⟩ := id hPW
  have hx := B.exec
  have hb := B.bytes
  have hr := B.returns
  have hts := atoms_spec (ws := wsX1_canHaveMade) B.pre
  have hown : s.vm.findClass RX1 = some m.cls := findClass_of_methodNamed B.named
  have hlocks := B.notSynchronized
  have hS : va_S (fun q : Nat => base ≤ q) s.heap s.heap [] := va_S.rf
  have hl := lv_entry ([.ref (L (26 + 2 * i)), .int p0]) (n := 3) (Nat.le_of_ble_eq_true rfl)
  rw [lg_entry_eq]
  generalize (lg_sl ([.ref (L (26 + 2 * i)), .int p0]) ++ List.replicate (3 - (lg_sl ([.ref (L (26 + 2 * i)), .int p0])).length) Slot.unset).toArray = ls at hl ⊢
  have hl : lv_has ls 3 [(0, .ref (L (26 + 2 * i))), (1, .int p0)] := hl
  have iX1 : ∀ w ∈ wsX10, w ∈ wsX1_canHaveMade := by decide +kernel
  refine lv_iconst (v := 0) hx hb dX1_canHaveMade_0 (by decide) ?_
  refine lv_istore_n (lv' := [(2, .int 0), (0, .ref (L (26 + 2 * i))), (1, .int p0)]) hx hb dX1_canHaveMade_1 rfl hl (by decide) rfl (fun ls hl => ?_)
  have key2 : ∀ (d k : Nat) (z2 : Int32) (H : Heap) (locs : List Loc) (ls : Array Slot), k + d = 8 → (z2 = nI k) → (∀ j, j < k → ¬ (p0 &&& (shF (x 31 i 0) (nI j) ^^^ (-1)) = 0)) → va_P g.1 vwCl (wl n L (cw g L x r0)) H → va_S (fun q : Nat => base ≤ q) s.heap H locs → lv_has ls 3 [(2, .int z2), (0, .ref (L (26 + 2 * i))), (1, .int p0)] → W p l e (headSpec wsX1_canHaveMade ({ frames := 1, cells := 0, slots := 0, locals := 40 })).room s m ([.ref (L (26 + 2 * i)), .int p0] : List Value).toArray below meth c H locs 0 0 (MQ below (va_Qi (fun (r : Int32) (_ : Unit) => (r = 1 ∧ (∃ j, j < 8 ∧ p0 &&& (shF (x 31 i 0) (nI j) ^^^ (-1)) = 0)) ∨ (r = 0 ∧ ¬ ((∃ j, j < 8 ∧ p0 &&& (shF (x 31 i 0) (nI j) ^^^ (-1)) = 0)))) (fun (u : Unit) t => PB g n L (cw g L x r0) t) (fun q => base ≤ q)) ([.ref (L (26 + 2 * i)), .int p0] : List Value).toArray s 0 0 (fun q => base ≤ q)) (F0 m 2 ls []) := by
    intro d
    induction d with
    | zero =>
      intro k z2 H locs ls hkd ek2 hno hP hS hl
      obtain rfl : k = 8 := by omega
      subst ek2
      refine lv_iload_n hx hb dX1_canHaveMade_2 rfl (lv_at hl 0 rfl) ?_
      refine lv_bipush (v := 8) hx hb dX1_canHaveMade_3 (by decide) ?_
      refine lv_icmp_ge (tgt := 31) hx hb dX1_canHaveMade_5 (by decide) (fun c5 => ?_) (fun c5 => absurd (by decide) c5)
      refine lv_iconst (v := 0) hx hb dX1_canHaveMade_31 (by decide) ?_
      refine W.widen (k := 0) (n := 0) (Nat.le_of_ble_eq_true rfl) (Nat.le_of_ble_eq_true rfl) ?_
      exact W.zret (v := 0) hx hb hr (by decide) (fun t ht hW => ⟨⟨0, (), rfl, Or.inr ⟨rfl, fun ⟨j, hj, h9⟩ => hno j hj h9⟩, PB.mk9 hP ht⟩, hS.F ht⟩) hS.2.2 dX1_canHaveMade_32
    | succ d ih =>
      intro k z2 H locs ls hkd ek2 hno hP hS hl
      have hkN : k < 8 := by omega
      subst ek2
      refine lv_iload_n hx hb dX1_canHaveMade_2 rfl (lv_at hl 0 rfl) ?_
      refine lv_bipush (v := 8) hx hb dX1_canHaveMade_3 (by decide) ?_
      refine lv_icmp_ge (tgt := 31) hx hb dX1_canHaveMade_5 (by decide) (fun c5 => absurd c5 (nI_ge (b := 8) hkN (by decide))) (fun c5 => ?_)
      refine lv_iload_n hx hb dX1_canHaveMade_8 rfl (lv_at hl 2 rfl) ?_
      refine lv_aload_n hx hb dX1_canHaveMade_9 rfl (lv_at hl 1 rfl) ?_
      refine wx_get (D := g.1) (cl := vwCl) (ci := 3) (v := .int (x 31 i 0)) (C := RX1) (T := TX1) (N := 9) hx hb hts iX1 hown hK hP (26 + 2 * i) (by omega) (cw_n (by omega)) rfl 3 (by decide) (hts (.fieldLink RX1 19 "FerroDesk$Notice" "picture" "I") (by decide +kernel)) (fun _ h9 => h9) rfl dX1_canHaveMade_10 ?_
      refine lv_iload_n hx hb dX1_canHaveMade_13 rfl (lv_at hl 0 rfl) ?_
      refine wx_calli (va_runSN (As := [.int (x 31 i 0), .int (nI k)]) (rest := [.int p0]) ⟨hx, hb, hml, hown, hts⟩ (k_shifted l hst g base n L (cw g L x r0) (x 31 i 0) (nI k)) (⟨va_cnB 2 hts gX1_canHaveMade_X3_shifted_n49 rfl rfl rfl (hE.1 _ (ng_in (w := (Cond.methodLinkNest "FerroDesk$Notice" 49 yX3_shifted "FerroDesk")) (by decide +kernel))) (hts (.initialized RX3) (by decide +kernel)) (by decide +kernel) ⟨Nat.le_of_ble_eq_true rfl, Nat.le_of_ble_eq_true rfl⟩, hts (.static yX3_shifted) (by decide +kernel), trivial⟩) (hPW.preS hP hS) rfl rfl hl.1 rfl (lv_room (Nat.le_of_ble_eq_true rfl)) dX1_canHaveMade_14 ⟨Nat.le_of_ble_eq_true rfl, Nat.le_of_ble_eq_true rfl⟩) hS (fun r14 u14 H locs h14 hP hS => ?_)
      obtain rfl := h14
      refine lv_iconst (v := (-1)) hx hb dX1_canHaveMade_17 (by decide) ?_
      refine lv_ixor hx hb dX1_canHaveMade_18 ?_
      refine lv_iand hx hb dX1_canHaveMade_19 ?_
      refine lv_if_ne (tgt := 25) hx hb dX1_canHaveMade_20 (by decide) (fun c20 => ?_) (fun c20 => ?_)
      · obtain ⟨z25, ez25⟩ : ∃ y : Int32, y = nI k + 1 := ⟨_, rfl⟩
        refine lv_iinc (v := z25) (lv' := [(2, .int z25), (0, .ref (L (26 + 2 * i))), (1, .int p0)]) hx hb dX1_canHaveMade_25 hl (k := 0) rfl (by rw [ez25]; rfl) (by decide) rfl (fun ls hl => ?_)
        refine lv_goto (tgt := 2) hx hb dX1_canHaveMade_28 (by decide) ?_
        exact ih (k + 1) _ _ _ _ (by omega) (by rw [ez25, nI_1]) (fun j hj => by rcases (show j < k ∨ j = k by omega) with h9 | rfl; exact hno j h9; exact c20) hP hS (lv_sub hl [0, 1, 2] rfl)
      · refine lv_iconst (v := 1) hx hb dX1_canHaveMade_23 (by decide) ?_
        refine W.widen (k := 0) (n := 0) (Nat.le_of_ble_eq_true rfl) (Nat.le_of_ble_eq_true rfl) ?_
        exact W.zret (v := 1) hx hb hr (by decide) (fun t ht hW => ⟨⟨1, (), rfl, Or.inl ⟨rfl, ⟨k, hkN, c20⟩⟩, PB.mk9 hP ht⟩, hS.F ht⟩) hS.2.2 dX1_canHaveMade_24
  exact key2 8 0 _ _ _ _ (by omega) rfl (fun j h => absurd h (Nat.not_lt_zero _)) hP hS (lv_sub hl [0, 1, 2] rfl)

