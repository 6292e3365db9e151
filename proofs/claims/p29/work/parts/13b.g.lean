/-! laid by wip/gen -/
set_option maxHeartbeats 4000000 in
set_option maxRecDepth 100000 in
theorem k_checksum (l : Launch) (hst : l.stackTraces = false) (g : gE) (base n : Nat) (L : Nat → Nat) (hn : 106 ≤ n) (x : St) (r0 : Nat → va_E) (nb : Nat) (hnb : nb ≤ 6) (hx0 : x 0 0 0 = nI nb) : Met l yX3_checksum wsX3_checksum ({ frames := 1, cells := 0, slots := 0, locals := 60 }) (va_Pc [.ref (L 0)] (PW SS g base n L (cw g L x r0))) (va_Ql (fun (r : Int64) (_ : Unit) => r = csF x nb) (fun (u : Unit) t => PB g n L (cw g L x r0) t) (fun q => base ≤ q)) 0 0 (fun q => base ≤ q) := by
  refine Met.ofW (cc := cX3_checksum) (maxL := 6) (ret := (some .long)) (by decide) rfl ?_
  intro p e s m args below meth c s₁ B hml hv
  obtain ⟨rfl, hPW⟩ := hv
  obtain ⟨hbs, hJ, hP, hK, hE⟩ := id hPW
  have hx := B.exec
  have hb := B.bytes
  have hr := B.returns
  have hts := atoms_spec (ws := wsX3_checksum) B.pre
  have hown : s.vm.findClass RX3 = some m.cls := findClass_of_methodNamed B.named
  have hlocks := B.notSynchronized
  have hS : va_S (fun q : Nat => base ≤ q) s.heap s.heap [] := va_S.rf
  have hl := lv_entry ([.ref (L 0)]) (n := 6) (Nat.le_of_ble_eq_true rfl)
  rw [lg_entry_eq]
  generalize (lg_sl ([.ref (L 0)]) ++ List.replicate (6 - (lg_sl ([.ref (L 0)])).length) Slot.unset).toArray = ls at hl ⊢
  have hl : lv_has ls 6 [(0, .ref (L 0))] := hl
  have iX0 : ∀ w ∈ wsX00, w ∈ wsX3_checksum := by decide +kernel
  have iX3 : ∀ w ∈ wsX30, w ∈ wsX3_checksum := by decide +kernel
  refine lv_lconst (v := 0) hx hb dX3_checksum_0 (by decide) ?_
  refine lv_lstore_n (lv' := [(1, .long 0), (0, .ref (L 0))]) hx hb dX3_checksum_1 rfl hl (by decide) rfl (fun ls hl => ?_)
  refine lv_iconst (v := 0) hx hb dX3_checksum_2 (by decide) ?_
  refine lv_istore_n (lv' := [(3, .int 0), (1, .long 0), (0, .ref (L 0))]) hx hb dX3_checksum_3 rfl hl (by decide) rfl (fun ls hl => ?_)
  have key4 : ∀ (d k : Nat) (z3 : Int32) (z1 : Int64) (H : Heap) (locs : List Loc) (ls : Array Slot), k + d = nb → (z3 = nI k) → (z1 = csF x k) → va_P g.1 vwCl (wl n L (cw g L x r0)) H → va_S (fun q : Nat => base ≤ q) s.heap H locs → lv_has ls 6 [(3, .int z3), (1, .long z1), (0, .ref (L 0))] → W p l e (headSpec wsX3_checksum ({ frames := 1, cells := 0, slots := 0, locals := 60 })).room s m ([.ref (L 0)] : List Value).toArray below meth c H locs 0 0 (MQ below (va_Ql (fun (r : Int64) (_ : Unit) => r = csF x nb) (fun (u : Unit) t => PB g n L (cw g L x r0) t) (fun q => base ≤ q)) ([.ref (L 0)] : List Value).toArray s 0 0 (fun q => base ≤ q)) (F0 m 4 ls []) := by
    intro d
    induction d with
    | zero =>
      intro k z3 z1 H locs ls hkd ek3 ek1 hP hS hl
      obtain rfl : nb = k := by omega
      subst ek3 ek1
      refine lv_iload_n hx hb dX3_checksum_4 rfl (lv_at hl 0 rfl) ?_
      refine lv_aload_n hx hb dX3_checksum_5 rfl (lv_at hl 2 rfl) ?_
      refine wx_get (D := g.1) (cl := vwCl) (ci := 5) (v := .int (x 0 0 0)) (C := RX3) (T := TX3) (N := 8) hx hb hts iX3 hown hK hP (0) (by omega) cw_d rfl 1 (by decide) (hts (.fieldLink RX3 15 "FerroDesk" "boardCount" "I") (by decide +kernel)) (fun _ h9 => h9) rfl dX3_checksum_6 ?_
      refine lv_icmp_ge (tgt := 71) hx hb dX3_checksum_9 (by decide) (fun c9 => ?_) (fun c9 => absurd (by rw [hx0]; exact nI_le (Nat.le_refl _) (by omega)) c9)
      refine lv_lload_n hx hb dX3_checksum_71 rfl (lv_at hl 1 rfl) ?_
      refine W.widen (k := 0) (n := 0) (Nat.le_of_ble_eq_true rfl) (Nat.le_of_ble_eq_true rfl) ?_
      exact W.lret (v := csF x nb) hx hb hr (fun t ht hW => ⟨⟨csF x nb, (), rfl, rfl, PB.mk9 hP ht⟩, hS.F ht⟩) hS.2.2 dX3_checksum_72
    | succ d ih =>
      intro k z3 z1 H locs ls hkd ek3 ek1 hP hS hl
      have hkN : k < nb := by omega
      subst ek3 ek1
      refine lv_iload_n hx hb dX3_checksum_4 rfl (lv_at hl 0 rfl) ?_
      refine lv_aload_n hx hb dX3_checksum_5 rfl (lv_at hl 2 rfl) ?_
      refine wx_get (D := g.1) (cl := vwCl) (ci := 5) (v := .int (x 0 0 0)) (C := RX3) (T := TX3) (N := 8) hx hb hts iX3 hown hK hP (0) (by omega) cw_d rfl 1 (by decide) (hts (.fieldLink RX3 15 "FerroDesk" "boardCount" "I") (by decide +kernel)) (fun _ h9 => h9) rfl dX3_checksum_6 ?_
      refine lv_icmp_ge (tgt := 71) hx hb dX3_checksum_9 (by decide) (fun c9 => absurd c9 (by rw [hx0]; exact nI_ge hkN (by omega))) (fun c9 => ?_)
      refine lv_aload_n hx hb dX3_checksum_12 rfl (lv_at hl 2 rfl) ?_
      refine wx_get (D := g.1) (cl := vwCl) (ci := 5) (v := .ref (L 1)) (C := RX3) (T := TX3) (N := 8) hx hb hts iX3 hown hK hP (0) (by omega) cw_d rfl 0 (by decide) (hts (.fieldLink RX3 11 "FerroDesk" "boards" "[LFerroDesk$Board;") (by decide +kernel)) (fun _ h9 => h9) rfl dX3_checksum_13 ?_
      refine lv_iload_n hx hb dX3_checksum_16 rfl (lv_at hl 0 rfl) ?_
      refine wx_aald (D := g.1) (cl := vwCl) (f := fun j => if j < 6 then some (L (8 + 3 * j)) else none) (a := L (8 + 3 * k)) hx hb hK hP (1) 1 (by omega) cw_1 rfl (i := nI k) (vp_in_nI (by omega) (by decide)) (by rw [nI_clamp (show k < 2 ^ 31 by omega)]; exact if_pos (by omega)) dX3_checksum_17 ?_
      refine lv_astore (lv' := [(4, .ref (L (8 + 3 * k))), (3, .int (nI k)), (1, .long (csF x k)), (0, .ref (L 0))]) hx hb dX3_checksum_18 hl (by decide) rfl (fun ls hl => ?_)
      refine lv_iconst (v := 0) hx hb dX3_checksum_20 (by decide) ?_
      refine lv_istore (lv' := [(5, .int 0), (4, .ref (L (8 + 3 * k))), (3, .int (nI k)), (1, .long (csF x k)), (0, .ref (L 0))]) hx hb dX3_checksum_21 hl (by decide) rfl (fun ls hl => ?_)
      have key23 : ∀ (dj j : Nat) (z5 : Int32) (z1 : Int64) (H : Heap) (locs : List Loc) (ls : Array Slot), j + dj = 32 → (z5 = nI j) → (z1 = csL x k (csF x k) j) → va_P g.1 vwCl (wl n L (cw g L x r0)) H → va_S (fun q : Nat => base ≤ q) s.heap H locs → lv_has ls 6 [(5, .int z5), (1, .long z1), (0, .ref (L 0)), (3, .int (nI k)), (4, .ref (L (8 + 3 * k)))] → W p l e (headSpec wsX3_checksum ({ frames := 1, cells := 0, slots := 0, locals := 60 })).room s m ([.ref (L 0)] : List Value).toArray below meth c H locs 0 0 (MQ below (va_Ql (fun (r : Int64) (_ : Unit) => r = csF x nb) (fun (u : Unit) t => PB g n L (cw g L x r0) t) (fun q => base ≤ q)) ([.ref (L 0)] : List Value).toArray s 0 0 (fun q => base ≤ q)) (F0 m 23 ls []) := by
        intro dj
        induction dj with
        | zero =>
          intro j z5 z1 H locs ls hkdj ek5 ek1 hP hS hl
          obtain rfl : j = 32 := by omega
          subst ek5 ek1
          refine lv_iload hx hb dX3_checksum_23 (lv_at hl 0 rfl) ?_
          refine lv_bipush (v := 32) hx hb dX3_checksum_25 (by decide) ?_
          refine lv_icmp_ge (tgt := 65) hx hb dX3_checksum_27 (by decide) (fun c27 => ?_) (fun c27 => absurd (by decide) c27)
          obtain ⟨z65, ez65⟩ : ∃ y : Int32, y = nI k + 1 := ⟨_, rfl⟩
          refine lv_iinc (v := z65) (lv' := [(3, .int z65), (5, .int (nI 32)), (1, .long (csL x k (csF x k) 32)), (0, .ref (L 0)), (4, .ref (L (8 + 3 * k)))]) hx hb dX3_checksum_65 hl (k := 3) rfl (by rw [ez65]; rfl) (by decide) rfl (fun ls hl => ?_)
          refine lv_goto (tgt := 4) hx hb dX3_checksum_68 (by decide) ?_
          exact ih (k + 1) _ _ _ _ _ (by omega) (by rw [ez65, nI_1]) rfl hP hS (lv_sub hl [0, 2, 3] rfl)
        | succ dj ihj =>
          intro j z5 z1 H locs ls hkdj ek5 ek1 hP hS hl
          have hkNj : j < 32 := by omega
          subst ek5 ek1
          refine lv_iload hx hb dX3_checksum_23 (lv_at hl 0 rfl) ?_
          refine lv_bipush (v := 32) hx hb dX3_checksum_25 (by decide) ?_
          refine lv_icmp_ge (tgt := 65) hx hb dX3_checksum_27 (by decide) (fun c27 => absurd c27 (nI_ge (b := 32) hkNj (by decide))) (fun c27 => ?_)
          refine lv_ldc2 (v := 31) hx hb hown (hts (.constantLong RX3 236 31) (by decide +kernel)) dX3_checksum_30 ?_
          refine lv_lload_n hx hb dX3_checksum_33 rfl (lv_at hl 1 rfl) ?_
          refine lv_lmul hx hb dX3_checksum_34 ?_
          refine lv_aload hx hb dX3_checksum_35 (lv_at hl 4 rfl) ?_
          refine wx_getN (D := g.1) (cl := vwCl) (ci := 2) (v := .int (x 15 k 0)) (C := RX0) (T := TX0) (N := 12) hx hb hts iX0 hown hK hP (8 + 3 * k) (by omega) (cw_b (by omega)) rfl 5 (by decide) (hE.1 _ (ng_in (w := (Cond.fieldLinkNest "FerroDesk" 76 "FerroDesk$Board" "black" "I" "FerroDesk")) (by decide +kernel))) (fun _ h9 => h9) rfl dX3_checksum_37 ?_
          refine lv_iload hx hb dX3_checksum_40 (lv_at hl 0 rfl) ?_
          refine wx_calli (va_runS (As := [.int (x 15 k 0), .int (nI j)]) (rest := [.long (31 * (csL x k (csF x k) j))]) ⟨hx, hb, hml, hown, hts⟩ (k_bitOf l hst g base n L (cw g L x r0) (x 15 k 0) (nI j)) (va_cwS 2 hts gX3_checksum_X3_bitOf rfl rfl rfl (by decide +kernel) ⟨Nat.le_of_ble_eq_true rfl, Nat.le_of_ble_eq_true rfl⟩) (hPW.preS hP hS) rfl rfl hl.1 rfl (lv_room (Nat.le_of_ble_eq_true rfl)) dX3_checksum_42 ⟨Nat.le_of_ble_eq_true rfl, Nat.le_of_ble_eq_true rfl⟩) hS (fun r42 u42 H locs h42 hP hS => ?_)
          obtain rfl := h42
          refine lv_i2l hx hb dX3_checksum_45 rfl ?_
          refine lv_ladd hx hb dX3_checksum_46 ?_
          refine lv_iconst (v := 2) hx hb dX3_checksum_47 (by decide) ?_
          refine lv_aload hx hb dX3_checksum_48 (lv_at hl 4 rfl) ?_
          refine lv_iload hx hb dX3_checksum_50 (lv_at hl 0 rfl) ?_
          refine wx_calli (va_runV (As := [.int (nI j)]) (rest := [.int 2, .long ((31 * (csL x k (csF x k) j)) + ((bitF (x 15 k 0) (nI j)).toInt64))]) ⟨hx, hb, hml, hown, hts⟩ (k_wearOf l hst g base n L (by omega) x r0 k (by omega)  (nI j)) (cwV 1 hts gX3_checksum_X0_wearOf rfl rfl rfl (by decide +kernel) ⟨Nat.le_of_ble_eq_true rfl, Nat.le_of_ble_eq_true rfl⟩) (hPW.preV hP hS (ci := 2) rfl (by omega) (cw_b (by omega))) rfl rfl hl.1 rfl (lv_room (Nat.le_of_ble_eq_true rfl)) dX3_checksum_52 ⟨Nat.le_of_ble_eq_true rfl, Nat.le_of_ble_eq_true rfl⟩) hS (fun r52 u52 H locs h52 hP hS => ?_)
          obtain rfl := h52
          refine lv_imul hx hb dX3_checksum_55 ?_
          refine lv_i2l hx hb dX3_checksum_56 rfl ?_
          refine lv_ladd hx hb dX3_checksum_57 ?_
          refine lv_topl (fun z58 ez58 => ?_)
          refine lv_lstore_n (lv' := [(1, .long z58), (5, .int (nI j)), (0, .ref (L 0)), (3, .int (nI k)), (4, .ref (L (8 + 3 * k)))]) hx hb dX3_checksum_58 rfl hl (by decide) rfl (fun ls hl => ?_)
          obtain ⟨z59, ez59⟩ : ∃ y : Int32, y = nI j + 1 := ⟨_, rfl⟩
          refine lv_iinc (v := z59) (lv' := [(5, .int z59), (1, .long z58), (0, .ref (L 0)), (3, .int (nI k)), (4, .ref (L (8 + 3 * k)))]) hx hb dX3_checksum_59 hl (k := 1) rfl (by rw [ez59]; rfl) (by decide) rfl (fun ls hl => ?_)
          refine lv_goto (tgt := 23) hx hb dX3_checksum_62 (by decide) ?_
          exact ihj (j + 1) _ _ _ _ _ (by omega) (by rw [ez59, nI_1]) (by rw [ez58]; rfl) hP hS (lv_sub hl [0, 1, 2, 3, 4] rfl)
      exact key23 32 0 _ _ _ _ _ (by omega) rfl rfl hP hS (lv_sub hl [0, 3, 4, 2, 1] rfl)
  exact key4 nb 0 _ _ _ _ _ (by omega) rfl rfl hP hS (lv_sub hl [0, 1, 2] rfl)

set_option maxHeartbeats 4000000 in
set_option maxRecDepth 100000 in
theorem k_shownShare (l : Launch) (hst : l.stackTraces = false) (g : gE) (base n : Nat) (L : Nat → Nat) (hn : 106 ≤ n) (x : St) (r0 : Nat → va_E) (nb : Nat) (hnb : nb ≤ 6) (hx0 : x 0 0 0 = nI nb) (hsh : ∀ b, b < 6 → x 12 b 0 = -1 ∨ ∃ k, k < 40 ∧ x 12 b 0 = nI k) (hfn : nb ≠ 0 → vf_n32 (FP.fdiv (FP.i2f (ssF x nb)) (FP.i2f (x 0 0 0)))) : vx_Met l yX3_shownShare wsX3_shownShare ({ frames := 6, cells := 1, slots := 6, locals := 100 }) (va_Pc [.ref (L 0)] (PW SS g base n L (cw g L x r0))) (va_Qf (fun (r : UInt32) (_ : Unit) => nb ≠ 0 ∧ r = FP.fdiv (FP.i2f (ssF x nb)) (FP.i2f (x 0 0 0))) (fun (u : Unit) t => PB g n L (cw g L x r0) t) (fun q => base ≤ q)) (QX g base n L (cw g L x r0) (fun E => E = "java/lang/ArithmeticException" ∧ nb = 0)) 1 6 (fun q => base ≤ q) := by
  refine vx_ofW (cc := cX3_shownShare) (maxL := 3) (ret := (some .float)) (by decide) rfl ?_
  intro p e s m args below meth c s₁ B hml hno hv
  obtain ⟨rfl, hPW⟩ := hv
  obtain ⟨hbs, hJ, hP, hK, hE⟩ := id hPW
  have hx := B.exec
  have hb := B.bytes
  have hr := B.returns
  have hts := atoms_spec (ws := wsX3_shownShare) B.pre
  have hown : s.vm.findClass RX3 = some m.cls := findClass_of_methodNamed B.named
  have hlocks := B.notSynchronized
  have hS : va_S (fun q : Nat => base ≤ q) s.heap s.heap [] := va_S.rf
  have hl := lv_entry ([.ref (L 0)]) (n := 3) (Nat.le_of_ble_eq_true rfl)
  rw [lg_entry_eq]
  generalize (lg_sl ([.ref (L 0)]) ++ List.replicate (3 - (lg_sl ([.ref (L 0)])).length) Slot.unset).toArray = ls at hl ⊢
  have hl : lv_has ls 3 [(0, .ref (L 0))] := hl
  have iX0 : ∀ w ∈ wsX00, w ∈ wsX3_shownShare := by decide +kernel
  have iX3 : ∀ w ∈ wsX30, w ∈ wsX3_shownShare := by decide +kernel
  refine lv_aload_n hx hb dX3_shownShare_0 rfl (lv_at hl 0 rfl) ?_
  refine wx_get (D := g.1) (cl := vwCl) (ci := 5) (v := .int (x 0 0 0)) (C := RX3) (T := TX3) (N := 8) hx hb hts iX3 hown hK hP (0) (by omega) cw_d rfl 1 (by decide) (hts (.fieldLink RX3 15 "FerroDesk" "boardCount" "I") (by decide +kernel)) (fun _ h9 => h9) rfl dX3_shownShare_1 ?_
  refine lv_if_ne (tgt := 17) hx hb dX3_shownShare_4 (by decide) (fun c4 => ?_) (fun c4 => ?_)
  · have hn0 : nb ≠ 0 := fun h9 => c4 (by rw [hx0, h9]; rfl)
    refine lv_iconst (v := 0) hx hb dX3_shownShare_17 (by decide) ?_
    refine lv_istore_n (lv' := [(1, .int 0), (0, .ref (L 0))]) hx hb dX3_shownShare_18 rfl hl (by decide) rfl (fun ls hl => ?_)
    refine lv_iconst (v := 0) hx hb dX3_shownShare_19 (by decide) ?_
    refine lv_istore_n (lv' := [(2, .int 0), (1, .int 0), (0, .ref (L 0))]) hx hb dX3_shownShare_20 rfl hl (by decide) rfl (fun ls hl => ?_)
    have key21 : ∀ (d k : Nat) (z2 : Int32) (z1 : Int32) (H : Heap) (locs : List Loc) (ls : Array Slot), k + d = nb → (z2 = nI k) → (z1 = ssF x k) → va_P g.1 vwCl (wl n L (cw g L x r0)) H → va_S (fun q : Nat => base ≤ q) s.heap H locs → lv_has ls 3 [(2, .int z2), (1, .int z1), (0, .ref (L 0))] → W p l e (headSpec wsX3_shownShare ({ frames := 6, cells := 1, slots := 6, locals := 100 })).room s m ([.ref (L 0)] : List Value).toArray below meth c H locs 0 0 (vx_MQ below (va_Qf (fun (r : UInt32) (_ : Unit) => nb ≠ 0 ∧ r = FP.fdiv (FP.i2f (ssF x nb)) (FP.i2f (x 0 0 0))) (fun (u : Unit) t => PB g n L (cw g L x r0) t) (fun q => base ≤ q)) (QX g base n L (cw g L x r0) (fun E => E = "java/lang/ArithmeticException" ∧ nb = 0)) ([.ref (L 0)] : List Value).toArray s 1 6 (fun q => base ≤ q)) (F0 m 21 ls []) := by
      intro d
      induction d with
      | zero =>
        intro k z2 z1 H locs ls hkd ek2 ek1 hP hS hl
        obtain rfl : nb = k := by omega
        subst ek2 ek1
        refine lv_iload_n hx hb dX3_shownShare_21 rfl (lv_at hl 0 rfl) ?_
        refine lv_aload_n hx hb dX3_shownShare_22 rfl (lv_at hl 2 rfl) ?_
        refine wx_get (D := g.1) (cl := vwCl) (ci := 5) (v := .int (x 0 0 0)) (C := RX3) (T := TX3) (N := 8) hx hb hts iX3 hown hK hP (0) (by omega) cw_d rfl 1 (by decide) (hts (.fieldLink RX3 15 "FerroDesk" "boardCount" "I") (by decide +kernel)) (fun _ h9 => h9) rfl dX3_shownShare_23 ?_
        refine lv_icmp_ge (tgt := 50) hx hb dX3_shownShare_26 (by decide) (fun c26 => ?_) (fun c26 => absurd (by rw [hx0]; exact nI_le (Nat.le_refl _) (by omega)) c26)
        refine lv_iload_n hx hb dX3_shownShare_50 rfl (lv_at hl 1 rfl) ?_
        refine lv_i2f hx hb dX3_shownShare_51 ?_
        refine lv_aload_n hx hb dX3_shownShare_52 rfl (lv_at hl 2 rfl) ?_
        refine wx_get (D := g.1) (cl := vwCl) (ci := 5) (v := .int (x 0 0 0)) (C := RX3) (T := TX3) (N := 8) hx hb hts iX3 hown hK hP (0) (by omega) cw_d rfl 1 (by decide) (hts (.fieldLink RX3 15 "FerroDesk" "boardCount" "I") (by decide +kernel)) (fun _ h9 => h9) rfl dX3_shownShare_53 ?_
        refine lv_i2f hx hb dX3_shownShare_56 ?_
        refine lv_fdiv hx hb dX3_shownShare_57 (hfn hn0) ?_
        refine W.widen (k := 1) (n := 6) (Nat.le_of_ble_eq_true rfl) (Nat.le_of_ble_eq_true rfl) ?_
        exact vx_ret (W.fret (v := FP.fdiv (FP.i2f (ssF x nb)) (FP.i2f (x 0 0 0))) hx hb hr (fun t ht hW => ⟨⟨FP.fdiv (FP.i2f (ssF x nb)) (FP.i2f (x 0 0 0)), (), rfl, ⟨hn0, rfl⟩, PB.mk9 hP ht⟩, hS.F ht⟩) hS.2.2 dX3_shownShare_58)
      | succ d ih =>
        intro k z2 z1 H locs ls hkd ek2 ek1 hP hS hl
        have hkN : k < nb := by omega
        subst ek2 ek1
        refine lv_iload_n hx hb dX3_shownShare_21 rfl (lv_at hl 0 rfl) ?_
        refine lv_aload_n hx hb dX3_shownShare_22 rfl (lv_at hl 2 rfl) ?_
        refine wx_get (D := g.1) (cl := vwCl) (ci := 5) (v := .int (x 0 0 0)) (C := RX3) (T := TX3) (N := 8) hx hb hts iX3 hown hK hP (0) (by omega) cw_d rfl 1 (by decide) (hts (.fieldLink RX3 15 "FerroDesk" "boardCount" "I") (by decide +kernel)) (fun _ h9 => h9) rfl dX3_shownShare_23 ?_
        refine lv_icmp_ge (tgt := 50) hx hb dX3_shownShare_26 (by decide) (fun c26 => absurd c26 (by rw [hx0]; exact nI_ge hkN (by omega))) (fun c26 => ?_)
        refine lv_aload_n hx hb dX3_shownShare_29 rfl (lv_at hl 2 rfl) ?_
        refine wx_get (D := g.1) (cl := vwCl) (ci := 5) (v := .ref (L 1)) (C := RX3) (T := TX3) (N := 8) hx hb hts iX3 hown hK hP (0) (by omega) cw_d rfl 0 (by decide) (hts (.fieldLink RX3 11 "FerroDesk" "boards" "[LFerroDesk$Board;") (by decide +kernel)) (fun _ h9 => h9) rfl dX3_shownShare_30 ?_
        refine lv_iload_n hx hb dX3_shownShare_33 rfl (lv_at hl 0 rfl) ?_
        refine wx_aald (D := g.1) (cl := vwCl) (f := fun j => if j < 6 then some (L (8 + 3 * j)) else none) (a := L (8 + 3 * k)) hx hb hK hP (1) 1 (by omega) cw_1 rfl (i := nI k) (vp_in_nI (by omega) (by decide)) (by rw [nI_clamp (show k < 2 ^ 31 by omega)]; exact if_pos (by omega)) dX3_shownShare_34 ?_
        refine wx_getN (D := g.1) (cl := vwCl) (ci := 2) (v := va_rf (shw L (x 12 k 0))) (C := RX0) (T := TX0) (N := 12) hx hb hts iX0 hown hK hP (8 + 3 * k) (by omega) (cw_b (by omega)) rfl 2 (by decide) (hE.1 _ (ng_in (w := (Cond.fieldLinkNest "FerroDesk" 90 "FerroDesk$Board" "shown" "LFerroDesk$Notice;" "FerroDesk")) (by decide +kernel))) (fun _ h9 => h9) rfl dX3_shownShare_35 ?_
        rcases (hsh k (by omega)) with eS | ⟨kS, hkS, eS⟩
        · rw [show va_rf (shw L (x 12 k 0)) = .null from by rw [eS, shw_m1]; rfl]
          refine lv_ifnullN (tgt := 44) hx hb dX3_shownShare_38 (by decide) ?_
          obtain ⟨z44, ez44⟩ : ∃ y : Int32, y = nI k + 1 := ⟨_, rfl⟩
          refine lv_iinc (v := z44) (lv' := [(2, .int z44), (1, .int (ssF x k)), (0, .ref (L 0))]) hx hb dX3_shownShare_44 hl (k := 0) rfl (by rw [ez44]; rfl) (by decide) rfl (fun ls hl => ?_)
          refine lv_goto (tgt := 21) hx hb dX3_shownShare_47 (by decide) ?_
          exact ih (k + 1) _ _ _ _ _ (by omega) (by rw [ez44, nI_1]) ((ss_t eS).symm) hP hS (lv_sub hl [0, 1, 2] rfl)
        · rw [show va_rf (shw L (x 12 k 0)) = .ref (L (26 + 2 * kS)) from by rw [eS, shw_nI (k := kS) (by omega)]; rfl]
          refine lv_ifnull hx hb dX3_shownShare_38 ?_
          obtain ⟨z41, ez41⟩ : ∃ y : Int32, y = ssF x k + 1 := ⟨_, rfl⟩
          refine lv_iinc (v := z41) (lv' := [(1, .int z41), (2, .int (nI k)), (0, .ref (L 0))]) hx hb dX3_shownShare_41 hl (k := 1) rfl (by rw [ez41]; rfl) (by decide) rfl (fun ls hl => ?_)
          obtain ⟨z44, ez44⟩ : ∃ y : Int32, y = nI k + 1 := ⟨_, rfl⟩
          refine lv_iinc (v := z44) (lv' := [(2, .int z44), (1, .int z41), (0, .ref (L 0))]) hx hb dX3_shownShare_44 hl (k := 1) rfl (by rw [ez44]; rfl) (by decide) rfl (fun ls hl => ?_)
          refine lv_goto (tgt := 21) hx hb dX3_shownShare_47 (by decide) ?_
          exact ih (k + 1) _ _ _ _ _ (by omega) (by rw [ez44, nI_1]) (by rw [ss_f (by rw [eS]; exact nI_ne (by omega))]; exact ez41) hP hS (lv_sub hl [0, 1, 2] rfl)
    exact key21 nb 0 _ _ _ _ _ (by omega) rfl rfl hP hS (lv_sub hl [0, 1, 2] rfl)
  · exact wx_throwS (ik := 238) (is := 240) (ic := 242) (own := RX3) (cls := "java/lang/ArithmeticException") (text := "there are no boards") (names := ["java/lang/RuntimeException", "java/lang/Exception"]) hx hb hst hPW hown (by decide +kernel) (by decide +kernel) (hts (.classLink RX3 238 "java/lang/ArithmeticException") (by decide +kernel)) (hts (.initialized "java/lang/ArithmeticException") (by decide +kernel)) (by decide +kernel) (fun w hw => hts w (List.mem_cons_of_mem _ (List.mem_append_right _ hw))) (by decide +kernel) (by decide +kernel) hP hS (hl.1.trans hml.symm) dX3_shownShare_7 dX3_shownShare_10 dX3_shownShare_11 dX3_shownShare_13 dX3_shownShare_16 hno (Nat.lt_of_lt_of_le (Nat.lt_succ_self _) (Nat.le_of_ble_eq_true rfl)) (Nat.le_of_ble_eq_true rfl) (Nat.le_of_ble_eq_true rfl) (Nat.le_of_ble_eq_true rfl) hlocks (⟨rfl, Classical.byContradiction (fun h8 => nI_ne0 (Nat.pos_of_ne_zero h8) (by omega) (hx0.symm.trans c4))⟩) (Nat.le_of_ble_eq_true rfl) (Nat.le_of_ble_eq_true rfl)

set_option maxHeartbeats 4000000 in
set_option maxRecDepth 100000 in
theorem k_meanWear (l : Launch) (hst : l.stackTraces = false) (g : gE) (base n : Nat) (L : Nat → Nat) (hn : 106 ≤ n) (x : St) (r0 : Nat → va_E) (nb : Nat) (hnb : nb ≤ 6) (hx0 : x 0 0 0 = nI nb) (hfn : nb ≠ 0 → vf_n64 (FP.ddiv (FP.l2d (chgF x nb)) (FP.i2d (x 0 0 0 * 32)))) : vx_Met l yX3_meanWear wsX3_meanWear ({ frames := 6, cells := 1, slots := 6, locals := 100 }) (va_Pc [.ref (L 0)] (PW SS g base n L (cw g L x r0))) (va_Qd (fun (r : UInt64) (_ : Unit) => nb ≠ 0 ∧ r = FP.ddiv (FP.l2d (chgF x nb)) (FP.i2d (x 0 0 0 * 32))) (fun (u : Unit) t => PB g n L (cw g L x r0) t) (fun q => base ≤ q)) (QX g base n L (cw g L x r0) (fun E => E = "java/lang/ArithmeticException" ∧ nb = 0)) 1 6 (fun q => base ≤ q) := by
  refine vx_ofW (cc := cX3_meanWear) (maxL := 1) (ret := (some .double)) (by decide) rfl ?_
  intro p e s m args below meth c s₁ B hml hno hv
  obtain ⟨rfl, hPW⟩ := hv
  obtain ⟨hbs, hJ, hP, hK, hE⟩ := id hPW
  have hx := B.exec
  have hb := B.bytes
  have hr := B.returns
  have hts := atoms_spec (ws := wsX3_meanWear) B.pre
  have hown : s.vm.findClass RX3 = some m.cls := findClass_of_methodNamed B.named
  have hlocks := B.notSynchronized
  have hS : va_S (fun q : Nat => base ≤ q) s.heap s.heap [] := va_S.rf
  have hl := lv_entry ([.ref (L 0)]) (n := 1) (Nat.le_of_ble_eq_true rfl)
  rw [lg_entry_eq]
  generalize (lg_sl ([.ref (L 0)]) ++ List.replicate (1 - (lg_sl ([.ref (L 0)])).length) Slot.unset).toArray = ls at hl ⊢
  have hl : lv_has ls 1 [(0, .ref (L 0))] := hl
  have iX3 : ∀ w ∈ wsX30, w ∈ wsX3_meanWear := by decide +kernel
  refine lv_aload_n hx hb dX3_meanWear_0 rfl (lv_at hl 0 rfl) ?_
  refine wx_get (D := g.1) (cl := vwCl) (ci := 5) (v := .int (x 0 0 0)) (C := RX3) (T := TX3) (N := 8) hx hb hts iX3 hown hK hP (0) (by omega) cw_d rfl 1 (by decide) (hts (.fieldLink RX3 15 "FerroDesk" "boardCount" "I") (by decide +kernel)) (fun _ h9 => h9) rfl dX3_meanWear_1 ?_
  refine lv_if_ne (tgt := 17) hx hb dX3_meanWear_4 (by decide) (fun c4 => ?_) (fun c4 => ?_)
  · have hn0 : nb ≠ 0 := fun h9 => c4 (by rw [hx0, h9]; rfl)
    refine lv_aload_n hx hb dX3_meanWear_17 rfl (lv_at hl 0 rfl) ?_
    refine wx_calll (va_runV (As := []) (rest := []) ⟨hx, hb, hml, hown, hts⟩ (k_changes l hst g base n L (by omega) x r0 nb hnb hx0) (cwV 0 hts gX3_meanWear_X3_changes rfl rfl rfl (by decide +kernel) ⟨Nat.le_of_ble_eq_true rfl, Nat.le_of_ble_eq_true rfl⟩) (hPW.preV hP hS (ci := 5) rfl (by omega) cw_d) rfl rfl hl.1 rfl (lv_room (Nat.le_of_ble_eq_true rfl)) dX3_meanWear_18 ⟨Nat.le_of_ble_eq_true rfl, Nat.le_of_ble_eq_true rfl⟩) hS (fun r18 u18 H locs h18 hP hS => ?_)
    obtain rfl := h18
    refine lv_l2d hx hb dX3_meanWear_21 ?_
    refine lv_aload_n hx hb dX3_meanWear_22 rfl (lv_at hl 0 rfl) ?_
    refine wx_get (D := g.1) (cl := vwCl) (ci := 5) (v := .int (x 0 0 0)) (C := RX3) (T := TX3) (N := 8) hx hb hts iX3 hown hK hP (0) (by omega) cw_d rfl 1 (by decide) (hts (.fieldLink RX3 15 "FerroDesk" "boardCount" "I") (by decide +kernel)) (fun _ h9 => h9) rfl dX3_meanWear_23 ?_
    refine lv_bipush (v := 32) hx hb dX3_meanWear_26 (by decide) ?_
    refine lv_imul hx hb dX3_meanWear_28 ?_
    refine lv_i2d hx hb dX3_meanWear_29 ?_
    refine lv_ddiv hx hb dX3_meanWear_30 (hfn hn0) ?_
    refine W.widen (k := 1) (n := 6) (Nat.le_of_ble_eq_true rfl) (Nat.le_of_ble_eq_true rfl) ?_
    exact vx_ret (W.dret (v := FP.ddiv (FP.l2d (chgF x nb)) (FP.i2d ((x 0 0 0) * 32))) hx hb hr (fun t ht hW => ⟨⟨FP.ddiv (FP.l2d (chgF x nb)) (FP.i2d ((x 0 0 0) * 32)), (), rfl, ⟨hn0, rfl⟩, PB.mk9 hP ht⟩, hS.F ht⟩) hS.2.2 dX3_meanWear_31)
  · exact wx_throwS (ik := 238) (is := 240) (ic := 242) (own := RX3) (cls := "java/lang/ArithmeticException") (text := "there are no boards") (names := ["java/lang/RuntimeException", "java/lang/Exception"]) hx hb hst hPW hown (by decide +kernel) (by decide +kernel) (hts (.classLink RX3 238 "java/lang/ArithmeticException") (by decide +kernel)) (hts (.initialized "java/lang/ArithmeticException") (by decide +kernel)) (by decide +kernel) (fun w hw => hts w (List.mem_cons_of_mem _ (List.mem_append_left _ (List.mem_append_right _ hw)))) (by decide +kernel) (by decide +kernel) hP hS (hl.1.trans hml.symm) dX3_meanWear_7 dX3_meanWear_10 dX3_meanWear_11 dX3_meanWear_13 dX3_meanWear_16 hno (Nat.lt_of_lt_of_le (Nat.lt_succ_self _) (Nat.le_of_ble_eq_true rfl)) (Nat.le_of_ble_eq_true rfl) (Nat.le_of_ble_eq_true rfl) (Nat.le_of_ble_eq_true rfl) hlocks (⟨rfl, Classical.byContradiction (fun h8 => nI_ne0 (Nat.pos_of_ne_zero h8) (by omega) (hx0.symm.trans c4))⟩) (Nat.le_of_ble_eq_true rfl) (Nat.le_of_ble_eq_true rfl)

set_option maxHeartbeats 4000000 in
set_option maxRecDepth 100000 in
theorem k_isSound (l : Launch) (hst : l.stackTraces = false) (g : gE) (base n : Nat) (L : Nat → Nat) (hn : 106 ≤ n) (x : St) (r0 : Nat → va_E) (nb : Nat) (hnb : nb ≤ 6) (hx0 : x 0 0 0 = nI nb) (hsh : ∀ b, b < 6 → x 12 b 0 = -1 ∨ ∃ k, k < 40 ∧ x 12 b 0 = nI k) (tcs : Nat → Nat) (htc : ∀ b, b < 6 → tcs b ≤ 1920) (hx19 : ∀ b, b < 6 → x 19 b 0 = nI (tcs b)) : Met l yX3_isSound wsX3_isSound ({ frames := 2, cells := 0, slots := 0, locals := 80 }) (va_Pc [.ref (L 0)] (PW SS g base n L (cw g L x r0))) (va_Qi (fun (r : Int32) (_ : Unit) => (r = 1 ∧ (∀ j, j < nb → okB x tcs j)) ∨ (r = 0 ∧ ¬ ((∀ j, j < nb → okB x tcs j)))) (fun (u : Unit) t => PB g n L (cw g L x r0) t) (fun q => base ≤ q)) 0 0 (fun q => base ≤ q) := by
  refine Met.ofW (cc := cX3_isSound) (maxL := 4) (ret := (some .boolean)) (by decide) rfl ?_
  intro p e s m args below meth c s₁ B hml hv
  obtain ⟨rfl, hPW⟩ := hv
  obtain ⟨hbs, hJ, hP, hK, hE⟩ := id hPW
  have hx := B.exec
  have hb := B.bytes
  have hr := B.returns
  have hts := atoms_spec (ws := wsX3_isSound) B.pre
  have hown : s.vm.findClass RX3 = some m.cls := findClass_of_methodNamed B.named
  have hlocks := B.notSynchronized
  have hS : va_S (fun q : Nat => base ≤ q) s.heap s.heap [] := va_S.rf
  have hl := lv_entry ([.ref (L 0)]) (n := 4) (Nat.le_of_ble_eq_true rfl)
  rw [lg_entry_eq]
  generalize (lg_sl ([.ref (L 0)]) ++ List.replicate (4 - (lg_sl ([.ref (L 0)])).length) Slot.unset).toArray = ls at hl ⊢
  have hl : lv_has ls 4 [(0, .ref (L 0))] := hl
  have iX0 : ∀ w ∈ wsX00, w ∈ wsX3_isSound := by decide +kernel
  have iX3 : ∀ w ∈ wsX30, w ∈ wsX3_isSound := by decide +kernel
  refine lv_iconst (v := 0) hx hb dX3_isSound_0 (by decide) ?_
  refine lv_istore_n (lv' := [(1, .int 0), (0, .ref (L 0))]) hx hb dX3_isSound_1 rfl hl (by decide) rfl (fun ls hl => ?_)
  have key2 : ∀ (d k : Nat) (z1 : Int32) (H : Heap) (locs : List Loc) (ls : Array Slot), k + d = nb → (z1 = nI k) → (∀ j, j < k → okB x tcs j) → va_P g.1 vwCl (wl n L (cw g L x r0)) H → va_S (fun q : Nat => base ≤ q) s.heap H locs → lv_has ls 4 [(1, .int z1), (0, .ref (L 0))] → W p l e (headSpec wsX3_isSound ({ frames := 2, cells := 0, slots := 0, locals := 80 })).room s m ([.ref (L 0)] : List Value).toArray below meth c H locs 0 0 (MQ below (va_Qi (fun (r : Int32) (_ : Unit) => (r = 1 ∧ (∀ j, j < nb → okB x tcs j)) ∨ (r = 0 ∧ ¬ ((∀ j, j < nb → okB x tcs j)))) (fun (u : Unit) t => PB g n L (cw g L x r0) t) (fun q => base ≤ q)) ([.ref (L 0)] : List Value).toArray s 0 0 (fun q => base ≤ q)) (F0 m 2 ls []) := by
    intro d
    induction d with
    | zero =>
      intro k z1 H locs ls hkd ek1 hok hP hS hl
      obtain rfl : nb = k := by omega
      subst ek1
      refine lv_iload_n hx hb dX3_isSound_2 rfl (lv_at hl 0 rfl) ?_
      refine lv_aload_n hx hb dX3_isSound_3 rfl (lv_at hl 1 rfl) ?_
      refine wx_get (D := g.1) (cl := vwCl) (ci := 5) (v := .int (x 0 0 0)) (C := RX3) (T := TX3) (N := 8) hx hb hts iX3 hown hK hP (0) (by omega) cw_d rfl 1 (by decide) (hts (.fieldLink RX3 15 "FerroDesk" "boardCount" "I") (by decide +kernel)) (fun _ h9 => h9) rfl dX3_isSound_4 ?_
      refine lv_icmp_ge (tgt := 74) hx hb dX3_isSound_7 (by decide) (fun c7 => ?_) (fun c7 => absurd (by rw [hx0]; exact nI_le (Nat.le_refl _) (by omega)) c7)
      refine lv_iconst (v := 1) hx hb dX3_isSound_74 (by decide) ?_
      refine W.widen (k := 0) (n := 0) (Nat.le_of_ble_eq_true rfl) (Nat.le_of_ble_eq_true rfl) ?_
      exact W.zret (v := 1) hx hb hr (by decide) (fun t ht hW => ⟨⟨1, (), rfl, Or.inl ⟨rfl, hok⟩, PB.mk9 hP ht⟩, hS.F ht⟩) hS.2.2 dX3_isSound_75
    | succ d ih =>
      intro k z1 H locs ls hkd ek1 hok hP hS hl
      have hkN : k < nb := by omega
      subst ek1
      refine lv_iload_n hx hb dX3_isSound_2 rfl (lv_at hl 0 rfl) ?_
      refine lv_aload_n hx hb dX3_isSound_3 rfl (lv_at hl 1 rfl) ?_
      refine wx_get (D := g.1) (cl := vwCl) (ci := 5) (v := .int (x 0 0 0)) (C := RX3) (T := TX3) (N := 8) hx hb hts iX3 hown hK hP (0) (by omega) cw_d rfl 1 (by decide) (hts (.fieldLink RX3 15 "FerroDesk" "boardCount" "I") (by decide +kernel)) (fun _ h9 => h9) rfl dX3_isSound_4 ?_
      refine lv_icmp_ge (tgt := 74) hx hb dX3_isSound_7 (by decide) (fun c7 => absurd c7 (by rw [hx0]; exact nI_ge hkN (by omega))) (fun c7 => ?_)
      refine lv_aload_n hx hb dX3_isSound_10 rfl (lv_at hl 1 rfl) ?_
      refine wx_get (D := g.1) (cl := vwCl) (ci := 5) (v := .ref (L 1)) (C := RX3) (T := TX3) (N := 8) hx hb hts iX3 hown hK hP (0) (by omega) cw_d rfl 0 (by decide) (hts (.fieldLink RX3 11 "FerroDesk" "boards" "[LFerroDesk$Board;") (by decide +kernel)) (fun _ h9 => h9) rfl dX3_isSound_11 ?_
      refine lv_iload_n hx hb dX3_isSound_14 rfl (lv_at hl 0 rfl) ?_
      refine wx_aald (D := g.1) (cl := vwCl) (f := fun j => if j < 6 then some (L (8 + 3 * j)) else none) (a := L (8 + 3 * k)) hx hb hK hP (1) 1 (by omega) cw_1 rfl (i := nI k) (vp_in_nI (by omega) (by decide)) (by rw [nI_clamp (show k < 2 ^ 31 by omega)]; exact if_pos (by omega)) dX3_isSound_15 ?_
      refine lv_astore_n (lv' := [(2, .ref (L (8 + 3 * k))), (1, .int (nI k)), (0, .ref (L 0))]) hx hb dX3_isSound_16 rfl hl (by decide) rfl (fun ls hl => ?_)
      refine lv_aload_n hx hb dX3_isSound_17 rfl (lv_at hl 0 rfl) ?_
      refine wx_getN (D := g.1) (cl := vwCl) (ci := 2) (v := va_rf (shw L (x 12 k 0))) (C := RX0) (T := TX0) (N := 12) hx hb hts iX0 hown hK hP (8 + 3 * k) (by omega) (cw_b (by omega)) rfl 2 (by decide) (hE.1 _ (ng_in (w := (Cond.fieldLinkNest "FerroDesk" 90 "FerroDesk$Board" "shown" "LFerroDesk$Notice;" "FerroDesk")) (by decide +kernel))) (fun _ h9 => h9) rfl dX3_isSound_18 ?_
      rcases (hsh k (by omega)) with eS | ⟨kS, hkS, eS⟩
      · rw [show va_rf (shw L (x 12 k 0)) = .null from by rw [eS, shw_m1]; rfl]
        refine lv_ifnullN (tgt := 38) hx hb dX3_isSound_21 (by decide) ?_
        refine lv_iconst (v := 1) hx hb dX3_isSound_38 (by decide) ?_
        refine lv_goto (tgt := 43) hx hb dX3_isSound_39 (by decide) ?_
        refine lv_istore_n (lv' := [(3, .int 1), (2, .ref (L (8 + 3 * k))), (1, .int (nI k)), (0, .ref (L 0))]) hx hb dX3_isSound_43 rfl hl (by decide) rfl (fun ls hl => ?_)
        refine lv_iload_n hx hb dX3_isSound_44 rfl (lv_at hl 0 rfl) ?_
        refine lv_if_eq (tgt := 66) hx hb dX3_isSound_45 (by decide) (fun c45 => absurd c45 (by decide)) (fun c45 => ?_)
        refine lv_aload_n hx hb dX3_isSound_48 rfl (lv_at hl 1 rfl) ?_
        refine wx_calli (va_runV (As := []) (rest := []) ⟨hx, hb, hml, hown, hts⟩ (k_canWipe l hst g base n L (by omega) x r0 k (by omega)  ) (cwV 0 hts gX3_isSound_X0_canWipe rfl rfl rfl (by decide +kernel) ⟨Nat.le_of_ble_eq_true rfl, Nat.le_of_ble_eq_true rfl⟩) (hPW.preV hP hS (ci := 2) rfl (by omega) (cw_b (by omega))) rfl rfl hl.1 rfl (lv_room (Nat.le_of_ble_eq_true rfl)) dX3_isSound_49 ⟨Nat.le_of_ble_eq_true rfl, Nat.le_of_ble_eq_true rfl⟩) hS (fun r49 u49 H locs h49 hP hS => ?_)
        rcases h49 with ⟨rfl, h49⟩ | ⟨rfl, h49⟩
        · refine lv_if_eq (tgt := 66) hx hb dX3_isSound_52 (by decide) (fun c52 => absurd c52 (by decide)) (fun c52 => ?_)
          refine lv_aload_n hx hb dX3_isSound_55 rfl (lv_at hl 1 rfl) ?_
          refine wx_getN (D := g.1) (cl := vwCl) (ci := 2) (v := .int (x 15 k 0)) (C := RX0) (T := TX0) (N := 12) hx hb hts iX0 hown hK hP (8 + 3 * k) (by omega) (cw_b (by omega)) rfl 5 (by decide) (hE.1 _ (ng_in (w := (Cond.fieldLinkNest "FerroDesk" 76 "FerroDesk$Board" "black" "I" "FerroDesk")) (by decide +kernel))) (fun _ h9 => h9) rfl dX3_isSound_56 ?_
          refine lv_aload_n hx hb dX3_isSound_59 rfl (lv_at hl 1 rfl) ?_
          refine wx_calli (va_runV (As := []) (rest := [.int (x 15 k 0)]) ⟨hx, hb, hml, hown, hts⟩ (k_blackAnew l hst g base n L (by omega) x r0 k (by omega) (tcs k) (htc k (by omega)) (hx19 k (by omega))) (cwV 0 hts gX3_isSound_X0_blackAnew rfl rfl rfl (by decide +kernel) ⟨Nat.le_of_ble_eq_true rfl, Nat.le_of_ble_eq_true rfl⟩) (hPW.preV hP hS (ci := 2) rfl (by omega) (cw_b (by omega))) rfl rfl hl.1 rfl (lv_room (Nat.le_of_ble_eq_true rfl)) dX3_isSound_60 ⟨Nat.le_of_ble_eq_true rfl, Nat.le_of_ble_eq_true rfl⟩) hS (fun r60 u60 H locs h60 hP hS => ?_)
          obtain rfl := h60
          refine lv_icmp_eq (tgt := 68) hx hb dX3_isSound_63 (by decide) (fun c63 => ?_) (fun c63 => ?_)
          · obtain ⟨z68, ez68⟩ : ∃ y : Int32, y = nI k + 1 := ⟨_, rfl⟩
            refine lv_iinc (v := z68) (lv' := [(1, .int z68), (3, .int 1), (2, .ref (L (8 + 3 * k))), (0, .ref (L 0))]) hx hb dX3_isSound_68 hl (k := 2) rfl (by rw [ez68]; rfl) (by decide) rfl (fun ls hl => ?_)
            refine lv_goto (tgt := 2) hx hb dX3_isSound_71 (by decide) ?_
            exact ih (k + 1) _ _ _ _ (by omega) (by rw [ez68, nI_1]) (fun j hj => by rcases (show j < k ∨ j = k by omega) with h9 | rfl; exact hok j h9; exact ⟨Or.inl eS, h49, c63⟩) hP hS (lv_sub hl [0, 3] rfl)
          · refine lv_iconst (v := 0) hx hb dX3_isSound_66 (by decide) ?_
            refine W.widen (k := 0) (n := 0) (Nat.le_of_ble_eq_true rfl) (Nat.le_of_ble_eq_true rfl) ?_
            exact W.zret (v := 0) hx hb hr (by decide) (fun t ht hW => ⟨⟨0, (), rfl, Or.inr ⟨rfl, fun h9 => c63 (h9 k hkN).2.2⟩, PB.mk9 hP ht⟩, hS.F ht⟩) hS.2.2 dX3_isSound_67
        · refine lv_if_eq (tgt := 66) hx hb dX3_isSound_52 (by decide) (fun c52 => ?_) (fun c52 => absurd (by decide) c52)
          refine lv_iconst (v := 0) hx hb dX3_isSound_66 (by decide) ?_
          refine W.widen (k := 0) (n := 0) (Nat.le_of_ble_eq_true rfl) (Nat.le_of_ble_eq_true rfl) ?_
          exact W.zret (v := 0) hx hb hr (by decide) (fun t ht hW => ⟨⟨0, (), rfl, Or.inr ⟨rfl, fun h9 => h49 (h9 k hkN).2.1⟩, PB.mk9 hP ht⟩, hS.F ht⟩) hS.2.2 dX3_isSound_67
      · rw [show va_rf (shw L (x 12 k 0)) = .ref (L (26 + 2 * kS)) from by rw [eS, shw_nI (k := kS) (by omega)]; rfl]
        refine lv_ifnull hx hb dX3_isSound_21 ?_
        refine lv_aload_n hx hb dX3_isSound_24 rfl (lv_at hl 0 rfl) ?_
        refine wx_getN (D := g.1) (cl := vwCl) (ci := 2) (v := va_rf (shw L (x 12 k 0))) (C := RX0) (T := TX0) (N := 12) hx hb hts iX0 hown hK hP (8 + 3 * k) (by omega) (cw_b (by omega)) rfl 2 (by decide) (hE.1 _ (ng_in (w := (Cond.fieldLinkNest "FerroDesk" 90 "FerroDesk$Board" "shown" "LFerroDesk$Notice;" "FerroDesk")) (by decide +kernel))) (fun _ h9 => h9) rfl dX3_isSound_25 ?_
        rw [show va_rf (shw L (x 12 k 0)) = .ref (L (26 + 2 * kS)) from by rw [eS, shw_nI (k := kS) (by omega)]; rfl]
        refine lv_aload_n hx hb dX3_isSound_28 rfl (lv_at hl 2 rfl) ?_
        refine wx_get (D := g.1) (cl := vwCl) (ci := 5) (v := .int (x 3 0 0)) (C := RX3) (T := TX3) (N := 8) hx hb hts iX3 hown hK hP (0) (by omega) cw_d rfl 7 (by decide) (hts (.fieldLink RX3 41 "FerroDesk" "hour" "I") (by decide +kernel)) (fun _ h9 => h9) rfl dX3_isSound_29 ?_
        refine wx_calli (va_runV (As := [.int (x 3 0 0)]) (rest := []) ⟨hx, hb, hml, hown, hts⟩ (k_isOf l hst g base n L (by omega) x r0 kS (by omega) (x 3 0 0)) (cwV 1 hts gX3_isSound_X1_isOf rfl rfl rfl (by decide +kernel) ⟨Nat.le_of_ble_eq_true rfl, Nat.le_of_ble_eq_true rfl⟩) (hPW.preV hP hS (ci := 3) rfl (by omega) (cw_n (by omega))) rfl rfl hl.1 rfl (lv_room (Nat.le_of_ble_eq_true rfl)) dX3_isSound_32 ⟨Nat.le_of_ble_eq_true rfl, Nat.le_of_ble_eq_true rfl⟩) hS (fun r32 u32 H locs h32 hP hS => ?_)
        rcases h32 with ⟨rfl, h32⟩ | ⟨rfl, h32⟩
        · refine lv_if_eq (tgt := 42) hx hb dX3_isSound_35 (by decide) (fun c35 => absurd c35 (by decide)) (fun c35 => ?_)
          refine lv_iconst (v := 1) hx hb dX3_isSound_38 (by decide) ?_
          refine lv_goto (tgt := 43) hx hb dX3_isSound_39 (by decide) ?_
          refine lv_istore_n (lv' := [(3, .int 1), (2, .ref (L (8 + 3 * k))), (1, .int (nI k)), (0, .ref (L 0))]) hx hb dX3_isSound_43 rfl hl (by decide) rfl (fun ls hl => ?_)
          refine lv_iload_n hx hb dX3_isSound_44 rfl (lv_at hl 0 rfl) ?_
          refine lv_if_eq (tgt := 66) hx hb dX3_isSound_45 (by decide) (fun c45 => absurd c45 (by decide)) (fun c45 => ?_)
          refine lv_aload_n hx hb dX3_isSound_48 rfl (lv_at hl 1 rfl) ?_
          refine wx_calli (va_runV (As := []) (rest := []) ⟨hx, hb, hml, hown, hts⟩ (k_canWipe l hst g base n L (by omega) x r0 k (by omega)  ) (cwV 0 hts gX3_isSound_X0_canWipe rfl rfl rfl (by decide +kernel) ⟨Nat.le_of_ble_eq_true rfl, Nat.le_of_ble_eq_true rfl⟩) (hPW.preV hP hS (ci := 2) rfl (by omega) (cw_b (by omega))) rfl rfl hl.1 rfl (lv_room (Nat.le_of_ble_eq_true rfl)) dX3_isSound_49 ⟨Nat.le_of_ble_eq_true rfl, Nat.le_of_ble_eq_true rfl⟩) hS (fun r49 u49 H locs h49 hP hS => ?_)
          rcases h49 with ⟨rfl, h49⟩ | ⟨rfl, h49⟩
          · refine lv_if_eq (tgt := 66) hx hb dX3_isSound_52 (by decide) (fun c52 => absurd c52 (by decide)) (fun c52 => ?_)
            refine lv_aload_n hx hb dX3_isSound_55 rfl (lv_at hl 1 rfl) ?_
            refine wx_getN (D := g.1) (cl := vwCl) (ci := 2) (v := .int (x 15 k 0)) (C := RX0) (T := TX0) (N := 12) hx hb hts iX0 hown hK hP (8 + 3 * k) (by omega) (cw_b (by omega)) rfl 5 (by decide) (hE.1 _ (ng_in (w := (Cond.fieldLinkNest "FerroDesk" 76 "FerroDesk$Board" "black" "I" "FerroDesk")) (by decide +kernel))) (fun _ h9 => h9) rfl dX3_isSound_56 ?_
            refine lv_aload_n hx hb dX3_isSound_59 rfl (lv_at hl 1 rfl) ?_
            refine wx_calli (va_runV (As := []) (rest := [.int (x 15 k 0)]) ⟨hx, hb, hml, hown, hts⟩ (k_blackAnew l hst g base n L (by omega) x r0 k (by omega) (tcs k) (htc k (by omega)) (hx19 k (by omega))) (cwV 0 hts gX3_isSound_X0_blackAnew rfl rfl rfl (by decide +kernel) ⟨Nat.le_of_ble_eq_true rfl, Nat.le_of_ble_eq_true rfl⟩) (hPW.preV hP hS (ci := 2) rfl (by omega) (cw_b (by omega))) rfl rfl hl.1 rfl (lv_room (Nat.le_of_ble_eq_true rfl)) dX3_isSound_60 ⟨Nat.le_of_ble_eq_true rfl, Nat.le_of_ble_eq_true rfl⟩) hS (fun r60 u60 H locs h60 hP hS => ?_)
            obtain rfl := h60
            refine lv_icmp_eq (tgt := 68) hx hb dX3_isSound_63 (by decide) (fun c63 => ?_) (fun c63 => ?_)
            · obtain ⟨z68, ez68⟩ : ∃ y : Int32, y = nI k + 1 := ⟨_, rfl⟩
              refine lv_iinc (v := z68) (lv' := [(1, .int z68), (3, .int 1), (2, .ref (L (8 + 3 * k))), (0, .ref (L 0))]) hx hb dX3_isSound_68 hl (k := 2) rfl (by rw [ez68]; rfl) (by decide) rfl (fun ls hl => ?_)
              refine lv_goto (tgt := 2) hx hb dX3_isSound_71 (by decide) ?_
              exact ih (k + 1) _ _ _ _ (by omega) (by rw [ez68, nI_1]) (fun j hj => by rcases (show j < k ∨ j = k by omega) with h9 | rfl; exact hok j h9; exact ⟨Or.inr ⟨kS, hkS, eS, h32⟩, h49, c63⟩) hP hS (lv_sub hl [0, 3] rfl)
            · refine lv_iconst (v := 0) hx hb dX3_isSound_66 (by decide) ?_
              refine W.widen (k := 0) (n := 0) (Nat.le_of_ble_eq_true rfl) (Nat.le_of_ble_eq_true rfl) ?_
              exact W.zret (v := 0) hx hb hr (by decide) (fun t ht hW => ⟨⟨0, (), rfl, Or.inr ⟨rfl, fun h9 => c63 (h9 k hkN).2.2⟩, PB.mk9 hP ht⟩, hS.F ht⟩) hS.2.2 dX3_isSound_67
          · refine lv_if_eq (tgt := 66) hx hb dX3_isSound_52 (by decide) (fun c52 => ?_) (fun c52 => absurd (by decide) c52)
            refine lv_iconst (v := 0) hx hb dX3_isSound_66 (by decide) ?_
            refine W.widen (k := 0) (n := 0) (Nat.le_of_ble_eq_true rfl) (Nat.le_of_ble_eq_true rfl) ?_
            exact W.zret (v := 0) hx hb hr (by decide) (fun t ht hW => ⟨⟨0, (), rfl, Or.inr ⟨rfl, fun h9 => h49 (h9 k hkN).2.1⟩, PB.mk9 hP ht⟩, hS.F ht⟩) hS.2.2 dX3_isSound_67
        · refine lv_if_eq (tgt := 42) hx hb dX3_isSound_35 (by decide) (fun c35 => ?_) (fun c35 => absurd (by decide) c35)
          refine lv_iconst (v := 0) hx hb dX3_isSound_42 (by decide) ?_
          refine lv_istore_n (lv' := [(3, .int 0), (2, .ref (L (8 + 3 * k))), (1, .int (nI k)), (0, .ref (L 0))]) hx hb dX3_isSound_43 rfl hl (by decide) rfl (fun ls hl => ?_)
          refine lv_iload_n hx hb dX3_isSound_44 rfl (lv_at hl 0 rfl) ?_
          refine lv_if_eq (tgt := 66) hx hb dX3_isSound_45 (by decide) (fun c45 => ?_) (fun c45 => absurd (by decide) c45)
          refine lv_iconst (v := 0) hx hb dX3_isSound_66 (by decide) ?_
          refine W.widen (k := 0) (n := 0) (Nat.le_of_ble_eq_true rfl) (Nat.le_of_ble_eq_true rfl) ?_
          exact W.zret (v := 0) hx hb hr (by decide) (fun t ht hW => ⟨⟨0, (), rfl, Or.inr ⟨rfl, fun h9 => okB_n hkS eS h32 (h9 k hkN)⟩, PB.mk9 hP ht⟩, hS.F ht⟩) hS.2.2 dX3_isSound_67
  exact key2 nb 0 _ _ _ _ (by omega) rfl (fun j h => absurd h (Nat.not_lt_zero _)) hP hS (lv_sub hl [0, 1] rfl)

set_option maxHeartbeats 4000000 in
set_option maxRecDepth 100000 in
theorem k_addBoard (l : Launch) (hst : l.stackTraces = false) (g : gE) (base n : Nat) (L : Nat → Nat) (hn : 106 ≤ n) (x : St) (r0 : Nat → va_E) (nb : Nat) (hnb : nb ≤ 6) (hx0 : x 0 0 0 = nI nb) (p0 p1 : Int32) : vx_Met l yX3_addBoard wsX3_addBoard ({ frames := 7, cells := 2, slots := 12, locals := 140 }) (va_Pc [.ref (L 0), .int p0, .int p1] (PW SS g base n L (cw g L x r0))) (va_Qi (fun (r : Int32) (u : St) => (0 ≤ p0.toInt ∧ p0.toInt ≤ 3 ∧ 0 ≤ p1.toInt ∧ p1.toInt ≤ 200) ∧ nb < 6 ∧ u = abF x nb p0 p1 ∧ r = u 0 0 0 - 1) (fun (u : St) t => PB g n L (cw g L u r0) t) (fun q => base ≤ q)) (QX g base n L (cw g L x r0) (fun E => (E = "java/lang/IllegalArgumentException" ∧ ¬ (0 ≤ p0.toInt ∧ p0.toInt ≤ 3 ∧ 0 ≤ p1.toInt ∧ p1.toInt ≤ 200)) ∨ (E = "java/lang/IllegalStateException" ∧ (0 ≤ p0.toInt ∧ p0.toInt ≤ 3 ∧ 0 ≤ p1.toInt ∧ p1.toInt ≤ 200) ∧ nb = 6))) 2 12 (fun q => base ≤ q) := by
  refine vx_ofW (cc := cX3_addBoard) (maxL := 3) (ret := (some .int)) (by decide) rfl ?_
  intro p e s m args below meth c s₁ B hml hno hv
  obtain ⟨rfl, hPW⟩ := hv
  obtain ⟨hbs, hJ, hP, hK, hE⟩ := id hPW
  have hx := B.exec
  have hb := B.bytes
  have hr := B.returns
  have hts := atoms_spec (ws := wsX3_addBoard) B.pre
  have hown : s.vm.findClass RX3 = some m.cls := findClass_of_methodNamed B.named
  have hlocks := B.notSynchronized
  have hS : va_S (fun q : Nat => base ≤ q) s.heap s.heap [] := va_S.rf
  have hl := lv_entry ([.ref (L 0), .int p0, .int p1]) (n := 3) (Nat.le_of_ble_eq_true rfl)
  rw [lg_entry_eq]
  generalize (lg_sl ([.ref (L 0), .int p0, .int p1]) ++ List.replicate (3 - (lg_sl ([.ref (L 0), .int p0, .int p1])).length) Slot.unset).toArray = ls at hl ⊢
  have hl : lv_has ls 3 [(0, .ref (L 0)), (1, .int p0), (2, .int p1)] := hl
  have iX3 : ∀ w ∈ wsX30, w ∈ wsX3_addBoard := by decide +kernel
  refine lv_iload_n hx hb dX3_addBoard_0 rfl (lv_at hl 1 rfl) ?_
  refine wx_xcallv (vx_runS (As := [.int p0]) (rest := []) ⟨hx, hb, hml, hown, hts⟩ (k_checkDistrict l hst g base n L (cw g L x r0) p0) (va_cwS 1 hts gX3_addBoard_X3_checkDistrict rfl rfl rfl (by decide +kernel) ⟨Nat.le_of_ble_eq_true rfl, Nat.le_of_ble_eq_true rfl⟩) (hPW.preS hP hS) rfl rfl hl.1 rfl (lv_room (Nat.le_of_ble_eq_true rfl)) dX3_addBoard_1 ⟨Nat.le_of_ble_eq_true rfl, Nat.le_of_ble_eq_true rfl⟩) hS (fun E ce q9 H locs hpx hP hS h1 h2 h3 => ?_) (fun u1 H locs h1 hP hS => ?_)
  · exact wx_out hno hlocks h1 h2 h3 (Or.inl ⟨hpx.1, by have h9 := hpx.2; omega⟩) hP hS (Nat.le_of_ble_eq_true rfl) (Nat.le_of_ble_eq_true rfl)
  refine lv_iload_n hx hb dX3_addBoard_4 rfl (lv_at hl 2 rfl) ?_
  refine lv_if_lt (tgt := 15) hx hb dX3_addBoard_5 (by decide) (fun c5 => ?_) (fun c5 => ?_)
  · exact wx_throwS (ik := 51) (is := 53) (ic := 55) (own := RX3) (cls := "java/lang/IllegalArgumentException") (text := "the charge is not 0 to 200") (names := ["java/lang/RuntimeException", "java/lang/Exception"]) hx hb hst hPW hown (by decide +kernel) (by decide +kernel) (hts (.classLink RX3 51 "java/lang/IllegalArgumentException") (by decide +kernel)) (hts (.initialized "java/lang/IllegalArgumentException") (by decide +kernel)) (by decide +kernel) (fun w hw => hts w (List.mem_cons_of_mem _ (List.mem_append_left _ (List.mem_append_right _ hw)))) (by decide +kernel) (by decide +kernel) hP hS (hl.1.trans hml.symm) dX3_addBoard_15 dX3_addBoard_18 dX3_addBoard_19 dX3_addBoard_21 dX3_addBoard_24 hno (Nat.lt_of_lt_of_le (Nat.lt_succ_self _) (Nat.le_of_ble_eq_true rfl)) (Nat.le_of_ble_eq_true rfl) (Nat.le_of_ble_eq_true rfl) (Nat.le_of_ble_eq_true rfl) hlocks (Or.inl ⟨rfl, (by revert h1 c5; (try simp only [Int32.lt_iff_toInt_lt, Int32.le_iff_toInt_le, ← Int32.toInt_inj, i_0, i_1, i_2, i_3, i_4, i_6, i_9, i_20, i_32, i_40, i_48, i_60, i_200, i_999, i_2000, i_m1, i_8]); omega)⟩) (Nat.le_of_ble_eq_true rfl) (Nat.le_of_ble_eq_true rfl)
  · refine lv_iload_n hx hb dX3_addBoard_8 rfl (lv_at hl 2 rfl) ?_
    refine lv_sipush (v := 200) hx hb dX3_addBoard_9 (by decide) ?_
    refine lv_icmp_le (tgt := 25) hx hb dX3_addBoard_12 (by decide) (fun c12 => ?_) (fun c12 => ?_)
    · refine lv_aload_n hx hb dX3_addBoard_25 rfl (lv_at hl 0 rfl) ?_
      refine wx_get (D := g.1) (cl := vwCl) (ci := 5) (v := .int (x 0 0 0)) (C := RX3) (T := TX3) (N := 8) hx hb hts iX3 hown hK hP (0) (by omega) cw_d rfl 1 (by decide) (hts (.fieldLink RX3 15 "FerroDesk" "boardCount" "I") (by decide +kernel)) (fun _ h9 => h9) rfl dX3_addBoard_26 ?_
      refine lv_bipush (v := 6) hx hb dX3_addBoard_29 (by decide) ?_
      refine lv_icmp_lt (tgt := 44) hx hb dX3_addBoard_31 (by decide) (fun c31 => ?_) (fun c31 => ?_)
      · have hlt : nb < 6 := by have h9 := c31; rw [hx0, Int32.lt_iff_toInt_lt, nI_toInt (by omega), i_6] at h9; omega
        refine lv_aload_n hx hb dX3_addBoard_44 rfl (lv_at hl 0 rfl) ?_
        refine wx_get (D := g.1) (cl := vwCl) (ci := 5) (v := .ref (L 1)) (C := RX3) (T := TX3) (N := 8) hx hb hts iX3 hown hK hP (0) (by omega) cw_d rfl 0 (by decide) (hts (.fieldLink RX3 11 "FerroDesk" "boards" "[LFerroDesk$Board;") (by decide +kernel)) (fun _ h9 => h9) rfl dX3_addBoard_45 ?_
        refine lv_aload_n hx hb dX3_addBoard_48 rfl (lv_at hl 0 rfl) ?_
        refine wx_get (D := g.1) (cl := vwCl) (ci := 5) (v := .int (x 0 0 0)) (C := RX3) (T := TX3) (N := 8) hx hb hts iX3 hown hK hP (0) (by omega) cw_d rfl 1 (by decide) (hts (.fieldLink RX3 15 "FerroDesk" "boardCount" "I") (by decide +kernel)) (fun _ h9 => h9) rfl dX3_addBoard_49 ?_
        refine wx_aald (D := g.1) (cl := vwCl) (f := fun j => if j < 6 then some (L (8 + 3 * j)) else none) (a := L (8 + 3 * nb)) hx hb hK hP (1) 1 (by omega) cw_1 rfl (i := x 0 0 0) (by rw [hx0]; exact vp_in_nI (by omega) (by decide)) (by rw [hx0, nI_clamp (by omega)]; exact if_pos (by omega)) dX3_addBoard_52 ?_
        refine lv_iload_n hx hb dX3_addBoard_53 rfl (lv_at hl 1 rfl) ?_
        refine lv_iload_n hx hb dX3_addBoard_54 rfl (lv_at hl 2 rfl) ?_
        refine wx_callv (va_runV (As := [.int p0, .int p1]) (rest := []) ⟨hx, hb, hml, hown, hts⟩ (k_settle l hst g base n L (by omega) x r0 nb (by omega) p0 p1) (cwV 2 hts gX3_addBoard_X0_settle rfl rfl rfl (by decide +kernel) ⟨Nat.le_of_ble_eq_true rfl, Nat.le_of_ble_eq_true rfl⟩) (hPW.preV hP hS (ci := 2) rfl (by omega) (cw_b (by omega))) rfl rfl hl.1 rfl (lv_room (Nat.le_of_ble_eq_true rfl)) dX3_addBoard_55 ⟨Nat.le_of_ble_eq_true rfl, Nat.le_of_ble_eq_true rfl⟩) hS (fun u55 H locs h55 hP hS => ?_)
        obtain rfl := h55
        refine lv_aload_n hx hb dX3_addBoard_58 rfl (lv_at hl 0 rfl) ?_
        refine lv_dup hx hb dX3_addBoard_59 rfl ?_
        refine wx_get (D := g.1) (cl := vwCl) (ci := 5) (v := .int ((st (st x 10 nb 0 p0) 11 nb 0 p1) 0 0 0)) (C := RX3) (T := TX3) (N := 8) hx hb hts iX3 hown hK hP (0) (by omega) cw_d rfl 1 (by decide) (hts (.fieldLink RX3 15 "FerroDesk" "boardCount" "I") (by decide +kernel)) (fun _ h9 => h9) rfl dX3_addBoard_60 ?_
        refine lv_iconst (v := 1) hx hb dX3_addBoard_63 (by decide) ?_
        refine lv_iadd hx hb dX3_addBoard_64 ?_
        refine wx_put (D := g.1) (cl := vwCl) (ci := 5) (v := .int (((st (st x 10 nb 0 p0) 11 nb 0 p1) 0 0 0) + 1)) (ty := .int) (w' := cw g L (st (st (st x 10 nb 0 p0) 11 nb 0 p1) 0 0 0 (((st (st x 10 nb 0 p0) 11 nb 0 p1) 0 0 0) + 1)) r0) (C := RX3) (T := TX3) (N := 8) hx hb hts iX3 tyX3 tyX3_ok nmX3 hown hK hP hJ hS (0) (by omega) cw_d rfl 1 (by decide) (hts (.fieldLink RX3 15 "FerroDesk" "boardCount" "I") (by decide +kernel)) (fun _ h9 => h9) rfl (by decide +kernel) rfl rfl (Nat.le_of_ble_eq_true rfl) dX3_addBoard_65 (cw_put (r := 0) (i := 0) (j := 0) rfl (by omega) (dk_0.trans (by simp [dF, st]))) (fun H locs hP hS => ?_)
        refine lv_aload_n hx hb dX3_addBoard_68 rfl (lv_at hl 0 rfl) ?_
        refine wx_get (D := g.1) (cl := vwCl) (ci := 5) (v := .int ((st (st (st x 10 nb 0 p0) 11 nb 0 p1) 0 0 0 (((st (st x 10 nb 0 p0) 11 nb 0 p1) 0 0 0) + 1)) 0 0 0)) (C := RX3) (T := TX3) (N := 8) hx hb hts iX3 hown hK hP (0) (by omega) cw_d rfl 1 (by decide) (hts (.fieldLink RX3 15 "FerroDesk" "boardCount" "I") (by decide +kernel)) (fun _ h9 => h9) rfl dX3_addBoard_69 ?_
        refine lv_iconst (v := 1) hx hb dX3_addBoard_72 (by decide) ?_
        refine lv_isub hx hb dX3_addBoard_73 ?_
        refine W.widen (k := 2) (n := 12) (Nat.le_of_ble_eq_true rfl) (Nat.le_of_ble_eq_true rfl) ?_
        exact vx_ret (W.iret (v := ((st (st (st x 10 nb 0 p0) 11 nb 0 p1) 0 0 0 (((st (st x 10 nb 0 p0) 11 nb 0 p1) 0 0 0) + 1)) 0 0 0) - 1) hx hb hr (fun t ht hW => ⟨⟨((st (st (st x 10 nb 0 p0) 11 nb 0 p1) 0 0 0 (((st (st x 10 nb 0 p0) 11 nb 0 p1) 0 0 0) + 1)) 0 0 0) - 1, (st (st (st x 10 nb 0 p0) 11 nb 0 p1) 0 0 0 (((st (st x 10 nb 0 p0) 11 nb 0 p1) 0 0 0) + 1)), rfl, ⟨(by revert h1 c5 c12; (try simp only [Int32.lt_iff_toInt_lt, Int32.le_iff_toInt_le, ← Int32.toInt_inj, i_0, i_1, i_2, i_3, i_4, i_6, i_9, i_20, i_32, i_40, i_48, i_60, i_200, i_999, i_2000, i_m1, i_8]); omega), hlt, rfl, rfl⟩, PB.mk9 hP ht⟩, hS.F ht⟩) hS.2.2 dX3_addBoard_74)
      · exact wx_throwS (ik := 58) (is := 60) (ic := 62) (own := RX3) (cls := "java/lang/IllegalStateException") (text := "there are 6 boards") (names := ["java/lang/RuntimeException", "java/lang/Exception"]) hx hb hst hPW hown (by decide +kernel) (by decide +kernel) (hts (.classLink RX3 58 "java/lang/IllegalStateException") (by decide +kernel)) (hts (.initialized "java/lang/IllegalStateException") (by decide +kernel)) (by decide +kernel) (fun w hw => hts w (List.mem_cons_of_mem _ (List.mem_append_right _ hw))) (by decide +kernel) (by decide +kernel) hP hS (hl.1.trans hml.symm) dX3_addBoard_34 dX3_addBoard_37 dX3_addBoard_38 dX3_addBoard_40 dX3_addBoard_43 hno (Nat.lt_of_lt_of_le (Nat.lt_succ_self _) (Nat.le_of_ble_eq_true rfl)) (Nat.le_of_ble_eq_true rfl) (Nat.le_of_ble_eq_true rfl) (Nat.le_of_ble_eq_true rfl) hlocks (Or.inr ⟨rfl, (by revert h1 c5 c12; (try simp only [Int32.lt_iff_toInt_lt, Int32.le_iff_toInt_le, ← Int32.toInt_inj, i_0, i_1, i_2, i_3, i_4, i_6, i_9, i_20, i_32, i_40, i_48, i_60, i_200, i_999, i_2000, i_m1, i_8]); omega), by have h9 := c31; rw [hx0, Int32.lt_iff_toInt_lt, nI_toInt (by omega), i_6] at h9; omega⟩) (Nat.le_of_ble_eq_true rfl) (Nat.le_of_ble_eq_true rfl)
    · exact wx_throwS (ik := 51) (is := 53) (ic := 55) (own := RX3) (cls := "java/lang/IllegalArgumentException") (text := "the charge is not 0 to 200") (names := ["java/lang/RuntimeException", "java/lang/Exception"]) hx hb hst hPW hown (by decide +kernel) (by decide +kernel) (hts (.classLink RX3 51 "java/lang/IllegalArgumentException") (by decide +kernel)) (hts (.initialized "java/lang/IllegalArgumentException") (by decide +kernel)) (by decide +kernel) (fun w hw => hts w (List.mem_cons_of_mem _ (List.mem_append_left _ (List.mem_append_right _ hw)))) (by decide +kernel) (by decide +kernel) hP hS (hl.1.trans hml.symm) dX3_addBoard_15 dX3_addBoard_18 dX3_addBoard_19 dX3_addBoard_21 dX3_addBoard_24 hno (Nat.lt_of_lt_of_le (Nat.lt_succ_self _) (Nat.le_of_ble_eq_true rfl)) (Nat.le_of_ble_eq_true rfl) (Nat.le_of_ble_eq_true rfl) (Nat.le_of_ble_eq_true rfl) hlocks (Or.inl ⟨rfl, (by revert h1 c5 c12; (try simp only [Int32.lt_iff_toInt_lt, Int32.le_iff_toInt_le, ← Int32.toInt_inj, i_0, i_1, i_2, i_3, i_4, i_6, i_9, i_20, i_32, i_40, i_48, i_60, i_200, i_999, i_2000, i_m1, i_8]); omega)⟩) (Nat.le_of_ble_eq_true rfl) (Nat.le_of_ble_eq_true rfl)

set_option maxHeartbeats 4000000 in
set_option maxRecDepth 100000 in
theorem k_take (l : Launch) (hst : l.stackTraces = false) (g : gE) (base n : Nat) (L : Nat → Nat) (hn : 106 ≤ n) (x : St) (r0 : Nat → va_E) (nn : Nat) (hnn : nn ≤ 40) (hx1 : x 1 0 0 = nI nn) (hrk : ∀ j, j < 40 → (x 43 0 j).toNatClampNeg < 40) (p0 p1 p2 p3 : Int32) : vx_Met l yX3_take wsX3_take ({ frames := 6, cells := 1, slots := 6, locals := 100 }) (va_Pc [.ref (L 0), .int p0, .int p1, .int p2, .int p3] (PW SS g base n L (cw g L x r0))) (va_Qr (fun (u : St) => nn < 40 ∧ u = tkF x nn p0 p1 p2 p3) (BR g n L (fun _ => 26 + 2 * nn) (fun (u : St) => cw g L u r0)) (fun q => base ≤ q)) (QX g base n L (cw g L x r0) (fun E => E = "java/lang/IllegalStateException" ∧ nn = 40)) 1 6 (fun q => base ≤ q) := by
  refine vx_ofW (cc := cX3_take) (maxL := 7) (ret := (some (.object "FerroDesk$Notice"))) (by decide) rfl ?_
  intro p e s m args below meth c s₁ B hml hno hv
  obtain ⟨rfl, hPW⟩ := hv
  obtain ⟨hbs, hJ, hP, hK, hE⟩ := id hPW
  have hx := B.exec
  have hb := B.bytes
  have hr := B.returns
  have hts := atoms_spec (ws := wsX3_take) B.pre
  have hown : s.vm.findClass RX3 = some m.cls := findClass_of_methodNamed B.named
  have hlocks := B.notSynchronized
  have hS : va_S (fun q : Nat => base ≤ q) s.heap s.heap [] := va_S.rf
  have hl := lv_entry ([.ref (L 0), .int p0, .int p1, .int p2, .int p3]) (n := 7) (Nat.le_of_ble_eq_true rfl)
  rw [lg_entry_eq]
  generalize (lg_sl ([.ref (L 0), .int p0, .int p1, .int p2, .int p3]) ++ List.replicate (7 - (lg_sl ([.ref (L 0), .int p0, .int p1, .int p2, .int p3])).length) Slot.unset).toArray = ls at hl ⊢
  have hl : lv_has ls 7 [(0, .ref (L 0)), (1, .int p0), (2, .int p1), (3, .int p2), (4, .int p3)] := hl
  have iX1 : ∀ w ∈ wsX10, w ∈ wsX3_take := by decide +kernel
  have iX3 : ∀ w ∈ wsX30, w ∈ wsX3_take := by decide +kernel
  refine lv_aload_n hx hb dX3_take_0 rfl (lv_at hl 0 rfl) ?_
  refine wx_get (D := g.1) (cl := vwCl) (ci := 5) (v := .int (x 1 0 0)) (C := RX3) (T := TX3) (N := 8) hx hb hts iX3 hown hK hP (0) (by omega) cw_d rfl 4 (by decide) (hts (.fieldLink RX3 28 "FerroDesk" "noticeCount" "I") (by decide +kernel)) (fun _ h9 => h9) rfl dX3_take_1 ?_
  refine lv_bipush (v := 40) hx hb dX3_take_4 (by decide) ?_
  refine lv_icmp_lt (tgt := 20) hx hb dX3_take_6 (by decide) (fun c6 => ?_) (fun c6 => ?_)
  · have hlt : nn < 40 := by have h9 := c6; rw [hx1, Int32.lt_iff_toInt_lt, nI_toInt (by omega), i_40] at h9; omega
    refine lv_aload_n hx hb dX3_take_20 rfl (lv_at hl 0 rfl) ?_
    refine wx_get (D := g.1) (cl := vwCl) (ci := 5) (v := .ref (L 2)) (C := RX3) (T := TX3) (N := 8) hx hb hts iX3 hown hK hP (0) (by omega) cw_d rfl 2 (by decide) (hts (.fieldLink RX3 21 "FerroDesk" "notices" "[LFerroDesk$Notice;") (by decide +kernel)) (fun _ h9 => h9) rfl dX3_take_21 ?_
    refine lv_aload_n hx hb dX3_take_24 rfl (lv_at hl 0 rfl) ?_
    refine wx_get (D := g.1) (cl := vwCl) (ci := 5) (v := .int (x 1 0 0)) (C := RX3) (T := TX3) (N := 8) hx hb hts iX3 hown hK hP (0) (by omega) cw_d rfl 4 (by decide) (hts (.fieldLink RX3 28 "FerroDesk" "noticeCount" "I") (by decide +kernel)) (fun _ h9 => h9) rfl dX3_take_25 ?_
    refine wx_aald (D := g.1) (cl := vwCl) (f := fun j => if j < 40 then some (L (26 + 2 * j)) else none) (a := L (26 + 2 * nn)) hx hb hK hP (2) 2 (by omega) cw_2 rfl (i := x 1 0 0) (by rw [hx1]; exact vp_in_nI (by omega) (by decide)) (by rw [hx1, nI_clamp (by omega)]; exact if_pos (by omega)) dX3_take_28 ?_
    refine lv_astore (lv' := [(5, .ref (L (26 + 2 * nn))), (0, .ref (L 0)), (1, .int p0), (2, .int p1), (3, .int p2), (4, .int p3)]) hx hb dX3_take_29 hl (by decide) rfl (fun ls hl => ?_)
    refine lv_aload hx hb dX3_take_31 (lv_at hl 0 rfl) ?_
    refine lv_iload_n hx hb dX3_take_33 rfl (lv_at hl 2 rfl) ?_
    refine lv_iload_n hx hb dX3_take_34 rfl (lv_at hl 3 rfl) ?_
    refine lv_iload_n hx hb dX3_take_35 rfl (lv_at hl 4 rfl) ?_
    refine lv_iload hx hb dX3_take_36 (lv_at hl 5 rfl) ?_
    refine wx_callv (va_runV (As := [.int p0, .int p1, .int p2, .int p3]) (rest := []) ⟨hx, hb, hml, hown, hts⟩ (k_fill l hst g base n L (by omega) x r0 nn (by omega) p0 p1 p2 p3) (cwV 4 hts gX3_take_X1_fill rfl rfl rfl (by decide +kernel) ⟨Nat.le_of_ble_eq_true rfl, Nat.le_of_ble_eq_true rfl⟩) (hPW.preV hP hS (ci := 3) rfl (by omega) (cw_n (by omega))) rfl rfl hl.1 rfl (lv_room (Nat.le_of_ble_eq_true rfl)) dX3_take_38 ⟨Nat.le_of_ble_eq_true rfl, Nat.le_of_ble_eq_true rfl⟩) hS (fun u38 H locs h38 hP hS => ?_)
    obtain rfl := h38
    refine lv_aload_n hx hb dX3_take_41 rfl (lv_at hl 1 rfl) ?_
    refine wx_get (D := g.1) (cl := vwCl) (ci := 5) (v := .int ((st (st (st (st x 30 nn 0 p0) 31 nn 0 p1) 32 nn 0 p2) 33 nn 0 p3) 1 0 0)) (C := RX3) (T := TX3) (N := 8) hx hb hts iX3 hown hK hP (0) (by omega) cw_d rfl 4 (by decide) (hts (.fieldLink RX3 28 "FerroDesk" "noticeCount" "I") (by decide +kernel)) (fun _ h9 => h9) rfl dX3_take_42 ?_
    refine lv_istore (lv' := [(6, .int ((st (st (st (st x 30 nn 0 p0) 31 nn 0 p1) 32 nn 0 p2) 33 nn 0 p3) 1 0 0)), (5, .ref (L (26 + 2 * nn))), (0, .ref (L 0)), (1, .int p0), (2, .int p1), (3, .int p2), (4, .int p3)]) hx hb dX3_take_45 hl (by decide) rfl (fun ls hl => ?_)
    have key47 : ∀ (k : Nat) (z6 : Int32) (x1 : St) (H : Heap) (locs : List Loc) (ls : Array Slot), k ≤ nn → (z6 = nI k) → (tkL p0 nn k x1 = tkL p0 nn nn (tk0 x nn p0 p1 p2 p3)) → (∀ j, j < 40 → (x1 43 0 j).toNatClampNeg < 40) → (x1 1 0 0 = nI nn) → va_P g.1 vwCl (wl n L (cw g L x1 r0)) H → va_S (fun q : Nat => base ≤ q) s.heap H locs → lv_has ls 7 [(6, .int z6), (0, .ref (L 0)), (1, .int p0), (2, .int p1), (3, .int p2), (4, .int p3), (5, .ref (L (26 + 2 * nn)))] → W p l e (headSpec wsX3_take ({ frames := 6, cells := 1, slots := 6, locals := 100 })).room s m ([.ref (L 0), .int p0, .int p1, .int p2, .int p3] : List Value).toArray below meth c H locs (0 + 0) (0 + 0) (vx_MQ below (va_Qr (fun (u : St) => nn < 40 ∧ u = tkF x nn p0 p1 p2 p3) (BR g n L (fun _ => 26 + 2 * nn) (fun (u : St) => cw g L u r0)) (fun q => base ≤ q)) (QX g base n L (cw g L x r0) (fun E => E = "java/lang/IllegalStateException" ∧ nn = 40)) ([.ref (L 0), .int p0, .int p1, .int p2, .int p3] : List Value).toArray s 1 6 (fun q => base ≤ q)) (F0 m 47 ls []) := by
      intro k
      induction k with
      | zero =>
        intro z6 x1 H locs ls hkd ek6 hF hrk1 h11 hP hS hl
        subst ek6
        refine lv_iload hx hb dX3_take_47 (lv_at hl 0 rfl) ?_
        refine lv_if_le (tgt := 90) hx hb dX3_take_49 (by decide) (fun c49 => ?_) (fun c49 => absurd (by decide) c49)
        refine lv_aload_n hx hb dX3_take_90 rfl (lv_at hl 1 rfl) ?_
        refine wx_get (D := g.1) (cl := vwCl) (ci := 5) (v := .ref (L 3)) (C := RX3) (T := TX3) (N := 8) hx hb hts iX3 hown hK hP (0) (by omega) cw_d rfl 3 (by decide) (hts (.fieldLink RX3 25 "FerroDesk" "ranked" "[LFerroDesk$Notice;") (by decide +kernel)) (fun _ h9 => h9) rfl dX3_take_91 ?_
        refine lv_iload hx hb dX3_take_94 (lv_at hl 0 rfl) ?_
        refine lv_aload hx hb dX3_take_96 (lv_at hl 6 rfl) ?_
        refine wx_aast (D := g.1) (cl := vwCl) (f := fun j => if j < 40 then some (L (26 + 2 * (x1 43 0 j).toNatClampNeg)) else none) (w' := cw g L (st x1 43 0 0 (nI nn)) r0) hx hb hK hP hJ hS (3) 2 (26 + 2 * nn) 3 (by omega) (by omega) cw_3 rfl (cw_n (by omega)) rfl (i := nI 0) (vp_in_nI (by omega) (by decide)) dX3_take_98 (cw_put (r := 43) (i := 0) (j := 0) rfl (by omega) (by rw [nI_clamp (show 0 < 2 ^ 31 by omega)]; exact rk_put (by omega) (by omega))) (fun H locs hP hS => ?_)
        refine lv_aload_n hx hb dX3_take_99 rfl (lv_at hl 1 rfl) ?_
        refine lv_dup hx hb dX3_take_100 rfl ?_
        refine wx_get (D := g.1) (cl := vwCl) (ci := 5) (v := .int ((st x1 43 0 0 (nI nn)) 1 0 0)) (C := RX3) (T := TX3) (N := 8) hx hb hts iX3 hown hK hP (0) (by omega) cw_d rfl 4 (by decide) (hts (.fieldLink RX3 28 "FerroDesk" "noticeCount" "I") (by decide +kernel)) (fun _ h9 => h9) rfl dX3_take_101 ?_
        refine lv_iconst (v := 1) hx hb dX3_take_104 (by decide) ?_
        refine lv_iadd hx hb dX3_take_105 ?_
        refine wx_put (D := g.1) (cl := vwCl) (ci := 5) (v := .int (((st x1 43 0 0 (nI nn)) 1 0 0) + 1)) (ty := .int) (w' := cw g L (st (st x1 43 0 0 (nI nn)) 1 0 0 (((st x1 43 0 0 (nI nn)) 1 0 0) + 1)) r0) (C := RX3) (T := TX3) (N := 8) hx hb hts iX3 tyX3 tyX3_ok nmX3 hown hK hP hJ hS (0) (by omega) cw_d rfl 4 (by decide) (hts (.fieldLink RX3 28 "FerroDesk" "noticeCount" "I") (by decide +kernel)) (fun _ h9 => h9) rfl (by decide +kernel) rfl rfl (Nat.le_of_ble_eq_true rfl) dX3_take_106 (cw_put (r := 1) (i := 0) (j := 0) rfl (by omega) (dk_0.trans (by simp [dF, st]))) (fun H locs hP hS => ?_)
        refine lv_aload hx hb dX3_take_109 (lv_at hl 6 rfl) ?_
        refine W.widen (k := 1) (n := 6) (Nat.le_of_ble_eq_true rfl) (Nat.le_of_ble_eq_true rfl) ?_
        exact vx_ret (W.aret (v := .ref (L (26 + 2 * nn))) hx hb hr (Or.inl ⟨_, rfl⟩) (Or.inr ⟨_, rfl⟩) (fun t ht hW => ⟨⟨(st (st x1 43 0 0 (nI nn)) 1 0 0 (((st x1 43 0 0 (nI nn)) 1 0 0) + 1)), _, rfl, ⟨hlt, by unfold tkF; rw [← hF]; rfl⟩, rfl, PB.mk9 hP ht⟩, hS.F ht⟩) hS.2.2 dX3_take_111)
      | succ k ih =>
        intro z6 x1 H locs ls hkd ek6 hF hrk1 h11 hP hS hl
        subst ek6
        have hr9 := hrk1 k (by omega)
        refine lv_iload hx hb dX3_take_47 (lv_at hl 0 rfl) ?_
        refine lv_if_le (tgt := 90) hx hb dX3_take_49 (by decide) (fun c49 => absurd c49 (nI_nle (by omega) (by omega))) (fun c49 => ?_)
        refine lv_aload_n hx hb dX3_take_52 rfl (lv_at hl 1 rfl) ?_
        refine wx_get (D := g.1) (cl := vwCl) (ci := 5) (v := .ref (L 3)) (C := RX3) (T := TX3) (N := 8) hx hb hts iX3 hown hK hP (0) (by omega) cw_d rfl 3 (by decide) (hts (.fieldLink RX3 25 "FerroDesk" "ranked" "[LFerroDesk$Notice;") (by decide +kernel)) (fun _ h9 => h9) rfl dX3_take_53 ?_
        refine lv_iload hx hb dX3_take_56 (lv_at hl 0 rfl) ?_
        refine lv_iconst (v := 1) hx hb dX3_take_58 (by decide) ?_
        refine lv_isub hx hb dX3_take_59 ?_
        refine wx_aald (D := g.1) (cl := vwCl) (f := fun j => if j < 40 then some (L (26 + 2 * (x1 43 0 j).toNatClampNeg)) else none) (a := L (26 + 2 * (x1 43 0 k).toNatClampNeg)) hx hb hK hP (3) 2 (by omega) cw_3 rfl (i := (nI (k + 1)) - 1) (by rw [nI_pred]; exact vp_in_nI (by omega) (by decide)) (by rw [nI_pred, nI_clamp (show k < 2 ^ 31 by omega)]; exact if_pos (by omega)) dX3_take_60 ?_
        refine wx_getN (D := g.1) (cl := vwCl) (ci := 3) (v := .int (x1 30 (x1 43 0 k).toNatClampNeg 0)) (C := RX1) (T := TX1) (N := 9) hx hb hts iX1 hown hK hP (26 + 2 * ((x1 43 0 k).toNatClampNeg)) (by omega) (cw_n (by omega)) rfl 2 (by decide) (hE.1 _ (ng_in (w := (Cond.fieldLinkNest "FerroDesk" 158 "FerroDesk$Notice" "rank" "I" "FerroDesk")) (by decide +kernel))) (fun _ h9 => h9) rfl dX3_take_61 ?_
        refine lv_iload_n hx hb dX3_take_64 rfl (lv_at hl 2 rfl) ?_
        refine lv_icmp_ge (tgt := 90) hx hb dX3_take_65 (by decide) (fun c65 => ?_) (fun c65 => ?_)
        · refine lv_aload_n hx hb dX3_take_90 rfl (lv_at hl 1 rfl) ?_
          refine wx_get (D := g.1) (cl := vwCl) (ci := 5) (v := .ref (L 3)) (C := RX3) (T := TX3) (N := 8) hx hb hts iX3 hown hK hP (0) (by omega) cw_d rfl 3 (by decide) (hts (.fieldLink RX3 25 "FerroDesk" "ranked" "[LFerroDesk$Notice;") (by decide +kernel)) (fun _ h9 => h9) rfl dX3_take_91 ?_
          refine lv_iload hx hb dX3_take_94 (lv_at hl 0 rfl) ?_
          refine lv_aload hx hb dX3_take_96 (lv_at hl 6 rfl) ?_
          refine wx_aast (D := g.1) (cl := vwCl) (f := fun j => if j < 40 then some (L (26 + 2 * (x1 43 0 j).toNatClampNeg)) else none) (w' := cw g L (st x1 43 0 (k + 1) (nI nn)) r0) hx hb hK hP hJ hS (3) 2 (26 + 2 * nn) 3 (by omega) (by omega) cw_3 rfl (cw_n (by omega)) rfl (i := nI (k + 1)) (vp_in_nI (by omega) (by decide)) dX3_take_98 (cw_put (r := 43) (i := 0) (j := k + 1) rfl (by omega) (by rw [nI_clamp (show k + 1 < 2 ^ 31 by omega)]; exact rk_put (by omega) (by omega))) (fun H locs hP hS => ?_)
          refine lv_aload_n hx hb dX3_take_99 rfl (lv_at hl 1 rfl) ?_
          refine lv_dup hx hb dX3_take_100 rfl ?_
          refine wx_get (D := g.1) (cl := vwCl) (ci := 5) (v := .int ((st x1 43 0 (k + 1) (nI nn)) 1 0 0)) (C := RX3) (T := TX3) (N := 8) hx hb hts iX3 hown hK hP (0) (by omega) cw_d rfl 4 (by decide) (hts (.fieldLink RX3 28 "FerroDesk" "noticeCount" "I") (by decide +kernel)) (fun _ h9 => h9) rfl dX3_take_101 ?_
          refine lv_iconst (v := 1) hx hb dX3_take_104 (by decide) ?_
          refine lv_iadd hx hb dX3_take_105 ?_
          refine wx_put (D := g.1) (cl := vwCl) (ci := 5) (v := .int (((st x1 43 0 (k + 1) (nI nn)) 1 0 0) + 1)) (ty := .int) (w' := cw g L (st (st x1 43 0 (k + 1) (nI nn)) 1 0 0 (((st x1 43 0 (k + 1) (nI nn)) 1 0 0) + 1)) r0) (C := RX3) (T := TX3) (N := 8) hx hb hts iX3 tyX3 tyX3_ok nmX3 hown hK hP hJ hS (0) (by omega) cw_d rfl 4 (by decide) (hts (.fieldLink RX3 28 "FerroDesk" "noticeCount" "I") (by decide +kernel)) (fun _ h9 => h9) rfl (by decide +kernel) rfl rfl (Nat.le_of_ble_eq_true rfl) dX3_take_106 (cw_put (r := 1) (i := 0) (j := 0) rfl (by omega) (dk_0.trans (by simp [dF, st]))) (fun H locs hP hS => ?_)
          refine lv_aload hx hb dX3_take_109 (lv_at hl 6 rfl) ?_
          refine W.widen (k := 1) (n := 6) (Nat.le_of_ble_eq_true rfl) (Nat.le_of_ble_eq_true rfl) ?_
          exact vx_ret (W.aret (v := .ref (L (26 + 2 * nn))) hx hb hr (Or.inl ⟨_, rfl⟩) (Or.inr ⟨_, rfl⟩) (fun t ht hW => ⟨⟨(st (st x1 43 0 (k + 1) (nI nn)) 1 0 0 (((st x1 43 0 (k + 1) (nI nn)) 1 0 0) + 1)), _, rfl, ⟨hlt, by unfold tkF; rw [← hF, tkL_f (Int32.not_lt.mpr c65)]⟩, rfl, PB.mk9 hP ht⟩, hS.F ht⟩) hS.2.2 dX3_take_111)
        · refine lv_aload_n hx hb dX3_take_68 rfl (lv_at hl 1 rfl) ?_
          refine wx_get (D := g.1) (cl := vwCl) (ci := 5) (v := .ref (L 3)) (C := RX3) (T := TX3) (N := 8) hx hb hts iX3 hown hK hP (0) (by omega) cw_d rfl 3 (by decide) (hts (.fieldLink RX3 25 "FerroDesk" "ranked" "[LFerroDesk$Notice;") (by decide +kernel)) (fun _ h9 => h9) rfl dX3_take_69 ?_
          refine lv_iload hx hb dX3_take_72 (lv_at hl 0 rfl) ?_
          refine lv_aload_n hx hb dX3_take_74 rfl (lv_at hl 1 rfl) ?_
          refine wx_get (D := g.1) (cl := vwCl) (ci := 5) (v := .ref (L 3)) (C := RX3) (T := TX3) (N := 8) hx hb hts iX3 hown hK hP (0) (by omega) cw_d rfl 3 (by decide) (hts (.fieldLink RX3 25 "FerroDesk" "ranked" "[LFerroDesk$Notice;") (by decide +kernel)) (fun _ h9 => h9) rfl dX3_take_75 ?_
          refine lv_iload hx hb dX3_take_78 (lv_at hl 0 rfl) ?_
          refine lv_iconst (v := 1) hx hb dX3_take_80 (by decide) ?_
          refine lv_isub hx hb dX3_take_81 ?_
          refine wx_aald (D := g.1) (cl := vwCl) (f := fun j => if j < 40 then some (L (26 + 2 * (x1 43 0 j).toNatClampNeg)) else none) (a := L (26 + 2 * (x1 43 0 k).toNatClampNeg)) hx hb hK hP (3) 2 (by omega) cw_3 rfl (i := (nI (k + 1)) - 1) (by rw [nI_pred]; exact vp_in_nI (by omega) (by decide)) (by rw [nI_pred, nI_clamp (show k < 2 ^ 31 by omega)]; exact if_pos (by omega)) dX3_take_82 ?_
          refine wx_aast (D := g.1) (cl := vwCl) (f := fun j => if j < 40 then some (L (26 + 2 * (x1 43 0 j).toNatClampNeg)) else none) (w' := cw g L (st x1 43 0 (k + 1) (x1 43 0 k)) r0) hx hb hK hP hJ hS (3) 2 (26 + 2 * (x1 43 0 k).toNatClampNeg) 3 (by omega) (by omega) cw_3 rfl (cw_n (by omega)) rfl (i := nI (k + 1)) (vp_in_nI (by omega) (by decide)) dX3_take_83 (cw_put (r := 43) (i := 0) (j := k + 1) rfl (by omega) (by rw [nI_clamp (show k + 1 < 2 ^ 31 by omega)]; exact rk_putv (by omega))) (fun H locs hP hS => ?_)
          obtain ⟨z84, ez84⟩ : ∃ y : Int32, y = nI (k + 1) + (-1) := ⟨_, rfl⟩
          refine lv_iinc (v := z84) (lv' := [(6, .int z84), (0, .ref (L 0)), (1, .int p0), (2, .int p1), (3, .int p2), (4, .int p3), (5, .ref (L (26 + 2 * nn)))]) hx hb dX3_take_84 hl (k := 0) rfl (by rw [ez84]; rfl) (by decide) rfl (fun ls hl => ?_)
          refine lv_goto (tgt := 47) hx hb dX3_take_87 (by decide) ?_
          exact ih _ _ _ _ _ (by omega) (by rw [ez84]; exact (Int32.sub_eq_add_neg _ _).symm.trans (nI_pred _)) ((tkL_t (Int32.not_le.mp c65)).symm.trans hF) (rk_sh hrk1 hr9) ((st_nr (by omega)).trans h11) hP hS (lv_sub hl [0, 1, 2, 3, 4, 5, 6] rfl)
    exact key47 nn _ _ _ _ _ (Nat.le_refl _) ((tk0_r (by omega)).trans hx1) rfl (fun j hj => by have e : tk0 x nn p0 p1 p2 p3 43 0 j = x 43 0 j := tk0_r (by omega); show (tk0 x nn p0 p1 p2 p3 43 0 j).toNatClampNeg < 40; rw [e]; exact hrk j hj) ((tk0_r (by omega)).trans hx1) hP hS (lv_sub hl [0, 2, 3, 4, 5, 6, 1] rfl)
  · exact wx_throwSW (ik := 58) (is := 261) (ic := 62) (own := RX3) (cls := "java/lang/IllegalStateException") (text := "there are 40 notices") (names := ["java/lang/RuntimeException", "java/lang/Exception"]) hx hb hst hPW hown (by decide +kernel) (by decide +kernel) (hts (.classLink RX3 58 "java/lang/IllegalStateException") (by decide +kernel)) (hts (.initialized "java/lang/IllegalStateException") (by decide +kernel)) (by decide +kernel) (fun w hw => hts w (List.mem_cons_of_mem _ (List.mem_append_right _ hw))) (by decide +kernel) (by decide +kernel) hP hS (hl.1.trans hml.symm) dX3_take_9 dX3_take_12 dX3_take_13 dX3_take_16 dX3_take_19 hno (Nat.lt_of_lt_of_le (Nat.lt_succ_self _) (Nat.le_of_ble_eq_true rfl)) (Nat.le_of_ble_eq_true rfl) (Nat.le_of_ble_eq_true rfl) (Nat.le_of_ble_eq_true rfl) hlocks (⟨rfl, by have h9 := c6; rw [hx1, Int32.lt_iff_toInt_lt, nI_toInt (by omega), i_40] at h9; omega⟩) (Nat.le_of_ble_eq_true rfl) (Nat.le_of_ble_eq_true rfl)

set_option maxHeartbeats 4000000 in
set_option maxRecDepth 100000 in
theorem k_post (l : Launch) (hst : l.stackTraces = false) (g : gE) (base n : Nat) (L : Nat → Nat) (hn : 106 ≤ n) (x : St) (r0 : Nat → va_E) (nn : Nat) (hnn : nn ≤ 40) (hx1 : x 1 0 0 = nI nn) (hrk : ∀ j, j < 40 → (x 43 0 j).toNatClampNeg < 40) (p0 p1 p2 p3 : Int32) : vx_Met l yX3_post wsX3_post ({ frames := 8, cells := 2, slots := 12, locals := 180 }) (va_Pc [.ref (L 0), .int p0, .int p1, .int p2, .int p3] (PW SS g base n L (cw g L x r0))) (va_Qi (fun (r : Int32) (u : St) => (0 ≤ p0.toInt ∧ p0.toInt ≤ 9 ∧ p1.toInt ≠ 0 ∧ 0 ≤ p2.toInt ∧ p2.toInt < p3.toInt ∧ p3.toInt ≤ 2000) ∧ nn < 40 ∧ u = tkF x nn p0 p1 p2 p3 ∧ r = nI nn) (fun (u : St) t => PB g n L (cw g L u r0) t) (fun q => base ≤ q)) (QX g base n L (cw g L x r0) (fun E => (E = "java/lang/IllegalArgumentException" ∧ ¬ (0 ≤ p0.toInt ∧ p0.toInt ≤ 9 ∧ p1.toInt ≠ 0 ∧ 0 ≤ p2.toInt ∧ p2.toInt < p3.toInt ∧ p3.toInt ≤ 2000)) ∨ (E = "java/lang/IllegalStateException" ∧ (0 ≤ p0.toInt ∧ p0.toInt ≤ 9 ∧ p1.toInt ≠ 0 ∧ 0 ≤ p2.toInt ∧ p2.toInt < p3.toInt ∧ p3.toInt ≤ 2000) ∧ nn = 40))) 2 12 (fun q => base ≤ q) := by
  refine vx_ofW (cc := cX3_post) (maxL := 5) (ret := (some .int)) (by decide) rfl ?_
  intro p e s m args below meth c s₁ B hml hno hv
  obtain ⟨rfl, hPW⟩ := hv
  obtain ⟨hbs, hJ, hP, hK, hE⟩ := id hPW
  have hx := B.exec
  have hb := B.bytes
  have hr := B.returns
  have hts := atoms_spec (ws := wsX3_post) B.pre
  have hown : s.vm.findClass RX3 = some m.cls := findClass_of_methodNamed B.named
  have hlocks := B.notSynchronized
  have hS : va_S (fun q : Nat => base ≤ q) s.heap s.heap [] := va_S.rf
  have hl := lv_entry ([.ref (L 0), .int p0, .int p1, .int p2, .int p3]) (n := 5) (Nat.le_of_ble_eq_true rfl)
  rw [lg_entry_eq]
  generalize (lg_sl ([.ref (L 0), .int p0, .int p1, .int p2, .int p3]) ++ List.replicate (5 - (lg_sl ([.ref (L 0), .int p0, .int p1, .int p2, .int p3])).length) Slot.unset).toArray = ls at hl ⊢
  have hl : lv_has ls 5 [(0, .ref (L 0)), (1, .int p0), (2, .int p1), (3, .int p2), (4, .int p3)] := hl
  have iX1 : ∀ w ∈ wsX10, w ∈ wsX3_post := by decide +kernel
  refine lv_iload_n hx hb dX3_post_0 rfl (lv_at hl 1 rfl) ?_
  refine lv_if_lt (tgt := 10) hx hb dX3_post_1 (by decide) (fun c1 => ?_) (fun c1 => ?_)
  · exact wx_throwS (ik := 51) (is := 104) (ic := 55) (own := RX3) (cls := "java/lang/IllegalArgumentException") (text := "the rank is not 0 to 9") (names := ["java/lang/RuntimeException", "java/lang/Exception"]) hx hb hst hPW hown (by decide +kernel) (by decide +kernel) (hts (.classLink RX3 51 "java/lang/IllegalArgumentException") (by decide +kernel)) (hts (.initialized "java/lang/IllegalArgumentException") (by decide +kernel)) (by decide +kernel) (fun w hw => hts w (List.mem_cons_of_mem _ (List.mem_append_left _ (List.mem_append_right _ hw)))) (by decide +kernel) (by decide +kernel) hP hS (hl.1.trans hml.symm) dX3_post_10 dX3_post_13 dX3_post_14 dX3_post_16 dX3_post_19 hno (Nat.lt_of_lt_of_le (Nat.lt_succ_self _) (Nat.le_of_ble_eq_true rfl)) (Nat.le_of_ble_eq_true rfl) (Nat.le_of_ble_eq_true rfl) (Nat.le_of_ble_eq_true rfl) hlocks (Or.inl ⟨rfl, (by revert c1; (try simp only [Int32.lt_iff_toInt_lt, Int32.le_iff_toInt_le, ← Int32.toInt_inj, i_0, i_1, i_2, i_3, i_4, i_6, i_9, i_20, i_32, i_40, i_48, i_60, i_200, i_999, i_2000, i_m1, i_8]); omega)⟩) (Nat.le_of_ble_eq_true rfl) (Nat.le_of_ble_eq_true rfl)
  · refine lv_iload_n hx hb dX3_post_4 rfl (lv_at hl 1 rfl) ?_
    refine lv_bipush (v := 9) hx hb dX3_post_5 (by decide) ?_
    refine lv_icmp_le (tgt := 20) hx hb dX3_post_7 (by decide) (fun c7 => ?_) (fun c7 => ?_)
    · refine lv_iload_n hx hb dX3_post_20 rfl (lv_at hl 2 rfl) ?_
      refine lv_if_ne (tgt := 34) hx hb dX3_post_21 (by decide) (fun c21 => ?_) (fun c21 => ?_)
      · refine lv_iload_n hx hb dX3_post_34 rfl (lv_at hl 3 rfl) ?_
        refine lv_if_lt (tgt := 52) hx hb dX3_post_35 (by decide) (fun c35 => ?_) (fun c35 => ?_)
        · exact wx_throwS (ik := 51) (is := 108) (ic := 55) (own := RX3) (cls := "java/lang/IllegalArgumentException") (text := "the hours are not 0 to 2000, the first one ahead") (names := ["java/lang/RuntimeException", "java/lang/Exception"]) hx hb hst hPW hown (by decide +kernel) (by decide +kernel) (hts (.classLink RX3 51 "java/lang/IllegalArgumentException") (by decide +kernel)) (hts (.initialized "java/lang/IllegalArgumentException") (by decide +kernel)) (by decide +kernel) (fun w hw => hts w (List.mem_cons_of_mem _ (List.mem_append_left _ (List.mem_append_right _ hw)))) (by decide +kernel) (by decide +kernel) hP hS (hl.1.trans hml.symm) dX3_post_52 dX3_post_55 dX3_post_56 dX3_post_58 dX3_post_61 hno (Nat.lt_of_lt_of_le (Nat.lt_succ_self _) (Nat.le_of_ble_eq_true rfl)) (Nat.le_of_ble_eq_true rfl) (Nat.le_of_ble_eq_true rfl) (Nat.le_of_ble_eq_true rfl) hlocks (Or.inl ⟨rfl, (by revert c1 c7 c21 c35; (try simp only [Int32.lt_iff_toInt_lt, Int32.le_iff_toInt_le, ← Int32.toInt_inj, i_0, i_1, i_2, i_3, i_4, i_6, i_9, i_20, i_32, i_40, i_48, i_60, i_200, i_999, i_2000, i_m1, i_8]); omega)⟩) (Nat.le_of_ble_eq_true rfl) (Nat.le_of_ble_eq_true rfl)
        · refine lv_iload_n hx hb dX3_post_38 rfl (lv_at hl 3 rfl) ?_
          refine lv_iload hx hb dX3_post_39 (lv_at hl 4 rfl) ?_
          refine lv_icmp_ge (tgt := 52) hx hb dX3_post_41 (by decide) (fun c41 => ?_) (fun c41 => ?_)
          · exact wx_throwS (ik := 51) (is := 108) (ic := 55) (own := RX3) (cls := "java/lang/IllegalArgumentException") (text := "the hours are not 0 to 2000, the first one ahead") (names := ["java/lang/RuntimeException", "java/lang/Exception"]) hx hb hst hPW hown (by decide +kernel) (by decide +kernel) (hts (.classLink RX3 51 "java/lang/IllegalArgumentException") (by decide +kernel)) (hts (.initialized "java/lang/IllegalArgumentException") (by decide +kernel)) (by decide +kernel) (fun w hw => hts w (List.mem_cons_of_mem _ (List.mem_append_left _ (List.mem_append_right _ hw)))) (by decide +kernel) (by decide +kernel) hP hS (hl.1.trans hml.symm) dX3_post_52 dX3_post_55 dX3_post_56 dX3_post_58 dX3_post_61 hno (Nat.lt_of_lt_of_le (Nat.lt_succ_self _) (Nat.le_of_ble_eq_true rfl)) (Nat.le_of_ble_eq_true rfl) (Nat.le_of_ble_eq_true rfl) (Nat.le_of_ble_eq_true rfl) hlocks (Or.inl ⟨rfl, (by revert c1 c7 c21 c35 c41; (try simp only [Int32.lt_iff_toInt_lt, Int32.le_iff_toInt_le, ← Int32.toInt_inj, i_0, i_1, i_2, i_3, i_4, i_6, i_9, i_20, i_32, i_40, i_48, i_60, i_200, i_999, i_2000, i_m1, i_8]); omega)⟩) (Nat.le_of_ble_eq_true rfl) (Nat.le_of_ble_eq_true rfl)
          · refine lv_iload hx hb dX3_post_44 (lv_at hl 4 rfl) ?_
            refine lv_sipush (v := 2000) hx hb dX3_post_46 (by decide) ?_
            refine lv_icmp_le (tgt := 62) hx hb dX3_post_49 (by decide) (fun c49 => ?_) (fun c49 => ?_)
            · have hok : (0 ≤ p0.toInt ∧ p0.toInt ≤ 9 ∧ p1.toInt ≠ 0 ∧ 0 ≤ p2.toInt ∧ p2.toInt < p3.toInt ∧ p3.toInt ≤ 2000) := (by revert c1 c7 c21 c35 c41 c49; (try simp only [Int32.lt_iff_toInt_lt, Int32.le_iff_toInt_le, ← Int32.toInt_inj, i_0, i_1, i_2, i_3, i_4, i_6, i_9, i_20, i_32, i_40, i_48, i_60, i_200, i_999, i_2000, i_m1, i_8]); omega)
              refine lv_aload_n hx hb dX3_post_62 rfl (lv_at hl 0 rfl) ?_
              refine lv_iload_n hx hb dX3_post_63 rfl (lv_at hl 1 rfl) ?_
              refine lv_iload_n hx hb dX3_post_64 rfl (lv_at hl 2 rfl) ?_
              refine lv_iload_n hx hb dX3_post_65 rfl (lv_at hl 3 rfl) ?_
              refine lv_iload hx hb dX3_post_66 (lv_at hl 4 rfl) ?_
              refine wx_xcallr (G := fun _ => 26 + 2 * nn) (vx_runV (As := [.int p0, .int p1, .int p2, .int p3]) (rest := []) ⟨hx, hb, hml, hown, hts⟩ (k_take l hst g base n L (by omega) x r0 nn hnn hx1 hrk p0 p1 p2 p3) (cwV 4 hts gX3_post_X3_take rfl rfl rfl (by decide +kernel) ⟨Nat.le_of_ble_eq_true rfl, Nat.le_of_ble_eq_true rfl⟩) (hPW.preV hP hS (ci := 5) rfl (by omega) cw_d) rfl rfl hl.1 rfl (lv_room (Nat.le_of_ble_eq_true rfl)) dX3_post_68 ⟨Nat.le_of_ble_eq_true rfl, Nat.le_of_ble_eq_true rfl⟩) hS (fun E ce q9 H locs hpx hP hS h1 h2 h3 => ?_) (fun u68 H locs h68 hP hS => ?_)
              · exact wx_out hno hlocks h1 h2 h3 (Or.inr ⟨hpx.1, hok, hpx.2⟩) hP hS (Nat.le_of_ble_eq_true rfl) (Nat.le_of_ble_eq_true rfl)
              obtain ⟨hlt, rfl⟩ := h68
              refine wx_getN (D := g.1) (cl := vwCl) (ci := 3) (v := .int (nI nn)) (C := RX1) (T := TX1) (N := 9) hx hb hts iX1 hown hK hP (26 + 2 * nn) (by omega) (cw_n (by omega)) rfl 0 (by decide) (hE.1 _ (ng_in (w := (Cond.fieldLinkNest "FerroDesk" 94 "FerroDesk$Notice" "number" "I" "FerroDesk")) (by decide +kernel))) (fun _ h9 => h9) rfl dX3_post_71 ?_
              refine W.widen (k := 2) (n := 12) (Nat.le_of_ble_eq_true rfl) (Nat.le_of_ble_eq_true rfl) ?_
              exact vx_ret (W.iret (v := nI nn) hx hb hr (fun t ht hW => ⟨⟨nI nn, (tkF x nn p0 p1 p2 p3), rfl, ⟨hok, hlt, rfl, rfl⟩, PB.mk9 hP ht⟩, hS.F ht⟩) hS.2.2 dX3_post_74)
            · exact wx_throwS (ik := 51) (is := 108) (ic := 55) (own := RX3) (cls := "java/lang/IllegalArgumentException") (text := "the hours are not 0 to 2000, the first one ahead") (names := ["java/lang/RuntimeException", "java/lang/Exception"]) hx hb hst hPW hown (by decide +kernel) (by decide +kernel) (hts (.classLink RX3 51 "java/lang/IllegalArgumentException") (by decide +kernel)) (hts (.initialized "java/lang/IllegalArgumentException") (by decide +kernel)) (by decide +kernel) (fun w hw => hts w (List.mem_cons_of_mem _ (List.mem_append_left _ (List.mem_append_right _ hw)))) (by decide +kernel) (by decide +kernel) hP hS (hl.1.trans hml.symm) dX3_post_52 dX3_post_55 dX3_post_56 dX3_post_58 dX3_post_61 hno (Nat.lt_of_lt_of_le (Nat.lt_succ_self _) (Nat.le_of_ble_eq_true rfl)) (Nat.le_of_ble_eq_true rfl) (Nat.le_of_ble_eq_true rfl) (Nat.le_of_ble_eq_true rfl) hlocks (Or.inl ⟨rfl, (by revert c1 c7 c21 c35 c41 c49; (try simp only [Int32.lt_iff_toInt_lt, Int32.le_iff_toInt_le, ← Int32.toInt_inj, i_0, i_1, i_2, i_3, i_4, i_6, i_9, i_20, i_32, i_40, i_48, i_60, i_200, i_999, i_2000, i_m1, i_8]); omega)⟩) (Nat.le_of_ble_eq_true rfl) (Nat.le_of_ble_eq_true rfl)
      · exact wx_throwS (ik := 51) (is := 106) (ic := 55) (own := RX3) (cls := "java/lang/IllegalArgumentException") (text := "the picture is 0") (names := ["java/lang/RuntimeException", "java/lang/Exception"]) hx hb hst hPW hown (by decide +kernel) (by decide +kernel) (hts (.classLink RX3 51 "java/lang/IllegalArgumentException") (by decide +kernel)) (hts (.initialized "java/lang/IllegalArgumentException") (by decide +kernel)) (by decide +kernel) (fun w hw => hts w (List.mem_cons_of_mem _ (List.mem_append_left _ (List.mem_append_right _ hw)))) (by decide +kernel) (by decide +kernel) hP hS (hl.1.trans hml.symm) dX3_post_24 dX3_post_27 dX3_post_28 dX3_post_30 dX3_post_33 hno (Nat.lt_of_lt_of_le (Nat.lt_succ_self _) (Nat.le_of_ble_eq_true rfl)) (Nat.le_of_ble_eq_true rfl) (Nat.le_of_ble_eq_true rfl) (Nat.le_of_ble_eq_true rfl) hlocks (Or.inl ⟨rfl, (by revert c1 c7 c21; (try simp only [Int32.lt_iff_toInt_lt, Int32.le_iff_toInt_le, ← Int32.toInt_inj, i_0, i_1, i_2, i_3, i_4, i_6, i_9, i_20, i_32, i_40, i_48, i_60, i_200, i_999, i_2000, i_m1, i_8]); omega)⟩) (Nat.le_of_ble_eq_true rfl) (Nat.le_of_ble_eq_true rfl)
    · exact wx_throwS (ik := 51) (is := 104) (ic := 55) (own := RX3) (cls := "java/lang/IllegalArgumentException") (text := "the rank is not 0 to 9") (names := ["java/lang/RuntimeException", "java/lang/Exception"]) hx hb hst hPW hown (by decide +kernel) (by decide +kernel) (hts (.classLink RX3 51 "java/lang/IllegalArgumentException") (by decide +kernel)) (hts (.initialized "java/lang/IllegalArgumentException") (by decide +kernel)) (by decide +kernel) (fun w hw => hts w (List.mem_cons_of_mem _ (List.mem_append_left _ (List.mem_append_right _ hw)))) (by decide +kernel) (by decide +kernel) hP hS (hl.1.trans hml.symm) dX3_post_10 dX3_post_13 dX3_post_14 dX3_post_16 dX3_post_19 hno (Nat.lt_of_lt_of_le (Nat.lt_succ_self _) (Nat.le_of_ble_eq_true rfl)) (Nat.le_of_ble_eq_true rfl) (Nat.le_of_ble_eq_true rfl) (Nat.le_of_ble_eq_true rfl) hlocks (Or.inl ⟨rfl, (by revert c1 c7; (try simp only [Int32.lt_iff_toInt_lt, Int32.le_iff_toInt_le, ← Int32.toInt_inj, i_0, i_1, i_2, i_3, i_4, i_6, i_9, i_20, i_32, i_40, i_48, i_60, i_200, i_999, i_2000, i_m1, i_8]); omega)⟩) (Nat.le_of_ble_eq_true rfl) (Nat.le_of_ble_eq_true rfl)

