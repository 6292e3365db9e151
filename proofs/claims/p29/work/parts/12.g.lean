/-! laid by wip/gen -/
set_option maxHeartbeats 4000000 in
set_option maxRecDepth 100000 in
theorem k_changes (l : Launch) (hst : l.stackTraces = false) (g : gE) (base n : Nat) (L : Nat → Nat) (hn : 106 ≤ n) (x : St) (r0 : Nat → va_E) (nb : Nat) (hnb : nb ≤ 6) (hx0 : x 0 0 0 = nI nb) : Met l yX3_changes wsX3_changes ({ frames := 1, cells := 0, slots := 0, locals := 40 }) (va_Pc [.ref (L 0)] (PW SS g base n L (cw g L x r0))) (va_Ql (fun (r : Int64) (_ : Unit) => r = chgF x nb) (fun (u : Unit) t => PB g n L (cw g L x r0) t) (fun q => base ≤ q)) 0 0 (fun q => base ≤ q) := by
  refine Met.ofW (cc := cX3_changes) (maxL := 4) (ret := (some .long)) (by decide) rfl ?_
  intro p e s m args below meth c s₁ B hml hv
  obtain ⟨rfl, hPW⟩ := hv
  obtain ⟨hbs, hJ, hP, hK, hE⟩ := id hPW
  have hx := B.exec
  have hb := B.bytes
  have hr := B.returns
  have hts := atoms_spec (ws := wsX3_changes) B.pre
  have hown : s.vm.findClass RX3 = some m.cls := findClass_of_methodNamed B.named
  have hlocks := B.notSynchronized
  have hS : va_S (fun q : Nat => base ≤ q) s.heap s.heap [] := va_S.rf
  have hl := lv_entry ([.ref (L 0)]) (n := 4) (Nat.le_of_ble_eq_true rfl)
  rw [lg_entry_eq]
  generalize (lg_sl ([.ref (L 0)]) ++ List.replicate (4 - (lg_sl ([.ref (L 0)])).length) Slot.unset).toArray = ls at hl ⊢
  have hl : lv_has ls 4 [(0, .ref (L 0))] := hl
  have iX3 : ∀ w ∈ wsX30, w ∈ wsX3_changes := by decide +kernel
  refine lv_lconst (v := 0) hx hb dX3_changes_0 (by decide) ?_
  refine lv_lstore_n (lv' := [(1, .long 0), (0, .ref (L 0))]) hx hb dX3_changes_1 rfl hl (by decide) rfl (fun ls hl => ?_)
  refine lv_iconst (v := 0) hx hb dX3_changes_2 (by decide) ?_
  refine lv_istore_n (lv' := [(3, .int 0), (1, .long 0), (0, .ref (L 0))]) hx hb dX3_changes_3 rfl hl (by decide) rfl (fun ls hl => ?_)
  have key4 : ∀ (d k : Nat) (z3 : Int32) (z1 : Int64) (H : Heap) (locs : List Loc) (ls : Array Slot), k + d = nb → (z3 = nI k) → (z1 = chgF x k) → va_P g.1 vwCl (wl n L (cw g L x r0)) H → va_S (fun q : Nat => base ≤ q) s.heap H locs → lv_has ls 4 [(3, .int z3), (1, .long z1), (0, .ref (L 0))] → W p l e (headSpec wsX3_changes ({ frames := 1, cells := 0, slots := 0, locals := 40 })).room s m ([.ref (L 0)] : List Value).toArray below meth c H locs 0 0 (MQ below (va_Ql (fun (r : Int64) (_ : Unit) => r = chgF x nb) (fun (u : Unit) t => PB g n L (cw g L x r0) t) (fun q => base ≤ q)) ([.ref (L 0)] : List Value).toArray s 0 0 (fun q => base ≤ q)) (F0 m 4 ls []) := by
    intro d
    induction d with
    | zero =>
      intro k z3 z1 H locs ls hkd ek3 ek1 hP hS hl
      obtain rfl : nb = k := by omega
      subst ek3 ek1
      refine lv_iload_n hx hb dX3_changes_4 rfl (lv_at hl 0 rfl) ?_
      refine lv_aload_n hx hb dX3_changes_5 rfl (lv_at hl 2 rfl) ?_
      refine wx_get (D := g.1) (cl := vwCl) (ci := 5) (v := .int (x 0 0 0)) (C := RX3) (T := TX3) (N := 8) hx hb hts iX3 hown hK hP (0) (by omega) cw_d rfl 1 (by decide) (hts (.fieldLink RX3 15 "FerroDesk" "boardCount" "I") (by decide +kernel)) (fun _ h9 => h9) rfl dX3_changes_6 ?_
      refine lv_icmp_ge (tgt := 31) hx hb dX3_changes_9 (by decide) (fun c9 => ?_) (fun c9 => absurd (by rw [hx0]; exact nI_le (Nat.le_refl _) (by omega)) c9)
      refine lv_lload_n hx hb dX3_changes_31 rfl (lv_at hl 1 rfl) ?_
      refine W.widen (k := 0) (n := 0) (Nat.le_of_ble_eq_true rfl) (Nat.le_of_ble_eq_true rfl) ?_
      exact W.lret (v := chgF x nb) hx hb hr (fun t ht hW => ⟨⟨chgF x nb, (), rfl, rfl, PB.mk9 hP ht⟩, hS.F ht⟩) hS.2.2 dX3_changes_32
    | succ d ih =>
      intro k z3 z1 H locs ls hkd ek3 ek1 hP hS hl
      have hkN : k < nb := by omega
      subst ek3 ek1
      refine lv_iload_n hx hb dX3_changes_4 rfl (lv_at hl 0 rfl) ?_
      refine lv_aload_n hx hb dX3_changes_5 rfl (lv_at hl 2 rfl) ?_
      refine wx_get (D := g.1) (cl := vwCl) (ci := 5) (v := .int (x 0 0 0)) (C := RX3) (T := TX3) (N := 8) hx hb hts iX3 hown hK hP (0) (by omega) cw_d rfl 1 (by decide) (hts (.fieldLink RX3 15 "FerroDesk" "boardCount" "I") (by decide +kernel)) (fun _ h9 => h9) rfl dX3_changes_6 ?_
      refine lv_icmp_ge (tgt := 31) hx hb dX3_changes_9 (by decide) (fun c9 => absurd c9 (by rw [hx0]; exact nI_ge hkN (by omega))) (fun c9 => ?_)
      refine lv_lload_n hx hb dX3_changes_12 rfl (lv_at hl 1 rfl) ?_
      refine lv_aload_n hx hb dX3_changes_13 rfl (lv_at hl 2 rfl) ?_
      refine wx_get (D := g.1) (cl := vwCl) (ci := 5) (v := .ref (L 1)) (C := RX3) (T := TX3) (N := 8) hx hb hts iX3 hown hK hP (0) (by omega) cw_d rfl 0 (by decide) (hts (.fieldLink RX3 11 "FerroDesk" "boards" "[LFerroDesk$Board;") (by decide +kernel)) (fun _ h9 => h9) rfl dX3_changes_14 ?_
      refine lv_iload_n hx hb dX3_changes_17 rfl (lv_at hl 0 rfl) ?_
      refine wx_aald (D := g.1) (cl := vwCl) (f := fun j => if j < 6 then some (L (8 + 3 * j)) else none) (a := L (8 + 3 * k)) hx hb hK hP (1) 1 (by omega) cw_1 rfl (i := nI k) (vp_in_nI (by omega) (by decide)) (by rw [nI_clamp (show k < 2 ^ 31 by omega)]; exact if_pos (by omega)) dX3_changes_18 ?_
      refine wx_calli (va_runV (As := []) (rest := [.long (chgF x k)]) ⟨hx, hb, hml, hown, hts⟩ (k_wearOfAll l hst g base n L (by omega) x r0 k (by omega)  ) (cwV 0 hts gX3_changes_X0_wearOfAll rfl rfl rfl (by decide +kernel) ⟨Nat.le_of_ble_eq_true rfl, Nat.le_of_ble_eq_true rfl⟩) (hPW.preV hP hS (ci := 2) rfl (by omega) (cw_b (by omega))) rfl rfl hl.1 rfl (lv_room (Nat.le_of_ble_eq_true rfl)) dX3_changes_19 ⟨Nat.le_of_ble_eq_true rfl, Nat.le_of_ble_eq_true rfl⟩) hS (fun r19 u19 H locs h19 hP hS => ?_)
      obtain rfl := h19
      refine lv_i2l hx hb dX3_changes_22 rfl ?_
      refine lv_ladd hx hb dX3_changes_23 ?_
      refine lv_lstore_n (lv' := [(1, .long ((chgF x k) + ((sumW x k 32).toInt64))), (3, .int (nI k)), (0, .ref (L 0))]) hx hb dX3_changes_24 rfl hl (by decide) rfl (fun ls hl => ?_)
      obtain ⟨z25, ez25⟩ : ∃ y : Int32, y = nI k + 1 := ⟨_, rfl⟩
      refine lv_iinc (v := z25) (lv' := [(3, .int z25), (1, .long ((chgF x k) + ((sumW x k 32).toInt64))), (0, .ref (L 0))]) hx hb dX3_changes_25 hl (k := 1) rfl (by rw [ez25]; rfl) (by decide) rfl (fun ls hl => ?_)
      refine lv_goto (tgt := 4) hx hb dX3_changes_28 (by decide) ?_
      exact ih (k + 1) _ _ _ _ _ (by omega) (by rw [ez25, nI_1]) rfl hP hS (lv_sub hl [0, 1, 2] rfl)
  exact key4 nb 0 _ _ _ _ _ (by omega) rfl rfl hP hS (lv_sub hl [0, 1, 2] rfl)

set_option maxHeartbeats 4000000 in
set_option maxRecDepth 100000 in
theorem k_shows (l : Launch) (hst : l.stackTraces = false) (g : gE) (base n : Nat) (L : Nat → Nat) (hn : 106 ≤ n) (x : St) (r0 : Nat → va_E) (nb : Nat) (hnb : nb ≤ 6) (hx0 : x 0 0 0 = nI nb) (hsh : ∀ b, b < 6 → x 12 b 0 = -1 ∨ ∃ k, k < 40 ∧ x 12 b 0 = nI k) (p0 : Int32) : vx_Met l yX3_shows wsX3_shows ({ frames := 7, cells := 1, slots := 6, locals := 140 }) (va_Pc [.ref (L 0), .int p0] (PW SS g base n L (cw g L x r0))) (va_Qi (fun (r : Int32) (_ : Unit) => ∃ j, j < nb ∧ p0 = nI j ∧ r = x 12 j 0) (fun (u : Unit) t => PB g n L (cw g L x r0) t) (fun q => base ≤ q)) (QX g base n L (cw g L x r0) (fun E => E = "java/lang/IndexOutOfBoundsException" ∧ (p0.toInt < 0 ∨ nb ≤ p0.toInt))) 1 6 (fun q => base ≤ q) := by
  refine vx_ofW (cc := cX3_shows) (maxL := 3) (ret := (some .int)) (by decide) rfl ?_
  intro p e s m args below meth c s₁ B hml hno hv
  obtain ⟨rfl, hPW⟩ := hv
  obtain ⟨hbs, hJ, hP, hK, hE⟩ := id hPW
  have hx := B.exec
  have hb := B.bytes
  have hr := B.returns
  have hts := atoms_spec (ws := wsX3_shows) B.pre
  have hown : s.vm.findClass RX3 = some m.cls := findClass_of_methodNamed B.named
  have hlocks := B.notSynchronized
  have hS : va_S (fun q : Nat => base ≤ q) s.heap s.heap [] := va_S.rf
  have hl := lv_entry ([.ref (L 0), .int p0]) (n := 3) (Nat.le_of_ble_eq_true rfl)
  rw [lg_entry_eq]
  generalize (lg_sl ([.ref (L 0), .int p0]) ++ List.replicate (3 - (lg_sl ([.ref (L 0), .int p0])).length) Slot.unset).toArray = ls at hl ⊢
  have hl : lv_has ls 3 [(0, .ref (L 0)), (1, .int p0)] := hl
  have iX0 : ∀ w ∈ wsX00, w ∈ wsX3_shows := by decide +kernel
  have iX1 : ∀ w ∈ wsX10, w ∈ wsX3_shows := by decide +kernel
  refine lv_aload_n hx hb dX3_shows_0 rfl (lv_at hl 0 rfl) ?_
  refine lv_iload_n hx hb dX3_shows_1 rfl (lv_at hl 1 rfl) ?_
  refine wx_xcallr (G := fun u => 8 + 3 * u) (vx_runV (As := [.int p0]) (rest := []) ⟨hx, hb, hml, hown, hts⟩ (k_boardAt l hst g base n L (by omega) x r0 nb hnb hx0 p0) (cwV 1 hts gX3_shows_X3_boardAt rfl rfl rfl (by decide +kernel) ⟨Nat.le_of_ble_eq_true rfl, Nat.le_of_ble_eq_true rfl⟩) (hPW.preV hP hS (ci := 5) rfl (by omega) cw_d) rfl rfl hl.1 rfl (lv_room (Nat.le_of_ble_eq_true rfl)) dX3_shows_2 ⟨Nat.le_of_ble_eq_true rfl, Nat.le_of_ble_eq_true rfl⟩) hS (fun E ce q9 H locs hpx hP hS h1 h2 h3 => ?_) (fun u2 H locs h2 hP hS => ?_)
  · exact wx_out hno hlocks h1 h2 h3 (hpx) hP hS (Nat.le_of_ble_eq_true rfl) (Nat.le_of_ble_eq_true rfl)
  obtain ⟨hu2, eu2⟩ := h2
  refine wx_getN (D := g.1) (cl := vwCl) (ci := 2) (v := va_rf (shw L (x 12 u2 0))) (C := RX0) (T := TX0) (N := 12) hx hb hts iX0 hown hK hP (8 + 3 * u2) (by omega) (cw_b (by omega)) rfl 2 (by decide) (hE.1 _ (ng_in (w := (Cond.fieldLinkNest "FerroDesk" 90 "FerroDesk$Board" "shown" "LFerroDesk$Notice;" "FerroDesk")) (by decide +kernel))) (fun _ h9 => h9) rfl dX3_shows_5 ?_
  rcases (hsh u2 (by omega)) with eS | ⟨kS, hkS, eS⟩
  · rw [show va_rf (shw L (x 12 u2 0)) = .null from by rw [eS, shw_m1]; rfl]
    refine lv_astore_nN (lv' := [(2, .null), (0, .ref (L 0)), (1, .int p0)]) hx hb dX3_shows_8 rfl hl (by decide) rfl (fun ls hl => ?_)
    refine lv_aload_nN hx hb dX3_shows_9 rfl (lv_at hl 0 rfl) ?_
    refine lv_ifnonnullN hx hb dX3_shows_10 ?_
    refine lv_iconst (v := (-1)) hx hb dX3_shows_13 (by decide) ?_
    refine lv_goto (tgt := 21) hx hb dX3_shows_14 (by decide) ?_
    refine W.widen (k := 1) (n := 6) (Nat.le_of_ble_eq_true rfl) (Nat.le_of_ble_eq_true rfl) ?_
    exact vx_ret (W.iret (v := (-1)) hx hb hr (fun t ht hW => ⟨⟨(-1), (), rfl, ⟨u2, hu2, eu2, eS.symm⟩, PB.mk9 hP ht⟩, hS.F ht⟩) hS.2.2 dX3_shows_21)
  · rw [show va_rf (shw L (x 12 u2 0)) = .ref (L (26 + 2 * kS)) from by rw [eS, shw_nI (k := kS) (by omega)]; rfl]
    refine lv_astore_n (lv' := [(2, .ref (L (26 + 2 * kS))), (0, .ref (L 0)), (1, .int p0)]) hx hb dX3_shows_8 rfl hl (by decide) rfl (fun ls hl => ?_)
    refine lv_aload_n hx hb dX3_shows_9 rfl (lv_at hl 0 rfl) ?_
    refine lv_ifnonnull (tgt := 17) hx hb dX3_shows_10 (by decide) ?_
    refine lv_aload_n hx hb dX3_shows_17 rfl (lv_at hl 0 rfl) ?_
    refine wx_getN (D := g.1) (cl := vwCl) (ci := 3) (v := .int (nI kS)) (C := RX1) (T := TX1) (N := 9) hx hb hts iX1 hown hK hP (26 + 2 * kS) (by omega) (cw_n (by omega)) rfl 0 (by decide) (hE.1 _ (ng_in (w := (Cond.fieldLinkNest "FerroDesk" 94 "FerroDesk$Notice" "number" "I" "FerroDesk")) (by decide +kernel))) (fun _ h9 => h9) rfl dX3_shows_18 ?_
    refine W.widen (k := 1) (n := 6) (Nat.le_of_ble_eq_true rfl) (Nat.le_of_ble_eq_true rfl) ?_
    exact vx_ret (W.iret (v := nI kS) hx hb hr (fun t ht hW => ⟨⟨nI kS, (), rfl, ⟨u2, hu2, eu2, eS.symm⟩, PB.mk9 hP ht⟩, hS.F ht⟩) hS.2.2 dX3_shows_21)

set_option maxHeartbeats 4000000 in
set_option maxRecDepth 100000 in
theorem k_pass (l : Launch) (hst : l.stackTraces = false) (g : gE) (base n : Nat) (L : Nat → Nat) (hn : 106 ≤ n) (x : St) (r0 : Nat → va_E) (nb : Nat) (hnb : nb ≤ 6) (hx0 : x 0 0 0 = nI nb) (hsh : ∀ b, b < 6 → x 12 b 0 = -1 ∨ ∃ k, k < 40 ∧ x 12 b 0 = nI k) (cnt : Nat) (hcn : cnt ≤ 512) (hx4 : x 4 0 0 = nI cnt) (p0 p1 : Int32) : vx_Met l yX3_pass wsX3_pass ({ frames := 8, cells := 2, slots := 12, locals := 180 }) (va_Pc [.ref (L 0), .int p0, .int p1] (PW SS g base n L (cw g L x r0))) (va_Qi (fun (r : Int32) (u : St) => ∃ j, j < nb ∧ p0 = nI j ∧ (1 ≤ p1.toInt ∧ p1.toInt ≤ 999) ∧ ((x 12 j 0 = -1 ∧ r = 0 ∧ u = x) ∨ (∃ k, k < 40 ∧ x 12 j 0 = nI k ∧ u = paF x k p0 p1 cnt ∧ r = u 37 k p0.toNatClampNeg))) (fun (u : St) t => PB g n L (cw g L u r0) t) (fun q => base ≤ q)) (QX g base n L (cw g L x r0) (fun E => (E = "java/lang/IndexOutOfBoundsException" ∧ (p0.toInt < 0 ∨ nb ≤ p0.toInt)) ∨ (E = "java/lang/IllegalArgumentException" ∧ (∃ j, j < nb ∧ p0 = nI j) ∧ ¬ (1 ≤ p1.toInt ∧ p1.toInt ≤ 999)))) 2 12 (fun q => base ≤ q) := by
  refine vx_ofW (cc := cX3_pass) (maxL := 4) (ret := (some .int)) (by decide) rfl ?_
  intro p e s m args below meth c s₁ B hml hno hv
  obtain ⟨rfl, hPW⟩ := hv
  obtain ⟨hbs, hJ, hP, hK, hE⟩ := id hPW
  have hx := B.exec
  have hb := B.bytes
  have hr := B.returns
  have hts := atoms_spec (ws := wsX3_pass) B.pre
  have hown : s.vm.findClass RX3 = some m.cls := findClass_of_methodNamed B.named
  have hlocks := B.notSynchronized
  have hS : va_S (fun q : Nat => base ≤ q) s.heap s.heap [] := va_S.rf
  have hl := lv_entry ([.ref (L 0), .int p0, .int p1]) (n := 4) (Nat.le_of_ble_eq_true rfl)
  rw [lg_entry_eq]
  generalize (lg_sl ([.ref (L 0), .int p0, .int p1]) ++ List.replicate (4 - (lg_sl ([.ref (L 0), .int p0, .int p1])).length) Slot.unset).toArray = ls at hl ⊢
  have hl : lv_has ls 4 [(0, .ref (L 0)), (1, .int p0), (2, .int p1)] := hl
  have iX0 : ∀ w ∈ wsX00, w ∈ wsX3_pass := by decide +kernel
  have iX1 : ∀ w ∈ wsX10, w ∈ wsX3_pass := by decide +kernel
  have iX3 : ∀ w ∈ wsX30, w ∈ wsX3_pass := by decide +kernel
  refine lv_aload_n hx hb dX3_pass_0 rfl (lv_at hl 0 rfl) ?_
  refine lv_iload_n hx hb dX3_pass_1 rfl (lv_at hl 1 rfl) ?_
  refine wx_xcallr (G := fun u => 8 + 3 * u) (vx_runV (As := [.int p0]) (rest := []) ⟨hx, hb, hml, hown, hts⟩ (k_boardAt l hst g base n L (by omega) x r0 nb hnb hx0 p0) (cwV 1 hts gX3_pass_X3_boardAt rfl rfl rfl (by decide +kernel) ⟨Nat.le_of_ble_eq_true rfl, Nat.le_of_ble_eq_true rfl⟩) (hPW.preV hP hS (ci := 5) rfl (by omega) cw_d) rfl rfl hl.1 rfl (lv_room (Nat.le_of_ble_eq_true rfl)) dX3_pass_2 ⟨Nat.le_of_ble_eq_true rfl, Nat.le_of_ble_eq_true rfl⟩) hS (fun E ce q9 H locs hpx hP hS h1 h2 h3 => ?_) (fun u2 H locs h2 hP hS => ?_)
  · exact wx_out hno hlocks h1 h2 h3 (Or.inl hpx) hP hS (Nat.le_of_ble_eq_true rfl) (Nat.le_of_ble_eq_true rfl)
  obtain ⟨hu2, eu2⟩ := h2
  refine wx_getN (D := g.1) (cl := vwCl) (ci := 2) (v := va_rf (shw L (x 12 u2 0))) (C := RX0) (T := TX0) (N := 12) hx hb hts iX0 hown hK hP (8 + 3 * u2) (by omega) (cw_b (by omega)) rfl 2 (by decide) (hE.1 _ (ng_in (w := (Cond.fieldLinkNest "FerroDesk" 90 "FerroDesk$Board" "shown" "LFerroDesk$Notice;" "FerroDesk")) (by decide +kernel))) (fun _ h9 => h9) rfl dX3_pass_5 ?_
  rcases (hsh u2 (by omega)) with eS | ⟨kS, hkS, eS⟩
  · rw [show va_rf (shw L (x 12 u2 0)) = .null from by rw [eS, shw_m1]; rfl]
    refine lv_astore_nN (lv' := [(3, .null), (0, .ref (L 0)), (1, .int p0), (2, .int p1)]) hx hb dX3_pass_8 rfl hl (by decide) rfl (fun ls hl => ?_)
    refine lv_iload_n hx hb dX3_pass_9 rfl (lv_at hl 3 rfl) ?_
    refine lv_iconst (v := 1) hx hb dX3_pass_10 (by decide) ?_
    refine lv_icmp_lt (tgt := 21) hx hb dX3_pass_11 (by decide) (fun c11 => ?_) (fun c11 => ?_)
    · exact wx_throwS (ik := 51) (is := 188) (ic := 55) (own := RX3) (cls := "java/lang/IllegalArgumentException") (text := "the people are not 1 to 999") (names := ["java/lang/RuntimeException", "java/lang/Exception"]) hx hb hst hPW hown (by decide +kernel) (by decide +kernel) (hts (.classLink RX3 51 "java/lang/IllegalArgumentException") (by decide +kernel)) (hts (.initialized "java/lang/IllegalArgumentException") (by decide +kernel)) (by decide +kernel) (fun w hw => hts w (List.mem_cons_of_mem _ (List.mem_append_left _ (List.mem_append_left _ (List.mem_append_right _ hw))))) (by decide +kernel) (by decide +kernel) hP hS (hl.1.trans hml.symm) dX3_pass_21 dX3_pass_24 dX3_pass_25 dX3_pass_27 dX3_pass_30 hno (Nat.lt_of_lt_of_le (Nat.lt_succ_self _) (Nat.le_of_ble_eq_true rfl)) (Nat.le_of_ble_eq_true rfl) (Nat.le_of_ble_eq_true rfl) (Nat.le_of_ble_eq_true rfl) hlocks (Or.inr ⟨rfl, ⟨u2, hu2, eu2⟩, (by revert hu2 c11; (try simp only [Int32.lt_iff_toInt_lt, Int32.le_iff_toInt_le, ← Int32.toInt_inj, i_0, i_1, i_2, i_3, i_4, i_6, i_9, i_20, i_32, i_40, i_48, i_60, i_200, i_999, i_2000, i_m1, i_8]); omega)⟩) (Nat.le_of_ble_eq_true rfl) (Nat.le_of_ble_eq_true rfl)
    · refine lv_iload_n hx hb dX3_pass_14 rfl (lv_at hl 3 rfl) ?_
      refine lv_sipush (v := 999) hx hb dX3_pass_15 (by decide) ?_
      refine lv_icmp_le (tgt := 31) hx hb dX3_pass_18 (by decide) (fun c18 => ?_) (fun c18 => ?_)
      · refine lv_aload_nN hx hb dX3_pass_31 rfl (lv_at hl 0 rfl) ?_
        refine lv_ifnonnullN hx hb dX3_pass_32 ?_
        refine lv_iconst (v := 0) hx hb dX3_pass_35 (by decide) ?_
        refine W.widen (k := 2) (n := 12) (Nat.le_of_ble_eq_true rfl) (Nat.le_of_ble_eq_true rfl) ?_
        exact vx_ret (W.iret (v := 0) hx hb hr (fun t ht hW => ⟨⟨0, x, rfl, ⟨u2, hu2, eu2, (by revert hu2 c11 c18; (try simp only [Int32.lt_iff_toInt_lt, Int32.le_iff_toInt_le, ← Int32.toInt_inj, i_0, i_1, i_2, i_3, i_4, i_6, i_9, i_20, i_32, i_40, i_48, i_60, i_200, i_999, i_2000, i_m1, i_8]); omega), Or.inl ⟨eS, rfl, rfl⟩⟩, PB.mk9 hP ht⟩, hS.F ht⟩) hS.2.2 dX3_pass_36)
      · exact wx_throwS (ik := 51) (is := 188) (ic := 55) (own := RX3) (cls := "java/lang/IllegalArgumentException") (text := "the people are not 1 to 999") (names := ["java/lang/RuntimeException", "java/lang/Exception"]) hx hb hst hPW hown (by decide +kernel) (by decide +kernel) (hts (.classLink RX3 51 "java/lang/IllegalArgumentException") (by decide +kernel)) (hts (.initialized "java/lang/IllegalArgumentException") (by decide +kernel)) (by decide +kernel) (fun w hw => hts w (List.mem_cons_of_mem _ (List.mem_append_left _ (List.mem_append_left _ (List.mem_append_right _ hw))))) (by decide +kernel) (by decide +kernel) hP hS (hl.1.trans hml.symm) dX3_pass_21 dX3_pass_24 dX3_pass_25 dX3_pass_27 dX3_pass_30 hno (Nat.lt_of_lt_of_le (Nat.lt_succ_self _) (Nat.le_of_ble_eq_true rfl)) (Nat.le_of_ble_eq_true rfl) (Nat.le_of_ble_eq_true rfl) (Nat.le_of_ble_eq_true rfl) hlocks (Or.inr ⟨rfl, ⟨u2, hu2, eu2⟩, (by revert hu2 c11 c18; (try simp only [Int32.lt_iff_toInt_lt, Int32.le_iff_toInt_le, ← Int32.toInt_inj, i_0, i_1, i_2, i_3, i_4, i_6, i_9, i_20, i_32, i_40, i_48, i_60, i_200, i_999, i_2000, i_m1, i_8]); omega)⟩) (Nat.le_of_ble_eq_true rfl) (Nat.le_of_ble_eq_true rfl)
  · rw [show va_rf (shw L (x 12 u2 0)) = .ref (L (26 + 2 * kS)) from by rw [eS, shw_nI (k := kS) (by omega)]; rfl]
    refine lv_astore_n (lv' := [(3, .ref (L (26 + 2 * kS))), (0, .ref (L 0)), (1, .int p0), (2, .int p1)]) hx hb dX3_pass_8 rfl hl (by decide) rfl (fun ls hl => ?_)
    refine lv_iload_n hx hb dX3_pass_9 rfl (lv_at hl 3 rfl) ?_
    refine lv_iconst (v := 1) hx hb dX3_pass_10 (by decide) ?_
    refine lv_icmp_lt (tgt := 21) hx hb dX3_pass_11 (by decide) (fun c11 => ?_) (fun c11 => ?_)
    · exact wx_throwS (ik := 51) (is := 188) (ic := 55) (own := RX3) (cls := "java/lang/IllegalArgumentException") (text := "the people are not 1 to 999") (names := ["java/lang/RuntimeException", "java/lang/Exception"]) hx hb hst hPW hown (by decide +kernel) (by decide +kernel) (hts (.classLink RX3 51 "java/lang/IllegalArgumentException") (by decide +kernel)) (hts (.initialized "java/lang/IllegalArgumentException") (by decide +kernel)) (by decide +kernel) (fun w hw => hts w (List.mem_cons_of_mem _ (List.mem_append_left _ (List.mem_append_left _ (List.mem_append_right _ hw))))) (by decide +kernel) (by decide +kernel) hP hS (hl.1.trans hml.symm) dX3_pass_21 dX3_pass_24 dX3_pass_25 dX3_pass_27 dX3_pass_30 hno (Nat.lt_of_lt_of_le (Nat.lt_succ_self _) (Nat.le_of_ble_eq_true rfl)) (Nat.le_of_ble_eq_true rfl) (Nat.le_of_ble_eq_true rfl) (Nat.le_of_ble_eq_true rfl) hlocks (Or.inr ⟨rfl, ⟨u2, hu2, eu2⟩, (by revert hu2 c11; (try simp only [Int32.lt_iff_toInt_lt, Int32.le_iff_toInt_le, ← Int32.toInt_inj, i_0, i_1, i_2, i_3, i_4, i_6, i_9, i_20, i_32, i_40, i_48, i_60, i_200, i_999, i_2000, i_m1, i_8]); omega)⟩) (Nat.le_of_ble_eq_true rfl) (Nat.le_of_ble_eq_true rfl)
    · refine lv_iload_n hx hb dX3_pass_14 rfl (lv_at hl 3 rfl) ?_
      refine lv_sipush (v := 999) hx hb dX3_pass_15 (by decide) ?_
      refine lv_icmp_le (tgt := 31) hx hb dX3_pass_18 (by decide) (fun c18 => ?_) (fun c18 => ?_)
      · refine lv_aload_n hx hb dX3_pass_31 rfl (lv_at hl 0 rfl) ?_
        refine lv_ifnonnull (tgt := 37) hx hb dX3_pass_32 (by decide) ?_
        refine lv_aload_n hx hb dX3_pass_37 rfl (lv_at hl 0 rfl) ?_
        refine wx_getN (D := g.1) (cl := vwCl) (ci := 3) (v := .ref (L (27 + 2 * kS))) (C := RX1) (T := TX1) (N := 9) hx hb hts iX1 hown hK hP (26 + 2 * kS) (by omega) (cw_n (by omega)) rfl 1 (by decide) (hE.1 _ (ng_in (w := (Cond.fieldLinkNest "FerroDesk" 190 "FerroDesk$Notice" "readersAt" "[I" "FerroDesk")) (by decide +kernel))) (fun _ h9 => h9) rfl dX3_pass_38 ?_
        refine lv_iload_n hx hb dX3_pass_41 rfl (lv_at hl 2 rfl) ?_
        refine lv_dup2_11 hx hb dX3_pass_42 rfl rfl ?_
        refine wx_ialdv (D := g.1) (cl := vwCl) (f := fun j => x 37 kS j) (v := x 37 kS p0.toNatClampNeg) hx hb hK hP (27 + 2 * kS) 0 (by omega) (cw_nr (by omega)) rfl (i := p0) (by rw [eu2]; exact vp_in_nI (by omega) (by decide)) (rfl) dX3_pass_43 ?_
        refine lv_iload_n hx hb dX3_pass_44 rfl (lv_at hl 3 rfl) ?_
        refine lv_iadd hx hb dX3_pass_45 ?_
        refine wx_iast (D := g.1) (cl := vwCl) (f := fun j => x 37 kS j) (w' := cw g L (st x 37 kS p0.toNatClampNeg ((x 37 kS p0.toNatClampNeg) + p1)) r0) hx hb hK hP hJ hS (27 + 2 * kS) 0 (by omega) (cw_nr (by omega)) rfl (i := p0) (by rw [eu2]; exact vp_in_nI (by omega) (by decide)) dX3_pass_46 (cw_str (by omega)) (fun H locs hP hS => ?_)
        refine lv_aload_n hx hb dX3_pass_47 rfl (lv_at hl 1 rfl) ?_
        refine wx_get (D := g.1) (cl := vwCl) (ci := 5) (v := .ref (L 4)) (C := RX3) (T := TX3) (N := 8) hx hb hts iX3 hown hK hP (0) (by omega) cw_d rfl 5 (by decide) (hts (.fieldLink RX3 34 "FerroDesk" "readings" "LFerroDesk$Readings;") (by decide +kernel)) (fun _ h9 => h9) rfl dX3_pass_48 ?_
        refine lv_aload_n hx hb dX3_pass_51 rfl (lv_at hl 0 rfl) ?_
        refine wx_getN (D := g.1) (cl := vwCl) (ci := 3) (v := .int (nI kS)) (C := RX1) (T := TX1) (N := 9) hx hb hts iX1 hown hK hP (26 + 2 * kS) (by omega) (cw_n (by omega)) rfl 0 (by decide) (hE.1 _ (ng_in (w := (Cond.fieldLinkNest "FerroDesk" 94 "FerroDesk$Notice" "number" "I" "FerroDesk")) (by decide +kernel))) (fun _ h9 => h9) rfl dX3_pass_52 ?_
        refine lv_aload_n hx hb dX3_pass_55 rfl (lv_at hl 1 rfl) ?_
        refine wx_get (D := g.1) (cl := vwCl) (ci := 5) (v := .int ((st x 37 kS p0.toNatClampNeg ((x 37 kS p0.toNatClampNeg) + p1)) 3 0 0)) (C := RX3) (T := TX3) (N := 8) hx hb hts iX3 hown hK hP (0) (by omega) cw_d rfl 7 (by decide) (hts (.fieldLink RX3 41 "FerroDesk" "hour" "I") (by decide +kernel)) (fun _ h9 => h9) rfl dX3_pass_56 ?_
        refine lv_iload_n hx hb dX3_pass_59 rfl (lv_at hl 3 rfl) ?_
        refine wx_callv (va_runV (As := [.int (nI kS), .int ((st x 37 kS p0.toNatClampNeg ((x 37 kS p0.toNatClampNeg) + p1)) 3 0 0), .int p1]) (rest := []) ⟨hx, hb, hml, hown, hts⟩ (k_write l hst g base n L (by omega) (st x 37 kS p0.toNatClampNeg ((x 37 kS p0.toNatClampNeg) + p1)) r0 cnt hcn ((st_nr (by omega)).trans hx4) (nI kS) ((st x 37 kS p0.toNatClampNeg ((x 37 kS p0.toNatClampNeg) + p1)) 3 0 0) p1) (cwV 3 hts gX3_pass_X2_write rfl rfl rfl (by decide +kernel) ⟨Nat.le_of_ble_eq_true rfl, Nat.le_of_ble_eq_true rfl⟩) (hPW.preV hP hS (ci := 4) rfl (by omega) cw_r) rfl rfl hl.1 rfl (lv_room (Nat.le_of_ble_eq_true rfl)) dX3_pass_60 ⟨Nat.le_of_ble_eq_true rfl, Nat.le_of_ble_eq_true rfl⟩) hS (fun u60 H locs h60 hP hS => ?_)
        obtain rfl := h60
        refine lv_aload_n hx hb dX3_pass_63 rfl (lv_at hl 0 rfl) ?_
        refine wx_getN (D := g.1) (cl := vwCl) (ci := 3) (v := .ref (L (27 + 2 * kS))) (C := RX1) (T := TX1) (N := 9) hx hb hts iX1 hown hK hP (26 + 2 * kS) (by omega) (cw_n (by omega)) rfl 1 (by decide) (hE.1 _ (ng_in (w := (Cond.fieldLinkNest "FerroDesk" 190 "FerroDesk$Notice" "readersAt" "[I" "FerroDesk")) (by decide +kernel))) (fun _ h9 => h9) rfl dX3_pass_64 ?_
        refine lv_iload_n hx hb dX3_pass_67 rfl (lv_at hl 2 rfl) ?_
        refine wx_ialdv (D := g.1) (cl := vwCl) (f := fun j => (wrF (st x 37 kS p0.toNatClampNeg ((x 37 kS p0.toNatClampNeg) + p1)) (nI kS) ((st x 37 kS p0.toNatClampNeg ((x 37 kS p0.toNatClampNeg) + p1)) 3 0 0) p1 cnt) 37 kS j) (v := (wrF (st x 37 kS p0.toNatClampNeg ((x 37 kS p0.toNatClampNeg) + p1)) (nI kS) ((st x 37 kS p0.toNatClampNeg ((x 37 kS p0.toNatClampNeg) + p1)) 3 0 0) p1 cnt) 37 kS p0.toNatClampNeg) hx hb hK hP (27 + 2 * kS) 0 (by omega) (cw_nr (by omega)) rfl (i := p0) (by rw [eu2]; exact vp_in_nI (by omega) (by decide)) (rfl) dX3_pass_68 ?_
        refine W.widen (k := 2) (n := 12) (Nat.le_of_ble_eq_true rfl) (Nat.le_of_ble_eq_true rfl) ?_
        exact vx_ret (W.iret (v := (wrF (st x 37 kS p0.toNatClampNeg ((x 37 kS p0.toNatClampNeg) + p1)) (nI kS) ((st x 37 kS p0.toNatClampNeg ((x 37 kS p0.toNatClampNeg) + p1)) 3 0 0) p1 cnt) 37 kS p0.toNatClampNeg) hx hb hr (fun t ht hW => ⟨⟨(wrF (st x 37 kS p0.toNatClampNeg ((x 37 kS p0.toNatClampNeg) + p1)) (nI kS) ((st x 37 kS p0.toNatClampNeg ((x 37 kS p0.toNatClampNeg) + p1)) 3 0 0) p1 cnt) 37 kS p0.toNatClampNeg, (wrF (st x 37 kS p0.toNatClampNeg ((x 37 kS p0.toNatClampNeg) + p1)) (nI kS) ((st x 37 kS p0.toNatClampNeg ((x 37 kS p0.toNatClampNeg) + p1)) 3 0 0) p1 cnt), rfl, ⟨u2, hu2, eu2, (by revert hu2 c11 c18; (try simp only [Int32.lt_iff_toInt_lt, Int32.le_iff_toInt_le, ← Int32.toInt_inj, i_0, i_1, i_2, i_3, i_4, i_6, i_9, i_20, i_32, i_40, i_48, i_60, i_200, i_999, i_2000, i_m1, i_8]); omega), Or.inr ⟨kS, hkS, eS, rfl, rfl⟩⟩, PB.mk9 hP ht⟩, hS.F ht⟩) hS.2.2 dX3_pass_69)
      · exact wx_throwS (ik := 51) (is := 188) (ic := 55) (own := RX3) (cls := "java/lang/IllegalArgumentException") (text := "the people are not 1 to 999") (names := ["java/lang/RuntimeException", "java/lang/Exception"]) hx hb hst hPW hown (by decide +kernel) (by decide +kernel) (hts (.classLink RX3 51 "java/lang/IllegalArgumentException") (by decide +kernel)) (hts (.initialized "java/lang/IllegalArgumentException") (by decide +kernel)) (by decide +kernel) (fun w hw => hts w (List.mem_cons_of_mem _ (List.mem_append_left _ (List.mem_append_left _ (List.mem_append_right _ hw))))) (by decide +kernel) (by decide +kernel) hP hS (hl.1.trans hml.symm) dX3_pass_21 dX3_pass_24 dX3_pass_25 dX3_pass_27 dX3_pass_30 hno (Nat.lt_of_lt_of_le (Nat.lt_succ_self _) (Nat.le_of_ble_eq_true rfl)) (Nat.le_of_ble_eq_true rfl) (Nat.le_of_ble_eq_true rfl) (Nat.le_of_ble_eq_true rfl) hlocks (Or.inr ⟨rfl, ⟨u2, hu2, eu2⟩, (by revert hu2 c11 c18; (try simp only [Int32.lt_iff_toInt_lt, Int32.le_iff_toInt_le, ← Int32.toInt_inj, i_0, i_1, i_2, i_3, i_4, i_6, i_9, i_20, i_32, i_40, i_48, i_60, i_200, i_999, i_2000, i_m1, i_8]); omega)⟩) (Nat.le_of_ble_eq_true rfl) (Nat.le_of_ble_eq_true rfl)

