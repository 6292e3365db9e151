/-! laid by wip/gen -/
set_option maxHeartbeats 4000000 in
set_option maxRecDepth 100000 in
theorem k_areSuspects (l : Launch) (hst : l.stackTraces = false) (g : gE) (base n : Nat) (L : Nat → Nat) (hn : 108 ≤ n) (x : St) (r0 : Nat → va_E) (sb sN : Nat) (hsN : sN ≤ 1000) (sx : Nat → Int32) (p0 : Int32) (hp : 0 ≤ p0.toInt) (hp2 : p0.toInt ≤ 900) (P : Nat → Int32) (h107 : r0 107 = .inl (g.2 0, 40, .inl P)) (hx0 : x 0 0 0 = nI 4) (nn : Nat) (hnn : nn ≤ 40) (hx1 : x 1 0 0 = nI nn) (hPP : ∀ k, k < nn → P k = x 31 k 0) (hSR : SR x nn) : Met l yL_areSuspects wsL_areSuspects ({ frames := 16, cells := 600, slots := 3600, locals := 480 }) (va_Pc [.ref (L 0), .ref sb, .int p0, .ref (L 107)] (PWs SS g base n L (cw g L x r0) sb sN sx)) (va_Qi (fun (r : Int32) (_ : Unit) => r = 1) (fun (u : Unit) t => PB g n L (cw g L x r0) t) (fun q => base ≤ q)) 600 3600 (fun q => base ≤ q) := by
  refine Met.ofW (cc := cL_areSuspects) (maxL := 11) (ret := (some .boolean)) (by decide) rfl ?_
  intro p e s m args below meth c s₁ B hml hv
  obtain ⟨rfl, hPWs⟩ := hv
  have hPW := hPWs.1
  obtain ⟨hbs, hJ, hP, hK, hE⟩ := id hPW
  have hx := B.exec
  have hb := B.bytes
  have hr := B.returns
  have hts := atoms_spec (ws := wsL_areSuspects) B.pre
  have hown : s.vm.findClass RL = some m.cls := findClass_of_methodNamed B.named
  have hlocks := B.notSynchronized
  have hX := hPWs.2.1
  have hbl : sb < s.heap.size := Nat.lt_of_lt_of_le hPWs.2.2 hbs
  have hbA : ¬ (fun q : Nat => base ≤ q) sb := Nat.not_le.mpr hPWs.2.2
  have hS : va_S (fun q : Nat => base ≤ q) s.heap s.heap [] := va_S.rf
  have hl := lv_entry ([.ref (L 0), .ref sb, .int p0, .ref (L 107)]) (n := 11) (Nat.le_of_ble_eq_true rfl)
  rw [lg_entry_eq]
  generalize (lg_sl ([.ref (L 0), .ref sb, .int p0, .ref (L 107)]) ++ List.replicate (11 - (lg_sl ([.ref (L 0), .ref sb, .int p0, .ref (L 107)])).length) Slot.unset).toArray = ls at hl ⊢
  have hl : lv_has ls 11 [(0, .ref (L 0)), (1, .ref sb), (2, .int p0), (3, .ref (L 107))] := hl
  refine lv_aload_n hx hb dL_areSuspects_0 rfl (lv_at hl 1 rfl) ?_
  refine lv_iload_n hx hb dL_areSuspects_1 rfl (lv_at hl 2 rfl) ?_
  refine wx_calli (va_runS (As := [.ref sb, .int p0]) (rest := []) ⟨hx, hb, hml, hown, hts⟩ (k_word l hst g base n L (cw g L x r0) sb sN hsN sx p0 (hp) (by omega)) (va_cwS 2 hts gL_areSuspects_L_word rfl rfl rfl (by decide +kernel) ⟨Nat.le_of_ble_eq_true rfl, Nat.le_of_ble_eq_true rfl⟩) (hPWs.preS hP hS) rfl rfl hl.1 rfl (lv_room (Nat.le_of_ble_eq_true rfl)) dL_areSuspects_2 ⟨(by show _ ≤ 600; omega), (by show _ ≤ 3600; omega)⟩) hS (fun r2 u2 H locs h2 hP hS => ?_)
  refine lv_istore (lv' := [(4, .int r2), (0, .ref (L 0)), (1, .ref sb), (2, .int p0), (3, .ref (L 107))]) hx hb dL_areSuspects_5 hl (by decide) rfl (fun ls hl => ?_)
  refine lv_aload_n hx hb dL_areSuspects_7 rfl (lv_at hl 2 rfl) ?_
  refine lv_iload_n hx hb dL_areSuspects_8 rfl (lv_at hl 3 rfl) ?_
  refine lv_iconst (v := 4) hx hb dL_areSuspects_9 (by decide) ?_
  refine lv_iadd hx hb dL_areSuspects_10 ?_
  refine lv_iconst (v := 4) hx hb dL_areSuspects_11 (by decide) ?_
  refine wx_calli (va_runS (As := [.ref sb, .int (p0 + 4), .int 4]) (rest := []) ⟨hx, hb, hml, hown, hts⟩ (k_pick l hst g base n L (cw g L x r0) sb sN hsN sx (p0 + 4) 4 ((add_q (p := p0) (n := 4) rfl hp (by omega) (by decide)).1) (by decide)) (va_cwS 3 hts gL_areSuspects_L_pick rfl rfl rfl (by decide +kernel) ⟨Nat.le_of_ble_eq_true rfl, Nat.le_of_ble_eq_true rfl⟩) (hPWs.preS hP hS) rfl rfl hl.1 rfl (lv_room (Nat.le_of_ble_eq_true rfl)) dL_areSuspects_12 ⟨(by show _ ≤ 600; omega), (by show _ ≤ 3600; omega)⟩) hS (fun r12 u12 H locs h12 hP hS => ?_)
  obtain ⟨d9, hd9, e9⟩ := pk_nat (n := 4) h12 (by decide) (by decide)
  subst e9
  refine lv_istore (lv' := [(5, .int (nI d9)), (4, .int r2), (0, .ref (L 0)), (1, .ref sb), (2, .int p0), (3, .ref (L 107))]) hx hb dL_areSuspects_15 hl (by decide) rfl (fun ls hl => ?_)
  refine lv_iconst (v := 0) hx hb dL_areSuspects_17 (by decide) ?_
  refine lv_istore (lv' := [(6, .int 0), (5, .int (nI d9)), (4, .int r2), (0, .ref (L 0)), (1, .ref sb), (2, .int p0), (3, .ref (L 107))]) hx hb dL_areSuspects_18 hl (by decide) rfl (fun ls hl => ?_)
  refine lv_ldc (v := 1000000) hx hb hown (hts (.constant RL 175 1000000) (by decide +kernel)) dL_areSuspects_20 ?_
  refine lv_istore (lv' := [(7, .int 1000000), (6, .int 0), (5, .int (nI d9)), (4, .int r2), (0, .ref (L 0)), (1, .ref sb), (2, .int p0), (3, .ref (L 107))]) hx hb dL_areSuspects_22 hl (by decide) rfl (fun ls hl => ?_)
  refine lv_iconst (v := 0) hx hb dL_areSuspects_24 (by decide) ?_
  refine lv_istore (lv' := [(8, .int 0), (7, .int 1000000), (6, .int 0), (5, .int (nI d9)), (4, .int r2), (0, .ref (L 0)), (1, .ref sb), (2, .int p0), (3, .ref (L 107))]) hx hb dL_areSuspects_25 hl (by decide) rfl (fun ls hl => ?_)
  have key27 : ∀ (di9 i9 : Nat) (y8i9 : Int32) (y6i9 : Int32) (H : Heap) (locs : List Loc) (ls : Array Slot), i9 + di9 = nn → (y8i9 = nI i9) → (y6i9 = scF x r2 (nI d9) 4 i9) → va_P g.1 vwCl (wl n L (cw g L x r0)) H → va_S (fun q : Nat => base ≤ q) s.heap H locs → lv_has ls 11 [(8, .int y8i9), (6, .int y6i9), (0, .ref (L 0)), (1, .ref sb), (2, .int p0), (3, .ref (L 107)), (4, .int r2), (5, .int (nI d9)), (7, .int 1000000)] → W p l e (headSpec wsL_areSuspects ({ frames := 16, cells := 600, slots := 3600, locals := 480 })).room s m ([.ref (L 0), .ref sb, .int p0, .ref (L 107)] : List Value).toArray below meth c H locs (0 + 0 + 0 + 4 * i9) (0 + 0 + 0 + 24 * i9) (MQ below (va_Qi (fun (r : Int32) (_ : Unit) => r = 1) (fun (u : Unit) t => PB g n L (cw g L x r0) t) (fun q => base ≤ q)) ([.ref (L 0), .ref sb, .int p0, .ref (L 107)] : List Value).toArray s 600 3600 (fun q => base ≤ q)) (F0 m 27 ls []) := by
    intro di9
    induction di9 with
    | zero =>
      intro i9 y8i9 y6i9 H locs ls hkdi9 ey8i9 ey6i9 hP hS hl
      obtain rfl : nn = i9 := by omega
      subst ey8i9 ey6i9
      refine lv_iload hx hb dL_areSuspects_27 (lv_at hl 0 rfl) ?_
      refine lv_aload_n hx hb dL_areSuspects_29 rfl (lv_at hl 2 rfl) ?_
      refine wx_calli (va_runV (As := []) (rest := [.int (nI nn)]) ⟨hx, hb, hml, hown, hts⟩ (k_notices l hst g base n L (by omega) x r0) (cwV 0 hts gL_areSuspects_X3_notices rfl rfl rfl (by decide +kernel) ⟨Nat.le_of_ble_eq_true rfl, Nat.le_of_ble_eq_true rfl⟩) (hPW.preV hP hS (ci := 5) rfl (by omega) cw_d) rfl rfl hl.1 rfl (lv_room (Nat.le_of_ble_eq_true rfl)) dL_areSuspects_30 ⟨(by show _ ≤ 600; omega), (by show _ ≤ 3600; omega)⟩) hS (fun r30 u30 H locs h30 hP hS => ?_)
      obtain rfl := h30
      refine lv_icmp_ge (tgt := 123) hx hb dL_areSuspects_33 (by decide) (fun c33 => ?_) (fun c33 => absurd (by rw [hx1]; exact nI_le (Nat.le_refl _) (by omega)) c33)
      obtain ⟨M, v, pl, hM, eM, hQ, hQM, hv1, hv2⟩ := hSR r2 d9 h2 hd9
      rw [eM] at hl
      refine lv_aload_n hx hb dL_areSuspects_123 rfl (lv_at hl 2 rfl) ?_
      refine lv_bipush (v := 19) hx hb dL_areSuspects_124 (by decide) ?_
      refine lv_iload hx hb dL_areSuspects_126 (lv_at hl 6 rfl) ?_
      refine lv_iload hx hb dL_areSuspects_128 (lv_at hl 7 rfl) ?_
      refine wx_calli (va_runS (As := [.ref (L 0), .int 19, .int r2, .int (nI d9)]) (rest := []) ⟨hx, hb, hml, hown, hts⟩ (at_19 l hst g base n L (by omega) x r0 4 (by omega) hx0 nn hnn hx1 r2 (nI d9)) (va_cwS 4 hts gL_areSuspects_L_ask2 rfl rfl rfl (by decide +kernel) ⟨Nat.le_of_ble_eq_true rfl, Nat.le_of_ble_eq_true rfl⟩) (hPW.preS hP hS) rfl rfl hl.1 rfl (lv_room (Nat.le_of_ble_eq_true rfl)) dL_areSuspects_130 ⟨(by show _ ≤ 600; omega), (by show _ ≤ 3600; omega)⟩) hS (fun r130 u130 H locs h130 hP hS => ?_)
      obtain rfl := (od19 (by omega) h2 h130).trans eM
      refine lv_iload hx hb dL_areSuspects_133 (lv_at hl 1 rfl) ?_
      refine lv_icmp_ne (tgt := 161) hx hb dL_areSuspects_135 (by decide) (fun c135 => absurd c135 (fun h => h rfl)) (fun c135 => ?_)
      refine lv_aload_n hx hb dL_areSuspects_138 rfl (lv_at hl 2 rfl) ?_
      refine lv_bipush (v := 20) hx hb dL_areSuspects_139 (by decide) ?_
      refine lv_iload hx hb dL_areSuspects_141 (lv_at hl 6 rfl) ?_
      refine lv_iload hx hb dL_areSuspects_143 (lv_at hl 7 rfl) ?_
      refine lv_iload hx hb dL_areSuspects_145 (lv_at hl 1 rfl) ?_
      refine lv_iconst (v := 0) hx hb dL_areSuspects_147 (by decide) ?_
      refine wx_calli (vx_runSW (As := [.ref (L 0), .int 20, .int r2, .int (nI d9), .int (nI M), .int 0]) (rest := []) ⟨hx, hb, hml, hown, hts⟩ (dd_20 l hst g base n L (by omega) x r0 4 (by omega) hx0 nn hnn hx1 r2 (nI d9) (nI M) 0) (vx_cwSW 6 hts gL_areSuspects_L_deed rfl rfl rfl (by decide +kernel) ⟨Nat.le_of_ble_eq_true rfl, Nat.le_of_ble_eq_true rfl⟩) (hPW.preS hP hS) rfl rfl hl.1 rfl (lv_room (Nat.le_of_ble_eq_true rfl)) dL_areSuspects_148 ⟨(by show _ ≤ 600; omega), (by show _ ≤ 3600; omega)⟩) hS (fun r148 u148 H locs h148 hP hS => ?_)
      obtain rfl := hQM _ h148
      refine lv_sipush (v := (-2001)) hx hb dL_areSuspects_151 (by decide) ?_
      refine lv_icmp_ne (tgt := 161) hx hb dL_areSuspects_154 (by decide) (fun c154 => absurd c154 (fun h => h rfl)) (fun c154 => ?_)
      refine lv_iconst (v := 1) hx hb dL_areSuspects_157 (by decide) ?_
      refine lv_goto (tgt := 162) hx hb dL_areSuspects_158 (by decide) ?_
      refine lv_istore (lv' := [(8, .int 1), (6, .int (nI M)), (0, .ref (L 0)), (1, .ref sb), (2, .int p0), (3, .ref (L 107)), (4, .int r2), (5, .int (nI d9)), (7, .int 1000000)]) hx hb dL_areSuspects_162 hl (by decide) rfl (fun ls hl => ?_)
      refine lv_iconst (v := 0) hx hb dL_areSuspects_164 (by decide) ?_
      refine lv_istore (lv' := [(9, .int 0), (8, .int 1), (6, .int (nI M)), (0, .ref (L 0)), (1, .ref sb), (2, .int p0), (3, .ref (L 107)), (4, .int r2), (5, .int (nI d9)), (7, .int 1000000)]) hx hb dL_areSuspects_165 hl (by decide) rfl (fun ls hl => ?_)
      have key167 : ∀ (d k : Nat) (y9 : Int32) (y7 : Int32) (y8 : Int32) (H : Heap) (locs : List Loc) (ls : Array Slot), k + d = M → (y9 = nI k) → (y7 = bfF v k) → (y8 = 1) → va_P g.1 vwCl (wl n L (cw g L x r0)) H → va_S (fun q : Nat => base ≤ q) s.heap H locs → lv_has ls 11 [(9, .int y9), (7, .int y7), (8, .int y8), (0, .ref (L 0)), (1, .ref sb), (2, .int p0), (3, .ref (L 107)), (4, .int r2), (5, .int (nI d9)), (6, .int (nI M))] → W p l e (headSpec wsL_areSuspects ({ frames := 16, cells := 600, slots := 3600, locals := 480 })).room s m ([.ref (L 0), .ref sb, .int p0, .ref (L 107)] : List Value).toArray below meth c H locs (0 + 0 + 0 + 4 * nn + 0 + 4 + 4 + 8 * k) (0 + 0 + 0 + 24 * nn + 0 + 24 + 24 + 48 * k) (MQ below (va_Qi (fun (r : Int32) (_ : Unit) => r = 1) (fun (u : Unit) t => PB g n L (cw g L x r0) t) (fun q => base ≤ q)) ([.ref (L 0), .ref sb, .int p0, .ref (L 107)] : List Value).toArray s 600 3600 (fun q => base ≤ q)) (F0 m 167 ls []) := by
        intro d
        induction d with
        | zero =>
          intro k y9 y7 y8 H locs ls hkd ey9 ey7 ey8 hP hS hl
          obtain rfl : M = k := by omega
          subst ey9 ey7 ey8
          refine lv_iload hx hb dL_areSuspects_167 (lv_at hl 0 rfl) ?_
          refine lv_iload hx hb dL_areSuspects_169 (lv_at hl 9 rfl) ?_
          refine lv_icmp_ge (tgt := 228) hx hb dL_areSuspects_171 (by decide) (fun c171 => ?_) (fun c171 => absurd (nI_le (Nat.le_refl _) (by omega)) c171)
          refine lv_iload hx hb dL_areSuspects_228 (lv_at hl 2 rfl) ?_
          refine W.widen (k := 600) (n := 3600) (by omega) (by omega) ?_
          exact W.zret (v := 1) hx hb hr (by decide) (fun t ht hW => ⟨⟨1, (), rfl, rfl, PB.mk9 hP ht⟩, hS.F ht⟩) hS.2.2 dL_areSuspects_230
        | succ d ih =>
          intro k y9 y7 y8 H locs ls hkd ey9 ey7 ey8 hP hS hl
          have hkN : k < M := by omega
          subst ey9 ey7 ey8
          refine lv_iload hx hb dL_areSuspects_167 (lv_at hl 0 rfl) ?_
          refine lv_iload hx hb dL_areSuspects_169 (lv_at hl 9 rfl) ?_
          refine lv_icmp_ge (tgt := 228) hx hb dL_areSuspects_171 (by decide) (fun c171 => absurd c171 (nI_ge hkN (by omega))) (fun c171 => ?_)
          refine lv_aload_n hx hb dL_areSuspects_174 rfl (lv_at hl 3 rfl) ?_
          refine lv_bipush (v := 17) hx hb dL_areSuspects_175 (by decide) ?_
          refine lv_aload_n hx hb dL_areSuspects_177 rfl (lv_at hl 3 rfl) ?_
          refine lv_bipush (v := 20) hx hb dL_areSuspects_178 (by decide) ?_
          refine lv_iload hx hb dL_areSuspects_180 (lv_at hl 7 rfl) ?_
          refine lv_iload hx hb dL_areSuspects_182 (lv_at hl 8 rfl) ?_
          refine lv_iload hx hb dL_areSuspects_184 (lv_at hl 0 rfl) ?_
          refine lv_iconst (v := 0) hx hb dL_areSuspects_186 (by decide) ?_
          refine wx_calli (vx_runSW (As := [.ref (L 0), .int 20, .int r2, .int (nI d9), .int (nI k), .int 0]) (rest := [.int 17, .ref (L 0)]) ⟨hx, hb, hml, hown, hts⟩ (dd_20 l hst g base n L (by omega) x r0 4 (by omega) hx0 nn hnn hx1 r2 (nI d9) (nI k) 0) (vx_cwSW 6 hts gL_areSuspects_L_deed rfl rfl rfl (by decide +kernel) ⟨Nat.le_of_ble_eq_true rfl, Nat.le_of_ble_eq_true rfl⟩) (hPW.preS hP hS) rfl rfl hl.1 rfl (lv_room (Nat.le_of_ble_eq_true rfl)) dL_areSuspects_187 ⟨(by show _ ≤ 600; omega), (by show _ ≤ 3600; omega)⟩) hS (fun r187 u187 H locs h187 hP hS => ?_)
          obtain ⟨hpl, hri, hqr⟩ := hQ k hkN
          obtain rfl := hqr _ h187
          refine lv_iload hx hb dL_areSuspects_190 (lv_at hl 8 rfl) ?_
          refine lv_iconst (v := 0) hx hb dL_areSuspects_192 (by decide) ?_
          refine lv_iconst (v := 0) hx hb dL_areSuspects_193 (by decide) ?_
          refine wx_calli (vx_runSW (As := [.ref (L 0), .int 17, .int (nI (pl k)), .int (nI d9), .int 0, .int 0]) (rest := []) ⟨hx, hb, hml, hown, hts⟩ (dd_17 l hst g base n L (by omega) x r0 4 (by omega) hx0 nn hnn hx1 (nI (pl k)) (nI d9) 0 0) (vx_cwSW 6 hts gL_areSuspects_L_deed rfl rfl rfl (by decide +kernel) ⟨Nat.le_of_ble_eq_true rfl, Nat.le_of_ble_eq_true rfl⟩) (hPW.preS hP hS) rfl rfl hl.1 rfl (lv_room (Nat.le_of_ble_eq_true rfl)) dL_areSuspects_194 ⟨(by show _ ≤ 600; omega), (by show _ ≤ 3600; omega)⟩) hS (fun r194 u194 H locs h194 hP hS => ?_)
          obtain rfl := (od17 hpl (by omega) (by omega) h194).trans hri
          refine lv_istore (lv' := [(10, .int (nI (v k))), (9, .int (nI k)), (7, .int (bfF v k)), (8, .int 1), (0, .ref (L 0)), (1, .ref sb), (2, .int p0), (3, .ref (L 107)), (4, .int r2), (5, .int (nI d9)), (6, .int (nI M))]) hx hb dL_areSuspects_197 hl (by decide) rfl (fun ls hl => ?_)
          refine lv_iload hx hb dL_areSuspects_199 (lv_at hl 3 rfl) ?_
          refine lv_if_eq (tgt := 215) hx hb dL_areSuspects_201 (by decide) (fun c201 => absurd c201 (by decide)) (fun c201 => ?_)
          refine lv_iload hx hb dL_areSuspects_204 (lv_at hl 0 rfl) ?_
          refine lv_iload hx hb dL_areSuspects_206 (lv_at hl 2 rfl) ?_
          refine lv_icmp_gt (tgt := 215) hx hb dL_areSuspects_208 (by decide) (fun c208 => absurd c208 (bf_le hkN hv1 hv2)) (fun c208 => ?_)
          refine lv_iconst (v := 1) hx hb dL_areSuspects_211 (by decide) ?_
          refine lv_goto (tgt := 216) hx hb dL_areSuspects_212 (by decide) ?_
          refine lv_istore (lv' := [(8, .int 1), (10, .int (nI (v k))), (9, .int (nI k)), (7, .int (bfF v k)), (0, .ref (L 0)), (1, .ref sb), (2, .int p0), (3, .ref (L 107)), (4, .int r2), (5, .int (nI d9)), (6, .int (nI M))]) hx hb dL_areSuspects_216 hl (by decide) rfl (fun ls hl => ?_)
          refine lv_iload hx hb dL_areSuspects_218 (lv_at hl 1 rfl) ?_
          refine lv_istore (lv' := [(7, .int (nI (v k))), (8, .int 1), (10, .int (nI (v k))), (9, .int (nI k)), (0, .ref (L 0)), (1, .ref sb), (2, .int p0), (3, .ref (L 107)), (4, .int r2), (5, .int (nI d9)), (6, .int (nI M))]) hx hb dL_areSuspects_220 hl (by decide) rfl (fun ls hl => ?_)
          obtain ⟨z222, ez222⟩ : ∃ y : Int32, y = nI k + 1 := ⟨_, rfl⟩
          refine lv_iinc (v := z222) (lv' := [(9, .int z222), (7, .int (nI (v k))), (8, .int 1), (10, .int (nI (v k))), (0, .ref (L 0)), (1, .ref sb), (2, .int p0), (3, .ref (L 107)), (4, .int r2), (5, .int (nI d9)), (6, .int (nI M))]) hx hb dL_areSuspects_222 hl (k := 3) rfl (by rw [ez222]; rfl) (by decide) rfl (fun ls hl => ?_)
          refine lv_goto (tgt := 167) hx hb dL_areSuspects_225 (by decide) ?_
          refine W.widen (k := 0 + 0 + 0 + 4 * nn + 0 + 4 + 4 + 8 * (k + 1)) (n := 0 + 0 + 0 + 24 * nn + 0 + 24 + 24 + 48 * (k + 1)) (by omega) (by omega) ?_
          exact ih (k + 1) _ _ _ _ _ _ (by omega) (by rw [ez222, nI_1]) rfl rfl hP hS (lv_sub hl [0, 1, 2, 4, 5, 6, 7, 8, 9, 10] rfl)
      refine W.widen (k := 0 + 0 + 0 + 4 * nn + 0 + 4 + 4 + 8 * 0) (n := 0 + 0 + 0 + 24 * nn + 0 + 24 + 24 + 48 * 0) (by omega) (by omega) ?_
      exact key167 M 0 _ _ _ _ _ _ (by omega) rfl rfl rfl hP hS (lv_sub hl [0, 9, 1, 3, 4, 5, 6, 7, 8, 2] rfl)
    | succ di9 ihi9 =>
      intro i9 y8i9 y6i9 H locs ls hkdi9 ey8i9 ey6i9 hP hS hl
      have hkNi9 : i9 < nn := by omega
      subst ey8i9 ey6i9
      refine lv_iload hx hb dL_areSuspects_27 (lv_at hl 0 rfl) ?_
      refine lv_aload_n hx hb dL_areSuspects_29 rfl (lv_at hl 2 rfl) ?_
      refine wx_calli (va_runV (As := []) (rest := [.int (nI i9)]) ⟨hx, hb, hml, hown, hts⟩ (k_notices l hst g base n L (by omega) x r0) (cwV 0 hts gL_areSuspects_X3_notices rfl rfl rfl (by decide +kernel) ⟨Nat.le_of_ble_eq_true rfl, Nat.le_of_ble_eq_true rfl⟩) (hPW.preV hP hS (ci := 5) rfl (by omega) cw_d) rfl rfl hl.1 rfl (lv_room (Nat.le_of_ble_eq_true rfl)) dL_areSuspects_30 ⟨(by show _ ≤ 600; omega), (by show _ ≤ 3600; omega)⟩) hS (fun r30 u30 H locs h30 hP hS => ?_)
      obtain rfl := h30
      refine lv_icmp_ge (tgt := 123) hx hb dL_areSuspects_33 (by decide) (fun c33 => absurd c33 (by rw [hx1]; exact nI_ge hkNi9 (by omega))) (fun c33 => ?_)
      refine lv_iconst (v := 0) hx hb dL_areSuspects_36 (by decide) ?_
      refine lv_istore (lv' := [(9, .int 0), (8, .int (nI i9)), (6, .int (scF x r2 (nI d9) 4 i9)), (0, .ref (L 0)), (1, .ref sb), (2, .int p0), (3, .ref (L 107)), (4, .int r2), (5, .int (nI d9)), (7, .int 1000000)]) hx hb dL_areSuspects_37 hl (by decide) rfl (fun ls hl => ?_)
      refine lv_iconst (v := 0) hx hb dL_areSuspects_39 (by decide) ?_
      refine lv_istore (lv' := [(10, .int 0), (9, .int 0), (8, .int (nI i9)), (6, .int (scF x r2 (nI d9) 4 i9)), (0, .ref (L 0)), (1, .ref sb), (2, .int p0), (3, .ref (L 107)), (4, .int r2), (5, .int (nI d9)), (7, .int 1000000)]) hx hb dL_areSuspects_40 hl (by decide) rfl (fun ls hl => ?_)
      have key42 : ∀ (d k : Nat) (y10 : Int32) (y9 : Int32) (H : Heap) (locs : List Loc) (ls : Array Slot), k + d = 8 → (y10 = nI k) → ((y9 = 0 ∨ y9 = 1) ∧ (y9 = 1 ↔ ∃ c, c < k ∧ shK (P i9) c &&& r2 = r2)) → va_P g.1 vwCl (wl n L (cw g L x r0)) H → va_S (fun q : Nat => base ≤ q) s.heap H locs → lv_has ls 11 [(10, .int y10), (9, .int y9), (0, .ref (L 0)), (1, .ref sb), (2, .int p0), (3, .ref (L 107)), (4, .int r2), (5, .int (nI d9)), (6, .int (scF x r2 (nI d9) 4 i9)), (7, .int 1000000), (8, .int (nI i9))] → W p l e (headSpec wsL_areSuspects ({ frames := 16, cells := 600, slots := 3600, locals := 480 })).room s m ([.ref (L 0), .ref sb, .int p0, .ref (L 107)] : List Value).toArray below meth c H locs (0 + 0 + 0 + 4 * i9 + 0 + 0 * k) (0 + 0 + 0 + 24 * i9 + 0 + 0 * k) (MQ below (va_Qi (fun (r : Int32) (_ : Unit) => r = 1) (fun (u : Unit) t => PB g n L (cw g L x r0) t) (fun q => base ≤ q)) ([.ref (L 0), .ref sb, .int p0, .ref (L 107)] : List Value).toArray s 600 3600 (fun q => base ≤ q)) (F0 m 42 ls []) := by
        intro d
        induction d with
        | zero =>
          intro k y10 y9 H locs ls hkd ey10 hcan hP hS hl
          obtain rfl : k = 8 := by omega
          subst ey10
          refine lv_iload hx hb dL_areSuspects_42 (lv_at hl 0 rfl) ?_
          refine lv_bipush (v := 8) hx hb dL_areSuspects_44 (by decide) ?_
          refine lv_icmp_ge (tgt := 84) hx hb dL_areSuspects_46 (by decide) (fun c46 => ?_) (fun c46 => absurd (by decide) c46)
          refine lv_iload hx hb dL_areSuspects_84 (lv_at hl 8 rfl) ?_
          refine lv_iload hx hb dL_areSuspects_86 (lv_at hl 1 rfl) ?_
          refine lv_if_eq (tgt := 110) hx hb dL_areSuspects_88 (by decide) (fun c88 => ?_) (fun c88 => ?_)
          · refine lv_iconst (v := 0) hx hb dL_areSuspects_110 (by decide) ?_
            refine wx_calli (va_runS (As := [.int 0]) (rest := [.int (scF x r2 (nI d9) 4 i9)]) ⟨hx, hb, hml, hown, hts⟩ (k_told l hst g base n L (cw g L x r0) 0) (va_cwS 1 hts gL_areSuspects_L_told rfl rfl rfl (by decide +kernel) ⟨Nat.le_of_ble_eq_true rfl, Nat.le_of_ble_eq_true rfl⟩) (hPW.preS hP hS) rfl rfl hl.1 rfl (lv_room (Nat.le_of_ble_eq_true rfl)) dL_areSuspects_111 ⟨(by show _ ≤ 600; omega), (by show _ ≤ 3600; omega)⟩) hS (fun r111 u111 H locs h111 hP hS => ?_)
            obtain rfl := h111
            refine lv_iadd hx hb dL_areSuspects_114 ?_
            refine lv_istore (lv' := [(6, .int ((scF x r2 (nI d9) 4 i9) + (if 0 = 0 then 0 else 1))), (10, .int (nI 8)), (9, .int y9), (0, .ref (L 0)), (1, .ref sb), (2, .int p0), (3, .ref (L 107)), (4, .int r2), (5, .int (nI d9)), (7, .int 1000000), (8, .int (nI i9))]) hx hb dL_areSuspects_115 hl (by decide) rfl (fun ls hl => ?_)
            obtain ⟨z117, ez117⟩ : ∃ y : Int32, y = nI i9 + 1 := ⟨_, rfl⟩
            refine lv_iinc (v := z117) (lv' := [(8, .int z117), (6, .int ((scF x r2 (nI d9) 4 i9) + (if 0 = 0 then 0 else 1))), (10, .int (nI 8)), (9, .int y9), (0, .ref (L 0)), (1, .ref sb), (2, .int p0), (3, .ref (L 107)), (4, .int r2), (5, .int (nI d9)), (7, .int 1000000)]) hx hb dL_areSuspects_117 hl (k := 10) rfl (by rw [ez117]; rfl) (by decide) rfl (fun ls hl => ?_)
            refine lv_goto (tgt := 27) hx hb dL_areSuspects_120 (by decide) ?_
            refine W.widen (k := 0 + 0 + 0 + 4 * (i9 + 1)) (n := 0 + 0 + 0 + 24 * (i9 + 1)) (by omega) (by omega) ?_
            exact ihi9 (i9 + 1) _ _ _ _ _ (by omega) (by rw [ez117, nI_1]) (sc0 (fun h9 => absurd (c88.symm.trans (hcan.2.2 ((chm_sh (hPP i9 hkNi9)).mpr h9.2))) (by decide))) hP hS (lv_sub hl [0, 1, 4, 5, 6, 7, 8, 9, 10] rfl)
          · refine lv_aload_n hx hb dL_areSuspects_91 rfl (lv_at hl 2 rfl) ?_
            refine lv_bipush (v := 17) hx hb dL_areSuspects_92 (by decide) ?_
            refine lv_iload hx hb dL_areSuspects_94 (lv_at hl 10 rfl) ?_
            refine lv_iload hx hb dL_areSuspects_96 (lv_at hl 7 rfl) ?_
            refine lv_iconst (v := 0) hx hb dL_areSuspects_98 (by decide) ?_
            refine lv_iconst (v := 0) hx hb dL_areSuspects_99 (by decide) ?_
            refine wx_calli (vx_runSW (As := [.ref (L 0), .int 17, .int (nI i9), .int (nI d9), .int 0, .int 0]) (rest := [.int (scF x r2 (nI d9) 4 i9)]) ⟨hx, hb, hml, hown, hts⟩ (dd_17 l hst g base n L (by omega) x r0 4 (by omega) hx0 nn hnn hx1 (nI i9) (nI d9) 0 0) (vx_cwSW 6 hts gL_areSuspects_L_deed rfl rfl rfl (by decide +kernel) ⟨Nat.le_of_ble_eq_true rfl, Nat.le_of_ble_eq_true rfl⟩) (hPW.preS hP hS) rfl rfl hl.1 rfl (lv_room (Nat.le_of_ble_eq_true rfl)) dL_areSuspects_100 ⟨(by show _ ≤ 600; omega), (by show _ ≤ 3600; omega)⟩) hS (fun r100 u100 H locs h100 hP hS => ?_)
            obtain rfl := od17 (by omega) (by omega) (by omega) h100
            refine lv_if_le (tgt := 110) hx hb dL_areSuspects_103 (by decide) (fun c103 => ?_) (fun c103 => ?_)
            · refine lv_iconst (v := 0) hx hb dL_areSuspects_110 (by decide) ?_
              refine wx_calli (va_runS (As := [.int 0]) (rest := [.int (scF x r2 (nI d9) 4 i9)]) ⟨hx, hb, hml, hown, hts⟩ (k_told l hst g base n L (cw g L x r0) 0) (va_cwS 1 hts gL_areSuspects_L_told rfl rfl rfl (by decide +kernel) ⟨Nat.le_of_ble_eq_true rfl, Nat.le_of_ble_eq_true rfl⟩) (hPW.preS hP hS) rfl rfl hl.1 rfl (lv_room (Nat.le_of_ble_eq_true rfl)) dL_areSuspects_111 ⟨(by show _ ≤ 600; omega), (by show _ ≤ 3600; omega)⟩) hS (fun r111 u111 H locs h111 hP hS => ?_)
              obtain rfl := h111
              refine lv_iadd hx hb dL_areSuspects_114 ?_
              refine lv_istore (lv' := [(6, .int ((scF x r2 (nI d9) 4 i9) + (if 0 = 0 then 0 else 1))), (10, .int (nI 8)), (9, .int y9), (0, .ref (L 0)), (1, .ref sb), (2, .int p0), (3, .ref (L 107)), (4, .int r2), (5, .int (nI d9)), (7, .int 1000000), (8, .int (nI i9))]) hx hb dL_areSuspects_115 hl (by decide) rfl (fun ls hl => ?_)
              obtain ⟨z117, ez117⟩ : ∃ y : Int32, y = nI i9 + 1 := ⟨_, rfl⟩
              refine lv_iinc (v := z117) (lv' := [(8, .int z117), (6, .int ((scF x r2 (nI d9) 4 i9) + (if 0 = 0 then 0 else 1))), (10, .int (nI 8)), (9, .int y9), (0, .ref (L 0)), (1, .ref sb), (2, .int p0), (3, .ref (L 107)), (4, .int r2), (5, .int (nI d9)), (7, .int 1000000)]) hx hb dL_areSuspects_117 hl (k := 10) rfl (by rw [ez117]; rfl) (by decide) rfl (fun ls hl => ?_)
              refine lv_goto (tgt := 27) hx hb dL_areSuspects_120 (by decide) ?_
              refine W.widen (k := 0 + 0 + 0 + 4 * (i9 + 1)) (n := 0 + 0 + 0 + 24 * (i9 + 1)) (by omega) (by omega) ?_
              exact ihi9 (i9 + 1) _ _ _ _ _ (by omega) (by rw [ez117, nI_1]) (sc0 (fun h9 => h9.1 c103)) hP hS (lv_sub hl [0, 1, 4, 5, 6, 7, 8, 9, 10] rfl)
            · refine lv_iconst (v := 1) hx hb dL_areSuspects_106 (by decide) ?_
              refine lv_goto (tgt := 111) hx hb dL_areSuspects_107 (by decide) ?_
              refine wx_calli (va_runS (As := [.int 1]) (rest := [.int (scF x r2 (nI d9) 4 i9)]) ⟨hx, hb, hml, hown, hts⟩ (k_told l hst g base n L (cw g L x r0) 1) (va_cwS 1 hts gL_areSuspects_L_told rfl rfl rfl (by decide +kernel) ⟨Nat.le_of_ble_eq_true rfl, Nat.le_of_ble_eq_true rfl⟩) (hPW.preS hP hS) rfl rfl hl.1 rfl (lv_room (Nat.le_of_ble_eq_true rfl)) dL_areSuspects_111 ⟨(by show _ ≤ 600; omega), (by show _ ≤ 3600; omega)⟩) hS (fun r111 u111 H locs h111 hP hS => ?_)
              obtain rfl := h111
              refine lv_iadd hx hb dL_areSuspects_114 ?_
              refine lv_istore (lv' := [(6, .int ((scF x r2 (nI d9) 4 i9) + (if 1 = 0 then 0 else 1))), (10, .int (nI 8)), (9, .int y9), (0, .ref (L 0)), (1, .ref sb), (2, .int p0), (3, .ref (L 107)), (4, .int r2), (5, .int (nI d9)), (7, .int 1000000), (8, .int (nI i9))]) hx hb dL_areSuspects_115 hl (by decide) rfl (fun ls hl => ?_)
              obtain ⟨z117, ez117⟩ : ∃ y : Int32, y = nI i9 + 1 := ⟨_, rfl⟩
              refine lv_iinc (v := z117) (lv' := [(8, .int z117), (6, .int ((scF x r2 (nI d9) 4 i9) + (if 1 = 0 then 0 else 1))), (10, .int (nI 8)), (9, .int y9), (0, .ref (L 0)), (1, .ref sb), (2, .int p0), (3, .ref (L 107)), (4, .int r2), (5, .int (nI d9)), (7, .int 1000000)]) hx hb dL_areSuspects_117 hl (k := 10) rfl (by rw [ez117]; rfl) (by decide) rfl (fun ls hl => ?_)
              refine lv_goto (tgt := 27) hx hb dL_areSuspects_120 (by decide) ?_
              refine W.widen (k := 0 + 0 + 0 + 4 * (i9 + 1)) (n := 0 + 0 + 0 + 24 * (i9 + 1)) (by omega) (by omega) ?_
              exact ihi9 (i9 + 1) _ _ _ _ _ (by omega) (by rw [ez117, nI_1]) (sc1 ⟨c103, ((chm_sh (hPP i9 hkNi9)).mp (hcan.2.1 (hcan.1.resolve_left c88)))⟩) hP hS (lv_sub hl [0, 1, 4, 5, 6, 7, 8, 9, 10] rfl)
        | succ d ih =>
          intro k y10 y9 H locs ls hkd ey10 hcan hP hS hl
          have hkN : k < 8 := by omega
          subst ey10
          refine lv_iload hx hb dL_areSuspects_42 (lv_at hl 0 rfl) ?_
          refine lv_bipush (v := 8) hx hb dL_areSuspects_44 (by decide) ?_
          refine lv_icmp_ge (tgt := 84) hx hb dL_areSuspects_46 (by decide) (fun c46 => absurd c46 (nI_ge (b := 8) hkN (by decide))) (fun c46 => ?_)
          refine lv_iload hx hb dL_areSuspects_49 (lv_at hl 1 rfl) ?_
          refine lv_if_ne (tgt := 71) hx hb dL_areSuspects_51 (by decide) (fun c51 => ?_) (fun c51 => ?_)
          · refine lv_iconst (v := 1) hx hb dL_areSuspects_71 (by decide) ?_
            refine lv_goto (tgt := 76) hx hb dL_areSuspects_72 (by decide) ?_
            refine lv_istore (lv' := [(9, .int 1), (10, .int (nI k)), (0, .ref (L 0)), (1, .ref sb), (2, .int p0), (3, .ref (L 107)), (4, .int r2), (5, .int (nI d9)), (6, .int (scF x r2 (nI d9) 4 i9)), (7, .int 1000000), (8, .int (nI i9))]) hx hb dL_areSuspects_76 hl (by decide) rfl (fun ls hl => ?_)
            obtain ⟨z78, ez78⟩ : ∃ y : Int32, y = nI k + 1 := ⟨_, rfl⟩
            refine lv_iinc (v := z78) (lv' := [(10, .int z78), (9, .int 1), (0, .ref (L 0)), (1, .ref sb), (2, .int p0), (3, .ref (L 107)), (4, .int r2), (5, .int (nI d9)), (6, .int (scF x r2 (nI d9) 4 i9)), (7, .int 1000000), (8, .int (nI i9))]) hx hb dL_areSuspects_78 hl (k := 1) rfl (by rw [ez78]; rfl) (by decide) rfl (fun ls hl => ?_)
            refine lv_goto (tgt := 42) hx hb dL_areSuspects_81 (by decide) ?_
            refine W.widen (k := 0 + 0 + 0 + 4 * i9 + 0 + 0 * (k + 1)) (n := 0 + 0 + 0 + 24 * i9 + 0 + 0 * (k + 1)) (by omega) (by omega) ?_
            exact ih (k + 1) _ 1 _ _ _ (by omega) (by rw [ez78, nI_1]) (⟨Or.inr rfl, ⟨fun _ => by obtain ⟨c, hc, e⟩ := hcan.2.1 (hcan.1.resolve_left c51); exact ⟨c, by omega, e⟩, fun _ => rfl⟩⟩) hP hS (lv_sub hl [0, 1, 2, 3, 4, 5, 6, 7, 8, 9, 10] rfl)
          · refine lv_aload_n hx hb dL_areSuspects_54 rfl (lv_at hl 5 rfl) ?_
            refine lv_iload hx hb dL_areSuspects_55 (lv_at hl 10 rfl) ?_
            refine wx_ialdv (D := g.1) (cl := vwCl) (f := P) (v := P i9) hx hb hK hP (107) 0 (by omega) ((cw_ge (by decide)).trans h107) rfl (i := nI i9) (vp_in_nI (by omega) (by decide)) (by rw [nI_clamp (by omega)]) dL_areSuspects_57 ?_
            refine lv_iload hx hb dL_areSuspects_58 (lv_at hl 0 rfl) ?_
            refine wx_calli (va_runS (As := [.int (P i9), .int (nI k)]) (rest := []) ⟨hx, hb, hml, hown, hts⟩ (k_lshifted l hst g base n L (cw g L x r0) (P i9) (nI k) k (by omega) rfl) (va_cwS 2 hts gL_areSuspects_L_shifted rfl rfl rfl (by decide +kernel) ⟨Nat.le_of_ble_eq_true rfl, Nat.le_of_ble_eq_true rfl⟩) (hPW.preS hP hS) rfl rfl hl.1 rfl (lv_room (Nat.le_of_ble_eq_true rfl)) dL_areSuspects_60 ⟨(by show _ ≤ 600; omega), (by show _ ≤ 3600; omega)⟩) hS (fun r60 u60 H locs h60 hP hS => ?_)
            obtain rfl := h60
            refine lv_iload hx hb dL_areSuspects_63 (lv_at hl 6 rfl) ?_
            refine lv_iand hx hb dL_areSuspects_65 ?_
            refine lv_iload hx hb dL_areSuspects_66 (lv_at hl 6 rfl) ?_
            refine lv_icmp_ne (tgt := 75) hx hb dL_areSuspects_68 (by decide) (fun c68 => ?_) (fun c68 => ?_)
            · refine lv_iconst (v := 0) hx hb dL_areSuspects_75 (by decide) ?_
              refine lv_istore (lv' := [(9, .int 0), (10, .int (nI k)), (0, .ref (L 0)), (1, .ref sb), (2, .int p0), (3, .ref (L 107)), (4, .int r2), (5, .int (nI d9)), (6, .int (scF x r2 (nI d9) 4 i9)), (7, .int 1000000), (8, .int (nI i9))]) hx hb dL_areSuspects_76 hl (by decide) rfl (fun ls hl => ?_)
              obtain ⟨z78, ez78⟩ : ∃ y : Int32, y = nI k + 1 := ⟨_, rfl⟩
              refine lv_iinc (v := z78) (lv' := [(10, .int z78), (9, .int 0), (0, .ref (L 0)), (1, .ref sb), (2, .int p0), (3, .ref (L 107)), (4, .int r2), (5, .int (nI d9)), (6, .int (scF x r2 (nI d9) 4 i9)), (7, .int 1000000), (8, .int (nI i9))]) hx hb dL_areSuspects_78 hl (k := 1) rfl (by rw [ez78]; rfl) (by decide) rfl (fun ls hl => ?_)
              refine lv_goto (tgt := 42) hx hb dL_areSuspects_81 (by decide) ?_
              refine W.widen (k := 0 + 0 + 0 + 4 * i9 + 0 + 0 * (k + 1)) (n := 0 + 0 + 0 + 24 * i9 + 0 + 0 * (k + 1)) (by omega) (by omega) ?_
              exact ih (k + 1) _ 0 _ _ _ (by omega) (by rw [ez78, nI_1]) (⟨Or.inl rfl, ⟨fun h9 => absurd h9 (by decide), fun ⟨c, hc, e⟩ => by rcases (show c < k ∨ c = k by omega) with h8 | rfl; exact absurd (c51.symm.trans (hcan.2.2 ⟨c, h8, e⟩)) (by decide); exact absurd e c68⟩⟩) hP hS (lv_sub hl [0, 1, 2, 3, 4, 5, 6, 7, 8, 9, 10] rfl)
            · refine lv_iconst (v := 1) hx hb dL_areSuspects_71 (by decide) ?_
              refine lv_goto (tgt := 76) hx hb dL_areSuspects_72 (by decide) ?_
              refine lv_istore (lv' := [(9, .int 1), (10, .int (nI k)), (0, .ref (L 0)), (1, .ref sb), (2, .int p0), (3, .ref (L 107)), (4, .int r2), (5, .int (nI d9)), (6, .int (scF x r2 (nI d9) 4 i9)), (7, .int 1000000), (8, .int (nI i9))]) hx hb dL_areSuspects_76 hl (by decide) rfl (fun ls hl => ?_)
              obtain ⟨z78, ez78⟩ : ∃ y : Int32, y = nI k + 1 := ⟨_, rfl⟩
              refine lv_iinc (v := z78) (lv' := [(10, .int z78), (9, .int 1), (0, .ref (L 0)), (1, .ref sb), (2, .int p0), (3, .ref (L 107)), (4, .int r2), (5, .int (nI d9)), (6, .int (scF x r2 (nI d9) 4 i9)), (7, .int 1000000), (8, .int (nI i9))]) hx hb dL_areSuspects_78 hl (k := 1) rfl (by rw [ez78]; rfl) (by decide) rfl (fun ls hl => ?_)
              refine lv_goto (tgt := 42) hx hb dL_areSuspects_81 (by decide) ?_
              refine W.widen (k := 0 + 0 + 0 + 4 * i9 + 0 + 0 * (k + 1)) (n := 0 + 0 + 0 + 24 * i9 + 0 + 0 * (k + 1)) (by omega) (by omega) ?_
              exact ih (k + 1) _ 1 _ _ _ (by omega) (by rw [ez78, nI_1]) (⟨Or.inr rfl, ⟨fun _ => ⟨k, by omega, c68⟩, fun _ => rfl⟩⟩) hP hS (lv_sub hl [0, 1, 2, 3, 4, 5, 6, 7, 8, 9, 10] rfl)
      refine W.widen (k := 0 + 0 + 0 + 4 * i9 + 0 + 0 * 0) (n := 0 + 0 + 0 + 24 * i9 + 0 + 0 * 0) (by omega) (by omega) ?_
      exact key42 8 0 _ 0 _ _ _ (by omega) rfl (⟨Or.inl rfl, ⟨fun h9 => absurd h9 (by decide), fun ⟨c, hc, _⟩ => absurd hc (Nat.not_lt_zero _)⟩⟩) hP hS (lv_sub hl [0, 1, 4, 5, 6, 7, 8, 9, 3, 10, 2] rfl)
  refine W.widen (k := 0 + 0 + 0 + 4 * 0) (n := 0 + 0 + 0 + 24 * 0) (by omega) (by omega) ?_
  exact key27 nn 0 _ _ _ _ _ (by omega) rfl rfl hP hS (lv_sub hl [0, 2, 5, 6, 7, 8, 4, 3, 1] rfl)

