/-! laid by wip/gen -/
set_option maxHeartbeats 4000000 in
set_option maxRecDepth 100000 in
theorem k_isRight (l : Launch) (hst : l.stackTraces = false) (g : gE) (base n : Nat) (L : Nat → Nat) (hn : 108 ≤ n) (x : St) (r0 : Nat → va_E) (D P : Nat → Int32) (h106 : r0 106 = .inl (g.2 0, 4, .inl D)) (h107 : r0 107 = .inl (g.2 0, 40, .inl P)) (nn : Nat) (hF : FR x nn D P) : Met l yL_isRight wsL_isRight ({ frames := 16, cells := 3000, slots := 18000, locals := 480 }) (va_Pc [.ref (L 0), .ref (L 107), .ref (L 106)] (PW SS g base n L (cw g L x r0))) (va_Qi (fun (r : Int32) (_ : Unit) => r = 1) (fun (u : Unit) t => PB g n L (cw g L x r0) t) (fun q => base ≤ q)) 3000 18000 (fun q => base ≤ q) := by
  refine Met.ofW (cc := cL_isRight) (maxL := 16) (ret := (some .boolean)) (by decide) rfl ?_
  intro p e s m args below meth c s₁ B hml hv
  obtain ⟨rfl, hPW⟩ := hv
  obtain ⟨hbs, hJ, hP, hK, hE⟩ := id hPW
  have hx := B.exec
  have hb := B.bytes
  have hr := B.returns
  have hts := atoms_spec (ws := wsL_isRight) B.pre
  have hown : s.vm.findClass RL = some m.cls := findClass_of_methodNamed B.named
  have hlocks := B.notSynchronized
  have hS : va_S (fun q : Nat => base ≤ q) s.heap s.heap [] := va_S.rf
  have hl := lv_entry ([.ref (L 0), .ref (L 107), .ref (L 106)]) (n := 16) (Nat.le_of_ble_eq_true rfl)
  rw [lg_entry_eq]
  generalize (lg_sl ([.ref (L 0), .ref (L 107), .ref (L 106)]) ++ List.replicate (16 - (lg_sl ([.ref (L 0), .ref (L 107), .ref (L 106)])).length) Slot.unset).toArray = ls at hl ⊢
  have hl : lv_has ls 16 [(0, .ref (L 0)), (1, .ref (L 107)), (2, .ref (L 106))] := hl
  obtain ⟨hG, hFB, hWO, hSO, hOK⟩ := id hF
  have hx0 := hG.x0
  have hx1 := hG.x1
  have hnn := hG.nn40
  have hsh := hG.sh
  refine lv_lconst (v := 0) hx hb dL_isRight_0 (by decide) ?_
  refine lv_lstore_n (lv' := [(3, .long 0), (0, .ref (L 0)), (1, .ref (L 107)), (2, .ref (L 106))]) hx hb dL_isRight_1 rfl hl (by decide) rfl (fun ls hl => ?_)
  refine lv_lconst (v := 0) hx hb dL_isRight_2 (by decide) ?_
  refine lv_lstore (lv' := [(5, .long 0), (3, .long 0), (0, .ref (L 0)), (1, .ref (L 107)), (2, .ref (L 106))]) hx hb dL_isRight_3 hl (by decide) rfl (fun ls hl => ?_)
  refine lv_iconst (v := 0) hx hb dL_isRight_5 (by decide) ?_
  refine lv_istore (lv' := [(7, .int 0), (5, .long 0), (3, .long 0), (0, .ref (L 0)), (1, .ref (L 107)), (2, .ref (L 106))]) hx hb dL_isRight_6 hl (by decide) rfl (fun ls hl => ?_)
  refine lv_iconst (v := 0) hx hb dL_isRight_8 (by decide) ?_
  refine lv_istore (lv' := [(8, .int 0), (7, .int 0), (5, .long 0), (3, .long 0), (0, .ref (L 0)), (1, .ref (L 107)), (2, .ref (L 106))]) hx hb dL_isRight_9 hl (by decide) rfl (fun ls hl => ?_)
  have key11 : ∀ (db b : Nat) (y8b : Int32) (y3b : Int64) (y5b : Int64) (y7b : Int32) (H : Heap) (locs : List Loc) (ls : Array Slot), b + db = 4 → (y8b = nI b) → (y3b = soS x b) → (y5b = woS x b) → (y7b = ssF x b) → va_P g.1 vwCl (wl n L (cw g L x r0)) H → va_S (fun q : Nat => base ≤ q) s.heap H locs → lv_has ls 16 [(8, .int y8b), (3, .long y3b), (5, .long y5b), (7, .int y7b), (0, .ref (L 0)), (1, .ref (L 107)), (2, .ref (L 106))] → W p l e (headSpec wsL_isRight ({ frames := 16, cells := 3000, slots := 18000, locals := 480 })).room s m ([.ref (L 0), .ref (L 107), .ref (L 106)] : List Value).toArray below meth c H locs (0 + 740 * b) (0 + 4440 * b) (MQ below (va_Qi (fun (r : Int32) (_ : Unit) => r = 1) (fun (u : Unit) t => PB g n L (cw g L x r0) t) (fun q => base ≤ q)) ([.ref (L 0), .ref (L 107), .ref (L 106)] : List Value).toArray s 3000 18000 (fun q => base ≤ q)) (F0 m 11 ls []) := by
    intro db
    induction db with
    | zero =>
      intro b y8b y3b y5b y7b H locs ls hkdb ey8b ey3b ey5b ey7b hP hS hl
      obtain rfl : b = 4 := by omega
      subst ey8b ey3b ey5b ey7b
      refine lv_iload hx hb dL_isRight_11 (lv_at hl 0 rfl) ?_
      refine lv_iconst (v := 4) hx hb dL_isRight_13 (by decide) ?_
      refine lv_icmp_ge (tgt := 391) hx hb dL_isRight_14 (by decide) (fun c14 => ?_) (fun c14 => absurd (by decide) c14)
      refine lv_lload hx hb dL_isRight_391 (lv_at hl 2 rfl) ?_
      refine lv_aload_n hx hb dL_isRight_393 rfl (lv_at hl 4 rfl) ?_
      refine wx_calll (va_runV (As := []) (rest := [.long (woS x 4)]) ⟨hx, hb, hml, hown, hts⟩ (k_changes l hst g base n L (by omega) x r0 4 (by omega) hx0) (cwV 0 hts gL_isRight_X3_changes rfl rfl rfl (by decide +kernel) ⟨Nat.le_of_ble_eq_true rfl, Nat.le_of_ble_eq_true rfl⟩) (hPW.preV hP hS (ci := 5) rfl (by omega) cw_d) rfl rfl hl.1 rfl (lv_room (Nat.le_of_ble_eq_true rfl)) dL_isRight_394 ⟨(by show _ ≤ 3000; omega), (by show _ ≤ 18000; omega)⟩) hS (fun r394 u394 H locs h394 hP hS => ?_)
      obtain rfl := h394
      refine W.lcmp hx hb dL_isRight_397 ?_
      refine lv_if_ne (tgt := 450) hx hb dL_isRight_398 (by decide) (fun c398 => absurd c398 (lgc9 hWO)) (fun c398 => ?_)
      refine lv_lload_n hx hb dL_isRight_401 rfl (lv_at hl 1 rfl) ?_
      refine lv_aload_n hx hb dL_isRight_402 rfl (lv_at hl 4 rfl) ?_
      refine wx_calll (va_runV (As := []) (rest := [.long (soS x 4)]) ⟨hx, hb, hml, hown, hts⟩ (k_checksum l hst g base n L (by omega) x r0 4 (by omega) hx0) (cwV 0 hts gL_isRight_X3_checksum rfl rfl rfl (by decide +kernel) ⟨Nat.le_of_ble_eq_true rfl, Nat.le_of_ble_eq_true rfl⟩) (hPW.preV hP hS (ci := 5) rfl (by omega) cw_d) rfl rfl hl.1 rfl (lv_room (Nat.le_of_ble_eq_true rfl)) dL_isRight_403 ⟨(by show _ ≤ 3000; omega), (by show _ ≤ 18000; omega)⟩) hS (fun r403 u403 H locs h403 hP hS => ?_)
      obtain rfl := h403
      refine W.lcmp hx hb dL_isRight_406 ?_
      refine lv_if_ne (tgt := 450) hx hb dL_isRight_407 (by decide) (fun c407 => absurd c407 (lgc9 hSO)) (fun c407 => ?_)
      refine lv_aload_n hx hb dL_isRight_410 rfl (lv_at hl 4 rfl) ?_
      refine wx_xcalld (vx_runV (As := []) (rest := []) ⟨hx, hb, hml, hown, hts⟩ (k_meanWear l hst g base n L (by omega) x r0 4 (by omega) hx0 (fun _ => hfd4 hx0)) (cwV 0 hts gL_isRight_X3_meanWear rfl rfl rfl (by decide +kernel) ⟨Nat.le_of_ble_eq_true rfl, Nat.le_of_ble_eq_true rfl⟩) (hPW.preV hP hS (ci := 5) rfl (by omega) cw_d) rfl rfl hl.1 rfl (lv_room (Nat.le_of_ble_eq_true rfl)) dL_isRight_411 ⟨(by show _ ≤ 3000; omega), (by show _ ≤ 18000; omega)⟩) hS (fun E ce q9 H locs hpx hP hS h1 h2 h3 => ?_) (fun r411 u411 H locs h411 hP hS => ?_)
      · exact absurd hpx.2 (by decide)
      obtain ⟨-, rfl⟩ := h411
      refine lv_lload hx hb dL_isRight_414 (lv_at hl 2 rfl) ?_
      refine lv_l2d hx hb dL_isRight_416 ?_
      refine lv_ldc2d (v := 4638707616191610880) hx hb hown (hts (.constantDouble RL 157 4638707616191610880) (by decide +kernel)) dL_isRight_417 ?_
      refine lv_ddiv hx hb dL_isRight_420 (hfdL hx0 hWO) ?_
      refine lv_dcmp hx hb dL_isRight_421 ?_
      refine lv_if_ne (tgt := 450) hx hb dL_isRight_422 (by decide) (fun c422 => absurd c422 (cmpD hx0 hWO)) (fun c422 => ?_)
      refine lv_aload_n hx hb dL_isRight_425 rfl (lv_at hl 4 rfl) ?_
      refine wx_xcallf (vx_runV (As := []) (rest := []) ⟨hx, hb, hml, hown, hts⟩ (k_shownShare l hst g base n L (by omega) x r0 4 (by omega) hx0 hsh (fun _ => hfn4 hx0)) (cwV 0 hts gL_isRight_X3_shownShare rfl rfl rfl (by decide +kernel) ⟨Nat.le_of_ble_eq_true rfl, Nat.le_of_ble_eq_true rfl⟩) (hPW.preV hP hS (ci := 5) rfl (by omega) cw_d) rfl rfl hl.1 rfl (lv_room (Nat.le_of_ble_eq_true rfl)) dL_isRight_426 ⟨(by show _ ≤ 3000; omega), (by show _ ≤ 18000; omega)⟩) hS (fun E ce q9 H locs hpx hP hS h1 h2 h3 => ?_) (fun r426 u426 H locs h426 hP hS => ?_)
      · exact absurd hpx.2 (by decide)
      obtain ⟨-, rfl⟩ := h426
      refine lv_iload hx hb dL_isRight_429 (lv_at hl 3 rfl) ?_
      refine lv_i2f hx hb dL_isRight_431 ?_
      refine lv_ldcf (v := 1082130432) hx hb hown (hts (.constantFloat RL 163 1082130432) (by decide +kernel)) dL_isRight_432 ?_
      refine lv_fdiv hx hb dL_isRight_434 (hfnL hx0) ?_
      refine lv_fcmp hx hb dL_isRight_435 ?_
      refine lv_if_ne (tgt := 450) hx hb dL_isRight_436 (by decide) (fun c436 => absurd c436 (cmpFF hx0)) (fun c436 => ?_)
      refine lv_aload_n hx hb dL_isRight_439 rfl (lv_at hl 4 rfl) ?_
      refine wx_calli (va_runV (As := []) (rest := []) ⟨hx, hb, hml, hown, hts⟩ (k_isSound l hst g base n L (by omega) x r0 4 (by omega) hx0 hsh (tcF x) hG.tc4 hG.x194) (cwV 0 hts gL_isRight_X3_isSound rfl rfl rfl (by decide +kernel) ⟨Nat.le_of_ble_eq_true rfl, Nat.le_of_ble_eq_true rfl⟩) (hPW.preV hP hS (ci := 5) rfl (by omega) cw_d) rfl rfl hl.1 rfl (lv_room (Nat.le_of_ble_eq_true rfl)) dL_isRight_440 ⟨(by show _ ≤ 3000; omega), (by show _ ≤ 18000; omega)⟩) hS (fun r440 u440 H locs h440 hP hS => ?_)
      obtain rfl : r440 = 1 := by rcases h440 with ⟨h9, -⟩ | ⟨-, h9⟩; exact h9; exact absurd hOK h9
      refine lv_if_eq (tgt := 450) hx hb dL_isRight_443 (by decide) (fun c443 => absurd c443 (by decide)) (fun c443 => ?_)
      refine lv_iconst (v := 1) hx hb dL_isRight_446 (by decide) ?_
      refine lv_goto (tgt := 451) hx hb dL_isRight_447 (by decide) ?_
      refine W.widen (k := 3000) (n := 18000) (by omega) (by omega) ?_
      exact W.zret (v := 1) hx hb hr (by decide) (fun t ht hW => ⟨⟨1, (), rfl, rfl, PB.mk9 hP ht⟩, hS.F ht⟩) hS.2.2 dL_isRight_451
    | succ db ihb =>
      intro b y8b y3b y5b y7b H locs ls hkdb ey8b ey3b ey5b ey7b hP hS hl
      have hkNb : b < 4 := by omega
      subst ey8b ey3b ey5b ey7b
      refine lv_iload hx hb dL_isRight_11 (lv_at hl 0 rfl) ?_
      refine lv_iconst (v := 4) hx hb dL_isRight_13 (by decide) ?_
      refine lv_icmp_ge (tgt := 391) hx hb dL_isRight_14 (by decide) (fun c14 => absurd c14 (nI_ge (b := 4) hkNb (by decide))) (fun c14 => ?_)
      obtain ⟨f12, f3, f4, f5, f5b, f6⟩ := hFB b (by omega)
      refine lv_aload_n hx hb dL_isRight_17 rfl (lv_at hl 4 rfl) ?_
      refine lv_iconst (v := 5) hx hb dL_isRight_18 (by decide) ?_
      refine lv_iload hx hb dL_isRight_19 (lv_at hl 0 rfl) ?_
      refine wx_calli (va_runS (As := [.ref (L 0), .int 5, .int (nI b)]) (rest := []) ⟨hx, hb, hml, hown, hts⟩ (ak_5 l hst g base n L (by omega) x r0 4 (by omega) hx0 hsh (nI b)) (va_cwS 3 hts gL_isRight_L_ask rfl rfl rfl (by decide +kernel) ⟨Nat.le_of_ble_eq_true rfl, Nat.le_of_ble_eq_true rfl⟩) (hPW.preS hP hS) rfl rfl hl.1 rfl (lv_room (Nat.le_of_ble_eq_true rfl)) dL_isRight_21 ⟨(by show _ ≤ 3000; omega), (by show _ ≤ 18000; omega)⟩) hS (fun r21 u21 H locs h21 hP hS => ?_)
      obtain rfl := od1 (f := fun j => x 12 j 0) (by omega) (by omega) h21
      refine lv_istore (lv' := [(9, .int (x 12 b 0)), (8, .int (nI b)), (3, .long (soS x b)), (5, .long (woS x b)), (7, .int (ssF x b)), (0, .ref (L 0)), (1, .ref (L 107)), (2, .ref (L 106))]) hx hb dL_isRight_24 hl (by decide) rfl (fun ls hl => ?_)
      refine lv_aload_n hx hb dL_isRight_26 rfl (lv_at hl 5 rfl) ?_
      refine lv_iload hx hb dL_isRight_27 (lv_at hl 1 rfl) ?_
      refine wx_calli (va_runS (As := [.ref (L 0), .int (nI b)]) (rest := []) ⟨hx, hb, hml, hown, hts⟩ (k_seen l hst g base n L (by omega) x r0 hx0 b (by omega)) (va_cwS 2 hts gL_isRight_L_seen rfl rfl rfl (by decide +kernel) ⟨Nat.le_of_ble_eq_true rfl, Nat.le_of_ble_eq_true rfl⟩) (hPW.preS hP hS) rfl rfl hl.1 rfl (lv_room (Nat.le_of_ble_eq_true rfl)) dL_isRight_29 ⟨(by show _ ≤ 3000; omega), (by show _ ≤ 18000; omega)⟩) hS (fun r29 u29 H locs h29 hP hS => ?_)
      obtain rfl : r29 = x 15 b 0 := h29.trans sn_all
      refine lv_istore (lv' := [(10, .int (x 15 b 0)), (9, .int (x 12 b 0)), (8, .int (nI b)), (3, .long (soS x b)), (5, .long (woS x b)), (7, .int (ssF x b)), (0, .ref (L 0)), (1, .ref (L 107)), (2, .ref (L 106))]) hx hb dL_isRight_32 hl (by decide) rfl (fun ls hl => ?_)
      refine lv_iconst (v := 0) hx hb dL_isRight_34 (by decide) ?_
      refine lv_istore (lv' := [(11, .int 0), (10, .int (x 15 b 0)), (9, .int (x 12 b 0)), (8, .int (nI b)), (3, .long (soS x b)), (5, .long (woS x b)), (7, .int (ssF x b)), (0, .ref (L 0)), (1, .ref (L 107)), (2, .ref (L 106))]) hx hb dL_isRight_35 hl (by decide) rfl (fun ls hl => ?_)
      rcases f6 with ⟨e12, e15, e13⟩ | ⟨n9, hn9, e12, ⟨s9, hs9, e13, e15⟩, hof, d9, hd9, eD9, cnt, a9, ha9, hc9, eQ9, hQ9⟩
      · refine lv_iload hx hb dL_isRight_37 (lv_at hl 2 rfl) ?_
        refine lv_iconst (v := (-1)) hx hb dL_isRight_39 (by decide) ?_
        refine lv_icmp_ne (tgt := 67) hx hb dL_isRight_40 (by decide) (fun c40 => absurd c40 (fun h => h e12)) (fun c40 => ?_)
        refine lv_iload hx hb dL_isRight_43 (lv_at hl 1 rfl) ?_
        refine lv_if_ne (tgt := 63) hx hb dL_isRight_45 (by decide) (fun c45 => absurd c45 (fun h => h e15)) (fun c45 => ?_)
        refine lv_aload_n hx hb dL_isRight_48 rfl (lv_at hl 7 rfl) ?_
        refine lv_bipush (v := 6) hx hb dL_isRight_49 (by decide) ?_
        refine lv_iload hx hb dL_isRight_51 (lv_at hl 3 rfl) ?_
        refine wx_calli (va_runS (As := [.ref (L 0), .int 6, .int (nI b)]) (rest := []) ⟨hx, hb, hml, hown, hts⟩ (ak_6 l hst g base n L (by omega) x r0 4 (by omega) hx0 (nI b)) (va_cwS 3 hts gL_isRight_L_ask rfl rfl rfl (by decide +kernel) ⟨Nat.le_of_ble_eq_true rfl, Nat.le_of_ble_eq_true rfl⟩) (hPW.preS hP hS) rfl rfl hl.1 rfl (lv_room (Nat.le_of_ble_eq_true rfl)) dL_isRight_53 ⟨(by show _ ≤ 3000; omega), (by show _ ≤ 18000; omega)⟩) hS (fun r53 u53 H locs h53 hP hS => ?_)
        obtain rfl := od1 (f := fun j => x 13 j 0) (by omega) (by omega) h53
        refine lv_if_ne (tgt := 63) hx hb dL_isRight_56 (by decide) (fun c56 => absurd c56 (fun h => h e13)) (fun c56 => ?_)
        refine lv_iconst (v := 1) hx hb dL_isRight_59 (by decide) ?_
        refine lv_goto (tgt := 92) hx hb dL_isRight_60 (by decide) ?_
        refine lv_istore (lv' := [(12, .int 1), (11, .int 0), (10, .int (x 15 b 0)), (9, .int (x 12 b 0)), (8, .int (nI b)), (3, .long (soS x b)), (5, .long (woS x b)), (7, .int (ssF x b)), (0, .ref (L 0)), (1, .ref (L 107)), (2, .ref (L 106))]) hx hb dL_isRight_92 hl (by decide) rfl (fun ls hl => ?_)
        refine lv_iconst (v := 0) hx hb dL_isRight_94 (by decide) ?_
        refine lv_istore (lv' := [(13, .int 0), (12, .int 1), (11, .int 0), (10, .int (x 15 b 0)), (9, .int (x 12 b 0)), (8, .int (nI b)), (3, .long (soS x b)), (5, .long (woS x b)), (7, .int (ssF x b)), (0, .ref (L 0)), (1, .ref (L 107)), (2, .ref (L 106))]) hx hb dL_isRight_95 hl (by decide) rfl (fun ls hl => ?_)
        have key97 : ∀ (d k : Nat) (y13 : Int32) (y3 : Int64) (y5 : Int64) (y11 : Int32) (y12 : Int32) (H : Heap) (locs : List Loc) (ls : Array Slot), k + d = 32 → (y13 = nI k) → (y3 = slF x b (soS x b) k) → (y5 = wlF x b (woS x b) k) → (y11 = mxF x b k) → (y12 = 1) → va_P g.1 vwCl (wl n L (cw g L x r0)) H → va_S (fun q : Nat => base ≤ q) s.heap H locs → lv_has ls 16 [(13, .int y13), (3, .long y3), (5, .long y5), (11, .int y11), (12, .int y12), (0, .ref (L 0)), (1, .ref (L 107)), (2, .ref (L 106)), (7, .int (ssF x b)), (8, .int (nI b)), (9, .int (x 12 b 0)), (10, .int (x 15 b 0))] → W p l e (headSpec wsL_isRight ({ frames := 16, cells := 3000, slots := 18000, locals := 480 })).room s m ([.ref (L 0), .ref (L 107), .ref (L 106)] : List Value).toArray below meth c H locs (0 + 740 * b + 4 + 128 + 4 + 8 * k) (0 + 4440 * b + 24 + 768 + 24 + 48 * k) (MQ below (va_Qi (fun (r : Int32) (_ : Unit) => r = 1) (fun (u : Unit) t => PB g n L (cw g L x r0) t) (fun q => base ≤ q)) ([.ref (L 0), .ref (L 107), .ref (L 106)] : List Value).toArray s 3000 18000 (fun q => base ≤ q)) (F0 m 97 ls []) := by
          intro d
          induction d with
          | zero =>
            intro k y13 y3 y5 y11 y12 H locs ls hkd ey13 ey3 ey5 ey11 ey12 hP hS hl
            obtain rfl : k = 32 := by omega
            subst ey13 ey3 ey5 ey11 ey12
            refine lv_iload hx hb dL_isRight_97 (lv_at hl 0 rfl) ?_
            refine lv_bipush (v := 32) hx hb dL_isRight_99 (by decide) ?_
            refine lv_icmp_ge (tgt := 229) hx hb dL_isRight_101 (by decide) (fun c101 => ?_) (fun c101 => absurd (by decide) c101)
            refine lv_iload hx hb dL_isRight_229 (lv_at hl 4 rfl) ?_
            refine lv_if_eq (tgt := 279) hx hb dL_isRight_231 (by decide) (fun c231 => absurd c231 (by decide)) (fun c231 => ?_)
            refine lv_aload_n hx hb dL_isRight_234 rfl (lv_at hl 5 rfl) ?_
            refine lv_bipush (v := 23) hx hb dL_isRight_235 (by decide) ?_
            refine lv_iload hx hb dL_isRight_237 (lv_at hl 9 rfl) ?_
            refine wx_calli (va_runS (As := [.ref (L 0), .int 23, .int (nI b)]) (rest := []) ⟨hx, hb, hml, hown, hts⟩ (ak_23 l hst g base n L (by omega) x r0 4 (by omega) hx0 (nI b)) (va_cwS 3 hts gL_isRight_L_ask rfl rfl rfl (by decide +kernel) ⟨Nat.le_of_ble_eq_true rfl, Nat.le_of_ble_eq_true rfl⟩) (hPW.preS hP hS) rfl rfl hl.1 rfl (lv_room (Nat.le_of_ble_eq_true rfl)) dL_isRight_239 ⟨(by show _ ≤ 3000; omega), (by show _ ≤ 18000; omega)⟩) hS (fun r239 u239 H locs h239 hP hS => ?_)
            obtain rfl := od1 (f := fun j => x 16 j 0) (by omega) (by omega) h239
            refine lv_iload hx hb dL_isRight_242 (lv_at hl 3 rfl) ?_
            refine lv_icmp_ne (tgt := 279) hx hb dL_isRight_244 (by decide) (fun c244 => absurd c244 (fun h => h f3)) (fun c244 => ?_)
            refine lv_aload_n hx hb dL_isRight_247 rfl (lv_at hl 5 rfl) ?_
            refine lv_iconst (v := 2) hx hb dL_isRight_248 (by decide) ?_
            refine lv_iload hx hb dL_isRight_249 (lv_at hl 9 rfl) ?_
            refine wx_calli (va_runS (As := [.ref (L 0), .int 2, .int (nI b)]) (rest := []) ⟨hx, hb, hml, hown, hts⟩ (ak_2 l hst g base n L (by omega) x r0 4 (by omega) hx0 (nI b)) (va_cwS 3 hts gL_isRight_L_ask rfl rfl rfl (by decide +kernel) ⟨Nat.le_of_ble_eq_true rfl, Nat.le_of_ble_eq_true rfl⟩) (hPW.preS hP hS) rfl rfl hl.1 rfl (lv_room (Nat.le_of_ble_eq_true rfl)) dL_isRight_251 ⟨(by show _ ≤ 3000; omega), (by show _ ≤ 18000; omega)⟩) hS (fun r251 u251 H locs h251 hP hS => ?_)
            obtain rfl := od1 (f := fun j => x 11 j 0) (by omega) (by omega) h251
            refine lv_iload hx hb dL_isRight_254 (lv_at hl 11 rfl) ?_
            refine wx_calli (va_runS (As := [.int (x 15 b 0)]) (rest := [.int (x 11 b 0)]) ⟨hx, hb, hml, hown, hts⟩ (k_bitCount l hst g base n L (cw g L x r0) (x 15 b 0)) (va_cwS 1 hts gL_isRight_J6_bitCount_0f7a4 rfl rfl rfl (by decide +kernel) ⟨Nat.le_of_ble_eq_true rfl, Nat.le_of_ble_eq_true rfl⟩) (hPW.preS hP hS) rfl rfl hl.1 rfl (lv_room (Nat.le_of_ble_eq_true rfl)) dL_isRight_256 ⟨(by show _ ≤ 3000; omega), (by show _ ≤ 18000; omega)⟩) hS (fun r256 u256 H locs h256 hP hS => ?_)
            obtain rfl := h256
            refine lv_icmp_lt (tgt := 279) hx hb dL_isRight_259 (by decide) (fun c259 => absurd c259 (Int32.not_lt.mpr f5)) (fun c259 => ?_)
            refine lv_aload_n hx hb dL_isRight_262 rfl (lv_at hl 5 rfl) ?_
            refine lv_iconst (v := 2) hx hb dL_isRight_263 (by decide) ?_
            refine lv_iload hx hb dL_isRight_264 (lv_at hl 9 rfl) ?_
            refine wx_calli (va_runS (As := [.ref (L 0), .int 2, .int (nI b)]) (rest := []) ⟨hx, hb, hml, hown, hts⟩ (ak_2 l hst g base n L (by omega) x r0 4 (by omega) hx0 (nI b)) (va_cwS 3 hts gL_isRight_L_ask rfl rfl rfl (by decide +kernel) ⟨Nat.le_of_ble_eq_true rfl, Nat.le_of_ble_eq_true rfl⟩) (hPW.preS hP hS) rfl rfl hl.1 rfl (lv_room (Nat.le_of_ble_eq_true rfl)) dL_isRight_266 ⟨(by show _ ≤ 3000; omega), (by show _ ≤ 18000; omega)⟩) hS (fun r266 u266 H locs h266 hP hS => ?_)
            obtain rfl := od1 (f := fun j => x 11 j 0) (by omega) (by omega) h266
            refine lv_sipush (v := 200) hx hb dL_isRight_269 (by decide) ?_
            refine lv_icmp_gt (tgt := 279) hx hb dL_isRight_272 (by decide) (fun c272 => absurd c272 (Int32.not_lt.mpr f5b)) (fun c272 => ?_)
            refine lv_iconst (v := 1) hx hb dL_isRight_275 (by decide) ?_
            refine lv_goto (tgt := 280) hx hb dL_isRight_276 (by decide) ?_
            refine lv_istore (lv' := [(12, .int 1), (13, .int (nI 32)), (3, .long (slF x b (soS x b) 32)), (5, .long (wlF x b (woS x b) 32)), (11, .int (mxF x b 32)), (0, .ref (L 0)), (1, .ref (L 107)), (2, .ref (L 106)), (7, .int (ssF x b)), (8, .int (nI b)), (9, .int (x 12 b 0)), (10, .int (x 15 b 0))]) hx hb dL_isRight_280 hl (by decide) rfl (fun ls hl => ?_)
            refine lv_iload hx hb dL_isRight_282 (lv_at hl 10 rfl) ?_
            refine lv_iconst (v := (-1)) hx hb dL_isRight_284 (by decide) ?_
            refine lv_icmp_eq (tgt := 378) hx hb dL_isRight_285 (by decide) (fun c285 => ?_) (fun c285 => absurd (e12) c285)
            refine lv_iload hx hb dL_isRight_378 (lv_at hl 0 rfl) ?_
            refine lv_if_ne (tgt := 385) hx hb dL_isRight_380 (by decide) (fun c380 => ?_) (fun c380 => absurd c380 (by decide))
            obtain ⟨z385, ez385⟩ : ∃ y : Int32, y = nI b + 1 := ⟨_, rfl⟩
            refine lv_iinc (v := z385) (lv' := [(8, .int z385), (12, .int 1), (13, .int (nI 32)), (3, .long (slF x b (soS x b) 32)), (5, .long (wlF x b (woS x b) 32)), (11, .int (mxF x b 32)), (0, .ref (L 0)), (1, .ref (L 107)), (2, .ref (L 106)), (7, .int (ssF x b)), (9, .int (x 12 b 0)), (10, .int (x 15 b 0))]) hx hb dL_isRight_385 hl (k := 9) rfl (by rw [ez385]; rfl) (by decide) rfl (fun ls hl => ?_)
            refine lv_goto (tgt := 11) hx hb dL_isRight_388 (by decide) ?_
            refine W.widen (k := 0 + 740 * (b + 1)) (n := 0 + 4440 * (b + 1)) (by omega) (by omega) ?_
            exact ihb (b + 1) _ _ _ _ _ _ _ (by omega) (by rw [ez385, nI_1]) rfl rfl ((ss_t e12).symm) hP hS (lv_sub hl [0, 3, 4, 9, 6, 7, 8] rfl)
          | succ d ih =>
            intro k y13 y3 y5 y11 y12 H locs ls hkd ey13 ey3 ey5 ey11 ey12 hP hS hl
            have hkN : k < 32 := by omega
            subst ey13 ey3 ey5 ey11 ey12
            refine lv_iload hx hb dL_isRight_97 (lv_at hl 0 rfl) ?_
            refine lv_bipush (v := 32) hx hb dL_isRight_99 (by decide) ?_
            refine lv_icmp_ge (tgt := 229) hx hb dL_isRight_101 (by decide) (fun c101 => absurd c101 (nI_ge (b := 32) hkN (by decide))) (fun c101 => ?_)
            refine lv_aload_n hx hb dL_isRight_104 rfl (lv_at hl 5 rfl) ?_
            refine lv_iconst (v := 4) hx hb dL_isRight_105 (by decide) ?_
            refine lv_iload hx hb dL_isRight_106 (lv_at hl 9 rfl) ?_
            refine lv_iload hx hb dL_isRight_108 (lv_at hl 0 rfl) ?_
            refine lv_bipush (v := 8) hx hb dL_isRight_110 (by decide) ?_
            refine lv_irem hx hb dL_isRight_112 (by decide) ?_
            refine lv_iload hx hb dL_isRight_113 (lv_at hl 0 rfl) ?_
            refine lv_bipush (v := 8) hx hb dL_isRight_115 (by decide) ?_
            refine lv_idiv hx hb dL_isRight_117 (by decide) ?_
            refine lv_iconst (v := 0) hx hb dL_isRight_118 (by decide) ?_
            refine wx_calli (vx_runSW (As := [.ref (L 0), .int 4, .int (nI b), .int ((nI k) - (nI k) / 8 * 8), .int ((nI k) / 8), .int 0]) (rest := []) ⟨hx, hb, hml, hown, hts⟩ (dd_4 l hst g base n L (by omega) x r0 4 (by omega) hx0 (nI b) ((nI k) - (nI k) / 8 * 8) ((nI k) / 8) 0) (vx_cwSW 6 hts gL_isRight_L_deed rfl rfl rfl (by decide +kernel) ⟨Nat.le_of_ble_eq_true rfl, Nat.le_of_ble_eq_true rfl⟩) (hPW.preS hP hS) rfl rfl hl.1 rfl (lv_room (Nat.le_of_ble_eq_true rfl)) dL_isRight_119 ⟨(by show _ ≤ 3000; omega), (by show _ ≤ 18000; omega)⟩) hS (fun r119 u119 H locs h119 hP hS => ?_)
            obtain rfl : r119 = x 20 b k := (od3 (f := fun j => wearF x j (8 * ((nI k) / 8) + ((nI k) - (nI k) / 8 * 8))) (by omega) (by omega) (kd8r (by omega)) h119).trans (by rw [kd8e (by omega)]; exact wearF_v (by omega))
            refine lv_istore (lv' := [(14, .int (x 20 b k)), (13, .int (nI k)), (3, .long (slF x b (soS x b) k)), (5, .long (wlF x b (woS x b) k)), (11, .int (mxF x b k)), (12, .int 1), (0, .ref (L 0)), (1, .ref (L 107)), (2, .ref (L 106)), (7, .int (ssF x b)), (8, .int (nI b)), (9, .int (x 12 b 0)), (10, .int (x 15 b 0))]) hx hb dL_isRight_122 hl (by decide) rfl (fun ls hl => ?_)
            refine lv_iload hx hb dL_isRight_124 (lv_at hl 12 rfl) ?_
            refine lv_iload hx hb dL_isRight_126 (lv_at hl 1 rfl) ?_
            refine lv_iushr hx hb dL_isRight_128 rfl ?_
            refine lv_iconst (v := 1) hx hb dL_isRight_129 (by decide) ?_
            refine lv_iand hx hb dL_isRight_130 ?_
            refine lv_topi (fun z9 ez9 => ?_)
            obtain rfl : z9 = bitF (x 15 b 0) (nI k) := ez9
            refine lv_istore (lv' := [(15, .int (bitF (x 15 b 0) (nI k))), (14, .int (x 20 b k)), (13, .int (nI k)), (3, .long (slF x b (soS x b) k)), (5, .long (wlF x b (woS x b) k)), (11, .int (mxF x b k)), (12, .int 1), (0, .ref (L 0)), (1, .ref (L 107)), (2, .ref (L 106)), (7, .int (ssF x b)), (8, .int (nI b)), (9, .int (x 12 b 0)), (10, .int (x 15 b 0))]) hx hb dL_isRight_131 hl (by decide) rfl (fun ls hl => ?_)
            refine lv_iload hx hb dL_isRight_133 (lv_at hl 5 rfl) ?_
            refine lv_iload hx hb dL_isRight_135 (lv_at hl 1 rfl) ?_
            refine va_mmax hx hb (hml.trans hl.1.symm) hown (hts (.methodLink RL 132 Lib.Math.max.name) (by decide +kernel)) (hts (.static Lib.Math.max.name) (by decide +kernel)) (hts (.initialized "java/lang/Math") (by decide +kernel)) (hts (.code Lib.Math.max.name Lib.Math.max.code 2 (some .int)) (by decide +kernel)) (by first | exact Nat.le_of_ble_eq_true rfl | (show _ ≤ 3000; omega) | (show _ ≤ 18000; omega)) (by first | exact Nat.le_of_ble_eq_true rfl | (show _ ≤ 3000; omega) | (show _ ≤ 18000; omega)) (by first | exact Nat.le_of_ble_eq_true rfl | (show _ ≤ 3000; omega) | (show _ ≤ 18000; omega)) (by first | exact Nat.le_of_ble_eq_true rfl | (show _ ≤ 3000; omega) | (show _ ≤ 18000; omega)) dL_isRight_137 ?_
            refine lv_istore (lv' := [(11, .int (if (mxF x b k) < (x 20 b k) then (x 20 b k) else (mxF x b k))), (15, .int (bitF (x 15 b 0) (nI k))), (14, .int (x 20 b k)), (13, .int (nI k)), (3, .long (slF x b (soS x b) k)), (5, .long (wlF x b (woS x b) k)), (12, .int 1), (0, .ref (L 0)), (1, .ref (L 107)), (2, .ref (L 106)), (7, .int (ssF x b)), (8, .int (nI b)), (9, .int (x 12 b 0)), (10, .int (x 15 b 0))]) hx hb dL_isRight_140 hl (by decide) rfl (fun ls hl => ?_)
            refine lv_lload hx hb dL_isRight_142 (lv_at hl 5 rfl) ?_
            refine lv_iload hx hb dL_isRight_144 (lv_at hl 2 rfl) ?_
            refine lv_i2l hx hb dL_isRight_146 rfl ?_
            refine lv_ladd hx hb dL_isRight_147 ?_
            refine lv_lstore (lv' := [(5, .long ((wlF x b (woS x b) k) + ((x 20 b k).toInt64))), (11, .int (if (mxF x b k) < (x 20 b k) then (x 20 b k) else (mxF x b k))), (15, .int (bitF (x 15 b 0) (nI k))), (14, .int (x 20 b k)), (13, .int (nI k)), (3, .long (slF x b (soS x b) k)), (12, .int 1), (0, .ref (L 0)), (1, .ref (L 107)), (2, .ref (L 106)), (7, .int (ssF x b)), (8, .int (nI b)), (9, .int (x 12 b 0)), (10, .int (x 15 b 0))]) hx hb dL_isRight_148 hl (by decide) rfl (fun ls hl => ?_)
            refine lv_ldc2 (v := 31) hx hb hown (hts (.constantLong RL 137 31) (by decide +kernel)) dL_isRight_150 ?_
            refine lv_lload_n hx hb dL_isRight_153 rfl (lv_at hl 5 rfl) ?_
            refine lv_lmul hx hb dL_isRight_154 ?_
            refine lv_iload hx hb dL_isRight_155 (lv_at hl 2 rfl) ?_
            refine lv_i2l hx hb dL_isRight_157 rfl ?_
            refine lv_ladd hx hb dL_isRight_158 ?_
            refine lv_ldc2 (v := 2) hx hb hown (hts (.constantLong RL 139 2) (by decide +kernel)) dL_isRight_159 ?_
            refine lv_iload hx hb dL_isRight_162 (lv_at hl 3 rfl) ?_
            refine lv_i2l hx hb dL_isRight_164 rfl ?_
            refine lv_lmul hx hb dL_isRight_165 ?_
            refine lv_ladd hx hb dL_isRight_166 ?_
            refine lv_lstore_n (lv' := [(3, .long (((31 * (slF x b (soS x b) k)) + ((bitF (x 15 b 0) (nI k)).toInt64)) + (2 * ((x 20 b k).toInt64)))), (5, .long ((wlF x b (woS x b) k) + ((x 20 b k).toInt64))), (11, .int (if (mxF x b k) < (x 20 b k) then (x 20 b k) else (mxF x b k))), (15, .int (bitF (x 15 b 0) (nI k))), (14, .int (x 20 b k)), (13, .int (nI k)), (12, .int 1), (0, .ref (L 0)), (1, .ref (L 107)), (2, .ref (L 106)), (7, .int (ssF x b)), (8, .int (nI b)), (9, .int (x 12 b 0)), (10, .int (x 15 b 0))]) hx hb dL_isRight_167 rfl hl (by decide) rfl (fun ls hl => ?_)
            refine lv_iload hx hb dL_isRight_168 (lv_at hl 6 rfl) ?_
            refine lv_if_eq (tgt := 220) hx hb dL_isRight_170 (by decide) (fun c170 => absurd c170 (by decide)) (fun c170 => ?_)
            refine lv_iload hx hb dL_isRight_173 (lv_at hl 4 rfl) ?_
            refine lv_iload hx hb dL_isRight_175 (lv_at hl 3 rfl) ?_
            refine lv_iadd hx hb dL_isRight_177 ?_
            refine lv_bipush (v := 60) hx hb dL_isRight_178 (by decide) ?_
            refine lv_icmp_gt (tgt := 220) hx hb dL_isRight_180 (by decide) (fun c180 => absurd c180 (Int32.not_lt.mpr (f12 k hkN).1)) (fun c180 => ?_)
            refine lv_aload_n hx hb dL_isRight_183 rfl (lv_at hl 7 rfl) ?_
            refine lv_bipush (v := 22) hx hb dL_isRight_184 (by decide) ?_
            refine lv_iload hx hb dL_isRight_186 (lv_at hl 11 rfl) ?_
            refine lv_iload hx hb dL_isRight_188 (lv_at hl 5 rfl) ?_
            refine lv_bipush (v := 8) hx hb dL_isRight_190 (by decide) ?_
            refine lv_irem hx hb dL_isRight_192 (by decide) ?_
            refine lv_iload hx hb dL_isRight_193 (lv_at hl 5 rfl) ?_
            refine lv_bipush (v := 8) hx hb dL_isRight_195 (by decide) ?_
            refine lv_idiv hx hb dL_isRight_197 (by decide) ?_
            refine lv_iconst (v := 0) hx hb dL_isRight_198 (by decide) ?_
            refine wx_calli (vx_runSW (As := [.ref (L 0), .int 22, .int (nI b), .int ((nI k) - (nI k) / 8 * 8), .int ((nI k) / 8), .int 0]) (rest := []) ⟨hx, hb, hml, hown, hts⟩ (dd_22 l hst g base n L (by omega) x r0 4 (by omega) hx0 (tcF x) hG.tc4 hG.x194 (nI b) ((nI k) - (nI k) / 8 * 8) ((nI k) / 8) 0) (vx_cwSW 6 hts gL_isRight_L_deed rfl rfl rfl (by decide +kernel) ⟨Nat.le_of_ble_eq_true rfl, Nat.le_of_ble_eq_true rfl⟩) (hPW.preS hP hS) rfl rfl hl.1 rfl (lv_room (Nat.le_of_ble_eq_true rfl)) dL_isRight_199 ⟨(by show _ ≤ 3000; omega), (by show _ ≤ 18000; omega)⟩) hS (fun r199 u199 H locs h199 hP hS => ?_)
            obtain rfl : r199 = bitF (x 15 b 0) (nI k) := (od3 (f := fun j => bitF (xorF x j (tcF x j)) (8 * ((nI k) / 8) + ((nI k) - (nI k) / 8 * 8))) (by omega) (by omega) (kd8r (by omega)) h199).trans (by rw [kd8e (by omega), f4])
            refine lv_iload hx hb dL_isRight_202 (lv_at hl 3 rfl) ?_
            refine lv_icmp_ne (tgt := 220) hx hb dL_isRight_204 (by decide) (fun c204 => absurd c204 (fun h => h rfl)) (fun c204 => ?_)
            refine lv_iload hx hb dL_isRight_207 (lv_at hl 4 rfl) ?_
            refine lv_iconst (v := 2) hx hb dL_isRight_209 (by decide) ?_
            refine lv_irem hx hb dL_isRight_210 (by decide) ?_
            refine lv_iload hx hb dL_isRight_211 (lv_at hl 3 rfl) ?_
            refine lv_icmp_ne (tgt := 220) hx hb dL_isRight_213 (by decide) (fun c213 => absurd c213 (fun h => h (f12 k hkN).2)) (fun c213 => ?_)
            refine lv_iconst (v := 1) hx hb dL_isRight_216 (by decide) ?_
            refine lv_goto (tgt := 221) hx hb dL_isRight_217 (by decide) ?_
            refine lv_istore (lv' := [(12, .int 1), (3, .long (((31 * (slF x b (soS x b) k)) + ((bitF (x 15 b 0) (nI k)).toInt64)) + (2 * ((x 20 b k).toInt64)))), (5, .long ((wlF x b (woS x b) k) + ((x 20 b k).toInt64))), (11, .int (if (mxF x b k) < (x 20 b k) then (x 20 b k) else (mxF x b k))), (15, .int (bitF (x 15 b 0) (nI k))), (14, .int (x 20 b k)), (13, .int (nI k)), (0, .ref (L 0)), (1, .ref (L 107)), (2, .ref (L 106)), (7, .int (ssF x b)), (8, .int (nI b)), (9, .int (x 12 b 0)), (10, .int (x 15 b 0))]) hx hb dL_isRight_221 hl (by decide) rfl (fun ls hl => ?_)
            obtain ⟨z223, ez223⟩ : ∃ y : Int32, y = nI k + 1 := ⟨_, rfl⟩
            refine lv_iinc (v := z223) (lv' := [(13, .int z223), (12, .int 1), (3, .long (((31 * (slF x b (soS x b) k)) + ((bitF (x 15 b 0) (nI k)).toInt64)) + (2 * ((x 20 b k).toInt64)))), (5, .long ((wlF x b (woS x b) k) + ((x 20 b k).toInt64))), (11, .int (if (mxF x b k) < (x 20 b k) then (x 20 b k) else (mxF x b k))), (15, .int (bitF (x 15 b 0) (nI k))), (14, .int (x 20 b k)), (0, .ref (L 0)), (1, .ref (L 107)), (2, .ref (L 106)), (7, .int (ssF x b)), (8, .int (nI b)), (9, .int (x 12 b 0)), (10, .int (x 15 b 0))]) hx hb dL_isRight_223 hl (k := 6) rfl (by rw [ez223]; rfl) (by decide) rfl (fun ls hl => ?_)
            refine lv_goto (tgt := 97) hx hb dL_isRight_226 (by decide) ?_
            refine W.widen (k := 0 + 740 * b + 4 + 128 + 4 + 8 * (k + 1)) (n := 0 + 4440 * b + 24 + 768 + 24 + 48 * (k + 1)) (by omega) (by omega) ?_
            exact ih (k + 1) _ _ _ _ _ _ _ _ (by omega) (by rw [ez223, nI_1]) rfl rfl rfl rfl hP hS (lv_sub hl [0, 2, 3, 4, 1, 7, 8, 9, 10, 11, 12, 13] rfl)
        refine W.widen (k := 0 + 740 * b + 4 + 128 + 4 + 8 * 0) (n := 0 + 4440 * b + 24 + 768 + 24 + 48 * 0) (by omega) (by omega) ?_
        exact key97 32 0 _ _ _ _ _ _ _ _ (by omega) rfl rfl rfl rfl rfl hP hS (lv_sub hl [0, 6, 7, 2, 1, 9, 10, 11, 8, 5, 4, 3] rfl)
      · rw [e12] at hl
        refine lv_iload hx hb dL_isRight_37 (lv_at hl 2 rfl) ?_
        refine lv_iconst (v := (-1)) hx hb dL_isRight_39 (by decide) ?_
        refine lv_icmp_ne (tgt := 67) hx hb dL_isRight_40 (by decide) (fun c40 => ?_) (fun c40 => absurd c40 (nI_ne (by omega)))
        refine lv_iload hx hb dL_isRight_67 (lv_at hl 1 rfl) ?_
        refine lv_aload_n hx hb dL_isRight_69 rfl (lv_at hl 8 rfl) ?_
        refine lv_iload hx hb dL_isRight_70 (lv_at hl 2 rfl) ?_
        refine wx_ialdv (D := g.1) (cl := vwCl) (f := P) (v := P n9) hx hb hK hP (107) 0 (by omega) ((cw_ge (by decide)).trans h107) rfl (i := nI n9) (vp_in_nI (by omega) (by decide)) (by rw [nI_clamp (by omega)]) dL_isRight_72 ?_
        refine lv_aload_n hx hb dL_isRight_73 rfl (lv_at hl 7 rfl) ?_
        refine lv_bipush (v := 6) hx hb dL_isRight_74 (by decide) ?_
        refine lv_iload hx hb dL_isRight_76 (lv_at hl 3 rfl) ?_
        refine wx_calli (va_runS (As := [.ref (L 0), .int 6, .int (nI b)]) (rest := [.int (P n9), .int (x 15 b 0)]) ⟨hx, hb, hml, hown, hts⟩ (ak_6 l hst g base n L (by omega) x r0 4 (by omega) hx0 (nI b)) (va_cwS 3 hts gL_isRight_L_ask rfl rfl rfl (by decide +kernel) ⟨Nat.le_of_ble_eq_true rfl, Nat.le_of_ble_eq_true rfl⟩) (hPW.preS hP hS) rfl rfl hl.1 rfl (lv_room (Nat.le_of_ble_eq_true rfl)) dL_isRight_78 ⟨(by show _ ≤ 3000; omega), (by show _ ≤ 18000; omega)⟩) hS (fun r78 u78 H locs h78 hP hS => ?_)
        obtain rfl := od1 (f := fun j => x 13 j 0) (by omega) (by omega) h78
        refine wx_calli (va_runS (As := [.int (P n9), .int (x 13 b 0)]) (rest := [.int (x 15 b 0)]) ⟨hx, hb, hml, hown, hts⟩ (k_lshifted l hst g base n L (cw g L x r0) (P n9) (x 13 b 0) s9 (by omega) e13) (va_cwS 2 hts gL_isRight_L_shifted rfl rfl rfl (by decide +kernel) ⟨Nat.le_of_ble_eq_true rfl, Nat.le_of_ble_eq_true rfl⟩) (hPW.preS hP hS) rfl rfl hl.1 rfl (lv_room (Nat.le_of_ble_eq_true rfl)) dL_isRight_81 ⟨(by show _ ≤ 3000; omega), (by show _ ≤ 18000; omega)⟩) hS (fun r81 u81 H locs h81 hP hS => ?_)
        obtain rfl := h81
        refine lv_icmp_ne (tgt := 91) hx hb dL_isRight_84 (by decide) (fun c84 => absurd c84 (fun h => h e15)) (fun c84 => ?_)
        refine lv_iconst (v := 1) hx hb dL_isRight_87 (by decide) ?_
        refine lv_goto (tgt := 92) hx hb dL_isRight_88 (by decide) ?_
        refine lv_istore (lv' := [(12, .int 1), (11, .int 0), (10, .int (x 15 b 0)), (9, .int (nI n9)), (8, .int (nI b)), (3, .long (soS x b)), (5, .long (woS x b)), (7, .int (ssF x b)), (0, .ref (L 0)), (1, .ref (L 107)), (2, .ref (L 106))]) hx hb dL_isRight_92 hl (by decide) rfl (fun ls hl => ?_)
        refine lv_iconst (v := 0) hx hb dL_isRight_94 (by decide) ?_
        refine lv_istore (lv' := [(13, .int 0), (12, .int 1), (11, .int 0), (10, .int (x 15 b 0)), (9, .int (nI n9)), (8, .int (nI b)), (3, .long (soS x b)), (5, .long (woS x b)), (7, .int (ssF x b)), (0, .ref (L 0)), (1, .ref (L 107)), (2, .ref (L 106))]) hx hb dL_isRight_95 hl (by decide) rfl (fun ls hl => ?_)
        have key97 : ∀ (d k : Nat) (y13 : Int32) (y3 : Int64) (y5 : Int64) (y11 : Int32) (y12 : Int32) (H : Heap) (locs : List Loc) (ls : Array Slot), k + d = 32 → (y13 = nI k) → (y3 = slF x b (soS x b) k) → (y5 = wlF x b (woS x b) k) → (y11 = mxF x b k) → (y12 = 1) → va_P g.1 vwCl (wl n L (cw g L x r0)) H → va_S (fun q : Nat => base ≤ q) s.heap H locs → lv_has ls 16 [(13, .int y13), (3, .long y3), (5, .long y5), (11, .int y11), (12, .int y12), (0, .ref (L 0)), (1, .ref (L 107)), (2, .ref (L 106)), (7, .int (ssF x b)), (8, .int (nI b)), (9, .int (nI n9)), (10, .int (x 15 b 0))] → W p l e (headSpec wsL_isRight ({ frames := 16, cells := 3000, slots := 18000, locals := 480 })).room s m ([.ref (L 0), .ref (L 107), .ref (L 106)] : List Value).toArray below meth c H locs (0 + 740 * b + 4 + 128 + 4 + 0 + 8 * k) (0 + 4440 * b + 24 + 768 + 24 + 0 + 48 * k) (MQ below (va_Qi (fun (r : Int32) (_ : Unit) => r = 1) (fun (u : Unit) t => PB g n L (cw g L x r0) t) (fun q => base ≤ q)) ([.ref (L 0), .ref (L 107), .ref (L 106)] : List Value).toArray s 3000 18000 (fun q => base ≤ q)) (F0 m 97 ls []) := by
          intro d
          induction d with
          | zero =>
            intro k y13 y3 y5 y11 y12 H locs ls hkd ey13 ey3 ey5 ey11 ey12 hP hS hl
            obtain rfl : k = 32 := by omega
            subst ey13 ey3 ey5 ey11 ey12
            refine lv_iload hx hb dL_isRight_97 (lv_at hl 0 rfl) ?_
            refine lv_bipush (v := 32) hx hb dL_isRight_99 (by decide) ?_
            refine lv_icmp_ge (tgt := 229) hx hb dL_isRight_101 (by decide) (fun c101 => ?_) (fun c101 => absurd (by decide) c101)
            refine lv_iload hx hb dL_isRight_229 (lv_at hl 4 rfl) ?_
            refine lv_if_eq (tgt := 279) hx hb dL_isRight_231 (by decide) (fun c231 => absurd c231 (by decide)) (fun c231 => ?_)
            refine lv_aload_n hx hb dL_isRight_234 rfl (lv_at hl 5 rfl) ?_
            refine lv_bipush (v := 23) hx hb dL_isRight_235 (by decide) ?_
            refine lv_iload hx hb dL_isRight_237 (lv_at hl 9 rfl) ?_
            refine wx_calli (va_runS (As := [.ref (L 0), .int 23, .int (nI b)]) (rest := []) ⟨hx, hb, hml, hown, hts⟩ (ak_23 l hst g base n L (by omega) x r0 4 (by omega) hx0 (nI b)) (va_cwS 3 hts gL_isRight_L_ask rfl rfl rfl (by decide +kernel) ⟨Nat.le_of_ble_eq_true rfl, Nat.le_of_ble_eq_true rfl⟩) (hPW.preS hP hS) rfl rfl hl.1 rfl (lv_room (Nat.le_of_ble_eq_true rfl)) dL_isRight_239 ⟨(by show _ ≤ 3000; omega), (by show _ ≤ 18000; omega)⟩) hS (fun r239 u239 H locs h239 hP hS => ?_)
            obtain rfl := od1 (f := fun j => x 16 j 0) (by omega) (by omega) h239
            refine lv_iload hx hb dL_isRight_242 (lv_at hl 3 rfl) ?_
            refine lv_icmp_ne (tgt := 279) hx hb dL_isRight_244 (by decide) (fun c244 => absurd c244 (fun h => h f3)) (fun c244 => ?_)
            refine lv_aload_n hx hb dL_isRight_247 rfl (lv_at hl 5 rfl) ?_
            refine lv_iconst (v := 2) hx hb dL_isRight_248 (by decide) ?_
            refine lv_iload hx hb dL_isRight_249 (lv_at hl 9 rfl) ?_
            refine wx_calli (va_runS (As := [.ref (L 0), .int 2, .int (nI b)]) (rest := []) ⟨hx, hb, hml, hown, hts⟩ (ak_2 l hst g base n L (by omega) x r0 4 (by omega) hx0 (nI b)) (va_cwS 3 hts gL_isRight_L_ask rfl rfl rfl (by decide +kernel) ⟨Nat.le_of_ble_eq_true rfl, Nat.le_of_ble_eq_true rfl⟩) (hPW.preS hP hS) rfl rfl hl.1 rfl (lv_room (Nat.le_of_ble_eq_true rfl)) dL_isRight_251 ⟨(by show _ ≤ 3000; omega), (by show _ ≤ 18000; omega)⟩) hS (fun r251 u251 H locs h251 hP hS => ?_)
            obtain rfl := od1 (f := fun j => x 11 j 0) (by omega) (by omega) h251
            refine lv_iload hx hb dL_isRight_254 (lv_at hl 11 rfl) ?_
            refine wx_calli (va_runS (As := [.int (x 15 b 0)]) (rest := [.int (x 11 b 0)]) ⟨hx, hb, hml, hown, hts⟩ (k_bitCount l hst g base n L (cw g L x r0) (x 15 b 0)) (va_cwS 1 hts gL_isRight_J6_bitCount_0f7a4 rfl rfl rfl (by decide +kernel) ⟨Nat.le_of_ble_eq_true rfl, Nat.le_of_ble_eq_true rfl⟩) (hPW.preS hP hS) rfl rfl hl.1 rfl (lv_room (Nat.le_of_ble_eq_true rfl)) dL_isRight_256 ⟨(by show _ ≤ 3000; omega), (by show _ ≤ 18000; omega)⟩) hS (fun r256 u256 H locs h256 hP hS => ?_)
            obtain rfl := h256
            refine lv_icmp_lt (tgt := 279) hx hb dL_isRight_259 (by decide) (fun c259 => absurd c259 (Int32.not_lt.mpr f5)) (fun c259 => ?_)
            refine lv_aload_n hx hb dL_isRight_262 rfl (lv_at hl 5 rfl) ?_
            refine lv_iconst (v := 2) hx hb dL_isRight_263 (by decide) ?_
            refine lv_iload hx hb dL_isRight_264 (lv_at hl 9 rfl) ?_
            refine wx_calli (va_runS (As := [.ref (L 0), .int 2, .int (nI b)]) (rest := []) ⟨hx, hb, hml, hown, hts⟩ (ak_2 l hst g base n L (by omega) x r0 4 (by omega) hx0 (nI b)) (va_cwS 3 hts gL_isRight_L_ask rfl rfl rfl (by decide +kernel) ⟨Nat.le_of_ble_eq_true rfl, Nat.le_of_ble_eq_true rfl⟩) (hPW.preS hP hS) rfl rfl hl.1 rfl (lv_room (Nat.le_of_ble_eq_true rfl)) dL_isRight_266 ⟨(by show _ ≤ 3000; omega), (by show _ ≤ 18000; omega)⟩) hS (fun r266 u266 H locs h266 hP hS => ?_)
            obtain rfl := od1 (f := fun j => x 11 j 0) (by omega) (by omega) h266
            refine lv_sipush (v := 200) hx hb dL_isRight_269 (by decide) ?_
            refine lv_icmp_gt (tgt := 279) hx hb dL_isRight_272 (by decide) (fun c272 => absurd c272 (Int32.not_lt.mpr f5b)) (fun c272 => ?_)
            refine lv_iconst (v := 1) hx hb dL_isRight_275 (by decide) ?_
            refine lv_goto (tgt := 280) hx hb dL_isRight_276 (by decide) ?_
            refine lv_istore (lv' := [(12, .int 1), (13, .int (nI 32)), (3, .long (slF x b (soS x b) 32)), (5, .long (wlF x b (woS x b) 32)), (11, .int (mxF x b 32)), (0, .ref (L 0)), (1, .ref (L 107)), (2, .ref (L 106)), (7, .int (ssF x b)), (8, .int (nI b)), (9, .int (nI n9)), (10, .int (x 15 b 0))]) hx hb dL_isRight_280 hl (by decide) rfl (fun ls hl => ?_)
            refine lv_iload hx hb dL_isRight_282 (lv_at hl 10 rfl) ?_
            refine lv_iconst (v := (-1)) hx hb dL_isRight_284 (by decide) ?_
            refine lv_icmp_eq (tgt := 378) hx hb dL_isRight_285 (by decide) (fun c285 => absurd c285 (nI_ne (by omega))) (fun c285 => ?_)
            obtain ⟨z288, ez288⟩ : ∃ y : Int32, y = ssF x b + 1 := ⟨_, rfl⟩
            refine lv_iinc (v := z288) (lv' := [(7, .int z288), (12, .int 1), (13, .int (nI 32)), (3, .long (slF x b (soS x b) 32)), (5, .long (wlF x b (woS x b) 32)), (11, .int (mxF x b 32)), (0, .ref (L 0)), (1, .ref (L 107)), (2, .ref (L 106)), (8, .int (nI b)), (9, .int (nI n9)), (10, .int (x 15 b 0))]) hx hb dL_isRight_288 hl (k := 8) rfl (by rw [ez288]; rfl) (by decide) rfl (fun ls hl => ?_)
            refine lv_iconst (v := 0) hx hb dL_isRight_291 (by decide) ?_
            refine lv_istore (lv' := [(13, .int 0), (7, .int z288), (12, .int 1), (3, .long (slF x b (soS x b) 32)), (5, .long (wlF x b (woS x b) 32)), (11, .int (mxF x b 32)), (0, .ref (L 0)), (1, .ref (L 107)), (2, .ref (L 106)), (8, .int (nI b)), (9, .int (nI n9)), (10, .int (x 15 b 0))]) hx hb dL_isRight_292 hl (by decide) rfl (fun ls hl => ?_)
            refine lv_iconst (v := 0) hx hb dL_isRight_294 (by decide) ?_
            refine lv_istore (lv' := [(14, .int 0), (13, .int 0), (7, .int z288), (12, .int 1), (3, .long (slF x b (soS x b) 32)), (5, .long (wlF x b (woS x b) 32)), (11, .int (mxF x b 32)), (0, .ref (L 0)), (1, .ref (L 107)), (2, .ref (L 106)), (8, .int (nI b)), (9, .int (nI n9)), (10, .int (x 15 b 0))]) hx hb dL_isRight_295 hl (by decide) rfl (fun ls hl => ?_)
            have key297 : ∀ (dj j : Nat) (y14j : Int32) (y13j : Int32) (H : Heap) (locs : List Loc) (ls : Array Slot), j + dj = cnt → (y14j = nI j) → ((y13j = 0 ∨ y13j = 1) ∧ (a9 < j → y13j = 1)) → va_P g.1 vwCl (wl n L (cw g L x r0)) H → va_S (fun q : Nat => base ≤ q) s.heap H locs → lv_has ls 16 [(14, .int y14j), (13, .int y13j), (0, .ref (L 0)), (1, .ref (L 107)), (2, .ref (L 106)), (3, .long (slF x b (soS x b) 32)), (5, .long (wlF x b (woS x b) 32)), (7, .int z288), (8, .int (nI b)), (9, .int (nI n9)), (10, .int (x 15 b 0)), (11, .int (mxF x b 32)), (12, .int 1)] → W p l e (headSpec wsL_isRight ({ frames := 16, cells := 3000, slots := 18000, locals := 480 })).room s m ([.ref (L 0), .ref (L 107), .ref (L 106)] : List Value).toArray below meth c H locs (0 + 740 * b + 4 + 128 + 4 + 0 + 8 * 32 + 4 + 4 + 0 + 4 + 8 * j) (0 + 4440 * b + 24 + 768 + 24 + 0 + 48 * 32 + 24 + 24 + 0 + 24 + 48 * j) (MQ below (va_Qi (fun (r : Int32) (_ : Unit) => r = 1) (fun (u : Unit) t => PB g n L (cw g L x r0) t) (fun q => base ≤ q)) ([.ref (L 0), .ref (L 107), .ref (L 106)] : List Value).toArray s 3000 18000 (fun q => base ≤ q)) (F0 m 297 ls []) := by
              intro dj
              induction dj with
              | zero =>
                intro j y14j y13j H locs ls hkdj ey14j hIn hP hS hl
                obtain rfl : cnt = j := by omega
                subst ey14j
                refine lv_iload hx hb dL_isRight_297 (lv_at hl 0 rfl) ?_
                refine lv_aload_n hx hb dL_isRight_299 rfl (lv_at hl 2 rfl) ?_
                refine lv_bipush (v := 13) hx hb dL_isRight_300 (by decide) ?_
                refine lv_aload_n hx hb dL_isRight_302 rfl (lv_at hl 4 rfl) ?_
                refine lv_iload hx hb dL_isRight_303 (lv_at hl 8 rfl) ?_
                refine wx_ialdv (D := g.1) (cl := vwCl) (f := D) (v := nI d9) hx hb hK hP (106) 0 (by omega) ((cw_ge (by decide)).trans h106) rfl (i := nI b) (vp_in_nI (by omega) (by decide)) (by rw [nI_clamp (by omega)]; exact eD9) dL_isRight_305 ?_
                refine wx_calli (va_runS (As := [.ref (L 0), .int 13, .int (nI d9)]) (rest := [.int (nI cnt)]) ⟨hx, hb, hml, hown, hts⟩ (ak_13 l hst g base n L (by omega) x r0 nn hnn hx1 (nI d9)) (va_cwS 3 hts gL_isRight_L_ask rfl rfl rfl (by decide +kernel) ⟨Nat.le_of_ble_eq_true rfl, Nat.le_of_ble_eq_true rfl⟩) (hPW.preS hP hS) rfl rfl hl.1 rfl (lv_room (Nat.le_of_ble_eq_true rfl)) dL_isRight_306 ⟨(by show _ ≤ 3000; omega), (by show _ ≤ 18000; omega)⟩) hS (fun r306 u306 H locs h306 hP hS => ?_)
                obtain rfl := od13 hd9 eQ9 h306
                refine lv_icmp_ge (tgt := 349) hx hb dL_isRight_309 (by decide) (fun c309 => ?_) (fun c309 => absurd (nI_le (Nat.le_refl _) (by omega)) c309)
                refine lv_iload hx hb dL_isRight_349 (lv_at hl 12 rfl) ?_
                refine lv_if_eq (tgt := 375) hx hb dL_isRight_351 (by decide) (fun c351 => absurd c351 (by decide)) (fun c351 => ?_)
                refine lv_iload hx hb dL_isRight_354 (lv_at hl 1 rfl) ?_
                refine lv_if_eq (tgt := 375) hx hb dL_isRight_356 (by decide) (fun c356 => absurd c356 (by rw [hIn.2 ha9]; decide)) (fun c356 => ?_)
                refine lv_aload_n hx hb dL_isRight_359 rfl (lv_at hl 2 rfl) ?_
                refine lv_bipush (v := 15) hx hb dL_isRight_360 (by decide) ?_
                refine lv_iload hx hb dL_isRight_362 (lv_at hl 9 rfl) ?_
                refine wx_calli (va_runS (As := [.ref (L 0), .int 15, .int (nI n9)]) (rest := []) ⟨hx, hb, hml, hown, hts⟩ (ak_15 l hst g base n L (by omega) x r0 nn hnn hx1 (nI n9)) (va_cwS 3 hts gL_isRight_L_ask rfl rfl rfl (by decide +kernel) ⟨Nat.le_of_ble_eq_true rfl, Nat.le_of_ble_eq_true rfl⟩) (hPW.preS hP hS) rfl rfl hl.1 rfl (lv_room (Nat.le_of_ble_eq_true rfl)) dL_isRight_364 ⟨(by show _ ≤ 3000; omega), (by show _ ≤ 18000; omega)⟩) hS (fun r364 u364 H locs h364 hP hS => ?_)
                obtain rfl := od15 (O := fun j => ofP x j) (by omega) (by omega) hof h364
                refine lv_iconst (v := 1) hx hb dL_isRight_367 (by decide) ?_
                refine lv_icmp_ne (tgt := 375) hx hb dL_isRight_368 (by decide) (fun c368 => absurd c368 (by decide)) (fun c368 => ?_)
                refine lv_iconst (v := 1) hx hb dL_isRight_371 (by decide) ?_
                refine lv_goto (tgt := 376) hx hb dL_isRight_372 (by decide) ?_
                refine lv_istore (lv' := [(12, .int 1), (14, .int (nI cnt)), (13, .int y13j), (0, .ref (L 0)), (1, .ref (L 107)), (2, .ref (L 106)), (3, .long (slF x b (soS x b) 32)), (5, .long (wlF x b (woS x b) 32)), (7, .int z288), (8, .int (nI b)), (9, .int (nI n9)), (10, .int (x 15 b 0)), (11, .int (mxF x b 32))]) hx hb dL_isRight_376 hl (by decide) rfl (fun ls hl => ?_)
                refine lv_iload hx hb dL_isRight_378 (lv_at hl 0 rfl) ?_
                refine lv_if_ne (tgt := 385) hx hb dL_isRight_380 (by decide) (fun c380 => ?_) (fun c380 => absurd c380 (by decide))
                obtain ⟨z385, ez385⟩ : ∃ y : Int32, y = nI b + 1 := ⟨_, rfl⟩
                refine lv_iinc (v := z385) (lv' := [(8, .int z385), (12, .int 1), (14, .int (nI cnt)), (13, .int y13j), (0, .ref (L 0)), (1, .ref (L 107)), (2, .ref (L 106)), (3, .long (slF x b (soS x b) 32)), (5, .long (wlF x b (woS x b) 32)), (7, .int z288), (9, .int (nI n9)), (10, .int (x 15 b 0)), (11, .int (mxF x b 32))]) hx hb dL_isRight_385 hl (k := 9) rfl (by rw [ez385]; rfl) (by decide) rfl (fun ls hl => ?_)
                refine lv_goto (tgt := 11) hx hb dL_isRight_388 (by decide) ?_
                refine W.widen (k := 0 + 740 * (b + 1)) (n := 0 + 4440 * (b + 1)) (by omega) (by omega) ?_
                exact ihb (b + 1) _ _ _ _ _ _ _ (by omega) (by rw [ez385, nI_1]) rfl rfl (by rw [ss_f (by rw [e12]; exact nI_ne (by omega))]; exact ez288) hP hS (lv_sub hl [0, 7, 8, 9, 4, 5, 6] rfl)
              | succ dj ihj =>
                intro j y14j y13j H locs ls hkdj ey14j hIn hP hS hl
                have hkNj : j < cnt := by omega
                subst ey14j
                refine lv_iload hx hb dL_isRight_297 (lv_at hl 0 rfl) ?_
                refine lv_aload_n hx hb dL_isRight_299 rfl (lv_at hl 2 rfl) ?_
                refine lv_bipush (v := 13) hx hb dL_isRight_300 (by decide) ?_
                refine lv_aload_n hx hb dL_isRight_302 rfl (lv_at hl 4 rfl) ?_
                refine lv_iload hx hb dL_isRight_303 (lv_at hl 8 rfl) ?_
                refine wx_ialdv (D := g.1) (cl := vwCl) (f := D) (v := nI d9) hx hb hK hP (106) 0 (by omega) ((cw_ge (by decide)).trans h106) rfl (i := nI b) (vp_in_nI (by omega) (by decide)) (by rw [nI_clamp (by omega)]; exact eD9) dL_isRight_305 ?_
                refine wx_calli (va_runS (As := [.ref (L 0), .int 13, .int (nI d9)]) (rest := [.int (nI j)]) ⟨hx, hb, hml, hown, hts⟩ (ak_13 l hst g base n L (by omega) x r0 nn hnn hx1 (nI d9)) (va_cwS 3 hts gL_isRight_L_ask rfl rfl rfl (by decide +kernel) ⟨Nat.le_of_ble_eq_true rfl, Nat.le_of_ble_eq_true rfl⟩) (hPW.preS hP hS) rfl rfl hl.1 rfl (lv_room (Nat.le_of_ble_eq_true rfl)) dL_isRight_306 ⟨(by show _ ≤ 3000; omega), (by show _ ≤ 18000; omega)⟩) hS (fun r306 u306 H locs h306 hP hS => ?_)
                obtain rfl := od13 hd9 eQ9 h306
                refine lv_icmp_ge (tgt := 349) hx hb dL_isRight_309 (by decide) (fun c309 => absurd c309 (nI_ge hkNj (by omega))) (fun c309 => ?_)
                refine lv_iload hx hb dL_isRight_312 (lv_at hl 1 rfl) ?_
                refine lv_if_ne (tgt := 336) hx hb dL_isRight_314 (by decide) (fun c314 => ?_) (fun c314 => ?_)
                · refine lv_iconst (v := 1) hx hb dL_isRight_336 (by decide) ?_
                  refine lv_goto (tgt := 341) hx hb dL_isRight_337 (by decide) ?_
                  refine lv_istore (lv' := [(13, .int 1), (14, .int (nI j)), (0, .ref (L 0)), (1, .ref (L 107)), (2, .ref (L 106)), (3, .long (slF x b (soS x b) 32)), (5, .long (wlF x b (woS x b) 32)), (7, .int z288), (8, .int (nI b)), (9, .int (nI n9)), (10, .int (x 15 b 0)), (11, .int (mxF x b 32)), (12, .int 1)]) hx hb dL_isRight_341 hl (by decide) rfl (fun ls hl => ?_)
                  obtain ⟨z343, ez343⟩ : ∃ y : Int32, y = nI j + 1 := ⟨_, rfl⟩
                  refine lv_iinc (v := z343) (lv' := [(14, .int z343), (13, .int 1), (0, .ref (L 0)), (1, .ref (L 107)), (2, .ref (L 106)), (3, .long (slF x b (soS x b) 32)), (5, .long (wlF x b (woS x b) 32)), (7, .int z288), (8, .int (nI b)), (9, .int (nI n9)), (10, .int (x 15 b 0)), (11, .int (mxF x b 32)), (12, .int 1)]) hx hb dL_isRight_343 hl (k := 1) rfl (by rw [ez343]; rfl) (by decide) rfl (fun ls hl => ?_)
                  refine lv_goto (tgt := 297) hx hb dL_isRight_346 (by decide) ?_
                  refine W.widen (k := 0 + 740 * b + 4 + 128 + 4 + 0 + 8 * 32 + 4 + 4 + 0 + 4 + 8 * (j + 1)) (n := 0 + 4440 * b + 24 + 768 + 24 + 0 + 48 * 32 + 24 + 24 + 0 + 24 + 48 * (j + 1)) (by omega) (by omega) ?_
                  exact ihj (j + 1) _ 1 _ _ _ (by omega) (by rw [ez343, nI_1]) (⟨Or.inr rfl, fun _ => rfl⟩) hP hS (lv_sub hl [0, 1, 2, 3, 4, 5, 6, 7, 8, 9, 10, 11, 12] rfl)
                · refine lv_aload_n hx hb dL_isRight_317 rfl (lv_at hl 2 rfl) ?_
                  refine lv_bipush (v := 14) hx hb dL_isRight_318 (by decide) ?_
                  refine lv_aload_n hx hb dL_isRight_320 rfl (lv_at hl 4 rfl) ?_
                  refine lv_iload hx hb dL_isRight_321 (lv_at hl 8 rfl) ?_
                  refine wx_ialdv (D := g.1) (cl := vwCl) (f := D) (v := nI d9) hx hb hK hP (106) 0 (by omega) ((cw_ge (by decide)).trans h106) rfl (i := nI b) (vp_in_nI (by omega) (by decide)) (by rw [nI_clamp (by omega)]; exact eD9) dL_isRight_323 ?_
                  refine lv_iload hx hb dL_isRight_324 (lv_at hl 0 rfl) ?_
                  refine lv_iconst (v := 0) hx hb dL_isRight_326 (by decide) ?_
                  refine lv_iconst (v := 0) hx hb dL_isRight_327 (by decide) ?_
                  refine wx_calli (vx_runSW (As := [.ref (L 0), .int 14, .int (nI d9), .int (nI j), .int 0, .int 0]) (rest := []) ⟨hx, hb, hml, hown, hts⟩ (dd_14 l hst g base n L (by omega) x r0 nn hnn hx1 hG.rk (nI d9) (nI j) 0 0) (vx_cwSW 6 hts gL_isRight_L_deed rfl rfl rfl (by decide +kernel) ⟨Nat.le_of_ble_eq_true rfl, Nat.le_of_ble_eq_true rfl⟩) (hPW.preS hP hS) rfl rfl hl.1 rfl (lv_room (Nat.le_of_ble_eq_true rfl)) dL_isRight_328 ⟨(by show _ ≤ 3000; omega), (by show _ ≤ 18000; omega)⟩) hS (fun r328 u328 H locs h328 hP hS => ?_)
                  refine lv_iload hx hb dL_isRight_331 (lv_at hl 9 rfl) ?_
                  refine lv_icmp_ne (tgt := 340) hx hb dL_isRight_333 (by decide) (fun c333 => ?_) (fun c333 => ?_)
                  · refine lv_iconst (v := 0) hx hb dL_isRight_340 (by decide) ?_
                    refine lv_istore (lv' := [(13, .int 0), (14, .int (nI j)), (0, .ref (L 0)), (1, .ref (L 107)), (2, .ref (L 106)), (3, .long (slF x b (soS x b) 32)), (5, .long (wlF x b (woS x b) 32)), (7, .int z288), (8, .int (nI b)), (9, .int (nI n9)), (10, .int (x 15 b 0)), (11, .int (mxF x b 32)), (12, .int 1)]) hx hb dL_isRight_341 hl (by decide) rfl (fun ls hl => ?_)
                    obtain ⟨z343, ez343⟩ : ∃ y : Int32, y = nI j + 1 := ⟨_, rfl⟩
                    refine lv_iinc (v := z343) (lv' := [(14, .int z343), (13, .int 0), (0, .ref (L 0)), (1, .ref (L 107)), (2, .ref (L 106)), (3, .long (slF x b (soS x b) 32)), (5, .long (wlF x b (woS x b) 32)), (7, .int z288), (8, .int (nI b)), (9, .int (nI n9)), (10, .int (x 15 b 0)), (11, .int (mxF x b 32)), (12, .int 1)]) hx hb dL_isRight_343 hl (k := 1) rfl (by rw [ez343]; rfl) (by decide) rfl (fun ls hl => ?_)
                    refine lv_goto (tgt := 297) hx hb dL_isRight_346 (by decide) ?_
                    refine W.widen (k := 0 + 740 * b + 4 + 128 + 4 + 0 + 8 * 32 + 4 + 4 + 0 + 4 + 8 * (j + 1)) (n := 0 + 4440 * b + 24 + 768 + 24 + 0 + 48 * 32 + 24 + 24 + 0 + 24 + 48 * (j + 1)) (by omega) (by omega) ?_
                    exact ihj (j + 1) _ 0 _ _ _ (by omega) (by rw [ez343, nI_1]) (⟨Or.inl rfl, fun h9 => by rcases (show a9 < j ∨ a9 = j by omega) with h8 | rfl; exact absurd (c314.symm.trans (hIn.2 h8)) (by decide); exact absurd (hQ9 _ h328) c333⟩) hP hS (lv_sub hl [0, 1, 2, 3, 4, 5, 6, 7, 8, 9, 10, 11, 12] rfl)
                  · refine lv_iconst (v := 1) hx hb dL_isRight_336 (by decide) ?_
                    refine lv_goto (tgt := 341) hx hb dL_isRight_337 (by decide) ?_
                    refine lv_istore (lv' := [(13, .int 1), (14, .int (nI j)), (0, .ref (L 0)), (1, .ref (L 107)), (2, .ref (L 106)), (3, .long (slF x b (soS x b) 32)), (5, .long (wlF x b (woS x b) 32)), (7, .int z288), (8, .int (nI b)), (9, .int (nI n9)), (10, .int (x 15 b 0)), (11, .int (mxF x b 32)), (12, .int 1)]) hx hb dL_isRight_341 hl (by decide) rfl (fun ls hl => ?_)
                    obtain ⟨z343, ez343⟩ : ∃ y : Int32, y = nI j + 1 := ⟨_, rfl⟩
                    refine lv_iinc (v := z343) (lv' := [(14, .int z343), (13, .int 1), (0, .ref (L 0)), (1, .ref (L 107)), (2, .ref (L 106)), (3, .long (slF x b (soS x b) 32)), (5, .long (wlF x b (woS x b) 32)), (7, .int z288), (8, .int (nI b)), (9, .int (nI n9)), (10, .int (x 15 b 0)), (11, .int (mxF x b 32)), (12, .int 1)]) hx hb dL_isRight_343 hl (k := 1) rfl (by rw [ez343]; rfl) (by decide) rfl (fun ls hl => ?_)
                    refine lv_goto (tgt := 297) hx hb dL_isRight_346 (by decide) ?_
                    refine W.widen (k := 0 + 740 * b + 4 + 128 + 4 + 0 + 8 * 32 + 4 + 4 + 0 + 4 + 8 * (j + 1)) (n := 0 + 4440 * b + 24 + 768 + 24 + 0 + 48 * 32 + 24 + 24 + 0 + 24 + 48 * (j + 1)) (by omega) (by omega) ?_
                    exact ihj (j + 1) _ 1 _ _ _ (by omega) (by rw [ez343, nI_1]) (⟨Or.inr rfl, fun _ => rfl⟩) hP hS (lv_sub hl [0, 1, 2, 3, 4, 5, 6, 7, 8, 9, 10, 11, 12] rfl)
            refine W.widen (k := 0 + 740 * b + 4 + 128 + 4 + 0 + 8 * 32 + 4 + 4 + 0 + 4 + 8 * 0) (n := 0 + 4440 * b + 24 + 768 + 24 + 0 + 48 * 32 + 24 + 24 + 0 + 24 + 48 * 0) (by omega) (by omega) ?_
            exact key297 cnt 0 _ 0 _ _ _ (by omega) rfl (⟨Or.inl rfl, fun h9 => absurd h9 (Nat.not_lt_zero _)⟩) hP hS (lv_sub hl [0, 1, 7, 8, 9, 4, 5, 2, 10, 11, 12, 6, 3] rfl)
          | succ d ih =>
            intro k y13 y3 y5 y11 y12 H locs ls hkd ey13 ey3 ey5 ey11 ey12 hP hS hl
            have hkN : k < 32 := by omega
            subst ey13 ey3 ey5 ey11 ey12
            refine lv_iload hx hb dL_isRight_97 (lv_at hl 0 rfl) ?_
            refine lv_bipush (v := 32) hx hb dL_isRight_99 (by decide) ?_
            refine lv_icmp_ge (tgt := 229) hx hb dL_isRight_101 (by decide) (fun c101 => absurd c101 (nI_ge (b := 32) hkN (by decide))) (fun c101 => ?_)
            refine lv_aload_n hx hb dL_isRight_104 rfl (lv_at hl 5 rfl) ?_
            refine lv_iconst (v := 4) hx hb dL_isRight_105 (by decide) ?_
            refine lv_iload hx hb dL_isRight_106 (lv_at hl 9 rfl) ?_
            refine lv_iload hx hb dL_isRight_108 (lv_at hl 0 rfl) ?_
            refine lv_bipush (v := 8) hx hb dL_isRight_110 (by decide) ?_
            refine lv_irem hx hb dL_isRight_112 (by decide) ?_
            refine lv_iload hx hb dL_isRight_113 (lv_at hl 0 rfl) ?_
            refine lv_bipush (v := 8) hx hb dL_isRight_115 (by decide) ?_
            refine lv_idiv hx hb dL_isRight_117 (by decide) ?_
            refine lv_iconst (v := 0) hx hb dL_isRight_118 (by decide) ?_
            refine wx_calli (vx_runSW (As := [.ref (L 0), .int 4, .int (nI b), .int ((nI k) - (nI k) / 8 * 8), .int ((nI k) / 8), .int 0]) (rest := []) ⟨hx, hb, hml, hown, hts⟩ (dd_4 l hst g base n L (by omega) x r0 4 (by omega) hx0 (nI b) ((nI k) - (nI k) / 8 * 8) ((nI k) / 8) 0) (vx_cwSW 6 hts gL_isRight_L_deed rfl rfl rfl (by decide +kernel) ⟨Nat.le_of_ble_eq_true rfl, Nat.le_of_ble_eq_true rfl⟩) (hPW.preS hP hS) rfl rfl hl.1 rfl (lv_room (Nat.le_of_ble_eq_true rfl)) dL_isRight_119 ⟨(by show _ ≤ 3000; omega), (by show _ ≤ 18000; omega)⟩) hS (fun r119 u119 H locs h119 hP hS => ?_)
            obtain rfl : r119 = x 20 b k := (od3 (f := fun j => wearF x j (8 * ((nI k) / 8) + ((nI k) - (nI k) / 8 * 8))) (by omega) (by omega) (kd8r (by omega)) h119).trans (by rw [kd8e (by omega)]; exact wearF_v (by omega))
            refine lv_istore (lv' := [(14, .int (x 20 b k)), (13, .int (nI k)), (3, .long (slF x b (soS x b) k)), (5, .long (wlF x b (woS x b) k)), (11, .int (mxF x b k)), (12, .int 1), (0, .ref (L 0)), (1, .ref (L 107)), (2, .ref (L 106)), (7, .int (ssF x b)), (8, .int (nI b)), (9, .int (nI n9)), (10, .int (x 15 b 0))]) hx hb dL_isRight_122 hl (by decide) rfl (fun ls hl => ?_)
            refine lv_iload hx hb dL_isRight_124 (lv_at hl 12 rfl) ?_
            refine lv_iload hx hb dL_isRight_126 (lv_at hl 1 rfl) ?_
            refine lv_iushr hx hb dL_isRight_128 rfl ?_
            refine lv_iconst (v := 1) hx hb dL_isRight_129 (by decide) ?_
            refine lv_iand hx hb dL_isRight_130 ?_
            refine lv_topi (fun z9 ez9 => ?_)
            obtain rfl : z9 = bitF (x 15 b 0) (nI k) := ez9
            refine lv_istore (lv' := [(15, .int (bitF (x 15 b 0) (nI k))), (14, .int (x 20 b k)), (13, .int (nI k)), (3, .long (slF x b (soS x b) k)), (5, .long (wlF x b (woS x b) k)), (11, .int (mxF x b k)), (12, .int 1), (0, .ref (L 0)), (1, .ref (L 107)), (2, .ref (L 106)), (7, .int (ssF x b)), (8, .int (nI b)), (9, .int (nI n9)), (10, .int (x 15 b 0))]) hx hb dL_isRight_131 hl (by decide) rfl (fun ls hl => ?_)
            refine lv_iload hx hb dL_isRight_133 (lv_at hl 5 rfl) ?_
            refine lv_iload hx hb dL_isRight_135 (lv_at hl 1 rfl) ?_
            refine va_mmax hx hb (hml.trans hl.1.symm) hown (hts (.methodLink RL 132 Lib.Math.max.name) (by decide +kernel)) (hts (.static Lib.Math.max.name) (by decide +kernel)) (hts (.initialized "java/lang/Math") (by decide +kernel)) (hts (.code Lib.Math.max.name Lib.Math.max.code 2 (some .int)) (by decide +kernel)) (by first | exact Nat.le_of_ble_eq_true rfl | (show _ ≤ 3000; omega) | (show _ ≤ 18000; omega)) (by first | exact Nat.le_of_ble_eq_true rfl | (show _ ≤ 3000; omega) | (show _ ≤ 18000; omega)) (by first | exact Nat.le_of_ble_eq_true rfl | (show _ ≤ 3000; omega) | (show _ ≤ 18000; omega)) (by first | exact Nat.le_of_ble_eq_true rfl | (show _ ≤ 3000; omega) | (show _ ≤ 18000; omega)) dL_isRight_137 ?_
            refine lv_istore (lv' := [(11, .int (if (mxF x b k) < (x 20 b k) then (x 20 b k) else (mxF x b k))), (15, .int (bitF (x 15 b 0) (nI k))), (14, .int (x 20 b k)), (13, .int (nI k)), (3, .long (slF x b (soS x b) k)), (5, .long (wlF x b (woS x b) k)), (12, .int 1), (0, .ref (L 0)), (1, .ref (L 107)), (2, .ref (L 106)), (7, .int (ssF x b)), (8, .int (nI b)), (9, .int (nI n9)), (10, .int (x 15 b 0))]) hx hb dL_isRight_140 hl (by decide) rfl (fun ls hl => ?_)
            refine lv_lload hx hb dL_isRight_142 (lv_at hl 5 rfl) ?_
            refine lv_iload hx hb dL_isRight_144 (lv_at hl 2 rfl) ?_
            refine lv_i2l hx hb dL_isRight_146 rfl ?_
            refine lv_ladd hx hb dL_isRight_147 ?_
            refine lv_lstore (lv' := [(5, .long ((wlF x b (woS x b) k) + ((x 20 b k).toInt64))), (11, .int (if (mxF x b k) < (x 20 b k) then (x 20 b k) else (mxF x b k))), (15, .int (bitF (x 15 b 0) (nI k))), (14, .int (x 20 b k)), (13, .int (nI k)), (3, .long (slF x b (soS x b) k)), (12, .int 1), (0, .ref (L 0)), (1, .ref (L 107)), (2, .ref (L 106)), (7, .int (ssF x b)), (8, .int (nI b)), (9, .int (nI n9)), (10, .int (x 15 b 0))]) hx hb dL_isRight_148 hl (by decide) rfl (fun ls hl => ?_)
            refine lv_ldc2 (v := 31) hx hb hown (hts (.constantLong RL 137 31) (by decide +kernel)) dL_isRight_150 ?_
            refine lv_lload_n hx hb dL_isRight_153 rfl (lv_at hl 5 rfl) ?_
            refine lv_lmul hx hb dL_isRight_154 ?_
            refine lv_iload hx hb dL_isRight_155 (lv_at hl 2 rfl) ?_
            refine lv_i2l hx hb dL_isRight_157 rfl ?_
            refine lv_ladd hx hb dL_isRight_158 ?_
            refine lv_ldc2 (v := 2) hx hb hown (hts (.constantLong RL 139 2) (by decide +kernel)) dL_isRight_159 ?_
            refine lv_iload hx hb dL_isRight_162 (lv_at hl 3 rfl) ?_
            refine lv_i2l hx hb dL_isRight_164 rfl ?_
            refine lv_lmul hx hb dL_isRight_165 ?_
            refine lv_ladd hx hb dL_isRight_166 ?_
            refine lv_lstore_n (lv' := [(3, .long (((31 * (slF x b (soS x b) k)) + ((bitF (x 15 b 0) (nI k)).toInt64)) + (2 * ((x 20 b k).toInt64)))), (5, .long ((wlF x b (woS x b) k) + ((x 20 b k).toInt64))), (11, .int (if (mxF x b k) < (x 20 b k) then (x 20 b k) else (mxF x b k))), (15, .int (bitF (x 15 b 0) (nI k))), (14, .int (x 20 b k)), (13, .int (nI k)), (12, .int 1), (0, .ref (L 0)), (1, .ref (L 107)), (2, .ref (L 106)), (7, .int (ssF x b)), (8, .int (nI b)), (9, .int (nI n9)), (10, .int (x 15 b 0))]) hx hb dL_isRight_167 rfl hl (by decide) rfl (fun ls hl => ?_)
            refine lv_iload hx hb dL_isRight_168 (lv_at hl 6 rfl) ?_
            refine lv_if_eq (tgt := 220) hx hb dL_isRight_170 (by decide) (fun c170 => absurd c170 (by decide)) (fun c170 => ?_)
            refine lv_iload hx hb dL_isRight_173 (lv_at hl 4 rfl) ?_
            refine lv_iload hx hb dL_isRight_175 (lv_at hl 3 rfl) ?_
            refine lv_iadd hx hb dL_isRight_177 ?_
            refine lv_bipush (v := 60) hx hb dL_isRight_178 (by decide) ?_
            refine lv_icmp_gt (tgt := 220) hx hb dL_isRight_180 (by decide) (fun c180 => absurd c180 (Int32.not_lt.mpr (f12 k hkN).1)) (fun c180 => ?_)
            refine lv_aload_n hx hb dL_isRight_183 rfl (lv_at hl 7 rfl) ?_
            refine lv_bipush (v := 22) hx hb dL_isRight_184 (by decide) ?_
            refine lv_iload hx hb dL_isRight_186 (lv_at hl 11 rfl) ?_
            refine lv_iload hx hb dL_isRight_188 (lv_at hl 5 rfl) ?_
            refine lv_bipush (v := 8) hx hb dL_isRight_190 (by decide) ?_
            refine lv_irem hx hb dL_isRight_192 (by decide) ?_
            refine lv_iload hx hb dL_isRight_193 (lv_at hl 5 rfl) ?_
            refine lv_bipush (v := 8) hx hb dL_isRight_195 (by decide) ?_
            refine lv_idiv hx hb dL_isRight_197 (by decide) ?_
            refine lv_iconst (v := 0) hx hb dL_isRight_198 (by decide) ?_
            refine wx_calli (vx_runSW (As := [.ref (L 0), .int 22, .int (nI b), .int ((nI k) - (nI k) / 8 * 8), .int ((nI k) / 8), .int 0]) (rest := []) ⟨hx, hb, hml, hown, hts⟩ (dd_22 l hst g base n L (by omega) x r0 4 (by omega) hx0 (tcF x) hG.tc4 hG.x194 (nI b) ((nI k) - (nI k) / 8 * 8) ((nI k) / 8) 0) (vx_cwSW 6 hts gL_isRight_L_deed rfl rfl rfl (by decide +kernel) ⟨Nat.le_of_ble_eq_true rfl, Nat.le_of_ble_eq_true rfl⟩) (hPW.preS hP hS) rfl rfl hl.1 rfl (lv_room (Nat.le_of_ble_eq_true rfl)) dL_isRight_199 ⟨(by show _ ≤ 3000; omega), (by show _ ≤ 18000; omega)⟩) hS (fun r199 u199 H locs h199 hP hS => ?_)
            obtain rfl : r199 = bitF (x 15 b 0) (nI k) := (od3 (f := fun j => bitF (xorF x j (tcF x j)) (8 * ((nI k) / 8) + ((nI k) - (nI k) / 8 * 8))) (by omega) (by omega) (kd8r (by omega)) h199).trans (by rw [kd8e (by omega), f4])
            refine lv_iload hx hb dL_isRight_202 (lv_at hl 3 rfl) ?_
            refine lv_icmp_ne (tgt := 220) hx hb dL_isRight_204 (by decide) (fun c204 => absurd c204 (fun h => h rfl)) (fun c204 => ?_)
            refine lv_iload hx hb dL_isRight_207 (lv_at hl 4 rfl) ?_
            refine lv_iconst (v := 2) hx hb dL_isRight_209 (by decide) ?_
            refine lv_irem hx hb dL_isRight_210 (by decide) ?_
            refine lv_iload hx hb dL_isRight_211 (lv_at hl 3 rfl) ?_
            refine lv_icmp_ne (tgt := 220) hx hb dL_isRight_213 (by decide) (fun c213 => absurd c213 (fun h => h (f12 k hkN).2)) (fun c213 => ?_)
            refine lv_iconst (v := 1) hx hb dL_isRight_216 (by decide) ?_
            refine lv_goto (tgt := 221) hx hb dL_isRight_217 (by decide) ?_
            refine lv_istore (lv' := [(12, .int 1), (3, .long (((31 * (slF x b (soS x b) k)) + ((bitF (x 15 b 0) (nI k)).toInt64)) + (2 * ((x 20 b k).toInt64)))), (5, .long ((wlF x b (woS x b) k) + ((x 20 b k).toInt64))), (11, .int (if (mxF x b k) < (x 20 b k) then (x 20 b k) else (mxF x b k))), (15, .int (bitF (x 15 b 0) (nI k))), (14, .int (x 20 b k)), (13, .int (nI k)), (0, .ref (L 0)), (1, .ref (L 107)), (2, .ref (L 106)), (7, .int (ssF x b)), (8, .int (nI b)), (9, .int (nI n9)), (10, .int (x 15 b 0))]) hx hb dL_isRight_221 hl (by decide) rfl (fun ls hl => ?_)
            obtain ⟨z223, ez223⟩ : ∃ y : Int32, y = nI k + 1 := ⟨_, rfl⟩
            refine lv_iinc (v := z223) (lv' := [(13, .int z223), (12, .int 1), (3, .long (((31 * (slF x b (soS x b) k)) + ((bitF (x 15 b 0) (nI k)).toInt64)) + (2 * ((x 20 b k).toInt64)))), (5, .long ((wlF x b (woS x b) k) + ((x 20 b k).toInt64))), (11, .int (if (mxF x b k) < (x 20 b k) then (x 20 b k) else (mxF x b k))), (15, .int (bitF (x 15 b 0) (nI k))), (14, .int (x 20 b k)), (0, .ref (L 0)), (1, .ref (L 107)), (2, .ref (L 106)), (7, .int (ssF x b)), (8, .int (nI b)), (9, .int (nI n9)), (10, .int (x 15 b 0))]) hx hb dL_isRight_223 hl (k := 6) rfl (by rw [ez223]; rfl) (by decide) rfl (fun ls hl => ?_)
            refine lv_goto (tgt := 97) hx hb dL_isRight_226 (by decide) ?_
            refine W.widen (k := 0 + 740 * b + 4 + 128 + 4 + 0 + 8 * (k + 1)) (n := 0 + 4440 * b + 24 + 768 + 24 + 0 + 48 * (k + 1)) (by omega) (by omega) ?_
            exact ih (k + 1) _ _ _ _ _ _ _ _ (by omega) (by rw [ez223, nI_1]) rfl rfl rfl rfl hP hS (lv_sub hl [0, 2, 3, 4, 1, 7, 8, 9, 10, 11, 12, 13] rfl)
        refine W.widen (k := 0 + 740 * b + 4 + 128 + 4 + 0 + 8 * 0) (n := 0 + 4440 * b + 24 + 768 + 24 + 0 + 48 * 0) (by omega) (by omega) ?_
        exact key97 32 0 _ _ _ _ _ _ _ _ (by omega) rfl rfl rfl rfl rfl hP hS (lv_sub hl [0, 6, 7, 2, 1, 9, 10, 11, 8, 5, 4, 3] rfl)
  refine W.widen (k := 0 + 740 * 0) (n := 0 + 4440 * 0) (by omega) (by omega) ?_
  exact key11 4 0 _ _ _ _ _ _ _ (by omega) rfl rfl rfl rfl hP hS (lv_sub hl [0, 3, 2, 1, 4, 5, 6] rfl)

