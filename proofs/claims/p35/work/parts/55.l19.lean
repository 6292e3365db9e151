/-! laid by wip/gen -/
set_option maxHeartbeats 4000000 in
set_option maxRecDepth 100000 in
theorem k_seen (l : Launch) (hst : l.stackTraces = false) (g : gE) (base n : Nat) (L : Nat → Nat) (hn : 106 ≤ n) (x : St) (r0 : Nat → va_E) (hx0 : x 0 0 0 = nI 4) (b9 : Nat) (hb9 : b9 < 4) : Met l yL_seen wsL_seen ({ frames := 15, cells := 128, slots := 768, locals := 440 }) (va_Pc [.ref (L 0), .int (nI b9)] (PW SS g base n L (cw g L x r0))) (va_Qi (fun (r : Int32) (_ : Unit) => r = snF (x 15 b9 0) 32) (fun (u : Unit) t => PB g n L (cw g L x r0) t) (fun q => base ≤ q)) 128 768 (fun q => base ≤ q) := by
  refine Met.ofW (cc := cL_seen) (maxL := 4) (ret := (some .int)) (by decide) rfl ?_
  intro p e s m args below meth c s₁ B hml hv
  obtain ⟨rfl, hPW⟩ := hv
  obtain ⟨hbs, hJ, hP, hK, hE⟩ := id hPW
  have hx := B.exec
  have hb := B.bytes
  have hr := B.returns
  have hts := atoms_spec (ws := wsL_seen) B.pre
  have hown : s.vm.findClass RL = some m.cls := findClass_of_methodNamed B.named
  have hlocks := B.notSynchronized
  have hS : va_S (fun q : Nat => base ≤ q) s.heap s.heap [] := va_S.rf
  have hl := lv_entry ([.ref (L 0), .int (nI b9)]) (n := 4) (Nat.le_of_ble_eq_true rfl)
  rw [lg_entry_eq]
  generalize (lg_sl ([.ref (L 0), .int (nI b9)]) ++ List.replicate (4 - (lg_sl ([.ref (L 0), .int (nI b9)])).length) Slot.unset).toArray = ls at hl ⊢
  have hl : lv_has ls 4 [(0, .ref (L 0)), (1, .int (nI b9))] := hl
  refine lv_iconst (v := 0) hx hb dL_seen_0 (by decide) ?_
  refine lv_istore_n (lv' := [(2, .int 0), (0, .ref (L 0)), (1, .int (nI b9))]) hx hb dL_seen_1 rfl hl (by decide) rfl (fun ls hl => ?_)
  refine lv_iconst (v := 0) hx hb dL_seen_2 (by decide) ?_
  refine lv_istore_n (lv' := [(3, .int 0), (2, .int 0), (0, .ref (L 0)), (1, .int (nI b9))]) hx hb dL_seen_3 rfl hl (by decide) rfl (fun ls hl => ?_)
  have key4 : ∀ (d k : Nat) (y3 : Int32) (y2 : Int32) (H : Heap) (locs : List Loc) (ls : Array Slot), k + d = 32 → (y3 = nI k) → (y2 = snF (x 15 b9 0) k) → va_P g.1 vwCl (wl n L (cw g L x r0)) H → va_S (fun q : Nat => base ≤ q) s.heap H locs → lv_has ls 4 [(3, .int y3), (2, .int y2), (0, .ref (L 0)), (1, .int (nI b9))] → W p l e (headSpec wsL_seen ({ frames := 15, cells := 128, slots := 768, locals := 440 })).room s m ([.ref (L 0), .int (nI b9)] : List Value).toArray below meth c H locs (0 + 4 * k) (0 + 24 * k) (MQ below (va_Qi (fun (r : Int32) (_ : Unit) => r = snF (x 15 b9 0) 32) (fun (u : Unit) t => PB g n L (cw g L x r0) t) (fun q => base ≤ q)) ([.ref (L 0), .int (nI b9)] : List Value).toArray s 128 768 (fun q => base ≤ q)) (F0 m 4 ls []) := by
    intro d
    induction d with
    | zero =>
      intro k y3 y2 H locs ls hkd ey3 ey2 hP hS hl
      obtain rfl : k = 32 := by omega
      subst ey3 ey2
      refine lv_iload_n hx hb dL_seen_4 rfl (lv_at hl 0 rfl) ?_
      refine lv_bipush (v := 32) hx hb dL_seen_5 (by decide) ?_
      refine lv_icmp_ge (tgt := 36) hx hb dL_seen_7 (by decide) (fun c7 => ?_) (fun c7 => absurd (by decide) c7)
      refine lv_iload_n hx hb dL_seen_36 rfl (lv_at hl 1 rfl) ?_
      refine W.widen (k := 128) (n := 768) (by omega) (by omega) ?_
      exact W.iret (v := snF (x 15 b9 0) 32) hx hb hr (fun t ht hW => ⟨⟨snF (x 15 b9 0) 32, (), rfl, rfl, PB.mk9 hP ht⟩, hS.F ht⟩) hS.2.2 dL_seen_37
    | succ d ih =>
      intro k y3 y2 H locs ls hkd ey3 ey2 hP hS hl
      have hkN : k < 32 := by omega
      subst ey3 ey2
      refine lv_iload_n hx hb dL_seen_4 rfl (lv_at hl 0 rfl) ?_
      refine lv_bipush (v := 32) hx hb dL_seen_5 (by decide) ?_
      refine lv_icmp_ge (tgt := 36) hx hb dL_seen_7 (by decide) (fun c7 => absurd c7 (nI_ge (b := 32) hkN (by decide))) (fun c7 => ?_)
      refine lv_iload_n hx hb dL_seen_10 rfl (lv_at hl 1 rfl) ?_
      refine lv_aload_n hx hb dL_seen_11 rfl (lv_at hl 2 rfl) ?_
      refine lv_iconst (v := 3) hx hb dL_seen_12 (by decide) ?_
      refine lv_iload_n hx hb dL_seen_13 rfl (lv_at hl 3 rfl) ?_
      refine lv_iload_n hx hb dL_seen_14 rfl (lv_at hl 0 rfl) ?_
      refine lv_bipush (v := 8) hx hb dL_seen_15 (by decide) ?_
      refine lv_irem hx hb dL_seen_17 (by decide) ?_
      refine lv_iload_n hx hb dL_seen_18 rfl (lv_at hl 0 rfl) ?_
      refine lv_bipush (v := 8) hx hb dL_seen_19 (by decide) ?_
      refine lv_idiv hx hb dL_seen_21 (by decide) ?_
      refine lv_iconst (v := 0) hx hb dL_seen_22 (by decide) ?_
      refine wx_calli (vx_runSW (As := [.ref (L 0), .int 3, .int (nI b9), .int ((nI k) - (nI k) / 8 * 8), .int ((nI k) / 8), .int 0]) (rest := [.int (snF (x 15 b9 0) k)]) ⟨hx, hb, hml, hown, hts⟩ (dd_3 l hst g base n L (by omega) x r0 4 (by omega) hx0 (nI b9) ((nI k) - (nI k) / 8 * 8) ((nI k) / 8) 0) (vx_cwSW 6 hts gL_seen_L_deed rfl rfl rfl (by decide +kernel) ⟨Nat.le_of_ble_eq_true rfl, Nat.le_of_ble_eq_true rfl⟩) (hPW.preS hP hS) rfl rfl hl.1 rfl (lv_room (Nat.le_of_ble_eq_true rfl)) dL_seen_23 ⟨(by show _ ≤ 128; omega), (by show _ ≤ 768; omega)⟩) hS (fun r23 u23 H locs h23 hP hS => ?_)
      obtain rfl := od3 (f := fun j => bitF (x 15 j 0) (8 * ((nI k) / 8) + ((nI k) - (nI k) / 8 * 8))) (by omega) (by omega) (kd8r (by omega)) h23
      refine lv_iload_n hx hb dL_seen_26 rfl (lv_at hl 0 rfl) ?_
      refine lv_ishl hx hb dL_seen_27 ?_
      refine lv_ior hx hb dL_seen_28 ?_
      refine lv_istore_n (lv' := [(2, .int ((snF (x 15 b9 0) k) ||| ((bitF (x 15 b9 0) (8 * ((nI k) / 8) + ((nI k) - (nI k) / 8 * 8))) <<< ((nI k) &&& 31)))), (3, .int (nI k)), (0, .ref (L 0)), (1, .int (nI b9))]) hx hb dL_seen_29 rfl hl (by decide) rfl (fun ls hl => ?_)
      obtain ⟨z30, ez30⟩ : ∃ y : Int32, y = nI k + 1 := ⟨_, rfl⟩
      refine lv_iinc (v := z30) (lv' := [(3, .int z30), (2, .int ((snF (x 15 b9 0) k) ||| ((bitF (x 15 b9 0) (8 * ((nI k) / 8) + ((nI k) - (nI k) / 8 * 8))) <<< ((nI k) &&& 31)))), (0, .ref (L 0)), (1, .int (nI b9))]) hx hb dL_seen_30 hl (k := 1) rfl (by rw [ez30]; rfl) (by decide) rfl (fun ls hl => ?_)
      refine lv_goto (tgt := 4) hx hb dL_seen_33 (by decide) ?_
      refine W.widen (k := 0 + 4 * (k + 1)) (n := 0 + 24 * (k + 1)) (by omega) (by omega) ?_
      exact ih (k + 1) _ _ _ _ _ (by omega) (by rw [ez30, nI_1]) rfl hP hS (lv_sub hl [0, 1, 2, 3] rfl)
  refine W.widen (k := 0 + 4 * 0) (n := 0 + 24 * 0) (by omega) (by omega) ?_
  exact key4 32 0 _ _ _ _ _ (by omega) rfl rfl hP hS (lv_sub hl [0, 1, 2, 3] rfl)

