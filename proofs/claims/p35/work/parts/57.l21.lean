/-! laid by wip/gen -/
set_option maxHeartbeats 4000000 in
set_option maxRecDepth 100000 in
theorem k_areReadersRight (l : Launch) (hst : l.stackTraces = false) (g : gE) (base n : Nat) (L : Nat → Nat) (hn : 106 ≤ n) (x : St) (r0 : Nat → va_E) (hx0 : x 0 0 0 = nI 4) (nn : Nat) (hnn : nn ≤ 40) (hx1 : x 1 0 0 = nI nn) (cnt : Nat) (hcn : cnt ≤ 512) (hx4 : x 4 0 0 = nI cnt) (hr9 : Nat) (hh9 : hr9 ≤ 200) (hx3 : x 3 0 0 = nI hr9) (hRR : RR x nn hr9 cnt) : Met l yL_areReadersRight wsL_areReadersRight ({ frames := 16, cells := 34000, slots := 204000, locals := 480 }) (va_Pc [.ref (L 0), .int (nI nn)] (PW SS g base n L (cw g L x r0))) (va_Qi (fun (r : Int32) (_ : Unit) => r = 1) (fun (u : Unit) t => PB g n L (cw g L x r0) t) (fun q => base ≤ q)) 34000 204000 (fun q => base ≤ q) := by
  refine Met.ofW (cc := cL_areReadersRight) (maxL := 7) (ret := (some .boolean)) (by decide) rfl ?_
  intro p e s m args below meth c s₁ B hml hv
  obtain ⟨rfl, hPW⟩ := hv
  obtain ⟨hbs, hJ, hP, hK, hE⟩ := id hPW
  have hx := B.exec
  have hb := B.bytes
  have hr := B.returns
  have hts := atoms_spec (ws := wsL_areReadersRight) B.pre
  have hown : s.vm.findClass RL = some m.cls := findClass_of_methodNamed B.named
  have hlocks := B.notSynchronized
  have hS : va_S (fun q : Nat => base ≤ q) s.heap s.heap [] := va_S.rf
  have hl := lv_entry ([.ref (L 0), .int (nI nn)]) (n := 7) (Nat.le_of_ble_eq_true rfl)
  rw [lg_entry_eq]
  generalize (lg_sl ([.ref (L 0), .int (nI nn)]) ++ List.replicate (7 - (lg_sl ([.ref (L 0), .int (nI nn)])).length) Slot.unset).toArray = ls at hl ⊢
  have hl : lv_has ls 7 [(0, .ref (L 0)), (1, .int (nI nn))] := hl
  refine lv_iconst (v := 1) hx hb dL_areReadersRight_0 (by decide) ?_
  refine lv_istore_n (lv' := [(2, .int 1), (0, .ref (L 0)), (1, .int (nI nn))]) hx hb dL_areReadersRight_1 rfl hl (by decide) rfl (fun ls hl => ?_)
  refine lv_iconst (v := 0) hx hb dL_areReadersRight_2 (by decide) ?_
  refine lv_istore_n (lv' := [(3, .int 0), (2, .int 1), (0, .ref (L 0)), (1, .int (nI nn))]) hx hb dL_areReadersRight_3 rfl hl (by decide) rfl (fun ls hl => ?_)
  have key4 : ∀ (di9 i9 : Nat) (y3i9 : Int32) (y2i9 : Int32) (H : Heap) (locs : List Loc) (ls : Array Slot), i9 + di9 = nn → (y3i9 = nI i9) → (y2i9 = 1) → va_P g.1 vwCl (wl n L (cw g L x r0)) H → va_S (fun q : Nat => base ≤ q) s.heap H locs → lv_has ls 7 [(3, .int y3i9), (2, .int y2i9), (0, .ref (L 0)), (1, .int (nI nn))] → W p l e (headSpec wsL_areReadersRight ({ frames := 16, cells := 34000, slots := 204000, locals := 480 })).room s m ([.ref (L 0), .int (nI nn)] : List Value).toArray below meth c H locs (0 + 830 * i9) (0 + 4980 * i9) (MQ below (va_Qi (fun (r : Int32) (_ : Unit) => r = 1) (fun (u : Unit) t => PB g n L (cw g L x r0) t) (fun q => base ≤ q)) ([.ref (L 0), .int (nI nn)] : List Value).toArray s 34000 204000 (fun q => base ≤ q)) (F0 m 4 ls []) := by
    intro di9
    induction di9 with
    | zero =>
      intro i9 y3i9 y2i9 H locs ls hkdi9 ey3i9 ey2i9 hP hS hl
      obtain rfl : nn = i9 := by omega
      subst ey3i9 ey2i9
      refine lv_iload_n hx hb dL_areReadersRight_4 rfl (lv_at hl 0 rfl) ?_
      refine lv_iload_n hx hb dL_areReadersRight_5 rfl (lv_at hl 3 rfl) ?_
      refine lv_icmp_ge (tgt := 121) hx hb dL_areReadersRight_6 (by decide) (fun c6 => ?_) (fun c6 => absurd (nI_le (Nat.le_refl _) (by omega)) c6)
      refine lv_iload_n hx hb dL_areReadersRight_121 rfl (lv_at hl 1 rfl) ?_
      refine W.widen (k := 34000) (n := 204000) (by omega) (by omega) ?_
      exact W.zret (v := 1) hx hb hr (by decide) (fun t ht hW => ⟨⟨1, (), rfl, rfl, PB.mk9 hP ht⟩, hS.F ht⟩) hS.2.2 dL_areReadersRight_122
    | succ di9 ihi9 =>
      intro i9 y3i9 y2i9 H locs ls hkdi9 ey3i9 ey2i9 hP hS hl
      have hkNi9 : i9 < nn := by omega
      subst ey3i9 ey2i9
      refine lv_iload_n hx hb dL_areReadersRight_4 rfl (lv_at hl 0 rfl) ?_
      refine lv_iload_n hx hb dL_areReadersRight_5 rfl (lv_at hl 3 rfl) ?_
      refine lv_icmp_ge (tgt := 121) hx hb dL_areReadersRight_6 (by decide) (fun c6 => absurd c6 (nI_ge hkNi9 (by omega))) (fun c6 => ?_)
      refine lv_iload_n hx hb dL_areReadersRight_9 rfl (lv_at hl 1 rfl) ?_
      refine lv_if_eq (tgt := 121) hx hb dL_areReadersRight_10 (by decide) (fun c10 => absurd c10 (by decide)) (fun c10 => ?_)
      refine lv_iconst (v := 0) hx hb dL_areReadersRight_13 (by decide) ?_
      refine lv_istore (lv' := [(4, .int 0), (3, .int (nI i9)), (2, .int 1), (0, .ref (L 0)), (1, .int (nI nn))]) hx hb dL_areReadersRight_14 hl (by decide) rfl (fun ls hl => ?_)
      refine lv_iconst (v := 0) hx hb dL_areReadersRight_16 (by decide) ?_
      refine lv_istore (lv' := [(5, .int 0), (4, .int 0), (3, .int (nI i9)), (2, .int 1), (0, .ref (L 0)), (1, .int (nI nn))]) hx hb dL_areReadersRight_17 hl (by decide) rfl (fun ls hl => ?_)
      refine lv_iconst (v := 0) hx hb dL_areReadersRight_19 (by decide) ?_
      refine lv_istore (lv' := [(6, .int 0), (5, .int 0), (4, .int 0), (3, .int (nI i9)), (2, .int 1), (0, .ref (L 0)), (1, .int (nI nn))]) hx hb dL_areReadersRight_20 hl (by decide) rfl (fun ls hl => ?_)
      have key22 : ∀ (dd d : Nat) (y6d : Int32) (y4d : Int32) (H : Heap) (locs : List Loc) (ls : Array Slot), d + dd = 4 → (y6d = nI d) → (y4d = rdS x i9 d) → va_P g.1 vwCl (wl n L (cw g L x r0)) H → va_S (fun q : Nat => base ≤ q) s.heap H locs → lv_has ls 7 [(6, .int y6d), (4, .int y4d), (0, .ref (L 0)), (1, .int (nI nn)), (2, .int 1), (3, .int (nI i9)), (5, .int 0)] → W p l e (headSpec wsL_areReadersRight ({ frames := 16, cells := 34000, slots := 204000, locals := 480 })).room s m ([.ref (L 0), .int (nI nn)] : List Value).toArray below meth c H locs (0 + 830 * i9 + 4 * d) (0 + 4980 * i9 + 24 * d) (MQ below (va_Qi (fun (r : Int32) (_ : Unit) => r = 1) (fun (u : Unit) t => PB g n L (cw g L x r0) t) (fun q => base ≤ q)) ([.ref (L 0), .int (nI nn)] : List Value).toArray s 34000 204000 (fun q => base ≤ q)) (F0 m 22 ls []) := by
        intro dd
        induction dd with
        | zero =>
          intro d y6d y4d H locs ls hkdd ey6d ey4d hP hS hl
          obtain rfl : d = 4 := by omega
          subst ey6d ey4d
          refine lv_iload hx hb dL_areReadersRight_22 (lv_at hl 0 rfl) ?_
          refine lv_iconst (v := 4) hx hb dL_areReadersRight_24 (by decide) ?_
          refine lv_icmp_ge (tgt := 50) hx hb dL_areReadersRight_25 (by decide) (fun c25 => ?_) (fun c25 => absurd (by decide) c25)
          refine lv_iconst (v := 0) hx hb dL_areReadersRight_50 (by decide) ?_
          refine lv_istore (lv' := [(6, .int 0), (4, .int (rdS x i9 4)), (0, .ref (L 0)), (1, .int (nI nn)), (2, .int 1), (3, .int (nI i9)), (5, .int 0)]) hx hb dL_areReadersRight_51 hl (by decide) rfl (fun ls hl => ?_)
          have key53 : ∀ (dh h : Nat) (y6h : Int32) (y5h : Int32) (H : Heap) (locs : List Loc) (ls : Array Slot), h + dh = hr9 + 1 → (y6h = nI h) → (y5h = riS x i9 cnt h) → va_P g.1 vwCl (wl n L (cw g L x r0)) H → va_S (fun q : Nat => base ≤ q) s.heap H locs → lv_has ls 7 [(6, .int y6h), (5, .int y5h), (0, .ref (L 0)), (1, .int (nI nn)), (2, .int 1), (3, .int (nI i9)), (4, .int (rdS x i9 4))] → W p l e (headSpec wsL_areReadersRight ({ frames := 16, cells := 34000, slots := 204000, locals := 480 })).room s m ([.ref (L 0), .int (nI nn)] : List Value).toArray below meth c H locs (0 + 830 * i9 + 4 * 4 + 4 * h) (0 + 4980 * i9 + 24 * 4 + 24 * h) (MQ below (va_Qi (fun (r : Int32) (_ : Unit) => r = 1) (fun (u : Unit) t => PB g n L (cw g L x r0) t) (fun q => base ≤ q)) ([.ref (L 0), .int (nI nn)] : List Value).toArray s 34000 204000 (fun q => base ≤ q)) (F0 m 53 ls []) := by
            intro dh
            induction dh with
            | zero =>
              intro h y6h y5h H locs ls hkdh ey6h ey5h hP hS hl
              obtain rfl : h = hr9 + 1 := by omega
              subst ey6h ey5h
              refine lv_iload hx hb dL_areReadersRight_53 (lv_at hl 0 rfl) ?_
              refine lv_aload_n hx hb dL_areReadersRight_55 rfl (lv_at hl 2 rfl) ?_
              refine wx_calli (va_runV (As := []) (rest := [.int (nI (hr9 + 1))]) ⟨hx, hb, hml, hown, hts⟩ (k_hour l hst g base n L (by omega) x r0) (cwV 0 hts gL_areReadersRight_X3_hour rfl rfl rfl (by decide +kernel) ⟨Nat.le_of_ble_eq_true rfl, Nat.le_of_ble_eq_true rfl⟩) (hPW.preV hP hS (ci := 5) rfl (by omega) cw_d) rfl rfl hl.1 rfl (lv_room (Nat.le_of_ble_eq_true rfl)) dL_areReadersRight_56 ⟨(by show _ ≤ 34000; omega), (by show _ ≤ 204000; omega)⟩) hS (fun r56 u56 H locs h56 hP hS => ?_)
              obtain rfl := h56
              refine lv_icmp_gt (tgt := 84) hx hb dL_areReadersRight_59 (by decide) (fun c59 => ?_) (fun c59 => absurd (by rw [hx3]; exact nI_lt (by omega) (by omega)) c59)
              refine lv_iload hx hb dL_areReadersRight_84 (lv_at hl 6 rfl) ?_
              refine lv_iload hx hb dL_areReadersRight_86 (lv_at hl 1 rfl) ?_
              refine lv_icmp_ne (tgt := 113) hx hb dL_areReadersRight_88 (by decide) (fun c88 => absurd c88 (fun h => h (hRR i9 hkNi9).1)) (fun c88 => ?_)
              refine lv_aload_n hx hb dL_areReadersRight_91 rfl (lv_at hl 2 rfl) ?_
              refine lv_bipush (v := 18) hx hb dL_areReadersRight_92 (by decide) ?_
              refine lv_iload_n hx hb dL_areReadersRight_94 rfl (lv_at hl 5 rfl) ?_
              refine lv_aload_n hx hb dL_areReadersRight_95 rfl (lv_at hl 2 rfl) ?_
              refine wx_calli (va_runV (As := []) (rest := [.int (nI i9), .int 18, .ref (L 0)]) ⟨hx, hb, hml, hown, hts⟩ (k_hour l hst g base n L (by omega) x r0) (cwV 0 hts gL_areReadersRight_X3_hour rfl rfl rfl (by decide +kernel) ⟨Nat.le_of_ble_eq_true rfl, Nat.le_of_ble_eq_true rfl⟩) (hPW.preV hP hS (ci := 5) rfl (by omega) cw_d) rfl rfl hl.1 rfl (lv_room (Nat.le_of_ble_eq_true rfl)) dL_areReadersRight_96 ⟨(by show _ ≤ 34000; omega), (by show _ ≤ 204000; omega)⟩) hS (fun r96 u96 H locs h96 hP hS => ?_)
              obtain rfl := h96
              refine lv_iconst (v := 1) hx hb dL_areReadersRight_99 (by decide) ?_
              refine lv_iadd hx hb dL_areReadersRight_100 ?_
              refine lv_iconst (v := 0) hx hb dL_areReadersRight_101 (by decide) ?_
              refine lv_iconst (v := 0) hx hb dL_areReadersRight_102 (by decide) ?_
              refine wx_calli (vx_runSW (As := [.ref (L 0), .int 18, .int (nI i9), .int ((x 3 0 0) + 1), .int 0, .int 0]) (rest := []) ⟨hx, hb, hml, hown, hts⟩ (dd_18 l hst g base n L (by omega) x r0 nn hnn hx1 cnt hcn hx4 (nI i9) ((x 3 0 0) + 1) 0 0) (vx_cwSW 6 hts gL_areReadersRight_L_deed rfl rfl rfl (by decide +kernel) ⟨Nat.le_of_ble_eq_true rfl, Nat.le_of_ble_eq_true rfl⟩) (hPW.preS hP hS) rfl rfl hl.1 rfl (lv_room (Nat.le_of_ble_eq_true rfl)) dL_areReadersRight_103 ⟨(by show _ ≤ 34000; omega), (by show _ ≤ 204000; omega)⟩) hS (fun r103 u103 H locs h103 hP hS => ?_)
              obtain rfl := od1 (f := fun j => poF x (nI j) ((x 3 0 0) + 1) cnt) (by omega) (by omega) h103
              refine lv_if_ne (tgt := 113) hx hb dL_areReadersRight_106 (by decide) (fun c106 => absurd c106 (fun h => h (hRR i9 hkNi9).2)) (fun c106 => ?_)
              refine lv_iconst (v := 1) hx hb dL_areReadersRight_109 (by decide) ?_
              refine lv_goto (tgt := 114) hx hb dL_areReadersRight_110 (by decide) ?_
              refine lv_istore_n (lv' := [(2, .int 1), (6, .int (nI (hr9 + 1))), (5, .int (riS x i9 cnt (hr9 + 1))), (0, .ref (L 0)), (1, .int (nI nn)), (3, .int (nI i9)), (4, .int (rdS x i9 4))]) hx hb dL_areReadersRight_114 rfl hl (by decide) rfl (fun ls hl => ?_)
              obtain ⟨z115, ez115⟩ : ∃ y : Int32, y = nI i9 + 1 := ⟨_, rfl⟩
              refine lv_iinc (v := z115) (lv' := [(3, .int z115), (2, .int 1), (6, .int (nI (hr9 + 1))), (5, .int (riS x i9 cnt (hr9 + 1))), (0, .ref (L 0)), (1, .int (nI nn)), (4, .int (rdS x i9 4))]) hx hb dL_areReadersRight_115 hl (k := 5) rfl (by rw [ez115]; rfl) (by decide) rfl (fun ls hl => ?_)
              refine lv_goto (tgt := 4) hx hb dL_areReadersRight_118 (by decide) ?_
              refine W.widen (k := 0 + 830 * (i9 + 1)) (n := 0 + 4980 * (i9 + 1)) (by omega) (by omega) ?_
              exact ihi9 (i9 + 1) _ _ _ _ _ (by omega) (by rw [ez115, nI_1]) rfl hP hS (lv_sub hl [0, 1, 4, 5] rfl)
            | succ dh ihh =>
              intro h y6h y5h H locs ls hkdh ey6h ey5h hP hS hl
              have hkNh : h < hr9 + 1 := by omega
              subst ey6h ey5h
              refine lv_iload hx hb dL_areReadersRight_53 (lv_at hl 0 rfl) ?_
              refine lv_aload_n hx hb dL_areReadersRight_55 rfl (lv_at hl 2 rfl) ?_
              refine wx_calli (va_runV (As := []) (rest := [.int (nI h)]) ⟨hx, hb, hml, hown, hts⟩ (k_hour l hst g base n L (by omega) x r0) (cwV 0 hts gL_areReadersRight_X3_hour rfl rfl rfl (by decide +kernel) ⟨Nat.le_of_ble_eq_true rfl, Nat.le_of_ble_eq_true rfl⟩) (hPW.preV hP hS (ci := 5) rfl (by omega) cw_d) rfl rfl hl.1 rfl (lv_room (Nat.le_of_ble_eq_true rfl)) dL_areReadersRight_56 ⟨(by show _ ≤ 34000; omega), (by show _ ≤ 204000; omega)⟩) hS (fun r56 u56 H locs h56 hP hS => ?_)
              obtain rfl := h56
              refine lv_icmp_gt (tgt := 84) hx hb dL_areReadersRight_59 (by decide) (fun c59 => absurd c59 (by rw [hx3]; exact nI_nlt (by omega) (by omega))) (fun c59 => ?_)
              refine lv_iload hx hb dL_areReadersRight_62 (lv_at hl 1 rfl) ?_
              refine lv_aload_n hx hb dL_areReadersRight_64 rfl (lv_at hl 2 rfl) ?_
              refine lv_bipush (v := 18) hx hb dL_areReadersRight_65 (by decide) ?_
              refine lv_iload_n hx hb dL_areReadersRight_67 rfl (lv_at hl 5 rfl) ?_
              refine lv_iload hx hb dL_areReadersRight_68 (lv_at hl 0 rfl) ?_
              refine lv_iconst (v := 0) hx hb dL_areReadersRight_70 (by decide) ?_
              refine lv_iconst (v := 0) hx hb dL_areReadersRight_71 (by decide) ?_
              refine wx_calli (vx_runSW (As := [.ref (L 0), .int 18, .int (nI i9), .int (nI h), .int 0, .int 0]) (rest := [.int (riS x i9 cnt h)]) ⟨hx, hb, hml, hown, hts⟩ (dd_18 l hst g base n L (by omega) x r0 nn hnn hx1 cnt hcn hx4 (nI i9) (nI h) 0 0) (vx_cwSW 6 hts gL_areReadersRight_L_deed rfl rfl rfl (by decide +kernel) ⟨Nat.le_of_ble_eq_true rfl, Nat.le_of_ble_eq_true rfl⟩) (hPW.preS hP hS) rfl rfl hl.1 rfl (lv_room (Nat.le_of_ble_eq_true rfl)) dL_areReadersRight_72 ⟨(by show _ ≤ 34000; omega), (by show _ ≤ 204000; omega)⟩) hS (fun r72 u72 H locs h72 hP hS => ?_)
              obtain rfl := od1 (f := fun j => poF x (nI j) (nI h) cnt) (by omega) (by omega) h72
              refine lv_iadd hx hb dL_areReadersRight_75 ?_
              refine lv_istore (lv' := [(5, .int ((riS x i9 cnt h) + (poF x (nI i9) (nI h) cnt))), (6, .int (nI h)), (0, .ref (L 0)), (1, .int (nI nn)), (2, .int 1), (3, .int (nI i9)), (4, .int (rdS x i9 4))]) hx hb dL_areReadersRight_76 hl (by decide) rfl (fun ls hl => ?_)
              obtain ⟨z78, ez78⟩ : ∃ y : Int32, y = nI h + 1 := ⟨_, rfl⟩
              refine lv_iinc (v := z78) (lv' := [(6, .int z78), (5, .int ((riS x i9 cnt h) + (poF x (nI i9) (nI h) cnt))), (0, .ref (L 0)), (1, .int (nI nn)), (2, .int 1), (3, .int (nI i9)), (4, .int (rdS x i9 4))]) hx hb dL_areReadersRight_78 hl (k := 1) rfl (by rw [ez78]; rfl) (by decide) rfl (fun ls hl => ?_)
              refine lv_goto (tgt := 53) hx hb dL_areReadersRight_81 (by decide) ?_
              refine W.widen (k := 0 + 830 * i9 + 4 * 4 + 4 * (h + 1)) (n := 0 + 4980 * i9 + 24 * 4 + 24 * (h + 1)) (by omega) (by omega) ?_
              exact ihh (h + 1) _ _ _ _ _ (by omega) (by rw [ez78, nI_1]) rfl hP hS (lv_sub hl [0, 1, 2, 3, 4, 5, 6] rfl)
          refine W.widen (k := 0 + 830 * i9 + 4 * 4 + 4 * 0) (n := 0 + 4980 * i9 + 24 * 4 + 24 * 0) (by omega) (by omega) ?_
          exact key53 (hr9 + 1) 0 _ _ _ _ _ (by omega) rfl rfl hP hS (lv_sub hl [0, 6, 2, 3, 4, 5, 1] rfl)
        | succ dd ihd =>
          intro d y6d y4d H locs ls hkdd ey6d ey4d hP hS hl
          have hkNd : d < 4 := by omega
          subst ey6d ey4d
          refine lv_iload hx hb dL_areReadersRight_22 (lv_at hl 0 rfl) ?_
          refine lv_iconst (v := 4) hx hb dL_areReadersRight_24 (by decide) ?_
          refine lv_icmp_ge (tgt := 50) hx hb dL_areReadersRight_25 (by decide) (fun c25 => absurd c25 (nI_ge (b := 4) hkNd (by decide))) (fun c25 => ?_)
          refine lv_iload hx hb dL_areReadersRight_28 (lv_at hl 1 rfl) ?_
          refine lv_aload_n hx hb dL_areReadersRight_30 rfl (lv_at hl 2 rfl) ?_
          refine lv_bipush (v := 17) hx hb dL_areReadersRight_31 (by decide) ?_
          refine lv_iload_n hx hb dL_areReadersRight_33 rfl (lv_at hl 5 rfl) ?_
          refine lv_iload hx hb dL_areReadersRight_34 (lv_at hl 0 rfl) ?_
          refine lv_iconst (v := 0) hx hb dL_areReadersRight_36 (by decide) ?_
          refine lv_iconst (v := 0) hx hb dL_areReadersRight_37 (by decide) ?_
          refine wx_calli (vx_runSW (As := [.ref (L 0), .int 17, .int (nI i9), .int (nI d), .int 0, .int 0]) (rest := [.int (rdS x i9 d)]) ⟨hx, hb, hml, hown, hts⟩ (dd_17 l hst g base n L (by omega) x r0 4 (by omega) hx0 nn hnn hx1 (nI i9) (nI d) 0 0) (vx_cwSW 6 hts gL_areReadersRight_L_deed rfl rfl rfl (by decide +kernel) ⟨Nat.le_of_ble_eq_true rfl, Nat.le_of_ble_eq_true rfl⟩) (hPW.preS hP hS) rfl rfl hl.1 rfl (lv_room (Nat.le_of_ble_eq_true rfl)) dL_areReadersRight_38 ⟨(by show _ ≤ 34000; omega), (by show _ ≤ 204000; omega)⟩) hS (fun r38 u38 H locs h38 hP hS => ?_)
          obtain rfl := od17 (by omega) (by omega) (by omega) h38
          refine lv_iadd hx hb dL_areReadersRight_41 ?_
          refine lv_istore (lv' := [(4, .int ((rdS x i9 d) + (riF x i9 (nI d) 4))), (6, .int (nI d)), (0, .ref (L 0)), (1, .int (nI nn)), (2, .int 1), (3, .int (nI i9)), (5, .int 0)]) hx hb dL_areReadersRight_42 hl (by decide) rfl (fun ls hl => ?_)
          obtain ⟨z44, ez44⟩ : ∃ y : Int32, y = nI d + 1 := ⟨_, rfl⟩
          refine lv_iinc (v := z44) (lv' := [(6, .int z44), (4, .int ((rdS x i9 d) + (riF x i9 (nI d) 4))), (0, .ref (L 0)), (1, .int (nI nn)), (2, .int 1), (3, .int (nI i9)), (5, .int 0)]) hx hb dL_areReadersRight_44 hl (k := 1) rfl (by rw [ez44]; rfl) (by decide) rfl (fun ls hl => ?_)
          refine lv_goto (tgt := 22) hx hb dL_areReadersRight_47 (by decide) ?_
          refine W.widen (k := 0 + 830 * i9 + 4 * (d + 1)) (n := 0 + 4980 * i9 + 24 * (d + 1)) (by omega) (by omega) ?_
          exact ihd (d + 1) _ _ _ _ _ (by omega) (by rw [ez44, nI_1]) rfl hP hS (lv_sub hl [0, 1, 2, 3, 4, 5, 6] rfl)
      refine W.widen (k := 0 + 830 * i9 + 4 * 0) (n := 0 + 4980 * i9 + 24 * 0) (by omega) (by omega) ?_
      exact key22 4 0 _ _ _ _ _ (by omega) rfl rfl hP hS (lv_sub hl [0, 2, 5, 6, 4, 3, 1] rfl)
  refine W.widen (k := 0 + 830 * 0) (n := 0 + 4980 * 0) (by omega) (by omega) ?_
  exact key4 nn 0 _ _ _ _ _ (by omega) rfl rfl hP hS (lv_sub hl [0, 1, 2, 3] rfl)

