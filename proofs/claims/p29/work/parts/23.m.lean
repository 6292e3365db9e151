/-! laid by wip/gen -/
set_option maxHeartbeats 4000000 in
set_option maxRecDepth 100000 in
theorem m_go (l : Launch) (hst : l.stackTraces = false) (g : gE) (base n : Nat) (L : Nat → Nat) (hn : 123 ≤ n) (y : St) (ch : Int64) (r0 : Nat → va_E) (nb nn : Nat) (hM : MI y nb nn) (p0 : Int32) : Met l yX4_go wsX4_go ({ frames := 6, cells := 0, slots := 0, locals := 360 }) (va_Pc [.ref (L 106), .int p0] (PW SS g base n L (mw g L y ch r0))) (va_Qi (fun (r : Int32) (u : MS) => (¬ (1 ≤ p0.toInt ∧ p0.toInt ≤ 48) ∧ u = (st (st y 0 0 0 0) 0 0 0 1, ch)) ∨ ((1 ≤ p0.toInt ∧ p0.toInt ≤ 48) ∧ ¬ (st y 0 0 0 0) 1 0 0 + p0 ≤ 2000 ∧ u = (st (st y 0 0 0 0) 0 0 0 2, ch)) ∨ ((1 ≤ p0.toInt ∧ p0.toInt ≤ 48) ∧ (st y 0 0 0 0) 1 0 0 + p0 ≤ 2000 ∧ ∃ N, N ≤ 48 ∧ p0 = nI N ∧ u = goM (st y 0 0 0 0, ch) nb nn N ∧ r = u.1 1 0 0)) (fun (u : MS) t => PB g n L (mw g L u.1 u.2 r0) t) (fun q => base ≤ q)) 0 0 (fun q => base ≤ q) := by
  refine Met.ofW (cc := cX4_go) (maxL := 4) (ret := (some .int)) (by decide) rfl ?_
  intro p e s m args below meth c s₁ B hml hv
  obtain ⟨rfl, hPW⟩ := hv
  obtain ⟨hbs, hJ, hP, hK, hE⟩ := id hPW
  have hx := B.exec
  have hb := B.bytes
  have hr := B.returns
  have hts := atoms_spec (ws := wsX4_go) B.pre
  have hown : s.vm.findClass RX4 = some m.cls := findClass_of_methodNamed B.named
  have hlocks := B.notSynchronized
  have hS : va_S (fun q : Nat => base ≤ q) s.heap s.heap [] := va_S.rf
  have hl := lv_entry ([.ref (L 106), .int p0]) (n := 4) (Nat.le_of_ble_eq_true rfl)
  rw [lg_entry_eq]
  generalize (lg_sl ([.ref (L 106), .int p0]) ++ List.replicate (4 - (lg_sl ([.ref (L 106), .int p0])).length) Slot.unset).toArray = ls at hl ⊢
  have hl : lv_has ls 4 [(0, .ref (L 106)), (1, .int p0)] := hl
  have iX4 : ∀ w ∈ wsX40, w ∈ wsX4_go := by decide +kernel
  have hnb := hM.nb6
  have hnn := hM.nn40
  have hy3 := hM.y3
  have hy4 := hM.y4
  have hT3 : (st y 0 0 0 0) 3 0 0 = nI nb := (st_nr (by omega)).trans hy3
  have hT4 : (st y 0 0 0 0) 4 0 0 = nI nn := (st_nr (by omega)).trans hy4
  refine lv_aload_n hx hb dX4_go_0 rfl (lv_at hl 0 rfl) ?_
  refine lv_iconst (v := 0) hx hb dX4_go_1 (by decide) ?_
  refine wx_put (D := g.1) (cl := vwCl) (ci := 6) (v := .int 0) (ty := .int) (w' := mw g L (st y 0 0 0 0) ch r0) (C := RX4) (T := TX4) (N := 22) hx hb hts iX4 tyX4 tyX4_ok nmX4 hown hK hP hJ hS (106) (by omega) mw_o rfl 0 (by decide) (hts (.fieldLink RX4 64 "FerroDeskModel" "thrown" "I") (by decide +kernel)) (fun _ h9 => h9) rfl (by decide +kernel) rfl rfl (Nat.le_of_ble_eq_true rfl) dX4_go_2 (mw_put (r := 0) (i := 0) (j := 0) rfl (by omega) (mk_o.trans (by simp [mF, st]))) (fun H locs hP hS => ?_)
  refine lv_aload_n hx hb dX4_go_5 rfl (lv_at hl 0 rfl) ?_
  refine lv_iload_n hx hb dX4_go_6 rfl (lv_at hl 1 rfl) ?_
  refine lv_iconst (v := 1) hx hb dX4_go_7 (by decide) ?_
  refine lv_bipush (v := 48) hx hb dX4_go_8 (by decide) ?_
  refine wx_calli (va_runS (As := [.int p0, .int 1, .int 48]) (rest := [.ref (L 106)]) ⟨hx, hb, hml, hown, hts⟩ (m_in l hst g base n L (mw g L (st y 0 0 0 0) ch r0) p0 1 48) (va_cwS 3 hts gX4_go_X4_in rfl rfl rfl (by decide +kernel) ⟨Nat.le_of_ble_eq_true rfl, Nat.le_of_ble_eq_true rfl⟩) (hPW.preS hP hS) rfl rfl hl.1 rfl (lv_room (Nat.le_of_ble_eq_true rfl)) dX4_go_10 ⟨Nat.le_of_ble_eq_true rfl, Nat.le_of_ble_eq_true rfl⟩) hS (fun r10 u10 H locs h10 hP hS => ?_)
  rcases h10 with ⟨rfl, h10⟩ | ⟨rfl, h10⟩
  · refine lv_if_ne (tgt := 20) hx hb dX4_go_13 (by decide) (fun c13 => ?_) (fun c13 => absurd c13 (by decide))
    refine lv_iconst (v := 0) hx hb dX4_go_20 (by decide) ?_
    refine lv_iconst (v := 1) hx hb dX4_go_21 (by decide) ?_
    refine wx_calli (va_runV (As := [.int 0, .int 1]) (rest := []) ⟨hx, hb, hml, hown, hts⟩ (m_fails l hst g base n L (by omega) (st y 0 0 0 0) ch r0 st_eq 0 1 (by decide)) (cwV 2 hts gX4_go_X4_fails rfl rfl rfl (by decide +kernel) ⟨Nat.le_of_ble_eq_true rfl, Nat.le_of_ble_eq_true rfl⟩) (hPW.preV hP hS (ci := 6) rfl (by omega) mw_o) rfl rfl hl.1 rfl (lv_room (Nat.le_of_ble_eq_true rfl)) dX4_go_22 ⟨Nat.le_of_ble_eq_true rfl, Nat.le_of_ble_eq_true rfl⟩) hS (fun r22 u22 H locs h22 hP hS => ?_)
    obtain ⟨rfl, -, e9⟩ : r22 = 0 ∧ True ∧ u22 = st y 0 0 0 0 := by rcases h22 with ⟨a, -, b⟩ | ⟨-, b, -⟩; exact ⟨a, trivial, b⟩; exact absurd rfl b
    have e9 := e9.symm
    subst e9
    refine lv_if_ne (tgt := 53) hx hb dX4_go_25 (by decide) (fun c25 => absurd c25 (by decide)) (fun c25 => ?_)
    refine lv_aload_n hx hb dX4_go_28 rfl (lv_at hl 0 rfl) ?_
    refine lv_aload_n hx hb dX4_go_29 rfl (lv_at hl 0 rfl) ?_
    refine wx_get (D := g.1) (cl := vwCl) (ci := 6) (v := .int ((st y 0 0 0 0) 1 0 0)) (C := RX4) (T := TX4) (N := 22) hx hb hts iX4 hown hK hP (106) (by omega) mw_o rfl 1 (by decide) (hts (.fieldLink RX4 101 "FerroDeskModel" "hour" "I") (by decide +kernel)) (fun _ h9 => h9) rfl dX4_go_30 ?_
    refine lv_iload_n hx hb dX4_go_33 rfl (lv_at hl 1 rfl) ?_
    refine lv_iadd hx hb dX4_go_34 ?_
    refine lv_sipush (v := 2000) hx hb dX4_go_35 (by decide) ?_
    refine lv_icmp_le (tgt := 45) hx hb dX4_go_38 (by decide) (fun c38 => ?_) (fun c38 => ?_)
    · refine lv_iconst (v := 0) hx hb dX4_go_45 (by decide) ?_
      refine lv_iconst (v := 2) hx hb dX4_go_46 (by decide) ?_
      refine wx_calli (va_runV (As := [.int 0, .int 2]) (rest := []) ⟨hx, hb, hml, hown, hts⟩ (m_fails l hst g base n L (by omega) (st y 0 0 0 0) ch r0 st_eq 0 2 (by decide)) (cwV 2 hts gX4_go_X4_fails rfl rfl rfl (by decide +kernel) ⟨Nat.le_of_ble_eq_true rfl, Nat.le_of_ble_eq_true rfl⟩) (hPW.preV hP hS (ci := 6) rfl (by omega) mw_o) rfl rfl hl.1 rfl (lv_room (Nat.le_of_ble_eq_true rfl)) dX4_go_47 ⟨Nat.le_of_ble_eq_true rfl, Nat.le_of_ble_eq_true rfl⟩) hS (fun r47 u47 H locs h47 hP hS => ?_)
      obtain ⟨rfl, -, e9⟩ : r47 = 0 ∧ True ∧ u47 = st y 0 0 0 0 := by rcases h47 with ⟨a, -, b⟩ | ⟨-, b, -⟩; exact ⟨a, trivial, b⟩; exact absurd rfl b
      have e9 := e9.symm
      subst e9
      refine lv_if_eq (tgt := 55) hx hb dX4_go_50 (by decide) (fun c50 => ?_) (fun c50 => absurd (by decide) c50)
      obtain ⟨N, hN, eN⟩ := nI_rng (n := 48) (p := p0) (by (try revert h10); (try simp only [xor_m1]); (try simp only [Int32.lt_iff_toInt_lt, Int32.le_iff_toInt_le, ← Int32.toInt_inj, i_0, i_1, i_2, i_3, i_4, i_6, i_9, i_20, i_32, i_40, i_48, i_60, i_200, i_999, i_2000, i_m1, i_8]); (try simp only [i_8, i_7]); omega) (by (try revert h10); (try simp only [xor_m1]); (try simp only [Int32.lt_iff_toInt_lt, Int32.le_iff_toInt_le, ← Int32.toInt_inj, i_0, i_1, i_2, i_3, i_4, i_6, i_9, i_20, i_32, i_40, i_48, i_60, i_200, i_999, i_2000, i_m1, i_8]); (try simp only [i_8, i_7]); omega)
      have hMt : MI ((st y 0 0 0 0, ch) : MS).1 nb nn := hM.tz
      refine lv_iconst (v := 0) hx hb dX4_go_55 (by decide) ?_
      refine lv_istore_n (lv' := [(2, .int 0), (0, .ref (L 106)), (1, .int p0)]) hx hb dX4_go_56 rfl hl (by decide) rfl (fun ls hl => ?_)
      have key57 : ∀ (d k : Nat) (z2 : Int32) (s1 : MS) (H : Heap) (locs : List Loc) (ls : Array Slot), k + d = N → (z2 = nI k) → (s1 = goM (st y 0 0 0 0, ch) nb nn k) → va_P g.1 vwCl (wl n L (mw g L s1.1 s1.2 r0)) H → va_S (fun q : Nat => base ≤ q) s.heap H locs → lv_has ls 4 [(2, .int z2), (0, .ref (L 106)), (1, .int p0)] → W p l e (headSpec wsX4_go ({ frames := 6, cells := 0, slots := 0, locals := 360 })).room s m ([.ref (L 106), .int p0] : List Value).toArray below meth c H locs (0 + 0 + 0 + 0) (0 + 0 + 0 + 0) (MQ below (va_Qi (fun (r : Int32) (u : MS) => (¬ (1 ≤ p0.toInt ∧ p0.toInt ≤ 48) ∧ u = (st (st y 0 0 0 0) 0 0 0 1, ch)) ∨ ((1 ≤ p0.toInt ∧ p0.toInt ≤ 48) ∧ ¬ (st y 0 0 0 0) 1 0 0 + p0 ≤ 2000 ∧ u = (st (st y 0 0 0 0) 0 0 0 2, ch)) ∨ ((1 ≤ p0.toInt ∧ p0.toInt ≤ 48) ∧ (st y 0 0 0 0) 1 0 0 + p0 ≤ 2000 ∧ ∃ N, N ≤ 48 ∧ p0 = nI N ∧ u = goM (st y 0 0 0 0, ch) nb nn N ∧ r = u.1 1 0 0)) (fun (u : MS) t => PB g n L (mw g L u.1 u.2 r0) t) (fun q => base ≤ q)) ([.ref (L 106), .int p0] : List Value).toArray s 0 0 (fun q => base ≤ q)) (F0 m 57 ls []) := by
        intro d
        induction d with
        | zero =>
          intro k z2 s1 H locs ls hkd ek2 es1 hP hS hl
          obtain rfl : N = k := by omega
          subst ek2 es1
          refine lv_iload_n hx hb dX4_go_57 rfl (lv_at hl 0 rfl) ?_
          refine lv_iload_n hx hb dX4_go_58 rfl (lv_at hl 2 rfl) ?_
          refine lv_icmp_ge (tgt := 155) hx hb dX4_go_59 (by decide) (fun c59 => ?_) (fun c59 => absurd (by rw [eN]; exact nI_le (Nat.le_refl _) (by omega)) c59)
          refine lv_aload_n hx hb dX4_go_155 rfl (lv_at hl 1 rfl) ?_
          refine wx_get (D := g.1) (cl := vwCl) (ci := 6) (v := .int (((goM (st y 0 0 0 0, ch) nb nn N).1) 1 0 0)) (C := RX4) (T := TX4) (N := 22) hx hb hts iX4 hown hK hP (106) (by omega) mw_o rfl 1 (by decide) (hts (.fieldLink RX4 101 "FerroDeskModel" "hour" "I") (by decide +kernel)) (fun _ h9 => h9) rfl dX4_go_156 ?_
          refine W.widen (k := 0) (n := 0) (Nat.le_of_ble_eq_true rfl) (Nat.le_of_ble_eq_true rfl) ?_
          exact W.iret (v := ((goM (st y 0 0 0 0, ch) nb nn N).1) 1 0 0) hx hb hr (fun t ht hW => ⟨⟨((goM (st y 0 0 0 0, ch) nb nn N).1) 1 0 0, goM (st y 0 0 0 0, ch) nb nn N, rfl, Or.inr (Or.inr ⟨(by (try revert h10); (try simp only [xor_m1]); (try simp only [Int32.lt_iff_toInt_lt, Int32.le_iff_toInt_le, ← Int32.toInt_inj, i_0, i_1, i_2, i_3, i_4, i_6, i_9, i_20, i_32, i_40, i_48, i_60, i_200, i_999, i_2000, i_m1, i_8]); (try simp only [i_8, i_7]); omega), c38, N, hN, eN, rfl, rfl⟩), PB.mk9 hP ht⟩, hS.F ht⟩) hS.2.2 dX4_go_159
        | succ d ih =>
          intro k z2 s1 H locs ls hkd ek2 es1 hP hS hl
          have hkN : k < N := by omega
          subst ek2 es1
          refine lv_iload_n hx hb dX4_go_57 rfl (lv_at hl 0 rfl) ?_
          refine lv_iload_n hx hb dX4_go_58 rfl (lv_at hl 2 rfl) ?_
          refine lv_icmp_ge (tgt := 155) hx hb dX4_go_59 (by decide) (fun c59 => absurd c59 (by rw [eN]; exact nI_ge hkN (by omega))) (fun c59 => ?_)
          refine lv_aload_n hx hb dX4_go_62 rfl (lv_at hl 1 rfl) ?_
          refine lv_dup hx hb dX4_go_63 rfl ?_
          refine wx_get (D := g.1) (cl := vwCl) (ci := 6) (v := .int (((goM (st y 0 0 0 0, ch) nb nn k).1) 1 0 0)) (C := RX4) (T := TX4) (N := 22) hx hb hts iX4 hown hK hP (106) (by omega) mw_o rfl 1 (by decide) (hts (.fieldLink RX4 101 "FerroDeskModel" "hour" "I") (by decide +kernel)) (fun _ h9 => h9) rfl dX4_go_64 ?_
          refine lv_iconst (v := 1) hx hb dX4_go_67 (by decide) ?_
          refine lv_iadd hx hb dX4_go_68 ?_
          refine wx_put (D := g.1) (cl := vwCl) (ci := 6) (v := .int ((((goM (st y 0 0 0 0, ch) nb nn k).1) 1 0 0) + 1)) (ty := .int) (w' := mw g L (st ((goM (st y 0 0 0 0, ch) nb nn k).1) 1 0 0 ((((goM (st y 0 0 0 0, ch) nb nn k).1) 1 0 0) + 1)) ((goM (st y 0 0 0 0, ch) nb nn k).2) r0) (C := RX4) (T := TX4) (N := 22) hx hb hts iX4 tyX4 tyX4_ok nmX4 hown hK hP hJ hS (106) (by omega) mw_o rfl 1 (by decide) (hts (.fieldLink RX4 101 "FerroDeskModel" "hour" "I") (by decide +kernel)) (fun _ h9 => h9) rfl (by decide +kernel) rfl rfl (Nat.le_of_ble_eq_true rfl) dX4_go_69 (mw_put (r := 1) (i := 0) (j := 0) rfl (by omega) (mk_o.trans (by simp [mF, st]))) (fun H locs hP hS => ?_)
          refine lv_iconst (v := 0) hx hb dX4_go_72 (by decide) ?_
          refine lv_istore_n (lv' := [(3, .int 0), (2, .int (nI k)), (0, .ref (L 106)), (1, .int p0)]) hx hb dX4_go_73 rfl hl (by decide) rfl (fun ls hl => ?_)
          have key74 : ∀ (dj j : Nat) (z3 : Int32) (s3 : MS) (H : Heap) (locs : List Loc) (ls : Array Slot), j + dj = nb → (z3 = nI j) → (s3 = grM (gsM (goM (st y 0 0 0 0, ch) nb nn k)) nn j) → va_P g.1 vwCl (wl n L (mw g L s3.1 s3.2 r0)) H → va_S (fun q : Nat => base ≤ q) s.heap H locs → lv_has ls 4 [(3, .int z3), (0, .ref (L 106)), (1, .int p0), (2, .int (nI k))] → W p l e (headSpec wsX4_go ({ frames := 6, cells := 0, slots := 0, locals := 360 })).room s m ([.ref (L 106), .int p0] : List Value).toArray below meth c H locs (0 + 0 + 0 + 0) (0 + 0 + 0 + 0) (MQ below (va_Qi (fun (r : Int32) (u : MS) => (¬ (1 ≤ p0.toInt ∧ p0.toInt ≤ 48) ∧ u = (st (st y 0 0 0 0) 0 0 0 1, ch)) ∨ ((1 ≤ p0.toInt ∧ p0.toInt ≤ 48) ∧ ¬ (st y 0 0 0 0) 1 0 0 + p0 ≤ 2000 ∧ u = (st (st y 0 0 0 0) 0 0 0 2, ch)) ∨ ((1 ≤ p0.toInt ∧ p0.toInt ≤ 48) ∧ (st y 0 0 0 0) 1 0 0 + p0 ≤ 2000 ∧ ∃ N, N ≤ 48 ∧ p0 = nI N ∧ u = goM (st y 0 0 0 0, ch) nb nn N ∧ r = u.1 1 0 0)) (fun (u : MS) t => PB g n L (mw g L u.1 u.2 r0) t) (fun q => base ≤ q)) ([.ref (L 106), .int p0] : List Value).toArray s 0 0 (fun q => base ≤ q)) (F0 m 74 ls []) := by
            intro dj
            induction dj with
            | zero =>
              intro j z3 s3 H locs ls hkdj ek3 es1 hP hS hl
              obtain rfl : nb = j := by omega
              subst ek3 es1
              refine lv_iload_n hx hb dX4_go_74 rfl (lv_at hl 0 rfl) ?_
              refine lv_aload_n hx hb dX4_go_75 rfl (lv_at hl 1 rfl) ?_
              refine wx_get (D := g.1) (cl := vwCl) (ci := 6) (v := .int (((grM (gsM (goM (st y 0 0 0 0, ch) nb nn k)) nn nb).1) 3 0 0)) (C := RX4) (T := TX4) (N := 22) hx hb hts iX4 hown hK hP (106) (by omega) mw_o rfl 3 (by decide) (hts (.fieldLink RX4 67 "FerroDeskModel" "boards" "I") (by decide +kernel)) (fun _ h9 => h9) rfl dX4_go_76 ?_
              refine lv_icmp_ge (tgt := 149) hx hb dX4_go_79 (by decide) (fun c79 => ?_) (fun c79 => absurd (by rw [((hMt.go k).gs.gr nb).y3]; exact nI_le (Nat.le_refl _) (by omega)) c79)
              obtain ⟨z149, ez149⟩ : ∃ y : Int32, y = nI k + 1 := ⟨_, rfl⟩
              refine lv_iinc (v := z149) (lv' := [(2, .int z149), (3, .int (nI nb)), (0, .ref (L 106)), (1, .int p0)]) hx hb dX4_go_149 hl (k := 3) rfl (by rw [ez149]; rfl) (by decide) rfl (fun ls hl => ?_)
              refine lv_goto (tgt := 57) hx hb dX4_go_152 (by decide) ?_
              exact ih (k + 1) _ (grM (gsM (goM (st y 0 0 0 0, ch) nb nn k)) nn nb) _ _ _ (by omega) (by rw [ez149, nI_1]) rfl hP hS (lv_sub hl [0, 2, 3] rfl)
            | succ dj ihj =>
              intro j z3 s3 H locs ls hkdj ek3 es1 hP hS hl
              have hkNj : j < nb := by omega
              subst ek3 es1
              refine lv_iload_n hx hb dX4_go_74 rfl (lv_at hl 0 rfl) ?_
              refine lv_aload_n hx hb dX4_go_75 rfl (lv_at hl 1 rfl) ?_
              refine wx_get (D := g.1) (cl := vwCl) (ci := 6) (v := .int (((grM (gsM (goM (st y 0 0 0 0, ch) nb nn k)) nn j).1) 3 0 0)) (C := RX4) (T := TX4) (N := 22) hx hb hts iX4 hown hK hP (106) (by omega) mw_o rfl 3 (by decide) (hts (.fieldLink RX4 67 "FerroDeskModel" "boards" "I") (by decide +kernel)) (fun _ h9 => h9) rfl dX4_go_76 ?_
              refine lv_icmp_ge (tgt := 149) hx hb dX4_go_79 (by decide) (fun c79 => absurd c79 (by rw [((hMt.go k).gs.gr j).y3]; exact nI_ge hkNj (by omega))) (fun c79 => ?_)
              refine lv_aload_n hx hb dX4_go_82 rfl (lv_at hl 1 rfl) ?_
              refine wx_get (D := g.1) (cl := vwCl) (ci := 6) (v := .ref (L 108)) (C := RX4) (T := TX4) (N := 22) hx hb hts iX4 hown hK hP (106) (by omega) mw_o rfl 7 (by decide) (hts (.fieldLink RX4 17 "FerroDeskModel" "charge" "[I") (by decide +kernel)) (fun _ h9 => h9) rfl dX4_go_83 ?_
              refine lv_iload_n hx hb dX4_go_86 rfl (lv_at hl 0 rfl) ?_
              refine lv_sipush (v := 200) hx hb dX4_go_87 (by decide) ?_
              refine lv_aload_n hx hb dX4_go_90 rfl (lv_at hl 1 rfl) ?_
              refine wx_get (D := g.1) (cl := vwCl) (ci := 6) (v := .ref (L 108)) (C := RX4) (T := TX4) (N := 22) hx hb hts iX4 hown hK hP (106) (by omega) mw_o rfl 7 (by decide) (hts (.fieldLink RX4 17 "FerroDeskModel" "charge" "[I") (by decide +kernel)) (fun _ h9 => h9) rfl dX4_go_91 ?_
              refine lv_iload_n hx hb dX4_go_94 rfl (lv_at hl 0 rfl) ?_
              refine wx_ialdv (D := g.1) (cl := vwCl) (N := 6) (f := fun j9 => ((grM (gsM (goM (st y 0 0 0 0, ch) nb nn k)) nn j).1) 11 0 j9) (v := ((grM (gsM (goM (st y 0 0 0 0, ch) nb nn k)) nn j).1) 11 0 j) hx hb hK hP (108) 0 (by omega) (mw_a (by decide) (by decide)) rfl (i := nI j) (by exact vp_in_nI (by omega) (by decide)) (by rw [nI_clamp (by omega)]) dX4_go_95 ?_
              refine lv_aload_n hx hb dX4_go_96 rfl (lv_at hl 1 rfl) ?_
              refine wx_get (D := g.1) (cl := vwCl) (ci := 6) (v := .int (((grM (gsM (goM (st y 0 0 0 0, ch) nb nn k)) nn j).1) 2 0 0)) (C := RX4) (T := TX4) (N := 22) hx hb hts iX4 hown hK hP (106) (by omega) mw_o rfl 2 (by decide) (hts (.fieldLink RX4 7 "FerroDeskModel" "light" "I") (by decide +kernel)) (fun _ h9 => h9) rfl dX4_go_97 ?_
              refine lv_iadd hx hb dX4_go_100 ?_
              refine wx_calli (va_runS (As := [.int 200, .int ((((grM (gsM (goM (st y 0 0 0 0, ch) nb nn k)) nn j).1) 11 0 j) + (((grM (gsM (goM (st y 0 0 0 0, ch) nb nn k)) nn j).1) 2 0 0))]) (rest := [.int (nI j), .ref (L 108)]) ⟨hx, hb, hml, hown, hts⟩ (m_least l hst g base n L (mw g L ((grM (gsM (goM (st y 0 0 0 0, ch) nb nn k)) nn j).1) ((grM (gsM (goM (st y 0 0 0 0, ch) nb nn k)) nn j).2) r0) 200 ((((grM (gsM (goM (st y 0 0 0 0, ch) nb nn k)) nn j).1) 11 0 j) + (((grM (gsM (goM (st y 0 0 0 0, ch) nb nn k)) nn j).1) 2 0 0))) (va_cwS 2 hts gX4_go_X4_least rfl rfl rfl (by decide +kernel) ⟨Nat.le_of_ble_eq_true rfl, Nat.le_of_ble_eq_true rfl⟩) (hPW.preS hP hS) rfl rfl hl.1 rfl (lv_room (Nat.le_of_ble_eq_true rfl)) dX4_go_101 ⟨Nat.le_of_ble_eq_true rfl, Nat.le_of_ble_eq_true rfl⟩) hS (fun r101 u101 H locs h101 hP hS => ?_)
              obtain rfl := h101
              refine wx_iast (D := g.1) (cl := vwCl) (N := 6) (f := fun j9 => ((grM (gsM (goM (st y 0 0 0 0, ch) nb nn k)) nn j).1) 11 0 j9) (w' := mw g L (st ((grM (gsM (goM (st y 0 0 0 0, ch) nb nn k)) nn j).1) 11 0 j (leI 200 ((((grM (gsM (goM (st y 0 0 0 0, ch) nb nn k)) nn j).1) 11 0 j) + (((grM (gsM (goM (st y 0 0 0 0, ch) nb nn k)) nn j).1) 2 0 0)))) ((grM (gsM (goM (st y 0 0 0 0, ch) nb nn k)) nn j).2) r0) hx hb hK hP hJ hS (108) 0 (by omega) (mw_a (by decide) (by decide)) rfl (i := nI j) (by exact vp_in_nI (by omega) (by decide)) dX4_go_104 (by rw [nI_clamp (by omega)]; exact mw_st (r := 11) rfl (by decide) (by decide) rfl rfl rfl) (fun H locs hP hS => ?_)
              obtain ⟨s2, es2⟩ : ∃ q9 : MS, q9 = (cbM (grM (gsM (goM (st y 0 0 0 0, ch) nb nn k)) nn j).1 j, (grM (gsM (goM (st y 0 0 0 0, ch) nb nn k)) nn j).2) := ⟨_, rfl⟩
              have hP : va_P g.1 vwCl (wl n L (mw g L s2.1 s2.2 r0)) H := by rw [es2]; exact hP
              have hM2 : MI s2.1 nb nn := by rw [es2]; exact (((hMt.go k).gs).gr j).k9 (by omega)
              refine lv_aload_n hx hb dX4_go_105 rfl (lv_at hl 1 rfl) ?_
              refine wx_get (D := g.1) (cl := vwCl) (ci := 6) (v := .ref (L 109)) (C := RX4) (T := TX4) (N := 22) hx hb hts iX4 hown hK hP (106) (by omega) mw_o rfl 8 (by decide) (hts (.fieldLink RX4 20 "FerroDeskModel" "shown" "[I") (by decide +kernel)) (fun _ h9 => h9) rfl dX4_go_106 ?_
              refine lv_iload_n hx hb dX4_go_109 rfl (lv_at hl 0 rfl) ?_
              refine wx_ialdv (D := g.1) (cl := vwCl) (N := 6) (f := fun j9 => s2.1 12 0 j9) (v := s2.1 12 0 j) hx hb hK hP (109) 0 (by omega) (mw_a (by decide) (by decide)) rfl (i := nI j) (by exact vp_in_nI (by omega) (by decide)) (by rw [nI_clamp (by omega)]) dX4_go_110 ?_
              refine lv_iconst (v := (-1)) hx hb dX4_go_111 (by decide) ?_
              refine lv_icmp_eq (tgt := 138) hx hb dX4_go_112 (by decide) (fun c112 => ?_) (fun c112 => ?_)
              · have hP : va_P g.1 vwCl (wl n L (mw g L (gwM s2 j).1 (gwM s2 j).2 r0)) H := by rw [show gwM s2 j = s2 from if_pos c112]; exact hP
                refine lv_aload_n hx hb dX4_go_138 rfl (lv_at hl 1 rfl) ?_
                refine lv_iload_n hx hb dX4_go_139 rfl (lv_at hl 0 rfl) ?_
                refine wx_callv (va_runV (As := [.int (nI j)]) (rest := []) ⟨hx, hb, hml, hown, hts⟩ (m_choose l hst g base n L (by omega) ((gwM s2 j).1) ((gwM s2 j).2) r0 nb nn hM2.gw j (by omega)) (cwV 1 hts gX4_go_X4_choose rfl rfl rfl (by decide +kernel) ⟨Nat.le_of_ble_eq_true rfl, Nat.le_of_ble_eq_true rfl⟩) (hPW.preV hP hS (ci := 6) rfl (by omega) mw_o) rfl rfl hl.1 rfl (lv_room (Nat.le_of_ble_eq_true rfl)) dX4_go_140 ⟨Nat.le_of_ble_eq_true rfl, Nat.le_of_ble_eq_true rfl⟩) hS (fun u140 H locs h140 hP hS => ?_)
                obtain rfl := h140
                obtain ⟨z143, ez143⟩ : ∃ y : Int32, y = nI j + 1 := ⟨_, rfl⟩
                refine lv_iinc (v := z143) (lv' := [(3, .int z143), (0, .ref (L 106)), (1, .int p0), (2, .int (nI k))]) hx hb dX4_go_143 hl (k := 0) rfl (by rw [ez143]; rfl) (by decide) rfl (fun ls hl => ?_)
                refine lv_goto (tgt := 74) hx hb dX4_go_146 (by decide) ?_
                exact ihj (j + 1) _ (chM (gwM s2 j) j nn) _ _ _ (by omega) (by rw [ez143, nI_1]) (by rw [es2]; rfl) hP hS (lv_sub hl [0, 1, 2, 3] rfl)
              · obtain ⟨kq, hkq, ekq⟩ := (hM2.sh j (by omega)).resolve_left c112
                refine lv_aload_n hx hb dX4_go_115 rfl (lv_at hl 1 rfl) ?_
                refine wx_get (D := g.1) (cl := vwCl) (ci := 6) (v := .int (s2.1 1 0 0)) (C := RX4) (T := TX4) (N := 22) hx hb hts iX4 hown hK hP (106) (by omega) mw_o rfl 1 (by decide) (hts (.fieldLink RX4 101 "FerroDeskModel" "hour" "I") (by decide +kernel)) (fun _ h9 => h9) rfl dX4_go_116 ?_
                refine lv_aload_n hx hb dX4_go_119 rfl (lv_at hl 1 rfl) ?_
                refine wx_get (D := g.1) (cl := vwCl) (ci := 6) (v := .ref (L 117)) (C := RX4) (T := TX4) (N := 22) hx hb hts iX4 hown hK hP (106) (by omega) mw_o rfl 16 (by decide) (hts (.fieldLink RX4 45 "FerroDeskModel" "till" "[I") (by decide +kernel)) (fun _ h9 => h9) rfl dX4_go_120 ?_
                refine lv_aload_n hx hb dX4_go_123 rfl (lv_at hl 1 rfl) ?_
                refine wx_get (D := g.1) (cl := vwCl) (ci := 6) (v := .ref (L 109)) (C := RX4) (T := TX4) (N := 22) hx hb hts iX4 hown hK hP (106) (by omega) mw_o rfl 8 (by decide) (hts (.fieldLink RX4 20 "FerroDeskModel" "shown" "[I") (by decide +kernel)) (fun _ h9 => h9) rfl dX4_go_124 ?_
                refine lv_iload_n hx hb dX4_go_127 rfl (lv_at hl 0 rfl) ?_
                refine wx_ialdv (D := g.1) (cl := vwCl) (N := 6) (f := fun j9 => s2.1 12 0 j9) (v := s2.1 12 0 j) hx hb hK hP (109) 0 (by omega) (mw_a (by decide) (by decide)) rfl (i := nI j) (by exact vp_in_nI (by omega) (by decide)) (by rw [nI_clamp (by omega)]) dX4_go_128 ?_
                rw [ekq]
                refine wx_ialdv (D := g.1) (cl := vwCl) (N := 40) (f := fun j9 => s2.1 20 0 j9) (v := s2.1 20 0 kq) hx hb hK hP (117) 0 (by omega) (mw_a (by decide) (by decide)) rfl (i := nI kq) (by exact vp_in_nI (by omega) (by decide)) (by rw [nI_clamp (by omega)]) dX4_go_129 ?_
                refine lv_icmp_lt (tgt := 138) hx hb dX4_go_130 (by decide) (fun c130 => ?_) (fun c130 => ?_)
                · have hP : va_P g.1 vwCl (wl n L (mw g L (gwM s2 j).1 (gwM s2 j).2 r0)) H := by rw [show gwM s2 j = s2 from (if_neg c112).trans (if_neg (by rw [ekq, nI_clamp (show kq < 2 ^ 31 by omega)]; exact Int32.not_le.mpr c130))]; exact hP
                  refine lv_aload_n hx hb dX4_go_138 rfl (lv_at hl 1 rfl) ?_
                  refine lv_iload_n hx hb dX4_go_139 rfl (lv_at hl 0 rfl) ?_
                  refine wx_callv (va_runV (As := [.int (nI j)]) (rest := []) ⟨hx, hb, hml, hown, hts⟩ (m_choose l hst g base n L (by omega) ((gwM s2 j).1) ((gwM s2 j).2) r0 nb nn hM2.gw j (by omega)) (cwV 1 hts gX4_go_X4_choose rfl rfl rfl (by decide +kernel) ⟨Nat.le_of_ble_eq_true rfl, Nat.le_of_ble_eq_true rfl⟩) (hPW.preV hP hS (ci := 6) rfl (by omega) mw_o) rfl rfl hl.1 rfl (lv_room (Nat.le_of_ble_eq_true rfl)) dX4_go_140 ⟨Nat.le_of_ble_eq_true rfl, Nat.le_of_ble_eq_true rfl⟩) hS (fun u140 H locs h140 hP hS => ?_)
                  obtain rfl := h140
                  obtain ⟨z143, ez143⟩ : ∃ y : Int32, y = nI j + 1 := ⟨_, rfl⟩
                  refine lv_iinc (v := z143) (lv' := [(3, .int z143), (0, .ref (L 106)), (1, .int p0), (2, .int (nI k))]) hx hb dX4_go_143 hl (k := 0) rfl (by rw [ez143]; rfl) (by decide) rfl (fun ls hl => ?_)
                  refine lv_goto (tgt := 74) hx hb dX4_go_146 (by decide) ?_
                  exact ihj (j + 1) _ (chM (gwM s2 j) j nn) _ _ _ (by omega) (by rw [ez143, nI_1]) (by rw [es2]; rfl) hP hS (lv_sub hl [0, 1, 2, 3] rfl)
                · refine lv_aload_n hx hb dX4_go_133 rfl (lv_at hl 1 rfl) ?_
                  refine lv_iload_n hx hb dX4_go_134 rfl (lv_at hl 0 rfl) ?_
                  refine wx_callv (va_runV (As := [.int (nI j)]) (rest := []) ⟨hx, hb, hml, hown, hts⟩ (m_wipe l hst g base n L (by omega) s2.1 s2.2 r0 j (by omega)) (cwV 1 hts gX4_go_X4_wipe rfl rfl rfl (by decide +kernel) ⟨Nat.le_of_ble_eq_true rfl, Nat.le_of_ble_eq_true rfl⟩) (hPW.preV hP hS (ci := 6) rfl (by omega) mw_o) rfl rfl hl.1 rfl (lv_room (Nat.le_of_ble_eq_true rfl)) dX4_go_135 ⟨Nat.le_of_ble_eq_true rfl, Nat.le_of_ble_eq_true rfl⟩) hS (fun u135 H locs h135 hP hS => ?_)
                  obtain rfl := h135
                  have hP : va_P g.1 vwCl (wl n L (mw g L (gwM s2 j).1 (gwM s2 j).2 r0)) H := by rw [show gwM s2 j = wpM s2 j from (if_neg c112).trans (if_pos (by rw [ekq, nI_clamp (show kq < 2 ^ 31 by omega)]; exact Int32.not_lt.mp c130))]; exact hP
                  refine lv_aload_n hx hb dX4_go_138 rfl (lv_at hl 1 rfl) ?_
                  refine lv_iload_n hx hb dX4_go_139 rfl (lv_at hl 0 rfl) ?_
                  refine wx_callv (va_runV (As := [.int (nI j)]) (rest := []) ⟨hx, hb, hml, hown, hts⟩ (m_choose l hst g base n L (by omega) ((gwM s2 j).1) ((gwM s2 j).2) r0 nb nn hM2.gw j (by omega)) (cwV 1 hts gX4_go_X4_choose rfl rfl rfl (by decide +kernel) ⟨Nat.le_of_ble_eq_true rfl, Nat.le_of_ble_eq_true rfl⟩) (hPW.preV hP hS (ci := 6) rfl (by omega) mw_o) rfl rfl hl.1 rfl (lv_room (Nat.le_of_ble_eq_true rfl)) dX4_go_140 ⟨Nat.le_of_ble_eq_true rfl, Nat.le_of_ble_eq_true rfl⟩) hS (fun u140 H locs h140 hP hS => ?_)
                  obtain rfl := h140
                  obtain ⟨z143, ez143⟩ : ∃ y : Int32, y = nI j + 1 := ⟨_, rfl⟩
                  refine lv_iinc (v := z143) (lv' := [(3, .int z143), (0, .ref (L 106)), (1, .int p0), (2, .int (nI k))]) hx hb dX4_go_143 hl (k := 0) rfl (by rw [ez143]; rfl) (by decide) rfl (fun ls hl => ?_)
                  refine lv_goto (tgt := 74) hx hb dX4_go_146 (by decide) ?_
                  exact ihj (j + 1) _ (chM (gwM s2 j) j nn) _ _ _ (by omega) (by rw [ez143, nI_1]) (by rw [es2]; rfl) hP hS (lv_sub hl [0, 1, 2, 3] rfl)
          exact key74 nb 0 _ (st ((goM (st y 0 0 0 0, ch) nb nn k).1) 1 0 0 ((((goM (st y 0 0 0 0, ch) nb nn k).1) 1 0 0) + 1), (goM (st y 0 0 0 0, ch) nb nn k).2) _ _ _ (by omega) rfl rfl hP hS (lv_sub hl [0, 2, 3, 1] rfl)
      exact key57 N 0 _ (st y 0 0 0 0, ch) _ _ _ (by omega) rfl rfl hP hS (lv_sub hl [0, 1, 2] rfl)
    · refine lv_iconst (v := 1) hx hb dX4_go_41 (by decide) ?_
      refine lv_goto (tgt := 46) hx hb dX4_go_42 (by decide) ?_
      refine lv_iconst (v := 2) hx hb dX4_go_46 (by decide) ?_
      refine wx_calli (va_runV (As := [.int 1, .int 2]) (rest := []) ⟨hx, hb, hml, hown, hts⟩ (m_fails l hst g base n L (by omega) (st y 0 0 0 0) ch r0 st_eq 1 2 (by decide)) (cwV 2 hts gX4_go_X4_fails rfl rfl rfl (by decide +kernel) ⟨Nat.le_of_ble_eq_true rfl, Nat.le_of_ble_eq_true rfl⟩) (hPW.preV hP hS (ci := 6) rfl (by omega) mw_o) rfl rfl hl.1 rfl (lv_room (Nat.le_of_ble_eq_true rfl)) dX4_go_47 ⟨Nat.le_of_ble_eq_true rfl, Nat.le_of_ble_eq_true rfl⟩) hS (fun r47 u47 H locs h47 hP hS => ?_)
      obtain ⟨rfl, -, e9⟩ : r47 = 1 ∧ True ∧ u47 = st (st y 0 0 0 0) 0 0 0 2 := by rcases h47 with ⟨-, b, -⟩ | ⟨a, -, b⟩; exact absurd b (by decide); exact ⟨a, trivial, b⟩
      have e9 := e9.symm
      subst e9
      refine lv_if_eq (tgt := 55) hx hb dX4_go_50 (by decide) (fun c50 => absurd c50 (by decide)) (fun c50 => ?_)
      refine lv_iconst (v := 0) hx hb dX4_go_53 (by decide) ?_
      refine W.widen (k := 0) (n := 0) (Nat.le_of_ble_eq_true rfl) (Nat.le_of_ble_eq_true rfl) ?_
      exact W.iret (v := 0) hx hb hr (fun t ht hW => ⟨⟨0, (st (st y 0 0 0 0) 0 0 0 2, ch), rfl, Or.inr (Or.inl ⟨(by (try revert h10); (try simp only [xor_m1]); (try simp only [Int32.lt_iff_toInt_lt, Int32.le_iff_toInt_le, ← Int32.toInt_inj, i_0, i_1, i_2, i_3, i_4, i_6, i_9, i_20, i_32, i_40, i_48, i_60, i_200, i_999, i_2000, i_m1, i_8]); (try simp only [i_8, i_7]); omega), c38, rfl⟩), PB.mk9 hP ht⟩, hS.F ht⟩) hS.2.2 dX4_go_54
  · refine lv_if_ne (tgt := 20) hx hb dX4_go_13 (by decide) (fun c13 => absurd c13 (by decide)) (fun c13 => ?_)
    refine lv_iconst (v := 1) hx hb dX4_go_16 (by decide) ?_
    refine lv_goto (tgt := 21) hx hb dX4_go_17 (by decide) ?_
    refine lv_iconst (v := 1) hx hb dX4_go_21 (by decide) ?_
    refine wx_calli (va_runV (As := [.int 1, .int 1]) (rest := []) ⟨hx, hb, hml, hown, hts⟩ (m_fails l hst g base n L (by omega) (st y 0 0 0 0) ch r0 st_eq 1 1 (by decide)) (cwV 2 hts gX4_go_X4_fails rfl rfl rfl (by decide +kernel) ⟨Nat.le_of_ble_eq_true rfl, Nat.le_of_ble_eq_true rfl⟩) (hPW.preV hP hS (ci := 6) rfl (by omega) mw_o) rfl rfl hl.1 rfl (lv_room (Nat.le_of_ble_eq_true rfl)) dX4_go_22 ⟨Nat.le_of_ble_eq_true rfl, Nat.le_of_ble_eq_true rfl⟩) hS (fun r22 u22 H locs h22 hP hS => ?_)
    obtain ⟨rfl, -, e9⟩ : r22 = 1 ∧ True ∧ u22 = st (st y 0 0 0 0) 0 0 0 1 := by rcases h22 with ⟨-, b, -⟩ | ⟨a, -, b⟩; exact absurd b (by decide); exact ⟨a, trivial, b⟩
    have e9 := e9.symm
    subst e9
    refine lv_if_ne (tgt := 53) hx hb dX4_go_25 (by decide) (fun c25 => ?_) (fun c25 => absurd c25 (by decide))
    refine lv_iconst (v := 0) hx hb dX4_go_53 (by decide) ?_
    refine W.widen (k := 0) (n := 0) (Nat.le_of_ble_eq_true rfl) (Nat.le_of_ble_eq_true rfl) ?_
    exact W.iret (v := 0) hx hb hr (fun t ht hW => ⟨⟨0, (st (st y 0 0 0 0) 0 0 0 1, ch), rfl, Or.inl ⟨(by (try revert h10); (try simp only [xor_m1]); (try simp only [Int32.lt_iff_toInt_lt, Int32.le_iff_toInt_le, ← Int32.toInt_inj, i_0, i_1, i_2, i_3, i_4, i_6, i_9, i_20, i_32, i_40, i_48, i_60, i_200, i_999, i_2000, i_m1, i_8]); (try simp only [i_8, i_7]); omega), rfl⟩, PB.mk9 hP ht⟩, hS.F ht⟩) hS.2.2 dX4_go_54

