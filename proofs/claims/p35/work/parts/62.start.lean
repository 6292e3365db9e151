theorem R1_start : R1 x0 y0 0 0 0 := by
  have e0 : (0 : Int32).toNatClampNeg = 0 := by decide
  refine ⟨⟨⟨by omega, rfl⟩, ⟨by omega, rfl⟩, fun b _ => Or.inl rfl, fun j hj => ?_, fun b _ => ?_⟩, ⟨⟨by omega, rfl⟩, ⟨by omega, rfl⟩, fun b _ => Or.inr ⟨0, by omega, rfl⟩, fun b _ => ⟨0, by omega, rfl⟩, fun k h => absurd h (Nat.not_lt_zero _)⟩, ⟨by omega, rfl, rfl⟩, rfl, ⟨0, by omega, rfl⟩, fun b _ => Or.inl rfl, fun k h => absurd h (Nat.not_lt_zero _), fun k _ => ⟨rfl, rfl⟩⟩
  · show (nI j).toNatClampNeg < 40
    rw [nI_clamp (by omega)]; exact hj
  · show (0 : Int32).toNatClampNeg ≤ 1920 ∧ (0 : Int32) = nI (0 : Int32).toNatClampNeg
    rw [e0]; exact ⟨by omega, rfl⟩
theorem R2_start : R2 x0 y0 0 0 0 0 0 := by
  have e0 : (0 : Int32).toNatClampNeg = 0 := by decide
  refine ⟨R1_start, ⟨fun _ _ => 0, fun b hb => ⟨⟨0, ?_⟩, rfl⟩, fun b hb => absurd hb (Nat.not_lt_zero _), fun b _ _ => ⟨rfl, rfl, fun _ _ => rfl⟩, ?_⟩, ⟨2, by omega, rfl⟩, fun b _ => rfl, fun k hk d hd => ?_, rfl, ⟨⟨0, by omega, by omega, rfl, fun i h => absurd h (Nat.not_lt_zero _), fun i _ _ => rfl, fun k hk h hh => rfl⟩, by omega⟩, fun k hk b hb => ⟨rfl, 0, by omega, rfl⟩, fun k _ _ d _ => b_0 d⟩
  · refine ⟨⟨⟨fun c hc => rfl, ⟨0, rfl, fun c hc => Nat.le_refl _, ⟨0, by omega, rfl⟩, fun c hc => ?_⟩, fun c hc => ?_⟩, fun c hc => Nat.zero_le _, fun c hc => ?_, ⟨0, rfl, Nat.zero_le _, rfl⟩, rfl, by omega⟩, ⟨fun c hc => ⟨rfl, ?_⟩, rfl⟩, ?_, rfl⟩
    · show bt (-1) c = _
      rw [b_m1 c hc] <;> rfl
    · show bt 0 c = _
      rw [b_0] <;> rfl
    · show 0 % 2 = b2n (bt 0 c)
      rw [b_0] <;> rfl
    · show (0 : Int32) = nI (b2n (bt 0 c))
      rw [b_0] <;> rfl
    · show cN (bt 0) 32 ≤ 0
      decide +kernel
  · show (0 : Int64) = _
    rfl
  · show bt 0 d = true ↔ ¬ (0 : Int32) = 0
    rw [b_0]
    exact ⟨fun h => (by cases h), fun h => absurd rfl h⟩

set_option maxHeartbeats 16000000 in
set_option maxRecDepth 100000 in
theorem law_body35 {p : Program} {e : Env} {s : State} {m : MethodId} {below : List Frame} {meth : Method} {c : Code} (l : Launch) (hst : l.stackTraces = false) {sb sN : Nat} {sx : Nat → Int32} (hsN : sN ≤ 1000) (C0 : lw_At p s m meth c sb sN sx) (g : gE) (L : Nat → Nat) (hJ : wj 108 L (fun q : Nat => s.heap.size ≤ q)) (hK : va_K g.1 vwCl (tysC g) s) (hE : EE SS (fun q : Nat => s.heap.size ≤ q) s) {D : Nat → Int32} : ∀ (d k : Nat) {x : St} {P : Nat → Int32} {nn : Nat} {r0 : Nat → va_E} {cl sl : Nat} {H : Heap} {locs : List Loc} {ls : Array Slot}, k + d = 26 → J35 x D P nn k → r0 106 = .inl (g.2 0, 4, .inl D) → r0 107 = .inl (g.2 0, 40, .inl P) → cl ≤ 10000 + 5000 * k → sl ≤ 100000 + 30000 * k → va_P g.1 vwCl (wl 108 L (cw g L x r0)) H → va_S (fun q : Nat => s.heap.size ≤ q) s.heap H locs → lv_has ls 22 [(4, .int 1), (0, .ref sb), (1, .ref (L 0)), (2, .ref (L 106)), (3, .ref (L 107)), (5, .int (nI k))] → W p l e room_1 s m #[Value.ref sb] below meth c H locs cl sl (lw_Z below #[Value.ref sb] s) (F0 m 94 ls []) := by
  obtain ⟨hx, hb, hr, hml, hown, hts0, hX, hbl, hlocks, hgv⟩ := id C0
  have hown : s.vm.findClass RL = some m.cls := hown
  have hts : ∀ w ∈ wsL_law, w.before #[Value.ref sb] s = true := fun w h => hts0 w (wsL_law_in w h)
  have hbA : ¬ (fun q : Nat => s.heap.size ≤ q) sb := Nat.not_le.mpr hbl
  have hn : 108 ≤ 108 := Nat.le_refl _
  intro d
  induction d with
  | zero =>
    intro k x P nn r0 cl sl H locs ls hd hJ5 h106 h107 hcl hsl hP hS hl
    obtain rfl : k = 26 := by omega
    obtain ⟨hq9, cnt, hh9, e3, hcn, hx4, hRR⟩ := hJ5.rr (by omega)
    refine lv_iload hx hb dL_law_94 (lv_at hl 5 rfl) ?_
    refine lv_bipush (v := 26) hx hb dL_law_96 (by decide) ?_
    refine lv_icmp_ge (tgt := 721) hx hb dL_law_98 (by decide) (fun c98 => ?_) (fun c98 => absurd (by decide) c98)
    refine lv_iload hx hb dL_law_721 (lv_at hl 0 rfl) ?_
    refine lv_if_eq (tgt := 749) hx hb dL_law_723 (by decide) (fun c723 => absurd c723 (by decide)) (fun c723 => ?_)
    refine lv_aload_n hx hb dL_law_726 rfl (lv_at hl 2 rfl) ?_
    refine lv_aload_n hx hb dL_law_727 rfl (lv_at hl 2 rfl) ?_
    refine wx_calli (va_runV (As := []) (rest := [.ref (L 0)]) ⟨hx, hb, hml, hown, hts⟩ (k_notices l hst g s.heap.size 108 L (by omega) x r0) (cwV 0 hts gL_law_X3_notices rfl rfl rfl (by decide +kernel) ⟨Nat.le_of_ble_eq_true rfl, Nat.le_of_ble_eq_true rfl⟩) (PW.preV3 (Nat.le_refl _) hJ hK hE hP hS (ci := 5) rfl (by omega) cw_d) rfl rfl hl.1 rfl (lv_room (Nat.le_of_ble_eq_true rfl)) dL_law_728 ⟨(by show _ ≤ 600312; omega), (by show _ ≤ 7293410; omega)⟩) hS (fun r728 u728 H locs h728 hP hS => ?_)
    obtain rfl := h728.trans hJ5.gi.x1
    refine wx_calli (va_runS (As := [.ref (L 0), .int (nI nn)]) (rest := []) ⟨hx, hb, hml, hown, hts⟩ (k_areReadersRight l hst g s.heap.size 108 L (by omega) x r0 hJ5.gi.x0 nn hJ5.gi.nn40 hJ5.gi.x1 cnt hcn hx4 hq9 hh9 e3 hRR) (va_cwS 2 hts gL_law_L_areReadersRight rfl rfl rfl (by decide +kernel) ⟨Nat.le_of_ble_eq_true rfl, Nat.le_of_ble_eq_true rfl⟩) (PW.preS3 (Nat.le_refl _) hJ hK hE hP hS) rfl rfl hl.1 rfl (lv_room (Nat.le_of_ble_eq_true rfl)) dL_law_731 ⟨(by show _ ≤ 600312; omega), (by show _ ≤ 7293410; omega)⟩) hS (fun r731 u731 H locs h731 hP hS => ?_)
    obtain rfl := h731
    refine lv_if_eq (tgt := 749) hx hb dL_law_734 (by decide) (fun c734 => absurd c734 (by decide)) (fun c734 => ?_)
    refine lv_aload_n hx hb dL_law_737 rfl (lv_at hl 2 rfl) ?_
    refine wx_calli (va_runV (As := []) (rest := []) ⟨hx, hb, hml, hown, hts⟩ (k_boards l hst g s.heap.size 108 L (by omega) x r0) (cwV 0 hts gL_law_X3_boards rfl rfl rfl (by decide +kernel) ⟨Nat.le_of_ble_eq_true rfl, Nat.le_of_ble_eq_true rfl⟩) (PW.preV3 (Nat.le_refl _) hJ hK hE hP hS (ci := 5) rfl (by omega) cw_d) rfl rfl hl.1 rfl (lv_room (Nat.le_of_ble_eq_true rfl)) dL_law_738 ⟨(by show _ ≤ 600312; omega), (by show _ ≤ 7293410; omega)⟩) hS (fun r738 u738 H locs h738 hP hS => ?_)
    obtain rfl := h738.trans hJ5.gi.x0
    refine lv_iconst (v := 4) hx hb dL_law_741 (by decide) ?_
    refine lv_icmp_ne (tgt := 749) hx hb dL_law_742 (by decide) (fun c742 => absurd c742 (by decide)) (fun c742 => ?_)
    refine lv_iconst (v := 1) hx hb dL_law_745 (by decide) ?_
    refine lv_goto (tgt := 750) hx hb dL_law_746 (by decide) ?_
    refine va_forget (fun q hq => hS.2.2 q hq) ?_
    refine W.widen (k := 600312) (n := 7293410) (by omega) (by omega) ?_
    exact lw_ret (d0 := s.drawn) (Drawn.sameBut.refl s.drawn lw_cs) hx hb hr hlocks dL_law_750
  | succ d ih =>
    intro k x P nn r0 cl sl H locs ls hd hJ5 h106 h107 hcl hsl hP hS hl
    have hk : k < 26 := by omega
    have hnk := hJ5.nk
    have hjoin : ∀ (x2 : St) (P2 : Nat → Int32) (nn2 : Nat) (r2 : Nat → va_E) (cl2 sl2 : Nat) (H : Heap) (locs : List Loc) (ls : Array Slot), J35 x2 D P2 nn2 (k + 1) → r2 106 = .inl (g.2 0, 4, .inl D) → r2 107 = .inl (g.2 0, 40, .inl P2) → cl2 ≤ cl + 720 → sl2 ≤ sl + 4320 → va_P g.1 vwCl (wl 108 L (cw g L x2 r2)) H → va_S (fun q : Nat => s.heap.size ≤ q) s.heap H locs → lv_has ls 22 [(4, .int 1), (0, .ref sb), (1, .ref (L 0)), (2, .ref (L 106)), (3, .ref (L 107)), (5, .int (nI k))] → W p l e room_1 s m #[Value.ref sb] below meth c H locs cl2 sl2 (lw_Z below #[Value.ref sb] s) (F0 m 694 ls []) := by
      intro x2 P2 nn2 r2 cl2 sl2 H locs ls hJ2 h106 h107 hc2 hs2 hP hS hl
      refine lv_iload hx hb dL_law_694 (lv_at hl 0 rfl) ?_
      refine lv_if_eq (tgt := 712) hx hb dL_law_696 (by decide) (fun c696 => absurd c696 (by decide)) (fun c696 => ?_)
      refine lv_aload_n hx hb dL_law_699 rfl (lv_at hl 2 rfl) ?_
      refine lv_aload_n hx hb dL_law_700 rfl (lv_at hl 4 rfl) ?_
      refine lv_aload_n hx hb dL_law_701 rfl (lv_at hl 3 rfl) ?_
      refine wx_calli (va_runS (As := [.ref (L 0), .ref (L 107), .ref (L 106)]) (rest := []) ⟨hx, hb, hml, hown, hts⟩ (k_isRight l hst g s.heap.size 108 L (by omega) x2 r2 D P2 h106 h107 nn2 hJ2.fr) (va_cwS 3 hts gL_law_L_isRight rfl rfl rfl (by decide +kernel) ⟨Nat.le_of_ble_eq_true rfl, Nat.le_of_ble_eq_true rfl⟩) (PW.preS3 (Nat.le_refl _) hJ hK hE hP hS) rfl rfl hl.1 rfl (lv_room (Nat.le_of_ble_eq_true rfl)) dL_law_702 ⟨(by show _ ≤ 600312; omega), (by show _ ≤ 7293410; omega)⟩) hS (fun r702 u702 H locs h702 hP hS => ?_)
      obtain rfl := h702
      refine lv_if_eq (tgt := 712) hx hb dL_law_705 (by decide) (fun c705 => absurd c705 (by decide)) (fun c705 => ?_)
      refine lv_iconst (v := 1) hx hb dL_law_708 (by decide) ?_
      refine lv_goto (tgt := 713) hx hb dL_law_709 (by decide) ?_
      refine lv_istore (lv' := [(4, .int 1), (0, .ref sb), (1, .ref (L 0)), (2, .ref (L 106)), (3, .ref (L 107)), (5, .int (nI k))]) hx hb dL_law_713 hl (by decide) rfl (fun ls hl => ?_)
      obtain ⟨z715, ez715⟩ : ∃ y : Int32, y = nI k + 1 := ⟨_, rfl⟩
      refine lv_iinc (v := z715) (lv' := [(5, .int z715), (4, .int 1), (0, .ref sb), (1, .ref (L 0)), (2, .ref (L 106)), (3, .ref (L 107))]) hx hb dL_law_715 hl (k := 5) rfl (by rw [ez715]; rfl) (by decide) rfl (fun ls hl => ?_)
      refine lv_goto (tgt := 94) hx hb dL_law_718 (by decide) ?_
      have ez2 : z715 = nI (k + 1) := by rw [ez715, nI_1]
      subst ez2
      exact ih (k + 1) (by omega) hJ2 h106 h107 (by omega) (by omega) hP hS (lv_sub hl [1, 2, 3, 4, 5, 0] rfl)
    refine lv_iload hx hb dL_law_94 (lv_at hl 5 rfl) ?_
    refine lv_bipush (v := 26) hx hb dL_law_96 (by decide) ?_
    refine lv_icmp_ge (tgt := 721) hx hb dL_law_98 (by decide) (fun c98 => absurd c98 (nI_ge (b := 26) hk (by decide))) (fun c98 => ?_)
    refine lv_iload hx hb dL_law_101 (lv_at hl 0 rfl) ?_
    refine lv_if_eq (tgt := 721) hx hb dL_law_103 (by decide) (fun c103 => absurd c103 (by decide)) (fun c103 => ?_)
    refine lv_bipush (v := 20) hx hb dL_law_106 (by decide) ?_
    refine lv_bipush (v := 14) hx hb dL_law_108 (by decide) ?_
    refine lv_iload hx hb dL_law_110 (lv_at hl 5 rfl) ?_
    refine lv_imul hx hb dL_law_112 ?_
    refine lv_iadd hx hb dL_law_113 ?_
    refine lv_topi (fun z9 ez9 => ?_)
    obtain rfl : z9 = nI (20 + 14 * k) := ez9.trans (by rw [show (14 : Int32) * nI k = nI (14 * k) from (Int32.ofNat_mul 14 k).symm]; exact nI_add 20 _)
    refine lv_istore (lv' := [(6, .int (nI (20 + 14 * k))), (4, .int 1), (0, .ref sb), (1, .ref (L 0)), (2, .ref (L 106)), (3, .ref (L 107)), (5, .int (nI k))]) hx hb dL_law_114 hl (by decide) rfl (fun ls hl => ?_)
    refine lv_aload_n hx hb dL_law_116 rfl (lv_at hl 3 rfl) ?_
    refine wx_calli (va_runV (As := []) (rest := []) ⟨hx, hb, hml, hown, hts⟩ (k_notices l hst g s.heap.size 108 L (by omega) x r0) (cwV 0 hts gL_law_X3_notices rfl rfl rfl (by decide +kernel) ⟨Nat.le_of_ble_eq_true rfl, Nat.le_of_ble_eq_true rfl⟩) (PW.preV3 (Nat.le_refl _) hJ hK hE hP hS (ci := 5) rfl (by omega) cw_d) rfl rfl hl.1 rfl (lv_room (Nat.le_of_ble_eq_true rfl)) dL_law_117 ⟨(by show _ ≤ 600312; omega), (by show _ ≤ 7293410; omega)⟩) hS (fun r117 u117 H locs h117 hP hS => ?_)
    obtain rfl := h117.trans hJ5.gi.x1
    refine lv_istore (lv' := [(7, .int (nI nn)), (6, .int (nI (20 + 14 * k))), (4, .int 1), (0, .ref sb), (1, .ref (L 0)), (2, .ref (L 106)), (3, .ref (L 107)), (5, .int (nI k))]) hx hb dL_law_120 hl (by decide) rfl (fun ls hl => ?_)
    refine lv_aload_n hx hb dL_law_122 rfl (lv_at hl 3 rfl) ?_
    refine lv_iload hx hb dL_law_123 (lv_at hl 1 rfl) ?_
    refine lv_iconst (v := 1) hx hb dL_law_125 (by decide) ?_
    refine lv_iadd hx hb dL_law_126 ?_
    refine lv_iload hx hb dL_law_127 (lv_at hl 0 rfl) ?_
    refine lv_iconst (v := 1) hx hb dL_law_129 (by decide) ?_
    refine lv_iadd hx hb dL_law_130 ?_
    refine wx_calli (va_runS (As := [.ref sb, .int ((nI (20 + 14 * k)) + 1), .int ((nI nn) + 1)]) (rest := []) ⟨hx, hb, hml, hown, hts⟩ (k_pick l hst g s.heap.size 108 L (cw g L x r0) sb sN hsN sx ((nI (20 + 14 * k)) + 1) ((nI nn) + 1) ((add_n (c := 1) rfl (by omega))) ((by rw [nI_1, nI_toInt (by omega)]; omega))) (va_cwS 3 hts gL_law_L_pick rfl rfl rfl (by decide +kernel) ⟨Nat.le_of_ble_eq_true rfl, Nat.le_of_ble_eq_true rfl⟩) (PWs.preS3 (Nat.le_refl _) hJ hK hE hP hS hX hbl) rfl rfl hl.1 rfl (lv_room (Nat.le_of_ble_eq_true rfl)) dL_law_131 ⟨(by show _ ≤ 600312; omega), (by show _ ≤ 7293410; omega)⟩) hS (fun r131 u131 H locs h131 hP hS => ?_)
    obtain ⟨a131, ha131, e9⟩ := pk_nat (n := nn + 1) h131 (by rw [nI_1, nI_toInt (by omega)]) (by omega)
    subst e9
    refine lv_istore (lv' := [(8, .int (nI a131)), (7, .int (nI nn)), (6, .int (nI (20 + 14 * k))), (4, .int 1), (0, .ref sb), (1, .ref (L 0)), (2, .ref (L 106)), (3, .ref (L 107)), (5, .int (nI k))]) hx hb dL_law_134 hl (by decide) rfl (fun ls hl => ?_)
    refine lv_aload_n hx hb dL_law_136 rfl (lv_at hl 4 rfl) ?_
    refine lv_iload hx hb dL_law_137 (lv_at hl 2 rfl) ?_
    refine lv_bipush (v := 8) hx hb dL_law_139 (by decide) ?_
    refine wx_calli (va_runS (As := [.ref sb, .int (nI (20 + 14 * k)), .int 8]) (rest := []) ⟨hx, hb, hml, hown, hts⟩ (k_pick l hst g s.heap.size 108 L (cw g L x r0) sb sN hsN sx (nI (20 + 14 * k)) 8 ((by rw [nI_toInt (by omega)]; omega)) (by decide)) (va_cwS 3 hts gL_law_L_pick rfl rfl rfl (by decide +kernel) ⟨Nat.le_of_ble_eq_true rfl, Nat.le_of_ble_eq_true rfl⟩) (PWs.preS3 (Nat.le_refl _) hJ hK hE hP hS hX hbl) rfl rfl hl.1 rfl (lv_room (Nat.le_of_ble_eq_true rfl)) dL_law_141 ⟨(by show _ ≤ 600312; omega), (by show _ ≤ 7293410; omega)⟩) hS (fun r141 u141 H locs h141 hP hS => ?_)
    obtain ⟨a141, ha141, e9⟩ := pk_nat (n := 8) h141 (by decide) (by decide)
    subst e9
    rcases (show a141 = 0 ∨ a141 = 1 ∨ a141 = 2 ∨ a141 = 3 ∨ a141 = 4 ∨ a141 = 5 ∨ a141 = 6 ∨ a141 = 7 by omega) with rfl | rfl | rfl | rfl | rfl | rfl | rfl | rfl
    · exact lv_tableIn hx hb dL_law_144 (by decide) (by decide) (by decide) (tgt := 184) (off := 40) (by decide) (law_q0 l hst hsN C0 g L hJ hK hE (k := k) hk hJ5 h106 h107 (by omega) (by omega) hP hS (j9 := a131) (by omega) (lv_sub hl [4, 5, 6, 7, 8, 2, 1, 0] rfl) (fun x2 P2 nn2 r2 cl2 sl2 H locs ls a1 a2 a3 a4 a5 a6 a7 a8 => hjoin x2 P2 nn2 r2 cl2 sl2 H locs ls a1 a2 a3 (by omega) (by omega) a6 a7 a8))
    · exact lv_tableIn hx hb dL_law_144 (by decide) (by decide) (by decide) (tgt := 184) (off := 40) (by decide) (law_q0 l hst hsN C0 g L hJ hK hE (k := k) hk hJ5 h106 h107 (by omega) (by omega) hP hS (j9 := a131) (by omega) (lv_sub hl [4, 5, 6, 7, 8, 2, 1, 0] rfl) (fun x2 P2 nn2 r2 cl2 sl2 H locs ls a1 a2 a3 a4 a5 a6 a7 a8 => hjoin x2 P2 nn2 r2 cl2 sl2 H locs ls a1 a2 a3 (by omega) (by omega) a6 a7 a8))
    · exact lv_tableIn hx hb dL_law_144 (by decide) (by decide) (by decide) (tgt := 315) (off := 171) (by decide) (law_q2 l hst hsN C0 g L hJ hK hE (k := k) hk hJ5 h106 h107 (by omega) (by omega) hP hS (j9 := a131) (by omega) (lv_sub hl [4, 5, 6, 7, 8, 2, 1, 0] rfl) (fun x2 P2 nn2 r2 cl2 sl2 H locs ls a1 a2 a3 a4 a5 a6 a7 a8 => hjoin x2 P2 nn2 r2 cl2 sl2 H locs ls a1 a2 a3 (by omega) (by omega) a6 a7 a8))
    · exact lv_tableIn hx hb dL_law_144 (by decide) (by decide) (by decide) (tgt := 445) (off := 301) (by decide) (law_q3 l hst hsN C0 g L hJ hK hE (k := k) hk hJ5 h106 h107 (by omega) (by omega) hP hS (j9 := a131) (by omega) (lv_sub hl [4, 5, 6, 7, 8, 2, 1, 0] rfl) (fun x2 P2 nn2 r2 cl2 sl2 H locs ls a1 a2 a3 a4 a5 a6 a7 a8 => hjoin x2 P2 nn2 r2 cl2 sl2 H locs ls a1 a2 a3 (by omega) (by omega) a6 a7 a8))
    · exact lv_tableIn hx hb dL_law_144 (by decide) (by decide) (by decide) (tgt := 541) (off := 397) (by decide) (law_q4 l hst hsN C0 g L hJ hK hE (k := k) hk hJ5 h106 h107 (by omega) (by omega) hP hS (j9 := a131) (by omega) (lv_sub hl [4, 5, 6, 7, 8, 2, 1, 0] rfl) (fun x2 P2 nn2 r2 cl2 sl2 H locs ls a1 a2 a3 a4 a5 a6 a7 a8 => hjoin x2 P2 nn2 r2 cl2 sl2 H locs ls a1 a2 a3 (by omega) (by omega) a6 a7 a8))
    · exact lv_tableIn hx hb dL_law_144 (by decide) (by decide) (by decide) (tgt := 636) (off := 492) (by decide) (law_q5 l hst hsN C0 g L hJ hK hE (k := k) hk hJ5 h106 h107 (by omega) (by omega) hP hS (j9 := a131) (by omega) (lv_sub hl [4, 5, 6, 7, 8, 2, 1, 0] rfl) (fun x2 P2 nn2 r2 cl2 sl2 H locs ls a1 a2 a3 a4 a5 a6 a7 a8 => hjoin x2 P2 nn2 r2 cl2 sl2 H locs ls a1 a2 a3 (by omega) (by omega) a6 a7 a8))
    · exact lv_tableOut hx hb dL_law_144 (tgt := 651) (by decide) (by decide) (law_q6 l hst hsN C0 g L hJ hK hE (k := k) hk hJ5 h106 h107 (by omega) (by omega) hP hS (j9 := a131) (by omega) (lv_sub hl [4, 5, 6, 7, 8, 2, 1, 0] rfl) (fun x2 P2 nn2 r2 cl2 sl2 H locs ls a1 a2 a3 a4 a5 a6 a7 a8 => hjoin x2 P2 nn2 r2 cl2 sl2 H locs ls a1 a2 a3 (by omega) (by omega) a6 a7 a8))
    · exact lv_tableOut hx hb dL_law_144 (tgt := 651) (by decide) (by decide) (law_q6 l hst hsN C0 g L hJ hK hE (k := k) hk hJ5 h106 h107 (by omega) (by omega) hP hS (j9 := a131) (by omega) (lv_sub hl [4, 5, 6, 7, 8, 2, 1, 0] rfl) (fun x2 P2 nn2 r2 cl2 sl2 H locs ls a1 a2 a3 a4 a5 a6 a7 a8 => hjoin x2 P2 nn2 r2 cl2 sl2 H locs ls a1 a2 a3 (by omega) (by omega) a6 a7 a8))
set_option maxHeartbeats 16000000 in
set_option maxRecDepth 100000 in
theorem law_fill35 {p : Program} {e : Env} {s : State} {m : MethodId} {below : List Frame} {meth : Method} {c : Code} (l : Launch) (hst : l.stackTraces = false) {sb sN : Nat} {sx : Nat → Int32} (hsN : sN ≤ 1000) (C0 : lw_At p s m meth c sb sN sx) (g : gE) (L : Nat → Nat) (hJ : wj 108 L (fun q : Nat => s.heap.size ≤ q)) (hK : va_K g.1 vwCl (tysC g) s) (hE : EE SS (fun q : Nat => s.heap.size ≤ q) s) : ∀ (d i : Nat) {x : St} {D : Nat → Int32} {r0 : Nat → va_E} {cl sl : Nat} {H : Heap} {locs : List Loc} {ls : Array Slot}, i + d = 4 → S35 x D i → r0 106 = .inl (g.2 0, 4, .inl D) → r0 107 = .inl (g.2 0, 40, .inl (fun _ => 0)) → cl ≤ 200 + 10 * i → sl ≤ 20000 + 60 * i → va_P g.1 vwCl (wl 108 L (cw g L x r0)) H → va_S (fun q : Nat => s.heap.size ≤ q) s.heap H locs → lv_has ls 22 [(4, .int (nI i)), (0, .ref sb), (1, .ref (L 0)), (2, .ref (L 106)), (3, .ref (L 107))] → W p l e room_1 s m #[Value.ref sb] below meth c H locs cl sl (lw_Z below #[Value.ref sb] s) (F0 m 20 ls []) := by
  obtain ⟨hx, hb, hr, hml, hown, hts0, hX, hbl, hlocks, hgv⟩ := id C0
  have hown : s.vm.findClass RL = some m.cls := hown
  have hts : ∀ w ∈ wsL_law, w.before #[Value.ref sb] s = true := fun w h => hts0 w (wsL_law_in w h)
  have hbA : ¬ (fun q : Nat => s.heap.size ≤ q) sb := Nat.not_le.mpr hbl
  have hn : 108 ≤ 108 := Nat.le_refl _
  intro d
  induction d with
  | zero =>
    intro i x D r0 cl sl H locs ls hd hS5 h106 h107 hcl hsl hP hS hl
    obtain rfl : i = 4 := by omega
    refine lv_iload hx hb dL_law_20 (lv_at hl 0 rfl) ?_
    refine lv_iconst (v := 4) hx hb dL_law_22 (by decide) ?_
    refine lv_icmp_ge (tgt := 66) hx hb dL_law_23 (by decide) (fun c23 => ?_) (fun c23 => absurd (by decide) c23)
    refine lv_aload_n hx hb dL_law_66 rfl (lv_at hl 2 rfl) ?_
    refine lv_iconst (v := 1) hx hb dL_law_67 (by decide) ?_
    refine lv_aload_n hx hb dL_law_68 rfl (lv_at hl 1 rfl) ?_
    refine lv_bipush (v := 8) hx hb dL_law_69 (by decide) ?_
    refine lv_bipush (v := 21) hx hb dL_law_71 (by decide) ?_
    refine wx_calli (va_runS (As := [.ref sb, .int 8, .int 21]) (rest := [.int 1, .ref (L 0)]) ⟨hx, hb, hml, hown, hts⟩ (k_pick l hst g s.heap.size 108 L (cw g L x r0) sb sN hsN sx 8 21 ((by decide)) (by decide)) (va_cwS 3 hts gL_law_L_pick rfl rfl rfl (by decide +kernel) ⟨Nat.le_of_ble_eq_true rfl, Nat.le_of_ble_eq_true rfl⟩) (PWs.preS3 (Nat.le_refl _) hJ hK hE hP hS hX hbl) rfl rfl hl.1 rfl (lv_room (Nat.le_of_ble_eq_true rfl)) dL_law_73 ⟨(by show _ ≤ 600312; omega), (by show _ ≤ 7293410; omega)⟩) hS (fun r73 u73 H locs h73 hP hS => ?_)
    obtain ⟨a73, ha73, e9⟩ := pk_nat (n := 21) h73 (by decide) (by decide)
    subst e9
    refine lv_iconst (v := 0) hx hb dL_law_76 (by decide) ?_
    refine lv_iconst (v := 0) hx hb dL_law_77 (by decide) ?_
    refine lv_iconst (v := 0) hx hb dL_law_78 (by decide) ?_
    refine wx_calli (vx_runSW (As := [.ref (L 0), .int 1, .int (nI a73), .int 0, .int 0, .int 0]) (rest := []) ⟨hx, hb, hml, hown, hts⟩ (dd_1 l hst g s.heap.size 108 L (by omega) x r0  (nI a73) 0 0 0) (vx_cwSW 6 hts gL_law_L_deed rfl rfl rfl (by decide +kernel) ⟨Nat.le_of_ble_eq_true rfl, Nat.le_of_ble_eq_true rfl⟩) (PW.preS3 (Nat.le_refl _) hJ hK hE hP hS) rfl rfl hl.1 rfl (lv_room (Nat.le_of_ble_eq_true rfl)) dL_law_79 ⟨(by show _ ≤ 600312; omega), (by show _ ≤ 7293410; omega)⟩) hS (fun r79 u79 H locs h79 hP hS => ?_)
    obtain ⟨hp79, eu⟩ := A1 (c := a73) (by omega) rfl h79
    subst eu
    have hJ5 : J35 (st x 2 0 0 (nI a73)) D (fun _ => 0) 0 0 := hS5.j hp79
    refine lv_pop hx hb dL_law_82 rfl ?_
    refine lv_aload_n hx hb dL_law_83 rfl (lv_at hl 2 rfl) ?_
    refine lv_aload_n hx hb dL_law_84 rfl (lv_at hl 4 rfl) ?_
    refine lv_aload_n hx hb dL_law_85 rfl (lv_at hl 3 rfl) ?_
    refine wx_calli (va_runS (As := [.ref (L 0), .ref (L 107), .ref (L 106)]) (rest := []) ⟨hx, hb, hml, hown, hts⟩ (k_isRight l hst g s.heap.size 108 L (by omega) (st x 2 0 0 (nI a73)) r0 D (fun _ => 0) h106 h107 0 hJ5.fr) (va_cwS 3 hts gL_law_L_isRight rfl rfl rfl (by decide +kernel) ⟨Nat.le_of_ble_eq_true rfl, Nat.le_of_ble_eq_true rfl⟩) (PW.preS3 (Nat.le_refl _) hJ hK hE hP hS) rfl rfl hl.1 rfl (lv_room (Nat.le_of_ble_eq_true rfl)) dL_law_86 ⟨(by show _ ≤ 600312; omega), (by show _ ≤ 7293410; omega)⟩) hS (fun r86 u86 H locs h86 hP hS => ?_)
    obtain rfl := h86
    refine lv_istore (lv' := [(4, .int 1), (0, .ref sb), (1, .ref (L 0)), (2, .ref (L 106)), (3, .ref (L 107))]) hx hb dL_law_89 hl (by decide) rfl (fun ls hl => ?_)
    refine lv_iconst (v := 0) hx hb dL_law_91 (by decide) ?_
    refine lv_istore (lv' := [(5, .int 0), (4, .int 1), (0, .ref sb), (1, .ref (L 0)), (2, .ref (L 106)), (3, .ref (L 107))]) hx hb dL_law_92 hl (by decide) rfl (fun ls hl => ?_)
    exact law_body35 l hst hsN C0 g L hJ hK hE 26 0 (by omega) hJ5 h106 h107 (by omega) (by omega) hP hS (lv_sub hl [1, 2, 3, 4, 5, 0] rfl)
  | succ d ih =>
    intro i x D r0 cl sl H locs ls hd hS5 h106 h107 hcl hsl hP hS hl
    have hi : i < 4 := by omega
    refine lv_iload hx hb dL_law_20 (lv_at hl 0 rfl) ?_
    refine lv_iconst (v := 4) hx hb dL_law_22 (by decide) ?_
    refine lv_icmp_ge (tgt := 66) hx hb dL_law_23 (by decide) (fun c23 => absurd c23 (nI_ge (b := 4) hi (by decide))) (fun c23 => ?_)
    refine lv_aload_n hx hb dL_law_26 rfl (lv_at hl 3 rfl) ?_
    refine lv_iload hx hb dL_law_27 (lv_at hl 0 rfl) ?_
    refine lv_aload_n hx hb dL_law_29 rfl (lv_at hl 1 rfl) ?_
    refine lv_iload hx hb dL_law_30 (lv_at hl 0 rfl) ?_
    refine lv_iconst (v := 3) hx hb dL_law_32 (by decide) ?_
    refine wx_calli (va_runS (As := [.ref sb, .int (nI i), .int 3]) (rest := [.int (nI i), .ref (L 106)]) ⟨hx, hb, hml, hown, hts⟩ (k_pick l hst g s.heap.size 108 L (cw g L x r0) sb sN hsN sx (nI i) 3 ((by rw [nI_toInt (by omega)]; omega)) (by decide)) (va_cwS 3 hts gL_law_L_pick rfl rfl rfl (by decide +kernel) ⟨Nat.le_of_ble_eq_true rfl, Nat.le_of_ble_eq_true rfl⟩) (PWs.preS3 (Nat.le_refl _) hJ hK hE hP hS hX hbl) rfl rfl hl.1 rfl (lv_room (Nat.le_of_ble_eq_true rfl)) dL_law_33 ⟨(by show _ ≤ 600312; omega), (by show _ ≤ 7293410; omega)⟩) hS (fun r33 u33 H locs h33 hP hS => ?_)
    obtain ⟨a33, ha33, e9⟩ := pk_nat (n := 3) h33 (by decide) (by decide)
    subst e9
    refine wx_iast (D := g.1) (cl := vwCl) (N := 4) (f := D) (w' := cw g L x (va_up r0 106 (.inl (g.2 0, 4, .inl (upd D i (nI a33)))))) hx hb hK hP hJ hS (106) 0 (by omega) ((cw_ge (by decide)).trans h106) rfl (i := nI i) (vp_in_nI (by omega) (by decide)) dL_law_36 (by rw [nI_clamp (by omega)]; exact cw_rest (by decide)) (fun H locs hP hS => ?_)
    refine lv_aload_n hx hb dL_law_37 rfl (lv_at hl 2 rfl) ?_
    refine lv_iconst (v := 0) hx hb dL_law_38 (by decide) ?_
    refine lv_aload_n hx hb dL_law_39 rfl (lv_at hl 3 rfl) ?_
    refine lv_iload hx hb dL_law_40 (lv_at hl 0 rfl) ?_
    refine wx_ialdv (D := g.1) (cl := vwCl) (f := upd D i (nI a33)) (v := nI a33) hx hb hK hP (106) 0 (by omega) ((cw_ge (by decide)).trans (va_up_self _ _ _)) rfl (i := nI i) (vp_in_nI (by omega) (by decide)) (by rw [nI_clamp (by omega)]; exact upd_eq) dL_law_42 ?_
    refine lv_aload_n hx hb dL_law_43 rfl (lv_at hl 1 rfl) ?_
    refine lv_iconst (v := 4) hx hb dL_law_44 (by decide) ?_
    refine lv_iload hx hb dL_law_45 (lv_at hl 0 rfl) ?_
    refine lv_iadd hx hb dL_law_47 ?_
    refine lv_sipush (v := 201) hx hb dL_law_48 (by decide) ?_
    refine wx_calli (va_runS (As := [.ref sb, .int (4 + (nI i)), .int 201]) (rest := [.int (nI a33), .int 0, .ref (L 0)]) ⟨hx, hb, hml, hown, hts⟩ (k_pick l hst g s.heap.size 108 L (cw g L x (va_up r0 106 (.inl (g.2 0, 4, .inl (upd D i (nI a33)))))) sb sN hsN sx (4 + (nI i)) 201 ((by rw [show (4 : Int32) + nI i = nI (4 + i) from nI_add 4 i, nI_toInt (by omega)]; omega)) (by decide)) (va_cwS 3 hts gL_law_L_pick rfl rfl rfl (by decide +kernel) ⟨Nat.le_of_ble_eq_true rfl, Nat.le_of_ble_eq_true rfl⟩) (PWs.preS3 (Nat.le_refl _) hJ hK hE hP hS hX hbl) rfl rfl hl.1 rfl (lv_room (Nat.le_of_ble_eq_true rfl)) dL_law_51 ⟨(by show _ ≤ 600312; omega), (by show _ ≤ 7293410; omega)⟩) hS (fun r51 u51 H locs h51 hP hS => ?_)
    obtain ⟨a51, ha51, e9⟩ := pk_nat (n := 201) h51 (by decide) (by decide)
    subst e9
    refine lv_iconst (v := 0) hx hb dL_law_54 (by decide) ?_
    refine lv_iconst (v := 0) hx hb dL_law_55 (by decide) ?_
    refine wx_calli (vx_runSW (As := [.ref (L 0), .int 0, .int (nI a33), .int (nI a51), .int 0, .int 0]) (rest := []) ⟨hx, hb, hml, hown, hts⟩ (dd_0 l hst g s.heap.size 108 L (by omega) x (va_up r0 106 (.inl (g.2 0, 4, .inl (upd D i (nI a33))))) i (by omega) hS5.gi.x0 (nI a33) (nI a51) 0 0) (vx_cwSW 6 hts gL_law_L_deed rfl rfl rfl (by decide +kernel) ⟨Nat.le_of_ble_eq_true rfl, Nat.le_of_ble_eq_true rfl⟩) (PW.preS3 (Nat.le_refl _) hJ hK hE hP hS) rfl rfl hl.1 rfl (lv_room (Nat.le_of_ble_eq_true rfl)) dL_law_56 ⟨(by show _ ≤ 600312; omega), (by show _ ≤ 7293410; omega)⟩) hS (fun r56 u56 H locs h56 hP hS => ?_)
    have hS6 : S35 u56 (upd D i (nI a33)) (i + 1) := by rw [A0 (c := a33) (q := a51) hi (by omega) rfl (by omega) rfl h56]; exact hS5.add hi (d := a33) (q := a51) (by omega) rfl (by omega) rfl
    refine lv_pop hx hb dL_law_59 rfl ?_
    obtain ⟨z60, ez60⟩ : ∃ y : Int32, y = nI i + 1 := ⟨_, rfl⟩
    refine lv_iinc (v := z60) (lv' := [(4, .int z60), (0, .ref sb), (1, .ref (L 0)), (2, .ref (L 106)), (3, .ref (L 107))]) hx hb dL_law_60 hl (k := 0) rfl (by rw [ez60]; rfl) (by decide) rfl (fun ls hl => ?_)
    refine lv_goto (tgt := 20) hx hb dL_law_63 (by decide) ?_
    have ez2 : z60 = nI (i + 1) := by rw [ez60, nI_1]
    subst ez2
    exact ih (i + 1) (by omega) hS6 (va_up_self _ _ _) ((va_up_ne _ _ (by decide)).trans h107) (by omega) (by omega) hP hS (lv_sub hl [0, 1, 2, 3, 4] rfl)
section ST35
def r35 (g : gE) : Nat → va_E := fun k => if k = 106 then .inl (g.2 0, 4, .inl (fun _ => 0)) else .inl (g.2 0, 40, .inl (fun _ => 0))
theorem world35 {g : gE} {L : Nat → Nat} {q1 q2 k : Nat} (hk : k < 108) : va_up (va_up (dk g 6 40 L x0) 106 (.inl (g.2 0, 4, .inl (fun _ => 0)))) 107 (.inl (g.2 0, 40, .inl (fun _ => 0))) k = cw g (va_up (va_up L 106 q1) 107 q2) x0 (r35 g) k := by
  have eL : ∀ j, j < 106 → va_up (va_up L 106 q1) 107 q2 j = L j := fun j hj => by rw [va_up_ne _ _ (by omega), va_up_ne _ _ (by omega)]
  by_cases h1 : k < 106
  · rw [va_up_ne _ _ (by omega), va_up_ne _ _ (by omega), cw_lt h1]
    exact (dk_full eL h1).symm
  rw [cw_ge (by omega)]
  rcases (show k = 106 ∨ k = 107 by omega) with rfl | rfl
  · rw [va_up_ne _ _ (by omega), va_up_self]; rfl
  · rw [va_up_self]; rfl
theorem RS_start : RS y0 0 := fun n _ => by
  have z : ∀ r j, (r = 24 ∨ r = 25) → y0 r 0 j = 0 := fun r j h => by rcases h with rfl | rfl <;> rfl
  refine ⟨?_, fun h _ _ => z 25 _ (Or.inr rfl)⟩
  simp only [y24S, y25S, z 24 _ (Or.inl rfl), z 25 _ (Or.inr rfl)]
  decide
theorem S35_start {D : Nat → Int32} : S35 x0 D 0 := ⟨y0, 0, R2_start, fun b hb => absurd hb (Nat.not_lt_zero _), fun b _ => ⟨rfl, rfl, rfl⟩, RS_start⟩
set_option maxHeartbeats 16000000 in
set_option maxRecDepth 100000 in
theorem whole_start {p : Program} {e : Env} {s : State} {m : MethodId} {below : List Frame} {meth : Method} {c : Code} (l : Launch) (hflags : l.flags = flags0) {b L : Nat} {xs : Nat → Int32} (hL : L ≤ 260) (C0 : lw_At p s m meth c b L xs) : W p l e room_1 s m #[Value.ref b] below meth c s.heap [] 0 0 (lw_Z below #[Value.ref b] s) (entryFrame m ([Value.ref b] : List Value).toArray 22) := by
  obtain ⟨hx, hb, hr, hml, hown, hts0, hX, hbl, hlocks, hgv⟩ := id C0
  have hown : s.vm.findClass RL = some m.cls := hown
  have hst : l.stackTraces = false := by unfold Launch.stackTraces; rw [hflags]; decide
  have hts : ∀ w ∈ wsL_law, w.before #[Value.ref b] s = true := fun w h => hts0 w (wsL_law_in w h)
  have hA : ∀ q : Nat, s.heap.size ≤ q → (fun q : Nat => s.heap.size ≤ q) q := fun _ h => h
  have hE : EE SS (fun q : Nat => s.heap.size ≤ q) s := EE_start hts0 hgv
  obtain ⟨g, hK⟩ := K_start hts0
  have hS : va_S (fun q : Nat => s.heap.size ≤ q) s.heap s.heap [] := va_S.rf
  have hP : va_P g.1 vwCl (wl 0 (fun _ => 0) (fun _ => .inr (0, []))) s.heap := fun k q h => by simp [wl] at h
  have hJ : wj 0 (fun _ => 0) (fun q : Nat => s.heap.size ≤ q) := ⟨fun i j h => absurd h (Nat.not_lt_zero _), fun k h => absurd h (Nat.not_lt_zero _)⟩
  have hl := lv_entry ([.ref b]) (n := 22) (Nat.le_of_ble_eq_true rfl)
  rw [lg_entry_eq]
  generalize (lg_sl ([.ref b]) ++ List.replicate (22 - (lg_sl ([.ref b])).length) Slot.unset).toArray = ls at hl ⊢
  have hl : lv_has ls 22 [(0, .ref b)] := hl
  refine wx_new (ci := 5) (fs := [.null, .int 0, .null, .null, .int 0, .null, .int 0, .int 0]) (C := RX3) (T := TX3) (N := 8) hx hb hts0 inX3 tyX3 tyX3_ok hown (hts (.classLink RL 16 RX3) (by decide +kernel)) (hts (.instantiable RX3 8) (by decide +kernel)) (hts (.initialized RX3) (by decide +kernel)) hK hP hJ hS hA rfl (fun j hj => by rcases (show j = 0 ∨ j = 1 ∨ j = 2 ∨ j = 3 ∨ j = 4 ∨ j = 5 ∨ j = 6 ∨ j = 7 by omega) with rfl | rfl | rfl | rfl | rfl | rfl | rfl | rfl <;> rfl) (Nat.le_of_ble_eq_true rfl) (Nat.le_of_ble_eq_true rfl) dL_law_0 (fun qx H hP hJ hS => ?_)
  refine lv_dup hx hb dL_law_3 rfl ?_
  refine va_callv (va_runI (As := []) (rest := [.ref qx]) ⟨hx, hb, hml, hown, hts⟩ (kc_X3_init l g s.heap.size (va_up (fun _ => 0) 0 qx) (fun _ => .inr (0, [])) qx (va_up_self _ _ _)) (cwI 0 hts gL_law_X3_init rfl rfl rfl (hts (.initialized RX3) (by decide +kernel)) (hts (.methodLink RL 183 yX3_init) (by decide +kernel)) (hts (.instanceMethod yX3_init) (by decide +kernel)) rfl (by decide +kernel) ⟨Nat.le_of_ble_eq_true rfl, Nat.le_of_ble_eq_true rfl⟩) (PW.preS3 (Nat.le_refl _) hJ hK hE hP hS) rfl rfl hl.1 rfl (lv_room (Nat.le_of_ble_eq_true rfl)) dL_law_4 ⟨Nat.le_of_ble_eq_true rfl, Nat.le_of_ble_eq_true rfl⟩) hS (fun _ _ h => h) (fun _ h => h) (fun u t H locs ht _ hu hB _ _ hS => ?_)
  obtain ⟨hJ, hB⟩ := hB
  have hP := PB.at hB ht
  refine lv_astore_n (lv' := [(1, .ref qx), (0, .ref b)]) hx hb dL_law_7 rfl hl (by decide) rfl (fun ls hl => ?_)
  refine lv_iconst (v := 4) hx hb dL_law_8 (by decide) ?_
  refine wx_newa (atype := .int) (a0 := (4, .inl (fun _ => 0))) (N' := 4) hx hb (hts (.arrayClass .int) (by decide +kernel)) rfl hK hP hJ hS hA (fun _ => rfl) (by decide) (by decide) (by decide) (Nat.le_of_ble_eq_true rfl) (Nat.le_of_ble_eq_true rfl) dL_law_9 (k0 := 0) rfl (fun q1 H hP hJ hS => ?_)
  refine lv_astore_n (lv' := [(2, .ref q1), (1, .ref qx), (0, .ref b)]) hx hb dL_law_11 rfl hl (by decide) rfl (fun ls hl => ?_)
  refine lv_bipush (v := 40) hx hb dL_law_12 (by decide) ?_
  refine wx_newa (atype := .int) (a0 := (40, .inl (fun _ => 0))) (N' := 40) hx hb (hts (.arrayClass .int) (by decide +kernel)) rfl hK hP hJ hS hA (fun _ => rfl) (by decide) (by decide) (by decide) (Nat.le_of_ble_eq_true rfl) (Nat.le_of_ble_eq_true rfl) dL_law_14 (k0 := 0) rfl (fun q2 H hP hJ hS => ?_)
  refine lv_astore_n (lv' := [(3, .ref q2), (2, .ref q1), (1, .ref qx), (0, .ref b)]) hx hb dL_law_16 rfl hl (by decide) rfl (fun ls hl => ?_)
  refine lv_iconst (v := 0) hx hb dL_law_17 (by decide) ?_
  refine lv_istore (lv' := [(4, .int 0), (3, .ref q2), (2, .ref q1), (1, .ref qx), (0, .ref b)]) hx hb dL_law_18 hl (by decide) rfl (fun ls hl => ?_)
  obtain ⟨L5, hL5⟩ : ∃ z, z = va_up (va_up u 106 q1) 107 q2 := ⟨_, rfl⟩
  have hP : va_P g.1 vwCl (wl 108 L5 (cw g L5 x0 (r35 g))) H := by
    rw [hL5]
    exact (wl_congr (fun k hk => ⟨rfl, world35 hk⟩) : wl 108 _ _ = wl 108 (va_up (va_up u 106 q1) 107 q2) (cw g (va_up (va_up u 106 q1) 107 q2) x0 (r35 g))) ▸ hP
  have hJ : wj 108 L5 (fun q : Nat => s.heap.size ≤ q) := by rw [hL5]; exact hJ
  have e0 : L5 0 = qx := by rw [hL5, va_up_ne _ _ (by omega), va_up_ne _ _ (by omega)]; exact hu
  have e1 : L5 106 = q1 := by rw [hL5, va_up_ne _ _ (by omega), va_up_self]
  have e2 : L5 107 = q2 := by rw [hL5, va_up_self]
  have hl : lv_has ls 22 [(4, .int (nI 0)), (0, .ref b), (1, .ref (L5 0)), (2, .ref (L5 106)), (3, .ref (L5 107))] := by
    rw [e0, e1, e2]
    exact lv_sub hl [0, 4, 3, 2, 1] rfl
  refine W.widen (k := 200 + 10 * 0) (n := 20000 + 60 * 0) (Nat.le_of_ble_eq_true rfl) (Nat.le_of_ble_eq_true rfl) ?_
  exact law_fill35 l hst (by omega) C0 g L5 hJ hK hE 4 0 (by omega) S35_start rfl rfl (Nat.le_refl _) (Nat.le_refl _) hP hS hl
end ST35
