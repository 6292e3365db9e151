set_option maxHeartbeats 16000000 in
set_option maxRecDepth 100000 in
/-- the one call: by the switch -/
theorem law_one {p : Program} {e : Env} {s : State} {m : MethodId} {below : List Frame} {meth : Method} {c : Code} (l : Launch) (hst : l.stackTraces = false) {b : Nat} {xs : Nat → Int32} (C0 : lw_At p s m meth c b 5 xs) (g : gE) (L : Nat → Nat) (ro : Nat → va_E) (f : Nat → Int64) (ho : ro 123 = .inl (g.2 4, 1, .inr (.inl f))) (hJ : wj 125 L (fun q : Nat => s.heap.size ≤ q)) (hK : va_K g.1 vwCl (tysC g) s) (hE : EE SS (fun q : Nat => s.heap.size ≤ q) s) {H : Heap} {locs : List Loc} (hP : va_P g.1 vwCl (wl 125 L (cw g L x0 (mw g L y0 0 ro))) H) (hS : va_S (fun q : Nat => s.heap.size ≤ q) s.heap H locs) {ls : Array Slot} (hl : lv_has ls 9 [(0, .ref b), (1, .ref (L 0)), (2, .ref (L 106)), (3, .ref (L 123)), (4, .ref (L 124)), (5, .int 0)]) {x : Int32} {j : Nat} (hj : j < 32) (ex : x = nI j) : W p l e room_1 s m #[Value.ref b] below meth c H locs 200 100000 (lw_Z below #[Value.ref b] s) (F0 m 44 ls [.int x]) := by
  obtain ⟨hx, hb, hr, hml, hown, hts0, hX, hbl, hlocks, hgv⟩ := id C0
  subst ex
  rcases (show j = 0 ∨ j = 1 ∨ j = 2 ∨ j = 3 ∨ j = 4 ∨ j = 5 ∨ j = 6 ∨ j = 7 ∨ j = 8 ∨ j = 9 ∨ j = 10 ∨ j = 11 ∨ j = 12 ∨ j = 13 ∨ j = 14 ∨ j = 15 ∨ j = 16 ∨ j = 17 ∨ j = 18 ∨ j = 19 ∨ j = 20 ∨ j = 21 ∨ j = 22 ∨ j = 23 ∨ j = 24 ∨ j = 25 ∨ j = 26 ∨ j = 27 ∨ j = 28 ∨ j = 29 ∨ j = 30 ∨ j = 31 by omega) with rfl | rfl | rfl | rfl | rfl | rfl | rfl | rfl | rfl | rfl | rfl | rfl | rfl | rfl | rfl | rfl | rfl | rfl | rfl | rfl | rfl | rfl | rfl | rfl | rfl | rfl | rfl | rfl | rfl | rfl | rfl | rfl
  · exact lv_tableIn hx hb dL_law_44 (by decide) (by decide) (by decide) (tgt := 188) (off := 144) (by decide) (law_c0 l hst C0 g L ro f ho hJ hK hE hP hS hl)
  · exact lv_tableIn hx hb dL_law_44 (by decide) (by decide) (by decide) (tgt := 256) (off := 212) (by decide) (law_c1 l hst C0 g L ro f ho hJ hK hE hP hS hl)
  · exact lv_tableIn hx hb dL_law_44 (by decide) (by decide) (by decide) (tgt := 312) (off := 268) (by decide) (law_c2 l hst C0 g L ro f ho hJ hK hE hP hS hl)
  · exact lv_tableIn hx hb dL_law_44 (by decide) (by decide) (by decide) (tgt := 368) (off := 324) (by decide) (law_c3 l hst C0 g L ro f ho hJ hK hE hP hS hl)
  · exact lv_tableIn hx hb dL_law_44 (by decide) (by decide) (by decide) (tgt := 448) (off := 404) (by decide) (law_c4 l hst C0 g L ro f ho hJ hK hE hP hS hl)
  · exact lv_tableIn hx hb dL_law_44 (by decide) (by decide) (by decide) (tgt := 528) (off := 484) (by decide) (law_c5 l hst C0 g L ro f ho hJ hK hE hP hS hl)
  · exact lv_tableIn hx hb dL_law_44 (by decide) (by decide) (by decide) (tgt := 584) (off := 540) (by decide) (law_c6 l hst C0 g L ro f ho hJ hK hE hP hS hl)
  · exact lv_tableIn hx hb dL_law_44 (by decide) (by decide) (by decide) (tgt := 640) (off := 596) (by decide) (law_c7 l hst C0 g L ro f ho hJ hK hE hP hS hl)
  · exact lv_tableIn hx hb dL_law_44 (by decide) (by decide) (by decide) (tgt := 703) (off := 659) (by decide) (law_c8 l hst C0 g L ro f ho hJ hK hE hP hS hl)
  · exact lv_tableIn hx hb dL_law_44 (by decide) (by decide) (by decide) (tgt := 795) (off := 751) (by decide) (law_c9 l hst C0 g L ro f ho hJ hK hE hP hS hl)
  · exact lv_tableIn hx hb dL_law_44 (by decide) (by decide) (by decide) (tgt := 870) (off := 826) (by decide) (law_c10 l hst C0 g L ro f ho hJ hK hE hP hS hl)
  · exact lv_tableIn hx hb dL_law_44 (by decide) (by decide) (by decide) (tgt := 938) (off := 894) (by decide) (law_c11 l hst C0 g L ro f ho hJ hK hE hP hS hl)
  · exact lv_tableIn hx hb dL_law_44 (by decide) (by decide) (by decide) (tgt := 1006) (off := 962) (by decide) (law_c12 l hst C0 g L ro f ho hJ hK hE hP hS hl)
  · exact lv_tableIn hx hb dL_law_44 (by decide) (by decide) (by decide) (tgt := 1086) (off := 1042) (by decide) (law_c13 l hst C0 g L ro f ho hJ hK hE hP hS hl)
  · exact lv_tableIn hx hb dL_law_44 (by decide) (by decide) (by decide) (tgt := 1142) (off := 1098) (by decide) (law_c14 l hst C0 g L ro f ho hJ hK hE hP hS hl)
  · exact lv_tableIn hx hb dL_law_44 (by decide) (by decide) (by decide) (tgt := 1210) (off := 1166) (by decide) (law_c15 l hst C0 g L ro f ho hJ hK hE hP hS hl)
  · exact lv_tableIn hx hb dL_law_44 (by decide) (by decide) (by decide) (tgt := 1273) (off := 1229) (by decide) (law_c16 l hst C0 g L ro f ho hJ hK hE hP hS hl)
  · exact lv_tableIn hx hb dL_law_44 (by decide) (by decide) (by decide) (tgt := 1341) (off := 1297) (by decide) (law_c17 l hst C0 g L ro f ho hJ hK hE hP hS hl)
  · exact lv_tableIn hx hb dL_law_44 (by decide) (by decide) (by decide) (tgt := 1409) (off := 1365) (by decide) (law_c18 l hst C0 g L ro f ho hJ hK hE hP hS hl)
  · exact lv_tableIn hx hb dL_law_44 (by decide) (by decide) (by decide) (tgt := 1477) (off := 1433) (by decide) (law_c19 l hst C0 g L ro f ho hJ hK hE hP hS hl)
  · exact lv_tableIn hx hb dL_law_44 (by decide) (by decide) (by decide) (tgt := 1545) (off := 1501) (by decide) (law_c20 l hst C0 g L ro f ho hJ hK hE hP hS hl)
  · exact lv_tableIn hx hb dL_law_44 (by decide) (by decide) (by decide) (tgt := 1625) (off := 1581) (by decide) (law_c21 l hst C0 g L ro f ho hJ hK hE hP hS hl)
  · exact lv_tableIn hx hb dL_law_44 (by decide) (by decide) (by decide) (tgt := 1681) (off := 1637) (by decide) (law_c22 l hst C0 g L ro f ho hJ hK hE hP hS hl)
  · exact lv_tableIn hx hb dL_law_44 (by decide) (by decide) (by decide) (tgt := 1694) (off := 1650) (by decide) (law_c23 l hst C0 g L ro f ho hJ hK hE hP hS hl)
  · exact lv_tableIn hx hb dL_law_44 (by decide) (by decide) (by decide) (tgt := 1707) (off := 1663) (by decide) (law_c24 l hst C0 g L ro f ho hJ hK hE hP hS hl)
  · exact lv_tableIn hx hb dL_law_44 (by decide) (by decide) (by decide) (tgt := 1720) (off := 1676) (by decide) (law_c25 l hst C0 g L ro f ho hJ hK hE hP hS hl)
  · exact lv_tableIn hx hb dL_law_44 (by decide) (by decide) (by decide) (tgt := 1800) (off := 1756) (by decide) (law_c26 l hst C0 g L ro f ho hJ hK hE hP hS hl)
  · exact lv_tableIn hx hb dL_law_44 (by decide) (by decide) (by decide) (tgt := 1814) (off := 1770) (by decide) (law_c27 l hst C0 g L ro f ho hJ hK hE hP hS hl)
  · exact lv_tableIn hx hb dL_law_44 (by decide) (by decide) (by decide) (tgt := 1870) (off := 1826) (by decide) (law_c28 l hst C0 g L ro f ho hJ hK hE hP hS hl)
  · exact lv_tableIn hx hb dL_law_44 (by decide) (by decide) (by decide) (tgt := 1884) (off := 1840) (by decide) (law_c29 l hst C0 g L ro f ho hJ hK hE hP hS hl)
  · exact lv_tableIn hx hb dL_law_44 (by decide) (by decide) (by decide) (tgt := 1950) (off := 1906) (by decide) (law_c30 l hst C0 g L ro f ho hJ hK hE hP hS hl)
  · exact lv_tableIn hx hb dL_law_44 (by decide) (by decide) (by decide) (tgt := 2015) (off := 1971) (by decide) (law_c31 l hst C0 g L ro f ho hJ hK hE hP hS hl)
set_option maxHeartbeats 16000000 in
set_option maxRecDepth 100000 in
/-- YOUR PART: from the entry, for every script of at most 5 ints, the law comes to its end with true -/
theorem whole_start {p : Program} {e : Env} {s : State} {m : MethodId} {below : List Frame} {meth : Method} {c : Code} (l : Launch) (hflags : l.flags = flags0) {b L : Nat} {xs : Nat → Int32} (hL : L ≤ 5) (C0 : lw_At p s m meth c b L xs) : W p l e room_1 s m #[Value.ref b] below meth c s.heap [] 0 0 (lw_Z below #[Value.ref b] s) (entryFrame m ([Value.ref b] : List Value).toArray 9) := by
  obtain ⟨hx, hb, hr, hml, hown, hts0, hX, hbl, hlocks, hgv⟩ := id C0
  have hown : s.vm.findClass RL = some m.cls := hown
  have hst : l.stackTraces = false := by unfold Launch.stackTraces; rw [hflags]; decide
  have hts : ∀ w ∈ wsL_law, w.before #[Value.ref b] s = true := fun w h => hts0 w (wsL_law_in w h)
  have hbA : ¬ (fun q : Nat => s.heap.size ≤ q) b := Nat.not_le.mpr hbl
  have hA : ∀ q : Nat, s.heap.size ≤ q → (fun q : Nat => s.heap.size ≤ q) q := fun _ h => h
  have hE : EE SS (fun q : Nat => s.heap.size ≤ q) s := EE_start hts0 hgv
  obtain ⟨g, hK⟩ := K_start hts0
  have hS : va_S (fun q : Nat => s.heap.size ≤ q) s.heap s.heap [] := va_S.rf
  have hP : va_P g.1 vwCl (wl 0 (fun _ => 0) (fun _ => .inr (0, []))) s.heap := fun k q h => by simp [wl] at h
  have hJ : wj 0 (fun _ => 0) (fun q : Nat => s.heap.size ≤ q) := ⟨fun i j h => absurd h (Nat.not_lt_zero _), fun k h => absurd h (Nat.not_lt_zero _)⟩
  have hl := lv_entry ([.ref b]) (n := 9) (Nat.le_of_ble_eq_true rfl)
  rw [lg_entry_eq]
  generalize (lg_sl ([.ref b]) ++ List.replicate (9 - (lg_sl ([.ref b])).length) Slot.unset).toArray = ls at hl ⊢
  have hl : lv_has ls 9 [(0, .ref b)] := hl
  refine wx_new (ci := 5) (fs := [.null, .int 0, .null, .null, .int 0, .null, .int 0, .int 0]) (C := RX3) (T := TX3) (N := 8) hx hb hts0 inX3 tyX3 tyX3_ok hown (hts (.classLink RL 8 RX3) (by decide +kernel)) (hts (.instantiable RX3 8) (by decide +kernel)) (hts (.initialized RX3) (by decide +kernel)) hK hP hJ hS hA rfl (fun j hj => by rcases (show j = 0 ∨ j = 1 ∨ j = 2 ∨ j = 3 ∨ j = 4 ∨ j = 5 ∨ j = 6 ∨ j = 7 by omega) with rfl | rfl | rfl | rfl | rfl | rfl | rfl | rfl <;> rfl) (Nat.le_of_ble_eq_true rfl) (Nat.le_of_ble_eq_true rfl) dL_law_0 (fun qx H hP hJ hS => ?_)
  refine lv_dup hx hb dL_law_3 rfl ?_
  refine va_callv (va_runI (As := []) (rest := [.ref qx]) ⟨hx, hb, hml, hown, hts⟩ (kc_X3_init l g s.heap.size (va_up (fun _ => 0) 0 qx) (fun _ => .inr (0, [])) qx (va_up_self _ _ _)) (cwI 0 hts gL_law_X3_init rfl rfl rfl (hts (.initialized RX3) (by decide +kernel)) (hts (.methodLink RL 105 yX3_init) (by decide +kernel)) (hts (.instanceMethod yX3_init) (by decide +kernel)) rfl (by decide +kernel) ⟨Nat.le_of_ble_eq_true rfl, Nat.le_of_ble_eq_true rfl⟩) (PW.preS3 (Nat.le_refl _) hJ hK hE hP hS) rfl rfl hl.1 rfl (lv_room (Nat.le_of_ble_eq_true rfl)) dL_law_4 ⟨Nat.le_of_ble_eq_true rfl, Nat.le_of_ble_eq_true rfl⟩) hS (fun _ _ h => h) (fun _ h => h) (fun u t H locs ht _ hu hB _ _ hS => ?_)
  obtain ⟨hJ, hB⟩ := hB
  have hP := PB.at hB ht
  refine lv_astore_n (lv' := [(1, .ref qx), (0, .ref b)]) hx hb dL_law_7 rfl hl (by decide) rfl (fun ls hl => ?_)
  refine wx_new (ci := 6) (fs := [.int 0, .int 0, .int 0, .int 0, .int 0, .long 0, .null, .null, .null, .null, .null, .null, .null, .null, .null, .null, .null, .null, .null, .null, .null, .null]) (C := RX4) (T := TX4) (N := 22) hx hb hts0 inX4 tyX4 tyX4_ok hown (hts (.classLink RL 106 RX4) (by decide +kernel)) (hts (.instantiable RX4 22) (by decide +kernel)) (hts (.initialized RX4) (by decide +kernel)) hK hP hJ hS hA rfl (fun j hj => by rcases (show j = 0 ∨ j = 1 ∨ j = 2 ∨ j = 3 ∨ j = 4 ∨ j = 5 ∨ j = 6 ∨ j = 7 ∨ j = 8 ∨ j = 9 ∨ j = 10 ∨ j = 11 ∨ j = 12 ∨ j = 13 ∨ j = 14 ∨ j = 15 ∨ j = 16 ∨ j = 17 ∨ j = 18 ∨ j = 19 ∨ j = 20 ∨ j = 21 by omega) with rfl | rfl | rfl | rfl | rfl | rfl | rfl | rfl | rfl | rfl | rfl | rfl | rfl | rfl | rfl | rfl | rfl | rfl | rfl | rfl | rfl | rfl <;> rfl) (Nat.le_of_ble_eq_true rfl) (Nat.le_of_ble_eq_true rfl) dL_law_8 (fun qm H hP hJ hS => ?_)
  refine lv_dup hx hb dL_law_11 rfl ?_
  refine va_callv (va_runI (As := []) (rest := [.ref qm]) ⟨hx, hb, hml, hown, hts⟩ (kc_X4_init l g s.heap.size (106 + 1) (va_up u 106 qm) (dk g 6 40 u x0) 106 qm (by omega) (va_up_self _ _ _)) (cwI 0 hts gL_law_X4_init rfl rfl rfl (hts (.initialized RX4) (by decide +kernel)) (hts (.methodLink RL 108 yX4_init) (by decide +kernel)) (hts (.instanceMethod yX4_init) (by decide +kernel)) rfl (by decide +kernel) ⟨Nat.le_of_ble_eq_true rfl, Nat.le_of_ble_eq_true rfl⟩) (PW.preS3 (Nat.le_refl _) hJ hK hE hP hS) rfl rfl hl.1 rfl (lv_room (Nat.le_of_ble_eq_true rfl)) dL_law_12 ⟨Nat.le_of_ble_eq_true rfl, Nat.le_of_ble_eq_true rfl⟩) hS (fun _ _ h => h) (fun _ h => h) (fun u9 t9 H locs ht9 _ hu9 hB _ _ hS => ?_)
  obtain ⟨q1, q2, q3, q4, q5, q6, q7, q8, q9, q10, q11, q12, q13, q14, q15, q16, rfl⟩ := hu9
  obtain ⟨hJ, hB⟩ := hB
  have hP := PB.at hB ht9
  refine lv_astore_n (lv' := [(2, .ref qm), (1, .ref qx), (0, .ref b)]) hx hb dL_law_15 rfl hl (by decide) rfl (fun ls hl => ?_)
  refine lv_iconst (v := 1) hx hb dL_law_16 (by decide) ?_
  refine wx_newa (atype := .long) (a0 := (1, .inr (.inl (fun _ => 0)))) (N' := 1) hx hb (hts (.arrayClass .long) (by decide +kernel)) rfl hK hP hJ hS hA (fun _ => rfl) (by decide) (by decide) (by decide) (Nat.le_of_ble_eq_true rfl) (Nat.le_of_ble_eq_true rfl) dL_law_17 (k0 := 4) rfl (fun ql H hP hJ hS => ?_)
  refine lv_astore_n (lv' := [(3, .ref ql), (2, .ref qm), (1, .ref qx), (0, .ref b)]) hx hb dL_law_19 rfl hl (by decide) rfl (fun ls hl => ?_)
  refine lv_iconst (v := 1) hx hb dL_law_20 (by decide) ?_
  refine wx_newa (atype := .double) (a0 := (1, .inr (.inr (.inr (.inl (fun _ => 0)))))) (N' := 1) hx hb (hts (.arrayClass .double) (by decide +kernel)) rfl hK hP hJ hS hA (fun _ => rfl) (by decide) (by decide) (by decide) (Nat.le_of_ble_eq_true rfl) (Nat.le_of_ble_eq_true rfl) dL_law_21 (k0 := 5) rfl (fun qd H hP hJ hS => ?_)
  refine lv_astore (lv' := [(4, .ref qd), (3, .ref ql), (2, .ref qm), (1, .ref qx), (0, .ref b)]) hx hb dL_law_23 hl (by decide) rfl (fun ls hl => ?_)
  refine lv_iconst (v := 0) hx hb dL_law_25 (by decide) ?_
  refine lv_istore (lv' := [(5, .int 0), (4, .ref qd), (3, .ref ql), (2, .ref qm), (1, .ref qx), (0, .ref b)]) hx hb dL_law_26 hl (by decide) rfl (fun ls hl => ?_)
  obtain ⟨L5, hL5⟩ : ∃ z, z = va_up (va_up (ups (va_up u 106 qm) 107 [q1, q2, q3, q4, q5, q6, q7, q8, q9, q10, q11, q12, q13, q14, q15, q16]) 123 ql) 124 qd := ⟨_, rfl⟩
  have hP : va_P g.1 vwCl (wl 125 L5 (cw g L5 x0 (mw g L5 y0 0 (roL g)))) H := by
    rw [hL5]
    exact (wl_congr (fun k hk => ⟨rfl, law_world hk⟩) : wl 125 _ _ = wl 125 (va_up (va_up (ups (va_up u 106 qm) 107 [q1, q2, q3, q4, q5, q6, q7, q8, q9, q10, q11, q12, q13, q14, q15, q16]) 123 ql) 124 qd) (cw g (va_up (va_up (ups (va_up u 106 qm) 107 [q1, q2, q3, q4, q5, q6, q7, q8, q9, q10, q11, q12, q13, q14, q15, q16]) 123 ql) 124 qd) x0 (mw g (va_up (va_up (ups (va_up u 106 qm) 107 [q1, q2, q3, q4, q5, q6, q7, q8, q9, q10, q11, q12, q13, q14, q15, q16]) 123 ql) 124 qd) y0 0 (roL g)))) ▸ hP
  have hJ : wj 125 L5 (fun q : Nat => s.heap.size ≤ q) := by rw [hL5]; exact hJ
  have e0 : L5 0 = qx := by rw [hL5, va_up_ne _ _ (by omega), va_up_ne _ _ (by omega), ups_lt (by omega), va_up_ne _ _ (by omega)]; exact hu
  have e1 : L5 106 = qm := by rw [hL5, va_up_ne _ _ (by omega), va_up_ne _ _ (by omega), ups_lt (by omega), va_up_self]
  have e2 : L5 123 = ql := by rw [hL5, va_up_ne _ _ (by omega), va_up_self]
  have e3 : L5 124 = qd := by rw [hL5, va_up_self]
  have hl : lv_has ls 9 [(0, .ref b), (1, .ref (L5 0)), (2, .ref (L5 106)), (3, .ref (L5 123)), (4, .ref (L5 124)), (5, .int 0)] := by
    rw [e0, e1, e2, e3]
    exact lv_sub hl [5, 4, 3, 2, 1, 0] rfl
  refine W.widen (k := 200) (n := 100000) (Nat.le_of_ble_eq_true rfl) (Nat.le_of_ble_eq_true rfl) ?_
  refine lv_iload hx hb dL_law_28 (lv_at hl 5 rfl) ?_
  refine lv_aload_n hx hb dL_law_30 rfl (lv_at hl 0 rfl) ?_
  refine va_slen hx hb hX hbl hbA hS dL_law_31 ?_
  refine lv_iconst (v := 5) hx hb dL_law_32 (by decide) ?_
  refine lv_isub hx hb dL_law_33 ?_
  rcases (show L < 5 ∨ L = 5 by omega) with hlt | rfl
  · refine lv_icmp_gt (tgt := 2034) hx hb dL_law_34 (by decide) (fun _ => ?_) (fun c9 => absurd (by rcases (show L = 0 ∨ L = 1 ∨ L = 2 ∨ L = 3 ∨ L = 4 by omega) with rfl | rfl | rfl | rfl | rfl <;> decide) c9)
    exact law_true C0 (Nat.le_of_ble_eq_true rfl) (Nat.le_of_ble_eq_true rfl) hS
  · refine lv_icmp_gt (tgt := 2034) hx hb dL_law_34 (by decide) (fun c9 => absurd c9 (by decide)) (fun _ => ?_)
    refine lv_aload_n hx hb dL_law_37 rfl (lv_at hl 0 rfl) ?_
    refine lv_iload hx hb dL_law_38 (lv_at hl 5 rfl) ?_
    refine va_sld hx hb hX hbl hbA hS (i := 0) (by unfold vp_in; decide) dL_law_40 ?_
    refine lv_bipush (v := 31) hx hb dL_law_41 (by decide) ?_
    refine lv_iand hx hb dL_law_43 ?_
    obtain ⟨j, hj, ej⟩ := pk_andE (xs (0 : Int32).toNatClampNeg) (m := 31) 5 (by decide)
    exact law_one l hst C0 g L5 (roL g) (fun _ => 0) rfl hJ hK hE hP hS hl (by omega) ej
