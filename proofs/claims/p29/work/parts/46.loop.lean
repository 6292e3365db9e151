/-! laid by wip/gen -/
/-! THE LOOP AND THE START -/
section LST
theorem R1_start : R1 x0 y0 0 0 0 := by
  have e0 : (0 : Int32).toNatClampNeg = 0 := by decide
  refine ⟨⟨⟨by omega, rfl⟩, ⟨by omega, rfl⟩, fun b _ => Or.inl rfl, fun j hj => ?_, fun b _ => ?_⟩, ⟨⟨by omega, rfl⟩, ⟨by omega, rfl⟩, fun b _ => Or.inr ⟨0, by omega, rfl⟩, fun b _ => ⟨0, by omega, rfl⟩, fun k h => absurd h (Nat.not_lt_zero _)⟩, ⟨by omega, rfl, rfl⟩, rfl, ⟨0, by omega, rfl⟩, fun b _ => Or.inl rfl, fun k h => absurd h (Nat.not_lt_zero _), fun k _ => ⟨rfl, rfl⟩⟩
  · show (nI j).toNatClampNeg < 40
    rw [nI_clamp (by omega)]; exact hj
  · show (0 : Int32).toNatClampNeg ≤ 1920 ∧ (0 : Int32) = nI (0 : Int32).toNatClampNeg
    rw [e0]; exact ⟨by omega, rfl⟩
theorem R2_start : R2 x0 y0 0 0 0 0 0 := by
  have e0 : (0 : Int32).toNatClampNeg = 0 := by decide
  refine ⟨R1_start, ⟨fun _ _ => 0, fun b hb => ⟨⟨0, ?_⟩, rfl⟩, fun b hb => absurd hb (Nat.not_lt_zero _), fun b _ _ => ⟨rfl, rfl, fun _ _ => rfl⟩, ?_⟩, ⟨2, by omega, rfl⟩, fun b _ => rfl, fun k hk d hd => ?_, rfl, ⟨⟨0, by omega, by omega, rfl, fun i h => absurd h (Nat.not_lt_zero _), fun i _ _ => rfl, fun k hk h hh => rfl⟩, by omega⟩, fun k hk b hb => ⟨rfl, 0, by omega, rfl⟩, fun k _ _ d _ => b_0 d⟩
  · refine ⟨⟨⟨fun c hc => rfl, ⟨0, rfl, fun c hc => Nat.le_refl _, ⟨0, by omega, rfl⟩, fun c hc => ?_⟩, fun c hc => ?_⟩, fun c hc => Nat.zero_le _, fun c hc => ?_, ⟨0, rfl, Nat.zero_le _, rfl⟩, rfl, by omega⟩, ⟨fun c hc => ⟨rfl, ?_⟩, rfl⟩, ?_, rfl⟩
    · show bt (-1) c = _
      rw [b_m1 c hc] <;> rfl
    · show bt 0 c = _
      rw [b_0] <;> rfl
    · show 0 % 2 = b2n (bt 0 c)
      rw [b_0] <;> rfl
    · show (0 : Int32) = nI (b2n (bt 0 c))
      rw [b_0] <;> rfl
    · show cN (bt 0) 32 ≤ 0
      decide +kernel
  · show (0 : Int64) = _
    rfl
  · show bt 0 d = true ↔ ¬ (0 : Int32) = 0
    rw [b_0]
    exact ⟨fun h => (by cases h), fun h => absurd rfl h⟩
theorem out_start {g : gE} : outOK g (roL g) := ⟨⟨fun _ => 0, rfl⟩, ⟨fun _ => 0, rfl⟩⟩
set_option maxHeartbeats 4000000 in
set_option maxRecDepth 100000 in
/-- true, from the return's row on -/
theorem law_true {p : Program} {l : Launch} {e : Env} {s : State} {m : MethodId} {below : List Frame} {meth : Method} {c : Code} {b N : Nat} {xs : Nat → Int32} (C0 : lw_At p s m meth c b N xs) {H : Heap} {locs : List Loc} {cells slots : Nat} (h1 : cells ≤ 603072) (h2 : slots ≤ 7215210) (hS : va_S (fun q : Nat => s.heap.size ≤ q) s.heap H locs) {ls : Array Slot} : W p l e room_1 s m #[Value.ref b] below meth c H locs cells slots (lw_Z below #[Value.ref b] s) (F0 m 1270 ls []) := by
  obtain ⟨hx, hb, hr, hml, hown, hts, hX, hbl, hlocks, hgv⟩ := id C0
  refine lv_iconst (v := 1) hx hb dL_law_1270 (by decide) ?_
  refine va_forget (fun q hq => hS.2.2 q hq) ?_
  refine W.widen (k := 603072) (n := 7215210) h1 h2 ?_
  exact lw_ret (d0 := s.drawn) (Drawn.sameBut.refl s.drawn lw_cs) hx hb hr hlocks dL_law_1271
set_option maxHeartbeats 16000000 in
set_option maxRecDepth 100000 in
theorem law_sw {p : Program} {e : Env} {s : State} {m : MethodId} {below : List Frame} {meth : Method} {c : Code} (l : Launch) (hst : l.stackTraces = false) {b N : Nat} {xs : Nat → Int32} (hN : N ≤ 2560) (C0 : lw_At p s m meth c b N xs) (g : gE) (L : Nat → Nat) (hJ : wj 125 L (fun q : Nat => s.heap.size ≤ q)) (hK : va_K g.1 vwCl (tysC g) s) (hE : EE SS (fun q : Nat => s.heap.size ≤ q) s) {t : Nat} (ht : 5 * t + 5 ≤ N) {x y : St} {ch : Int64} {nb nn hr : Nat} {ro : Nat → va_E} (hR : R2 x y ch nb nn hr t) (ho : outOK g ro) {cl sl : Nat} (hcl : cl + 100 ≤ 603072) (hsl : sl + 1000 ≤ 7215210) {H : Heap} {locs : List Loc} (hP : va_P g.1 vwCl (wl 125 L (cw g L x (mw g L y ch ro))) H) (hS : va_S (fun q : Nat => s.heap.size ≤ q) s.heap H locs) {ls : Array Slot} (hl : lv_has ls 9 [(0, .ref b), (1, .ref (L 0)), (2, .ref (L 106)), (3, .ref (L 123)), (4, .ref (L 124)), (5, .int (nI (5 * t)))]) (hnext : ∀ (x2 y2 : St) (ch2 : Int64) (nb2 nn2 hr2 : Nat) (ro2 : Nat → va_E) (cl2 sl2 : Nat) (H : Heap) (locs : List Loc) (ls : Array Slot), R2 x2 y2 ch2 nb2 nn2 hr2 (t + 1) → outOK g ro2 → cl2 ≤ cl + 8 → sl2 ≤ sl + 48 → va_P g.1 vwCl (wl 125 L (cw g L x2 (mw g L y2 ch2 ro2))) H → va_S (fun q : Nat => s.heap.size ≤ q) s.heap H locs → lv_has ls 9 [(0, .ref b), (1, .ref (L 0)), (2, .ref (L 106)), (3, .ref (L 123)), (4, .ref (L 124)), (5, .int (nI (5 * t)))] → W p l e room_1 s m #[Value.ref b] below meth c H locs cl2 sl2 (lw_Z below #[Value.ref b] s) (F0 m 1264 ls [])) {z : Int32} {j : Nat} (hj : j < 32) (ez : z = nI j) : W p l e room_1 s m #[Value.ref b] below meth c H locs cl sl (lw_Z below #[Value.ref b] s) (F0 m 44 ls [.int z]) := by
  obtain ⟨hx, hb, hr9, hml, hown, hts0, hX, hbl, hlocks, hgv⟩ := id C0
  subst ez
  rcases (show j = 0 ∨ j = 1 ∨ j = 2 ∨ j = 3 ∨ j = 4 ∨ j = 5 ∨ j = 6 ∨ j = 7 ∨ j = 8 ∨ j = 9 ∨ j = 10 ∨ j = 11 ∨ j = 12 ∨ j = 13 ∨ j = 14 ∨ j = 15 ∨ j = 16 ∨ j = 17 ∨ j = 18 ∨ j = 19 ∨ j = 20 ∨ j = 21 ∨ j = 22 ∨ j = 23 ∨ j = 24 ∨ j = 25 ∨ j = 26 ∨ j = 27 ∨ j = 28 ∨ j = 29 ∨ j = 30 ∨ j = 31 by omega) with rfl | rfl | rfl | rfl | rfl | rfl | rfl | rfl | rfl | rfl | rfl | rfl | rfl | rfl | rfl | rfl | rfl | rfl | rfl | rfl | rfl | rfl | rfl | rfl | rfl | rfl | rfl | rfl | rfl | rfl | rfl | rfl
  · exact lv_tableIn hx hb dL_law_44 (by decide) (by decide) (by decide) (tgt := 188) (off := 144) (by decide) (law_c0 l hst hN C0 g L hJ hK hE ht hR ho hcl hsl hP hS hl hnext)
  · exact lv_tableIn hx hb dL_law_44 (by decide) (by decide) (by decide) (tgt := 228) (off := 184) (by decide) (law_c1 l hst hN C0 g L hJ hK hE ht hR ho hcl hsl hP hS hl hnext)
  · exact lv_tableIn hx hb dL_law_44 (by decide) (by decide) (by decide) (tgt := 256) (off := 212) (by decide) (law_c2 l hst hN C0 g L hJ hK hE ht hR ho hcl hsl hP hS hl hnext)
  · exact lv_tableIn hx hb dL_law_44 (by decide) (by decide) (by decide) (tgt := 284) (off := 240) (by decide) (law_c3 l hst hN C0 g L hJ hK hE ht hR ho hcl hsl hP hS hl hnext)
  · exact lv_tableIn hx hb dL_law_44 (by decide) (by decide) (by decide) (tgt := 336) (off := 292) (by decide) (law_c4 l hst hN C0 g L hJ hK hE ht hR ho hcl hsl hP hS hl hnext)
  · exact lv_tableIn hx hb dL_law_44 (by decide) (by decide) (by decide) (tgt := 388) (off := 344) (by decide) (law_c5 l hst hN C0 g L hJ hK hE ht hR ho hcl hsl hP hS hl hnext)
  · exact lv_tableIn hx hb dL_law_44 (by decide) (by decide) (by decide) (tgt := 416) (off := 372) (by decide) (law_c6 l hst hN C0 g L hJ hK hE ht hR ho hcl hsl hP hS hl hnext)
  · exact lv_tableIn hx hb dL_law_44 (by decide) (by decide) (by decide) (tgt := 444) (off := 400) (by decide) (law_c7 l hst hN C0 g L hJ hK hE ht hR ho hcl hsl hP hS hl hnext)
  · exact lv_tableIn hx hb dL_law_44 (by decide) (by decide) (by decide) (tgt := 472) (off := 428) (by decide) (law_c8 l hst hN C0 g L hJ hK hE ht hR ho hcl hsl hP hS hl hnext)
  · exact lv_tableIn hx hb dL_law_44 (by decide) (by decide) (by decide) (tgt := 536) (off := 492) (by decide) (law_c9 l hst hN C0 g L hJ hK hE ht hR ho hcl hsl hP hS hl hnext)
  · exact lv_tableIn hx hb dL_law_44 (by decide) (by decide) (by decide) (tgt := 576) (off := 532) (by decide) (law_c10 l hst hN C0 g L hJ hK hE ht hR ho hcl hsl hP hS hl hnext)
  · exact lv_tableIn hx hb dL_law_44 (by decide) (by decide) (by decide) (tgt := 616) (off := 572) (by decide) (law_c11 l hst hN C0 g L hJ hK hE ht hR ho hcl hsl hP hS hl hnext)
  · exact lv_tableIn hx hb dL_law_44 (by decide) (by decide) (by decide) (tgt := 656) (off := 612) (by decide) (law_c12 l hst hN C0 g L hJ hK hE ht hR ho hcl hsl hP hS hl hnext)
  · exact lv_tableIn hx hb dL_law_44 (by decide) (by decide) (by decide) (tgt := 708) (off := 664) (by decide) (law_c13 l hst hN C0 g L hJ hK hE ht hR ho hcl hsl hP hS hl hnext)
  · exact lv_tableIn hx hb dL_law_44 (by decide) (by decide) (by decide) (tgt := 736) (off := 692) (by decide) (law_c14 l hst hN C0 g L hJ hK hE ht hR ho hcl hsl hP hS hl hnext)
  · exact lv_tableIn hx hb dL_law_44 (by decide) (by decide) (by decide) (tgt := 776) (off := 732) (by decide) (law_c15 l hst hN C0 g L hJ hK hE ht hR ho hcl hsl hP hS hl hnext)
  · exact lv_tableIn hx hb dL_law_44 (by decide) (by decide) (by decide) (tgt := 804) (off := 760) (by decide) (law_c16 l hst hN C0 g L hJ hK hE ht hR ho hcl hsl hP hS hl hnext)
  · exact lv_tableIn hx hb dL_law_44 (by decide) (by decide) (by decide) (tgt := 844) (off := 800) (by decide) (law_c17 l hst hN C0 g L hJ hK hE ht hR ho hcl hsl hP hS hl hnext)
  · exact lv_tableIn hx hb dL_law_44 (by decide) (by decide) (by decide) (tgt := 884) (off := 840) (by decide) (law_c18 l hst hN C0 g L hJ hK hE ht hR ho hcl hsl hP hS hl hnext)
  · exact lv_tableIn hx hb dL_law_44 (by decide) (by decide) (by decide) (tgt := 924) (off := 880) (by decide) (law_c19 l hst hN C0 g L hJ hK hE ht hR ho hcl hsl hP hS hl hnext)
  · exact lv_tableIn hx hb dL_law_44 (by decide) (by decide) (by decide) (tgt := 964) (off := 920) (by decide) (law_c20 l hst hN C0 g L hJ hK hE ht hR ho hcl hsl hP hS hl hnext)
  · exact lv_tableIn hx hb dL_law_44 (by decide) (by decide) (by decide) (tgt := 1016) (off := 972) (by decide) (law_c21 l hst hN C0 g L hJ hK hE ht hR ho hcl hsl hP hS hl hnext)
  · exact lv_tableIn hx hb dL_law_44 (by decide) (by decide) (by decide) (tgt := 1044) (off := 1000) (by decide) (law_c22 l hst hN C0 g L hJ hK hE ht hR ho hcl hsl hP hS hl hnext)
  · exact lv_tableIn hx hb dL_law_44 (by decide) (by decide) (by decide) (tgt := 1057) (off := 1013) (by decide) (law_c23 l hst hN C0 g L hJ hK hE ht hR ho hcl hsl hP hS hl hnext)
  · exact lv_tableIn hx hb dL_law_44 (by decide) (by decide) (by decide) (tgt := 1070) (off := 1026) (by decide) (law_c24 l hst hN C0 g L hJ hK hE ht hR ho hcl hsl hP hS hl hnext)
  · exact lv_tableIn hx hb dL_law_44 (by decide) (by decide) (by decide) (tgt := 1083) (off := 1039) (by decide) (law_c25 l hst hN C0 g L hJ hK hE ht hR ho hcl hsl hP hS hl hnext)
  · exact lv_tableIn hx hb dL_law_44 (by decide) (by decide) (by decide) (tgt := 1135) (off := 1091) (by decide) (law_c26 l hst hN C0 g L hJ hK hE ht hR ho hcl hsl hP hS hl hnext)
  · exact lv_tableIn hx hb dL_law_44 (by decide) (by decide) (by decide) (tgt := 1148) (off := 1104) (by decide) (law_c27 l hst hN C0 g L hJ hK hE ht hR ho hcl hsl hP hS hl hnext)
  · exact lv_tableIn hx hb dL_law_44 (by decide) (by decide) (by decide) (tgt := 1204) (off := 1160) (by decide) (law_c28 l hst hN C0 g L hJ hK hE ht hR ho hcl hsl hP hS hl hnext)
  · exact lv_tableIn hx hb dL_law_44 (by decide) (by decide) (by decide) (tgt := 1217) (off := 1173) (by decide) (law_c29 l hst hN C0 g L hJ hK hE ht hR ho hcl hsl hP hS hl hnext)
  · exact lv_tableIn hx hb dL_law_44 (by decide) (by decide) (by decide) (tgt := 1234) (off := 1190) (by decide) (law_c30 l hst hN C0 g L hJ hK hE ht hR ho hcl hsl hP hS hl hnext)
  · exact lv_tableIn hx hb dL_law_44 (by decide) (by decide) (by decide) (tgt := 1251) (off := 1207) (by decide) (law_c31 l hst hN C0 g L hJ hK hE ht hR ho hcl hsl hP hS hl hnext)
set_option maxHeartbeats 16000000 in
set_option maxRecDepth 100000 in
theorem law_loop {p : Program} {e : Env} {s : State} {m : MethodId} {below : List Frame} {meth : Method} {c : Code} (l : Launch) (hst : l.stackTraces = false) {b N : Nat} {xs : Nat → Int32} (hN : N ≤ 2560) (C0 : lw_At p s m meth c b N xs) (g : gE) (L : Nat → Nat) (hJ : wj 125 L (fun q : Nat => s.heap.size ≤ q)) (hK : va_K g.1 vwCl (tysC g) s) (hE : EE SS (fun q : Nat => s.heap.size ≤ q) s) : ∀ (d t : Nat) {x y : St} {ch : Int64} {nb nn hr : Nat} {ro : Nat → va_E} {cl sl : Nat} {H : Heap} {locs : List Loc} {ls : Array Slot}, t + d = N / 5 → R2 x y ch nb nn hr t → outOK g ro → cl ≤ 200 + 8 * t → sl ≤ 100000 + 48 * t → va_P g.1 vwCl (wl 125 L (cw g L x (mw g L y ch ro))) H → va_S (fun q : Nat => s.heap.size ≤ q) s.heap H locs → lv_has ls 9 [(0, .ref b), (1, .ref (L 0)), (2, .ref (L 106)), (3, .ref (L 123)), (4, .ref (L 124)), (5, .int (nI (5 * t)))] → W p l e room_1 s m #[Value.ref b] below meth c H locs cl sl (lw_Z below #[Value.ref b] s) (F0 m 28 ls []) := by
  obtain ⟨hx, hb, hr9, hml, hown, hts0, hX, hbl, hlocks, hgv⟩ := id C0
  have hbA : ¬ (fun q : Nat => s.heap.size ≤ q) b := Nat.not_le.mpr hbl
  have hNI : (Int32.ofNat N - 5).toInt = (N : Int) - 5 := by
    rw [Int32.toInt_sub, show (5 : Int32).toInt = 5 from rfl, show (Int32.ofNat N).toInt = (N : Int) from nI_toInt (by omega), Int.bmod_eq_of_le (by omega) (by omega)]
  intro d
  induction d with
  | zero =>
    intro t x y ch nb nn hr ro cl sl H locs ls hd hR ho hcl hsl hP hS hl
    refine lv_iload hx hb dL_law_28 (lv_at hl 5 rfl) ?_
    refine lv_aload_n hx hb dL_law_30 rfl (lv_at hl 0 rfl) ?_
    refine va_slen hx hb hX hbl hbA hS dL_law_31 ?_
    refine lv_iconst (v := 5) hx hb dL_law_32 (by decide) ?_
    refine lv_isub hx hb dL_law_33 ?_
    refine lv_icmp_gt (tgt := 1270) hx hb dL_law_34 (by decide) (fun _ => ?_) (fun c9 => absurd (show Int32.ofNat N - 5 < nI (5 * t) by rw [Int32.lt_iff_toInt_lt, hNI, nI_toInt (by omega)]; omega) c9)
    exact law_true C0 (by omega) (by omega) hS
  | succ d ih =>
    intro t x y ch nb nn hr ro cl sl H locs ls hd hR ho hcl hsl hP hS hl
    refine lv_iload hx hb dL_law_28 (lv_at hl 5 rfl) ?_
    refine lv_aload_n hx hb dL_law_30 rfl (lv_at hl 0 rfl) ?_
    refine va_slen hx hb hX hbl hbA hS dL_law_31 ?_
    refine lv_iconst (v := 5) hx hb dL_law_32 (by decide) ?_
    refine lv_isub hx hb dL_law_33 ?_
    refine lv_icmp_gt (tgt := 1270) hx hb dL_law_34 (by decide) (fun c9 => absurd c9 (show ¬ Int32.ofNat N - 5 < nI (5 * t) by rw [Int32.lt_iff_toInt_lt, hNI, nI_toInt (by omega)]; omega)) (fun _ => ?_)
    refine lv_aload_n hx hb dL_law_37 rfl (lv_at hl 0 rfl) ?_
    refine lv_iload hx hb dL_law_38 (lv_at hl 5 rfl) ?_
    refine va_sld hx hb hX hbl hbA hS (i := nI (5 * t)) (vp_in_nI (by omega) (by omega)) dL_law_40 ?_
    refine lv_bipush (v := 31) hx hb dL_law_41 (by decide) ?_
    refine lv_iand hx hb dL_law_43 ?_
    obtain ⟨j, hj, ej⟩ := pk_andE (xs (nI (5 * t)).toNatClampNeg) (m := 31) 5 (by decide)
    refine law_sw l hst hN C0 g L hJ hK hE (t := t) (by omega) hR ho (by omega) (by omega) hP hS hl (fun x2 y2 ch2 nb2 nn2 hr2 ro2 cl2 sl2 H locs ls hR2 ho2 hc2 hs2 hP hS hl => ?_) (by omega) ej
    obtain ⟨z, ez⟩ : ∃ z : Int32, z = nI (5 * t) + 5 := ⟨_, rfl⟩
    refine lv_iinc (v := z) (lv' := [(5, .int z), (0, .ref b), (1, .ref (L 0)), (2, .ref (L 106)), (3, .ref (L 123)), (4, .ref (L 124))]) hx hb dL_law_1264 hl (k := 5) rfl (by rw [ez]; rfl) (by decide) rfl (fun ls hl => ?_)
    refine lv_goto (tgt := 28) hx hb dL_law_1267 (by decide) ?_
    have ez2 : z = nI (5 * (t + 1)) := by rw [ez, show nI (5 * t) + 5 = nI (5 * t + 5) from nI_add _ 5]; congr 1
    subst ez2
    exact ih (t + 1) (by omega) hR2 ho2 (by omega) (by omega) hP hS (lv_sub hl [1, 2, 3, 4, 5, 0] rfl)
set_option maxHeartbeats 16000000 in
set_option maxRecDepth 100000 in
/-- YOUR PART: from the entry, for every script of at most 2560 ints, the law comes to its end with true -/
theorem whole_start {p : Program} {e : Env} {s : State} {m : MethodId} {below : List Frame} {meth : Method} {c : Code} (l : Launch) (hflags : l.flags = flags0) {b L : Nat} {xs : Nat → Int32} (hL : L ≤ 2560) (C0 : lw_At p s m meth c b L xs) : W p l e room_1 s m #[Value.ref b] below meth c s.heap [] 0 0 (lw_Z below #[Value.ref b] s) (entryFrame m ([Value.ref b] : List Value).toArray 9) := by
  obtain ⟨hx, hb, hr, hml, hown, hts0, hX, hbl, hlocks, hgv⟩ := id C0
  have hown : s.vm.findClass RL = some m.cls := hown
  have hst : l.stackTraces = false := by unfold Launch.stackTraces; rw [hflags]; decide
  have hts : ∀ w ∈ wsL_law, w.before #[Value.ref b] s = true := fun w h => hts0 w (wsL_law_in w h)
  have hbA : ¬ (fun q : Nat => s.heap.size ≤ q) b := Nat.not_le.mpr hbl
  have hA : ∀ q : Nat, s.heap.size ≤ q → (fun q : Nat => s.heap.size ≤ q) q := fun _ h => h
  have hE : EE SS (fun q : Nat => s.heap.size ≤ q) s := EE_start hts0 hgv
  obtain ⟨g, hK⟩ := K_start hts0
  have hS : va_S (fun q : Nat => s.heap.size ≤ q) s.heap s.heap [] := va_S.rf
  have hP : va_P g.1 vwCl (wl 0 (fun _ => 0) (fun _ => .inr (0, []))) s.heap := fun k q h => by simp [wl] at h
  have hJ : wj 0 (fun _ => 0) (fun q : Nat => s.heap.size ≤ q) := ⟨fun i j h => absurd h (Nat.not_lt_zero _), fun k h => absurd h (Nat.not_lt_zero _)⟩
  have hl := lv_entry ([.ref b]) (n := 9) (Nat.le_of_ble_eq_true rfl)
  rw [lg_entry_eq]
  generalize (lg_sl ([.ref b]) ++ List.replicate (9 - (lg_sl ([.ref b])).length) Slot.unset).toArray = ls at hl ⊢
  have hl : lv_has ls 9 [(0, .ref b)] := hl
  refine wx_new (ci := 5) (fs := [.null, .int 0, .null, .null, .int 0, .null, .int 0, .int 0]) (C := RX3) (T := TX3) (N := 8) hx hb hts0 inX3 tyX3 tyX3_ok hown (hts (.classLink RL 8 RX3) (by decide +kernel)) (hts (.instantiable RX3 8) (by decide +kernel)) (hts (.initialized RX3) (by decide +kernel)) hK hP hJ hS hA rfl (fun j hj => by rcases (show j = 0 ∨ j = 1 ∨ j = 2 ∨ j = 3 ∨ j = 4 ∨ j = 5 ∨ j = 6 ∨ j = 7 by omega) with rfl | rfl | rfl | rfl | rfl | rfl | rfl | rfl <;> rfl) (Nat.le_of_ble_eq_true rfl) (Nat.le_of_ble_eq_true rfl) dL_law_0 (fun qx H hP hJ hS => ?_)
  refine lv_dup hx hb dL_law_3 rfl ?_
  refine va_callv (va_runI (As := []) (rest := [.ref qx]) ⟨hx, hb, hml, hown, hts⟩ (kc_X3_init l g s.heap.size (va_up (fun _ => 0) 0 qx) (fun _ => .inr (0, [])) qx (va_up_self _ _ _)) (cwI 0 hts gL_law_X3_init rfl rfl rfl (hts (.initialized RX3) (by decide +kernel)) (hts (.methodLink RL 105 yX3_init) (by decide +kernel)) (hts (.instanceMethod yX3_init) (by decide +kernel)) rfl (by decide +kernel) ⟨Nat.le_of_ble_eq_true rfl, Nat.le_of_ble_eq_true rfl⟩) (PW.preS3 (Nat.le_refl _) hJ hK hE hP hS) rfl rfl hl.1 rfl (lv_room (Nat.le_of_ble_eq_true rfl)) dL_law_4 ⟨Nat.le_of_ble_eq_true rfl, Nat.le_of_ble_eq_true rfl⟩) hS (fun _ _ h => h) (fun _ h => h) (fun u t H locs ht _ hu hB _ _ hS => ?_)
  obtain ⟨hJ, hB⟩ := hB
  have hP := PB.at hB ht
  refine lv_astore_n (lv' := [(1, .ref qx), (0, .ref b)]) hx hb dL_law_7 rfl hl (by decide) rfl (fun ls hl => ?_)
  refine wx_new (ci := 6) (fs := [.int 0, .int 0, .int 0, .int 0, .int 0, .long 0, .null, .null, .null, .null, .null, .null, .null, .null, .null, .null, .null, .null, .null, .null, .null, .null]) (C := RX4) (T := TX4) (N := 22) hx hb hts0 inX4 tyX4 tyX4_ok hown (hts (.classLink RL 106 RX4) (by decide +kernel)) (hts (.instantiable RX4 22) (by decide +kernel)) (hts (.initialized RX4) (by decide +kernel)) hK hP hJ hS hA rfl (fun j hj => by rcases (show j = 0 ∨ j = 1 ∨ j = 2 ∨ j = 3 ∨ j = 4 ∨ j = 5 ∨ j = 6 ∨ j = 7 ∨ j = 8 ∨ j = 9 ∨ j = 10 ∨ j = 11 ∨ j = 12 ∨ j = 13 ∨ j = 14 ∨ j = 15 ∨ j = 16 ∨ j = 17 ∨ j = 18 ∨ j = 19 ∨ j = 20 ∨ j = 21 by omega) with rfl | rfl | rfl | rfl | rfl | rfl | rfl | rfl | rfl | rfl | rfl | rfl | rfl | rfl | rfl | rfl | rfl | rfl | rfl | rfl | rfl | rfl <;> rfl) (Nat.le_of_ble_eq_true rfl) (Nat.le_of_ble_eq_true rfl) dL_law_8 (fun qm H hP hJ hS => ?_)
  refine lv_dup hx hb dL_law_11 rfl ?_
  refine va_callv (va_runI (As := []) (rest := [.ref qm]) ⟨hx, hb, hml, hown, hts⟩ (kc_X4_init l g s.heap.size (106 + 1) (va_up u 106 qm) (dk g 6 40 u x0) 106 qm (by omega) (va_up_self _ _ _)) (cwI 0 hts gL_law_X4_init rfl rfl rfl (hts (.initialized RX4) (by decide +kernel)) (hts (.methodLink RL 108 yX4_init) (by decide +kernel)) (hts (.instanceMethod yX4_init) (by decide +kernel)) rfl (by decide +kernel) ⟨Nat.le_of_ble_eq_true rfl, Nat.le_of_ble_eq_true rfl⟩) (PW.preS3 (Nat.le_refl _) hJ hK hE hP hS) rfl rfl hl.1 rfl (lv_room (Nat.le_of_ble_eq_true rfl)) dL_law_12 ⟨Nat.le_of_ble_eq_true rfl, Nat.le_of_ble_eq_true rfl⟩) hS (fun _ _ h => h) (fun _ h => h) (fun u9 t9 H locs ht9 _ hu9 hB _ _ hS => ?_)
  obtain ⟨q1, q2, q3, q4, q5, q6, q7, q8, q9, q10, q11, q12, q13, q14, q15, q16, rfl⟩ := hu9
  obtain ⟨hJ, hB⟩ := hB
  have hP := PB.at hB ht9
  refine lv_astore_n (lv' := [(2, .ref qm), (1, .ref qx), (0, .ref b)]) hx hb dL_law_15 rfl hl (by decide) rfl (fun ls hl => ?_)
  refine lv_iconst (v := 1) hx hb dL_law_16 (by decide) ?_
  refine wx_newa (atype := .long) (a0 := (1, .inr (.inl (fun _ => 0)))) (N' := 1) hx hb (hts (.arrayClass .long) (by decide +kernel)) rfl hK hP hJ hS hA (fun _ => rfl) (by decide) (by decide) (by decide) (Nat.le_of_ble_eq_true rfl) (Nat.le_of_ble_eq_true rfl) dL_law_17 (k0 := 4) rfl (fun ql H hP hJ hS => ?_)
  refine lv_astore_n (lv' := [(3, .ref ql), (2, .ref qm), (1, .ref qx), (0, .ref b)]) hx hb dL_law_19 rfl hl (by decide) rfl (fun ls hl => ?_)
  refine lv_iconst (v := 1) hx hb dL_law_20 (by decide) ?_
  refine wx_newa (atype := .double) (a0 := (1, .inr (.inr (.inr (.inl (fun _ => 0)))))) (N' := 1) hx hb (hts (.arrayClass .double) (by decide +kernel)) rfl hK hP hJ hS hA (fun _ => rfl) (by decide) (by decide) (by decide) (Nat.le_of_ble_eq_true rfl) (Nat.le_of_ble_eq_true rfl) dL_law_21 (k0 := 5) rfl (fun qd H hP hJ hS => ?_)
  refine lv_astore (lv' := [(4, .ref qd), (3, .ref ql), (2, .ref qm), (1, .ref qx), (0, .ref b)]) hx hb dL_law_23 hl (by decide) rfl (fun ls hl => ?_)
  refine lv_iconst (v := 0) hx hb dL_law_25 (by decide) ?_
  refine lv_istore (lv' := [(5, .int 0), (4, .ref qd), (3, .ref ql), (2, .ref qm), (1, .ref qx), (0, .ref b)]) hx hb dL_law_26 hl (by decide) rfl (fun ls hl => ?_)
  obtain ⟨L5, hL5⟩ : ∃ z, z = va_up (va_up (ups (va_up u 106 qm) 107 [q1, q2, q3, q4, q5, q6, q7, q8, q9, q10, q11, q12, q13, q14, q15, q16]) 123 ql) 124 qd := ⟨_, rfl⟩
  have hP : va_P g.1 vwCl (wl 125 L5 (cw g L5 x0 (mw g L5 y0 0 (roL g)))) H := by
    rw [hL5]
    exact (wl_congr (fun k hk => ⟨rfl, law_world hk⟩) : wl 125 _ _ = wl 125 (va_up (va_up (ups (va_up u 106 qm) 107 [q1, q2, q3, q4, q5, q6, q7, q8, q9, q10, q11, q12, q13, q14, q15, q16]) 123 ql) 124 qd) (cw g (va_up (va_up (ups (va_up u 106 qm) 107 [q1, q2, q3, q4, q5, q6, q7, q8, q9, q10, q11, q12, q13, q14, q15, q16]) 123 ql) 124 qd) x0 (mw g (va_up (va_up (ups (va_up u 106 qm) 107 [q1, q2, q3, q4, q5, q6, q7, q8, q9, q10, q11, q12, q13, q14, q15, q16]) 123 ql) 124 qd) y0 0 (roL g)))) ▸ hP
  have hJ : wj 125 L5 (fun q : Nat => s.heap.size ≤ q) := by rw [hL5]; exact hJ
  have e0 : L5 0 = qx := by rw [hL5, va_up_ne _ _ (by omega), va_up_ne _ _ (by omega), ups_lt (by omega), va_up_ne _ _ (by omega)]; exact hu
  have e1 : L5 106 = qm := by rw [hL5, va_up_ne _ _ (by omega), va_up_ne _ _ (by omega), ups_lt (by omega), va_up_self]
  have e2 : L5 123 = ql := by rw [hL5, va_up_ne _ _ (by omega), va_up_self]
  have e3 : L5 124 = qd := by rw [hL5, va_up_self]
  have hl : lv_has ls 9 [(0, .ref b), (1, .ref (L5 0)), (2, .ref (L5 106)), (3, .ref (L5 123)), (4, .ref (L5 124)), (5, .int 0)] := by
    rw [e0, e1, e2, e3]
    exact lv_sub hl [5, 4, 3, 2, 1, 0] rfl
  refine W.widen (k := 200) (n := 100000) (Nat.le_of_ble_eq_true rfl) (Nat.le_of_ble_eq_true rfl) ?_
  exact law_loop l hst hL C0 g L5 hJ hK hE (L / 5) 0 (by omega) R2_start out_start (by omega) (by omega) hP hS hl
end LST
