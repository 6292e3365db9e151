/-! laid by wip/gen -/
/-! THE LAW over fresh objects: one call of each, and the end -/
section LW9
theorem lgc (x : Int64) : lg_cmp x x = 0 := by simp [lg_cmp]
def y0 : St := fun r _ _ => if r = 2 then 2 else 0
theorem PW.preS3 {ss : List (String × Nat × String)} {g : gE} {base n : Nat} {L : Nat → Nat} {w' : Nat → va_E} {s : State} {H : Heap} {locs : List Loc} {As : List Value} (hb : base ≤ s.heap.size) (hJ : wj n L (fun q => base ≤ q)) (hK : va_K g.1 vwCl (tysC g) s) (hE : EE ss (fun q => base ≤ q) s) (hP : va_P g.1 vwCl (wl n L w') H) (hS : va_S (fun q => base ≤ q) s.heap H locs) : PreS s H (va_Pc As (PW ss g base n L w')) As :=
  ⟨PW.blind, fun U hU hW => ⟨rfl, by rw [hU]; exact Nat.le_trans hb hS.1, hJ, by rw [hU]; exact hP, va_K.moved hW.alike hK, hE.next hS hU hW⟩⟩
theorem PW.preV3 {ss : List (String × Nat × String)} {g : gE} {base n : Nat} {L : Nat → Nat} {w' : Nat → va_E} {s : State} {H : Heap} {locs : List Loc} {As : List Value} {sl ci : Nat} {q : vw_C} {fs : List Value} (hb : base ≤ s.heap.size) (hJ : wj n L (fun q => base ≤ q)) (hK : va_K g.1 vwCl (tysC g) s) (hE : EE ss (fun q => base ≤ q) s) (hP : va_P g.1 vwCl (wl n L w') H) (hS : va_S (fun q => base ≤ q) s.heap H locs) (hc : vwCl[ci]? = some q) (hsl : sl < n) (he : w' sl = .inr (ci, fs)) : PreV s H q.1 (L sl) (va_Pc (.ref (L sl) :: As) (PW ss g base n L w')) As :=
  ⟨PW.blind, va_recv hK hP hc (wl_get hsl he), fun U hU hW => ⟨rfl, by rw [hU]; exact Nat.le_trans hb hS.1, hJ, by rw [hU]; exact hP, va_K.moved hW.alike hK, hE.next hS hU hW⟩⟩
set_option maxHeartbeats 4000000 in
set_option maxRecDepth 100000 in
/-- true, from the return's row on -/
theorem law_true {p : Program} {l : Launch} {e : Env} {s : State} {m : MethodId} {below : List Frame} {meth : Method} {c : Code} {b N : Nat} {xs : Nat → Int32} (C0 : lw_At p s m meth c b N xs) {H : Heap} {locs : List Loc} {cells slots : Nat} (h1 : cells ≤ 600006) (h2 : slots ≤ 7302080) (hS : va_S (fun q : Nat => s.heap.size ≤ q) s.heap H locs) {ls : Array Slot} : W p l e room_1 s m #[Value.ref b] below meth c H locs cells slots (lw_Z below #[Value.ref b] s) (F0 m 2034 ls []) := by
  obtain ⟨hx, hb, hr, hml, hown, hts, hX, hbl, hlocks, hgv⟩ := id C0
  refine lv_iconst (v := 1) hx hb dL_law_2034 (by decide) ?_
  refine va_forget (fun q hq => hS.2.2 q hq) ?_
  refine W.widen (k := 600006) (n := 7302080) h1 h2 ?_
  exact lw_ret (d0 := s.drawn) (Drawn.sameBut.refl s.drawn lw_cs) hx hb hr hlocks dL_law_2035
set_option maxHeartbeats 4000000 in
set_option maxRecDepth 100000 in
theorem law_end {p : Program} {l : Launch} {e : Env} {s : State} {m : MethodId} {below : List Frame} {meth : Method} {c : Code} {b : Nat} {xs : Nat → Int32} (C0 : lw_At p s m meth c b 5 xs) {H : Heap} {locs : List Loc} {cells slots : Nat} (h1 : cells ≤ 600006) (h2 : slots ≤ 7302080) (hS : va_S (fun q : Nat => s.heap.size ≤ q) s.heap H locs) {ls : Array Slot} (hl : lv_has ls 9 [(5, .int 0), (0, .ref b)]) : W p l e room_1 s m #[Value.ref b] below meth c H locs cells slots (lw_Z below #[Value.ref b] s) (F0 m 2028 ls []) := by
  obtain ⟨hx, hb, hr, hml, hown, hts, hX, hbl, hlocks, hgv⟩ := id C0
  have hbA : ¬ (fun q : Nat => s.heap.size ≤ q) b := Nat.not_le.mpr hbl
  refine lv_iinc (v := 5) (lv' := [(5, .int 5), (0, .ref b)]) hx hb dL_law_2028 hl (k := 0) rfl (by decide) (by decide) rfl (fun ls hl => ?_)
  refine lv_goto (tgt := 28) hx hb dL_law_2031 (by decide) ?_
  refine lv_iload hx hb dL_law_28 (lv_at hl 0 rfl) ?_
  refine lv_aload_n hx hb dL_law_30 rfl (lv_at hl 1 rfl) ?_
  refine va_slen hx hb hX hbl hbA hS dL_law_31 ?_
  refine lv_iconst (v := 5) hx hb dL_law_32 (by decide) ?_
  refine lv_isub hx hb dL_law_33 ?_
  refine lv_icmp_gt (tgt := 2034) hx hb dL_law_34 (by decide) (fun _ => ?_) (fun c9 => absurd (by decide) c9)
  exact law_true C0 h1 h2 hS
end LW9
