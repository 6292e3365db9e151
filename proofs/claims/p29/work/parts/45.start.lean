/-! THE START: what the tables give; the objects; the switch -/
section STA
theorem arr_of {args : Array Value} {s : State} {ty : FieldType} (h : (Cond.arrayClass ty).before args s = true) : ∃ cA, ArrOfT s cA ty ∧ s.vm.findClass ("[" ++ ty.toString) = some cA := by
  obtain ⟨c, k, comp, h1, h2, h3⟩ := Cond.arrayClass_spec h
  exact ⟨c, fun n z => ⟨fun q h => (by cases h), k, h2, comp, h3⟩, h1⟩
theorem arr_ofq {args : Array Value} {s : State} {C : String} (h : (Cond.arrayOver (.object C)).before args s = true) : ∃ cA, ArrOfT s cA (.object C) ∧ va_RA s cA (.object C) := by
  obtain ⟨comp, c, k, h1, h2, h3, h4, h5⟩ := Cond.arrayOver_spec h
  exact ⟨c, fun n z => ⟨fun q h => (by cases h), k, h3, comp, h4⟩, k, comp, h3, h4, h1, h5⟩
set_option maxRecDepth 100000 in
theorem ss_tab : ∀ q ∈ SS, Cond.stringRef q.1 q.2.1 q.2.2 ∈ tables_1 := by decide +kernel
set_option maxRecDepth 100000 in
theorem ss_nar : ∀ q ∈ SS, Cond.exactly (.string q.1 q.2.1) "java/lang/String" ∈ flatC (Jvm.Cond.and given_1 narrow_1) := by decide +kernel
set_option maxRecDepth 100000 in
theorem nc_nar : ∀ q ∈ NCS, Cond.not (.castable q.1 q.2) ∈ flatC (Jvm.Cond.and given_1 narrow_1) := by decide +kernel
set_option maxRecDepth 100000 in
theorem zu_tab : Cond.laysStatic Bundle.tN zU Bundle.steD ∈ tables_1 ∧ Cond.laysStatic Bundle.tN zN Bundle.listD ∈ tables_1 ∧ Cond.initialized Bundle.tN ∈ tables_1 := by decide +kernel
set_option maxRecDepth 100000 in
theorem zu_nar : Cond.isRef (.static Bundle.tN zU Bundle.steD) ∈ flatC (Jvm.Cond.and given_1 narrow_1) ∧ Cond.isRef (.static Bundle.tN zN Bundle.listD) ∈ flatC (Jvm.Cond.and given_1 narrow_1) := by decide +kernel
theorem ng_of {w : Cond} {args : Array Value} {s : State} (h : isNG w = true) (hb : w.before args s = true) : va_Nw w s := by
  cases w <;> first | exact va_Nw.of rfl hb | cases h | (rename_i t; cases t <;> first | exact va_AO.of hb | cases h)
theorem EE_start {s : State} {b : Nat} (hts : ∀ w ∈ lw_tbl, w.before #[Value.ref b] s = true) (hgv : (Jvm.Cond.and given_1 narrow_1).before #[Value.ref b] s = true) : EE SS (fun q : Nat => s.heap.size ≤ q) s := by
  have ht : ∀ w ∈ tables_1, w.before #[Value.ref b] s = true := fun w h => hts w (List.mem_append_right _ h)
  have hf := flat_of_before _ hgv
  have hA : ∀ a : Nat, a < s.heap.size → ¬ (fun q : Nat => s.heap.size ≤ q) a := fun a h => Nat.not_le.mpr h
  refine ⟨fun w hw => ng_of (List.mem_filter.mp hw).2 (ht w (List.mem_filter.mp hw).1), fun q hq => ?_, vx_Zqof (ht _ zu_tab.1) (ht _ zu_tab.2.2) (hf _ zu_nar.1) hA, vx_Zqof (ht _ zu_tab.2.1) (ht _ zu_tab.2.2) (hf _ zu_nar.2) hA, fun q hq => va_Nc.of (hf _ (nc_nar q hq))⟩
  obtain ⟨a, c, cell, k, h1, -⟩ := Cond.exactly_spec (hf _ (ss_nar q hq))
  exact ⟨a, vk_R.of (ht _ (ss_tab q hq)) h1⟩
set_option maxRecDepth 100000 in
theorem K_start {s : State} {b : Nat} (hts : ∀ w ∈ lw_tbl, w.before #[Value.ref b] s = true) : ∃ g : gE, va_K g.1 vwCl (tysC g) s := by
  obtain ⟨c0, iS0, hKn0⟩ := u_known (C := RJ0) (T := TJ0) (N := 2) (n := 4) hts inJ0 (hts (.instantiable RJ0 4) (by decide +kernel))
  obtain ⟨c1, iS1, hKn1⟩ := u_known (C := RJx00060) (T := TJx00060) (N := 6) (n := 6) hts inJx00060 (hts (.instantiable RJx00060 6) (by decide +kernel))
  obtain ⟨c2, iS2, hKn2⟩ := u_known (C := RX0) (T := TX0) (N := 12) (n := 12) hts inX0 (hts (.instantiable RX0 12) (by decide +kernel))
  obtain ⟨c3, iS3, hKn3⟩ := u_known (C := RX1) (T := TX1) (N := 9) (n := 9) hts inX1 (hts (.instantiable RX1 9) (by decide +kernel))
  obtain ⟨c4, iS4, hKn4⟩ := u_known (C := RX2) (T := TX2) (N := 4) (n := 4) hts inX2 (hts (.instantiable RX2 4) (by decide +kernel))
  obtain ⟨c5, iS5, hKn5⟩ := u_known (C := RX3) (T := TX3) (N := 8) (n := 8) hts inX3 (hts (.instantiable RX3 8) (by decide +kernel))
  obtain ⟨c6, iS6, hKn6⟩ := u_known (C := RX4) (T := TX4) (N := 22) (n := 22) hts inX4 (hts (.instantiable RX4 22) (by decide +kernel))
  obtain ⟨a0, hR0, hF0⟩ := arr_of (hts (.arrayClass .int) (by decide +kernel))
  obtain ⟨a3, hR3, hF3⟩ := arr_of (hts (.arrayClass .boolean) (by decide +kernel))
  obtain ⟨a4, hR4, hF4⟩ := arr_of (hts (.arrayClass .long) (by decide +kernel))
  obtain ⟨a5, hR5, hF5⟩ := arr_of (hts (.arrayClass .double) (by decide +kernel))
  obtain ⟨a1, hR1, hF1⟩ := arr_ofq (hts (.arrayOver (.object RX0)) (by decide +kernel))
  obtain ⟨a2, hR2, hF2⟩ := arr_ofq (hts (.arrayOver (.object RX1)) (by decide +kernel))
  refine ⟨((fun k => if k = 0 then c0 else if k = 1 then c1 else if k = 2 then c2 else if k = 3 then c3 else if k = 4 then c4 else if k = 5 then c5 else c6, fun k => if k = 0 then iS0 else if k = 1 then iS1 else if k = 2 then iS2 else if k = 3 then iS3 else if k = 4 then iS4 else if k = 5 then iS5 else iS6), fun k => if k = 0 then a0 else if k = 1 then a1 else if k = 2 then a2 else if k = 3 then a3 else if k = 4 then a4 else a5), fun k q hq => ?_, fun k q hq => ?_⟩
  · match k, hq with
    | 0, hq => cases hq; exact hKn0
    | 1, hq => cases hq; exact hKn1
    | 2, hq => cases hq; exact hKn2
    | 3, hq => cases hq; exact hKn3
    | 4, hq => cases hq; exact hKn4
    | 5, hq => cases hq; exact hKn5
    | 6, hq => cases hq; exact hKn6
    | k + 7, hq => simp [vwCl] at hq
  · match k, hq with
    | 0, hq => cases hq; exact ⟨hR0, hF0⟩
    | 1, hq => cases hq; exact ⟨hR1, hF1⟩
    | 2, hq => cases hq; exact ⟨hR2, hF2⟩
    | 3, hq => cases hq; exact ⟨hR3, hF3⟩
    | 4, hq => cases hq; exact ⟨hR4, hF4⟩
    | 5, hq => cases hq; exact ⟨hR5, hF5⟩
    | k + 6, hq => simp [tysC] at hq
theorem dk_full {g : gE} {L L' : Nat → Nat} {k : Nat} (h : ∀ j, j < 106 → L' j = L j) (hk : k < 106) : dk g 6 40 L' x0 k = dk g 6 40 L x0 k := by
  by_cases h1 : k = 1
  · subst h1
    rw [dk_1, dk_1]
    congr 7
    funext j
    by_cases hj : j < 6
    · rw [if_pos hj, if_pos hj, h _ (by omega)]
    · rw [if_neg hj, if_neg hj]
  by_cases h2 : k = 2
  · subst h2
    rw [dk_2, dk_2]
    congr 7
    funext j
    by_cases hj : j < 40
    · rw [if_pos hj, if_pos hj, h _ (by omega)]
    · rw [if_neg hj, if_neg hj]
  by_cases h3 : k = 3
  · subst h3
    rw [dk_3, dk_3]
    congr 7
    funext j
    by_cases hj : j < 40
    · rw [if_pos hj, if_pos hj, show (x0 43 0 j).toNatClampNeg = j from nI_clamp (by omega), h _ (by omega)]
    · rw [if_neg hj, if_neg hj]
  exact dk_same h hk (by omega) (fun _ => Or.inr (by omega)) (fun _ => by omega) h1 h2 h3
def roL (g : gE) : Nat → va_E := fun k => if k = 123 then .inl (g.2 4, 1, .inr (.inl (fun _ => 0))) else .inl (g.2 5, 1, .inr (.inr (.inr (.inl (fun _ => 0)))))
set_option maxHeartbeats 4000000 in
theorem law_world {g : gE} {L : Nat → Nat} {qm ql qd q1 q2 q3 q4 q5 q6 q7 q8 q9 q10 q11 q12 q13 q14 q15 q16 : Nat} {k : Nat} (hk : k < 125) : va_up (va_up (ups (va_up (dk g 6 40 L x0) 106 (.inr (6, [.int 0, .int 0, .int 2, .int 0, .int 0, .long 0, .ref q1, .ref q2, .ref q3, .ref q4, .ref q5, .ref q6, .ref q7, .ref q8, .ref q9, .ref q10, .ref q11, .ref q12, .ref q13, .ref q14, .ref q15, .ref q16]))) 107 [aI g 6 (fun _ => 0), aI g 6 (fun _ => 0), aI g 6 (fun _ => 0), aI g 6 (fun _ => 0), aZ g 6 (fun _ => 0), aZ g 192 (fun _ => 0), aI g 192 (fun _ => 0), aI g 40 (fun _ => 0), aI g 40 (fun _ => 0), aI g 40 (fun _ => 0), aI g 40 (fun _ => 0), aZ g 40 (fun _ => 0), aZ g 40 (fun _ => 0), aZ g 160 (fun _ => 0), aI g 240 (fun _ => 0), aI g 80040 (fun _ => 0)]) 123 (.inl (g.2 4, 1, .inr (.inl (fun _ => 0))))) 124 (.inl (g.2 5, 1, .inr (.inr (.inr (.inl (fun _ => 0)))))) k = cw g (va_up (va_up (ups (va_up L 106 qm) 107 [q1, q2, q3, q4, q5, q6, q7, q8, q9, q10, q11, q12, q13, q14, q15, q16]) 123 ql) 124 qd) x0 (mw g (va_up (va_up (ups (va_up L 106 qm) 107 [q1, q2, q3, q4, q5, q6, q7, q8, q9, q10, q11, q12, q13, q14, q15, q16]) 123 ql) 124 qd) y0 0 (roL g)) k := by
  generalize hL5 : va_up (va_up (ups (va_up L 106 qm) 107 [q1, q2, q3, q4, q5, q6, q7, q8, q9, q10, q11, q12, q13, q14, q15, q16]) 123 ql) 124 qd = L5
  have eL : ∀ j, j < 106 → L5 j = L j := fun j hj => by rw [← hL5, va_up_ne _ _ (by omega), va_up_ne _ _ (by omega), ups_lt (by omega), va_up_ne _ _ (by omega)]
  have eQ : ∀ i q, i < 16 → ([q1, q2, q3, q4, q5, q6, q7, q8, q9, q10, q11, q12, q13, q14, q15, q16] : List Nat)[i]? = some q → L5 (107 + i) = q := fun i q hi h => by rw [← hL5, va_up_ne _ _ (by omega), va_up_ne _ _ (by omega)]; exact ups_at h
  by_cases h1 : k < 106
  · rw [va_up_ne _ _ (by omega), va_up_ne _ _ (by omega), ups_lt (by omega), va_up_ne _ _ (by omega), cw_lt h1]
    exact (dk_full eL h1).symm
  rw [cw_ge (by omega)]
  by_cases h2 : k < 123
  · rw [va_up_ne _ _ (by omega), va_up_ne _ _ (by omega)]
    by_cases h3 : k = 106
    · subst h3
      rw [ups_lt (by omega), va_up_self, mw_o]
      unfold mF
      rw [show L5 107 = q1 from eQ 0 _ (by omega) rfl, show L5 108 = q2 from eQ 1 _ (by omega) rfl, show L5 109 = q3 from eQ 2 _ (by omega) rfl, show L5 110 = q4 from eQ 3 _ (by omega) rfl, show L5 111 = q5 from eQ 4 _ (by omega) rfl, show L5 112 = q6 from eQ 5 _ (by omega) rfl, show L5 113 = q7 from eQ 6 _ (by omega) rfl, show L5 114 = q8 from eQ 7 _ (by omega) rfl, show L5 115 = q9 from eQ 8 _ (by omega) rfl, show L5 116 = q10 from eQ 9 _ (by omega) rfl, show L5 117 = q11 from eQ 10 _ (by omega) rfl, show L5 118 = q12 from eQ 11 _ (by omega) rfl, show L5 119 = q13 from eQ 12 _ (by omega) rfl, show L5 120 = q14 from eQ 13 _ (by omega) rfl, show L5 121 = q15 from eQ 14 _ (by omega) rfl, show L5 122 = q16 from eQ 15 _ (by omega) rfl]
      rfl
    · rw [mw_a (by omega) h2]
      rcases (show k = 107 + 0 ∨ k = 107 + 1 ∨ k = 107 + 2 ∨ k = 107 + 3 ∨ k = 107 + 4 ∨ k = 107 + 5 ∨ k = 107 + 6 ∨ k = 107 + 7 ∨ k = 107 + 8 ∨ k = 107 + 9 ∨ k = 107 + 10 ∨ k = 107 + 11 ∨ k = 107 + 12 ∨ k = 107 + 13 ∨ k = 107 + 14 ∨ k = 107 + 15 by omega) with rfl | rfl | rfl | rfl | rfl | rfl | rfl | rfl | rfl | rfl | rfl | rfl | rfl | rfl | rfl | rfl
      · exact (ups_at rfl).trans rfl
      · exact (ups_at rfl).trans rfl
      · exact (ups_at rfl).trans rfl
      · exact (ups_at rfl).trans rfl
      · exact (ups_at rfl).trans rfl
      · exact (ups_at rfl).trans rfl
      · exact (ups_at rfl).trans rfl
      · exact (ups_at rfl).trans rfl
      · exact (ups_at rfl).trans rfl
      · exact (ups_at rfl).trans rfl
      · exact (ups_at rfl).trans rfl
      · exact (ups_at rfl).trans rfl
      · exact (ups_at rfl).trans rfl
      · exact (ups_at rfl).trans rfl
      · exact (ups_at rfl).trans rfl
      · exact (ups_at rfl).trans rfl
  · rcases (show k = 123 ∨ k = 124 by omega) with rfl | rfl
    · rw [va_up_ne _ _ (by omega), va_up_self]
      rfl
    · rw [va_up_self]
      rfl
end STA
