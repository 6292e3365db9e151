/-! THE START: what the tables give; the objects; the switch -/
section STA
theorem arr_of {args : Array Value} {s : State} {ty : FieldType} (h : (Cond.arrayClass ty).before args s = true) : ∃ cA, ArrOfT s cA ty ∧ s.vm.findClass ("[" ++ ty.toString) = some cA := by
  obtain ⟨c, k, comp, h1, h2, h3⟩ := Cond.arrayClass_spec h
  exact ⟨c, fun n z => ⟨fun q h => (by cases h), k, h2, comp, h3⟩, h1⟩
theorem arr_ofq {args : Array Value} {s : State} {C : String} (h : (Cond.arrayOver (.object C)).before args s = true) : ∃ cA, ArrOfT s cA (.object C) ∧ va_RA s cA (.object C) := by
  obtain ⟨comp, c, k, h1, h2, h3, h4, h5⟩ := Cond.arrayOver_spec h
  exact ⟨c, fun n z => ⟨fun q h => (by cases h), k, h3, comp, h4⟩, k, comp, h3, h4, h1, h5⟩
set_option maxRecDepth 100000 in
theorem ss_tab : ∀ q ∈ SS, Cond.stringRef q.1 q.2.1 q.2.2 ∈ tables_1 := by decide +kernel
set_option maxRecDepth 100000 in
theorem ss_nar : ∀ q ∈ SS, Cond.exactly (.string q.1 q.2.1) "java/lang/String" ∈ flatC (Jvm.Cond.and given_1 narrow_1) := by decide +kernel
set_option maxRecDepth 100000 in
theorem nc_nar : ∀ q ∈ NCS, Cond.not (.castable q.1 q.2) ∈ flatC (Jvm.Cond.and given_1 narrow_1) := by decide +kernel
set_option maxRecDepth 100000 in
theorem zu_tab : Cond.laysStatic Bundle.tN zU Bundle.steD ∈ tables_1 ∧ Cond.laysStatic Bundle.tN zN Bundle.listD ∈ tables_1 ∧ Cond.initialized Bundle.tN ∈ tables_1 := by decide +kernel
set_option maxRecDepth 100000 in
theorem zu_nar : Cond.isRef (.static Bundle.tN zU Bundle.steD) ∈ flatC (Jvm.Cond.and given_1 narrow_1) ∧ Cond.isRef (.static Bundle.tN zN Bundle.listD) ∈ flatC (Jvm.Cond.and given_1 narrow_1) := by decide +kernel
theorem ng_of {w : Cond} {args : Array Value} {s : State} (h : isNG w = true) (hb : w.before args s = true) : va_Nw w s := by
  cases w <;> first | exact va_Nw.of rfl hb | cases h | (rename_i t; cases t <;> first | exact va_AO.of hb | cases h)
theorem EE_start {s : State} {b : Nat} (hts : ∀ w ∈ lw_tbl, w.before #[Value.ref b] s = true) (hgv : (Jvm.Cond.and given_1 narrow_1).before #[Value.ref b] s = true) : EE SS (fun q : Nat => s.heap.size ≤ q) s := by
  have ht : ∀ w ∈ tables_1, w.before #[Value.ref b] s = true := fun w h => hts w (List.mem_append_right _ h)
  have hf := flat_of_before _ hgv
  have hA : ∀ a : Nat, a < s.heap.size → ¬ (fun q : Nat => s.heap.size ≤ q) a := fun a h => Nat.not_le.mpr h
  refine ⟨fun w hw => ng_of (List.mem_filter.mp hw).2 (ht w (List.mem_filter.mp hw).1), fun q hq => ?_, vx_Zqof (ht _ zu_tab.1) (ht _ zu_tab.2.2) (hf _ zu_nar.1) hA, vx_Zqof (ht _ zu_tab.2.1) (ht _ zu_tab.2.2) (hf _ zu_nar.2) hA, fun q hq => va_Nc.of (hf _ (nc_nar q hq))⟩
  obtain ⟨a, c, cell, k, h1, -⟩ := Cond.exactly_spec (hf _ (ss_nar q hq))
  exact ⟨a, vk_R.of (ht _ (ss_tab q hq)) h1⟩
set_option maxRecDepth 100000 in
theorem K_start {s : State} {b : Nat} (hts : ∀ w ∈ lw_tbl, w.before #[Value.ref b] s = true) : ∃ g : gE, va_K g.1 vwCl (tysC g) s := by
  obtain ⟨c0, iS0, hKn0⟩ := u_known (C := RJ0) (T := TJ0) (N := 2) (n := 4) hts inJ0 (hts (.instantiable RJ0 4) (by decide +kernel))
  obtain ⟨c1, iS1, hKn1⟩ := u_known (C := RJx00060) (T := TJx00060) (N := 6) (n := 6) hts inJx00060 (hts (.instantiable RJx00060 6) (by decide +kernel))
  obtain ⟨c2, iS2, hKn2⟩ := u_known (C := RX0) (T := TX0) (N := 12) (n := 12) hts inX0 (hts (.instantiable RX0 12) (by decide +kernel))
  obtain ⟨c3, iS3, hKn3⟩ := u_known (C := RX1) (T := TX1) (N := 9) (n := 9) hts inX1 (hts (.instantiable RX1 9) (by decide +kernel))
  obtain ⟨c4, iS4, hKn4⟩ := u_known (C := RX2) (T := TX2) (N := 4) (n := 4) hts inX2 (hts (.instantiable RX2 4) (by decide +kernel))
  obtain ⟨c5, iS5, hKn5⟩ := u_known (C := RX3) (T := TX3) (N := 8) (n := 8) hts inX3 (hts (.instantiable RX3 8) (by decide +kernel))
  obtain ⟨a0, hR0, hF0⟩ := arr_of (hts (.arrayClass .int) (by decide +kernel))
  obtain ⟨a1, hR1, hF1⟩ := arr_ofq (hts (.arrayOver (.object RX0)) (by decide +kernel))
  obtain ⟨a2, hR2, hF2⟩ := arr_ofq (hts (.arrayOver (.object RX1)) (by decide +kernel))
  refine ⟨((fun k => if k = 0 then c0 else if k = 1 then c1 else if k = 2 then c2 else if k = 3 then c3 else if k = 4 then c4 else c5, fun k => if k = 0 then iS0 else if k = 1 then iS1 else if k = 2 then iS2 else if k = 3 then iS3 else if k = 4 then iS4 else iS5), fun k => if k = 0 then a0 else if k = 1 then a1 else a2), fun k q hq => ?_, fun k q hq => ?_⟩
  · match k, hq with
    | 0, hq => cases hq; exact hKn0
    | 1, hq => cases hq; exact hKn1
    | 2, hq => cases hq; exact hKn2
    | 3, hq => cases hq; exact hKn3
    | 4, hq => cases hq; exact hKn4
    | 5, hq => cases hq; exact hKn5
    | k + 6, hq => simp [vwCl] at hq
  · match k, hq with
    | 0, hq => cases hq; exact ⟨hR0, hF0⟩
    | 1, hq => cases hq; exact ⟨hR1, hF1⟩
    | 2, hq => cases hq; exact ⟨hR2, hF2⟩
    | k + 3, hq => simp [tysC] at hq
theorem dk_full {g : gE} {L L' : Nat → Nat} {k : Nat} (h : ∀ j, j < 106 → L' j = L j) (hk : k < 106) : dk g 6 40 L' x0 k = dk g 6 40 L x0 k := by
  by_cases h1 : k = 1
  · subst h1
    rw [dk_1, dk_1]
    congr 7
    funext j
    by_cases hj : j < 6
    · rw [if_pos hj, if_pos hj, h _ (by omega)]
    · rw [if_neg hj, if_neg hj]
  by_cases h2 : k = 2
  · subst h2
    rw [dk_2, dk_2]
    congr 7
    funext j
    by_cases hj : j < 40
    · rw [if_pos hj, if_pos hj, h _ (by omega)]
    · rw [if_neg hj, if_neg hj]
  by_cases h3 : k = 3
  · subst h3
    rw [dk_3, dk_3]
    congr 7
    funext j
    by_cases hj : j < 40
    · rw [if_pos hj, if_pos hj, show (x0 43 0 j).toNatClampNeg = j from nI_clamp (by omega), h _ (by omega)]
    · rw [if_neg hj, if_neg hj]
  exact dk_same h hk (by omega) (fun _ => Or.inr (by omega)) (fun _ => by omega) h1 h2 h3
end STA
