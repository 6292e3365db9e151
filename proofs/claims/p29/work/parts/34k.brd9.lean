/-! SUSPECTS of the two -/
section BR9
theorem ri_nat {x : St} {k nb B : Nat} {d : Int32} (h : ∀ b, b < nb → ∃ u, u ≤ B ∧ x 37 k b = nI u) : ∃ s, s ≤ nb * B ∧ riF x k d nb = nI s := by
  induction nb with
  | zero => exact ⟨0, Nat.zero_le _, rfl⟩
  | succ n ih =>
    obtain ⟨s, h1, h2⟩ := ih (fun b hb => h b (by omega))
    obtain ⟨u, h3, h4⟩ := h n (by omega)
    have e : (n + 1) * B = n * B + B := by rw [Nat.add_mul]; omega
    by_cases h9 : x 10 n 0 = d
    · exact ⟨s + u, by omega, by rw [ri_t h9, h2, h4, nI_add]⟩
    · exact ⟨s, by omega, by rw [ri_f h9, h2]⟩
theorem sub_gt {a b : Nat} (ha : a < 2 ^ 30) (hb : b < 2 ^ 30) : 0 < nI a - nI b ↔ b < a := by
  have e : (nI a - nI b).toInt = (a : Int) - b := by
    rw [Int32.toInt_sub, nI_toInt (by omega), nI_toInt (by omega), Int.bmod_eq_of_le (by omega) (by omega)]
  rw [Int32.lt_iff_toInt_lt, e, i_0]; omega
/-- whose readers are more, or as many and an earlier number -/
def Bv (v : Nat → Nat) (j k : Nat) : Bool := decide (v k < v j ∨ (v j = v k ∧ j < k))
theorem Bv_irr {v : Nat → Nat} (i : Nat) : Bv v i i = false := decide_eq_false (by omega)
theorem Bv_tr {v : Nat → Nat} (i j k : Nat) (h1 : Bv v i j = true) (h2 : Bv v j k = true) : Bv v i k = true := by
  have h1 := of_decide_eq_true h1
  have h2 := of_decide_eq_true h2
  exact decide_eq_true (by omega)
theorem Bv_tot {v : Nat → Nat} (i j : Nat) (h : i ≠ j) : Bv v i j = true ∨ Bv v j i = true := by
  rcases (show (v j < v i ∨ (v i = v j ∧ i < j)) ∨ (v i < v j ∨ (v j = v i ∧ j < i)) by omega) with h | h
  · exact Or.inl (decide_eq_true h)
  · exact Or.inr (decide_eq_true h)
theorem sa_v {x : St} {k nb nn : Nat} {p d : Int32} {S : Nat → Bool} {v : Nat → Nat} (hnn : nn ≤ 40) (hk : k < nn) (hS : ∀ j, j < nn → (suP x j p d nb ↔ S j = true)) (hv : ∀ j, j < nn → v j < 2 ^ 30 ∧ riF x j d nb = nI (v j)) (n : Nat) (hn : n ≤ nn) : saF x k p d nb n = nI (cN (fun j => S j && Bv v j k) n) := by
  induction n with
  | zero => rfl
  | succ n ih =>
    obtain ⟨v1, v2⟩ := hv k hk
    obtain ⟨v3, v4⟩ := hv n (by omega)
    have hP : saP x k p d nb n ↔ (S n && Bv v n k) = true := by
      unfold saP
      rw [hS n (by omega), v2, v4, nI_ltI (by omega) (by omega), nI_eq (by omega) (by omega), nI_leI (by omega) (by omega), Bool.and_eq_true, Nat.not_le]
      unfold Bv
      rw [decide_eq_true_iff]
      exact and_comm
    rw [cN_s]
    by_cases h9 : saP x k p d nb n
    · rw [sa_t h9, ih (by omega), hP.mp h9, nI_1] <;> rfl
    · have h8 : (S n && Bv v n k) = false := by cases h7 : (S n && Bv v n k) with | true => exact absurd (hP.mpr h7) h9 | false => rfl
      rw [sa_f h9, ih (by omega), h8] <;> rfl
theorem saM_v {y : St} {k nb nn : Nat} {p d : Int32} {S : Nat → Bool} {v : Nat → Nat} (hnn : nn ≤ 40) (hk : k < nn) (hS : ∀ j, j < nn → (csP y j p d nb ↔ S j = true)) (hv : ∀ j, j < nn → v j < 2 ^ 30 ∧ riM y j d nb = nI (v j)) : saM y p d nb k nn = nI (cN (fun j => S j && Bv v j k) nn) := by
  refine cnP_cN (fun j hj => ?_)
  obtain ⟨v1, v2⟩ := hv k hk
  obtain ⟨v3, v4⟩ := hv j hj
  unfold saQ
  rw [hS j hj, v2, v4, sub_gt (by omega) (by omega), (sub_lt (by omega) (by omega)).2, nI_leI (by omega) (by omega), Bool.and_eq_true, Nat.not_le]
  unfold Bv
  rw [decide_eq_true_iff]
theorem R2.su {x y : St} {ch : Int64} {nb nn hr t : Nat} (h : R2 x y ch nb nn hr t) (p d : Int32) : ∃ (S : Nat → Bool) (v : Nat → Nat), (∀ k, k < nn → (suP x k p d nb ↔ S k = true) ∧ (csP y k p d nb ↔ S k = true)) ∧ scF x p d nb nn = nI (cN S nn) ∧ msF y p d nb nn = nI (cN S nn) ∧ (∀ k, k < nn → saF x k p d nb nn = nI (cN (fun j => S j && Bv v j k) nn) ∧ saM y p d nb k nn = nI (cN (fun j => S j && Bv v j k) nn)) ∧ ∀ k, k < nn → riF x k d nb = riM y k d nb := by
  have hnb := h.gi.nb6
  have hnn := h.gi.nn40
  obtain ⟨-, -, h3, -, -, ⟨-, h7⟩, h8, -⟩ := h.2
  have hri : ∀ k, k < nn → riF x k d nb = riM y k d nb := fun k hk => ri_eq (fun b hb => ⟨h3 b (by omega), (h8 k (by omega) b (by omega)).1⟩)
  have hbd : ∀ k, k < nn → ∃ s, s < 2 ^ 30 ∧ riF x k d nb = nI s := fun k hk => by
    obtain ⟨s, h1, h2⟩ := ri_nat (x := x) (k := k) (nb := nb) (B := 999 * t) (d := d) (fun b hb => (h8 k (by omega) b (by omega)).2)
    have : nb * (999 * t) ≤ 6 * (999 * 512) := Nat.mul_le_mul hnb (Nat.mul_le_mul_left _ h7)
    exact ⟨s, by omega, h2⟩
  have hv : ∀ j, j < nn → (riF x j d nb).toNatClampNeg < 2 ^ 30 ∧ riF x j d nb = nI (riF x j d nb).toNatClampNeg := fun j hj => by
    obtain ⟨s, h1, h2⟩ := hbd j hj
    rw [h2, nI_clamp (by omega)]
    exact ⟨h1, rfl⟩
  have hS : ∀ k, k < nn → (suP x k p d nb ↔ @decide (csP y k p d nb) (Classical.propDecidable _) = true) ∧ (csP y k p d nb ↔ @decide (csP y k p d nb) (Classical.propDecidable _) = true) := fun k hk => by
    have e := @decide_eq_true_iff (csP y k p d nb) (Classical.propDecidable _)
    exact ⟨(su_iff (h.fl k hk).2.1 (hri k hk)).trans e.symm, e.symm⟩
  refine ⟨fun k => @decide (csP y k p d nb) (Classical.propDecidable _), fun j => (riF x j d nb).toNatClampNeg, hS, ?_, ?_, fun k hk => ⟨?_, ?_⟩, hri⟩
  · rw [scm_eq (y := y) (fun k hk => su_iff (h.fl k hk).2.1 (hri k hk))]
    exact cnP_cN (fun k hk => (hS k hk).2)
  · exact cnP_cN (fun k hk => (hS k hk).2)
  · exact sa_v hnn hk (fun j hj => (hS j hj).1) hv nn (Nat.le_refl _)
  · exact saM_v hnn hk (fun j hj => (hS j hj).2) (fun j hj => by rw [← hri j hj]; exact hv j hj)
theorem sfM_at {y : St} {p d q : Int32} {nb nn k0 : Nat} (h : csP y k0 p d nb ∧ saM y p d nb k0 nn = q) (n : Nat) (hk : k0 < n) (hu : ∀ k, k < n → csP y k p d nb ∧ saM y p d nb k nn = q → k = k0) : sfM y p d q nb nn n = nI k0 := by
  induction n with
  | zero => omega
  | succ n ih =>
    by_cases h9 : csP y n p d nb ∧ saM y p d nb n nn = q
    · rw [← sfM_t h9, hu n (by omega) h9]
    · rw [← sfM_f h9]
      have : k0 ≠ n := fun h8 => h9 (by subst h8; exact h)
      exact ih (by omega) (fun k hk => hu k (by omega))
-- doubles that are numbers, compared with themselves
theorem vn_ok {a : UInt64} (h : vf_n64 a) : V64 a ≠ .nan := by
  unfold vf_n64 at h
  rw [UInt64.le_iff_toNat_le, UInt64.toNat_and] at h
  refine dec_ok ?_
  rw [show (9223372036854775808 : Nat) = 2 ^ 63 from rfl, ← Nat.and_two_pow_sub_one_eq_mod]
  exact h
theorem cmp_i (i : Int) : compare i i = .eq := by simp [compare, compareOfLessAndEq]
theorem cmp9 {a : UInt64} (h : vf_n64 a) (op : CmpOp) : Op.cmpValue (FP.dcmp a a) op = 0 := by
  have h1 : FP.dcmp a a = some .eq := by
    have h2 := vn_ok h
    show FP.Core.order (V64 a) (V64 a) = some .eq
    generalize V64 a = d at h2
    cases d with
    | nan => exact absurd rfl h2
    | inf s => show some (compare _ _) = _; rw [cmp_i]
    | fin s c q => show some (compare _ _) = _; rw [cmp_i]
  rw [h1]; cases op <;> rfl
theorem vfs {f : Nat → UInt64} {k : Nat} {v : UInt64} : vf_upd f k v k = v := by simp [vf_upd]
end BR9
