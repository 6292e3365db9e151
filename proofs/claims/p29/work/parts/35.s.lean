/-! laid by wip/gen -/
/-! EACH CALL keeps the relation -/
section SIM
def outOK (g : gE) (ro : Nat → va_E) : Prop := (∃ f : Nat → Int64, ro 123 = .inl (g.2 4, 1, .inr (.inl f))) ∧ ∃ f : Nat → UInt64, ro 124 = .inl (g.2 5, 1, .inr (.inr (.inr (.inl f))))
theorem outOK.l {g : gE} {ro : Nat → va_E} {f : Nat → Int64} {v : Int64} (h : outOK g ro) : outOK g (va_up ro 123 (oL g f v)) := ⟨⟨_, va_up_self _ _ _⟩, by obtain ⟨f2, e⟩ := h.2; exact ⟨f2, (va_up_ne _ _ (by decide)).trans e⟩⟩
theorem outOK.d {g : gE} {ro : Nat → va_E} {f : Nat → UInt64} {v : UInt64} (h : outOK g ro) : outOK g (va_up ro 124 (oD g f v)) := ⟨by obtain ⟨f2, e⟩ := h.1; exact ⟨f2, (va_up_ne _ _ (by decide)).trans e⟩, ⟨_, va_up_self _ _ _⟩⟩
theorem st00 {y : St} {v : Int32} : st y 0 0 0 v 0 0 0 = v := st_eq
theorem sle {a b : Int32} (h : ¬ a ≤ b) (hb : b.toInt < 2147483647) : (b + 1).toInt ≤ a.toInt := by
  have h1 : b < a := Int32.not_le.mp h
  rw [Int32.lt_iff_toInt_lt] at h1
  rw [Int32.toInt_add]
  have h2 := b.le_toInt
  rw [show (1 : Int32).toInt = 1 from rfl, Int.bmod_eq_of_le (by omega) (by omega)]
  omega
theorem sle2 {a b : Int32} (h : (b + 1).toInt ≤ a.toInt) (hb : b.toInt < 2147483647) (hb2 : 0 ≤ b.toInt) : ¬ a ≤ b := by
  rw [Int32.toInt_add, show (1 : Int32).toInt = 1 from rfl, Int.bmod_eq_of_le (by omega) (by omega)] at h
  rw [Int32.le_iff_toInt_le]
  omega

theorem s_charge {x y : St} {ch : Int64} {nb nn hr t : Nat} {g : gE} {r0 : Nat → va_E} {f : Nat → Int64} {p0 : Int32} {r : Int32} {u : St × (Nat → va_E)} {r2 : Int32} {w : MS} (ht : t < 512) (hR0 : R2 x y ch nb nn hr t) (ho : outOK g r0) (hc : (fun (r : Int32) (u : St × (Nat → va_E)) => (r = 0 ∧ ∃ v : Int32, (fun (r : Int32) (_ : Unit) => ∃ j, j < nb ∧ p0 = nI j ∧ r = x 11 j 0) v () ∧ u.1 = x ∧ u.2 = va_up r0 123 (oL g f v.toInt64)) ∨ (r = 1 ∧ (fun E => E = "java/lang/IndexOutOfBoundsException" ∧ (p0.toInt < 0 ∨ nb ≤ p0.toInt)) "java/lang/IndexOutOfBoundsException" ∧ u = (x, r0))) r u) (hm : (fun (r : Int32) (u : MS) => ((p0.toInt < 0 ∨ nb ≤ p0.toInt) ∧ u = (st (st y 0 0 0 0) 0 0 0 1, ch)) ∨ (∃ j, j < nb ∧ p0 = nI j ∧ u = (st y 0 0 0 0, ch) ∧ r = st y 0 0 0 0 11 0 j)) r2 w) : (∃ nb2 nn2 hr2, R2 u.1 w.1 w.2 nb2 nn2 hr2 (t + 1)) ∧ outOK g u.2 := by
  have hR := hR0.up ht
  refine ⟨?_, by rcases hc with ⟨-, v, -, -, h⟩ | ⟨-, -, h⟩ <;> (first | (rw [h]; exact ho.l) | (rw [h]; exact ho))⟩
  have hx : u.1 = x := by rcases hc with ⟨-, v, -, h, -⟩ | ⟨-, -, h⟩ <;> (first | exact h | rw [h])
  rw [hx]
  rcases hm with ⟨-, rfl⟩ | ⟨_, -, -, rfl, -⟩ <;> first | exact ⟨_, _, _, hR.tz⟩ | exact ⟨_, _, _, hR.tz.tz⟩
theorem s_cell {x y : St} {ch : Int64} {nb nn hr t : Nat} {g : gE} {r0 : Nat → va_E} {f : Nat → Int64} {p0 p1 p2 : Int32} {r : Int32} {u : St × (Nat → va_E)} {r2 : Int32} {w : MS} (ht : t < 512) (hR0 : R2 x y ch nb nn hr t) (ho : outOK g r0) (hc : (fun (r : Int32) (u : St × (Nat → va_E)) => (r = 0 ∧ ∃ v : Int32, (fun (r : Int32) (_ : Unit) => ∃ j, j < nb ∧ p0 = nI j ∧ (0 ≤ p1.toInt ∧ p1.toInt < 8 ∧ 0 ≤ p2.toInt ∧ p2.toInt < 4) ∧ r = bitF (x 15 j 0) (8 * p2 + p1)) v () ∧ u.1 = x ∧ u.2 = va_up r0 123 (oL g f v.toInt64)) ∨ (r = 1 ∧ (fun E => E = "java/lang/IndexOutOfBoundsException" ∧ ((p0.toInt < 0 ∨ nb ≤ p0.toInt) ∨ ¬ (0 ≤ p1.toInt ∧ p1.toInt < 8 ∧ 0 ≤ p2.toInt ∧ p2.toInt < 4))) "java/lang/IndexOutOfBoundsException" ∧ u = (x, r0))) r u) (hm : (fun (r : Int32) (u : MS) => ((((p0.toInt < 0 ∨ nb ≤ p0.toInt) ∨ ¬ (0 ≤ p1.toInt ∧ p1.toInt < 8 ∧ 0 ≤ p2.toInt ∧ p2.toInt < 4))) ∧ u = (st (st y 0 0 0 0) 0 0 0 1, ch)) ∨ (∃ j, j < nb ∧ p0 = nI j ∧ ∃ c, c < 8 ∧ p1 = nI c ∧ ∃ q, q < 4 ∧ p2 = nI q ∧ u = (st y 0 0 0 0, ch) ∧ r = if st y 0 0 0 0 15 0 (32 * j + 8 * q + c) = 0 then 0 else 1)) r2 w) : (∃ nb2 nn2 hr2, R2 u.1 w.1 w.2 nb2 nn2 hr2 (t + 1)) ∧ outOK g u.2 := by
  have hR := hR0.up ht
  refine ⟨?_, by rcases hc with ⟨-, v, -, -, h⟩ | ⟨-, -, h⟩ <;> (first | (rw [h]; exact ho.l) | (rw [h]; exact ho))⟩
  have hx : u.1 = x := by rcases hc with ⟨-, v, -, h, -⟩ | ⟨-, -, h⟩ <;> (first | exact h | rw [h])
  rw [hx]
  rcases hm with ⟨-, rfl⟩ | ⟨_, -, -, _, -, -, _, -, -, rfl, -⟩ <;> first | exact ⟨_, _, _, hR.tz⟩ | exact ⟨_, _, _, hR.tz.tz⟩
theorem s_wear {x y : St} {ch : Int64} {nb nn hr t : Nat} {g : gE} {r0 : Nat → va_E} {f : Nat → Int64} {p0 p1 p2 : Int32} {r : Int32} {u : St × (Nat → va_E)} {r2 : Int32} {w : MS} (ht : t < 512) (hR0 : R2 x y ch nb nn hr t) (ho : outOK g r0) (hc : (fun (r : Int32) (u : St × (Nat → va_E)) => (r = 0 ∧ ∃ v : Int32, (fun (r : Int32) (_ : Unit) => ∃ j, j < nb ∧ p0 = nI j ∧ (0 ≤ p1.toInt ∧ p1.toInt < 8 ∧ 0 ≤ p2.toInt ∧ p2.toInt < 4) ∧ r = wearF x j (8 * p2 + p1)) v () ∧ u.1 = x ∧ u.2 = va_up r0 123 (oL g f v.toInt64)) ∨ (r = 1 ∧ (fun E => E = "java/lang/IndexOutOfBoundsException" ∧ ((p0.toInt < 0 ∨ nb ≤ p0.toInt) ∨ ¬ (0 ≤ p1.toInt ∧ p1.toInt < 8 ∧ 0 ≤ p2.toInt ∧ p2.toInt < 4))) "java/lang/IndexOutOfBoundsException" ∧ u = (x, r0))) r u) (hm : (fun (r : Int32) (u : MS) => ((((p0.toInt < 0 ∨ nb ≤ p0.toInt) ∨ ¬ (0 ≤ p1.toInt ∧ p1.toInt < 8 ∧ 0 ≤ p2.toInt ∧ p2.toInt < 4))) ∧ u = (st (st y 0 0 0 0) 0 0 0 1, ch)) ∨ (∃ j, j < nb ∧ p0 = nI j ∧ ∃ c, c < 8 ∧ p1 = nI c ∧ ∃ q, q < 4 ∧ p2 = nI q ∧ u = (st y 0 0 0 0, ch) ∧ r = st y 0 0 0 0 16 0 (32 * j + 8 * q + c))) r2 w) : (∃ nb2 nn2 hr2, R2 u.1 w.1 w.2 nb2 nn2 hr2 (t + 1)) ∧ outOK g u.2 := by
  have hR := hR0.up ht
  refine ⟨?_, by rcases hc with ⟨-, v, -, -, h⟩ | ⟨-, -, h⟩ <;> (first | (rw [h]; exact ho.l) | (rw [h]; exact ho))⟩
  have hx : u.1 = x := by rcases hc with ⟨-, v, -, h, -⟩ | ⟨-, -, h⟩ <;> (first | exact h | rw [h])
  rw [hx]
  rcases hm with ⟨-, rfl⟩ | ⟨_, -, -, _, -, -, _, -, -, rfl, -⟩ <;> first | exact ⟨_, _, _, hR.tz⟩ | exact ⟨_, _, _, hR.tz.tz⟩
theorem s_shows {x y : St} {ch : Int64} {nb nn hr t : Nat} {g : gE} {r0 : Nat → va_E} {f : Nat → Int64} {p0 : Int32} {r : Int32} {u : St × (Nat → va_E)} {r2 : Int32} {w : MS} (ht : t < 512) (hR0 : R2 x y ch nb nn hr t) (ho : outOK g r0) (hc : (fun (r : Int32) (u : St × (Nat → va_E)) => (r = 0 ∧ ∃ v : Int32, (fun (r : Int32) (_ : Unit) => ∃ j, j < nb ∧ p0 = nI j ∧ r = x 12 j 0) v () ∧ u.1 = x ∧ u.2 = va_up r0 123 (oL g f v.toInt64)) ∨ (r = 1 ∧ (fun E => E = "java/lang/IndexOutOfBoundsException" ∧ (p0.toInt < 0 ∨ nb ≤ p0.toInt)) "java/lang/IndexOutOfBoundsException" ∧ u = (x, r0))) r u) (hm : (fun (r : Int32) (u : MS) => ((p0.toInt < 0 ∨ nb ≤ p0.toInt) ∧ u = (st (st y 0 0 0 0) 0 0 0 1, ch)) ∨ (∃ j, j < nb ∧ p0 = nI j ∧ u = (st y 0 0 0 0, ch) ∧ r = st y 0 0 0 0 12 0 j)) r2 w) : (∃ nb2 nn2 hr2, R2 u.1 w.1 w.2 nb2 nn2 hr2 (t + 1)) ∧ outOK g u.2 := by
  have hR := hR0.up ht
  refine ⟨?_, by rcases hc with ⟨-, v, -, -, h⟩ | ⟨-, -, h⟩ <;> (first | (rw [h]; exact ho.l) | (rw [h]; exact ho))⟩
  have hx : u.1 = x := by rcases hc with ⟨-, v, -, h, -⟩ | ⟨-, -, h⟩ <;> (first | exact h | rw [h])
  rw [hx]
  rcases hm with ⟨-, rfl⟩ | ⟨_, -, -, rfl, -⟩ <;> first | exact ⟨_, _, _, hR.tz⟩ | exact ⟨_, _, _, hR.tz.tz⟩
theorem s_shift {x y : St} {ch : Int64} {nb nn hr t : Nat} {g : gE} {r0 : Nat → va_E} {f : Nat → Int64} {p0 : Int32} {r : Int32} {u : St × (Nat → va_E)} {r2 : Int32} {w : MS} (ht : t < 512) (hR0 : R2 x y ch nb nn hr t) (ho : outOK g r0) (hc : (fun (r : Int32) (u : St × (Nat → va_E)) => (r = 0 ∧ ∃ v : Int32, (fun (r : Int32) (_ : Unit) => ∃ j, j < nb ∧ p0 = nI j ∧ r = x 13 j 0) v () ∧ u.1 = x ∧ u.2 = va_up r0 123 (oL g f v.toInt64)) ∨ (r = 1 ∧ (fun E => E = "java/lang/IndexOutOfBoundsException" ∧ (p0.toInt < 0 ∨ nb ≤ p0.toInt)) "java/lang/IndexOutOfBoundsException" ∧ u = (x, r0))) r u) (hm : (fun (r : Int32) (u : MS) => ((p0.toInt < 0 ∨ nb ≤ p0.toInt) ∧ u = (st (st y 0 0 0 0) 0 0 0 1, ch)) ∨ (∃ j, j < nb ∧ p0 = nI j ∧ u = (st y 0 0 0 0, ch) ∧ r = st y 0 0 0 0 13 0 j)) r2 w) : (∃ nb2 nn2 hr2, R2 u.1 w.1 w.2 nb2 nn2 hr2 (t + 1)) ∧ outOK g u.2 := by
  have hR := hR0.up ht
  refine ⟨?_, by rcases hc with ⟨-, v, -, -, h⟩ | ⟨-, -, h⟩ <;> (first | (rw [h]; exact ho.l) | (rw [h]; exact ho))⟩
  have hx : u.1 = x := by rcases hc with ⟨-, v, -, h, -⟩ | ⟨-, -, h⟩ <;> (first | exact h | rw [h])
  rw [hx]
  rcases hm with ⟨-, rfl⟩ | ⟨_, -, -, rfl, -⟩ <;> first | exact ⟨_, _, _, hR.tz⟩ | exact ⟨_, _, _, hR.tz.tz⟩
theorem s_sleeps {x y : St} {ch : Int64} {nb nn hr t : Nat} {g : gE} {r0 : Nat → va_E} {f : Nat → Int64} {p0 : Int32} {r : Int32} {u : St × (Nat → va_E)} {r2 : Int32} {w : MS} (ht : t < 512) (hR0 : R2 x y ch nb nn hr t) (ho : outOK g r0) (hc : (fun (r : Int32) (u : St × (Nat → va_E)) => (r = 0 ∧ ∃ v : Int32, (fun (r : Int32) (_ : Unit) => ∃ j, j < nb ∧ p0 = nI j ∧ r = x 14 j 0) v () ∧ u.1 = x ∧ u.2 = va_up r0 123 (oL g f (if v = 0 then 0 else 1))) ∨ (r = 1 ∧ (fun E => E = "java/lang/IndexOutOfBoundsException" ∧ (p0.toInt < 0 ∨ nb ≤ p0.toInt)) "java/lang/IndexOutOfBoundsException" ∧ u = (x, r0))) r u) (hm : (fun (r : Int32) (u : MS) => ((p0.toInt < 0 ∨ nb ≤ p0.toInt) ∧ u = (st (st y 0 0 0 0) 0 0 0 1, ch)) ∨ (∃ j, j < nb ∧ p0 = nI j ∧ u = (st y 0 0 0 0, ch) ∧ r = if st y 0 0 0 0 14 0 j = 0 then 0 else 1)) r2 w) : (∃ nb2 nn2 hr2, R2 u.1 w.1 w.2 nb2 nn2 hr2 (t + 1)) ∧ outOK g u.2 := by
  have hR := hR0.up ht
  refine ⟨?_, by rcases hc with ⟨-, v, -, -, h⟩ | ⟨-, -, h⟩ <;> (first | (rw [h]; exact ho.l) | (rw [h]; exact ho))⟩
  have hx : u.1 = x := by rcases hc with ⟨-, v, -, h, -⟩ | ⟨-, -, h⟩ <;> (first | exact h | rw [h])
  rw [hx]
  rcases hm with ⟨-, rfl⟩ | ⟨_, -, -, rfl, -⟩ <;> first | exact ⟨_, _, _, hR.tz⟩ | exact ⟨_, _, _, hR.tz.tz⟩
theorem s_queued {x y : St} {ch : Int64} {nb nn hr t : Nat} {g : gE} {r0 : Nat → va_E} {f : Nat → Int64} {p0 : Int32} {r : Int32} {u : St × (Nat → va_E)} {r2 : Int32} {w : MS} (ht : t < 512) (hR0 : R2 x y ch nb nn hr t) (ho : outOK g r0) (hc : (fun (r : Int32) (u : St × (Nat → va_E)) => (r = 0 ∧ ∃ v : Int32, (fun (r : Int32) (_ : Unit) => (0 ≤ p0.toInt ∧ p0.toInt ≤ 3) ∧ r = qcF x p0 nn) v () ∧ u.1 = x ∧ u.2 = va_up r0 123 (oL g f v.toInt64)) ∨ (r = 1 ∧ (fun E => E = "java/lang/IllegalArgumentException" ∧ (p0.toInt < 0 ∨ 3 < p0.toInt)) "java/lang/IllegalArgumentException" ∧ u = (x, r0))) r u) (hm : (fun (r : Int32) (u : MS) => ((p0.toInt < 0 ∨ 3 < p0.toInt) ∧ u = (st (st y 0 0 0 0) 0 0 0 1, ch)) ∨ (∃ d, d < 4 ∧ p0 = nI d ∧ u = (st y 0 0 0 0, ch) ∧ r = mqF (st y 0 0 0 0) d nn)) r2 w) : (∃ nb2 nn2 hr2, R2 u.1 w.1 w.2 nb2 nn2 hr2 (t + 1)) ∧ outOK g u.2 := by
  have hR := hR0.up ht
  refine ⟨?_, by rcases hc with ⟨-, v, -, -, h⟩ | ⟨-, -, h⟩ <;> (first | (rw [h]; exact ho.l) | (rw [h]; exact ho))⟩
  have hx : u.1 = x := by rcases hc with ⟨-, v, -, h, -⟩ | ⟨-, -, h⟩ <;> (first | exact h | rw [h])
  rw [hx]
  rcases hm with ⟨-, rfl⟩ | ⟨_, -, -, rfl, -⟩ <;> first | exact ⟨_, _, _, hR.tz⟩ | exact ⟨_, _, _, hR.tz.tz⟩
theorem s_queuedAt {x y : St} {ch : Int64} {nb nn hr t : Nat} {g : gE} {r0 : Nat → va_E} {f : Nat → Int64} {p0 p1 : Int32} {r : Int32} {u : St × (Nat → va_E)} {r2 : Int32} {w : MS} (ht : t < 512) (hR0 : R2 x y ch nb nn hr t) (ho : outOK g r0) (hc : (fun (r : Int32) (u : St × (Nat → va_E)) => (r = 0 ∧ ∃ v : Int32, (fun (r : Int32) (_ : Unit) => (0 ≤ p0.toInt ∧ p0.toInt ≤ 3) ∧ ∃ k, k < nn ∧ (qcP x (x 43 0 k).toNatClampNeg p0 ∧ qrF x p0 k = p1) ∧ r = nI (x 43 0 k).toNatClampNeg ∧ ∀ j, j < k → ¬ (qcP x (x 43 0 j).toNatClampNeg p0 ∧ qrF x p0 j = p1)) v () ∧ u.1 = x ∧ u.2 = va_up r0 123 (oL g f v.toInt64)) ∨ (r = 1 ∧ (fun E => (E = "java/lang/IllegalArgumentException" ∧ (p0.toInt < 0 ∨ 3 < p0.toInt)) ∨ (E = "java/lang/IndexOutOfBoundsException" ∧ (0 ≤ p0.toInt ∧ p0.toInt ≤ 3) ∧ ∀ j, j < nn → ¬ (qcP x (x 43 0 j).toNatClampNeg p0 ∧ qrF x p0 j = p1))) "java/lang/IllegalArgumentException" ∧ u = (x, r0)) ∨ (r = 2 ∧ (fun E => (E = "java/lang/IllegalArgumentException" ∧ (p0.toInt < 0 ∨ 3 < p0.toInt)) ∨ (E = "java/lang/IndexOutOfBoundsException" ∧ (0 ≤ p0.toInt ∧ p0.toInt ≤ 3) ∧ ∀ j, j < nn → ¬ (qcP x (x 43 0 j).toNatClampNeg p0 ∧ qrF x p0 j = p1))) "java/lang/IndexOutOfBoundsException" ∧ u = (x, r0))) r u) (hm : (fun (r : Int32) (u : MS) => ((p0.toInt < 0 ∨ 3 < p0.toInt) ∧ u = (st (st y 0 0 0 0) 0 0 0 1, ch)) ∨ (∃ d, d < 4 ∧ p0 = nI d ∧ ((¬ ((0 : Int32).toInt ≤ p1.toInt ∧ p1.toInt ≤ (mqF (st y 0 0 0 0) d nn - 1).toInt) ∧ u = (st (st y 0 0 0 0) 0 0 0 2, ch)) ∨ (((0 : Int32).toInt ≤ p1.toInt ∧ p1.toInt ≤ (mqF (st y 0 0 0 0) d nn - 1).toInt) ∧ u = (st y 0 0 0 0, ch) ∧ r = iqO (st y 0 0 0 0) d nn 11 p1)))) r2 w) : (∃ nb2 nn2 hr2, R2 u.1 w.1 w.2 nb2 nn2 hr2 (t + 1)) ∧ outOK g u.2 := by
  have hR := hR0.up ht
  refine ⟨?_, by rcases hc with ⟨-, v, -, -, h⟩ | ⟨-, -, h⟩ | ⟨-, -, h⟩ <;> (first | (rw [h]; exact ho.l) | (rw [h]; exact ho))⟩
  have hx : u.1 = x := by rcases hc with ⟨-, v, -, h, -⟩ | ⟨-, -, h⟩ | ⟨-, -, h⟩ <;> (first | exact h | rw [h])
  rw [hx]
  rcases hm with ⟨-, rfl⟩ | ⟨_, -, -, ⟨-, rfl⟩ | ⟨-, rfl, -⟩⟩ <;> first | exact ⟨_, _, _, hR.tz⟩ | exact ⟨_, _, _, hR.tz.tz⟩
theorem s_isDue {x y : St} {ch : Int64} {nb nn hr t : Nat} {g : gE} {r0 : Nat → va_E} {f : Nat → Int64} {p0 : Int32} {r : Int32} {u : St × (Nat → va_E)} {r2 : Int32} {w : MS} (ht : t < 512) (hR0 : R2 x y ch nb nn hr t) (ho : outOK g r0) (hc : (fun (r : Int32) (u : St × (Nat → va_E)) => (r = 0 ∧ ∃ v : Int32, (fun (r : Int32) (_ : Unit) => ∃ j, j < nn ∧ p0 = nI j ∧ ((r = 1 ∧ (x 32 j 0 ≤ x 3 0 0 ∧ x 3 0 0 < x 33 j 0)) ∨ (r = 0 ∧ ¬ ((x 32 j 0 ≤ x 3 0 0 ∧ x 3 0 0 < x 33 j 0))))) v () ∧ u.1 = x ∧ u.2 = va_up r0 123 (oL g f (if v = 0 then 0 else 1))) ∨ (r = 1 ∧ (fun E => E = "java/lang/IndexOutOfBoundsException" ∧ (p0.toInt < 0 ∨ nn ≤ p0.toInt)) "java/lang/IndexOutOfBoundsException" ∧ u = (x, r0))) r u) (hm : (fun (r : Int32) (u : MS) => ((p0.toInt < 0 ∨ nn ≤ p0.toInt) ∧ u = (st (st y 0 0 0 0) 0 0 0 1, ch)) ∨ (∃ j, j < nn ∧ p0 = nI j ∧ u = (st y 0 0 0 0, ch) ∧ ((r = 1 ∧ duP (st y 0 0 0 0) j) ∨ (r = 0 ∧ ¬ (duP (st y 0 0 0 0) j))))) r2 w) : (∃ nb2 nn2 hr2, R2 u.1 w.1 w.2 nb2 nn2 hr2 (t + 1)) ∧ outOK g u.2 := by
  have hR := hR0.up ht
  refine ⟨?_, by rcases hc with ⟨-, v, -, -, h⟩ | ⟨-, -, h⟩ <;> (first | (rw [h]; exact ho.l) | (rw [h]; exact ho))⟩
  have hx : u.1 = x := by rcases hc with ⟨-, v, -, h, -⟩ | ⟨-, -, h⟩ <;> (first | exact h | rw [h])
  rw [hx]
  rcases hm with ⟨-, rfl⟩ | ⟨_, -, -, rfl, -⟩ <;> first | exact ⟨_, _, _, hR.tz⟩ | exact ⟨_, _, _, hR.tz.tz⟩
theorem s_readers {x y : St} {ch : Int64} {nb nn hr t : Nat} {g : gE} {r0 : Nat → va_E} {f : Nat → Int64} {p0 p1 : Int32} {r : Int32} {u : St × (Nat → va_E)} {r2 : Int32} {w : MS} (ht : t < 512) (hR0 : R2 x y ch nb nn hr t) (ho : outOK g r0) (hc : (fun (r : Int32) (u : St × (Nat → va_E)) => (r = 0 ∧ ∃ v : Int32, (fun (r : Int32) (_ : Unit) => ∃ j, j < nn ∧ p0 = nI j ∧ (0 ≤ p1.toInt ∧ p1.toInt ≤ 3) ∧ r = riF x j p1 nb) v () ∧ u.1 = x ∧ u.2 = va_up r0 123 (oL g f v.toInt64)) ∨ (r = 1 ∧ (fun E => (E = "java/lang/IndexOutOfBoundsException" ∧ (p0.toInt < 0 ∨ nn ≤ p0.toInt)) ∨ (E = "java/lang/IllegalArgumentException" ∧ (∃ j, j < nn ∧ p0 = nI j) ∧ (p1.toInt < 0 ∨ 3 < p1.toInt))) "java/lang/IndexOutOfBoundsException" ∧ u = (x, r0)) ∨ (r = 2 ∧ (fun E => (E = "java/lang/IndexOutOfBoundsException" ∧ (p0.toInt < 0 ∨ nn ≤ p0.toInt)) ∨ (E = "java/lang/IllegalArgumentException" ∧ (∃ j, j < nn ∧ p0 = nI j) ∧ (p1.toInt < 0 ∨ 3 < p1.toInt))) "java/lang/IllegalArgumentException" ∧ u = (x, r0))) r u) (hm : (fun (r : Int32) (u : MS) => ((p0.toInt < 0 ∨ nn ≤ p0.toInt) ∧ u = (st (st y 0 0 0 0) 0 0 0 1, ch)) ∨ (∃ j, j < nn ∧ p0 = nI j ∧ (((p1.toInt < 0 ∨ 3 < p1.toInt) ∧ u = (st (st y 0 0 0 0) 0 0 0 2, ch)) ∨ ((0 ≤ p1.toInt ∧ p1.toInt ≤ 3) ∧ u = (st y 0 0 0 0, ch) ∧ r = riM (st y 0 0 0 0) j p1 nb)))) r2 w) : (∃ nb2 nn2 hr2, R2 u.1 w.1 w.2 nb2 nn2 hr2 (t + 1)) ∧ outOK g u.2 := by
  have hR := hR0.up ht
  refine ⟨?_, by rcases hc with ⟨-, v, -, -, h⟩ | ⟨-, -, h⟩ | ⟨-, -, h⟩ <;> (first | (rw [h]; exact ho.l) | (rw [h]; exact ho))⟩
  have hx : u.1 = x := by rcases hc with ⟨-, v, -, h, -⟩ | ⟨-, -, h⟩ | ⟨-, -, h⟩ <;> (first | exact h | rw [h])
  rw [hx]
  rcases hm with ⟨-, rfl⟩ | ⟨_, -, -, ⟨-, rfl⟩ | ⟨-, rfl, -⟩⟩ <;> first | exact ⟨_, _, _, hR.tz⟩ | exact ⟨_, _, _, hR.tz.tz⟩
theorem s_readIn {x y : St} {ch : Int64} {nb nn hr t : Nat} {g : gE} {r0 : Nat → va_E} {f : Nat → Int64} {p0 p1 : Int32} {cnt : Nat} {r : Int32} {u : St × (Nat → va_E)} {r2 : Int32} {w : MS} (ht : t < 512) (hR0 : R2 x y ch nb nn hr t) (ho : outOK g r0) (hcn : cnt ≤ 512) (hx4 : x 4 0 0 = nI cnt) (hc : (fun (r : Int32) (u : St × (Nat → va_E)) => (r = 0 ∧ ∃ v : Int32, (fun (r : Int32) (_ : Unit) => ∃ j, j < nn ∧ p0 = nI j ∧ r = poF x (nI j) p1 cnt) v () ∧ u.1 = x ∧ u.2 = va_up r0 123 (oL g f v.toInt64)) ∨ (r = 1 ∧ (fun E => E = "java/lang/IndexOutOfBoundsException" ∧ (p0.toInt < 0 ∨ nn ≤ p0.toInt)) "java/lang/IndexOutOfBoundsException" ∧ u = (x, r0))) r u) (hm : (fun (r : Int32) (u : MS) => ((p0.toInt < 0 ∨ nn ≤ p0.toInt) ∧ u = (st (st y 0 0 0 0) 0 0 0 1, ch)) ∨ (∃ j, j < nn ∧ p0 = nI j ∧ u = (st y 0 0 0 0, ch) ∧ ((¬ (0 ≤ p1.toInt ∧ p1.toInt ≤ 2000) ∧ r = 0) ∨ (∃ h, h ≤ 2000 ∧ p1 = nI h ∧ r = (st y 0 0 0 0) 25 0 (2001 * j + h))))) r2 w) : (∃ nb2 nn2 hr2, R2 u.1 w.1 w.2 nb2 nn2 hr2 (t + 1)) ∧ outOK g u.2 := by
  have hR := hR0.up ht
  refine ⟨?_, by rcases hc with ⟨-, v, -, -, h⟩ | ⟨-, -, h⟩ <;> (first | (rw [h]; exact ho.l) | (rw [h]; exact ho))⟩
  have hx : u.1 = x := by rcases hc with ⟨-, v, -, h, -⟩ | ⟨-, -, h⟩ <;> (first | exact h | rw [h])
  rw [hx]
  rcases hm with ⟨-, rfl⟩ | ⟨_, -, -, rfl, -⟩ <;> first | exact ⟨_, _, _, hR.tz⟩ | exact ⟨_, _, _, hR.tz.tz⟩
theorem s_suspects {x y : St} {ch : Int64} {nb nn hr t : Nat} {g : gE} {r0 : Nat → va_E} {f : Nat → Int64} {p0 p1 : Int32} {r : Int32} {u : St × (Nat → va_E)} {r2 : Int32} {w : MS} (ht : t < 512) (hR0 : R2 x y ch nb nn hr t) (ho : outOK g r0) (hc : (fun (r : Int32) (u : St × (Nat → va_E)) => (r = 0 ∧ ∃ v : Int32, (fun (r : Int32) (_ : Unit) => (0 ≤ p1.toInt ∧ p1.toInt ≤ 3 ∧ p0.toInt ≠ 0) ∧ r = scF x p0 p1 nb nn) v () ∧ u.1 = x ∧ u.2 = va_up r0 123 (oL g f v.toInt64)) ∨ (r = 1 ∧ (fun E => E = "java/lang/IllegalArgumentException" ∧ (p1.toInt < 0 ∨ 3 < p1.toInt ∨ p0.toInt = 0)) "java/lang/IllegalArgumentException" ∧ u = (x, r0))) r u) (hm : (fun (r : Int32) (u : MS) => (¬ (0 ≤ p1.toInt ∧ p1.toInt ≤ 3 ∧ p0.toInt ≠ 0) ∧ u = (st (st y 0 0 0 0) 0 0 0 1, ch)) ∨ ((0 ≤ p1.toInt ∧ p1.toInt ≤ 3 ∧ p0.toInt ≠ 0) ∧ u = (st y 0 0 0 0, ch) ∧ r = msF (st y 0 0 0 0) p0 p1 nb nn)) r2 w) : (∃ nb2 nn2 hr2, R2 u.1 w.1 w.2 nb2 nn2 hr2 (t + 1)) ∧ outOK g u.2 := by
  have hR := hR0.up ht
  refine ⟨?_, by rcases hc with ⟨-, v, -, -, h⟩ | ⟨-, -, h⟩ <;> (first | (rw [h]; exact ho.l) | (rw [h]; exact ho))⟩
  have hx : u.1 = x := by rcases hc with ⟨-, v, -, h, -⟩ | ⟨-, -, h⟩ <;> (first | exact h | rw [h])
  rw [hx]
  rcases hm with ⟨-, rfl⟩ | ⟨-, rfl, -⟩ <;> first | exact ⟨_, _, _, hR.tz⟩ | exact ⟨_, _, _, hR.tz.tz⟩
theorem s_suspectAt {x y : St} {ch : Int64} {nb nn hr t : Nat} {g : gE} {r0 : Nat → va_E} {f : Nat → Int64} {p0 p1 p2 : Int32} {r : Int32} {u : St × (Nat → va_E)} {r2 : Int32} {w : MS} (ht : t < 512) (hR0 : R2 x y ch nb nn hr t) (ho : outOK g r0) (hc : (fun (r : Int32) (u : St × (Nat → va_E)) => (r = 0 ∧ ∃ v : Int32, (fun (r : Int32) (_ : Unit) => (0 ≤ p1.toInt ∧ p1.toInt ≤ 3 ∧ p0.toInt ≠ 0) ∧ ∃ k, k < nn ∧ (suP x k p0 p1 nb ∧ saF x k p0 p1 nb nn = p2) ∧ r = nI k ∧ ∀ j, j < k → ¬ (suP x j p0 p1 nb ∧ saF x j p0 p1 nb nn = p2)) v () ∧ u.1 = x ∧ u.2 = va_up r0 123 (oL g f v.toInt64)) ∨ (r = 1 ∧ (fun E => (E = "java/lang/IllegalArgumentException" ∧ (p1.toInt < 0 ∨ 3 < p1.toInt ∨ p0.toInt = 0)) ∨ (E = "java/lang/IndexOutOfBoundsException" ∧ (0 ≤ p1.toInt ∧ p1.toInt ≤ 3 ∧ p0.toInt ≠ 0) ∧ ∀ j, j < nn → ¬ (suP x j p0 p1 nb ∧ saF x j p0 p1 nb nn = p2))) "java/lang/IllegalArgumentException" ∧ u = (x, r0)) ∨ (r = 2 ∧ (fun E => (E = "java/lang/IllegalArgumentException" ∧ (p1.toInt < 0 ∨ 3 < p1.toInt ∨ p0.toInt = 0)) ∨ (E = "java/lang/IndexOutOfBoundsException" ∧ (0 ≤ p1.toInt ∧ p1.toInt ≤ 3 ∧ p0.toInt ≠ 0) ∧ ∀ j, j < nn → ¬ (suP x j p0 p1 nb ∧ saF x j p0 p1 nb nn = p2))) "java/lang/IndexOutOfBoundsException" ∧ u = (x, r0))) r u) (hm : (fun (r : Int32) (u : MS) => (¬ (0 ≤ p1.toInt ∧ p1.toInt ≤ 3 ∧ p0.toInt ≠ 0) ∧ u = (st (st y 0 0 0 0) 0 0 0 1, ch)) ∨ ((0 ≤ p1.toInt ∧ p1.toInt ≤ 3 ∧ p0.toInt ≠ 0) ∧ ((¬ ((0 : Int32).toInt ≤ p2.toInt ∧ p2.toInt ≤ (msF (st y 0 0 0 0) p0 p1 nb nn - 1).toInt) ∧ u = (st (st y 0 0 0 0) 0 0 0 2, ch)) ∨ (((0 : Int32).toInt ≤ p2.toInt ∧ p2.toInt ≤ (msF (st y 0 0 0 0) p0 p1 nb nn - 1).toInt) ∧ u = (st y 0 0 0 0, ch) ∧ r = sfM (st y 0 0 0 0) p0 p1 p2 nb nn nn)))) r2 w) : (∃ nb2 nn2 hr2, R2 u.1 w.1 w.2 nb2 nn2 hr2 (t + 1)) ∧ outOK g u.2 := by
  have hR := hR0.up ht
  refine ⟨?_, by rcases hc with ⟨-, v, -, -, h⟩ | ⟨-, -, h⟩ | ⟨-, -, h⟩ <;> (first | (rw [h]; exact ho.l) | (rw [h]; exact ho))⟩
  have hx : u.1 = x := by rcases hc with ⟨-, v, -, h, -⟩ | ⟨-, -, h⟩ | ⟨-, -, h⟩ <;> (first | exact h | rw [h])
  rw [hx]
  rcases hm with ⟨-, rfl⟩ | ⟨-, ⟨-, rfl⟩ | ⟨-, rfl, -⟩⟩ <;> first | exact ⟨_, _, _, hR.tz⟩ | exact ⟨_, _, _, hR.tz.tz⟩
theorem s_cellAnew {x y : St} {ch : Int64} {nb nn hr t : Nat} {g : gE} {r0 : Nat → va_E} {f : Nat → Int64} {p0 p1 p2 : Int32} {tcs : Nat → Nat} {r : Int32} {u : St × (Nat → va_E)} {r2 : Int32} {w : MS} (ht : t < 512) (hR0 : R2 x y ch nb nn hr t) (ho : outOK g r0) (htc : ∀ b, b < 6 → tcs b ≤ 1920) (hx19 : ∀ b, b < 6 → x 19 b 0 = nI (tcs b)) (hc : (fun (r : Int32) (u : St × (Nat → va_E)) => (r = 0 ∧ ∃ v : Int32, (fun (r : Int32) (_ : Unit) => ∃ j, j < nb ∧ p0 = nI j ∧ (0 ≤ p1.toInt ∧ p1.toInt < 8 ∧ 0 ≤ p2.toInt ∧ p2.toInt < 4) ∧ r = bitF (xorF x j (tcs j)) (8 * p2 + p1)) v () ∧ u.1 = x ∧ u.2 = va_up r0 123 (oL g f v.toInt64)) ∨ (r = 1 ∧ (fun E => E = "java/lang/IndexOutOfBoundsException" ∧ ((p0.toInt < 0 ∨ nb ≤ p0.toInt) ∨ ¬ (0 ≤ p1.toInt ∧ p1.toInt < 8 ∧ 0 ≤ p2.toInt ∧ p2.toInt < 4))) "java/lang/IndexOutOfBoundsException" ∧ u = (x, r0))) r u) (hm : (fun (r : Int32) (u : MS) => ((((p0.toInt < 0 ∨ nb ≤ p0.toInt) ∨ ¬ (0 ≤ p1.toInt ∧ p1.toInt < 8 ∧ 0 ≤ p2.toInt ∧ p2.toInt < 4))) ∧ u = (st (st y 0 0 0 0) 0 0 0 1, ch)) ∨ (∃ j, j < nb ∧ p0 = nI j ∧ ∃ c, c < 8 ∧ p1 = nI c ∧ ∃ q, q < 4 ∧ p2 = nI q ∧ u = (st y 0 0 0 0, ch) ∧ r = if st y 0 0 0 0 15 0 (32 * j + 8 * q + c) = 0 then 0 else 1)) r2 w) : (∃ nb2 nn2 hr2, R2 u.1 w.1 w.2 nb2 nn2 hr2 (t + 1)) ∧ outOK g u.2 := by
  have hR := hR0.up ht
  refine ⟨?_, by rcases hc with ⟨-, v, -, -, h⟩ | ⟨-, -, h⟩ <;> (first | (rw [h]; exact ho.l) | (rw [h]; exact ho))⟩
  have hx : u.1 = x := by rcases hc with ⟨-, v, -, h, -⟩ | ⟨-, -, h⟩ <;> (first | exact h | rw [h])
  rw [hx]
  rcases hm with ⟨-, rfl⟩ | ⟨_, -, -, _, -, -, _, -, -, rfl, -⟩ <;> first | exact ⟨_, _, _, hR.tz⟩ | exact ⟨_, _, _, hR.tz.tz⟩
theorem s_worst {x y : St} {ch : Int64} {nb nn hr t : Nat} {g : gE} {r0 : Nat → va_E} {f : Nat → Int64} {p0 : Int32} {r : Int32} {u : St × (Nat → va_E)} {r2 : Int32} {w : MS} (ht : t < 512) (hR0 : R2 x y ch nb nn hr t) (ho : outOK g r0) (hc : (fun (r : Int32) (u : St × (Nat → va_E)) => (r = 0 ∧ ∃ v : Int32, (fun (r : Int32) (_ : Unit) => ∃ j, j < nb ∧ p0 = nI j ∧ r = x 16 j 0) v () ∧ u.1 = x ∧ u.2 = va_up r0 123 (oL g f v.toInt64)) ∨ (r = 1 ∧ (fun E => E = "java/lang/IndexOutOfBoundsException" ∧ (p0.toInt < 0 ∨ nb ≤ p0.toInt)) "java/lang/IndexOutOfBoundsException" ∧ u = (x, r0))) r u) (hm : (fun (r : Int32) (u : MS) => ((p0.toInt < 0 ∨ nb ≤ p0.toInt) ∧ u = (st (st y 0 0 0 0) 0 0 0 1, ch)) ∨ (∃ j, j < nb ∧ p0 = nI j ∧ u = (st y 0 0 0 0, ch) ∧ r = woM (st y 0 0 0 0) j 32)) r2 w) : (∃ nb2 nn2 hr2, R2 u.1 w.1 w.2 nb2 nn2 hr2 (t + 1)) ∧ outOK g u.2 := by
  have hR := hR0.up ht
  refine ⟨?_, by rcases hc with ⟨-, v, -, -, h⟩ | ⟨-, -, h⟩ <;> (first | (rw [h]; exact ho.l) | (rw [h]; exact ho))⟩
  have hx : u.1 = x := by rcases hc with ⟨-, v, -, h, -⟩ | ⟨-, -, h⟩ <;> (first | exact h | rw [h])
  rw [hx]
  rcases hm with ⟨-, rfl⟩ | ⟨_, -, -, rfl, -⟩ <;> first | exact ⟨_, _, _, hR.tz⟩ | exact ⟨_, _, _, hR.tz.tz⟩
theorem s_shownShare {x y : St} {ch : Int64} {nb nn hr t : Nat} {g : gE} {r0 : Nat → va_E} {f : Nat → UInt64} {r : Int32} {u : St × (Nat → va_E)} {r2 : UInt32} {w : MS} (ht : t < 512) (hR0 : R2 x y ch nb nn hr t) (ho : outOK g r0) (hc : (fun (r : Int32) (u : St × (Nat → va_E)) => (r = 0 ∧ ∃ v : UInt32, (fun (r : UInt32) (_ : Unit) => nb ≠ 0 ∧ r = FP.fdiv (FP.i2f (ssF x nb)) (FP.i2f (x 0 0 0))) v () ∧ u.1 = x ∧ u.2 = va_up r0 124 (oD g f (FP.f2d v))) ∨ (r = 1 ∧ (fun E => E = "java/lang/ArithmeticException" ∧ nb = 0) "java/lang/ArithmeticException" ∧ u = (x, r0))) r u) (hm : (fun (r : UInt32) (u : MS) => (nb = 0 ∧ u = (st (st y 0 0 0 0) 0 0 0 1, ch)) ∨ (nb ≠ 0 ∧ u = (st y 0 0 0 0, ch) ∧ r = FP.fdiv (FP.i2f (ssM (st y 0 0 0 0) nb)) (FP.i2f ((st y 0 0 0 0) 3 0 0)))) r2 w) : (∃ nb2 nn2 hr2, R2 u.1 w.1 w.2 nb2 nn2 hr2 (t + 1)) ∧ outOK g u.2 := by
  have hR := hR0.up ht
  refine ⟨?_, by rcases hc with ⟨-, v, -, -, h⟩ | ⟨-, -, h⟩ <;> (first | (rw [h]; exact ho.d) | (rw [h]; exact ho))⟩
  have hx : u.1 = x := by rcases hc with ⟨-, v, -, h, -⟩ | ⟨-, -, h⟩ <;> (first | exact h | rw [h])
  rw [hx]
  rcases hm with ⟨-, rfl⟩ | ⟨-, rfl, -⟩ <;> first | exact ⟨_, _, _, hR.tz⟩ | exact ⟨_, _, _, hR.tz.tz⟩
theorem s_meanWear {x y : St} {ch : Int64} {nb nn hr t : Nat} {g : gE} {r0 : Nat → va_E} {f : Nat → UInt64} {r : Int32} {u : St × (Nat → va_E)} {r2 : UInt64} {w : MS} (ht : t < 512) (hR0 : R2 x y ch nb nn hr t) (ho : outOK g r0) (hc : (fun (r : Int32) (u : St × (Nat → va_E)) => (r = 0 ∧ ∃ v : UInt64, (fun (r : UInt64) (_ : Unit) => nb ≠ 0 ∧ r = FP.ddiv (FP.l2d (chgF x nb)) (FP.i2d (x 0 0 0 * 32))) v () ∧ u.1 = x ∧ u.2 = va_up r0 124 (oD g f v)) ∨ (r = 1 ∧ (fun E => E = "java/lang/ArithmeticException" ∧ nb = 0) "java/lang/ArithmeticException" ∧ u = (x, r0))) r u) (hm : (fun (r : UInt64) (u : MS) => (nb = 0 ∧ u = (st (st y 0 0 0 0) 0 0 0 1, ch)) ∨ (nb ≠ 0 ∧ u = (st y 0 0 0 0, ch) ∧ r = FP.ddiv (FP.i2d (swM (st y 0 0 0 0) (32 * nb))) (FP.i2d (32 * (st y 0 0 0 0) 3 0 0)))) r2 w) : (∃ nb2 nn2 hr2, R2 u.1 w.1 w.2 nb2 nn2 hr2 (t + 1)) ∧ outOK g u.2 := by
  have hR := hR0.up ht
  refine ⟨?_, by rcases hc with ⟨-, v, -, -, h⟩ | ⟨-, -, h⟩ <;> (first | (rw [h]; exact ho.d) | (rw [h]; exact ho))⟩
  have hx : u.1 = x := by rcases hc with ⟨-, v, -, h, -⟩ | ⟨-, -, h⟩ <;> (first | exact h | rw [h])
  rw [hx]
  rcases hm with ⟨-, rfl⟩ | ⟨-, rfl, -⟩ <;> first | exact ⟨_, _, _, hR.tz⟩ | exact ⟨_, _, _, hR.tz.tz⟩
theorem bad_no {p : Int32} {n j : Nat} (hn : n ≤ 40) (hj : j < n) (e : p = nI j) (h : p.toInt < 0 ∨ (n : Int) ≤ p.toInt) : False := by
  subst e
  rw [nI_toInt (by omega)] at h
  omega
theorem ix_eq {p : Int32} {j k n : Nat} (hn : n ≤ 40) (hj : j < n) (hk : k < n) (e1 : p = nI j) (e2 : p = nI k) : j = k := (nI_eq (by omega) (by omega)).mp (e1.symm.trans e2)
theorem z_r {y : St} {v : Int32} {r i j : Nat} (h : r ≠ 0) : st y 0 0 0 v r i j = y r i j := st_nr (by omega)

theorem s_addBoard {x y : St} {ch : Int64} {nb nn hr t : Nat} {g : gE} {r0 : Nat → va_E} {f : Nat → Int64} {p0 p1 : Int32} {r : Int32} {u : St × (Nat → va_E)} {r2 : Int32} {w : MS} (ht : t < 512) (hR0 : R2 x y ch nb nn hr t) (ho : outOK g r0) (hc : (fun (r : Int32) (u : St × (Nat → va_E)) => (r = 0 ∧ ∃ v : Int32, (fun (r : Int32) (u : St) => (0 ≤ p0.toInt ∧ p0.toInt ≤ 3 ∧ 0 ≤ p1.toInt ∧ p1.toInt ≤ 200) ∧ nb < 6 ∧ u = abF x nb p0 p1 ∧ r = u 0 0 0 - 1) v u.1 ∧ u.1 = u.1 ∧ u.2 = va_up r0 123 (oL g f v.toInt64)) ∨ (r = 1 ∧ (fun E => (E = "java/lang/IllegalArgumentException" ∧ ¬ (0 ≤ p0.toInt ∧ p0.toInt ≤ 3 ∧ 0 ≤ p1.toInt ∧ p1.toInt ≤ 200)) ∨ (E = "java/lang/IllegalStateException" ∧ (0 ≤ p0.toInt ∧ p0.toInt ≤ 3 ∧ 0 ≤ p1.toInt ∧ p1.toInt ≤ 200) ∧ nb = 6)) "java/lang/IllegalArgumentException" ∧ u = (x, r0)) ∨ (r = 2 ∧ (fun E => (E = "java/lang/IllegalArgumentException" ∧ ¬ (0 ≤ p0.toInt ∧ p0.toInt ≤ 3 ∧ 0 ≤ p1.toInt ∧ p1.toInt ≤ 200)) ∨ (E = "java/lang/IllegalStateException" ∧ (0 ≤ p0.toInt ∧ p0.toInt ≤ 3 ∧ 0 ≤ p1.toInt ∧ p1.toInt ≤ 200) ∧ nb = 6)) "java/lang/IllegalStateException" ∧ u = (x, r0))) r u) (hm : (fun (r : Int32) (u : MS) => (¬ (0 ≤ p0.toInt ∧ p0.toInt ≤ 3 ∧ 0 ≤ p1.toInt ∧ p1.toInt ≤ 200) ∧ u = (st (st y 0 0 0 0) 0 0 0 1, ch)) ∨ ((0 ≤ p0.toInt ∧ p0.toInt ≤ 3 ∧ 0 ≤ p1.toInt ∧ p1.toInt ≤ 200) ∧ nb = 6 ∧ u = (st (st y 0 0 0 0) 0 0 0 2, ch)) ∨ ((0 ≤ p0.toInt ∧ p0.toInt ≤ 3 ∧ 0 ≤ p1.toInt ∧ p1.toInt ≤ 200) ∧ nb < 6 ∧ u = (abM (st y 0 0 0 0) nb p0 p1, ch) ∧ r = u.1 3 0 0 - 1)) r2 w) : (∃ nb2 nn2 hr2, R2 u.1 w.1 w.2 nb2 nn2 hr2 (t + 1)) ∧ outOK g u.2 := by
  have hR := hR0.up ht
  refine ⟨?_, by rcases hc with ⟨-, v, -, -, h⟩ | ⟨-, -, h⟩ | ⟨-, -, h⟩ <;> (first | (rw [h]; exact ho.l) | (rw [h]; exact ho))⟩
  rcases hc with ⟨rfl, v, ⟨ok, hlt, eu, ev⟩, -, e2⟩ | ⟨rfl, hpx, rfl⟩ | ⟨rfl, hpx, rfl⟩
  · rcases hm with ⟨h, -⟩ | ⟨-, h, -⟩ | ⟨-, -, rfl, er⟩
    · exact absurd ok h
    · omega
    · exact ⟨_, _, _, by rw [eu]; exact hR.tz.add hlt ⟨ok.1, ok.2.1⟩ ⟨ok.2.2.1, ok.2.2.2⟩⟩
  · rcases hpx with ⟨-, h1⟩ | ⟨h1, -⟩
    · rcases hm with ⟨-, rfl⟩ | ⟨h, -⟩ | ⟨h, -⟩
      · exact ⟨_, _, _, hR.tz.tz⟩
      · exact absurd h h1
      · exact absurd h h1
    · exact absurd h1 (by decide)
  · rcases hpx with ⟨h1, -⟩ | ⟨-, ok, h1⟩
    · exact absurd h1 (by decide)
    · rcases hm with ⟨h, -⟩ | ⟨-, -, rfl⟩ | ⟨-, h, -⟩
      · exact absurd ok h
      · exact ⟨_, _, _, hR.tz.tz⟩
      · omega
theorem s_setSun {x y : St} {ch : Int64} {nb nn hr t : Nat} {g : gE} {r0 : Nat → va_E} {f : Nat → Int64} {p0 : Int32} {r : Int32} {u : St × (Nat → va_E)} {r2 : Int32} {w : MS} (ht : t < 512) (hR0 : R2 x y ch nb nn hr t) (ho : outOK g r0) (hc : (fun (r : Int32) (u : St × (Nat → va_E)) => (r = 0 ∧ ∃ v : Int32, (fun (r : Int32) (u : St) => (0 ≤ p0.toInt ∧ p0.toInt ≤ 20) ∧ r = x 2 0 0 ∧ u = st x 2 0 0 p0) v u.1 ∧ u.1 = u.1 ∧ u.2 = va_up r0 123 (oL g f v.toInt64)) ∨ (r = 1 ∧ (fun E => E = "java/lang/IllegalArgumentException" ∧ ¬ (0 ≤ p0.toInt ∧ p0.toInt ≤ 20)) "java/lang/IllegalArgumentException" ∧ u = (x, r0))) r u) (hm : (fun (r : Int32) (u : MS) => (¬ (0 ≤ p0.toInt ∧ p0.toInt ≤ 20) ∧ u = (st (st y 0 0 0 0) 0 0 0 1, ch)) ∨ ((0 ≤ p0.toInt ∧ p0.toInt ≤ 20) ∧ u = (st (st y 0 0 0 0) 2 0 0 p0, ch) ∧ r = st y 0 0 0 0 2 0 0)) r2 w) : (∃ nb2 nn2 hr2, R2 u.1 w.1 w.2 nb2 nn2 hr2 (t + 1)) ∧ outOK g u.2 := by
  have hR := hR0.up ht
  refine ⟨?_, by rcases hc with ⟨-, v, -, -, h⟩ | ⟨-, -, h⟩ <;> (first | (rw [h]; exact ho.l) | (rw [h]; exact ho))⟩
  rcases hc with ⟨rfl, v, ⟨ok, ev, eu⟩, -, e2⟩ | ⟨rfl, ⟨-, h1⟩, rfl⟩
  · rcases hm with ⟨h, -⟩ | ⟨-, rfl, er⟩
    · exact absurd ok h
    · exact ⟨_, _, _, by rw [eu]; exact hR.tz.sun1 ok⟩
  · rcases hm with ⟨-, rfl⟩ | ⟨h, -⟩
    · exact ⟨_, _, _, hR.tz.tz⟩
    · exact absurd h h1
theorem s_post {x y : St} {ch : Int64} {nb nn hr t : Nat} {g : gE} {r0 : Nat → va_E} {f : Nat → Int64} {p0 p1 p2 p3 : Int32} {r : Int32} {u : St × (Nat → va_E)} {r2 : Int32} {w : MS} (ht : t < 512) (hR0 : R2 x y ch nb nn hr t) (ho : outOK g r0) (hc : (fun (r : Int32) (u : St × (Nat → va_E)) => (r = 0 ∧ ∃ v : Int32, (fun (r : Int32) (u : St) => (0 ≤ p0.toInt ∧ p0.toInt ≤ 9 ∧ p1.toInt ≠ 0 ∧ 0 ≤ p2.toInt ∧ p2.toInt < p3.toInt ∧ p3.toInt ≤ 2000) ∧ nn < 40 ∧ u = tkF x nn p0 p1 p2 p3 ∧ r = nI nn) v u.1 ∧ u.1 = u.1 ∧ u.2 = va_up r0 123 (oL g f v.toInt64)) ∨ (r = 1 ∧ (fun E => (E = "java/lang/IllegalArgumentException" ∧ ¬ (0 ≤ p0.toInt ∧ p0.toInt ≤ 9 ∧ p1.toInt ≠ 0 ∧ 0 ≤ p2.toInt ∧ p2.toInt < p3.toInt ∧ p3.toInt ≤ 2000)) ∨ (E = "java/lang/IllegalStateException" ∧ (0 ≤ p0.toInt ∧ p0.toInt ≤ 9 ∧ p1.toInt ≠ 0 ∧ 0 ≤ p2.toInt ∧ p2.toInt < p3.toInt ∧ p3.toInt ≤ 2000) ∧ nn = 40)) "java/lang/IllegalArgumentException" ∧ u = (x, r0)) ∨ (r = 2 ∧ (fun E => (E = "java/lang/IllegalArgumentException" ∧ ¬ (0 ≤ p0.toInt ∧ p0.toInt ≤ 9 ∧ p1.toInt ≠ 0 ∧ 0 ≤ p2.toInt ∧ p2.toInt < p3.toInt ∧ p3.toInt ≤ 2000)) ∨ (E = "java/lang/IllegalStateException" ∧ (0 ≤ p0.toInt ∧ p0.toInt ≤ 9 ∧ p1.toInt ≠ 0 ∧ 0 ≤ p2.toInt ∧ p2.toInt < p3.toInt ∧ p3.toInt ≤ 2000) ∧ nn = 40)) "java/lang/IllegalStateException" ∧ u = (x, r0))) r u) (hm : (fun (r : Int32) (u : MS) => (¬ (0 ≤ p0.toInt ∧ p0.toInt ≤ 9 ∧ p1.toInt ≠ 0 ∧ 0 ≤ p2.toInt ∧ p2.toInt < p3.toInt ∧ p3.toInt ≤ 2000) ∧ u = (st (st y 0 0 0 0) 0 0 0 1, ch)) ∨ ((0 ≤ p0.toInt ∧ p0.toInt ≤ 9 ∧ p1.toInt ≠ 0 ∧ 0 ≤ p2.toInt ∧ p2.toInt < p3.toInt ∧ p3.toInt ≤ 2000) ∧ nn = 40 ∧ u = (st (st y 0 0 0 0) 0 0 0 2, ch)) ∨ ((0 ≤ p0.toInt ∧ p0.toInt ≤ 9 ∧ p1.toInt ≠ 0 ∧ 0 ≤ p2.toInt ∧ p2.toInt < p3.toInt ∧ p3.toInt ≤ 2000) ∧ nn < 40 ∧ u = (adM (st y 0 0 0 0) nn p0 p1 p2 p3, ch) ∧ r = nI nn)) r2 w) : (∃ nb2 nn2 hr2, R2 u.1 w.1 w.2 nb2 nn2 hr2 (t + 1)) ∧ outOK g u.2 := by
  have hR := hR0.up ht
  refine ⟨?_, by rcases hc with ⟨-, v, -, -, h⟩ | ⟨-, -, h⟩ | ⟨-, -, h⟩ <;> (first | (rw [h]; exact ho.l) | (rw [h]; exact ho))⟩
  rcases hc with ⟨rfl, v, ⟨ok, hlt, eu, ev⟩, -, e2⟩ | ⟨rfl, hpx, rfl⟩ | ⟨rfl, hpx, rfl⟩
  · rcases hm with ⟨h, -⟩ | ⟨-, h, -⟩ | ⟨-, -, rfl, er⟩
    · exact absurd ok h
    · omega
    · exact ⟨_, _, _, by rw [eu]; exact hR.tz.tk hlt (by obtain ⟨q, h1, h2⟩ := nI_rng (n := 9) ok.1 ok.2.1; exact ⟨q, by omega, h2⟩)⟩
  · rcases hpx with ⟨-, h1⟩ | ⟨h1, -⟩
    · rcases hm with ⟨-, rfl⟩ | ⟨h, -⟩ | ⟨h, -⟩
      · exact ⟨_, _, _, hR.tz.tz⟩
      · exact absurd h h1
      · exact absurd h h1
    · exact absurd h1 (by decide)
  · rcases hpx with ⟨h1, -⟩ | ⟨-, ok, h1⟩
    · exact absurd h1 (by decide)
    · rcases hm with ⟨h, -⟩ | ⟨-, -, rfl⟩ | ⟨-, h, -⟩
      · exact absurd ok h
      · exact ⟨_, _, _, hR.tz.tz⟩
      · omega
theorem s_queue {x y : St} {ch : Int64} {nb nn hr t : Nat} {g : gE} {r0 : Nat → va_E} {f : Nat → Int64} {p0 p1 : Int32} {r : Int32} {u : St × (Nat → va_E)} {r2 : Int32} {w : MS} (ht : t < 512) (hR0 : R2 x y ch nb nn hr t) (ho : outOK g r0) (hc : (fun (r : Int32) (u : St × (Nat → va_E)) => (r = 0 ∧ ∃ v : Int32, (fun (r : Int32) (u : St) => ∃ j, j < nn ∧ p0 = nI j ∧ (0 ≤ p1.toInt ∧ p1.toInt ≤ 3) ∧ (x 34 j 0 = 0 ∧ x 35 j 0 = 0) ∧ u = piF x j p1 ∧ ((r = 0 ∧ qcP x j p1) ∨ (r = 1 ∧ ¬ qcP x j p1))) v u.1 ∧ u.1 = u.1 ∧ u.2 = va_up r0 123 (oL g f (if v = 0 then 0 else 1))) ∨ (r = 1 ∧ (fun E => (E = "java/lang/IndexOutOfBoundsException" ∧ (p0.toInt < 0 ∨ nn ≤ p0.toInt)) ∨ (∃ j, j < nn ∧ p0 = nI j ∧ ((E = "java/lang/IllegalArgumentException" ∧ (p1.toInt < 0 ∨ 3 < p1.toInt)) ∨ (E = "java/lang/UnsupportedOperationException" ∧ (0 ≤ p1.toInt ∧ p1.toInt ≤ 3) ∧ ¬ (x 34 j 0 = 0 ∧ x 35 j 0 = 0))))) "java/lang/IndexOutOfBoundsException" ∧ u = (x, r0)) ∨ (r = 2 ∧ (fun E => (E = "java/lang/IndexOutOfBoundsException" ∧ (p0.toInt < 0 ∨ nn ≤ p0.toInt)) ∨ (∃ j, j < nn ∧ p0 = nI j ∧ ((E = "java/lang/IllegalArgumentException" ∧ (p1.toInt < 0 ∨ 3 < p1.toInt)) ∨ (E = "java/lang/UnsupportedOperationException" ∧ (0 ≤ p1.toInt ∧ p1.toInt ≤ 3) ∧ ¬ (x 34 j 0 = 0 ∧ x 35 j 0 = 0))))) "java/lang/IllegalArgumentException" ∧ u = (x, r0)) ∨ (r = 3 ∧ (fun E => (E = "java/lang/IndexOutOfBoundsException" ∧ (p0.toInt < 0 ∨ nn ≤ p0.toInt)) ∨ (∃ j, j < nn ∧ p0 = nI j ∧ ((E = "java/lang/IllegalArgumentException" ∧ (p1.toInt < 0 ∨ 3 < p1.toInt)) ∨ (E = "java/lang/UnsupportedOperationException" ∧ (0 ≤ p1.toInt ∧ p1.toInt ≤ 3) ∧ ¬ (x 34 j 0 = 0 ∧ x 35 j 0 = 0))))) "java/lang/UnsupportedOperationException" ∧ u = (x, r0))) r u) (hm : (fun (r : Int32) (u : MS) => ((p0.toInt < 0 ∨ nn ≤ p0.toInt) ∧ u = (st (st y 0 0 0 0) 0 0 0 1, ch)) ∨ (∃ j, j < nn ∧ p0 = nI j ∧ (((p1.toInt < 0 ∨ 3 < p1.toInt) ∧ u = (st (st y 0 0 0 0) 0 0 0 2, ch)) ∨ ((0 ≤ p1.toInt ∧ p1.toInt ≤ 3) ∧ ¬ ((st y 0 0 0 0) 21 0 j = 0 ∧ (st y 0 0 0 0) 22 0 j = 0) ∧ u = (st (st y 0 0 0 0) 0 0 0 3, ch)) ∨ (∃ d, d < 4 ∧ p1 = nI d ∧ ((st y 0 0 0 0) 21 0 j = 0 ∧ (st y 0 0 0 0) 22 0 j = 0) ∧ u = (qsM (st y 0 0 0 0) j d, ch))))) r2 w) : (∃ nb2 nn2 hr2, R2 u.1 w.1 w.2 nb2 nn2 hr2 (t + 1)) ∧ outOK g u.2 := by
  have hR := hR0.up ht
  refine ⟨?_, by rcases hc with ⟨-, v, -, -, h⟩ | ⟨-, -, h⟩ | ⟨-, -, h⟩ | ⟨-, -, h⟩ <;> (first | (rw [h]; exact ho.l) | (rw [h]; exact ho))⟩
  have hn := hR.gi.nn40
  rcases hc with ⟨rfl, v, ⟨j, hj, ej, hd, hq, eu, ev⟩, -, e2⟩ | ⟨rfl, hpx, rfl⟩ | ⟨rfl, hpx, rfl⟩ | ⟨rfl, hpx, rfl⟩
  · rcases hm with ⟨h, -⟩ | ⟨k, hk, ek, ⟨h, -⟩ | ⟨-, h, -⟩ | ⟨d, hd2, ed, -, rfl⟩⟩
    · exact (bad_no hn hj ej h).elim
    · omega
    · obtain rfl := ix_eq hn hj hk ej ek
      obtain ⟨g3, g4⟩ := hR.fg j (by omega)
      exact absurd ⟨by rw [z_r (by omega), ← g4]; exact hq.2, by rw [z_r (by omega), ← g3]; exact hq.1⟩ h
    · obtain rfl := ix_eq hn hj hk ej ek
      exact ⟨nb, nn, hr, by rw [eu, ed]; exact (R2.tz (v := 0) hR).dn hj hd2⟩
  · rcases hm with ⟨-, rfl⟩ | ⟨k, hk, ek, h⟩
    · exact ⟨_, _, _, hR.tz.tz⟩
    · rcases hpx with ⟨-, h1⟩ | ⟨j, hj, ej, ⟨h1, -⟩ | ⟨h1, -⟩⟩
      · exact (bad_no hn hk ek h1).elim
      · exact absurd h1 (by decide)
      · exact absurd h1 (by decide)
  · rcases hpx with ⟨h1, -⟩ | ⟨j, hj, ej, ⟨-, h1⟩ | ⟨h1, -⟩⟩
    · exact absurd h1 (by decide)
    · rcases hm with ⟨h, -⟩ | ⟨k, hk, ek, ⟨h, rfl⟩ | ⟨h, -⟩ | ⟨d, hd2, ed, -⟩⟩
      · exact (bad_no hn hj ej h).elim
      · exact ⟨_, _, _, hR.tz.tz⟩
      · omega
      · have := dsOK hd2 ed; omega
    · exact absurd h1 (by decide)
  · rcases hpx with ⟨h1, -⟩ | ⟨j, hj, ej, ⟨h1, -⟩ | ⟨-, h1, h2⟩⟩
    · exact absurd h1 (by decide)
    · exact absurd h1 (by decide)
    · rcases hm with ⟨h, -⟩ | ⟨k, hk, ek, ⟨h, -⟩ | ⟨-, h, rfl⟩ | ⟨d, hd2, ed, h, -⟩⟩
      · exact (bad_no hn hj ej h).elim
      · omega
      · exact ⟨_, _, _, hR.tz.tz⟩
      · obtain rfl := ix_eq hn hj hk ej ek
        obtain ⟨g3, g4⟩ := hR.fg j (by omega)
        exact absurd ⟨by have := h.2; rw [z_r (by omega), ← g3] at this; exact this, by have := h.1; rw [z_r (by omega), ← g4] at this; exact this⟩ h2
theorem s_takeBack {x y : St} {ch : Int64} {nb nn hr t : Nat} {g : gE} {r0 : Nat → va_E} {f : Nat → Int64} {p0 p1 : Int32} {r : Int32} {u : St × (Nat → va_E)} {r2 : Int32} {w : MS} (ht : t < 512) (hR0 : R2 x y ch nb nn hr t) (ho : outOK g r0) (hc : (fun (r : Int32) (u : St × (Nat → va_E)) => (r = 0 ∧ ∃ v : Int32, (fun (r : Int32) (u : St) => ∃ j, j < nn ∧ p0 = nI j ∧ (¬ p1 ≤ x 3 0 0 ∧ p1 ≤ x 33 j 0 ∧ x 34 j 0 = 0) ∧ u = st (st x 35 j 0 1) 33 j 0 p1 ∧ r = btF u j nb) v u.1 ∧ u.1 = u.1 ∧ u.2 = va_up r0 123 (oL g f v.toInt64)) ∨ (r = 1 ∧ (fun E => (E = "java/lang/IndexOutOfBoundsException" ∧ (p0.toInt < 0 ∨ nn ≤ p0.toInt)) ∨ (∃ j, j < nn ∧ p0 = nI j ∧ ((E = "java/lang/IllegalArgumentException" ∧ (p1 ≤ x 3 0 0 ∨ ¬ p1 ≤ x 33 j 0)) ∨ (E = "java/lang/UnsupportedOperationException" ∧ (¬ p1 ≤ x 3 0 0 ∧ p1 ≤ x 33 j 0) ∧ ¬ x 34 j 0 = 0)))) "java/lang/IndexOutOfBoundsException" ∧ u = (x, r0)) ∨ (r = 2 ∧ (fun E => (E = "java/lang/IndexOutOfBoundsException" ∧ (p0.toInt < 0 ∨ nn ≤ p0.toInt)) ∨ (∃ j, j < nn ∧ p0 = nI j ∧ ((E = "java/lang/IllegalArgumentException" ∧ (p1 ≤ x 3 0 0 ∨ ¬ p1 ≤ x 33 j 0)) ∨ (E = "java/lang/UnsupportedOperationException" ∧ (¬ p1 ≤ x 3 0 0 ∧ p1 ≤ x 33 j 0) ∧ ¬ x 34 j 0 = 0)))) "java/lang/IllegalArgumentException" ∧ u = (x, r0)) ∨ (r = 3 ∧ (fun E => (E = "java/lang/IndexOutOfBoundsException" ∧ (p0.toInt < 0 ∨ nn ≤ p0.toInt)) ∨ (∃ j, j < nn ∧ p0 = nI j ∧ ((E = "java/lang/IllegalArgumentException" ∧ (p1 ≤ x 3 0 0 ∨ ¬ p1 ≤ x 33 j 0)) ∨ (E = "java/lang/UnsupportedOperationException" ∧ (¬ p1 ≤ x 3 0 0 ∧ p1 ≤ x 33 j 0) ∧ ¬ x 34 j 0 = 0)))) "java/lang/UnsupportedOperationException" ∧ u = (x, r0))) r u) (hm : (fun (r : Int32) (u : MS) => ((p0.toInt < 0 ∨ nn ≤ p0.toInt) ∧ u = (st (st y 0 0 0 0) 0 0 0 1, ch)) ∨ (∃ j, j < nn ∧ p0 = nI j ∧ (((p1 ≤ (st y 0 0 0 0) 1 0 0 ∨ ¬ p1 ≤ (st y 0 0 0 0) 20 0 j) ∧ u = (st (st y 0 0 0 0) 0 0 0 2, ch)) ∨ ((¬ p1 ≤ (st y 0 0 0 0) 1 0 0 ∧ p1 ≤ (st y 0 0 0 0) 20 0 j) ∧ (st y 0 0 0 0) 22 0 j ≠ 0 ∧ u = (st (st y 0 0 0 0) 0 0 0 3, ch)) ∨ ((¬ p1 ≤ (st y 0 0 0 0) 1 0 0 ∧ p1 ≤ (st y 0 0 0 0) 20 0 j) ∧ (st y 0 0 0 0) 22 0 j = 0 ∧ u = (tbM (st y 0 0 0 0) j p1, ch) ∧ r = cnP (fun b => u.1 12 0 b = nI j) nb)))) r2 w) : (∃ nb2 nn2 hr2, R2 u.1 w.1 w.2 nb2 nn2 hr2 (t + 1)) ∧ outOK g u.2 := by
  have hR := hR0.up ht
  refine ⟨?_, by rcases hc with ⟨-, v, -, -, h⟩ | ⟨-, -, h⟩ | ⟨-, -, h⟩ | ⟨-, -, h⟩ <;> (first | (rw [h]; exact ho.l) | (rw [h]; exact ho))⟩
  have hn := hR.gi.nn40
  have e1 : st y 0 0 0 0 1 0 0 = x 3 0 0 := (st_nr (by omega)).trans (hR.y1.trans hR.x3.symm)
  have f20 : ∀ j, j < nn → st y 0 0 0 0 20 0 j = x 33 j 0 := fun j hj => (st_nr (by omega)).trans (hR.fl j hj).2.2.2.symm
  have f22 : ∀ j, j < nn → st y 0 0 0 0 22 0 j = x 34 j 0 := fun j hj => (st_nr (by omega)).trans (hR.fg j (by omega)).1.symm
  rcases hc with ⟨rfl, v, ⟨j, hj, ej, hq, eu, ev⟩, -, e2⟩ | ⟨rfl, hpx, rfl⟩ | ⟨rfl, hpx, rfl⟩ | ⟨rfl, hpx, rfl⟩
  · rcases hm with ⟨h, -⟩ | ⟨k, hk, ek, ⟨h, -⟩ | ⟨-, h, -⟩ | ⟨-, -, rfl, er⟩⟩
    · exact (bad_no hn hj ej h).elim
    · obtain rfl := ix_eq hn hj hk ej ek
      rw [e1, f20 j hj] at h
      exact h.elim (fun h => absurd h hq.1) (fun h => absurd hq.2.1 h)
    · obtain rfl := ix_eq hn hj hk ej ek
      rw [f22 j hj] at h
      exact absurd hq.2.2 h
    · obtain rfl := ix_eq hn hj hk ej ek
      exact ⟨_, _, _, by rw [eu]; exact hR.tz.tb hq.1⟩
  · rcases hm with ⟨-, rfl⟩ | ⟨k, hk, ek, h⟩
    · exact ⟨_, _, _, hR.tz.tz⟩
    · rcases hpx with ⟨-, h1⟩ | ⟨j, hj, ej, ⟨h1, -⟩ | ⟨h1, -⟩⟩
      · exact (bad_no hn hk ek h1).elim
      · exact absurd h1 (by decide)
      · exact absurd h1 (by decide)
  · rcases hpx with ⟨h1, -⟩ | ⟨j, hj, ej, ⟨-, h1⟩ | ⟨h1, -⟩⟩
    · exact absurd h1 (by decide)
    · rcases hm with ⟨h, -⟩ | ⟨k, hk, ek, ⟨h, rfl⟩ | ⟨h, -⟩ | ⟨h, -⟩⟩
      · exact (bad_no hn hj ej h).elim
      · exact ⟨_, _, _, hR.tz.tz⟩
      · obtain rfl := ix_eq hn hj hk ej ek
        rw [e1, f20 j hj] at h
        exact h1.elim (fun h9 => absurd h9 h.1) (fun h9 => absurd h.2 h9)
      · obtain rfl := ix_eq hn hj hk ej ek
        rw [e1, f20 j hj] at h
        exact h1.elim (fun h9 => absurd h9 h.1) (fun h9 => absurd h.2 h9)
    · exact absurd h1 (by decide)
  · rcases hpx with ⟨h1, -⟩ | ⟨j, hj, ej, ⟨h1, -⟩ | ⟨-, h1, h2⟩⟩
    · exact absurd h1 (by decide)
    · exact absurd h1 (by decide)
    · rcases hm with ⟨h, -⟩ | ⟨k, hk, ek, ⟨h, -⟩ | ⟨-, h, rfl⟩ | ⟨-, h, -⟩⟩
      · exact (bad_no hn hj ej h).elim
      · obtain rfl := ix_eq hn hj hk ej ek
        rw [e1, f20 j hj] at h
        exact h.elim (fun h => absurd h h1.1) (fun h => absurd h1.2 h)
      · exact ⟨_, _, _, hR.tz.tz⟩
      · obtain rfl := ix_eq hn hj hk ej ek
        rw [f22 j hj] at h
        exact absurd h h2
theorem s_mend {x y : St} {ch : Int64} {nb nn hr t : Nat} {g : gE} {r0 : Nat → va_E} {f : Nat → Int64} {p0 p1 : Int32} {r : Int32} {u : St × (Nat → va_E)} {r2 : Int32} {w : MS} (ht : t < 512) (hR0 : R2 x y ch nb nn hr t) (ho : outOK g r0) (hc : (fun (r : Int32) (u : St × (Nat → va_E)) => (r = 0 ∧ ∃ v : Int32, (fun (r : Int32) (u : St) => ∃ j, j < nn ∧ p0 = nI j ∧ (p1 ≠ 0 ∧ p1 ≠ x 31 j 0) ∧ (x 34 j 0 = 0 ∧ ¬ x 33 j 0 ≤ x 3 0 0) ∧ nn < 40 ∧ u = mdF x j nn nb p1 ∧ r = nI nn) v u.1 ∧ u.1 = u.1 ∧ u.2 = va_up r0 123 (oL g f v.toInt64)) ∨ (r = 1 ∧ (fun E => (E = "java/lang/IndexOutOfBoundsException" ∧ (p0.toInt < 0 ∨ nn ≤ p0.toInt)) ∨ (∃ j, j < nn ∧ p0 = nI j ∧ ((E = "java/lang/IllegalArgumentException" ∧ ¬ (p1 ≠ 0 ∧ p1 ≠ x 31 j 0)) ∨ (E = "java/lang/UnsupportedOperationException" ∧ (p1 ≠ 0 ∧ p1 ≠ x 31 j 0) ∧ ¬ (x 34 j 0 = 0 ∧ ¬ x 33 j 0 ≤ x 3 0 0)) ∨ (E = "java/lang/IllegalStateException" ∧ (p1 ≠ 0 ∧ p1 ≠ x 31 j 0) ∧ (x 34 j 0 = 0 ∧ ¬ x 33 j 0 ≤ x 3 0 0) ∧ nn = 40)))) "java/lang/IndexOutOfBoundsException" ∧ u = (x, r0)) ∨ (r = 2 ∧ (fun E => (E = "java/lang/IndexOutOfBoundsException" ∧ (p0.toInt < 0 ∨ nn ≤ p0.toInt)) ∨ (∃ j, j < nn ∧ p0 = nI j ∧ ((E = "java/lang/IllegalArgumentException" ∧ ¬ (p1 ≠ 0 ∧ p1 ≠ x 31 j 0)) ∨ (E = "java/lang/UnsupportedOperationException" ∧ (p1 ≠ 0 ∧ p1 ≠ x 31 j 0) ∧ ¬ (x 34 j 0 = 0 ∧ ¬ x 33 j 0 ≤ x 3 0 0)) ∨ (E = "java/lang/IllegalStateException" ∧ (p1 ≠ 0 ∧ p1 ≠ x 31 j 0) ∧ (x 34 j 0 = 0 ∧ ¬ x 33 j 0 ≤ x 3 0 0) ∧ nn = 40)))) "java/lang/IllegalArgumentException" ∧ u = (x, r0)) ∨ (r = 3 ∧ (fun E => (E = "java/lang/IndexOutOfBoundsException" ∧ (p0.toInt < 0 ∨ nn ≤ p0.toInt)) ∨ (∃ j, j < nn ∧ p0 = nI j ∧ ((E = "java/lang/IllegalArgumentException" ∧ ¬ (p1 ≠ 0 ∧ p1 ≠ x 31 j 0)) ∨ (E = "java/lang/UnsupportedOperationException" ∧ (p1 ≠ 0 ∧ p1 ≠ x 31 j 0) ∧ ¬ (x 34 j 0 = 0 ∧ ¬ x 33 j 0 ≤ x 3 0 0)) ∨ (E = "java/lang/IllegalStateException" ∧ (p1 ≠ 0 ∧ p1 ≠ x 31 j 0) ∧ (x 34 j 0 = 0 ∧ ¬ x 33 j 0 ≤ x 3 0 0) ∧ nn = 40)))) "java/lang/UnsupportedOperationException" ∧ u = (x, r0)) ∨ (r = 4 ∧ (fun E => (E = "java/lang/IndexOutOfBoundsException" ∧ (p0.toInt < 0 ∨ nn ≤ p0.toInt)) ∨ (∃ j, j < nn ∧ p0 = nI j ∧ ((E = "java/lang/IllegalArgumentException" ∧ ¬ (p1 ≠ 0 ∧ p1 ≠ x 31 j 0)) ∨ (E = "java/lang/UnsupportedOperationException" ∧ (p1 ≠ 0 ∧ p1 ≠ x 31 j 0) ∧ ¬ (x 34 j 0 = 0 ∧ ¬ x 33 j 0 ≤ x 3 0 0)) ∨ (E = "java/lang/IllegalStateException" ∧ (p1 ≠ 0 ∧ p1 ≠ x 31 j 0) ∧ (x 34 j 0 = 0 ∧ ¬ x 33 j 0 ≤ x 3 0 0) ∧ nn = 40)))) "java/lang/IllegalStateException" ∧ u = (x, r0))) r u) (hm : (fun (r : Int32) (u : MS) => ((p0.toInt < 0 ∨ nn ≤ p0.toInt) ∧ u = (st (st y 0 0 0 0) 0 0 0 1, ch)) ∨ (∃ j, j < nn ∧ p0 = nI j ∧ ((¬ (p1 ≠ 0 ∧ p1 ≠ (st y 0 0 0 0) 18 0 j) ∧ u = (st (st y 0 0 0 0) 0 0 0 2, ch)) ∨ ((p1 ≠ 0 ∧ p1 ≠ (st y 0 0 0 0) 18 0 j) ∧ ¬ ((st y 0 0 0 0) 22 0 j = 0 ∧ ¬ (st y 0 0 0 0) 20 0 j ≤ (st y 0 0 0 0) 1 0 0) ∧ u = (st (st y 0 0 0 0) 0 0 0 3, ch)) ∨ ((p1 ≠ 0 ∧ p1 ≠ (st y 0 0 0 0) 18 0 j) ∧ ((st y 0 0 0 0) 22 0 j = 0 ∧ ¬ (st y 0 0 0 0) 20 0 j ≤ (st y 0 0 0 0) 1 0 0) ∧ nn = 40 ∧ u = (st (st y 0 0 0 0) 0 0 0 4, ch)) ∨ ((p1 ≠ 0 ∧ p1 ≠ (st y 0 0 0 0) 18 0 j) ∧ ((st y 0 0 0 0) 22 0 j = 0 ∧ ¬ (st y 0 0 0 0) 20 0 j ≤ (st y 0 0 0 0) 1 0 0) ∧ nn < 40 ∧ u = (mdM (st y 0 0 0 0) j nn nb p1, ch) ∧ r = nI nn)))) r2 w) : (∃ nb2 nn2 hr2, R2 u.1 w.1 w.2 nb2 nn2 hr2 (t + 1)) ∧ outOK g u.2 := by
  have hR := hR0.up ht
  refine ⟨?_, by rcases hc with ⟨-, v, -, -, h⟩ | ⟨-, -, h⟩ | ⟨-, -, h⟩ | ⟨-, -, h⟩ | ⟨-, -, h⟩ <;> (first | (rw [h]; exact ho.l) | (rw [h]; exact ho))⟩
  have hn := hR.gi.nn40
  have e1 : st y 0 0 0 0 1 0 0 = x 3 0 0 := (st_nr (by omega)).trans (hR.y1.trans hR.x3.symm)
  have f18 : ∀ j, j < nn → st y 0 0 0 0 18 0 j = x 31 j 0 := fun j hj => (st_nr (by omega)).trans (hR.fl j hj).2.1.symm
  have f20 : ∀ j, j < nn → st y 0 0 0 0 20 0 j = x 33 j 0 := fun j hj => (st_nr (by omega)).trans (hR.fl j hj).2.2.2.symm
  have f22 : ∀ j, j < nn → st y 0 0 0 0 22 0 j = x 34 j 0 := fun j hj => (st_nr (by omega)).trans (hR.fg j (by omega)).1.symm
  rcases hc with ⟨rfl, v, ⟨j, hj, ej, q1, q2, hlt, eu, ev⟩, -, e2⟩ | ⟨rfl, hpx, rfl⟩ | ⟨rfl, hpx, rfl⟩ | ⟨rfl, hpx, rfl⟩ | ⟨rfl, hpx, rfl⟩
  · rcases hm with ⟨h, -⟩ | ⟨k, hk, ek, h⟩
    · exact (bad_no hn hj ej h).elim
    · obtain rfl := ix_eq hn hj hk ej ek
      rw [e1, f18 j hj, f20 j hj, f22 j hj] at h
      rcases h with ⟨h, -⟩ | ⟨-, h, -⟩ | ⟨-, -, h, -⟩ | ⟨-, -, -, rfl, er⟩
      · exact absurd q1 h
      · exact absurd q2 h
      · omega
      · exact ⟨_, _, _, by rw [eu]; exact hR.tz.md hlt hj q2.2⟩
  · rcases hm with ⟨-, rfl⟩ | ⟨k, hk, ek, h⟩
    · exact ⟨_, _, _, hR.tz.tz⟩
    · rcases hpx with ⟨-, h1⟩ | ⟨j, hj, ej, ⟨h1, -⟩ | ⟨h1, -⟩ | ⟨h1, -⟩⟩
      · exact (bad_no hn hk ek h1).elim
      · exact absurd h1 (by decide)
      · exact absurd h1 (by decide)
      · exact absurd h1 (by decide)
  · rcases hpx with ⟨h1, -⟩ | ⟨j, hj, ej, ⟨-, h1⟩ | ⟨h1, -⟩ | ⟨h1, -⟩⟩
    · exact absurd h1 (by decide)
    · rcases hm with ⟨h, -⟩ | ⟨k, hk, ek, h⟩
      · exact (bad_no hn hj ej h).elim
      · obtain rfl := ix_eq hn hj hk ej ek
        rw [e1, f18 j hj, f20 j hj, f22 j hj] at h
        rcases h with ⟨h, rfl⟩ | ⟨h, -⟩ | ⟨h, -⟩ | ⟨h, -⟩
        · exact ⟨_, _, _, hR.tz.tz⟩
        · exact absurd h h1
        · exact absurd h h1
        · exact absurd h h1
    · exact absurd h1 (by decide)
    · exact absurd h1 (by decide)
  · rcases hpx with ⟨h1, -⟩ | ⟨j, hj, ej, ⟨h1, -⟩ | ⟨-, q1, h1⟩ | ⟨h1, -⟩⟩
    · exact absurd h1 (by decide)
    · exact absurd h1 (by decide)
    · rcases hm with ⟨h, -⟩ | ⟨k, hk, ek, h⟩
      · exact (bad_no hn hj ej h).elim
      · obtain rfl := ix_eq hn hj hk ej ek
        rw [e1, f18 j hj, f20 j hj, f22 j hj] at h
        rcases h with ⟨h, -⟩ | ⟨-, h, rfl⟩ | ⟨-, h, -⟩ | ⟨-, h, -⟩
        · exact absurd q1 h
        · exact ⟨_, _, _, hR.tz.tz⟩
        · exact absurd h h1
        · exact absurd h h1
    · exact absurd h1 (by decide)
  · rcases hpx with ⟨h1, -⟩ | ⟨j, hj, ej, ⟨h1, -⟩ | ⟨h1, -⟩ | ⟨-, q1, q2, h1⟩⟩
    · exact absurd h1 (by decide)
    · exact absurd h1 (by decide)
    · exact absurd h1 (by decide)
    · rcases hm with ⟨h, -⟩ | ⟨k, hk, ek, h⟩
      · exact (bad_no hn hj ej h).elim
      · obtain rfl := ix_eq hn hj hk ej ek
        rw [e1, f18 j hj, f20 j hj, f22 j hj] at h
        rcases h with ⟨h, -⟩ | ⟨-, h, -⟩ | ⟨-, -, -, rfl⟩ | ⟨-, -, h, -⟩
        · exact absurd q1 h
        · exact absurd q2 h
        · exact ⟨_, _, _, hR.tz.tz⟩
        · omega
theorem s_deny {x y : St} {ch : Int64} {nb nn hr t : Nat} {g : gE} {r0 : Nat → va_E} {f : Nat → Int64} {p0 p1 p2 : Int32} {r : Int32} {u : St × (Nat → va_E)} {r2 : Int32} {w : MS} (ht : t < 512) (hR0 : R2 x y ch nb nn hr t) (ho : outOK g r0) (hc : (fun (r : Int32) (u : St × (Nat → va_E)) => (r = 0 ∧ ∃ v : Int32, (fun (r : Int32) (u : St) => ((0 ≤ p1.toInt ∧ p1.toInt ≤ 3) ∧ (p0.toInt ≠ 0 ∧ p0.toInt ≠ -1) ∧ ¬ p2 ≤ x 3 0 0 ∧ p2.toInt ≤ 2000) ∧ nn < 40 ∧ u = piF (tkF x nn 10 (p0 ^^^ (-1)) (x 3 0 0) p2) nn p1 ∧ r = nI nn) v u.1 ∧ u.1 = u.1 ∧ u.2 = va_up r0 123 (oL g f v.toInt64)) ∨ (r = 1 ∧ (fun E => (E = "java/lang/IllegalArgumentException" ∧ ¬ ((0 ≤ p1.toInt ∧ p1.toInt ≤ 3) ∧ (p0.toInt ≠ 0 ∧ p0.toInt ≠ -1) ∧ ¬ p2 ≤ x 3 0 0 ∧ p2.toInt ≤ 2000)) ∨ (E = "java/lang/IllegalStateException" ∧ ((0 ≤ p1.toInt ∧ p1.toInt ≤ 3) ∧ (p0.toInt ≠ 0 ∧ p0.toInt ≠ -1) ∧ ¬ p2 ≤ x 3 0 0 ∧ p2.toInt ≤ 2000) ∧ nn = 40)) "java/lang/IllegalArgumentException" ∧ u = (x, r0)) ∨ (r = 2 ∧ (fun E => (E = "java/lang/IllegalArgumentException" ∧ ¬ ((0 ≤ p1.toInt ∧ p1.toInt ≤ 3) ∧ (p0.toInt ≠ 0 ∧ p0.toInt ≠ -1) ∧ ¬ p2 ≤ x 3 0 0 ∧ p2.toInt ≤ 2000)) ∨ (E = "java/lang/IllegalStateException" ∧ ((0 ≤ p1.toInt ∧ p1.toInt ≤ 3) ∧ (p0.toInt ≠ 0 ∧ p0.toInt ≠ -1) ∧ ¬ p2 ≤ x 3 0 0 ∧ p2.toInt ≤ 2000) ∧ nn = 40)) "java/lang/IllegalStateException" ∧ u = (x, r0))) r u) (hm : (fun (r : Int32) (u : MS) => (¬ ((0 ≤ p1.toInt ∧ p1.toInt ≤ 3) ∧ (p0.toInt ≠ 0 ∧ p0.toInt ≠ -1) ∧ ((st y 0 0 0 0) 1 0 0 + 1).toInt ≤ p2.toInt ∧ p2.toInt ≤ 2000) ∧ u = (st (st y 0 0 0 0) 0 0 0 1, ch)) ∨ (((0 ≤ p1.toInt ∧ p1.toInt ≤ 3) ∧ (p0.toInt ≠ 0 ∧ p0.toInt ≠ -1) ∧ ((st y 0 0 0 0) 1 0 0 + 1).toInt ≤ p2.toInt ∧ p2.toInt ≤ 2000) ∧ nn = 40 ∧ u = (st (st y 0 0 0 0) 0 0 0 2, ch)) ∨ (((0 ≤ p1.toInt ∧ p1.toInt ≤ 3) ∧ (p0.toInt ≠ 0 ∧ p0.toInt ≠ -1) ∧ ((st y 0 0 0 0) 1 0 0 + 1).toInt ≤ p2.toInt ∧ p2.toInt ≤ 2000) ∧ nn < 40 ∧ ∃ d, d < 4 ∧ p1 = nI d ∧ u = (qsM (adM (st y 0 0 0 0) nn 10 (p0 ^^^ (-1)) ((st y 0 0 0 0) 1 0 0) p2) nn d, ch) ∧ r = nI nn)) r2 w) : (∃ nb2 nn2 hr2, R2 u.1 w.1 w.2 nb2 nn2 hr2 (t + 1)) ∧ outOK g u.2 := by
  have hR := hR0.up ht
  refine ⟨?_, by rcases hc with ⟨-, v, -, -, h⟩ | ⟨-, -, h⟩ | ⟨-, -, h⟩ <;> (first | (rw [h]; exact ho.l) | (rw [h]; exact ho))⟩
  have e1 : st y 0 0 0 0 1 0 0 = x 3 0 0 := (st_nr (by omega)).trans (hR.y1.trans hR.x3.symm)
  have hb1 : (x 3 0 0).toInt < 2147483647 := by rw [hR.x3, nI_toInt (by have := hR.hr; omega)]; have := hR.hr; omega
  have hb2 : 0 ≤ (x 3 0 0).toInt := by rw [hR.x3, nI_toInt (by have := hR.hr; omega)]; omega
  rcases hc with ⟨rfl, v, ⟨ok, hlt, eu, ev⟩, -, e2⟩ | ⟨rfl, hpx, rfl⟩ | ⟨rfl, hpx, rfl⟩
  · rcases hm with ⟨h, -⟩ | ⟨-, h, -⟩ | ⟨-, -, d, hd9, ed9, rfl, er⟩
    · exact absurd (⟨ok.1, ok.2.1, by rw [e1]; exact sle ok.2.2.1 hb1, ok.2.2.2⟩) h
    · omega
    · exact ⟨_, _, _, by rw [eu, e1, ed9]; exact (hR.tz.tk hlt ⟨10, by omega, rfl⟩).dn (by omega) hd9⟩
  · rcases hpx with ⟨-, h1⟩ | ⟨h1, -⟩
    · rcases hm with ⟨-, rfl⟩ | ⟨h, -⟩ | ⟨h, -⟩
      · exact ⟨_, _, _, hR.tz.tz⟩
      · exact absurd (⟨h.1, h.2.1, sle2 (by rw [← e1]; exact h.2.2.1) hb1 hb2, h.2.2.2⟩) h1
      · exact absurd (⟨h.1, h.2.1, sle2 (by rw [← e1]; exact h.2.2.1) hb1 hb2, h.2.2.2⟩) h1
    · exact absurd h1 (by decide)
  · rcases hpx with ⟨h1, -⟩ | ⟨-, ok, h1⟩
    · exact absurd h1 (by decide)
    · rcases hm with ⟨h, -⟩ | ⟨-, -, rfl⟩ | ⟨-, h, -⟩
      · exact absurd (⟨ok.1, ok.2.1, by rw [e1]; exact sle ok.2.2.1 hb1, ok.2.2.2⟩) h
      · exact ⟨_, _, _, hR.tz.tz⟩
      · omega
theorem s_pass {x y : St} {ch : Int64} {nb nn hr t : Nat} {g : gE} {r0 : Nat → va_E} {f : Nat → Int64} {p0 p1 : Int32} {cnt : Nat} {r : Int32} {u : St × (Nat → va_E)} {r2 : Int32} {w : MS} (ht : t < 512) (hR0 : R2 x y ch nb nn hr t) (ho : outOK g r0) (hcn : cnt ≤ 512) (hx4 : x 4 0 0 = nI cnt) (hc : (fun (r : Int32) (u : St × (Nat → va_E)) => (r = 0 ∧ ∃ v : Int32, (fun (r : Int32) (u : St) => ∃ j, j < nb ∧ p0 = nI j ∧ (1 ≤ p1.toInt ∧ p1.toInt ≤ 999) ∧ ((x 12 j 0 = -1 ∧ r = 0 ∧ u = x) ∨ (∃ k, k < 40 ∧ x 12 j 0 = nI k ∧ u = paF x k p0 p1 cnt ∧ r = u 37 k p0.toNatClampNeg))) v u.1 ∧ u.1 = u.1 ∧ u.2 = va_up r0 123 (oL g f v.toInt64)) ∨ (r = 1 ∧ (fun E => (E = "java/lang/IndexOutOfBoundsException" ∧ (p0.toInt < 0 ∨ nb ≤ p0.toInt)) ∨ (E = "java/lang/IllegalArgumentException" ∧ (∃ j, j < nb ∧ p0 = nI j) ∧ ¬ (1 ≤ p1.toInt ∧ p1.toInt ≤ 999))) "java/lang/IndexOutOfBoundsException" ∧ u = (x, r0)) ∨ (r = 2 ∧ (fun E => (E = "java/lang/IndexOutOfBoundsException" ∧ (p0.toInt < 0 ∨ nb ≤ p0.toInt)) ∨ (E = "java/lang/IllegalArgumentException" ∧ (∃ j, j < nb ∧ p0 = nI j) ∧ ¬ (1 ≤ p1.toInt ∧ p1.toInt ≤ 999))) "java/lang/IllegalArgumentException" ∧ u = (x, r0))) r u) (hm : (fun (r : Int32) (u : MS) => ((p0.toInt < 0 ∨ nb ≤ p0.toInt) ∧ u = (st (st y 0 0 0 0) 0 0 0 1, ch)) ∨ (∃ j, j < nb ∧ p0 = nI j ∧ ((¬ (1 ≤ p1.toInt ∧ p1.toInt ≤ 999) ∧ u = (st (st y 0 0 0 0) 0 0 0 2, ch)) ∨ ((1 ≤ p1.toInt ∧ p1.toInt ≤ 999) ∧ (((st y 0 0 0 0) 12 0 j = -1 ∧ u = (st y 0 0 0 0, ch) ∧ r = 0) ∨ (∃ k, k < 40 ∧ (st y 0 0 0 0) 12 0 j = nI k ∧ u = (psM (st y 0 0 0 0) k j hr p1, ch) ∧ r = u.1 24 0 (6 * k + j))))))) r2 w) : (∃ nb2 nn2 hr2, R2 u.1 w.1 w.2 nb2 nn2 hr2 (t + 1)) ∧ outOK g u.2 := by
  have hR := hR0.up ht
  refine ⟨?_, by rcases hc with ⟨-, v, -, -, h⟩ | ⟨-, -, h⟩ | ⟨-, -, h⟩ <;> (first | (rw [h]; exact ho.l) | (rw [h]; exact ho))⟩
  have hnb := hR.gi.nb6
  rcases hc with ⟨rfl, v, ⟨j, hj, ej, hp, hv⟩, -, e2⟩ | ⟨rfl, hpx, rfl⟩ | ⟨rfl, hpx, rfl⟩
  · rcases hm with ⟨h, -⟩ | ⟨j2, hj2, ej2, ⟨h, -⟩ | ⟨-, hw⟩⟩
    · exact (bad_no (by omega) hj ej h).elim
    · exact absurd hp h
    · obtain rfl := ix_eq (by omega) hj hj2 ej ej2
      have e12 := (hR.bd hj).2.2
      have z12 : st y 0 0 0 0 12 0 j = y 12 0 j := st_nr (by omega)
      rcases hv with ⟨a1, -, eu⟩ | ⟨k, hk, ek, eu, ev⟩
      · rcases hw with ⟨-, rfl, -⟩ | ⟨k2, hk2, ek2, -⟩
        · exact ⟨_, _, _, by rw [eu]; exact hR.tz⟩
        · exact absurd ((a1.symm.trans e12).trans (z12.symm.trans ek2)).symm (nI_ne (by omega))
      · rcases hw with ⟨a2, -⟩ | ⟨k2, hk2, ek2, rfl, er⟩
        · exact absurd ((ek.symm.trans e12).trans (z12.symm.trans a2)) (nI_ne (by omega))
        · have ekk := (ek.symm.trans e12).trans (z12.symm.trans ek2)
          obtain rfl := (nI_eq (by omega) (by omega)).mp ekk
          exact ⟨_, _, _, by rw [eu, ej]; exact hR0.tz.ps ht hk (by omega) hp hcn hx4⟩
  · rcases hpx with ⟨-, h1⟩ | ⟨h1, -⟩
    · rcases hm with ⟨-, rfl⟩ | ⟨j2, hj2, ej2, -⟩
      · exact ⟨_, _, _, hR.tz.tz⟩
      · exact (bad_no (by omega) hj2 ej2 h1).elim
    · exact absurd h1 (by decide)
  · rcases hpx with ⟨h1, -⟩ | ⟨-, ⟨j, hj, ej⟩, h1⟩
    · exact absurd h1 (by decide)
    · rcases hm with ⟨h, -⟩ | ⟨j2, hj2, ej2, ⟨h, rfl⟩ | ⟨h, -⟩⟩
      · exact (bad_no (by omega) hj ej h).elim
      · exact ⟨_, _, _, hR.tz.tz⟩
      · exact absurd h h1
theorem s_go {x y : St} {ch : Int64} {nb nn hr t : Nat} {g : gE} {r0 : Nat → va_E} {f : Nat → Int64} {p0 : Int32} {r : Int32} {u : St × (Nat → va_E)} {r2 : Int32} {w : MS} (ht : t < 512) (hR0 : R2 x y ch nb nn hr t) (ho : outOK g r0) (hc : (fun (r : Int32) (u : St × (Nat → va_E)) => (r = 0 ∧ ∃ v : Int32, (fun (r : Int32) (u : St) => (1 ≤ p0.toInt ∧ p0.toInt ≤ 48) ∧ x 3 0 0 + p0 ≤ 2000 ∧ ∃ N, N ≤ 48 ∧ p0 = nI N ∧ u = goF x nb nn N ∧ r = u 3 0 0) v u.1 ∧ u.1 = u.1 ∧ u.2 = va_up r0 123 (oL g f v.toInt64)) ∨ (r = 1 ∧ (fun E => (E = "java/lang/IllegalArgumentException" ∧ ¬ (1 ≤ p0.toInt ∧ p0.toInt ≤ 48)) ∨ (E = "java/lang/IllegalStateException" ∧ (1 ≤ p0.toInt ∧ p0.toInt ≤ 48) ∧ ¬ x 3 0 0 + p0 ≤ 2000)) "java/lang/IllegalArgumentException" ∧ u = (x, r0)) ∨ (r = 2 ∧ (fun E => (E = "java/lang/IllegalArgumentException" ∧ ¬ (1 ≤ p0.toInt ∧ p0.toInt ≤ 48)) ∨ (E = "java/lang/IllegalStateException" ∧ (1 ≤ p0.toInt ∧ p0.toInt ≤ 48) ∧ ¬ x 3 0 0 + p0 ≤ 2000)) "java/lang/IllegalStateException" ∧ u = (x, r0))) r u) (hm : (fun (r : Int32) (u : MS) => (¬ (1 ≤ p0.toInt ∧ p0.toInt ≤ 48) ∧ u = (st (st y 0 0 0 0) 0 0 0 1, ch)) ∨ ((1 ≤ p0.toInt ∧ p0.toInt ≤ 48) ∧ ¬ (st y 0 0 0 0) 1 0 0 + p0 ≤ 2000 ∧ u = (st (st y 0 0 0 0) 0 0 0 2, ch)) ∨ ((1 ≤ p0.toInt ∧ p0.toInt ≤ 48) ∧ (st y 0 0 0 0) 1 0 0 + p0 ≤ 2000 ∧ ∃ N, N ≤ 48 ∧ p0 = nI N ∧ u = goM (st y 0 0 0 0, ch) nb nn N ∧ r = u.1 1 0 0)) r2 w) : (∃ nb2 nn2 hr2, R2 u.1 w.1 w.2 nb2 nn2 hr2 (t + 1)) ∧ outOK g u.2 := by
  have hR := hR0.up ht
  refine ⟨?_, by rcases hc with ⟨-, v, -, -, h⟩ | ⟨-, -, h⟩ | ⟨-, -, h⟩ <;> (first | (rw [h]; exact ho.l) | (rw [h]; exact ho))⟩
  have e1 : st y 0 0 0 0 1 0 0 = x 3 0 0 := (st_nr (by omega)).trans (hR.y1.trans hR.x3.symm)
  rcases hc with ⟨rfl, v, ⟨ok, hle, N, hN, eN, eu, ev⟩, -, e2⟩ | ⟨rfl, hpx, rfl⟩ | ⟨rfl, hpx, rfl⟩
  · rcases hm with ⟨h, -⟩ | ⟨-, h, -⟩ | ⟨-, -, N2, hN2, eN2, rfl, er⟩
    · exact absurd ok h
    · exact absurd (by rw [e1]; exact hle) h
    · have e9 : N2 = N := (nI_eq (by omega) (by omega)).mp (eN2.symm.trans eN)
      have h9 : hr + N ≤ 2000 := by
        have h8 := hR.hr
        rw [hR.x3, eN, nI_add, Int32.le_iff_toInt_le, nI_toInt (by omega), i_2000] at hle
        omega
      exact ⟨_, _, _, by rw [eu]; exact hR.tz.go hN h9 e9⟩
  · rcases hpx with ⟨-, h1⟩ | ⟨h1, -⟩
    · rcases hm with ⟨-, rfl⟩ | ⟨h, -⟩ | ⟨h, -⟩
      · exact ⟨_, _, _, hR.tz.tz⟩
      · exact absurd h h1
      · exact absurd h h1
    · exact absurd h1 (by decide)
  · rcases hpx with ⟨h1, -⟩ | ⟨-, ok, h1⟩
    · exact absurd h1 (by decide)
    · rcases hm with ⟨h, -⟩ | ⟨-, -, rfl⟩ | ⟨-, h, -⟩
      · exact absurd ok h
      · exact ⟨_, _, _, hR.tz.tz⟩
      · exact absurd (by rw [← e1]; exact h) h1
end SIM
