/-! laid by wip/gen -/
/-! CODES AND VALUES -/
section EQV
theorem e_addBoard {x y : St} {ch : Int64} {nb nn hr t : Nat} {g : gE} {r0 : Nat → va_E} {f : Nat → Int64} {p0 p1 : Int32} {r : Int32} {u : St × (Nat → va_E)} {r2 : Int32} {w : MS} (ht : t < 512) (hR0 : R2 x y ch nb nn hr t) (ho : outOK g r0) (hc : (fun (r : Int32) (u : St × (Nat → va_E)) => (r = 0 ∧ ∃ v : Int32, (fun (r : Int32) (u : St) => (0 ≤ p0.toInt ∧ p0.toInt ≤ 3 ∧ 0 ≤ p1.toInt ∧ p1.toInt ≤ 200) ∧ nb < 6 ∧ u = abF x nb p0 p1 ∧ r = u 0 0 0 - 1) v u.1 ∧ u.1 = u.1 ∧ u.2 = va_up r0 123 (oL g f v.toInt64)) ∨ (r = 1 ∧ (fun E => (E = "java/lang/IllegalArgumentException" ∧ ¬ (0 ≤ p0.toInt ∧ p0.toInt ≤ 3 ∧ 0 ≤ p1.toInt ∧ p1.toInt ≤ 200)) ∨ (E = "java/lang/IllegalStateException" ∧ (0 ≤ p0.toInt ∧ p0.toInt ≤ 3 ∧ 0 ≤ p1.toInt ∧ p1.toInt ≤ 200) ∧ nb = 6)) "java/lang/IllegalArgumentException" ∧ u = (x, r0)) ∨ (r = 2 ∧ (fun E => (E = "java/lang/IllegalArgumentException" ∧ ¬ (0 ≤ p0.toInt ∧ p0.toInt ≤ 3 ∧ 0 ≤ p1.toInt ∧ p1.toInt ≤ 200)) ∨ (E = "java/lang/IllegalStateException" ∧ (0 ≤ p0.toInt ∧ p0.toInt ≤ 3 ∧ 0 ≤ p1.toInt ∧ p1.toInt ≤ 200) ∧ nb = 6)) "java/lang/IllegalStateException" ∧ u = (x, r0))) r u) (hm : (fun (r : Int32) (u : MS) => (¬ (0 ≤ p0.toInt ∧ p0.toInt ≤ 3 ∧ 0 ≤ p1.toInt ∧ p1.toInt ≤ 200) ∧ u = (st (st y 0 0 0 0) 0 0 0 1, ch)) ∨ ((0 ≤ p0.toInt ∧ p0.toInt ≤ 3 ∧ 0 ≤ p1.toInt ∧ p1.toInt ≤ 200) ∧ nb = 6 ∧ u = (st (st y 0 0 0 0) 0 0 0 2, ch)) ∨ ((0 ≤ p0.toInt ∧ p0.toInt ≤ 3 ∧ 0 ≤ p1.toInt ∧ p1.toInt ≤ 200) ∧ nb < 6 ∧ u = (abM (st y 0 0 0 0) nb p0 p1, ch) ∧ r = u.1 3 0 0 - 1)) r2 w) : w.1 0 0 0 = r ∧ (r = 0 → ∃ V : Int64, u.2 = va_up r0 123 (oL g f V) ∧ V = r2.toInt64) := by
  have hR := hR0.1
  rcases hc with ⟨rfl, v, ⟨ok, hlt, eu, ev⟩, -, e2⟩ | ⟨rfl, hpx, rfl⟩ | ⟨rfl, hpx, rfl⟩
  · rcases hm with ⟨h, -⟩ | ⟨-, h, -⟩ | ⟨-, -, rfl, er⟩
    · exact absurd ok h
    · omega
    · ((try dsimp only); have hA := (R1.tz (v := 0) hR).add (q := p1) hlt ⟨ok.1, ok.2.1⟩; exact ⟨(st_nr (by omega)).trans ((st_nr (by omega)).trans ((st_nr (by omega)).trans ((st_nr (by omega)).trans st_eq))), fun _ => ⟨_, e2, by rw [ev, eu, er, hA.gi.x0]; show _ = (abM (st y 0 0 0 0) nb p0 p1 3 0 0 - 1).toInt64; rw [hA.mi.y3]⟩⟩)
  · rcases hpx with ⟨-, h1⟩ | ⟨h1, -⟩
    · rcases hm with ⟨-, rfl⟩ | ⟨h, -⟩ | ⟨h, -⟩
      · ((try dsimp only); exact ⟨st_eq, fun h => absurd h (by decide)⟩)
      · exact absurd h h1
      · exact absurd h h1
    · exact absurd h1 (by decide)
  · rcases hpx with ⟨h1, -⟩ | ⟨-, ok, h1⟩
    · exact absurd h1 (by decide)
    · rcases hm with ⟨h, -⟩ | ⟨-, -, rfl⟩ | ⟨-, h, -⟩
      · exact absurd ok h
      · ((try dsimp only); exact ⟨st_eq, fun h => absurd h (by decide)⟩)
      · omega
theorem e_setSun {x y : St} {ch : Int64} {nb nn hr t : Nat} {g : gE} {r0 : Nat → va_E} {f : Nat → Int64} {p0 : Int32} {r : Int32} {u : St × (Nat → va_E)} {r2 : Int32} {w : MS} (ht : t < 512) (hR0 : R2 x y ch nb nn hr t) (ho : outOK g r0) (hc : (fun (r : Int32) (u : St × (Nat → va_E)) => (r = 0 ∧ ∃ v : Int32, (fun (r : Int32) (u : St) => (0 ≤ p0.toInt ∧ p0.toInt ≤ 20) ∧ r = x 2 0 0 ∧ u = st x 2 0 0 p0) v u.1 ∧ u.1 = u.1 ∧ u.2 = va_up r0 123 (oL g f v.toInt64)) ∨ (r = 1 ∧ (fun E => E = "java/lang/IllegalArgumentException" ∧ ¬ (0 ≤ p0.toInt ∧ p0.toInt ≤ 20)) "java/lang/IllegalArgumentException" ∧ u = (x, r0))) r u) (hm : (fun (r : Int32) (u : MS) => (¬ (0 ≤ p0.toInt ∧ p0.toInt ≤ 20) ∧ u = (st (st y 0 0 0 0) 0 0 0 1, ch)) ∨ ((0 ≤ p0.toInt ∧ p0.toInt ≤ 20) ∧ u = (st (st y 0 0 0 0) 2 0 0 p0, ch) ∧ r = st y 0 0 0 0 2 0 0)) r2 w) : w.1 0 0 0 = r ∧ (r = 0 → ∃ V : Int64, u.2 = va_up r0 123 (oL g f V) ∧ V = r2.toInt64) := by
  have hR := hR0.1
  rcases hc with ⟨rfl, v, ⟨ok, ev, eu⟩, -, e2⟩ | ⟨rfl, ⟨-, h1⟩, rfl⟩
  · rcases hm with ⟨h, -⟩ | ⟨-, rfl, er⟩
    · exact absurd ok h
    · ((try dsimp only); exact ⟨(st_nr (by omega)).trans st_eq, fun _ => ⟨_, e2, by rw [ev, er, st_nr (by omega), hR.sun]⟩⟩)
  · rcases hm with ⟨-, rfl⟩ | ⟨h, -⟩
    · ((try dsimp only); exact ⟨st_eq, fun h => absurd h (by decide)⟩)
    · exact absurd h h1
theorem e_charge {x y : St} {ch : Int64} {nb nn hr t : Nat} {g : gE} {r0 : Nat → va_E} {f : Nat → Int64} {p0 : Int32} {r : Int32} {u : St × (Nat → va_E)} {r2 : Int32} {w : MS} (ht : t < 512) (hR0 : R2 x y ch nb nn hr t) (ho : outOK g r0) (hc : (fun (r : Int32) (u : St × (Nat → va_E)) => (r = 0 ∧ ∃ v : Int32, (fun (r : Int32) (_ : Unit) => ∃ j, j < nb ∧ p0 = nI j ∧ r = x 11 j 0) v () ∧ u.1 = x ∧ u.2 = va_up r0 123 (oL g f v.toInt64)) ∨ (r = 1 ∧ (fun E => E = "java/lang/IndexOutOfBoundsException" ∧ (p0.toInt < 0 ∨ nb ≤ p0.toInt)) "java/lang/IndexOutOfBoundsException" ∧ u = (x, r0))) r u) (hm : (fun (r : Int32) (u : MS) => ((p0.toInt < 0 ∨ nb ≤ p0.toInt) ∧ u = (st (st y 0 0 0 0) 0 0 0 1, ch)) ∨ (∃ j, j < nb ∧ p0 = nI j ∧ u = (st y 0 0 0 0, ch) ∧ r = st y 0 0 0 0 11 0 j)) r2 w) : w.1 0 0 0 = r ∧ (r = 0 → ∃ V : Int64, u.2 = va_up r0 123 (oL g f V) ∧ V = r2.toInt64) := by
  have hnb := hR0.gi.nb6
  rcases hc with ⟨rfl, v, ⟨j, hj, ej, ev⟩, -, e2⟩ | ⟨rfl, ⟨-, h1⟩, rfl⟩
  · rcases hm with ⟨h, -⟩ | ⟨k, hk, ek, rfl, er⟩
    · exact (bad_no (by omega) hj ej h).elim
    · obtain rfl := ix_eq (by omega) hj hk ej ek
      obtain ⟨⟨w9, q9, g⟩, g5, g6⟩ := (hR0.tz (v := 0)).bd hj
      exact ⟨(show st y 0 0 0 0 0 0 0 = 0 from st_eq), fun _ => ⟨_, e2, by rw [ev, er]; exact congrArg Int32.toInt64 (g.1.2.2.2.2.1.trans g.2.1.2.symm)⟩⟩
  · rcases hm with ⟨-, rfl⟩ | ⟨k, hk, ek, -⟩
    · ((try dsimp only); exact ⟨st_eq, fun h => absurd h (by decide)⟩)
    · exact (bad_no (by omega) hk ek h1).elim
theorem e_cell {x y : St} {ch : Int64} {nb nn hr t : Nat} {g : gE} {r0 : Nat → va_E} {f : Nat → Int64} {p0 p1 p2 : Int32} {r : Int32} {u : St × (Nat → va_E)} {r2 : Int32} {w : MS} (ht : t < 512) (hR0 : R2 x y ch nb nn hr t) (ho : outOK g r0) (hc : (fun (r : Int32) (u : St × (Nat → va_E)) => (r = 0 ∧ ∃ v : Int32, (fun (r : Int32) (_ : Unit) => ∃ j, j < nb ∧ p0 = nI j ∧ (0 ≤ p1.toInt ∧ p1.toInt < 8 ∧ 0 ≤ p2.toInt ∧ p2.toInt < 4) ∧ r = bitF (x 15 j 0) (8 * p2 + p1)) v () ∧ u.1 = x ∧ u.2 = va_up r0 123 (oL g f v.toInt64)) ∨ (r = 1 ∧ (fun E => E = "java/lang/IndexOutOfBoundsException" ∧ ((p0.toInt < 0 ∨ nb ≤ p0.toInt) ∨ ¬ (0 ≤ p1.toInt ∧ p1.toInt < 8 ∧ 0 ≤ p2.toInt ∧ p2.toInt < 4))) "java/lang/IndexOutOfBoundsException" ∧ u = (x, r0))) r u) (hm : (fun (r : Int32) (u : MS) => ((((p0.toInt < 0 ∨ nb ≤ p0.toInt) ∨ ¬ (0 ≤ p1.toInt ∧ p1.toInt < 8 ∧ 0 ≤ p2.toInt ∧ p2.toInt < 4))) ∧ u = (st (st y 0 0 0 0) 0 0 0 1, ch)) ∨ (∃ j, j < nb ∧ p0 = nI j ∧ ∃ c, c < 8 ∧ p1 = nI c ∧ ∃ q, q < 4 ∧ p2 = nI q ∧ u = (st y 0 0 0 0, ch) ∧ r = if st y 0 0 0 0 15 0 (32 * j + 8 * q + c) = 0 then 0 else 1)) r2 w) : w.1 0 0 0 = r ∧ (r = 0 → ∃ V : Int64, u.2 = va_up r0 123 (oL g f V) ∧ V = r2.toInt64) := by
  have hnb := hR0.gi.nb6
  rcases hc with ⟨rfl, v, ⟨j, hj, ej, hcr, ev⟩, -, e2⟩ | ⟨rfl, ⟨-, h1⟩, rfl⟩
  · rcases hm with ⟨h, -⟩ | ⟨k, hk, ek, c, hc9, ec, q, hq, eq, rfl, er⟩
    · rcases h with h | h
      · exact (bad_no (by omega) hj ej h).elim
      · exact absurd hcr h
    · obtain rfl := ix_eq (by omega) hj hk ej ek
      obtain ⟨⟨w9, q9, g⟩, g5, g6⟩ := (hR0.tz (v := 0)).bd hj
      have ep : 8 * p2 + p1 = nI (8 * q + c) := by rw [ec, eq, m8, nI_add]
      have ei : 32 * j + 8 * q + c = 32 * j + (8 * q + c) := by omega
      exact ⟨(show st y 0 0 0 0 0 0 0 = 0 from st_eq), fun _ => ⟨_, e2, by rw [ev, er, ep, ei]; exact congrArg Int32.toInt64 (cell_v g (by omega))⟩⟩
  · rcases hm with ⟨-, rfl⟩ | ⟨k, hk, ek, c, hc9, ec, q, hq, eq, -⟩
    · ((try dsimp only); exact ⟨st_eq, fun h => absurd h (by decide)⟩)
    · rcases h1 with h1 | h1
      · exact (bad_no (by omega) hk ek h1).elim
      · exact absurd (by rw [ec, eq, nI_toInt (by omega), nI_toInt (by omega)]; omega) h1
theorem e_wear {x y : St} {ch : Int64} {nb nn hr t : Nat} {g : gE} {r0 : Nat → va_E} {f : Nat → Int64} {p0 p1 p2 : Int32} {r : Int32} {u : St × (Nat → va_E)} {r2 : Int32} {w : MS} (ht : t < 512) (hR0 : R2 x y ch nb nn hr t) (ho : outOK g r0) (hc : (fun (r : Int32) (u : St × (Nat → va_E)) => (r = 0 ∧ ∃ v : Int32, (fun (r : Int32) (_ : Unit) => ∃ j, j < nb ∧ p0 = nI j ∧ (0 ≤ p1.toInt ∧ p1.toInt < 8 ∧ 0 ≤ p2.toInt ∧ p2.toInt < 4) ∧ r = wearF x j (8 * p2 + p1)) v () ∧ u.1 = x ∧ u.2 = va_up r0 123 (oL g f v.toInt64)) ∨ (r = 1 ∧ (fun E => E = "java/lang/IndexOutOfBoundsException" ∧ ((p0.toInt < 0 ∨ nb ≤ p0.toInt) ∨ ¬ (0 ≤ p1.toInt ∧ p1.toInt < 8 ∧ 0 ≤ p2.toInt ∧ p2.toInt < 4))) "java/lang/IndexOutOfBoundsException" ∧ u = (x, r0))) r u) (hm : (fun (r : Int32) (u : MS) => ((((p0.toInt < 0 ∨ nb ≤ p0.toInt) ∨ ¬ (0 ≤ p1.toInt ∧ p1.toInt < 8 ∧ 0 ≤ p2.toInt ∧ p2.toInt < 4))) ∧ u = (st (st y 0 0 0 0) 0 0 0 1, ch)) ∨ (∃ j, j < nb ∧ p0 = nI j ∧ ∃ c, c < 8 ∧ p1 = nI c ∧ ∃ q, q < 4 ∧ p2 = nI q ∧ u = (st y 0 0 0 0, ch) ∧ r = st y 0 0 0 0 16 0 (32 * j + 8 * q + c))) r2 w) : w.1 0 0 0 = r ∧ (r = 0 → ∃ V : Int64, u.2 = va_up r0 123 (oL g f V) ∧ V = r2.toInt64) := by
  have hnb := hR0.gi.nb6
  rcases hc with ⟨rfl, v, ⟨j, hj, ej, hcr, ev⟩, -, e2⟩ | ⟨rfl, ⟨-, h1⟩, rfl⟩
  · rcases hm with ⟨h, -⟩ | ⟨k, hk, ek, c, hc9, ec, q, hq, eq, rfl, er⟩
    · rcases h with h | h
      · exact (bad_no (by omega) hj ej h).elim
      · exact absurd hcr h
    · obtain rfl := ix_eq (by omega) hj hk ej ek
      obtain ⟨⟨w9, q9, g⟩, g5, g6⟩ := (hR0.tz (v := 0)).bd hj
      have ep : 8 * p2 + p1 = nI (8 * q + c) := by rw [ec, eq, m8, nI_add]
      have ei : 32 * j + 8 * q + c = 32 * j + (8 * q + c) := by omega
      exact ⟨(show st y 0 0 0 0 0 0 0 = 0 from st_eq), fun _ => ⟨_, e2, by rw [ev, er, ep, ei]; exact congrArg Int32.toInt64 (wear_v g (by omega))⟩⟩
  · rcases hm with ⟨-, rfl⟩ | ⟨k, hk, ek, c, hc9, ec, q, hq, eq, -⟩
    · ((try dsimp only); exact ⟨st_eq, fun h => absurd h (by decide)⟩)
    · rcases h1 with h1 | h1
      · exact (bad_no (by omega) hk ek h1).elim
      · exact absurd (by rw [ec, eq, nI_toInt (by omega), nI_toInt (by omega)]; omega) h1
theorem e_shows {x y : St} {ch : Int64} {nb nn hr t : Nat} {g : gE} {r0 : Nat → va_E} {f : Nat → Int64} {p0 : Int32} {r : Int32} {u : St × (Nat → va_E)} {r2 : Int32} {w : MS} (ht : t < 512) (hR0 : R2 x y ch nb nn hr t) (ho : outOK g r0) (hc : (fun (r : Int32) (u : St × (Nat → va_E)) => (r = 0 ∧ ∃ v : Int32, (fun (r : Int32) (_ : Unit) => ∃ j, j < nb ∧ p0 = nI j ∧ r = x 12 j 0) v () ∧ u.1 = x ∧ u.2 = va_up r0 123 (oL g f v.toInt64)) ∨ (r = 1 ∧ (fun E => E = "java/lang/IndexOutOfBoundsException" ∧ (p0.toInt < 0 ∨ nb ≤ p0.toInt)) "java/lang/IndexOutOfBoundsException" ∧ u = (x, r0))) r u) (hm : (fun (r : Int32) (u : MS) => ((p0.toInt < 0 ∨ nb ≤ p0.toInt) ∧ u = (st (st y 0 0 0 0) 0 0 0 1, ch)) ∨ (∃ j, j < nb ∧ p0 = nI j ∧ u = (st y 0 0 0 0, ch) ∧ r = st y 0 0 0 0 12 0 j)) r2 w) : w.1 0 0 0 = r ∧ (r = 0 → ∃ V : Int64, u.2 = va_up r0 123 (oL g f V) ∧ V = r2.toInt64) := by
  have hnb := hR0.gi.nb6
  rcases hc with ⟨rfl, v, ⟨j, hj, ej, ev⟩, -, e2⟩ | ⟨rfl, ⟨-, h1⟩, rfl⟩
  · rcases hm with ⟨h, -⟩ | ⟨k, hk, ek, rfl, er⟩
    · exact (bad_no (by omega) hj ej h).elim
    · obtain rfl := ix_eq (by omega) hj hk ej ek
      obtain ⟨⟨w9, q9, g⟩, g5, g6⟩ := (hR0.tz (v := 0)).bd hj
      exact ⟨(show st y 0 0 0 0 0 0 0 = 0 from st_eq), fun _ => ⟨_, e2, by rw [ev, er]; exact congrArg Int32.toInt64 (g6)⟩⟩
  · rcases hm with ⟨-, rfl⟩ | ⟨k, hk, ek, -⟩
    · ((try dsimp only); exact ⟨st_eq, fun h => absurd h (by decide)⟩)
    · exact (bad_no (by omega) hk ek h1).elim
theorem e_shift {x y : St} {ch : Int64} {nb nn hr t : Nat} {g : gE} {r0 : Nat → va_E} {f : Nat → Int64} {p0 : Int32} {r : Int32} {u : St × (Nat → va_E)} {r2 : Int32} {w : MS} (ht : t < 512) (hR0 : R2 x y ch nb nn hr t) (ho : outOK g r0) (hc : (fun (r : Int32) (u : St × (Nat → va_E)) => (r = 0 ∧ ∃ v : Int32, (fun (r : Int32) (_ : Unit) => ∃ j, j < nb ∧ p0 = nI j ∧ r = x 13 j 0) v () ∧ u.1 = x ∧ u.2 = va_up r0 123 (oL g f v.toInt64)) ∨ (r = 1 ∧ (fun E => E = "java/lang/IndexOutOfBoundsException" ∧ (p0.toInt < 0 ∨ nb ≤ p0.toInt)) "java/lang/IndexOutOfBoundsException" ∧ u = (x, r0))) r u) (hm : (fun (r : Int32) (u : MS) => ((p0.toInt < 0 ∨ nb ≤ p0.toInt) ∧ u = (st (st y 0 0 0 0) 0 0 0 1, ch)) ∨ (∃ j, j < nb ∧ p0 = nI j ∧ u = (st y 0 0 0 0, ch) ∧ r = st y 0 0 0 0 13 0 j)) r2 w) : w.1 0 0 0 = r ∧ (r = 0 → ∃ V : Int64, u.2 = va_up r0 123 (oL g f V) ∧ V = r2.toInt64) := by
  have hnb := hR0.gi.nb6
  rcases hc with ⟨rfl, v, ⟨j, hj, ej, ev⟩, -, e2⟩ | ⟨rfl, ⟨-, h1⟩, rfl⟩
  · rcases hm with ⟨h, -⟩ | ⟨k, hk, ek, rfl, er⟩
    · exact (bad_no (by omega) hj ej h).elim
    · obtain rfl := ix_eq (by omega) hj hk ej ek
      obtain ⟨⟨w9, q9, g⟩, g5, g6⟩ := (hR0.tz (v := 0)).bd hj
      exact ⟨(show st y 0 0 0 0 0 0 0 = 0 from st_eq), fun _ => ⟨_, e2, by rw [ev, er]; exact congrArg Int32.toInt64 (g.2.2.2)⟩⟩
  · rcases hm with ⟨-, rfl⟩ | ⟨k, hk, ek, -⟩
    · ((try dsimp only); exact ⟨st_eq, fun h => absurd h (by decide)⟩)
    · exact (bad_no (by omega) hk ek h1).elim
theorem e_sleeps {x y : St} {ch : Int64} {nb nn hr t : Nat} {g : gE} {r0 : Nat → va_E} {f : Nat → Int64} {p0 : Int32} {r : Int32} {u : St × (Nat → va_E)} {r2 : Int32} {w : MS} (ht : t < 512) (hR0 : R2 x y ch nb nn hr t) (ho : outOK g r0) (hc : (fun (r : Int32) (u : St × (Nat → va_E)) => (r = 0 ∧ ∃ v : Int32, (fun (r : Int32) (_ : Unit) => ∃ j, j < nb ∧ p0 = nI j ∧ r = x 14 j 0) v () ∧ u.1 = x ∧ u.2 = va_up r0 123 (oL g f (if v = 0 then 0 else 1))) ∨ (r = 1 ∧ (fun E => E = "java/lang/IndexOutOfBoundsException" ∧ (p0.toInt < 0 ∨ nb ≤ p0.toInt)) "java/lang/IndexOutOfBoundsException" ∧ u = (x, r0))) r u) (hm : (fun (r : Int32) (u : MS) => ((p0.toInt < 0 ∨ nb ≤ p0.toInt) ∧ u = (st (st y 0 0 0 0) 0 0 0 1, ch)) ∨ (∃ j, j < nb ∧ p0 = nI j ∧ u = (st y 0 0 0 0, ch) ∧ r = if st y 0 0 0 0 14 0 j = 0 then 0 else 1)) r2 w) : w.1 0 0 0 = r ∧ (r = 0 → ∃ V : Int64, u.2 = va_up r0 123 (oL g f V) ∧ (r2 = 0 → V = 0) ∧ (¬ r2 = 0 → V = 1)) := by
  have hnb := hR0.gi.nb6
  rcases hc with ⟨rfl, v, ⟨j, hj, ej, ev⟩, -, e2⟩ | ⟨rfl, ⟨-, h1⟩, rfl⟩
  · rcases hm with ⟨h, -⟩ | ⟨k, hk, ek, rfl, er⟩
    · exact (bad_no (by omega) hj ej h).elim
    · obtain rfl := ix_eq (by omega) hj hk ej ek
      obtain ⟨⟨w9, q9, g⟩, g5, g6⟩ := (hR0.tz (v := 0)).bd hj
      refine ⟨(show st y 0 0 0 0 0 0 0 = 0 from st_eq), fun _ => ⟨_, e2, fun h0 => ?_, fun h0 => ?_⟩⟩
      · rw [er] at h0
        by_cases h9 : st y 0 0 0 0 14 0 j = 0
        · rw [if_pos (by rw [ev]; exact g5.trans h9)]
        · rw [if_neg h9] at h0; exact absurd h0 (by decide)
      · rw [er] at h0
        by_cases h9 : st y 0 0 0 0 14 0 j = 0
        · rw [if_pos h9] at h0; exact absurd rfl h0
        · rw [if_neg (fun h8 => h9 (by rw [← g5, ← ev]; exact h8))]
  · rcases hm with ⟨-, rfl⟩ | ⟨k, hk, ek, -⟩
    · ((try dsimp only); exact ⟨st_eq, fun h => absurd h (by decide)⟩)
    · exact (bad_no (by omega) hk ek h1).elim
theorem e_post {x y : St} {ch : Int64} {nb nn hr t : Nat} {g : gE} {r0 : Nat → va_E} {f : Nat → Int64} {p0 p1 p2 p3 : Int32} {r : Int32} {u : St × (Nat → va_E)} {r2 : Int32} {w : MS} (ht : t < 512) (hR0 : R2 x y ch nb nn hr t) (ho : outOK g r0) (hc : (fun (r : Int32) (u : St × (Nat → va_E)) => (r = 0 ∧ ∃ v : Int32, (fun (r : Int32) (u : St) => (0 ≤ p0.toInt ∧ p0.toInt ≤ 9 ∧ p1.toInt ≠ 0 ∧ 0 ≤ p2.toInt ∧ p2.toInt < p3.toInt ∧ p3.toInt ≤ 2000) ∧ nn < 40 ∧ u = tkF x nn p0 p1 p2 p3 ∧ r = nI nn) v u.1 ∧ u.1 = u.1 ∧ u.2 = va_up r0 123 (oL g f v.toInt64)) ∨ (r = 1 ∧ (fun E => (E = "java/lang/IllegalArgumentException" ∧ ¬ (0 ≤ p0.toInt ∧ p0.toInt ≤ 9 ∧ p1.toInt ≠ 0 ∧ 0 ≤ p2.toInt ∧ p2.toInt < p3.toInt ∧ p3.toInt ≤ 2000)) ∨ (E = "java/lang/IllegalStateException" ∧ (0 ≤ p0.toInt ∧ p0.toInt ≤ 9 ∧ p1.toInt ≠ 0 ∧ 0 ≤ p2.toInt ∧ p2.toInt < p3.toInt ∧ p3.toInt ≤ 2000) ∧ nn = 40)) "java/lang/IllegalArgumentException" ∧ u = (x, r0)) ∨ (r = 2 ∧ (fun E => (E = "java/lang/IllegalArgumentException" ∧ ¬ (0 ≤ p0.toInt ∧ p0.toInt ≤ 9 ∧ p1.toInt ≠ 0 ∧ 0 ≤ p2.toInt ∧ p2.toInt < p3.toInt ∧ p3.toInt ≤ 2000)) ∨ (E = "java/lang/IllegalStateException" ∧ (0 ≤ p0.toInt ∧ p0.toInt ≤ 9 ∧ p1.toInt ≠ 0 ∧ 0 ≤ p2.toInt ∧ p2.toInt < p3.toInt ∧ p3.toInt ≤ 2000) ∧ nn = 40)) "java/lang/IllegalStateException" ∧ u = (x, r0))) r u) (hm : (fun (r : Int32) (u : MS) => (¬ (0 ≤ p0.toInt ∧ p0.toInt ≤ 9 ∧ p1.toInt ≠ 0 ∧ 0 ≤ p2.toInt ∧ p2.toInt < p3.toInt ∧ p3.toInt ≤ 2000) ∧ u = (st (st y 0 0 0 0) 0 0 0 1, ch)) ∨ ((0 ≤ p0.toInt ∧ p0.toInt ≤ 9 ∧ p1.toInt ≠ 0 ∧ 0 ≤ p2.toInt ∧ p2.toInt < p3.toInt ∧ p3.toInt ≤ 2000) ∧ nn = 40 ∧ u = (st (st y 0 0 0 0) 0 0 0 2, ch)) ∨ ((0 ≤ p0.toInt ∧ p0.toInt ≤ 9 ∧ p1.toInt ≠ 0 ∧ 0 ≤ p2.toInt ∧ p2.toInt < p3.toInt ∧ p3.toInt ≤ 2000) ∧ nn < 40 ∧ u = (adM (st y 0 0 0 0) nn p0 p1 p2 p3, ch) ∧ r = nI nn)) r2 w) : w.1 0 0 0 = r ∧ (r = 0 → ∃ V : Int64, u.2 = va_up r0 123 (oL g f V) ∧ V = r2.toInt64) := by
  have hR := hR0.1
  rcases hc with ⟨rfl, v, ⟨ok, hlt, eu, ev⟩, -, e2⟩ | ⟨rfl, hpx, rfl⟩ | ⟨rfl, hpx, rfl⟩
  · rcases hm with ⟨h, -⟩ | ⟨-, h, -⟩ | ⟨-, -, rfl, er⟩
    · exact absurd ok h
    · omega
    · ((try dsimp only); exact ⟨(ad_r (by omega)).trans st_eq, fun _ => ⟨_, e2, by rw [ev, er]⟩⟩)
  · rcases hpx with ⟨-, h1⟩ | ⟨h1, -⟩
    · rcases hm with ⟨-, rfl⟩ | ⟨h, -⟩ | ⟨h, -⟩
      · ((try dsimp only); exact ⟨st_eq, fun h => absurd h (by decide)⟩)
      · exact absurd h h1
      · exact absurd h h1
    · exact absurd h1 (by decide)
  · rcases hpx with ⟨h1, -⟩ | ⟨-, ok, h1⟩
    · exact absurd h1 (by decide)
    · rcases hm with ⟨h, -⟩ | ⟨-, -, rfl⟩ | ⟨-, h, -⟩
      · exact absurd ok h
      · ((try dsimp only); exact ⟨st_eq, fun h => absurd h (by decide)⟩)
      · omega
theorem e_takeBack {x y : St} {ch : Int64} {nb nn hr t : Nat} {g : gE} {r0 : Nat → va_E} {f : Nat → Int64} {p0 p1 : Int32} {r : Int32} {u : St × (Nat → va_E)} {r2 : Int32} {w : MS} (ht : t < 512) (hR0 : R2 x y ch nb nn hr t) (ho : outOK g r0) (hc : (fun (r : Int32) (u : St × (Nat → va_E)) => (r = 0 ∧ ∃ v : Int32, (fun (r : Int32) (u : St) => ∃ j, j < nn ∧ p0 = nI j ∧ (¬ p1 ≤ x 3 0 0 ∧ p1 ≤ x 33 j 0 ∧ x 34 j 0 = 0) ∧ u = st (st x 35 j 0 1) 33 j 0 p1 ∧ r = btF u j nb) v u.1 ∧ u.1 = u.1 ∧ u.2 = va_up r0 123 (oL g f v.toInt64)) ∨ (r = 1 ∧ (fun E => (E = "java/lang/IndexOutOfBoundsException" ∧ (p0.toInt < 0 ∨ nn ≤ p0.toInt)) ∨ (∃ j, j < nn ∧ p0 = nI j ∧ ((E = "java/lang/IllegalArgumentException" ∧ (p1 ≤ x 3 0 0 ∨ ¬ p1 ≤ x 33 j 0)) ∨ (E = "java/lang/UnsupportedOperationException" ∧ (¬ p1 ≤ x 3 0 0 ∧ p1 ≤ x 33 j 0) ∧ ¬ x 34 j 0 = 0)))) "java/lang/IndexOutOfBoundsException" ∧ u = (x, r0)) ∨ (r = 2 ∧ (fun E => (E = "java/lang/IndexOutOfBoundsException" ∧ (p0.toInt < 0 ∨ nn ≤ p0.toInt)) ∨ (∃ j, j < nn ∧ p0 = nI j ∧ ((E = "java/lang/IllegalArgumentException" ∧ (p1 ≤ x 3 0 0 ∨ ¬ p1 ≤ x 33 j 0)) ∨ (E = "java/lang/UnsupportedOperationException" ∧ (¬ p1 ≤ x 3 0 0 ∧ p1 ≤ x 33 j 0) ∧ ¬ x 34 j 0 = 0)))) "java/lang/IllegalArgumentException" ∧ u = (x, r0)) ∨ (r = 3 ∧ (fun E => (E = "java/lang/IndexOutOfBoundsException" ∧ (p0.toInt < 0 ∨ nn ≤ p0.toInt)) ∨ (∃ j, j < nn ∧ p0 = nI j ∧ ((E = "java/lang/IllegalArgumentException" ∧ (p1 ≤ x 3 0 0 ∨ ¬ p1 ≤ x 33 j 0)) ∨ (E = "java/lang/UnsupportedOperationException" ∧ (¬ p1 ≤ x 3 0 0 ∧ p1 ≤ x 33 j 0) ∧ ¬ x 34 j 0 = 0)))) "java/lang/UnsupportedOperationException" ∧ u = (x, r0))) r u) (hm : (fun (r : Int32) (u : MS) => ((p0.toInt < 0 ∨ nn ≤ p0.toInt) ∧ u = (st (st y 0 0 0 0) 0 0 0 1, ch)) ∨ (∃ j, j < nn ∧ p0 = nI j ∧ (((p1 ≤ (st y 0 0 0 0) 1 0 0 ∨ ¬ p1 ≤ (st y 0 0 0 0) 20 0 j) ∧ u = (st (st y 0 0 0 0) 0 0 0 2, ch)) ∨ ((¬ p1 ≤ (st y 0 0 0 0) 1 0 0 ∧ p1 ≤ (st y 0 0 0 0) 20 0 j) ∧ (st y 0 0 0 0) 22 0 j ≠ 0 ∧ u = (st (st y 0 0 0 0) 0 0 0 3, ch)) ∨ ((¬ p1 ≤ (st y 0 0 0 0) 1 0 0 ∧ p1 ≤ (st y 0 0 0 0) 20 0 j) ∧ (st y 0 0 0 0) 22 0 j = 0 ∧ u = (tbM (st y 0 0 0 0) j p1, ch) ∧ r = cnP (fun b => u.1 12 0 b = nI j) nb)))) r2 w) : w.1 0 0 0 = r ∧ (r = 0 → ∃ V : Int64, u.2 = va_up r0 123 (oL g f V) ∧ V = r2.toInt64) := by
  have hR := hR0.1
  have hn := hR.gi.nn40
  have e1 : st y 0 0 0 0 1 0 0 = x 3 0 0 := (st_nr (by omega)).trans (hR.y1.trans hR.x3.symm)
  have f20 : ∀ j, j < nn → st y 0 0 0 0 20 0 j = x 33 j 0 := fun j hj => (st_nr (by omega)).trans (hR.fl j hj).2.2.2.symm
  have f22 : ∀ j, j < nn → st y 0 0 0 0 22 0 j = x 34 j 0 := fun j hj => (st_nr (by omega)).trans (hR.fg j (by omega)).1.symm
  rcases hc with ⟨rfl, v, ⟨j, hj, ej, hq, eu, ev⟩, -, e2⟩ | ⟨rfl, hpx, rfl⟩ | ⟨rfl, hpx, rfl⟩ | ⟨rfl, hpx, rfl⟩
  · rcases hm with ⟨h, -⟩ | ⟨k, hk, ek, ⟨h, -⟩ | ⟨-, h, -⟩ | ⟨-, -, rfl, er⟩⟩
    · exact (bad_no hn hj ej h).elim
    · obtain rfl := ix_eq hn hj hk ej ek
      rw [e1, f20 j hj] at h
      exact h.elim (fun h => absurd h hq.1) (fun h => absurd hq.2.1 h)
    · obtain rfl := ix_eq hn hj hk ej ek
      rw [f22 j hj] at h
      exact absurd hq.2.2 h
    · obtain rfl := ix_eq hn hj hk ej ek
      ((try dsimp only); exact ⟨(st_nr (by omega)).trans ((st_nr (by omega)).trans st_eq), fun _ => ⟨_, e2, by rw [ev, er, eu]; exact congrArg Int32.toInt64 (btF_v (x := st (st x 35 j 0 1) 33 j 0 p1) (y := tbM (st y 0 0 0 0) j p1) (fun b hb => (show st (st x 35 j 0 1) 33 j 0 p1 12 b 0 = x 12 b 0 from (st_nr (by omega)).trans (st_nr (by omega))).trans ((hR0.bd hb).2.2.trans (show y 12 0 b = tbM (st y 0 0 0 0) j p1 12 0 b from ((st_nr (by omega)).trans ((st_nr (by omega)).trans (st_nr (by omega)))).symm))))⟩⟩)
  · rcases hm with ⟨-, rfl⟩ | ⟨k, hk, ek, h⟩
    · ((try dsimp only); exact ⟨st_eq, fun h => absurd h (by decide)⟩)
    · rcases hpx with ⟨-, h1⟩ | ⟨j, hj, ej, ⟨h1, -⟩ | ⟨h1, -⟩⟩
      · exact (bad_no hn hk ek h1).elim
      · exact absurd h1 (by decide)
      · exact absurd h1 (by decide)
  · rcases hpx with ⟨h1, -⟩ | ⟨j, hj, ej, ⟨-, h1⟩ | ⟨h1, -⟩⟩
    · exact absurd h1 (by decide)
    · rcases hm with ⟨h, -⟩ | ⟨k, hk, ek, ⟨h, rfl⟩ | ⟨h, -⟩ | ⟨h, -⟩⟩
      · exact (bad_no hn hj ej h).elim
      · ((try dsimp only); exact ⟨st_eq, fun h => absurd h (by decide)⟩)
      · obtain rfl := ix_eq hn hj hk ej ek
        rw [e1, f20 j hj] at h
        exact h1.elim (fun h9 => absurd h9 h.1) (fun h9 => absurd h.2 h9)
      · obtain rfl := ix_eq hn hj hk ej ek
        rw [e1, f20 j hj] at h
        exact h1.elim (fun h9 => absurd h9 h.1) (fun h9 => absurd h.2 h9)
    · exact absurd h1 (by decide)
  · rcases hpx with ⟨h1, -⟩ | ⟨j, hj, ej, ⟨h1, -⟩ | ⟨-, h1, h2⟩⟩
    · exact absurd h1 (by decide)
    · exact absurd h1 (by decide)
    · rcases hm with ⟨h, -⟩ | ⟨k, hk, ek, ⟨h, -⟩ | ⟨-, h, rfl⟩ | ⟨-, h, -⟩⟩
      · exact (bad_no hn hj ej h).elim
      · obtain rfl := ix_eq hn hj hk ej ek
        rw [e1, f20 j hj] at h
        exact h.elim (fun h => absurd h h1.1) (fun h => absurd h1.2 h)
      · ((try dsimp only); exact ⟨st_eq, fun h => absurd h (by decide)⟩)
      · obtain rfl := ix_eq hn hj hk ej ek
        rw [f22 j hj] at h
        exact absurd h h2
theorem e_mend {x y : St} {ch : Int64} {nb nn hr t : Nat} {g : gE} {r0 : Nat → va_E} {f : Nat → Int64} {p0 p1 : Int32} {r : Int32} {u : St × (Nat → va_E)} {r2 : Int32} {w : MS} (ht : t < 512) (hR0 : R2 x y ch nb nn hr t) (ho : outOK g r0) (hc : (fun (r : Int32) (u : St × (Nat → va_E)) => (r = 0 ∧ ∃ v : Int32, (fun (r : Int32) (u : St) => ∃ j, j < nn ∧ p0 = nI j ∧ (p1 ≠ 0 ∧ p1 ≠ x 31 j 0) ∧ (x 34 j 0 = 0 ∧ ¬ x 33 j 0 ≤ x 3 0 0) ∧ nn < 40 ∧ u = mdF x j nn nb p1 ∧ r = nI nn) v u.1 ∧ u.1 = u.1 ∧ u.2 = va_up r0 123 (oL g f v.toInt64)) ∨ (r = 1 ∧ (fun E => (E = "java/lang/IndexOutOfBoundsException" ∧ (p0.toInt < 0 ∨ nn ≤ p0.toInt)) ∨ (∃ j, j < nn ∧ p0 = nI j ∧ ((E = "java/lang/IllegalArgumentException" ∧ ¬ (p1 ≠ 0 ∧ p1 ≠ x 31 j 0)) ∨ (E = "java/lang/UnsupportedOperationException" ∧ (p1 ≠ 0 ∧ p1 ≠ x 31 j 0) ∧ ¬ (x 34 j 0 = 0 ∧ ¬ x 33 j 0 ≤ x 3 0 0)) ∨ (E = "java/lang/IllegalStateException" ∧ (p1 ≠ 0 ∧ p1 ≠ x 31 j 0) ∧ (x 34 j 0 = 0 ∧ ¬ x 33 j 0 ≤ x 3 0 0) ∧ nn = 40)))) "java/lang/IndexOutOfBoundsException" ∧ u = (x, r0)) ∨ (r = 2 ∧ (fun E => (E = "java/lang/IndexOutOfBoundsException" ∧ (p0.toInt < 0 ∨ nn ≤ p0.toInt)) ∨ (∃ j, j < nn ∧ p0 = nI j ∧ ((E = "java/lang/IllegalArgumentException" ∧ ¬ (p1 ≠ 0 ∧ p1 ≠ x 31 j 0)) ∨ (E = "java/lang/UnsupportedOperationException" ∧ (p1 ≠ 0 ∧ p1 ≠ x 31 j 0) ∧ ¬ (x 34 j 0 = 0 ∧ ¬ x 33 j 0 ≤ x 3 0 0)) ∨ (E = "java/lang/IllegalStateException" ∧ (p1 ≠ 0 ∧ p1 ≠ x 31 j 0) ∧ (x 34 j 0 = 0 ∧ ¬ x 33 j 0 ≤ x 3 0 0) ∧ nn = 40)))) "java/lang/IllegalArgumentException" ∧ u = (x, r0)) ∨ (r = 3 ∧ (fun E => (E = "java/lang/IndexOutOfBoundsException" ∧ (p0.toInt < 0 ∨ nn ≤ p0.toInt)) ∨ (∃ j, j < nn ∧ p0 = nI j ∧ ((E = "java/lang/IllegalArgumentException" ∧ ¬ (p1 ≠ 0 ∧ p1 ≠ x 31 j 0)) ∨ (E = "java/lang/UnsupportedOperationException" ∧ (p1 ≠ 0 ∧ p1 ≠ x 31 j 0) ∧ ¬ (x 34 j 0 = 0 ∧ ¬ x 33 j 0 ≤ x 3 0 0)) ∨ (E = "java/lang/IllegalStateException" ∧ (p1 ≠ 0 ∧ p1 ≠ x 31 j 0) ∧ (x 34 j 0 = 0 ∧ ¬ x 33 j 0 ≤ x 3 0 0) ∧ nn = 40)))) "java/lang/UnsupportedOperationException" ∧ u = (x, r0)) ∨ (r = 4 ∧ (fun E => (E = "java/lang/IndexOutOfBoundsException" ∧ (p0.toInt < 0 ∨ nn ≤ p0.toInt)) ∨ (∃ j, j < nn ∧ p0 = nI j ∧ ((E = "java/lang/IllegalArgumentException" ∧ ¬ (p1 ≠ 0 ∧ p1 ≠ x 31 j 0)) ∨ (E = "java/lang/UnsupportedOperationException" ∧ (p1 ≠ 0 ∧ p1 ≠ x 31 j 0) ∧ ¬ (x 34 j 0 = 0 ∧ ¬ x 33 j 0 ≤ x 3 0 0)) ∨ (E = "java/lang/IllegalStateException" ∧ (p1 ≠ 0 ∧ p1 ≠ x 31 j 0) ∧ (x 34 j 0 = 0 ∧ ¬ x 33 j 0 ≤ x 3 0 0) ∧ nn = 40)))) "java/lang/IllegalStateException" ∧ u = (x, r0))) r u) (hm : (fun (r : Int32) (u : MS) => ((p0.toInt < 0 ∨ nn ≤ p0.toInt) ∧ u = (st (st y 0 0 0 0) 0 0 0 1, ch)) ∨ (∃ j, j < nn ∧ p0 = nI j ∧ ((¬ (p1 ≠ 0 ∧ p1 ≠ (st y 0 0 0 0) 18 0 j) ∧ u = (st (st y 0 0 0 0) 0 0 0 2, ch)) ∨ ((p1 ≠ 0 ∧ p1 ≠ (st y 0 0 0 0) 18 0 j) ∧ ¬ ((st y 0 0 0 0) 22 0 j = 0 ∧ ¬ (st y 0 0 0 0) 20 0 j ≤ (st y 0 0 0 0) 1 0 0) ∧ u = (st (st y 0 0 0 0) 0 0 0 3, ch)) ∨ ((p1 ≠ 0 ∧ p1 ≠ (st y 0 0 0 0) 18 0 j) ∧ ((st y 0 0 0 0) 22 0 j = 0 ∧ ¬ (st y 0 0 0 0) 20 0 j ≤ (st y 0 0 0 0) 1 0 0) ∧ nn = 40 ∧ u = (st (st y 0 0 0 0) 0 0 0 4, ch)) ∨ ((p1 ≠ 0 ∧ p1 ≠ (st y 0 0 0 0) 18 0 j) ∧ ((st y 0 0 0 0) 22 0 j = 0 ∧ ¬ (st y 0 0 0 0) 20 0 j ≤ (st y 0 0 0 0) 1 0 0) ∧ nn < 40 ∧ u = (mdM (st y 0 0 0 0) j nn nb p1, ch) ∧ r = nI nn)))) r2 w) : w.1 0 0 0 = r ∧ (r = 0 → ∃ V : Int64, u.2 = va_up r0 123 (oL g f V) ∧ V = r2.toInt64) := by
  have hR := hR0.1
  have hn := hR.gi.nn40
  have e1 : st y 0 0 0 0 1 0 0 = x 3 0 0 := (st_nr (by omega)).trans (hR.y1.trans hR.x3.symm)
  have f18 : ∀ j, j < nn → st y 0 0 0 0 18 0 j = x 31 j 0 := fun j hj => (st_nr (by omega)).trans (hR.fl j hj).2.1.symm
  have f20 : ∀ j, j < nn → st y 0 0 0 0 20 0 j = x 33 j 0 := fun j hj => (st_nr (by omega)).trans (hR.fl j hj).2.2.2.symm
  have f22 : ∀ j, j < nn → st y 0 0 0 0 22 0 j = x 34 j 0 := fun j hj => (st_nr (by omega)).trans (hR.fg j (by omega)).1.symm
  rcases hc with ⟨rfl, v, ⟨j, hj, ej, q1, q2, hlt, eu, ev⟩, -, e2⟩ | ⟨rfl, hpx, rfl⟩ | ⟨rfl, hpx, rfl⟩ | ⟨rfl, hpx, rfl⟩ | ⟨rfl, hpx, rfl⟩
  · rcases hm with ⟨h, -⟩ | ⟨k, hk, ek, h⟩
    · exact (bad_no hn hj ej h).elim
    · obtain rfl := ix_eq hn hj hk ej ek
      rw [e1, f18 j hj, f20 j hj, f22 j hj] at h
      rcases h with ⟨h, -⟩ | ⟨-, h, -⟩ | ⟨-, -, h, -⟩ | ⟨-, -, -, rfl, er⟩
      · exact absurd q1 h
      · exact absurd q2 h
      · omega
      · ((try dsimp only); exact ⟨(st_nr (by omega)).trans ((st_nr (by omega)).trans ((mdL_r (by omega)).trans ((ad_r (by omega)).trans st_eq))), fun _ => ⟨_, e2, by rw [ev, er]⟩⟩)
  · rcases hm with ⟨-, rfl⟩ | ⟨k, hk, ek, h⟩
    · ((try dsimp only); exact ⟨st_eq, fun h => absurd h (by decide)⟩)
    · rcases hpx with ⟨-, h1⟩ | ⟨j, hj, ej, ⟨h1, -⟩ | ⟨h1, -⟩ | ⟨h1, -⟩⟩
      · exact (bad_no hn hk ek h1).elim
      · exact absurd h1 (by decide)
      · exact absurd h1 (by decide)
      · exact absurd h1 (by decide)
  · rcases hpx with ⟨h1, -⟩ | ⟨j, hj, ej, ⟨-, h1⟩ | ⟨h1, -⟩ | ⟨h1, -⟩⟩
    · exact absurd h1 (by decide)
    · rcases hm with ⟨h, -⟩ | ⟨k, hk, ek, h⟩
      · exact (bad_no hn hj ej h).elim
      · obtain rfl := ix_eq hn hj hk ej ek
        rw [e1, f18 j hj, f20 j hj, f22 j hj] at h
        rcases h with ⟨h, rfl⟩ | ⟨h, -⟩ | ⟨h, -⟩ | ⟨h, -⟩
        · ((try dsimp only); exact ⟨st_eq, fun h => absurd h (by decide)⟩)
        · exact absurd h h1
        · exact absurd h h1
        · exact absurd h h1
    · exact absurd h1 (by decide)
    · exact absurd h1 (by decide)
  · rcases hpx with ⟨h1, -⟩ | ⟨j, hj, ej, ⟨h1, -⟩ | ⟨-, q1, h1⟩ | ⟨h1, -⟩⟩
    · exact absurd h1 (by decide)
    · exact absurd h1 (by decide)
    · rcases hm with ⟨h, -⟩ | ⟨k, hk, ek, h⟩
      · exact (bad_no hn hj ej h).elim
      · obtain rfl := ix_eq hn hj hk ej ek
        rw [e1, f18 j hj, f20 j hj, f22 j hj] at h
        rcases h with ⟨h, -⟩ | ⟨-, h, rfl⟩ | ⟨-, h, -⟩ | ⟨-, h, -⟩
        · exact absurd q1 h
        · ((try dsimp only); exact ⟨st_eq, fun h => absurd h (by decide)⟩)
        · exact absurd h h1
        · exact absurd h h1
    · exact absurd h1 (by decide)
  · rcases hpx with ⟨h1, -⟩ | ⟨j, hj, ej, ⟨h1, -⟩ | ⟨h1, -⟩ | ⟨-, q1, q2, h1⟩⟩
    · exact absurd h1 (by decide)
    · exact absurd h1 (by decide)
    · exact absurd h1 (by decide)
    · rcases hm with ⟨h, -⟩ | ⟨k, hk, ek, h⟩
      · exact (bad_no hn hj ej h).elim
      · obtain rfl := ix_eq hn hj hk ej ek
        rw [e1, f18 j hj, f20 j hj, f22 j hj] at h
        rcases h with ⟨h, -⟩ | ⟨-, h, -⟩ | ⟨-, -, -, rfl⟩ | ⟨-, -, h, -⟩
        · exact absurd q1 h
        · exact absurd q2 h
        · ((try dsimp only); exact ⟨st_eq, fun h => absurd h (by decide)⟩)
        · omega
theorem e_deny {x y : St} {ch : Int64} {nb nn hr t : Nat} {g : gE} {r0 : Nat → va_E} {f : Nat → Int64} {p0 p1 p2 : Int32} {r : Int32} {u : St × (Nat → va_E)} {r2 : Int32} {w : MS} (ht : t < 512) (hR0 : R2 x y ch nb nn hr t) (ho : outOK g r0) (hc : (fun (r : Int32) (u : St × (Nat → va_E)) => (r = 0 ∧ ∃ v : Int32, (fun (r : Int32) (u : St) => ((0 ≤ p1.toInt ∧ p1.toInt ≤ 3) ∧ (p0.toInt ≠ 0 ∧ p0.toInt ≠ -1) ∧ ¬ p2 ≤ x 3 0 0 ∧ p2.toInt ≤ 2000) ∧ nn < 40 ∧ u = piF (tkF x nn 10 (p0 ^^^ (-1)) (x 3 0 0) p2) nn p1 ∧ r = nI nn) v u.1 ∧ u.1 = u.1 ∧ u.2 = va_up r0 123 (oL g f v.toInt64)) ∨ (r = 1 ∧ (fun E => (E = "java/lang/IllegalArgumentException" ∧ ¬ ((0 ≤ p1.toInt ∧ p1.toInt ≤ 3) ∧ (p0.toInt ≠ 0 ∧ p0.toInt ≠ -1) ∧ ¬ p2 ≤ x 3 0 0 ∧ p2.toInt ≤ 2000)) ∨ (E = "java/lang/IllegalStateException" ∧ ((0 ≤ p1.toInt ∧ p1.toInt ≤ 3) ∧ (p0.toInt ≠ 0 ∧ p0.toInt ≠ -1) ∧ ¬ p2 ≤ x 3 0 0 ∧ p2.toInt ≤ 2000) ∧ nn = 40)) "java/lang/IllegalArgumentException" ∧ u = (x, r0)) ∨ (r = 2 ∧ (fun E => (E = "java/lang/IllegalArgumentException" ∧ ¬ ((0 ≤ p1.toInt ∧ p1.toInt ≤ 3) ∧ (p0.toInt ≠ 0 ∧ p0.toInt ≠ -1) ∧ ¬ p2 ≤ x 3 0 0 ∧ p2.toInt ≤ 2000)) ∨ (E = "java/lang/IllegalStateException" ∧ ((0 ≤ p1.toInt ∧ p1.toInt ≤ 3) ∧ (p0.toInt ≠ 0 ∧ p0.toInt ≠ -1) ∧ ¬ p2 ≤ x 3 0 0 ∧ p2.toInt ≤ 2000) ∧ nn = 40)) "java/lang/IllegalStateException" ∧ u = (x, r0))) r u) (hm : (fun (r : Int32) (u : MS) => (¬ ((0 ≤ p1.toInt ∧ p1.toInt ≤ 3) ∧ (p0.toInt ≠ 0 ∧ p0.toInt ≠ -1) ∧ ((st y 0 0 0 0) 1 0 0 + 1).toInt ≤ p2.toInt ∧ p2.toInt ≤ 2000) ∧ u = (st (st y 0 0 0 0) 0 0 0 1, ch)) ∨ (((0 ≤ p1.toInt ∧ p1.toInt ≤ 3) ∧ (p0.toInt ≠ 0 ∧ p0.toInt ≠ -1) ∧ ((st y 0 0 0 0) 1 0 0 + 1).toInt ≤ p2.toInt ∧ p2.toInt ≤ 2000) ∧ nn = 40 ∧ u = (st (st y 0 0 0 0) 0 0 0 2, ch)) ∨ (((0 ≤ p1.toInt ∧ p1.toInt ≤ 3) ∧ (p0.toInt ≠ 0 ∧ p0.toInt ≠ -1) ∧ ((st y 0 0 0 0) 1 0 0 + 1).toInt ≤ p2.toInt ∧ p2.toInt ≤ 2000) ∧ nn < 40 ∧ ∃ d, d < 4 ∧ p1 = nI d ∧ u = (qsM (adM (st y 0 0 0 0) nn 10 (p0 ^^^ (-1)) ((st y 0 0 0 0) 1 0 0) p2) nn d, ch) ∧ r = nI nn)) r2 w) : w.1 0 0 0 = r ∧ (r = 0 → ∃ V : Int64, u.2 = va_up r0 123 (oL g f V) ∧ V = r2.toInt64) := by
  have hR := hR0.1
  have e1 : st y 0 0 0 0 1 0 0 = x 3 0 0 := (st_nr (by omega)).trans (hR.y1.trans hR.x3.symm)
  have hb1 : (x 3 0 0).toInt < 2147483647 := by rw [hR.x3, nI_toInt (by have := hR.hr; omega)]; have := hR.hr; omega
  have hb2 : 0 ≤ (x 3 0 0).toInt := by rw [hR.x3, nI_toInt (by have := hR.hr; omega)]; omega
  rcases hc with ⟨rfl, v, ⟨ok, hlt, eu, ev⟩, -, e2⟩ | ⟨rfl, hpx, rfl⟩ | ⟨rfl, hpx, rfl⟩
  · rcases hm with ⟨h, -⟩ | ⟨-, h, -⟩ | ⟨-, -, d, -, -, rfl, er⟩
    · exact absurd (⟨ok.1, ok.2.1, by rw [e1]; exact sle ok.2.2.1 hb1, ok.2.2.2⟩) h
    · omega
    · ((try dsimp only); exact ⟨(st_nr (by omega)).trans ((ad_r (by omega)).trans st_eq), fun _ => ⟨_, e2, by rw [ev, er]⟩⟩)
  · rcases hpx with ⟨-, h1⟩ | ⟨h1, -⟩
    · rcases hm with ⟨-, rfl⟩ | ⟨h, -⟩ | ⟨h, -⟩
      · ((try dsimp only); exact ⟨st_eq, fun h => absurd h (by decide)⟩)
      · exact absurd (⟨h.1, h.2.1, sle2 (by rw [← e1]; exact h.2.2.1) hb1 hb2, h.2.2.2⟩) h1
      · exact absurd (⟨h.1, h.2.1, sle2 (by rw [← e1]; exact h.2.2.1) hb1 hb2, h.2.2.2⟩) h1
    · exact absurd h1 (by decide)
  · rcases hpx with ⟨h1, -⟩ | ⟨-, ok, h1⟩
    · exact absurd h1 (by decide)
    · rcases hm with ⟨h, -⟩ | ⟨-, -, rfl⟩ | ⟨-, h, -⟩
      · exact absurd (⟨ok.1, ok.2.1, by rw [e1]; exact sle ok.2.2.1 hb1, ok.2.2.2⟩) h
      · ((try dsimp only); exact ⟨st_eq, fun h => absurd h (by decide)⟩)
      · omega
theorem e_queued {x y : St} {ch : Int64} {nb nn hr t : Nat} {g : gE} {r0 : Nat → va_E} {f : Nat → Int64} {p0 : Int32} {r : Int32} {u : St × (Nat → va_E)} {r2 : Int32} {w : MS} (ht : t < 512) (hR0 : R2 x y ch nb nn hr t) (ho : outOK g r0) (hc : (fun (r : Int32) (u : St × (Nat → va_E)) => (r = 0 ∧ ∃ v : Int32, (fun (r : Int32) (_ : Unit) => (0 ≤ p0.toInt ∧ p0.toInt ≤ 3) ∧ r = qcF x p0 nn) v () ∧ u.1 = x ∧ u.2 = va_up r0 123 (oL g f v.toInt64)) ∨ (r = 1 ∧ (fun E => E = "java/lang/IllegalArgumentException" ∧ (p0.toInt < 0 ∨ 3 < p0.toInt)) "java/lang/IllegalArgumentException" ∧ u = (x, r0))) r u) (hm : (fun (r : Int32) (u : MS) => ((p0.toInt < 0 ∨ 3 < p0.toInt) ∧ u = (st (st y 0 0 0 0) 0 0 0 1, ch)) ∨ (∃ d, d < 4 ∧ p0 = nI d ∧ u = (st y 0 0 0 0, ch) ∧ r = mqF (st y 0 0 0 0) d nn)) r2 w) : w.1 0 0 0 = r ∧ (r = 0 → ∃ V : Int64, u.2 = va_up r0 123 (oL g f V) ∧ V = r2.toInt64) := by
  rcases hc with ⟨rfl, v, ⟨hd, ev⟩, -, e2⟩ | ⟨rfl, ⟨-, h1⟩, rfl⟩
  · rcases hm with ⟨h, -⟩ | ⟨d, hd2, ed, rfl, er⟩
    · omega
    · obtain ⟨g1, -⟩ := (hR0.tz (v := 0)).qc hd2
      exact ⟨(show st y 0 0 0 0 0 0 0 = 0 from st_eq), fun _ => ⟨_, e2, by rw [ev, er, ed]; exact congrArg Int32.toInt64 (qc_v g1)⟩⟩
  · rcases hm with ⟨-, rfl⟩ | ⟨d, hd2, ed, -⟩
    · ((try dsimp only); exact ⟨st_eq, fun h => absurd h (by decide)⟩)
    · (have := dsOK hd2 ed; omega)
theorem e_queuedAt {x y : St} {ch : Int64} {nb nn hr t : Nat} {g : gE} {r0 : Nat → va_E} {f : Nat → Int64} {p0 p1 : Int32} {r : Int32} {u : St × (Nat → va_E)} {r2 : Int32} {w : MS} (ht : t < 512) (hR0 : R2 x y ch nb nn hr t) (ho : outOK g r0) (hc : (fun (r : Int32) (u : St × (Nat → va_E)) => (r = 0 ∧ ∃ v : Int32, (fun (r : Int32) (_ : Unit) => (0 ≤ p0.toInt ∧ p0.toInt ≤ 3) ∧ ∃ k, k < nn ∧ (qcP x (x 43 0 k).toNatClampNeg p0 ∧ qrF x p0 k = p1) ∧ r = nI (x 43 0 k).toNatClampNeg ∧ ∀ j, j < k → ¬ (qcP x (x 43 0 j).toNatClampNeg p0 ∧ qrF x p0 j = p1)) v () ∧ u.1 = x ∧ u.2 = va_up r0 123 (oL g f v.toInt64)) ∨ (r = 1 ∧ (fun E => (E = "java/lang/IllegalArgumentException" ∧ (p0.toInt < 0 ∨ 3 < p0.toInt)) ∨ (E = "java/lang/IndexOutOfBoundsException" ∧ (0 ≤ p0.toInt ∧ p0.toInt ≤ 3) ∧ ∀ j, j < nn → ¬ (qcP x (x 43 0 j).toNatClampNeg p0 ∧ qrF x p0 j = p1))) "java/lang/IllegalArgumentException" ∧ u = (x, r0)) ∨ (r = 2 ∧ (fun E => (E = "java/lang/IllegalArgumentException" ∧ (p0.toInt < 0 ∨ 3 < p0.toInt)) ∨ (E = "java/lang/IndexOutOfBoundsException" ∧ (0 ≤ p0.toInt ∧ p0.toInt ≤ 3) ∧ ∀ j, j < nn → ¬ (qcP x (x 43 0 j).toNatClampNeg p0 ∧ qrF x p0 j = p1))) "java/lang/IndexOutOfBoundsException" ∧ u = (x, r0))) r u) (hm : (fun (r : Int32) (u : MS) => ((p0.toInt < 0 ∨ 3 < p0.toInt) ∧ u = (st (st y 0 0 0 0) 0 0 0 1, ch)) ∨ (∃ d, d < 4 ∧ p0 = nI d ∧ ((¬ ((0 : Int32).toInt ≤ p1.toInt ∧ p1.toInt ≤ (mqF (st y 0 0 0 0) d nn - 1).toInt) ∧ u = (st (st y 0 0 0 0) 0 0 0 2, ch)) ∨ (((0 : Int32).toInt ≤ p1.toInt ∧ p1.toInt ≤ (mqF (st y 0 0 0 0) d nn - 1).toInt) ∧ u = (st y 0 0 0 0, ch) ∧ r = iqO (st y 0 0 0 0) d nn 11 p1)))) r2 w) : w.1 0 0 0 = r ∧ (r = 0 → ∃ V : Int64, u.2 = va_up r0 123 (oL g f V) ∧ V = r2.toInt64) := by
  have hnn := hR0.gi.nn40
  rcases hc with ⟨rfl, v, ⟨hd, k, hk, ⟨hq, ea⟩, ev, -⟩, -, e2⟩ | ⟨rfl, hpx, rfl⟩ | ⟨rfl, hpx, rfl⟩
  · rcases hm with ⟨h, -⟩ | ⟨d, hd2, ed, ⟨h, -⟩ | ⟨-, rfl, er⟩⟩
    · omega
    · obtain ⟨g1, g2, g3, g4, g5⟩ := (hR0.tz (v := 0)).qc hd2
      have hP : ∀ k, k < nn → (qcP x (rk x k) (nI d) ↔ iiB (st y 0 0 0 0) d (rk x k) = true) := fun k hk => (g1 _ (g3 k hk)).trans iiB_iff.symm
      rw [ed] at hq ea
      have ea2 := (qr_v hP k (by omega)).symm.trans ea
      have hat := RL_at ((hP k hk).mp hq) (nn - (k + 1))
      rw [show k + 1 + (nn - (k + 1)) = nn by omega] at hat
      obtain ⟨hl, -⟩ := List.getElem?_eq_some_iff.mp hat
      refine absurd ⟨?_, ?_⟩ h
      · rw [← ea2, nI_toInt (by omega), i_0]; omega
      · rw [← ea2, g4, nB_e (by omega) rfl, nI_toInt (by omega)]; omega
    · obtain ⟨g1, g2, g3, g4, g5⟩ := (hR0.tz (v := 0)).qc hd2
      have hP : ∀ k, k < nn → (qcP x (rk x k) (nI d) ↔ iiB (st y 0 0 0 0) d (rk x k) = true) := fun k hk => (g1 _ (g3 k hk)).trans iiB_iff.symm
      rw [ed] at hq ea
      have ea2 := (qr_v hP k (by omega)).symm.trans ea
      have hat := RL_at ((hP k hk).mp hq) (nn - (k + 1))
      rw [show k + 1 + (nn - (k + 1)) = nn by omega] at hat
      obtain ⟨hl, -⟩ := List.getElem?_eq_some_iff.mp hat
      have hQ : QL (st y 0 0 0 0) d nn 11 = (RLs x nn).filter (iiB (st y 0 0 0 0) d) := by unfold QL; rw [← g2]
      refine ⟨(show st y 0 0 0 0 0 0 0 = 0 from st_eq), fun _ => ⟨_, e2, ?_⟩⟩
      rw [ev, er, ← ea2, iqO_list 11 _ (by omega), hQ, hat]
  · rcases hpx with ⟨-, h1⟩ | ⟨h1, -⟩
    · rcases hm with ⟨-, rfl⟩ | ⟨d, hd2, ed, -⟩
      · ((try dsimp only); exact ⟨st_eq, fun h => absurd h (by decide)⟩)
      · (have := dsOK hd2 ed; omega)
    · exact absurd h1 (by decide)
  · rcases hpx with ⟨h1, -⟩ | ⟨-, hd, h1⟩
    · exact absurd h1 (by decide)
    · rcases hm with ⟨h, -⟩ | ⟨d, hd2, ed, ⟨h, rfl⟩ | ⟨h, rfl, er⟩⟩
      · omega
      · ((try dsimp only); exact ⟨st_eq, fun h => absurd h (by decide)⟩)
      · exfalso
        obtain ⟨g1, g2, g3, g4, g5⟩ := (hR0.tz (v := 0)).qc hd2
        have hP : ∀ k, k < nn → (qcP x (rk x k) (nI d) ↔ iiB (st y 0 0 0 0) d (rk x k) = true) := fun k hk => (g1 _ (g3 k hk)).trans iiB_iff.symm
        rw [g4] at h
        obtain ⟨a, ha, ea⟩ := nB_ok (nB_e (by omega) rfl) h
        obtain ⟨k, hk, hPk, ek⟩ := RL_ex nn a ha
        refine h1 k hk ⟨?_, ?_⟩
        · rw [ed]; exact (hP k hk).mpr hPk
        · rw [ed, ea, ← ek]; exact qr_v hP k (by omega)
theorem e_isDue {x y : St} {ch : Int64} {nb nn hr t : Nat} {g : gE} {r0 : Nat → va_E} {f : Nat → Int64} {p0 : Int32} {r : Int32} {u : St × (Nat → va_E)} {r2 : Int32} {w : MS} (ht : t < 512) (hR0 : R2 x y ch nb nn hr t) (ho : outOK g r0) (hc : (fun (r : Int32) (u : St × (Nat → va_E)) => (r = 0 ∧ ∃ v : Int32, (fun (r : Int32) (_ : Unit) => ∃ j, j < nn ∧ p0 = nI j ∧ ((r = 1 ∧ (x 32 j 0 ≤ x 3 0 0 ∧ x 3 0 0 < x 33 j 0)) ∨ (r = 0 ∧ ¬ ((x 32 j 0 ≤ x 3 0 0 ∧ x 3 0 0 < x 33 j 0))))) v () ∧ u.1 = x ∧ u.2 = va_up r0 123 (oL g f (if v = 0 then 0 else 1))) ∨ (r = 1 ∧ (fun E => E = "java/lang/IndexOutOfBoundsException" ∧ (p0.toInt < 0 ∨ nn ≤ p0.toInt)) "java/lang/IndexOutOfBoundsException" ∧ u = (x, r0))) r u) (hm : (fun (r : Int32) (u : MS) => ((p0.toInt < 0 ∨ nn ≤ p0.toInt) ∧ u = (st (st y 0 0 0 0) 0 0 0 1, ch)) ∨ (∃ j, j < nn ∧ p0 = nI j ∧ u = (st y 0 0 0 0, ch) ∧ ((r = 1 ∧ duP (st y 0 0 0 0) j) ∨ (r = 0 ∧ ¬ (duP (st y 0 0 0 0) j))))) r2 w) : w.1 0 0 0 = r ∧ (r = 0 → ∃ V : Int64, u.2 = va_up r0 123 (oL g f V) ∧ (r2 = 0 → V = 0) ∧ (¬ r2 = 0 → V = 1)) := by
  have hR := hR0.1
  have hn := hR.gi.nn40
  rcases hc with ⟨rfl, v, ⟨j, hj, ej, hv⟩, -, e2⟩ | ⟨rfl, ⟨-, h1⟩, rfl⟩
  · rcases hm with ⟨h, -⟩ | ⟨k, hk, ek, rfl, hr2⟩
    · exact (bad_no hn hj ej h).elim
    · obtain rfl := ix_eq hn hj hk ej ek
      obtain ⟨-, -, g5, g6⟩ := hR.fl j hj
      have hP : duP (st y 0 0 0 0) j ↔ (x 32 j 0 ≤ x 3 0 0 ∧ x 3 0 0 < x 33 j 0) := by
        unfold duP
        rw [st_nr (by omega), st_nr (by omega), st_nr (by omega), ← g5, ← g6, hR.y1, hR.x3]
      refine ⟨(show st y 0 0 0 0 0 0 0 = 0 from st_eq), fun _ => ⟨_, e2, fun h0 => ?_, fun h0 => ?_⟩⟩
      · rcases hr2 with ⟨h1, -⟩ | ⟨-, h1⟩
        · exact absurd (h1.symm.trans h0) (by decide)
        · rcases hv with ⟨-, h2⟩ | ⟨h2, -⟩
          · exact absurd (hP.mpr h2) h1
          · rw [if_pos h2]
      · rcases hr2 with ⟨-, h1⟩ | ⟨h1, -⟩
        · rcases hv with ⟨h2, -⟩ | ⟨-, h2⟩
          · rw [if_neg (by rw [h2]; decide)]
          · exact absurd (hP.mp h1) h2
        · exact absurd h1 h0
  · rcases hm with ⟨-, rfl⟩ | ⟨k, hk, ek, -⟩
    · ((try dsimp only); exact ⟨st_eq, fun h => absurd h (by decide)⟩)
    · exact (bad_no hn hk ek h1).elim
theorem e_pass {x y : St} {ch : Int64} {nb nn hr t : Nat} {g : gE} {r0 : Nat → va_E} {f : Nat → Int64} {p0 p1 : Int32} {cnt : Nat} {r : Int32} {u : St × (Nat → va_E)} {r2 : Int32} {w : MS} (ht : t < 512) (hR0 : R2 x y ch nb nn hr t) (ho : outOK g r0) (hcn : cnt ≤ 512) (hx4 : x 4 0 0 = nI cnt) (hc : (fun (r : Int32) (u : St × (Nat → va_E)) => (r = 0 ∧ ∃ v : Int32, (fun (r : Int32) (u : St) => ∃ j, j < nb ∧ p0 = nI j ∧ (1 ≤ p1.toInt ∧ p1.toInt ≤ 999) ∧ ((x 12 j 0 = -1 ∧ r = 0 ∧ u = x) ∨ (∃ k, k < 40 ∧ x 12 j 0 = nI k ∧ u = paF x k p0 p1 cnt ∧ r = u 37 k p0.toNatClampNeg))) v u.1 ∧ u.1 = u.1 ∧ u.2 = va_up r0 123 (oL g f v.toInt64)) ∨ (r = 1 ∧ (fun E => (E = "java/lang/IndexOutOfBoundsException" ∧ (p0.toInt < 0 ∨ nb ≤ p0.toInt)) ∨ (E = "java/lang/IllegalArgumentException" ∧ (∃ j, j < nb ∧ p0 = nI j) ∧ ¬ (1 ≤ p1.toInt ∧ p1.toInt ≤ 999))) "java/lang/IndexOutOfBoundsException" ∧ u = (x, r0)) ∨ (r = 2 ∧ (fun E => (E = "java/lang/IndexOutOfBoundsException" ∧ (p0.toInt < 0 ∨ nb ≤ p0.toInt)) ∨ (E = "java/lang/IllegalArgumentException" ∧ (∃ j, j < nb ∧ p0 = nI j) ∧ ¬ (1 ≤ p1.toInt ∧ p1.toInt ≤ 999))) "java/lang/IllegalArgumentException" ∧ u = (x, r0))) r u) (hm : (fun (r : Int32) (u : MS) => ((p0.toInt < 0 ∨ nb ≤ p0.toInt) ∧ u = (st (st y 0 0 0 0) 0 0 0 1, ch)) ∨ (∃ j, j < nb ∧ p0 = nI j ∧ ((¬ (1 ≤ p1.toInt ∧ p1.toInt ≤ 999) ∧ u = (st (st y 0 0 0 0) 0 0 0 2, ch)) ∨ ((1 ≤ p1.toInt ∧ p1.toInt ≤ 999) ∧ (((st y 0 0 0 0) 12 0 j = -1 ∧ u = (st y 0 0 0 0, ch) ∧ r = 0) ∨ (∃ k, k < 40 ∧ (st y 0 0 0 0) 12 0 j = nI k ∧ u = (psM (st y 0 0 0 0) k j hr p1, ch) ∧ r = u.1 24 0 (6 * k + j))))))) r2 w) : w.1 0 0 0 = r ∧ (r = 0 → ∃ V : Int64, u.2 = va_up r0 123 (oL g f V) ∧ V = r2.toInt64) := by
  have hnb := hR0.gi.nb6
  rcases hc with ⟨rfl, v, ⟨j, hj, ej, hp, hv⟩, -, e2⟩ | ⟨rfl, hpx, rfl⟩ | ⟨rfl, hpx, rfl⟩
  · rcases hm with ⟨h, -⟩ | ⟨j2, hj2, ej2, ⟨h, -⟩ | ⟨-, hw⟩⟩
    · exact (bad_no (by omega) hj ej h).elim
    · exact absurd hp h
    · obtain rfl := ix_eq (by omega) hj hj2 ej ej2
      have e12 := (hR0.bd hj).2.2
      have z12 : st y 0 0 0 0 12 0 j = y 12 0 j := st_nr (by omega)
      rcases hv with ⟨a1, a3, eu⟩ | ⟨k, hk, ek, eu, ev⟩
      · rcases hw with ⟨-, rfl, er⟩ | ⟨k2, hk2, ek2, -⟩
        · exact ⟨(show st y 0 0 0 0 0 0 0 = 0 from st_eq), fun _ => ⟨_, e2, by rw [a3, er]⟩⟩
        · exact absurd ((a1.symm.trans e12).trans (z12.symm.trans ek2)).symm (nI_ne (by omega))
      · rcases hw with ⟨a2, -⟩ | ⟨k2, hk2, ek2, rfl, er⟩
        · exact absurd ((ek.symm.trans e12).trans (z12.symm.trans a2)) (nI_ne (by omega))
        · have ekk := (ek.symm.trans e12).trans (z12.symm.trans ek2)
          obtain rfl := (nI_eq (by omega) (by omega)).mp ekk
          have hA := (hR0.tz (v := 0)).ps ht hk (show j < 6 by omega) hp hcn hx4
          refine ⟨(show psM (st y 0 0 0 0) k j hr p1 0 0 0 = 0 from (st_nr (by omega)).trans ((st_nr (by omega)).trans st_eq)), fun _ => ⟨_, e2, ?_⟩⟩
          rw [ev, er, eu, ej, nI_clamp (by omega)]
          exact congrArg Int32.toInt64 (hA.2.2.2.2.2.2.2.1 k hk j (by omega)).1
  · rcases hpx with ⟨-, h1⟩ | ⟨h1, -⟩
    · rcases hm with ⟨-, rfl⟩ | ⟨j2, hj2, ej2, -⟩
      · ((try dsimp only); exact ⟨st_eq, fun h => absurd h (by decide)⟩)
      · exact (bad_no (by omega) hj2 ej2 h1).elim
    · exact absurd h1 (by decide)
  · rcases hpx with ⟨h1, -⟩ | ⟨-, ⟨j, hj, ej⟩, h1⟩
    · exact absurd h1 (by decide)
    · rcases hm with ⟨h, -⟩ | ⟨j2, hj2, ej2, ⟨h, rfl⟩ | ⟨h, -⟩⟩
      · exact (bad_no (by omega) hj ej h).elim
      · ((try dsimp only); exact ⟨st_eq, fun h => absurd h (by decide)⟩)
      · exact absurd h h1
theorem e_readers {x y : St} {ch : Int64} {nb nn hr t : Nat} {g : gE} {r0 : Nat → va_E} {f : Nat → Int64} {p0 p1 : Int32} {r : Int32} {u : St × (Nat → va_E)} {r2 : Int32} {w : MS} (ht : t < 512) (hR0 : R2 x y ch nb nn hr t) (ho : outOK g r0) (hc : (fun (r : Int32) (u : St × (Nat → va_E)) => (r = 0 ∧ ∃ v : Int32, (fun (r : Int32) (_ : Unit) => ∃ j, j < nn ∧ p0 = nI j ∧ (0 ≤ p1.toInt ∧ p1.toInt ≤ 3) ∧ r = riF x j p1 nb) v () ∧ u.1 = x ∧ u.2 = va_up r0 123 (oL g f v.toInt64)) ∨ (r = 1 ∧ (fun E => (E = "java/lang/IndexOutOfBoundsException" ∧ (p0.toInt < 0 ∨ nn ≤ p0.toInt)) ∨ (E = "java/lang/IllegalArgumentException" ∧ (∃ j, j < nn ∧ p0 = nI j) ∧ (p1.toInt < 0 ∨ 3 < p1.toInt))) "java/lang/IndexOutOfBoundsException" ∧ u = (x, r0)) ∨ (r = 2 ∧ (fun E => (E = "java/lang/IndexOutOfBoundsException" ∧ (p0.toInt < 0 ∨ nn ≤ p0.toInt)) ∨ (E = "java/lang/IllegalArgumentException" ∧ (∃ j, j < nn ∧ p0 = nI j) ∧ (p1.toInt < 0 ∨ 3 < p1.toInt))) "java/lang/IllegalArgumentException" ∧ u = (x, r0))) r u) (hm : (fun (r : Int32) (u : MS) => ((p0.toInt < 0 ∨ nn ≤ p0.toInt) ∧ u = (st (st y 0 0 0 0) 0 0 0 1, ch)) ∨ (∃ j, j < nn ∧ p0 = nI j ∧ (((p1.toInt < 0 ∨ 3 < p1.toInt) ∧ u = (st (st y 0 0 0 0) 0 0 0 2, ch)) ∨ ((0 ≤ p1.toInt ∧ p1.toInt ≤ 3) ∧ u = (st y 0 0 0 0, ch) ∧ r = riM (st y 0 0 0 0) j p1 nb)))) r2 w) : w.1 0 0 0 = r ∧ (r = 0 → ∃ V : Int64, u.2 = va_up r0 123 (oL g f V) ∧ V = r2.toInt64) := by
  have hnb := hR0.gi.nb6
  have hnn := hR0.gi.nn40
  rcases hc with ⟨rfl, v, ⟨j, hj, ej, hd, ev⟩, -, e2⟩ | ⟨rfl, hpx, rfl⟩ | ⟨rfl, hpx, rfl⟩
  · rcases hm with ⟨h, -⟩ | ⟨k, hk, ek, ⟨h, -⟩ | ⟨-, rfl, er⟩⟩
    · exact (bad_no hnn hj ej h).elim
    · omega
    · obtain rfl := ix_eq hnn hj hk ej ek
      obtain ⟨-, -, h3, -, -, -, h8, -⟩ := (hR0.tz (v := 0)).2
      exact ⟨(show st y 0 0 0 0 0 0 0 = 0 from st_eq), fun _ => ⟨_, e2, by rw [ev, er]; exact congrArg Int32.toInt64 (ri_eq (fun b hb => ⟨h3 b (by omega), (h8 j (by omega) b (by omega)).1⟩))⟩⟩
  · rcases hpx with ⟨-, h1⟩ | ⟨h1, -⟩
    · rcases hm with ⟨-, rfl⟩ | ⟨k, hk, ek, -⟩
      · ((try dsimp only); exact ⟨st_eq, fun h => absurd h (by decide)⟩)
      · exact (bad_no hnn hk ek h1).elim
    · exact absurd h1 (by decide)
  · rcases hpx with ⟨h1, -⟩ | ⟨-, ⟨j, hj, ej⟩, h1⟩
    · exact absurd h1 (by decide)
    · rcases hm with ⟨h, -⟩ | ⟨k, hk, ek, ⟨h, rfl⟩ | ⟨h, -⟩⟩
      · exact (bad_no hnn hj ej h).elim
      · ((try dsimp only); exact ⟨st_eq, fun h => absurd h (by decide)⟩)
      · omega
theorem e_readIn {x y : St} {ch : Int64} {nb nn hr t : Nat} {g : gE} {r0 : Nat → va_E} {f : Nat → Int64} {p0 p1 : Int32} {cnt : Nat} {r : Int32} {u : St × (Nat → va_E)} {r2 : Int32} {w : MS} (ht : t < 512) (hR0 : R2 x y ch nb nn hr t) (ho : outOK g r0) (hcn : cnt ≤ 512) (hx4 : x 4 0 0 = nI cnt) (hc : (fun (r : Int32) (u : St × (Nat → va_E)) => (r = 0 ∧ ∃ v : Int32, (fun (r : Int32) (_ : Unit) => ∃ j, j < nn ∧ p0 = nI j ∧ r = poF x (nI j) p1 cnt) v () ∧ u.1 = x ∧ u.2 = va_up r0 123 (oL g f v.toInt64)) ∨ (r = 1 ∧ (fun E => E = "java/lang/IndexOutOfBoundsException" ∧ (p0.toInt < 0 ∨ nn ≤ p0.toInt)) "java/lang/IndexOutOfBoundsException" ∧ u = (x, r0))) r u) (hm : (fun (r : Int32) (u : MS) => ((p0.toInt < 0 ∨ nn ≤ p0.toInt) ∧ u = (st (st y 0 0 0 0) 0 0 0 1, ch)) ∨ (∃ j, j < nn ∧ p0 = nI j ∧ u = (st y 0 0 0 0, ch) ∧ ((¬ (0 ≤ p1.toInt ∧ p1.toInt ≤ 2000) ∧ r = 0) ∨ (∃ h, h ≤ 2000 ∧ p1 = nI h ∧ r = (st y 0 0 0 0) 25 0 (2001 * j + h))))) r2 w) : w.1 0 0 0 = r ∧ (r = 0 → ∃ V : Int64, u.2 = va_up r0 123 (oL g f V) ∧ V = r2.toInt64) := by
  have hnn := hR0.gi.nn40
  rcases hc with ⟨rfl, v, ⟨j, hj, ej, ev⟩, -, e2⟩ | ⟨rfl, ⟨-, h1⟩, rfl⟩
  · rcases hm with ⟨h, -⟩ | ⟨k, hk, ek, rfl, hr2⟩
    · exact (bad_no hnn hj ej h).elim
    · obtain rfl := ix_eq hnn hj hk ej ek
      obtain ⟨-, -, -, -, -, ⟨h6, -⟩, -⟩ := (hR0.tz (v := 0)).2
      obtain ⟨g1, g2⟩ := h6.get (k := j) (q := p1) (by omega) hcn hx4
      refine ⟨(show st y 0 0 0 0 0 0 0 = 0 from st_eq), fun _ => ⟨_, e2, ?_⟩⟩
      rcases hr2 with ⟨h, er⟩ | ⟨h9, hh, eh, er⟩
      · rw [ev, er, g1 h]
      · rw [ev, er]; exact congrArg Int32.toInt64 (g2 h9 hh eh)
  · rcases hm with ⟨-, rfl⟩ | ⟨k, hk, ek, -⟩
    · ((try dsimp only); exact ⟨st_eq, fun h => absurd h (by decide)⟩)
    · exact (bad_no hnn hk ek h1).elim
theorem e_suspects {x y : St} {ch : Int64} {nb nn hr t : Nat} {g : gE} {r0 : Nat → va_E} {f : Nat → Int64} {p0 p1 : Int32} {r : Int32} {u : St × (Nat → va_E)} {r2 : Int32} {w : MS} (ht : t < 512) (hR0 : R2 x y ch nb nn hr t) (ho : outOK g r0) (hc : (fun (r : Int32) (u : St × (Nat → va_E)) => (r = 0 ∧ ∃ v : Int32, (fun (r : Int32) (_ : Unit) => (0 ≤ p1.toInt ∧ p1.toInt ≤ 3 ∧ p0.toInt ≠ 0) ∧ r = scF x p0 p1 nb nn) v () ∧ u.1 = x ∧ u.2 = va_up r0 123 (oL g f v.toInt64)) ∨ (r = 1 ∧ (fun E => E = "java/lang/IllegalArgumentException" ∧ (p1.toInt < 0 ∨ 3 < p1.toInt ∨ p0.toInt = 0)) "java/lang/IllegalArgumentException" ∧ u = (x, r0))) r u) (hm : (fun (r : Int32) (u : MS) => (¬ (0 ≤ p1.toInt ∧ p1.toInt ≤ 3 ∧ p0.toInt ≠ 0) ∧ u = (st (st y 0 0 0 0) 0 0 0 1, ch)) ∨ ((0 ≤ p1.toInt ∧ p1.toInt ≤ 3 ∧ p0.toInt ≠ 0) ∧ u = (st y 0 0 0 0, ch) ∧ r = msF (st y 0 0 0 0) p0 p1 nb nn)) r2 w) : w.1 0 0 0 = r ∧ (r = 0 → ∃ V : Int64, u.2 = va_up r0 123 (oL g f V) ∧ V = r2.toInt64) := by
  rcases hc with ⟨rfl, v, ⟨ok, ev⟩, -, e2⟩ | ⟨rfl, ⟨-, h1⟩, rfl⟩
  · rcases hm with ⟨h, -⟩ | ⟨-, rfl, er⟩
    · exact absurd ok h
    · obtain ⟨S9, v9, -, g2, g3, -⟩ := (hR0.tz (v := 0)).su p0 p1
      exact ⟨(show st y 0 0 0 0 0 0 0 = 0 from st_eq), fun _ => ⟨_, e2, by rw [ev, er, g2, g3]⟩⟩
  · rcases hm with ⟨-, rfl⟩ | ⟨h, -⟩
    · ((try dsimp only); exact ⟨st_eq, fun h => absurd h (by decide)⟩)
    · omega
theorem e_suspectAt {x y : St} {ch : Int64} {nb nn hr t : Nat} {g : gE} {r0 : Nat → va_E} {f : Nat → Int64} {p0 p1 p2 : Int32} {r : Int32} {u : St × (Nat → va_E)} {r2 : Int32} {w : MS} (ht : t < 512) (hR0 : R2 x y ch nb nn hr t) (ho : outOK g r0) (hc : (fun (r : Int32) (u : St × (Nat → va_E)) => (r = 0 ∧ ∃ v : Int32, (fun (r : Int32) (_ : Unit) => (0 ≤ p1.toInt ∧ p1.toInt ≤ 3 ∧ p0.toInt ≠ 0) ∧ ∃ k, k < nn ∧ (suP x k p0 p1 nb ∧ saF x k p0 p1 nb nn = p2) ∧ r = nI k ∧ ∀ j, j < k → ¬ (suP x j p0 p1 nb ∧ saF x j p0 p1 nb nn = p2)) v () ∧ u.1 = x ∧ u.2 = va_up r0 123 (oL g f v.toInt64)) ∨ (r = 1 ∧ (fun E => (E = "java/lang/IllegalArgumentException" ∧ (p1.toInt < 0 ∨ 3 < p1.toInt ∨ p0.toInt = 0)) ∨ (E = "java/lang/IndexOutOfBoundsException" ∧ (0 ≤ p1.toInt ∧ p1.toInt ≤ 3 ∧ p0.toInt ≠ 0) ∧ ∀ j, j < nn → ¬ (suP x j p0 p1 nb ∧ saF x j p0 p1 nb nn = p2))) "java/lang/IllegalArgumentException" ∧ u = (x, r0)) ∨ (r = 2 ∧ (fun E => (E = "java/lang/IllegalArgumentException" ∧ (p1.toInt < 0 ∨ 3 < p1.toInt ∨ p0.toInt = 0)) ∨ (E = "java/lang/IndexOutOfBoundsException" ∧ (0 ≤ p1.toInt ∧ p1.toInt ≤ 3 ∧ p0.toInt ≠ 0) ∧ ∀ j, j < nn → ¬ (suP x j p0 p1 nb ∧ saF x j p0 p1 nb nn = p2))) "java/lang/IndexOutOfBoundsException" ∧ u = (x, r0))) r u) (hm : (fun (r : Int32) (u : MS) => (¬ (0 ≤ p1.toInt ∧ p1.toInt ≤ 3 ∧ p0.toInt ≠ 0) ∧ u = (st (st y 0 0 0 0) 0 0 0 1, ch)) ∨ ((0 ≤ p1.toInt ∧ p1.toInt ≤ 3 ∧ p0.toInt ≠ 0) ∧ ((¬ ((0 : Int32).toInt ≤ p2.toInt ∧ p2.toInt ≤ (msF (st y 0 0 0 0) p0 p1 nb nn - 1).toInt) ∧ u = (st (st y 0 0 0 0) 0 0 0 2, ch)) ∨ (((0 : Int32).toInt ≤ p2.toInt ∧ p2.toInt ≤ (msF (st y 0 0 0 0) p0 p1 nb nn - 1).toInt) ∧ u = (st y 0 0 0 0, ch) ∧ r = sfM (st y 0 0 0 0) p0 p1 p2 nb nn nn)))) r2 w) : w.1 0 0 0 = r ∧ (r = 0 → ∃ V : Int64, u.2 = va_up r0 123 (oL g f V) ∧ V = r2.toInt64) := by
  have hnn := hR0.gi.nn40
  obtain ⟨S9, v9, g1, g2, g3, g4, g5⟩ := (hR0.tz (v := 0)).su p0 p1
  have hle := cN_le (β := S9) nn
  rcases hc with ⟨rfl, v, ⟨ok, k, hk, ⟨hs, ea⟩, ev, -⟩, -, e2⟩ | ⟨rfl, hpx, rfl⟩ | ⟨rfl, hpx, rfl⟩
  · have hSk := (g1 k hk).1.mp hs
    have hlt := place_lt (S := S9) (B := Bv v9) Bv_irr nn k hk hSk
    have ea2 := (g4 k hk).1.symm.trans ea
    rcases hm with ⟨h, -⟩ | ⟨-, ⟨h, -⟩ | ⟨-, rfl, er⟩⟩
    · exact absurd ok h
    · refine absurd ⟨?_, ?_⟩ h
      · rw [← ea2, nI_toInt (by omega), i_0]; omega
      · rw [← ea2, g3, nB_e (by omega) rfl, nI_toInt (by omega)]; omega
    · refine ⟨(show st y 0 0 0 0 0 0 0 = 0 from st_eq), fun _ => ⟨_, e2, ?_⟩⟩
      rw [ev, er]
      refine congrArg Int32.toInt64 (sfM_at ⟨(g1 k hk).2.mpr hSk, (g4 k hk).2.trans ea2⟩ nn hk (fun k' hk' h9 => ?_)).symm
      have e9 := ((g4 k' hk').2.symm.trans h9.2).trans ea2.symm
      exact place_uq Bv_irr Bv_tr Bv_tot nn hk' hk ((g1 k' hk').2.mp h9.1) hSk ((nI_eq (by have := place_lt (S := S9) (B := Bv v9) Bv_irr nn k' hk' ((g1 k' hk').2.mp h9.1); omega) (by omega)).mp e9)
  · rcases hpx with ⟨-, h1⟩ | ⟨h1, -⟩
    · rcases hm with ⟨-, rfl⟩ | ⟨h, -⟩
      · ((try dsimp only); exact ⟨st_eq, fun h => absurd h (by decide)⟩)
      · omega
    · exact absurd h1 (by decide)
  · rcases hpx with ⟨h1, -⟩ | ⟨-, ok, h1⟩
    · exact absurd h1 (by decide)
    · rcases hm with ⟨h, -⟩ | ⟨-, ⟨h, rfl⟩ | ⟨h, rfl, er⟩⟩
      · exact absurd ok h
      · ((try dsimp only); exact ⟨st_eq, fun h => absurd h (by decide)⟩)
      · exfalso
        rw [g3] at h
        obtain ⟨a, ha, ea⟩ := nB_ok (nB_e (by omega) rfl) h
        obtain ⟨k, hk, hSk, ek⟩ := place_ex (S := S9) (B := Bv v9) Bv_irr Bv_tr Bv_tot nn a ha
        exact h1 k hk ⟨(g1 k hk).1.mpr hSk, by rw [ea, ← ek]; exact (g4 k hk).1⟩
theorem e_go {x y : St} {ch : Int64} {nb nn hr t : Nat} {g : gE} {r0 : Nat → va_E} {f : Nat → Int64} {p0 : Int32} {r : Int32} {u : St × (Nat → va_E)} {r2 : Int32} {w : MS} (ht : t < 512) (hR0 : R2 x y ch nb nn hr t) (ho : outOK g r0) (hc : (fun (r : Int32) (u : St × (Nat → va_E)) => (r = 0 ∧ ∃ v : Int32, (fun (r : Int32) (u : St) => (1 ≤ p0.toInt ∧ p0.toInt ≤ 48) ∧ x 3 0 0 + p0 ≤ 2000 ∧ ∃ N, N ≤ 48 ∧ p0 = nI N ∧ u = goF x nb nn N ∧ r = u 3 0 0) v u.1 ∧ u.1 = u.1 ∧ u.2 = va_up r0 123 (oL g f v.toInt64)) ∨ (r = 1 ∧ (fun E => (E = "java/lang/IllegalArgumentException" ∧ ¬ (1 ≤ p0.toInt ∧ p0.toInt ≤ 48)) ∨ (E = "java/lang/IllegalStateException" ∧ (1 ≤ p0.toInt ∧ p0.toInt ≤ 48) ∧ ¬ x 3 0 0 + p0 ≤ 2000)) "java/lang/IllegalArgumentException" ∧ u = (x, r0)) ∨ (r = 2 ∧ (fun E => (E = "java/lang/IllegalArgumentException" ∧ ¬ (1 ≤ p0.toInt ∧ p0.toInt ≤ 48)) ∨ (E = "java/lang/IllegalStateException" ∧ (1 ≤ p0.toInt ∧ p0.toInt ≤ 48) ∧ ¬ x 3 0 0 + p0 ≤ 2000)) "java/lang/IllegalStateException" ∧ u = (x, r0))) r u) (hm : (fun (r : Int32) (u : MS) => (¬ (1 ≤ p0.toInt ∧ p0.toInt ≤ 48) ∧ u = (st (st y 0 0 0 0) 0 0 0 1, ch)) ∨ ((1 ≤ p0.toInt ∧ p0.toInt ≤ 48) ∧ ¬ (st y 0 0 0 0) 1 0 0 + p0 ≤ 2000 ∧ u = (st (st y 0 0 0 0) 0 0 0 2, ch)) ∨ ((1 ≤ p0.toInt ∧ p0.toInt ≤ 48) ∧ (st y 0 0 0 0) 1 0 0 + p0 ≤ 2000 ∧ ∃ N, N ≤ 48 ∧ p0 = nI N ∧ u = goM (st y 0 0 0 0, ch) nb nn N ∧ r = u.1 1 0 0)) r2 w) : w.1 0 0 0 = r ∧ (r = 0 → ∃ V : Int64, u.2 = va_up r0 123 (oL g f V) ∧ V = r2.toInt64) := by
  have hR := hR0.1
  have e1 : st y 0 0 0 0 1 0 0 = x 3 0 0 := (st_nr (by omega)).trans (hR.y1.trans hR.x3.symm)
  rcases hc with ⟨rfl, v, ⟨ok, hle, N, hN, eN, eu, ev⟩, -, e2⟩ | ⟨rfl, hpx, rfl⟩ | ⟨rfl, hpx, rfl⟩
  · rcases hm with ⟨h, -⟩ | ⟨-, h, -⟩ | ⟨-, -, N2, hN2, eN2, rfl, er⟩
    · exact absurd ok h
    · exact absurd (by rw [e1]; exact hle) h
    · have e9 : N2 = N := (nI_eq (by omega) (by omega)).mp (eN2.symm.trans eN)
      have h9 : hr + N ≤ 2000 := by
        have h8 := hR.hr
        rw [hR.x3, eN, nI_add, Int32.le_iff_toInt_le, nI_toInt (by omega), i_2000] at hle
        omega
      ((try dsimp only); have hA := (R1.tz (v := 0) hR).go (ch := ch) hN h9 e9; exact ⟨(goM_r (by omega)).trans (show st y 0 0 0 0 0 0 0 = 0 from st_eq), fun _ => ⟨_, e2, by rw [ev, eu, er, hA.x3]; show _ = ((goM (st y 0 0 0 0, ch) nb nn N2).1 1 0 0).toInt64; rw [hA.y1]⟩⟩)
  · rcases hpx with ⟨-, h1⟩ | ⟨h1, -⟩
    · rcases hm with ⟨-, rfl⟩ | ⟨h, -⟩ | ⟨h, -⟩
      · ((try dsimp only); exact ⟨st_eq, fun h => absurd h (by decide)⟩)
      · exact absurd h h1
      · exact absurd h h1
    · exact absurd h1 (by decide)
  · rcases hpx with ⟨h1, -⟩ | ⟨-, ok, h1⟩
    · exact absurd h1 (by decide)
    · rcases hm with ⟨h, -⟩ | ⟨-, -, rfl⟩ | ⟨-, h, -⟩
      · exact absurd ok h
      · ((try dsimp only); exact ⟨st_eq, fun h => absurd h (by decide)⟩)
      · exact absurd (by rw [← e1]; exact h) h1
theorem e_cellAnew {x y : St} {ch : Int64} {nb nn hr t : Nat} {g : gE} {r0 : Nat → va_E} {f : Nat → Int64} {p0 p1 p2 : Int32} {tcs : Nat → Nat} {r : Int32} {u : St × (Nat → va_E)} {r2 : Int32} {w : MS} (ht : t < 512) (hR0 : R2 x y ch nb nn hr t) (ho : outOK g r0) (htc : ∀ b, b < 6 → tcs b ≤ 1920) (hx19 : ∀ b, b < 6 → x 19 b 0 = nI (tcs b)) (hc : (fun (r : Int32) (u : St × (Nat → va_E)) => (r = 0 ∧ ∃ v : Int32, (fun (r : Int32) (_ : Unit) => ∃ j, j < nb ∧ p0 = nI j ∧ (0 ≤ p1.toInt ∧ p1.toInt < 8 ∧ 0 ≤ p2.toInt ∧ p2.toInt < 4) ∧ r = bitF (xorF x j (tcs j)) (8 * p2 + p1)) v () ∧ u.1 = x ∧ u.2 = va_up r0 123 (oL g f v.toInt64)) ∨ (r = 1 ∧ (fun E => E = "java/lang/IndexOutOfBoundsException" ∧ ((p0.toInt < 0 ∨ nb ≤ p0.toInt) ∨ ¬ (0 ≤ p1.toInt ∧ p1.toInt < 8 ∧ 0 ≤ p2.toInt ∧ p2.toInt < 4))) "java/lang/IndexOutOfBoundsException" ∧ u = (x, r0))) r u) (hm : (fun (r : Int32) (u : MS) => ((((p0.toInt < 0 ∨ nb ≤ p0.toInt) ∨ ¬ (0 ≤ p1.toInt ∧ p1.toInt < 8 ∧ 0 ≤ p2.toInt ∧ p2.toInt < 4))) ∧ u = (st (st y 0 0 0 0) 0 0 0 1, ch)) ∨ (∃ j, j < nb ∧ p0 = nI j ∧ ∃ c, c < 8 ∧ p1 = nI c ∧ ∃ q, q < 4 ∧ p2 = nI q ∧ u = (st y 0 0 0 0, ch) ∧ r = if st y 0 0 0 0 15 0 (32 * j + 8 * q + c) = 0 then 0 else 1)) r2 w) : w.1 0 0 0 = r ∧ (r = 0 → ∃ V : Int64, u.2 = va_up r0 123 (oL g f V) ∧ V = r2.toInt64) := by
  have hnb := hR0.gi.nb6
  rcases hc with ⟨rfl, v, ⟨j, hj, ej, hcr, ev⟩, -, e2⟩ | ⟨rfl, ⟨-, h1⟩, rfl⟩
  · rcases hm with ⟨h, -⟩ | ⟨k, hk, ek, c, hc9, ec, q, hq, eq, rfl, er⟩
    · rcases h with h | h
      · exact (bad_no (by omega) hj ej h).elim
      · exact absurd hcr h
    · obtain rfl := ix_eq (by omega) hj hk ej ek
      obtain ⟨⟨w9, q9, g⟩, g5, g6⟩ := (hR0.tz (v := 0)).bd hj
      have ep : 8 * p2 + p1 = nI (8 * q + c) := by rw [ec, eq, m8, nI_add]
      have ei : 32 * j + 8 * q + c = 32 * j + (8 * q + c) := by omega
      exact ⟨(show st y 0 0 0 0 0 0 0 = 0 from st_eq), fun _ => ⟨_, e2, by rw [ev, er, ep, ei]; exact congrArg Int32.toInt64 (by rw [anew_v g (hx19 j (by omega)) (htc j (by omega))]; exact cell_v g (by omega))⟩⟩
  · rcases hm with ⟨-, rfl⟩ | ⟨k, hk, ek, c, hc9, ec, q, hq, eq, -⟩
    · ((try dsimp only); exact ⟨st_eq, fun h => absurd h (by decide)⟩)
    · rcases h1 with h1 | h1
      · exact (bad_no (by omega) hk ek h1).elim
      · exact absurd (by rw [ec, eq, nI_toInt (by omega), nI_toInt (by omega)]; omega) h1
theorem e_worst {x y : St} {ch : Int64} {nb nn hr t : Nat} {g : gE} {r0 : Nat → va_E} {f : Nat → Int64} {p0 : Int32} {r : Int32} {u : St × (Nat → va_E)} {r2 : Int32} {w : MS} (ht : t < 512) (hR0 : R2 x y ch nb nn hr t) (ho : outOK g r0) (hc : (fun (r : Int32) (u : St × (Nat → va_E)) => (r = 0 ∧ ∃ v : Int32, (fun (r : Int32) (_ : Unit) => ∃ j, j < nb ∧ p0 = nI j ∧ r = x 16 j 0) v () ∧ u.1 = x ∧ u.2 = va_up r0 123 (oL g f v.toInt64)) ∨ (r = 1 ∧ (fun E => E = "java/lang/IndexOutOfBoundsException" ∧ (p0.toInt < 0 ∨ nb ≤ p0.toInt)) "java/lang/IndexOutOfBoundsException" ∧ u = (x, r0))) r u) (hm : (fun (r : Int32) (u : MS) => ((p0.toInt < 0 ∨ nb ≤ p0.toInt) ∧ u = (st (st y 0 0 0 0) 0 0 0 1, ch)) ∨ (∃ j, j < nb ∧ p0 = nI j ∧ u = (st y 0 0 0 0, ch) ∧ r = woM (st y 0 0 0 0) j 32)) r2 w) : w.1 0 0 0 = r ∧ (r = 0 → ∃ V : Int64, u.2 = va_up r0 123 (oL g f V) ∧ V = r2.toInt64) := by
  have hnb := hR0.gi.nb6
  rcases hc with ⟨rfl, v, ⟨j, hj, ej, ev⟩, -, e2⟩ | ⟨rfl, ⟨-, h1⟩, rfl⟩
  · rcases hm with ⟨h, -⟩ | ⟨k, hk, ek, rfl, er⟩
    · exact (bad_no (by omega) hj ej h).elim
    · obtain rfl := ix_eq (by omega) hj hk ej ek
      obtain ⟨⟨w9, q9, g⟩, g5, g6⟩ := (hR0.tz (v := 0)).bd hj
      exact ⟨(show st y 0 0 0 0 0 0 0 = 0 from st_eq), fun _ => ⟨_, e2, by rw [ev, er]; exact congrArg Int32.toInt64 (worst_v g)⟩⟩
  · rcases hm with ⟨-, rfl⟩ | ⟨k, hk, ek, -⟩
    · ((try dsimp only); exact ⟨st_eq, fun h => absurd h (by decide)⟩)
    · exact (bad_no (by omega) hk ek h1).elim
theorem e_shownShare {x y : St} {ch : Int64} {nb nn hr t : Nat} {g : gE} {r0 : Nat → va_E} {f : Nat → UInt64} {r : Int32} {u : St × (Nat → va_E)} {r2 : UInt32} {w : MS} (ht : t < 512) (hR0 : R2 x y ch nb nn hr t) (ho : outOK g r0) (hc : (fun (r : Int32) (u : St × (Nat → va_E)) => (r = 0 ∧ ∃ v : UInt32, (fun (r : UInt32) (_ : Unit) => nb ≠ 0 ∧ r = FP.fdiv (FP.i2f (ssF x nb)) (FP.i2f (x 0 0 0))) v () ∧ u.1 = x ∧ u.2 = va_up r0 124 (oD g f (FP.f2d v))) ∨ (r = 1 ∧ (fun E => E = "java/lang/ArithmeticException" ∧ nb = 0) "java/lang/ArithmeticException" ∧ u = (x, r0))) r u) (hm : (fun (r : UInt32) (u : MS) => (nb = 0 ∧ u = (st (st y 0 0 0 0) 0 0 0 1, ch)) ∨ (nb ≠ 0 ∧ u = (st y 0 0 0 0, ch) ∧ r = FP.fdiv (FP.i2f (ssM (st y 0 0 0 0) nb)) (FP.i2f ((st y 0 0 0 0) 3 0 0)))) r2 w) : w.1 0 0 0 = r ∧ (r = 0 → ∃ V : UInt64, u.2 = va_up r0 124 (oD g f V) ∧ V = FP.f2d r2 ∧ vf_n64 (FP.f2d r2)) := by
  rcases hc with ⟨rfl, v, ⟨h0, ev⟩, -, e2⟩ | ⟨rfl, ⟨-, h1⟩, rfl⟩
  · rcases hm with ⟨h, -⟩ | ⟨-, rfl, er⟩
    · exact absurd h h0
    · exact ⟨(show st y 0 0 0 0 0 0 0 = 0 from st_eq), fun _ => ⟨_, e2, by rw [ev, er, ss_v (hR0.tz (v := 0)), hR0.gi.x0, (hR0.tz (v := 0)).mi.y3], by have hnb := hR0.gi.nb6; rw [er]; obtain ⟨c9, h1, h2⟩ := cnP_nat (fun k => ¬ st y 0 0 0 0 12 0 k = -1) nb; rw [show ssM (st y 0 0 0 0) nb = nI c9 from h2, (hR0.tz (v := 0)).mi.y3]; exact (shr_ok nb (by omega) h0 c9 (by omega)).2⟩⟩
  · rcases hm with ⟨-, rfl⟩ | ⟨h, -⟩
    · ((try dsimp only); exact ⟨st_eq, fun h => absurd h (by decide)⟩)
    · exact absurd h1 h
theorem e_meanWear {x y : St} {ch : Int64} {nb nn hr t : Nat} {g : gE} {r0 : Nat → va_E} {f : Nat → UInt64} {r : Int32} {u : St × (Nat → va_E)} {r2 : UInt64} {w : MS} (ht : t < 512) (hR0 : R2 x y ch nb nn hr t) (ho : outOK g r0) (hc : (fun (r : Int32) (u : St × (Nat → va_E)) => (r = 0 ∧ ∃ v : UInt64, (fun (r : UInt64) (_ : Unit) => nb ≠ 0 ∧ r = FP.ddiv (FP.l2d (chgF x nb)) (FP.i2d (x 0 0 0 * 32))) v () ∧ u.1 = x ∧ u.2 = va_up r0 124 (oD g f v)) ∨ (r = 1 ∧ (fun E => E = "java/lang/ArithmeticException" ∧ nb = 0) "java/lang/ArithmeticException" ∧ u = (x, r0))) r u) (hm : (fun (r : UInt64) (u : MS) => (nb = 0 ∧ u = (st (st y 0 0 0 0) 0 0 0 1, ch)) ∨ (nb ≠ 0 ∧ u = (st y 0 0 0 0, ch) ∧ r = FP.ddiv (FP.i2d (swM (st y 0 0 0 0) (32 * nb))) (FP.i2d (32 * (st y 0 0 0 0) 3 0 0)))) r2 w) : w.1 0 0 0 = r ∧ (r = 0 → ∃ V : UInt64, u.2 = va_up r0 124 (oD g f V) ∧ V = r2 ∧ vf_n64 r2) := by
  rcases hc with ⟨rfl, v, ⟨h0, ev⟩, -, e2⟩ | ⟨rfl, ⟨-, h1⟩, rfl⟩
  · rcases hm with ⟨h, -⟩ | ⟨-, rfl, er⟩
    · exact absurd h h0
    · exact ⟨(show st y 0 0 0 0 0 0 0 = 0 from st_eq), fun _ => ⟨_, e2, by obtain ⟨n9, n1, n2, -, n3⟩ := chg_v (hR0.tz (v := 0)); rw [ev, er, n2, n3, hR0.gi.x0, (hR0.tz (v := 0)).mi.y3, l2d_i2d (by omega), Int32.mul_comm], by have hnb := hR0.gi.nb6; rw [er]; exact div_nn (i2d_nn _) (by rw [(hR0.tz (v := 0)).mi.y3]; exact (den_ok nb (by omega) h0).2)⟩⟩
  · rcases hm with ⟨-, rfl⟩ | ⟨h, -⟩
    · ((try dsimp only); exact ⟨st_eq, fun h => absurd h (by decide)⟩)
    · exact absurd h1 h
end EQV
