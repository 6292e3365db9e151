/-! laid by wip/gen -/
/-! CODES AND VALUES, by the first part of the relation -/
section EQV
theorem e_addBoard {x y : St} {ch : Int64} {nb nn hr : Nat} {g : gE} {r0 : Nat → va_E} {f : Nat → Int64} {p0 p1 : Int32} {r : Int32} {u : St × (Nat → va_E)} {r2 : Int32} {w : MS} (hR : R1 x y nb nn hr) (ho : outOK g r0) (hc : (fun (r : Int32) (u : St × (Nat → va_E)) => (r = 0 ∧ ∃ v : Int32, (fun (r : Int32) (u : St) => (0 ≤ p0.toInt ∧ p0.toInt ≤ 3 ∧ 0 ≤ p1.toInt ∧ p1.toInt ≤ 200) ∧ nb < 6 ∧ u = abF x nb p0 p1 ∧ r = u 0 0 0 - 1) v u.1 ∧ u.1 = u.1 ∧ u.2 = va_up r0 123 (oL g f v.toInt64)) ∨ (r = 1 ∧ (fun E => (E = "java/lang/IllegalArgumentException" ∧ ¬ (0 ≤ p0.toInt ∧ p0.toInt ≤ 3 ∧ 0 ≤ p1.toInt ∧ p1.toInt ≤ 200)) ∨ (E = "java/lang/IllegalStateException" ∧ (0 ≤ p0.toInt ∧ p0.toInt ≤ 3 ∧ 0 ≤ p1.toInt ∧ p1.toInt ≤ 200) ∧ nb = 6)) "java/lang/IllegalArgumentException" ∧ u = (x, r0)) ∨ (r = 2 ∧ (fun E => (E = "java/lang/IllegalArgumentException" ∧ ¬ (0 ≤ p0.toInt ∧ p0.toInt ≤ 3 ∧ 0 ≤ p1.toInt ∧ p1.toInt ≤ 200)) ∨ (E = "java/lang/IllegalStateException" ∧ (0 ≤ p0.toInt ∧ p0.toInt ≤ 3 ∧ 0 ≤ p1.toInt ∧ p1.toInt ≤ 200) ∧ nb = 6)) "java/lang/IllegalStateException" ∧ u = (x, r0))) r u) (hm : (fun (r : Int32) (u : MS) => (¬ (0 ≤ p0.toInt ∧ p0.toInt ≤ 3 ∧ 0 ≤ p1.toInt ∧ p1.toInt ≤ 200) ∧ u = (st (st y 0 0 0 0) 0 0 0 1, ch)) ∨ ((0 ≤ p0.toInt ∧ p0.toInt ≤ 3 ∧ 0 ≤ p1.toInt ∧ p1.toInt ≤ 200) ∧ nb = 6 ∧ u = (st (st y 0 0 0 0) 0 0 0 2, ch)) ∨ ((0 ≤ p0.toInt ∧ p0.toInt ≤ 3 ∧ 0 ≤ p1.toInt ∧ p1.toInt ≤ 200) ∧ nb < 6 ∧ u = (abM (st y 0 0 0 0) nb p0 p1, ch) ∧ r = u.1 3 0 0 - 1)) r2 w) : w.1 0 0 0 = r ∧ (r = 0 → ∃ V : Int64, u.2 = va_up r0 123 (oL g f V) ∧ V = r2.toInt64) := by
  rcases hc with ⟨rfl, v, ⟨ok, hlt, eu, ev⟩, -, e2⟩ | ⟨rfl, hpx, rfl⟩ | ⟨rfl, hpx, rfl⟩
  · rcases hm with ⟨h, -⟩ | ⟨-, h, -⟩ | ⟨-, -, rfl, er⟩
    · exact absurd ok h
    · omega
    · ((try dsimp only); have hA := (R1.tz (v := 0) hR).add (q := p1) hlt ⟨ok.1, ok.2.1⟩; exact ⟨(st_nr (by omega)).trans ((st_nr (by omega)).trans ((st_nr (by omega)).trans ((st_nr (by omega)).trans st_eq))), fun _ => ⟨_, e2, by rw [ev, eu, er, hA.gi.x0]; show _ = (abM (st y 0 0 0 0) nb p0 p1 3 0 0 - 1).toInt64; rw [hA.mi.y3]⟩⟩)
  · rcases hpx with ⟨-, h1⟩ | ⟨h1, -⟩
    · rcases hm with ⟨-, rfl⟩ | ⟨h, -⟩ | ⟨h, -⟩
      · ((try dsimp only); exact ⟨st_eq, fun h => absurd h (by decide)⟩)
      · exact absurd h h1
      · exact absurd h h1
    · exact absurd h1 (by decide)
  · rcases hpx with ⟨h1, -⟩ | ⟨-, ok, h1⟩
    · exact absurd h1 (by decide)
    · rcases hm with ⟨h, -⟩ | ⟨-, -, rfl⟩ | ⟨-, h, -⟩
      · exact absurd ok h
      · ((try dsimp only); exact ⟨st_eq, fun h => absurd h (by decide)⟩)
      · omega
theorem e_setSun {x y : St} {ch : Int64} {nb nn hr : Nat} {g : gE} {r0 : Nat → va_E} {f : Nat → Int64} {p0 : Int32} {r : Int32} {u : St × (Nat → va_E)} {r2 : Int32} {w : MS} (hR : R1 x y nb nn hr) (ho : outOK g r0) (hc : (fun (r : Int32) (u : St × (Nat → va_E)) => (r = 0 ∧ ∃ v : Int32, (fun (r : Int32) (u : St) => (0 ≤ p0.toInt ∧ p0.toInt ≤ 20) ∧ r = x 2 0 0 ∧ u = st x 2 0 0 p0) v u.1 ∧ u.1 = u.1 ∧ u.2 = va_up r0 123 (oL g f v.toInt64)) ∨ (r = 1 ∧ (fun E => E = "java/lang/IllegalArgumentException" ∧ ¬ (0 ≤ p0.toInt ∧ p0.toInt ≤ 20)) "java/lang/IllegalArgumentException" ∧ u = (x, r0))) r u) (hm : (fun (r : Int32) (u : MS) => (¬ (0 ≤ p0.toInt ∧ p0.toInt ≤ 20) ∧ u = (st (st y 0 0 0 0) 0 0 0 1, ch)) ∨ ((0 ≤ p0.toInt ∧ p0.toInt ≤ 20) ∧ u = (st (st y 0 0 0 0) 2 0 0 p0, ch) ∧ r = st y 0 0 0 0 2 0 0)) r2 w) : w.1 0 0 0 = r ∧ (r = 0 → ∃ V : Int64, u.2 = va_up r0 123 (oL g f V) ∧ V = r2.toInt64) := by
  rcases hc with ⟨rfl, v, ⟨ok, ev, eu⟩, -, e2⟩ | ⟨rfl, ⟨-, h1⟩, rfl⟩
  · rcases hm with ⟨h, -⟩ | ⟨-, rfl, er⟩
    · exact absurd ok h
    · ((try dsimp only); exact ⟨(st_nr (by omega)).trans st_eq, fun _ => ⟨_, e2, by rw [ev, er, st_nr (by omega), hR.sun]⟩⟩)
  · rcases hm with ⟨-, rfl⟩ | ⟨h, -⟩
    · ((try dsimp only); exact ⟨st_eq, fun h => absurd h (by decide)⟩)
    · exact absurd h h1
theorem e_post {x y : St} {ch : Int64} {nb nn hr : Nat} {g : gE} {r0 : Nat → va_E} {f : Nat → Int64} {p0 p1 p2 p3 : Int32} {r : Int32} {u : St × (Nat → va_E)} {r2 : Int32} {w : MS} (hR : R1 x y nb nn hr) (ho : outOK g r0) (hc : (fun (r : Int32) (u : St × (Nat → va_E)) => (r = 0 ∧ ∃ v : Int32, (fun (r : Int32) (u : St) => (0 ≤ p0.toInt ∧ p0.toInt ≤ 9 ∧ p1.toInt ≠ 0 ∧ 0 ≤ p2.toInt ∧ p2.toInt < p3.toInt ∧ p3.toInt ≤ 2000) ∧ nn < 40 ∧ u = tkF x nn p0 p1 p2 p3 ∧ r = nI nn) v u.1 ∧ u.1 = u.1 ∧ u.2 = va_up r0 123 (oL g f v.toInt64)) ∨ (r = 1 ∧ (fun E => (E = "java/lang/IllegalArgumentException" ∧ ¬ (0 ≤ p0.toInt ∧ p0.toInt ≤ 9 ∧ p1.toInt ≠ 0 ∧ 0 ≤ p2.toInt ∧ p2.toInt < p3.toInt ∧ p3.toInt ≤ 2000)) ∨ (E = "java/lang/IllegalStateException" ∧ (0 ≤ p0.toInt ∧ p0.toInt ≤ 9 ∧ p1.toInt ≠ 0 ∧ 0 ≤ p2.toInt ∧ p2.toInt < p3.toInt ∧ p3.toInt ≤ 2000) ∧ nn = 40)) "java/lang/IllegalArgumentException" ∧ u = (x, r0)) ∨ (r = 2 ∧ (fun E => (E = "java/lang/IllegalArgumentException" ∧ ¬ (0 ≤ p0.toInt ∧ p0.toInt ≤ 9 ∧ p1.toInt ≠ 0 ∧ 0 ≤ p2.toInt ∧ p2.toInt < p3.toInt ∧ p3.toInt ≤ 2000)) ∨ (E = "java/lang/IllegalStateException" ∧ (0 ≤ p0.toInt ∧ p0.toInt ≤ 9 ∧ p1.toInt ≠ 0 ∧ 0 ≤ p2.toInt ∧ p2.toInt < p3.toInt ∧ p3.toInt ≤ 2000) ∧ nn = 40)) "java/lang/IllegalStateException" ∧ u = (x, r0))) r u) (hm : (fun (r : Int32) (u : MS) => (¬ (0 ≤ p0.toInt ∧ p0.toInt ≤ 9 ∧ p1.toInt ≠ 0 ∧ 0 ≤ p2.toInt ∧ p2.toInt < p3.toInt ∧ p3.toInt ≤ 2000) ∧ u = (st (st y 0 0 0 0) 0 0 0 1, ch)) ∨ ((0 ≤ p0.toInt ∧ p0.toInt ≤ 9 ∧ p1.toInt ≠ 0 ∧ 0 ≤ p2.toInt ∧ p2.toInt < p3.toInt ∧ p3.toInt ≤ 2000) ∧ nn = 40 ∧ u = (st (st y 0 0 0 0) 0 0 0 2, ch)) ∨ ((0 ≤ p0.toInt ∧ p0.toInt ≤ 9 ∧ p1.toInt ≠ 0 ∧ 0 ≤ p2.toInt ∧ p2.toInt < p3.toInt ∧ p3.toInt ≤ 2000) ∧ nn < 40 ∧ u = (adM (st y 0 0 0 0) nn p0 p1 p2 p3, ch) ∧ r = nI nn)) r2 w) : w.1 0 0 0 = r ∧ (r = 0 → ∃ V : Int64, u.2 = va_up r0 123 (oL g f V) ∧ V = r2.toInt64) := by
  rcases hc with ⟨rfl, v, ⟨ok, hlt, eu, ev⟩, -, e2⟩ | ⟨rfl, hpx, rfl⟩ | ⟨rfl, hpx, rfl⟩
  · rcases hm with ⟨h, -⟩ | ⟨-, h, -⟩ | ⟨-, -, rfl, er⟩
    · exact absurd ok h
    · omega
    · ((try dsimp only); exact ⟨(ad_r (by omega)).trans st_eq, fun _ => ⟨_, e2, by rw [ev, er]⟩⟩)
  · rcases hpx with ⟨-, h1⟩ | ⟨h1, -⟩
    · rcases hm with ⟨-, rfl⟩ | ⟨h, -⟩ | ⟨h, -⟩
      · ((try dsimp only); exact ⟨st_eq, fun h => absurd h (by decide)⟩)
      · exact absurd h h1
      · exact absurd h h1
    · exact absurd h1 (by decide)
  · rcases hpx with ⟨h1, -⟩ | ⟨-, ok, h1⟩
    · exact absurd h1 (by decide)
    · rcases hm with ⟨h, -⟩ | ⟨-, -, rfl⟩ | ⟨-, h, -⟩
      · exact absurd ok h
      · ((try dsimp only); exact ⟨st_eq, fun h => absurd h (by decide)⟩)
      · omega
theorem e_mend {x y : St} {ch : Int64} {nb nn hr : Nat} {g : gE} {r0 : Nat → va_E} {f : Nat → Int64} {p0 p1 : Int32} {r : Int32} {u : St × (Nat → va_E)} {r2 : Int32} {w : MS} (hR : R1 x y nb nn hr) (ho : outOK g r0) (hc : (fun (r : Int32) (u : St × (Nat → va_E)) => (r = 0 ∧ ∃ v : Int32, (fun (r : Int32) (u : St) => ∃ j, j < nn ∧ p0 = nI j ∧ (p1 ≠ 0 ∧ p1 ≠ x 31 j 0) ∧ (x 34 j 0 = 0 ∧ ¬ x 33 j 0 ≤ x 3 0 0) ∧ nn < 40 ∧ u = mdF x j nn nb p1 ∧ r = nI nn) v u.1 ∧ u.1 = u.1 ∧ u.2 = va_up r0 123 (oL g f v.toInt64)) ∨ (r = 1 ∧ (fun E => (E = "java/lang/IndexOutOfBoundsException" ∧ (p0.toInt < 0 ∨ nn ≤ p0.toInt)) ∨ (∃ j, j < nn ∧ p0 = nI j ∧ ((E = "java/lang/IllegalArgumentException" ∧ ¬ (p1 ≠ 0 ∧ p1 ≠ x 31 j 0)) ∨ (E = "java/lang/UnsupportedOperationException" ∧ (p1 ≠ 0 ∧ p1 ≠ x 31 j 0) ∧ ¬ (x 34 j 0 = 0 ∧ ¬ x 33 j 0 ≤ x 3 0 0)) ∨ (E = "java/lang/IllegalStateException" ∧ (p1 ≠ 0 ∧ p1 ≠ x 31 j 0) ∧ (x 34 j 0 = 0 ∧ ¬ x 33 j 0 ≤ x 3 0 0) ∧ nn = 40)))) "java/lang/IndexOutOfBoundsException" ∧ u = (x, r0)) ∨ (r = 2 ∧ (fun E => (E = "java/lang/IndexOutOfBoundsException" ∧ (p0.toInt < 0 ∨ nn ≤ p0.toInt)) ∨ (∃ j, j < nn ∧ p0 = nI j ∧ ((E = "java/lang/IllegalArgumentException" ∧ ¬ (p1 ≠ 0 ∧ p1 ≠ x 31 j 0)) ∨ (E = "java/lang/UnsupportedOperationException" ∧ (p1 ≠ 0 ∧ p1 ≠ x 31 j 0) ∧ ¬ (x 34 j 0 = 0 ∧ ¬ x 33 j 0 ≤ x 3 0 0)) ∨ (E = "java/lang/IllegalStateException" ∧ (p1 ≠ 0 ∧ p1 ≠ x 31 j 0) ∧ (x 34 j 0 = 0 ∧ ¬ x 33 j 0 ≤ x 3 0 0) ∧ nn = 40)))) "java/lang/IllegalArgumentException" ∧ u = (x, r0)) ∨ (r = 3 ∧ (fun E => (E = "java/lang/IndexOutOfBoundsException" ∧ (p0.toInt < 0 ∨ nn ≤ p0.toInt)) ∨ (∃ j, j < nn ∧ p0 = nI j ∧ ((E = "java/lang/IllegalArgumentException" ∧ ¬ (p1 ≠ 0 ∧ p1 ≠ x 31 j 0)) ∨ (E = "java/lang/UnsupportedOperationException" ∧ (p1 ≠ 0 ∧ p1 ≠ x 31 j 0) ∧ ¬ (x 34 j 0 = 0 ∧ ¬ x 33 j 0 ≤ x 3 0 0)) ∨ (E = "java/lang/IllegalStateException" ∧ (p1 ≠ 0 ∧ p1 ≠ x 31 j 0) ∧ (x 34 j 0 = 0 ∧ ¬ x 33 j 0 ≤ x 3 0 0) ∧ nn = 40)))) "java/lang/UnsupportedOperationException" ∧ u = (x, r0)) ∨ (r = 4 ∧ (fun E => (E = "java/lang/IndexOutOfBoundsException" ∧ (p0.toInt < 0 ∨ nn ≤ p0.toInt)) ∨ (∃ j, j < nn ∧ p0 = nI j ∧ ((E = "java/lang/IllegalArgumentException" ∧ ¬ (p1 ≠ 0 ∧ p1 ≠ x 31 j 0)) ∨ (E = "java/lang/UnsupportedOperationException" ∧ (p1 ≠ 0 ∧ p1 ≠ x 31 j 0) ∧ ¬ (x 34 j 0 = 0 ∧ ¬ x 33 j 0 ≤ x 3 0 0)) ∨ (E = "java/lang/IllegalStateException" ∧ (p1 ≠ 0 ∧ p1 ≠ x 31 j 0) ∧ (x 34 j 0 = 0 ∧ ¬ x 33 j 0 ≤ x 3 0 0) ∧ nn = 40)))) "java/lang/IllegalStateException" ∧ u = (x, r0))) r u) (hm : (fun (r : Int32) (u : MS) => ((p0.toInt < 0 ∨ nn ≤ p0.toInt) ∧ u = (st (st y 0 0 0 0) 0 0 0 1, ch)) ∨ (∃ j, j < nn ∧ p0 = nI j ∧ ((¬ (p1 ≠ 0 ∧ p1 ≠ (st y 0 0 0 0) 18 0 j) ∧ u = (st (st y 0 0 0 0) 0 0 0 2, ch)) ∨ ((p1 ≠ 0 ∧ p1 ≠ (st y 0 0 0 0) 18 0 j) ∧ ¬ ((st y 0 0 0 0) 22 0 j = 0 ∧ ¬ (st y 0 0 0 0) 20 0 j ≤ (st y 0 0 0 0) 1 0 0) ∧ u = (st (st y 0 0 0 0) 0 0 0 3, ch)) ∨ ((p1 ≠ 0 ∧ p1 ≠ (st y 0 0 0 0) 18 0 j) ∧ ((st y 0 0 0 0) 22 0 j = 0 ∧ ¬ (st y 0 0 0 0) 20 0 j ≤ (st y 0 0 0 0) 1 0 0) ∧ nn = 40 ∧ u = (st (st y 0 0 0 0) 0 0 0 4, ch)) ∨ ((p1 ≠ 0 ∧ p1 ≠ (st y 0 0 0 0) 18 0 j) ∧ ((st y 0 0 0 0) 22 0 j = 0 ∧ ¬ (st y 0 0 0 0) 20 0 j ≤ (st y 0 0 0 0) 1 0 0) ∧ nn < 40 ∧ u = (mdM (st y 0 0 0 0) j nn nb p1, ch) ∧ r = nI nn)))) r2 w) : w.1 0 0 0 = r ∧ (r = 0 → ∃ V : Int64, u.2 = va_up r0 123 (oL g f V) ∧ V = r2.toInt64) := by
  have hn := hR.gi.nn40
  have e1 : st y 0 0 0 0 1 0 0 = x 3 0 0 := (st_nr (by omega)).trans (hR.y1.trans hR.x3.symm)
  have f18 : ∀ j, j < nn → st y 0 0 0 0 18 0 j = x 31 j 0 := fun j hj => (st_nr (by omega)).trans (hR.fl j hj).2.1.symm
  have f20 : ∀ j, j < nn → st y 0 0 0 0 20 0 j = x 33 j 0 := fun j hj => (st_nr (by omega)).trans (hR.fl j hj).2.2.2.symm
  have f22 : ∀ j, j < nn → st y 0 0 0 0 22 0 j = x 34 j 0 := fun j hj => (st_nr (by omega)).trans (hR.fg j (by omega)).1.symm
  rcases hc with ⟨rfl, v, ⟨j, hj, ej, q1, q2, hlt, eu, ev⟩, -, e2⟩ | ⟨rfl, hpx, rfl⟩ | ⟨rfl, hpx, rfl⟩ | ⟨rfl, hpx, rfl⟩ | ⟨rfl, hpx, rfl⟩
  · rcases hm with ⟨h, -⟩ | ⟨k, hk, ek, h⟩
    · exact (bad_no hn hj ej h).elim
    · obtain rfl := ix_eq hn hj hk ej ek
      rw [e1, f18 j hj, f20 j hj, f22 j hj] at h
      rcases h with ⟨h, -⟩ | ⟨-, h, -⟩ | ⟨-, -, h, -⟩ | ⟨-, -, -, rfl, er⟩
      · exact absurd q1 h
      · exact absurd q2 h
      · omega
      · ((try dsimp only); exact ⟨(st_nr (by omega)).trans ((st_nr (by omega)).trans ((mdL_r (by omega)).trans ((ad_r (by omega)).trans st_eq))), fun _ => ⟨_, e2, by rw [ev, er]⟩⟩)
  · rcases hm with ⟨-, rfl⟩ | ⟨k, hk, ek, h⟩
    · ((try dsimp only); exact ⟨st_eq, fun h => absurd h (by decide)⟩)
    · rcases hpx with ⟨-, h1⟩ | ⟨j, hj, ej, ⟨h1, -⟩ | ⟨h1, -⟩ | ⟨h1, -⟩⟩
      · exact (bad_no hn hk ek h1).elim
      · exact absurd h1 (by decide)
      · exact absurd h1 (by decide)
      · exact absurd h1 (by decide)
  · rcases hpx with ⟨h1, -⟩ | ⟨j, hj, ej, ⟨-, h1⟩ | ⟨h1, -⟩ | ⟨h1, -⟩⟩
    · exact absurd h1 (by decide)
    · rcases hm with ⟨h, -⟩ | ⟨k, hk, ek, h⟩
      · exact (bad_no hn hj ej h).elim
      · obtain rfl := ix_eq hn hj hk ej ek
        rw [e1, f18 j hj, f20 j hj, f22 j hj] at h
        rcases h with ⟨h, rfl⟩ | ⟨h, -⟩ | ⟨h, -⟩ | ⟨h, -⟩
        · ((try dsimp only); exact ⟨st_eq, fun h => absurd h (by decide)⟩)
        · exact absurd h h1
        · exact absurd h h1
        · exact absurd h h1
    · exact absurd h1 (by decide)
    · exact absurd h1 (by decide)
  · rcases hpx with ⟨h1, -⟩ | ⟨j, hj, ej, ⟨h1, -⟩ | ⟨-, q1, h1⟩ | ⟨h1, -⟩⟩
    · exact absurd h1 (by decide)
    · exact absurd h1 (by decide)
    · rcases hm with ⟨h, -⟩ | ⟨k, hk, ek, h⟩
      · exact (bad_no hn hj ej h).elim
      · obtain rfl := ix_eq hn hj hk ej ek
        rw [e1, f18 j hj, f20 j hj, f22 j hj] at h
        rcases h with ⟨h, -⟩ | ⟨-, h, rfl⟩ | ⟨-, h, -⟩ | ⟨-, h, -⟩
        · exact absurd q1 h
        · ((try dsimp only); exact ⟨st_eq, fun h => absurd h (by decide)⟩)
        · exact absurd h h1
        · exact absurd h h1
    · exact absurd h1 (by decide)
  · rcases hpx with ⟨h1, -⟩ | ⟨j, hj, ej, ⟨h1, -⟩ | ⟨h1, -⟩ | ⟨-, q1, q2, h1⟩⟩
    · exact absurd h1 (by decide)
    · exact absurd h1 (by decide)
    · exact absurd h1 (by decide)
    · rcases hm with ⟨h, -⟩ | ⟨k, hk, ek, h⟩
      · exact (bad_no hn hj ej h).elim
      · obtain rfl := ix_eq hn hj hk ej ek
        rw [e1, f18 j hj, f20 j hj, f22 j hj] at h
        rcases h with ⟨h, -⟩ | ⟨-, h, -⟩ | ⟨-, -, -, rfl⟩ | ⟨-, -, h, -⟩
        · exact absurd q1 h
        · exact absurd q2 h
        · ((try dsimp only); exact ⟨st_eq, fun h => absurd h (by decide)⟩)
        · omega
theorem e_deny {x y : St} {ch : Int64} {nb nn hr : Nat} {g : gE} {r0 : Nat → va_E} {f : Nat → Int64} {p0 p1 p2 : Int32} {r : Int32} {u : St × (Nat → va_E)} {r2 : Int32} {w : MS} (hR : R1 x y nb nn hr) (ho : outOK g r0) (hc : (fun (r : Int32) (u : St × (Nat → va_E)) => (r = 0 ∧ ∃ v : Int32, (fun (r : Int32) (u : St) => ((0 ≤ p1.toInt ∧ p1.toInt ≤ 3) ∧ (p0.toInt ≠ 0 ∧ p0.toInt ≠ -1) ∧ ¬ p2 ≤ x 3 0 0 ∧ p2.toInt ≤ 2000) ∧ nn < 40 ∧ u = piF (tkF x nn 10 (p0 ^^^ (-1)) (x 3 0 0) p2) nn p1 ∧ r = nI nn) v u.1 ∧ u.1 = u.1 ∧ u.2 = va_up r0 123 (oL g f v.toInt64)) ∨ (r = 1 ∧ (fun E => (E = "java/lang/IllegalArgumentException" ∧ ¬ ((0 ≤ p1.toInt ∧ p1.toInt ≤ 3) ∧ (p0.toInt ≠ 0 ∧ p0.toInt ≠ -1) ∧ ¬ p2 ≤ x 3 0 0 ∧ p2.toInt ≤ 2000)) ∨ (E = "java/lang/IllegalStateException" ∧ ((0 ≤ p1.toInt ∧ p1.toInt ≤ 3) ∧ (p0.toInt ≠ 0 ∧ p0.toInt ≠ -1) ∧ ¬ p2 ≤ x 3 0 0 ∧ p2.toInt ≤ 2000) ∧ nn = 40)) "java/lang/IllegalArgumentException" ∧ u = (x, r0)) ∨ (r = 2 ∧ (fun E => (E = "java/lang/IllegalArgumentException" ∧ ¬ ((0 ≤ p1.toInt ∧ p1.toInt ≤ 3) ∧ (p0.toInt ≠ 0 ∧ p0.toInt ≠ -1) ∧ ¬ p2 ≤ x 3 0 0 ∧ p2.toInt ≤ 2000)) ∨ (E = "java/lang/IllegalStateException" ∧ ((0 ≤ p1.toInt ∧ p1.toInt ≤ 3) ∧ (p0.toInt ≠ 0 ∧ p0.toInt ≠ -1) ∧ ¬ p2 ≤ x 3 0 0 ∧ p2.toInt ≤ 2000) ∧ nn = 40)) "java/lang/IllegalStateException" ∧ u = (x, r0))) r u) (hm : (fun (r : Int32) (u : MS) => (¬ ((0 ≤ p1.toInt ∧ p1.toInt ≤ 3) ∧ (p0.toInt ≠ 0 ∧ p0.toInt ≠ -1) ∧ ((st y 0 0 0 0) 1 0 0 + 1).toInt ≤ p2.toInt ∧ p2.toInt ≤ 2000) ∧ u = (st (st y 0 0 0 0) 0 0 0 1, ch)) ∨ (((0 ≤ p1.toInt ∧ p1.toInt ≤ 3) ∧ (p0.toInt ≠ 0 ∧ p0.toInt ≠ -1) ∧ ((st y 0 0 0 0) 1 0 0 + 1).toInt ≤ p2.toInt ∧ p2.toInt ≤ 2000) ∧ nn = 40 ∧ u = (st (st y 0 0 0 0) 0 0 0 2, ch)) ∨ (((0 ≤ p1.toInt ∧ p1.toInt ≤ 3) ∧ (p0.toInt ≠ 0 ∧ p0.toInt ≠ -1) ∧ ((st y 0 0 0 0) 1 0 0 + 1).toInt ≤ p2.toInt ∧ p2.toInt ≤ 2000) ∧ nn < 40 ∧ ∃ d, d < 4 ∧ p1 = nI d ∧ u = (qsM (adM (st y 0 0 0 0) nn 10 (p0 ^^^ (-1)) ((st y 0 0 0 0) 1 0 0) p2) nn d, ch) ∧ r = nI nn)) r2 w) : w.1 0 0 0 = r ∧ (r = 0 → ∃ V : Int64, u.2 = va_up r0 123 (oL g f V) ∧ V = r2.toInt64) := by
  have e1 : st y 0 0 0 0 1 0 0 = x 3 0 0 := (st_nr (by omega)).trans (hR.y1.trans hR.x3.symm)
  have hb1 : (x 3 0 0).toInt < 2147483647 := by rw [hR.x3, nI_toInt (by have := hR.hr; omega)]; have := hR.hr; omega
  have hb2 : 0 ≤ (x 3 0 0).toInt := by rw [hR.x3, nI_toInt (by have := hR.hr; omega)]; omega
  rcases hc with ⟨rfl, v, ⟨ok, hlt, eu, ev⟩, -, e2⟩ | ⟨rfl, hpx, rfl⟩ | ⟨rfl, hpx, rfl⟩
  · rcases hm with ⟨h, -⟩ | ⟨-, h, -⟩ | ⟨-, -, d, -, -, rfl, er⟩
    · exact absurd (⟨ok.1, ok.2.1, by rw [e1]; exact sle ok.2.2.1 hb1, ok.2.2.2⟩) h
    · omega
    · ((try dsimp only); exact ⟨(st_nr (by omega)).trans ((ad_r (by omega)).trans st_eq), fun _ => ⟨_, e2, by rw [ev, er]⟩⟩)
  · rcases hpx with ⟨-, h1⟩ | ⟨h1, -⟩
    · rcases hm with ⟨-, rfl⟩ | ⟨h, -⟩ | ⟨h, -⟩
      · ((try dsimp only); exact ⟨st_eq, fun h => absurd h (by decide)⟩)
      · exact absurd (⟨h.1, h.2.1, sle2 (by rw [← e1]; exact h.2.2.1) hb1 hb2, h.2.2.2⟩) h1
      · exact absurd (⟨h.1, h.2.1, sle2 (by rw [← e1]; exact h.2.2.1) hb1 hb2, h.2.2.2⟩) h1
    · exact absurd h1 (by decide)
  · rcases hpx with ⟨h1, -⟩ | ⟨-, ok, h1⟩
    · exact absurd h1 (by decide)
    · rcases hm with ⟨h, -⟩ | ⟨-, -, rfl⟩ | ⟨-, h, -⟩
      · exact absurd (⟨ok.1, ok.2.1, by rw [e1]; exact sle ok.2.2.1 hb1, ok.2.2.2⟩) h
      · ((try dsimp only); exact ⟨st_eq, fun h => absurd h (by decide)⟩)
      · omega
theorem e_go {x y : St} {ch : Int64} {nb nn hr : Nat} {g : gE} {r0 : Nat → va_E} {f : Nat → Int64} {p0 : Int32} {r : Int32} {u : St × (Nat → va_E)} {r2 : Int32} {w : MS} (hR : R1 x y nb nn hr) (ho : outOK g r0) (hc : (fun (r : Int32) (u : St × (Nat → va_E)) => (r = 0 ∧ ∃ v : Int32, (fun (r : Int32) (u : St) => (1 ≤ p0.toInt ∧ p0.toInt ≤ 48) ∧ x 3 0 0 + p0 ≤ 2000 ∧ ∃ N, N ≤ 48 ∧ p0 = nI N ∧ u = goF x nb nn N ∧ r = u 3 0 0) v u.1 ∧ u.1 = u.1 ∧ u.2 = va_up r0 123 (oL g f v.toInt64)) ∨ (r = 1 ∧ (fun E => (E = "java/lang/IllegalArgumentException" ∧ ¬ (1 ≤ p0.toInt ∧ p0.toInt ≤ 48)) ∨ (E = "java/lang/IllegalStateException" ∧ (1 ≤ p0.toInt ∧ p0.toInt ≤ 48) ∧ ¬ x 3 0 0 + p0 ≤ 2000)) "java/lang/IllegalArgumentException" ∧ u = (x, r0)) ∨ (r = 2 ∧ (fun E => (E = "java/lang/IllegalArgumentException" ∧ ¬ (1 ≤ p0.toInt ∧ p0.toInt ≤ 48)) ∨ (E = "java/lang/IllegalStateException" ∧ (1 ≤ p0.toInt ∧ p0.toInt ≤ 48) ∧ ¬ x 3 0 0 + p0 ≤ 2000)) "java/lang/IllegalStateException" ∧ u = (x, r0))) r u) (hm : (fun (r : Int32) (u : MS) => (¬ (1 ≤ p0.toInt ∧ p0.toInt ≤ 48) ∧ u = (st (st y 0 0 0 0) 0 0 0 1, ch)) ∨ ((1 ≤ p0.toInt ∧ p0.toInt ≤ 48) ∧ ¬ (st y 0 0 0 0) 1 0 0 + p0 ≤ 2000 ∧ u = (st (st y 0 0 0 0) 0 0 0 2, ch)) ∨ ((1 ≤ p0.toInt ∧ p0.toInt ≤ 48) ∧ (st y 0 0 0 0) 1 0 0 + p0 ≤ 2000 ∧ ∃ N, N ≤ 48 ∧ p0 = nI N ∧ u = goM (st y 0 0 0 0, ch) nb nn N ∧ r = u.1 1 0 0)) r2 w) : w.1 0 0 0 = r ∧ (r = 0 → ∃ V : Int64, u.2 = va_up r0 123 (oL g f V) ∧ V = r2.toInt64) := by
  have e1 : st y 0 0 0 0 1 0 0 = x 3 0 0 := (st_nr (by omega)).trans (hR.y1.trans hR.x3.symm)
  rcases hc with ⟨rfl, v, ⟨ok, hle, N, hN, eN, eu, ev⟩, -, e2⟩ | ⟨rfl, hpx, rfl⟩ | ⟨rfl, hpx, rfl⟩
  · rcases hm with ⟨h, -⟩ | ⟨-, h, -⟩ | ⟨-, -, N2, hN2, eN2, rfl, er⟩
    · exact absurd ok h
    · exact absurd (by rw [e1]; exact hle) h
    · have e9 : N2 = N := (nI_eq (by omega) (by omega)).mp (eN2.symm.trans eN)
      have h9 : hr + N ≤ 2000 := by
        have h8 := hR.hr
        rw [hR.x3, eN, nI_add, Int32.le_iff_toInt_le, nI_toInt (by omega), i_2000] at hle
        omega
      ((try dsimp only); have hA := (R1.tz (v := 0) hR).go (ch := ch) hN h9 e9; exact ⟨(goM_r (by omega)).trans (show st y 0 0 0 0 0 0 0 = 0 from st_eq), fun _ => ⟨_, e2, by rw [ev, eu, er, hA.x3]; show _ = ((goM (st y 0 0 0 0, ch) nb nn N2).1 1 0 0).toInt64; rw [hA.y1]⟩⟩)
  · rcases hpx with ⟨-, h1⟩ | ⟨h1, -⟩
    · rcases hm with ⟨-, rfl⟩ | ⟨h, -⟩ | ⟨h, -⟩
      · ((try dsimp only); exact ⟨st_eq, fun h => absurd h (by decide)⟩)
      · exact absurd h h1
      · exact absurd h h1
    · exact absurd h1 (by decide)
  · rcases hpx with ⟨h1, -⟩ | ⟨-, ok, h1⟩
    · exact absurd h1 (by decide)
    · rcases hm with ⟨h, -⟩ | ⟨-, -, rfl⟩ | ⟨-, h, -⟩
      · exact absurd ok h
      · ((try dsimp only); exact ⟨st_eq, fun h => absurd h (by decide)⟩)
      · exact absurd (by rw [← e1]; exact h) h1
theorem e_isDue {x y : St} {ch : Int64} {nb nn hr : Nat} {g : gE} {r0 : Nat → va_E} {f : Nat → Int64} {p0 : Int32} {r : Int32} {u : St × (Nat → va_E)} {r2 : Int32} {w : MS} (hR : R1 x y nb nn hr) (ho : outOK g r0) (hc : (fun (r : Int32) (u : St × (Nat → va_E)) => (r = 0 ∧ ∃ v : Int32, (fun (r : Int32) (_ : Unit) => ∃ j, j < nn ∧ p0 = nI j ∧ ((r = 1 ∧ (x 32 j 0 ≤ x 3 0 0 ∧ x 3 0 0 < x 33 j 0)) ∨ (r = 0 ∧ ¬ ((x 32 j 0 ≤ x 3 0 0 ∧ x 3 0 0 < x 33 j 0))))) v () ∧ u.1 = x ∧ u.2 = va_up r0 123 (oL g f (if v = 0 then 0 else 1))) ∨ (r = 1 ∧ (fun E => E = "java/lang/IndexOutOfBoundsException" ∧ (p0.toInt < 0 ∨ nn ≤ p0.toInt)) "java/lang/IndexOutOfBoundsException" ∧ u = (x, r0))) r u) (hm : (fun (r : Int32) (u : MS) => ((p0.toInt < 0 ∨ nn ≤ p0.toInt) ∧ u = (st (st y 0 0 0 0) 0 0 0 1, ch)) ∨ (∃ j, j < nn ∧ p0 = nI j ∧ u = (st y 0 0 0 0, ch) ∧ ((r = 1 ∧ duP (st y 0 0 0 0) j) ∨ (r = 0 ∧ ¬ (duP (st y 0 0 0 0) j))))) r2 w) : w.1 0 0 0 = r ∧ (r = 0 → ∃ V : Int64, u.2 = va_up r0 123 (oL g f V) ∧ (r2 = 0 → V = 0) ∧ (¬ r2 = 0 → V = 1)) := by
  have hn := hR.gi.nn40
  rcases hc with ⟨rfl, v, ⟨j, hj, ej, hv⟩, -, e2⟩ | ⟨rfl, ⟨-, h1⟩, rfl⟩
  · rcases hm with ⟨h, -⟩ | ⟨k, hk, ek, rfl, hr2⟩
    · exact (bad_no hn hj ej h).elim
    · obtain rfl := ix_eq hn hj hk ej ek
      obtain ⟨-, -, g5, g6⟩ := hR.fl j hj
      have hP : duP (st y 0 0 0 0) j ↔ (x 32 j 0 ≤ x 3 0 0 ∧ x 3 0 0 < x 33 j 0) := by
        unfold duP
        rw [st_nr (by omega), st_nr (by omega), st_nr (by omega), ← g5, ← g6, hR.y1, hR.x3]
      refine ⟨(show st y 0 0 0 0 0 0 0 = 0 from st_eq), fun _ => ⟨_, e2, fun h0 => ?_, fun h0 => ?_⟩⟩
      · rcases hr2 with ⟨h1, -⟩ | ⟨-, h1⟩
        · exact absurd (h1.symm.trans h0) (by decide)
        · rcases hv with ⟨-, h2⟩ | ⟨h2, -⟩
          · exact absurd (hP.mpr h2) h1
          · rw [if_pos h2]
      · rcases hr2 with ⟨-, h1⟩ | ⟨h1, -⟩
        · rcases hv with ⟨h2, -⟩ | ⟨-, h2⟩
          · rw [if_neg (by rw [h2]; decide)]
          · exact absurd (hP.mp h1) h2
        · exact absurd h1 h0
  · rcases hm with ⟨-, rfl⟩ | ⟨k, hk, ek, -⟩
    · ((try dsimp only); exact ⟨st_eq, fun h => absurd h (by decide)⟩)
    · exact (bad_no hn hk ek h1).elim
end EQV
