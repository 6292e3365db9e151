/-! p35: what every run keeps beside the relation: what a board shows is its notice's picture; readers by boards are those by hours -/
section J35
theorem ch_15 {x : St} {i : Nat} {p : Int32} : chF x i p 15 i 0 = x 15 i 0 ^^^ p := (woL_r (by omega)).trans ((ch2_r (by omega)).trans (by unfold ch1; rw [st_eq, st_nr (by omega)]))
theorem xor_xx {a b : Int32} : a ^^^ (a ^^^ b) = b := by rw [← Int32.xor_assoc, Int32.xor_self, Int32.zero_xor]
theorem bs_rng {x : St} {i : Nat} {p : Int32} (k : Nat) : (bs x i p k).1 = -1 ∨ ∃ j, j < k ∧ (bs x i p k).1 = nI j := by
  induction k with
  | zero => exact Or.inl rfl
  | succ k ih =>
    have up : (bs x i p k).1 = -1 ∨ ∃ j, j < k + 1 ∧ (bs x i p k).1 = nI j := ih.imp id (fun ⟨j, hj, e⟩ => ⟨j, by omega, e⟩)
    by_cases h : ctP x i (shF p (nI k))
    · by_cases h2 : bsC x i p k (bs x i p k)
      · rw [bs_take h h2]; exact Or.inr ⟨k, by omega, rfl⟩
      · rw [bs_keep h h2]; exact up
    · rw [bs_no h]; exact up
/-- a board shows nothing and is white, or a notice of its district by its shift -/
def SHB (x : St) (b nn d : Nat) : Prop := (x 12 b 0 = -1 ∧ x 15 b 0 = 0 ∧ x 13 b 0 = 0) ∨ ∃ n, n < nn ∧ x 12 b 0 = nI n ∧ (∃ s, s ≤ 7 ∧ x 13 b 0 = nI s ∧ x 15 b 0 = shF (x 31 n 0) (nI s)) ∧ bt (x 36 n 0) d = true
theorem SHB.of {x x' : St} {b nn nn' d : Nat} (h : SHB x b nn d) (hn : nn ≤ nn') (e : ∀ r, (r = 12 ∨ r = 13 ∨ r = 15) → x' r b 0 = x r b 0) (e31 : ∀ n, n < nn → x' 31 n 0 = x 31 n 0) (e36 : ∀ n, n < nn → bt (x 36 n 0) d = true → bt (x' 36 n 0) d = true) : SHB x' b nn' d := by
  unfold SHB
  rw [e 12 (by omega), e 13 (by omega), e 15 (by omega)]
  refine h.imp id (fun ⟨n, h1, h2, h3, h4⟩ => ⟨n, by omega, h2, ?_, e36 n h1 h4⟩)
  rw [e31 n h1]; exact h3
theorem SHB.wi {x : St} {b nn d : Nat} : SHB (wiF x b) b nn d := by
  refine Or.inl ⟨?_, ?_, st_eq⟩
  · exact (st_nr (by omega)).trans st_eq
  · refine (st_nr (by omega)).trans ((st_nr (by omega)).trans (ch_15.trans ?_))
    exact Int32.xor_self
theorem SHB.tu {x : St} {b nn d k : Nat} (hk : k < nn) (hb : (bs x b (x 31 k 0) 8).1 ≠ -1) (hd : bt (x 36 k 0) d = true) : SHB (tuF x b k) b nn d := by
  obtain ⟨s, hs, es⟩ := (bs_rng 8).resolve_left hb
  have e31 : tuF x b k 31 k 0 = x 31 k 0 := tu_r (by omega)
  have e36 : tuF x b k 36 k 0 = x 36 k 0 := tu_r (by omega)
  refine Or.inr ⟨k, hk, ?_, ⟨s, by omega, ?_, ?_⟩, by rw [e36]; exact hd⟩
  · exact (st_nr (by omega)).trans st_eq
  · exact st_eq.trans es
  · rw [e31]
    refine (st_nr (by omega)).trans ((st_nr (by omega)).trans (ch_15.trans ?_))
    rw [xor_xx, es]
theorem shb_L {b nn d : Nat} (hd4 : d < 4) (m : Nat) : ∀ (k : Nat) (x : St), k + m ≤ nn → (∀ j, j < nn → rk x j < nn) → x 10 b 0 = nI d → SHB x b nn d → SHB (lhL b m k x) b nn d := by
  induction m with
  | zero => intro k x _ _ _ _; exact SHB.wi
  | succ m ih =>
    intro k x hk hr h10 h
    unfold lhL
    split
    · rename_i hc
      split
      · exact h
      · split
        · exact ih _ _ (by omega) (fun j hj => by show (st x 14 b 0 1 43 0 j).toNatClampNeg < nn; rw [st_nr (by omega)]; exact hr j hj) ((st_nr (by omega)).trans h10) (h.of (Nat.le_refl _) (fun r hr => st_nr (by omega)) (fun n _ => st_nr (by omega)) (fun n _ h9 => by rw [st_nr (by omega)]; exact h9))
        · rename_i h2 h3
          refine SHB.tu (hr k (by omega)) h3 ?_
          have h9 := hc.2.1
          rw [h10] at h9
          exact (bitF_bt (by omega)).mp h9
    · exact ih _ _ (by omega) hr h10 h
theorem shb_F {x : St} {b nn d : Nat} (hd4 : d < 4) (hr : ∀ j, j < nn → rk x j < nn) (h10 : x 10 b 0 = nI d) (h : SHB x b nn d) : SHB (lhF x b nn) b nn d := by
  have hA : SHB (lhA x b) b nn d := h.of (Nat.le_refl _) (fun r hr => (st_nr (by omega)).trans (st_nr (by omega))) (fun n _ => lhA_r (by omega)) (fun n _ h9 => by rw [lhA_r (by omega)]; exact h9)
  have hB : SHB (lhB (lhA x b) b) b nn d := by
    unfold lhB
    split
    · exact hA
    · split
      · exact hA
      · exact SHB.wi
  refine shb_L hd4 nn 0 _ (by omega) (fun j hj => ?_) ?_ hB
  · show (lhB (lhA x b) b 43 0 j).toNatClampNeg < nn
    rw [lhB_r (by omega), lhA_r (by omega)]; exact hr j hj
  · rw [lhB_r (by omega), lhA_r (by omega)]; exact h10
theorem shb_H {x : St} {nn : Nat} {d : Nat → Nat} (hr : ∀ j, j < nn → rk x j < nn) (nb : Nat) (h : ∀ b, b < nb → d b < 4 ∧ x 10 b 0 = nI (d b) ∧ SHB x b nn (d b)) (k : Nat) : ∀ b, b < nb → SHB (hrF x nn k) b nn (d b) := by
  induction k with
  | zero => intro b hb; exact (h b hb).2.2
  | succ k ih =>
    intro b hb
    obtain ⟨h1, h2, -⟩ := h b hb
    show SHB (lhF (hrF x nn k) k nn) b nn (d b)
    by_cases hbk : b = k
    · subst hbk
      refine shb_F h1 (fun j hj => ?_) ?_ (ih b hb)
      · show (hrF x nn b 43 0 j).toNatClampNeg < nn
        rw [hrF_r (by omega)]; exact hr j hj
      · rw [hrF_r (by omega)]; exact h2
    · exact (ih b hb).of (Nat.le_refl _) (fun r _ => lhF_i hbk) (fun n _ => lhF_r (by omega)) (fun n _ h9 => by rw [lhF_r (by omega)]; exact h9)
theorem go_r {x : St} {nb nn r i j : Nat} (h : (r < 11 ∨ 21 < r) ∧ r ≠ 3) (k : Nat) : goF x nb nn k r i j = x r i j := by
  induction k with
  | zero => rfl
  | succ k ih => exact (hrF_r h.1).trans ((goS_r h.2).trans ih)
theorem shb_G {x : St} {nb nn : Nat} {d : Nat → Nat} (hr : ∀ j, j < nn → rk x j < nn) (h : ∀ b, b < nb → d b < 4 ∧ x 10 b 0 = nI (d b) ∧ SHB x b nn (d b)) (k : Nat) : ∀ b, b < nb → SHB (goF x nb nn k) b nn (d b) := by
  induction k with
  | zero => intro b hb; exact (h b hb).2.2
  | succ k ih =>
    refine shb_H (x := goS (goF x nb nn k)) (d := d) (fun j hj => ?_) nb (fun b hb => ?_) nb
    · show (goS (goF x nb nn k) 43 0 j).toNatClampNeg < nn
      rw [goS_r (by omega), go_r (by omega)]; exact hr j hj
    · obtain ⟨h1, h2, -⟩ := h b hb
      refine ⟨h1, by rw [goS_r (by omega), go_r (by omega)]; exact h2, (ih b hb).of (Nat.le_refl _) (fun r _ => goS_r (by omega)) (fun n _ => goS_r (by omega)) (fun n _ h9 => by rw [goS_r (by omega)]; exact h9)⟩
/-- readers by boards are those by hours; none later than now -/
def y24S (y : St) (n : Nat) : Nat → Int32
  | 0 => 0
  | b + 1 => y24S y n b + y 24 0 (6 * n + b)
def y25S (y : St) (n : Nat) : Nat → Int32
  | 0 => 0
  | h + 1 => y25S y n h + y 25 0 (2001 * n + h)
def RS (y : St) (hr : Nat) : Prop := ∀ n, n < 40 → y24S y n 4 = y25S y n (hr + 1) ∧ ∀ h, hr < h → h ≤ 2000 → y 25 0 (2001 * n + h) = 0
theorem y24_c {y y' : St} {n : Nat} (k : Nat) (h : ∀ b, b < k → y' 24 0 (6 * n + b) = y 24 0 (6 * n + b)) : y24S y' n k = y24S y n k := by
  induction k with
  | zero => rfl
  | succ k ih => show y24S y' n k + _ = y24S y n k + _; rw [ih (fun b hb => h b (by omega)), h k (by omega)]
theorem y25_c {y y' : St} {n : Nat} (k : Nat) (h : ∀ b, b < k → y' 25 0 (2001 * n + b) = y 25 0 (2001 * n + b)) : y25S y' n k = y25S y n k := by
  induction k with
  | zero => rfl
  | succ k ih => show y25S y' n k + _ = y25S y n k + _; rw [ih (fun b hb => h b (by omega)), h k (by omega)]
theorem RS.of {y y' : St} {hr : Nat} (h : RS y hr) (e : ∀ r j, (r = 24 ∨ r = 25) → y' r 0 j = y r 0 j) : RS y' hr := fun n hn => by
  rw [y24_c 4 (fun b _ => e 24 _ (by omega)), y25_c (hr + 1) (fun b _ => e 25 _ (by omega))]
  exact ⟨(h n hn).1, fun q h1 h2 => by rw [e 25 _ (by omega)]; exact (h n hn).2 q h1 h2⟩
theorem RS.up {y : St} {hr N : Nat} (h : RS y hr) (hN : hr + N ≤ 2000) : RS y (hr + N) := fun n hn => by
  obtain ⟨h1, h2⟩ := h n hn
  refine ⟨?_, fun q h3 h4 => h2 q (by omega) h4⟩
  induction N with
  | zero => exact h1
  | succ N ih =>
    have e := ih (by omega)
    show _ = y25S y n (hr + N + 1) + y 25 0 (2001 * n + (hr + N + 1))
    rw [← e, h2 (hr + N + 1) (by omega) (by omega), Int32.add_zero]
theorem y24_add {y : St} {n j : Nat} {v : Int32} {y' : St} (k : Nat) (e : ∀ b, b < 6 → y' 24 0 (6 * n + b) = if b = j then y 24 0 (6 * n + b) + v else y 24 0 (6 * n + b)) (hk : k ≤ 6) : y24S y' n k = if j < k then y24S y n k + v else y24S y n k := by
  induction k with
  | zero => rw [if_neg (by omega)]; rfl
  | succ k ih =>
    show y24S y' n k + y' 24 0 (6 * n + k) = _
    rw [ih (by omega), e k (by omega)]
    show _ = if j < k + 1 then y24S y n k + y 24 0 (6 * n + k) + v else y24S y n k + y 24 0 (6 * n + k)
    by_cases h1 : j < k
    · rw [if_pos h1, if_neg (show ¬ k = j by omega), if_pos (show j < k + 1 by omega), Int32.add_assoc, Int32.add_comm v, ← Int32.add_assoc]
    · rw [if_neg h1]
      by_cases h2 : k = j
      · rw [if_pos h2, if_pos (by omega), Int32.add_assoc]
      · rw [if_neg h2, if_neg (by omega)]
theorem y25_add {y : St} {n j : Nat} {v : Int32} {y' : St} (k : Nat) (e : ∀ b, b ≤ 2000 → y' 25 0 (2001 * n + b) = if b = j then y 25 0 (2001 * n + b) + v else y 25 0 (2001 * n + b)) (hk : k ≤ 2001) : y25S y' n k = if j < k then y25S y n k + v else y25S y n k := by
  induction k with
  | zero => rw [if_neg (by omega)]; rfl
  | succ k ih =>
    show y25S y' n k + y' 25 0 (2001 * n + k) = _
    rw [ih (by omega), e k (by omega)]
    show _ = if j < k + 1 then y25S y n k + y 25 0 (2001 * n + k) + v else y25S y n k + y 25 0 (2001 * n + k)
    by_cases h1 : j < k
    · rw [if_pos h1, if_neg (show ¬ k = j by omega), if_pos (show j < k + 1 by omega), Int32.add_assoc, Int32.add_comm v, ← Int32.add_assoc]
    · rw [if_neg h1]
      by_cases h2 : k = j
      · rw [if_pos h2, if_pos (by omega), Int32.add_assoc]
      · rw [if_neg h2, if_neg (by omega)]
theorem RS.ps {y : St} {hr k j : Nat} {v : Int32} (h : RS y hr) (hk : k < 40) (hj : j < 4) (hh : hr ≤ 2000) : RS (psM y k j hr v) hr := by
  have e24 : ∀ q, psM y k j hr v 24 0 q = st y 24 0 (6 * k + j) (y 24 0 (6 * k + j) + v) 24 0 q := fun q => st_nr (by omega)
  have e25 : ∀ q, psM y k j hr v 25 0 q = if q = 2001 * k + hr then y 25 0 q + v else y 25 0 q := fun q => by
    unfold psM
    by_cases hq : q = 2001 * k + hr
    · subst hq; rw [st_eq, if_pos rfl, st_nr (by omega)]
    · rw [st_j (by omega), if_neg hq, st_nr (by omega)]
  intro n hn
  obtain ⟨h1, h2⟩ := h n hn
  by_cases hnk : n = k
  · subst hnk
    have a1 := y24_add (y := y) (y' := psM y n j hr v) (n := n) (j := j) (v := v) 4 (fun b hb => by
      rw [e24]
      by_cases hbj : b = j
      · subst hbj; rw [st_eq, if_pos rfl]
      · rw [st_j (by omega), if_neg hbj]) (by omega)
    have a2 := y25_add (y := y) (y' := psM y n j hr v) (n := n) (j := hr) (v := v) (hr + 1) (fun b hb => by
      rw [e25]
      by_cases hbj : b = hr
      · subst hbj; rw [if_pos rfl, if_pos rfl]
      · rw [if_neg (by omega), if_neg hbj]) (by omega)
    rw [if_pos hj] at a1
    rw [if_pos (by omega)] at a2
    refine ⟨by rw [a1, a2, h1], fun q h3 h4 => ?_⟩
    rw [e25, if_neg (by omega)]; exact h2 q h3 h4
  · refine ⟨?_, fun q h3 h4 => ?_⟩
    · rw [y24_c 4 (fun b hb => by rw [e24, st_j (by omega)]), y25_c (hr + 1) (fun b hb => by rw [e25, if_neg (by omega)])]; exact h1
    · rw [e25, if_neg (by omega)]; exact h2 q h3 h4
end J35
