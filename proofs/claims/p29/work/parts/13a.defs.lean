/-! MORE WORDS of the class's methods; what every state keeps (GI) -/
section GD2
def GI (x : St) (nb nn : Nat) : Prop := (nb ≤ 6 ∧ x 0 0 0 = nI nb) ∧ (nn ≤ 40 ∧ x 1 0 0 = nI nn) ∧ (∀ b, b < 6 → x 12 b 0 = -1 ∨ ∃ k, k < 40 ∧ x 12 b 0 = nI k) ∧ (∀ j, j < 40 → (x 43 0 j).toNatClampNeg < 40) ∧ ∀ b, b < 6 → (x 19 b 0).toNatClampNeg ≤ 1920 ∧ x 19 b 0 = nI (x 19 b 0).toNatClampNeg
theorem GI.nb6 {x : St} {nb nn : Nat} (h : GI x nb nn) : nb ≤ 6 := h.1.1
theorem GI.x0 {x : St} {nb nn : Nat} (h : GI x nb nn) : x 0 0 0 = nI nb := h.1.2
theorem GI.nn40 {x : St} {nb nn : Nat} (h : GI x nb nn) : nn ≤ 40 := h.2.1.1
theorem GI.x1 {x : St} {nb nn : Nat} (h : GI x nb nn) : x 1 0 0 = nI nn := h.2.1.2
theorem GI.sh {x : St} {nb nn : Nat} (h : GI x nb nn) : ∀ b, b < 6 → x 12 b 0 = -1 ∨ ∃ k, k < 40 ∧ x 12 b 0 = nI k := h.2.2.1
theorem GI.rk {x : St} {nb nn : Nat} (h : GI x nb nn) : ∀ j, j < 40 → (x 43 0 j).toNatClampNeg < 40 := h.2.2.2.1
theorem GI.tc {x : St} {nb nn : Nat} (h : GI x nb nn) {b : Nat} (hb : b < 6) : (x 19 b 0).toNatClampNeg ≤ 1920 := (h.2.2.2.2 b hb).1
theorem GI.x19 {x : St} {nb nn : Nat} (h : GI x nb nn) {b : Nat} (hb : b < 6) : x 19 b 0 = nI (x 19 b 0).toNatClampNeg := (h.2.2.2.2 b hb).2
theorem GI.of {x y : St} {nb nn : Nat} (h : GI x nb nn) (e : ∀ r, r = 0 ∨ r = 1 ∨ r = 12 ∨ r = 43 ∨ r = 19 → ∀ i j, y r i j = x r i j) : GI y nb nn := by
  obtain ⟨⟨a, b⟩, ⟨c, d⟩, e1, f, g⟩ := h
  refine ⟨⟨a, (e 0 (by omega) _ _).trans b⟩, ⟨c, (e 1 (by omega) _ _).trans d⟩, fun q hq => ?_, fun q hq => ?_, fun q hq => ?_⟩
  · rw [e 12 (by omega)]; exact e1 q hq
  · rw [e 43 (by omega)]; exact f q hq
  · rw [e 19 (by omega)]; exact g q hq
theorem GI.k9 {x : St} {nb nn r i j : Nat} {v : Int32} (h : GI x nb nn) (hr : r ≠ 0 ∧ r ≠ 1 ∧ r ≠ 12 ∧ r ≠ 43 ∧ r ≠ 19) : GI (st x r i j v) nb nn :=
  h.of (fun q hq _ _ => st_nr (by omega))
theorem st_i {x : St} {r i j : Nat} {v : Int32} {r' i' j' : Nat} (h : i ≠ i') : st x r i j v r' i' j' = x r' i' j' := by
  simp only [st]
  exact if_neg (fun h9 => h h9.2.1.symm)
theorem wo_r {x : St} {i : Nat} {p : Int32} {r a b : Nat} (h : r ≠ 16 ∧ r ≠ 17 ∧ r ≠ 18 ∧ r ≠ 20) : woF x i p r a b = x r a b := by
  unfold woF wo5 wo4 wo3 wo2 wo1
  repeat (first | rfl | rw [st_nr (by omega)] | split)
theorem wo_i {x : St} {i : Nat} {p : Int32} {r a b : Nat} (h : a ≠ i) : woF x i p r a b = x r a b := by
  unfold woF wo5 wo4 wo3 wo2 wo1
  repeat (first | rfl | rw [st_i (by omega)] | split)
theorem woL_r {x : St} {i : Nat} {p : Int32} {k r a b : Nat} (h : r ≠ 16 ∧ r ≠ 17 ∧ r ≠ 18 ∧ r ≠ 20) : woL x i p k r a b = x r a b := by
  induction k with
  | zero => rfl
  | succ k ih =>
    unfold woL
    split
    · exact (wo_r h).trans ih
    · exact ih
theorem woL_i {x : St} {i : Nat} {p : Int32} {k r a b : Nat} (h : a ≠ i) : woL x i p k r a b = x r a b := by
  induction k with
  | zero => rfl
  | succ k ih =>
    unfold woL
    split
    · exact (wo_i h).trans ih
    · exact ih
theorem ch1_r {x : St} {i : Nat} {p : Int32} {r a b : Nat} (h : r ≠ 11 ∧ r ≠ 15) : ch1 x i p r a b = x r a b := by
  unfold ch1
  repeat (first | rfl | rw [st_nr (by omega)])
theorem ch2_r {x : St} {i : Nat} {p : Int32} {r a b : Nat} (h : r ≠ 21 ∧ r ≠ 19) : ch2 x i p r a b = x r a b := by
  unfold ch2
  repeat (first | rfl | rw [st_nr (by omega)] | split)
theorem ch_r {x : St} {i : Nat} {p : Int32} {r a b : Nat} (h : r ≠ 11 ∧ r ≠ 15 ∧ r ≠ 16 ∧ r ≠ 17 ∧ r ≠ 18 ∧ r ≠ 19 ∧ r ≠ 20 ∧ r ≠ 21) : chF x i p r a b = x r a b :=
  (woL_r (by omega)).trans ((ch2_r (by omega)).trans (ch1_r (by omega)))
theorem ch1_i {x : St} {i : Nat} {p : Int32} {r a b : Nat} (h : a ≠ i) : ch1 x i p r a b = x r a b := by
  unfold ch1
  repeat (first | rfl | rw [st_i (by omega)])
theorem ch2_i {x : St} {i : Nat} {p : Int32} {r a b : Nat} (h : a ≠ i) : ch2 x i p r a b = x r a b := by
  unfold ch2
  repeat (first | rfl | rw [st_i (by omega)] | split)
theorem ch_i {x : St} {i : Nat} {p : Int32} {r a b : Nat} (h : a ≠ i) : chF x i p r a b = x r a b :=
  (woL_i h).trans ((ch2_i h).trans (ch1_i h))
theorem ch_19 {x : St} {i : Nat} {p : Int32} : chF x i p 19 i 0 = if p = 0 then x 19 i 0 else if 1920 ≤ x 19 i 0 then x 19 i 0 else x 19 i 0 + 1 := by
  refine (woL_r (by omega)).trans ?_
  have e : ch1 x i p 19 i 0 = x 19 i 0 := ch1_r (by omega)
  unfold ch2
  rw [e]
  by_cases h : p = 0
  · rw [if_pos h, if_pos h]; exact e
  · rw [if_neg h, if_neg h]
    by_cases h2 : 1920 ≤ x 19 i 0
    · rw [if_pos h2, if_pos h2]; exact e
    · rw [if_neg h2, if_neg h2, st_eq, st_nr (by omega), e]
theorem GI.ch {x : St} {nb nn i : Nat} {p : Int32} (h : GI x nb nn) (hi : i < 6) : GI (chF x i p) nb nn := by
  obtain ⟨⟨a, b⟩, ⟨c, d⟩, e1, f, g⟩ := h
  refine ⟨⟨a, (ch_r (by omega)).trans b⟩, ⟨c, (ch_r (by omega)).trans d⟩, fun q hq => ?_, fun q hq => ?_, fun q hq => ?_⟩
  · rw [ch_r (by omega)]; exact e1 q hq
  · rw [ch_r (by omega)]; exact f q hq
  · by_cases hqi : q = i
    · subst hqi
      rw [ch_19]
      obtain ⟨g1, g2⟩ := g q hq
      by_cases h : p = 0
      · rw [if_pos h]; exact ⟨g1, g2⟩
      · rw [if_neg h]
        by_cases h2 : 1920 ≤ x 19 q 0
        · rw [if_pos h2]; exact ⟨g1, g2⟩
        · rw [if_neg h2]
          have h3 : (x 19 q 0).toNatClampNeg < 1920 := Nat.lt_of_not_le (fun h9 => h2 (by rw [g2]; exact nI_le (a := 1920) h9 (by omega)))
          have e : x 19 q 0 + 1 = nI ((x 19 q 0).toNatClampNeg + 1) := by conv => lhs; rw [g2, nI_1]
          have e2 : (x 19 q 0 + 1).toNatClampNeg = (x 19 q 0).toNatClampNeg + 1 := by rw [e, nI_clamp (by omega)]
          rw [e2]
          exact ⟨by omega, e⟩
    · rw [ch_i hqi]; exact g q hq
theorem GI.sh1 {x : St} {nb nn i : Nat} {v : Int32} (h : GI x nb nn) (hv : v = -1 ∨ ∃ k, k < 40 ∧ v = nI k) : GI (st x 12 i 0 v) nb nn := by
  obtain ⟨⟨a, b⟩, ⟨c, d⟩, e1, f, g⟩ := h
  refine ⟨⟨a, (st_nr (by omega)).trans b⟩, ⟨c, (st_nr (by omega)).trans d⟩, fun q hq => ?_, fun q hq => ?_, fun q hq => ?_⟩
  · by_cases hqi : q = i
    · subst hqi; rw [st_eq]; exact hv
    · rw [st_i (by omega)]; exact e1 q hq
  · rw [st_nr (by omega)]; exact f q hq
  · rw [st_nr (by omega)]; exact g q hq
theorem GI.wi {x : St} {nb nn i : Nat} (h : GI x nb nn) (hi : i < 6) : GI (wiF x i) nb nn := ((h.ch hi).sh1 (Or.inl rfl)).k9 (by omega)
theorem GI.tu {x : St} {nb nn i k : Nat} (h : GI x nb nn) (hi : i < 6) (hk : k < 40) : GI (tuF x i k) nb nn := ((h.ch hi).sh1 (Or.inr ⟨k, hk, rfl⟩)).k9 (by omega)
/-- an hour comes to a board -/
abbrev rk (x : St) (k : Nat) : Nat := (x 43 0 k).toNatClampNeg
abbrev ofP (x : St) (k : Nat) : Prop := x 32 k 0 ≤ x 3 0 0 ∧ x 3 0 0 < x 33 k 0
abbrev lhC (x : St) (i k : Nat) : Prop := ofP x k ∧ qcP x k (x 10 i 0)
def lhA (x : St) (i : Nat) : St := st (cbF x i (x 2 0 0)) 14 i 0 0
def lhB (x : St) (i : Nat) : St := if x 12 i 0 = -1 then x else if ofP x (x 12 i 0).toNatClampNeg then x else wiF x i
def lhL (i : Nat) : Nat → Nat → St → St
  | 0, _, x => wiF x i
  | d + 1, k, x => if lhC x i (rk x k) then (if x 12 i 0 = nI (rk x k) then x else if (bs x i (x 31 (rk x k) 0) 8).1 = -1 then lhL i d (k + 1) (st x 14 i 0 1) else tuF x i (rk x k)) else lhL i d (k + 1) x
def lhF (x : St) (i nn : Nat) : St := lhL i nn 0 (lhB (lhA x i) i)
theorem lhL_0 {i k : Nat} {x : St} : lhL i 0 k x = wiF x i := rfl
theorem lhL_n {i d k : Nat} {x : St} (h : ¬ lhC x i (rk x k)) : lhL i (d + 1) k x = lhL i d (k + 1) x := if_neg h
theorem lhL_s {i d k : Nat} {x : St} (h : lhC x i (rk x k)) (h2 : x 12 i 0 = nI (rk x k)) : lhL i (d + 1) k x = x := (if_pos h).trans (if_pos h2)
theorem lhL_a {i d k : Nat} {x : St} (h : lhC x i (rk x k)) (h2 : x 12 i 0 ≠ nI (rk x k)) (h3 : (bs x i (x 31 (rk x k) 0) 8).1 = -1) : lhL i (d + 1) k x = lhL i d (k + 1) (st x 14 i 0 1) := (if_pos h).trans ((if_neg h2).trans (if_pos h3))
theorem lhL_t {i d k : Nat} {x : St} (h : lhC x i (rk x k)) (h2 : x 12 i 0 ≠ nI (rk x k)) (h3 : (bs x i (x 31 (rk x k) 0) 8).1 ≠ -1) : lhL i (d + 1) k x = tuF x i (rk x k) := (if_pos h).trans ((if_neg h2).trans (if_neg h3))
theorem GI.lA {x : St} {nb nn i : Nat} (h : GI x nb nn) : GI (lhA x i) nb nn := (h.k9 (by omega)).k9 (by omega)
theorem GI.lB {x : St} {nb nn i : Nat} (h : GI x nb nn) (hi : i < 6) : GI (lhB x i) nb nn := by
  unfold lhB
  split
  · exact h
  · split
    · exact h
    · exact h.wi hi
theorem GI.lL {nb nn i : Nat} (hi : i < 6) (d : Nat) : ∀ (k : Nat) (x : St), k + d ≤ 40 → GI x nb nn → GI (lhL i d k x) nb nn := by
  induction d with
  | zero => intro k x _ h; exact h.wi hi
  | succ d ih =>
    intro k x hk h
    unfold lhL
    split
    · split
      · exact h
      · split
        · exact ih _ _ (by omega) (h.k9 (by omega))
        · exact h.tu hi (h.rk k (by omega))
    · exact ih _ _ (by omega) h
theorem GI.lF {x : St} {nb nn i : Nat} (h : GI x nb nn) (hi : i < 6) : GI (lhF x i nn) nb nn := GI.lL hi nn 0 _ (by have := h.nn40; omega) (h.lA.lB hi)
def hrF (x : St) (nn : Nat) : Nat → St
  | 0 => x
  | k + 1 => lhF (hrF x nn k) k nn
def goS (x : St) : St := st x 3 0 0 (x 3 0 0 + 1)
def goF (x : St) (nb nn : Nat) : Nat → St
  | 0 => x
  | k + 1 => hrF (goS (goF x nb nn k)) nn nb
theorem GI.hr {x : St} {nb nn : Nat} (h : GI x nb nn) (k : Nat) (hk : k ≤ 6) : GI (hrF x nn k) nb nn := by
  induction k with
  | zero => exact h
  | succ k ih => exact (ih (by omega)).lF (by omega)
theorem GI.gS {x : St} {nb nn : Nat} (h : GI x nb nn) : GI (goS x) nb nn := h.k9 (by omega)
theorem GI.go {x : St} {nb nn : Nat} (h : GI x nb nn) (k : Nat) : GI (goF x nb nn k) nb nn := by
  induction k with
  | zero => exact h
  | succ k ih => exact ih.gS.hr nb h.nb6
/-- figures -/
def csL (x : St) (i : Nat) (v : Int64) : Nat → Int64
  | 0 => v
  | k + 1 => 31 * csL x i v k + (bitF (x 15 i 0) (nI k)).toInt64 + (2 * wearF x i (nI k)).toInt64
def csF (x : St) : Nat → Int64
  | 0 => 0
  | k + 1 => csL x k (csF x k) 32
def ssF (x : St) : Nat → Int32
  | 0 => 0
  | k + 1 => if x 12 k 0 = -1 then ssF x k else ssF x k + 1
theorem ss_t {x : St} {k : Nat} (h : x 12 k 0 = -1) : ssF x (k + 1) = ssF x k := if_pos h
theorem ss_f {x : St} {k : Nat} (h : ¬ x 12 k 0 = -1) : ssF x (k + 1) = ssF x k + 1 := if_neg h
abbrev cwP (x : St) (j : Nat) : Prop := (∀ c, c < 32 → ¬ (bitF (x 15 j 0) (nI c) = 1 ∧ 60 ≤ x 20 j c)) ∧ pcF (x 15 j 0) ≤ x 11 j 0
def okB (x : St) (tcs : Nat → Nat) (j : Nat) : Prop := (x 12 j 0 = -1 ∨ ∃ k, k < 40 ∧ x 12 j 0 = nI k ∧ ofP x k) ∧ cwP x j ∧ x 15 j 0 = xorF x j (tcs j)
theorem okB_n {x : St} {tcs : Nat → Nat} {j k : Nat} (hk : k < 40) (e : x 12 j 0 = nI k) (h : ¬ ofP x k) : ¬ okB x tcs j := by
  rintro ⟨h1 | ⟨q, hq, e2, h2⟩, -⟩
  · rw [e] at h1; exact nI_ne (by omega) h1
  · rw [e] at e2; rw [(nI_eq (by omega) (by omega)).mp e2] at h; exact h h2
/-- boards and notices made -/
def abF (x : St) (nb : Nat) (p q : Int32) : St := st (st (st x 10 nb 0 p) 11 nb 0 q) 0 0 0 ((st (st x 10 nb 0 p) 11 nb 0 q) 0 0 0 + 1)
def tk0 (x : St) (nn : Nat) (p0 p1 p2 p3 : Int32) : St := st (st (st (st x 30 nn 0 p0) 31 nn 0 p1) 32 nn 0 p2) 33 nn 0 p3
def tkL (p0 : Int32) (nn : Nat) : Nat → St → St
  | 0, x => st x 43 0 0 (nI nn)
  | m + 1, x => if x 30 (rk x m) 0 < p0 then tkL p0 nn m (st x 43 0 (m + 1) (x 43 0 m)) else st x 43 0 (m + 1) (nI nn)
theorem tkL_t {p0 : Int32} {nn m : Nat} {x : St} (h : x 30 (rk x m) 0 < p0) : tkL p0 nn (m + 1) x = tkL p0 nn m (st x 43 0 (m + 1) (x 43 0 m)) := if_pos h
theorem tkL_f {p0 : Int32} {nn m : Nat} {x : St} (h : ¬ x 30 (rk x m) 0 < p0) : tkL p0 nn (m + 1) x = st x 43 0 (m + 1) (nI nn) := if_neg h
def tkF (x : St) (nn : Nat) (p0 p1 p2 p3 : Int32) : St := st (tkL p0 nn nn (tk0 x nn p0 p1 p2 p3)) 1 0 0 (tkL p0 nn nn (tk0 x nn p0 p1 p2 p3) 1 0 0 + 1)
theorem tkL_r {p0 : Int32} {nn m r a b : Nat} (h : r ≠ 43) : ∀ {x : St}, tkL p0 nn m x r a b = x r a b := by
  induction m with
  | zero => intro x; exact st_nr (by omega)
  | succ m ih =>
    intro x
    unfold tkL
    split
    · exact ih.trans (st_nr (by omega))
    · exact st_nr (by omega)
theorem tk0_r {x : St} {nn : Nat} {p0 p1 p2 p3 : Int32} {r a b : Nat} (h : r ≠ 30 ∧ r ≠ 31 ∧ r ≠ 32 ∧ r ≠ 33) : tk0 x nn p0 p1 p2 p3 r a b = x r a b := by
  unfold tk0
  repeat (first | rfl | rw [st_nr (by omega)])
theorem tk_r {x : St} {nn : Nat} {p0 p1 p2 p3 : Int32} {r a b : Nat} (h : r ≠ 1 ∧ r ≠ 30 ∧ r ≠ 31 ∧ r ≠ 32 ∧ r ≠ 33 ∧ r ≠ 43) : tkF x nn p0 p1 p2 p3 r a b = x r a b :=
  (st_nr (by omega)).trans ((tkL_r (by omega)).trans (tk0_r (by omega)))
theorem rk_putv {g : gE} {L : Nat → Nat} {x : St} {j : Nat} {v : Int32} (hj : j < 40) : dk g 6 40 L (st x 43 0 j v) 3 = aQ g 2 40 (va_up (fun i => if i < 40 then some (L (26 + 2 * (x 43 0 i).toNatClampNeg)) else none) j (some (L (26 + 2 * v.toNatClampNeg)))) := by
  show aQ g 2 40 (fun i => if i < 40 then some (L (26 + 2 * (st x 43 0 j v 43 0 i).toNatClampNeg)) else none) = _
  congr 7
  funext i
  by_cases h : i = j
  · subst h
    rw [va_up_self, if_pos hj, st_eq]
  · rw [va_up_ne _ _ h, st_ne (fun h9 => h h9.2.2)]
theorem rk_sh {x : St} {j : Nat} {v : Int32} (h : ∀ q, q < 40 → (x 43 0 q).toNatClampNeg < 40) (hv : v.toNatClampNeg < 40) : ∀ q, q < 40 → (st x 43 0 j v 43 0 q).toNatClampNeg < 40 := by
  intro q hq
  by_cases hj : q = j
  · subst hj; rw [st_eq]; exact hv
  · rw [st_ne (fun h9 => hj h9.2.2)]; exact h q hq
def mdT (x : St) (j nn : Nat) (p : Int32) : St := tkF x nn (if 10 < x 30 j 0 + 1 then 10 else x 30 j 0 + 1) p (if x 3 0 0 < x 32 j 0 then x 32 j 0 else x 3 0 0) (x 33 j 0)
noncomputable def mdF (x : St) (j nn nb : Nat) (p : Int32) : St := st (st (qwF (mdT x j nn p) nn j nb 4) 34 j 0 1) 33 j 0 (st (qwF (mdT x j nn p) nn j nb 4) 34 j 0 1 3 0 0 + 1)
end GD2
