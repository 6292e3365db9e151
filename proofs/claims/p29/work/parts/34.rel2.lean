/-! THE RELATION's first part is kept by every call that writes -/
section RL2
theorem R1.of {x x' y y' : St} {nb nn hr : Nat} (h : R1 x y nb nn hr) (ex : ∀ r i j, (r ≠ 36 ∧ r ≠ 37 ∧ r ≠ 40 ∧ r ≠ 41 ∧ r ≠ 42) → x' r i j = x r i j) (ey : ∀ r i j, (r ≠ 0 ∧ r ≠ 23 ∧ r ≠ 24 ∧ r ≠ 25) → y' r i j = y r i j) : R1 x' y' nb nn hr := by
  obtain ⟨a, b, ⟨c1, c2, c3⟩, d, e, f, g1, g2⟩ := h
  refine ⟨a.of (fun r hr i j => ex r i j (by omega)), b.of (fun r hr i j => ey r i j (by omega)), ⟨c1, (ex 3 _ _ (by omega)).trans c2, (ey 1 _ _ (by omega)).trans c3⟩, by rw [ex 2 _ _ (by omega), ey 2 _ _ (by omega)]; exact d, by rw [ex 4 _ _ (by omega)]; exact e, f.of (fun _ _ => ex 14 _ _ (by omega)), fun k hk => ?_, fun k hk => ?_⟩
  · unfold fld; rw [ex 30 _ _ (by omega), ex 31 _ _ (by omega), ex 32 _ _ (by omega), ex 33 _ _ (by omega), ey 17 _ _ (by omega), ey 18 _ _ (by omega), ey 19 _ _ (by omega), ey 20 _ _ (by omega)]; exact g1 k hk
  · unfold flg; rw [ex 34 _ _ (by omega), ex 35 _ _ (by omega), ey 22 _ _ (by omega), ey 21 _ _ (by omega)]; exact g2 k hk
theorem R1.sun1 {x y : St} {nb nn hr : Nat} {p : Int32} (h : R1 x y nb nn hr) : R1 (st x 2 0 0 p) (st y 2 0 0 p) nb nn hr := by
  obtain ⟨a, b, ⟨c1, c2, c3⟩, d, e, f, g1, g2⟩ := h
  refine ⟨a.k9 (by omega), b.k9 (by omega), ⟨c1, (st_nr (by omega)).trans c2, (st_nr (by omega)).trans c3⟩, by rw [st_eq, st_eq], by rw [st_nr (by omega)]; exact e, f.of (fun _ _ => st_nr (by omega)), fun k hk => ?_, fun k hk => ?_⟩
  · unfold fld; repeat rw [st_nr (by omega)]
    exact g1 k hk
  · unfold flg; repeat rw [st_nr (by omega)]
    exact g2 k hk
theorem tkL_k {p0 : Int32} {nn : Nat} (hn : nn < 40) (m : Nat) : ∀ {x : St}, (∀ j, j < 40 → (x 43 0 j).toNatClampNeg < 40) → m < 40 → ∀ j, j < 40 → (tkL p0 nn m x 43 0 j).toNatClampNeg < 40 := by
  induction m with
  | zero => intro x h _; exact rk_sh h (by rw [nI_clamp (by omega)]; exact hn)
  | succ m ih =>
    intro x h hm
    unfold tkL
    split
    · exact ih (rk_sh h (h m (by omega))) (by omega)
    · exact rk_sh h (by rw [nI_clamp (by omega)]; exact hn)
theorem tk_rr {x : St} {nn : Nat} {p0 p1 p2 p3 : Int32} {r i j : Nat} (h : r ≠ 1 ∧ r ≠ 43) : tkF x nn p0 p1 p2 p3 r i j = tk0 x nn p0 p1 p2 p3 r i j := (st_nr (by omega)).trans (tkL_r (by omega))
theorem R1.tk {x y : St} {nb nn hr : Nat} {p0 p1 p2 p3 : Int32} (h : R1 x y nb nn hr) (hn : nn < 40) (hp : ∃ q, q ≤ 10 ∧ p0 = nI q) : R1 (tkF x nn p0 p1 p2 p3) (adM y nn p0 p1 p2 p3) nb (nn + 1) hr := by
  obtain ⟨a, b, ⟨c1, c2, c3⟩, d, e, f, g1, g2⟩ := h
  have er : ∀ r i j, r ≠ 1 ∧ r ≠ 30 ∧ r ≠ 31 ∧ r ≠ 32 ∧ r ≠ 33 ∧ r ≠ 43 → tkF x nn p0 p1 p2 p3 r i j = x r i j := fun r i j h => tk_r h
  have mr : ∀ r i j, r ≠ 17 ∧ r ≠ 18 ∧ r ≠ 19 ∧ r ≠ 20 ∧ r ≠ 4 → adM y nn p0 p1 p2 p3 r i j = y r i j := fun r i j h => ad_r h
  have e17 : ∀ k, adM y nn p0 p1 p2 p3 17 0 k = st y 17 0 nn p0 17 0 k := fun k => by
    show st (st (st (st (st y 17 0 nn p0) 18 0 nn p1) 19 0 nn p2) 20 0 nn p3) 4 0 0 _ 17 0 k = _
    rw [st_nr (by omega), st_nr (by omega), st_nr (by omega), st_nr (by omega)]
  have e18 : ∀ k, adM y nn p0 p1 p2 p3 18 0 k = st y 18 0 nn p1 18 0 k := fun k => by
    show st (st (st (st (st y 17 0 nn p0) 18 0 nn p1) 19 0 nn p2) 20 0 nn p3) 4 0 0 _ 18 0 k = _
    rw [st_nr (by omega), st_nr (by omega), st_nr (by omega)]
    by_cases hk : k = nn
    · subst hk; rw [st_eq, st_eq]
    · rw [st_j (by omega), st_nr (by omega)]; exact (st_j (by omega)).symm
  have e19 : ∀ k, adM y nn p0 p1 p2 p3 19 0 k = st y 19 0 nn p2 19 0 k := fun k => by
    show st (st (st (st (st y 17 0 nn p0) 18 0 nn p1) 19 0 nn p2) 20 0 nn p3) 4 0 0 _ 19 0 k = _
    rw [st_nr (by omega), st_nr (by omega)]
    by_cases hk : k = nn
    · subst hk; rw [st_eq, st_eq]
    · rw [st_j (by omega), st_nr (by omega), st_nr (by omega)]; exact (st_j (by omega)).symm
  have e20 : ∀ k, adM y nn p0 p1 p2 p3 20 0 k = st y 20 0 nn p3 20 0 k := fun k => by
    show st (st (st (st (st y 17 0 nn p0) 18 0 nn p1) 19 0 nn p2) 20 0 nn p3) 4 0 0 _ 20 0 k = _
    rw [st_nr (by omega)]
    by_cases hk : k = nn
    · subst hk; rw [st_eq, st_eq]
    · rw [st_j (by omega), st_nr (by omega), st_nr (by omega), st_nr (by omega)]; exact (st_j (by omega)).symm
  have f30 : ∀ k, tkF x nn p0 p1 p2 p3 30 k 0 = st x 30 nn 0 p0 30 k 0 := fun k => by
    rw [tk_rr (by omega)]
    show st (st (st (st x 30 nn 0 p0) 31 nn 0 p1) 32 nn 0 p2) 33 nn 0 p3 30 k 0 = _
    rw [st_nr (by omega), st_nr (by omega), st_nr (by omega)]
  have f31 : ∀ k, tkF x nn p0 p1 p2 p3 31 k 0 = st x 31 nn 0 p1 31 k 0 := fun k => by
    rw [tk_rr (by omega)]
    show st (st (st (st x 30 nn 0 p0) 31 nn 0 p1) 32 nn 0 p2) 33 nn 0 p3 31 k 0 = _
    rw [st_nr (by omega), st_nr (by omega)]
    by_cases hk : k = nn
    · subst hk; rw [st_eq, st_eq]
    · rw [st_i (by omega), st_nr (by omega)]; exact (st_i (by omega)).symm
  have f32 : ∀ k, tkF x nn p0 p1 p2 p3 32 k 0 = st x 32 nn 0 p2 32 k 0 := fun k => by
    rw [tk_rr (by omega)]
    show st (st (st (st x 30 nn 0 p0) 31 nn 0 p1) 32 nn 0 p2) 33 nn 0 p3 32 k 0 = _
    rw [st_nr (by omega)]
    by_cases hk : k = nn
    · subst hk; rw [st_eq, st_eq]
    · rw [st_i (by omega), st_nr (by omega), st_nr (by omega)]; exact (st_i (by omega)).symm
  have f33 : ∀ k, tkF x nn p0 p1 p2 p3 33 k 0 = st x 33 nn 0 p3 33 k 0 := fun k => by
    rw [tk_rr (by omega)]
    show st (st (st (st x 30 nn 0 p0) 31 nn 0 p1) 32 nn 0 p2) 33 nn 0 p3 33 k 0 = _
    by_cases hk : k = nn
    · subst hk; rw [st_eq, st_eq]
    · rw [st_i (by omega), st_nr (by omega), st_nr (by omega), st_nr (by omega)]; exact (st_i (by omega)).symm
  have hk0 : ∀ j, j < 40 → (tk0 x nn p0 p1 p2 p3 43 0 j).toNatClampNeg < 40 := fun j hj => by rw [tk0_r (by omega)]; exact a.rk j hj
  refine ⟨⟨⟨a.nb6, (er 0 _ _ (by omega)).trans a.x0⟩, ⟨by omega, ?_⟩, fun k hk => ?_, fun k hk => ?_, fun k hk => ?_⟩, ⟨⟨b.nb6, (mr 3 _ _ (by omega)).trans b.y3⟩, ⟨by omega, ?_⟩, fun k hk => ?_, fun k hk => ?_, fun k hk => ?_⟩, ⟨c1, (er 3 _ _ (by omega)).trans c2, (mr 1 _ _ (by omega)).trans c3⟩, by rw [er 2 _ _ (by omega), mr 2 _ _ (by omega)]; exact d, by rw [er 4 _ _ (by omega)]; exact e, f.of (fun _ _ => er 14 _ _ (by omega)), fun k hk => ?_, fun k hk => ?_⟩
  · show st (tkL p0 nn nn (tk0 x nn p0 p1 p2 p3)) 1 0 0 _ 1 0 0 = _
    rw [st_eq, tkL_r (by omega), tk0_r (by omega), a.x1, nI_1]
  · rw [er 12 _ _ (by omega)]; exact a.sh k hk
  · show (st (tkL p0 nn nn (tk0 x nn p0 p1 p2 p3)) 1 0 0 _ 43 0 k).toNatClampNeg < 40
    rw [st_nr (by omega)]
    exact tkL_k hn nn hk0 hn k hk
  · rw [er 19 _ _ (by omega)]; exact ⟨a.tc hk, a.x19 hk⟩
  · show st (st (st (st (st y 17 0 nn p0) 18 0 nn p1) 19 0 nn p2) 20 0 nn p3) 4 0 0 _ 4 0 0 = _
    rw [st_eq, st_nr (by omega), st_nr (by omega), st_nr (by omega), st_nr (by omega), b.y4, nI_1]
  · rw [mr 12 _ _ (by omega)]; exact b.sh k hk
  · rw [mr 10 _ _ (by omega)]; exact b.ds k hk
  · rw [e17]
    by_cases hk2 : k = nn
    · subst hk2; rw [st_eq]; exact hp
    · rw [st_j (by omega)]; exact b.rk k (by omega)
  · unfold fld
    rw [f30, f31, f32, f33, e17, e18, e19, e20]
    by_cases hk2 : k = nn
    · subst hk2; rw [st_eq, st_eq, st_eq, st_eq, st_eq, st_eq, st_eq, st_eq]; exact ⟨rfl, rfl, rfl, rfl⟩
    · obtain ⟨q1, q2, q3, q4⟩ := g1 k (by omega)
      exact ⟨(st_i (by omega)).trans (q1.trans (st_j (by omega)).symm), (st_i (by omega)).trans (q2.trans (st_j (by omega)).symm), (st_i (by omega)).trans (q3.trans (st_j (by omega)).symm), (st_i (by omega)).trans (q4.trans (st_j (by omega)).symm)⟩
  · unfold flg; rw [er 34 _ _ (by omega), er 35 _ _ (by omega), mr 22 _ _ (by omega), mr 21 _ _ (by omega)]; exact g2 k hk
/-- a notice's end and its flags -/
theorem R1.end1 {x y : St} {nb nn hr j : Nat} {p : Int32} (h : R1 x y nb nn hr) : R1 (st x 33 j 0 p) (st y 20 0 j p) nb nn hr := by
  obtain ⟨a, b, ⟨c1, c2, c3⟩, d, e, f, g1, g2⟩ := h
  refine ⟨a.k9 (by omega), b.k9 (by omega), ⟨c1, (st_nr (by omega)).trans c2, (st_nr (by omega)).trans c3⟩, by rw [st_nr (by omega), st_nr (by omega)]; exact d, by rw [st_nr (by omega)]; exact e, f.of (fun _ _ => st_nr (by omega)), fun k hk => ?_, fun k hk => ?_⟩
  · obtain ⟨g3, g4, g5, g6⟩ := g1 k hk
    refine ⟨by rw [st_nr (by omega), st_nr (by omega)]; exact g3, by rw [st_nr (by omega), st_nr (by omega)]; exact g4, by rw [st_nr (by omega), st_nr (by omega)]; exact g5, ?_⟩
    by_cases hj : k = j
    · subst hj; rw [st_eq, st_eq]
    · rw [st_i (by omega), st_j (by omega)]; exact g6
  · unfold flg; rw [st_nr (by omega), st_nr (by omega), st_nr (by omega), st_nr (by omega)]; exact g2 k hk
theorem R1.back1 {x y : St} {nb nn hr j : Nat} {p : Int32} (h : R1 x y nb nn hr) : R1 (st x 35 j 0 p) (st y 21 0 j p) nb nn hr := by
  obtain ⟨a, b, ⟨c1, c2, c3⟩, d, e, f, g1, g2⟩ := h
  refine ⟨a.k9 (by omega), b.k9 (by omega), ⟨c1, (st_nr (by omega)).trans c2, (st_nr (by omega)).trans c3⟩, by rw [st_nr (by omega), st_nr (by omega)]; exact d, by rw [st_nr (by omega)]; exact e, f.of (fun _ _ => st_nr (by omega)), fun k hk => ?_, fun k hk => ?_⟩
  · unfold fld; rw [st_nr (by omega), st_nr (by omega), st_nr (by omega), st_nr (by omega), st_nr (by omega), st_nr (by omega), st_nr (by omega), st_nr (by omega)]; exact g1 k hk
  · obtain ⟨g3, g4⟩ := g2 k hk
    refine ⟨by rw [st_nr (by omega), st_nr (by omega)]; exact g3, ?_⟩
    by_cases hj : k = j
    · subst hj; rw [st_eq, st_eq]
    · rw [st_i (by omega), st_j (by omega)]; exact g4
theorem R1.mend1 {x y : St} {nb nn hr j : Nat} {p : Int32} (h : R1 x y nb nn hr) : R1 (st x 34 j 0 p) (st y 22 0 j p) nb nn hr := by
  obtain ⟨a, b, ⟨c1, c2, c3⟩, d, e, f, g1, g2⟩ := h
  refine ⟨a.k9 (by omega), b.k9 (by omega), ⟨c1, (st_nr (by omega)).trans c2, (st_nr (by omega)).trans c3⟩, by rw [st_nr (by omega), st_nr (by omega)]; exact d, by rw [st_nr (by omega)]; exact e, f.of (fun _ _ => st_nr (by omega)), fun k hk => ?_, fun k hk => ?_⟩
  · unfold fld; rw [st_nr (by omega), st_nr (by omega), st_nr (by omega), st_nr (by omega), st_nr (by omega), st_nr (by omega), st_nr (by omega), st_nr (by omega)]; exact g1 k hk
  · obtain ⟨g3, g4⟩ := g2 k hk
    refine ⟨?_, by rw [st_nr (by omega), st_nr (by omega)]; exact g4⟩
    by_cases hj : k = j
    · subst hj; rw [st_eq, st_eq]
    · rw [st_i (by omega), st_j (by omega)]; exact g3
theorem st_comm {x : St} {r i j r' i' j' : Nat} {v w : Int32} (h : r ≠ r') : st (st x r i j v) r' i' j' w = st (st x r' i' j' w) r i j v := by
  funext a b c
  simp only [st]
  by_cases h1 : a = r' ∧ b = i' ∧ c = j'
  · rw [if_pos h1, if_neg (fun h2 => h (h2.1.symm.trans h1.1)), if_pos h1]
  · rw [if_neg h1, if_neg h1]
theorem qw_r {x : St} {i1 i nb k r a b : Nat} (h : r ≠ 36) : qwF x i1 i nb k r a b = x r a b := by
  induction k with
  | zero => rfl
  | succ k ih =>
    by_cases h9 : qwP (qwF x i1 i nb k) i nb k
    · rw [← qw_t h9]; exact (st_nr (by omega)).trans ih
    · rw [← qw_f h9]; exact ih
theorem wr2_r {x : St} {e v : Int32} {r i j : Nat} (h : r ≠ 42) : wr2 x e v r i j = x r i j := by
  unfold wr2
  repeat (first | rfl | rw [st_nr (by omega)] | split)
theorem wr_r {x : St} {p q v : Int32} {c r i j : Nat} (h : r ≠ 4 ∧ r ≠ 40 ∧ r ≠ 41 ∧ r ≠ 42) : wrF x p q v c r i j = x r i j := by
  unfold wrF
  split
  · split
    · exact wr2_r (by omega)
    · refine (wr2_r (by omega)).trans ?_
      unfold wr1
      rw [st_nr (by omega), st_nr (by omega), st_nr (by omega)]
  · exact wr2_r (by omega)
theorem wr_4 {x : St} {p q v : Int32} {c d : Nat} (hd : d ≤ 512) (h : x 4 0 0 = nI d) : ∃ c', c' ≤ 512 ∧ wrF x p q v c 4 0 0 = nI c' := by
  unfold wrF
  split
  · split
    · exact ⟨d, hd, (wr2_r (by omega)).trans h⟩
    · rename_i h2
      have h3 : d < 512 := Nat.lt_of_not_le (fun h9 => h2 (by rw [h]; exact nI_le (a := 512) h9 (by omega)))
      refine ⟨d + 1, by omega, (wr2_r (by omega)).trans ?_⟩
      unfold wr1
      rw [st_eq, st_nr (by omega), st_nr (by omega), h, nI_1]
  · exact ⟨d, hd, (wr2_r (by omega)).trans h⟩
theorem R1.ps {x y : St} {nb nn hr k k' j hr' c : Nat} {p q v w : Int32} (h : R1 x y nb nn hr) : R1 (paF x k p v c) (psM y k' j hr' w) nb nn hr := by
  obtain ⟨a, b, ⟨c1, c2, c3⟩, d, ⟨ce, he1, he2⟩, f, g1, g2⟩ := h
  have er : ∀ r i j, r ≠ 4 ∧ r ≠ 37 ∧ r ≠ 40 ∧ r ≠ 41 ∧ r ≠ 42 → paF x k p v c r i j = x r i j := fun r i j h => (wr_r (by omega)).trans (st_nr (by omega))
  have mr : ∀ r i j9, r ≠ 24 ∧ r ≠ 25 → psM y k' j hr' w r i j9 = y r i j9 := fun r i j9 h => (st_nr (by omega)).trans (st_nr (by omega))
  refine ⟨a.of (fun r hr i j => er r i j (by omega)), b.of (fun r hr i j => mr r i j (by omega)), ⟨c1, (er 3 _ _ (by omega)).trans c2, (mr 1 _ _ (by omega)).trans c3⟩, by rw [er 2 _ _ (by omega), mr 2 _ _ (by omega)]; exact d, wr_4 he1 ((st_nr (by omega)).trans he2), f.of (fun _ _ => er 14 _ _ (by omega)), fun k hk => ?_, fun k hk => ?_⟩
  · unfold fld; rw [er 30 _ _ (by omega), er 31 _ _ (by omega), er 32 _ _ (by omega), er 33 _ _ (by omega), mr 17 _ _ (by omega), mr 18 _ _ (by omega), mr 19 _ _ (by omega), mr 20 _ _ (by omega)]; exact g1 k hk
  · unfold flg; rw [er 34 _ _ (by omega), er 35 _ _ (by omega), mr 22 _ _ (by omega), mr 21 _ _ (by omega)]; exact g2 k hk
theorem R1.go {x y : St} {ch : Int64} {nb nn hr N N' : Nat} (h : R1 x y nb nn hr) (hN : N ≤ 48) (hN2 : hr + N ≤ 2000) (e : N' = N) : R1 (goF x nb nn N) (goM (y, ch) nb nn N').1 nb nn (hr + N) := by
  subst e
  obtain ⟨a, b, ⟨c1, c2, c3⟩, d, e, f, g1, g2⟩ := h
  have er : ∀ r i j, (r < 11 ∧ r ≠ 3) ∨ 21 < r → goF x nb nn N' r i j = x r i j := fun r i j h => goF_r h
  have mr : ∀ r i j, (r < 11 ∧ r ≠ 1) ∨ 16 < r → (goM (y, ch) nb nn N').1 r i j = y r i j := fun r i j h => goM_r h
  refine ⟨a.go N', MI.go (s := (y, ch)) b N', ⟨hN2, by rw [goF_3, c2, nI_add], by rw [goM_1]; show y 1 0 0 + _ = _; rw [c3, nI_add]⟩, by rw [er 2 _ _ (by omega), mr 2 _ _ (by omega)]; exact d, by rw [er 4 _ _ (by omega)]; exact e, f.go N', fun k hk => ?_, fun k hk => ?_⟩
  · unfold fld; rw [er 30 _ _ (by omega), er 31 _ _ (by omega), er 32 _ _ (by omega), er 33 _ _ (by omega), mr 17 _ _ (by omega), mr 18 _ _ (by omega), mr 19 _ _ (by omega), mr 20 _ _ (by omega)]; exact g1 k hk
  · unfold flg; rw [er 34 _ _ (by omega), er 35 _ _ (by omega), mr 22 _ _ (by omega), mr 21 _ _ (by omega)]; exact g2 k hk
theorem R1.md {x y : St} {nb nn hr j : Nat} {p : Int32} (h : R1 x y nb nn hr) (hn : nn < 40) (hj : j < nn) : R1 (mdF x j nn nb p) (mdM y j nn nb p) nb (nn + 1) hr := by
  obtain ⟨g3, g4, g5, g6⟩ := h.fl j hj
  obtain ⟨q, hq, eq⟩ := h.mi.rk j hj
  have e1 : (if 10 < x 30 j 0 + 1 then (10 : Int32) else x 30 j 0 + 1) = leI 10 (y 17 0 j + 1) := by
    rw [g3, eq, nI_1]
    unfold leI
    by_cases h9 : q + 1 ≤ 10
    · rw [if_neg (show ¬ (10 : Int32) < nI (q + 1) from nI_nlt (b := q + 1) (a := 10) h9 (by omega)), if_pos (show nI (q + 1) ≤ (10 : Int32) from nI_le (b := 10) h9 (by omega))]
    · rw [if_pos (show (10 : Int32) < nI (q + 1) from nI_lt (a := 10) (b := q + 1) (by omega) (by omega)), if_neg (show ¬ nI (q + 1) ≤ (10 : Int32) from nI_ge (a := 10) (b := q + 1) (by omega) (by omega))]
  have e2 : (if x 3 0 0 < x 32 j 0 then x 32 j 0 else x 3 0 0) = moI (y 1 0 0) (y 19 0 j) := by
    rw [g5, h.x3.trans h.y1.symm]
    unfold moI
    by_cases h9 : y 1 0 0 < y 19 0 j
    · rw [if_pos h9, if_pos (Int32.le_of_lt h9)]
    · rw [if_neg h9]
      by_cases h8 : y 1 0 0 ≤ y 19 0 j
      · rw [if_pos h8]; exact Int32.le_antisymm h8 (Int32.not_lt.mp h9)
      · rw [if_neg h8]
  have hk : R1 (mdT x j nn p) (adM y nn (leI 10 (y 17 0 j + 1)) p (moI (y 1 0 0) (y 19 0 j)) (y 20 0 j)) nb (nn + 1) hr := by
    unfold mdT
    rw [e1, e2, g6]
    refine h.tk hn ?_
    rw [eq, nI_1]
    unfold leI
    by_cases h9 : q + 1 ≤ 10
    · rw [if_pos (show nI (q + 1) ≤ (10 : Int32) from nI_le (b := 10) h9 (by omega))]; exact ⟨q + 1, h9, rfl⟩
    · rw [if_neg (show ¬ nI (q + 1) ≤ (10 : Int32) from nI_ge (a := 10) (b := q + 1) (by omega) (by omega))]; exact ⟨10, by omega, rfl⟩
  have h1 : R1 (qwF (mdT x j nn p) nn j nb 4) (mdL (adM y nn (leI 10 (y 17 0 j + 1)) p (moI (y 1 0 0) (y 19 0 j)) (y 20 0 j)) nn j nb 4) nb (nn + 1) hr := hk.of (fun r i j h => qw_r (by omega)) (fun r i j h => mdL_r (by omega))
  have h2 := h1.mend1 (j := j) (p := 1)
  have h3 := h2.end1 (j := j) (p := st (qwF (mdT x j nn p) nn j nb 4) 34 j 0 1 3 0 0 + 1)
  have e3 : st (qwF (mdT x j nn p) nn j nb 4) 34 j 0 1 3 0 0 + 1 = st (mdL (adM y nn (leI 10 (y 17 0 j + 1)) p (moI (y 1 0 0) (y 19 0 j)) (y 20 0 j)) nn j nb 4) 22 0 j 1 1 0 0 + 1 := by rw [h2.x3, h2.y1]
  unfold mdF mdM
  rw [← e3]
  exact h3
theorem R1.dn {x y : St} {nb nn hr k d : Nat} {p : Int32} (h : R1 x y nb nn hr) : R1 (piF x k p) (qsM y k d) nb nn hr := h.of (fun r i j h => st_nr (by omega)) (fun r i j h => st_nr (by omega))
theorem R1.tb {x y : St} {nb nn hr j : Nat} {p : Int32} (h : R1 x y nb nn hr) : R1 (st (st x 35 j 0 1) 33 j 0 p) (tbM y j p) nb nn hr := by
  have h1 := (h.end1 (j := j) (p := p)).back1 (j := j) (p := 1)
  unfold tbM
  rw [st_comm (by omega)]
  exact h1
end RL2
