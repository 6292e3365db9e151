/-! THE WHOLE RELATION -/
section BR7
theorem AB.of {x x' y y' : St} {ch : Int64} {nb nn nn' k : Nat} {W : Nat → Nat → Nat} (h : AB x (y, ch) nb nn k W) (hn : nn ≤ nn') (ex : ∀ r i j, 11 ≤ r → r ≤ 21 → x' r i j = x r i j) (ey : ∀ r i j, 11 ≤ r → r ≤ 16 → y' r i j = y r i j) (e3 : x' 3 0 0 = x 3 0 0) (e32 : ∀ n, n < nn → x' 32 n 0 = x 32 n 0) (e33 : ∀ n, n < nn → x 3 0 0 < x 33 n 0 → x 3 0 0 < x' 33 n 0) : AB x' (y', ch) nb nn' k W := by
  obtain ⟨h1, h2, h3, h4⟩ := h
  refine ⟨fun b hb => ?_, fun b hb => ?_, fun b hb hb6 => ?_, h4⟩
  · obtain ⟨⟨q, hq⟩, e14⟩ := h1 b hb
    refine ⟨⟨q, hq.of (fun r j a c _ _ => ex r b j a c) (fun r hr => ey r 0 b (by omega) (by omega)) (fun j _ _ => ⟨ey 15 0 j (by omega) (by omega), ey 16 0 j (by omega) (by omega)⟩)⟩, ?_⟩
    show x' 14 b 0 = y' 14 0 b
    rw [ex 14 _ _ (by omega) (by omega), ey 14 _ _ (by omega) (by omega)]; exact e14
  · obtain ⟨f12, f13⟩ := h2 b hb
    rw [ex 12 _ _ (by omega) (by omega), e3]
    refine ⟨f12.trans (ey 12 0 b (by omega) (by omega)).symm, f13.imp id (fun ⟨n, a, c, d, e⟩ => ⟨n, by omega, c, ?_, fun h9 => e33 n a (e h9)⟩)⟩
    rw [e32 n a]; exact d
  · rw [ex 12 _ _ (by omega) (by omega), ex 15 _ _ (by omega) (by omega)]; exact h3 b hb hb6
/-- what is related beside the first part; t calls have been made -/
def RX (x y : St) (ch : Int64) (nb nn t : Nat) : Prop := (∃ W, AB x (y, ch) nb nn nb W) ∧ (∃ v, v ≤ 20 ∧ x 2 0 0 = nI v) ∧ (∀ b, b < 6 → x 10 b 0 = y 10 0 b) ∧ (∀ k, k < 40 → ∀ d, d < 4 → (bt (x 36 k 0) d = true ↔ ¬ y 23 0 (4 * k + d) = 0)) ∧ KR x y nn ∧ (RD x y t ∧ t ≤ 512) ∧ (∀ k, k < 40 → ∀ b, b < 6 → x 37 k b = y 24 0 (6 * k + b) ∧ ∃ v, v ≤ 999 * t ∧ x 37 k b = nI v) ∧ ∀ k, nn ≤ k → k < 40 → ∀ d, d < 4 → bt (x 36 k 0) d = false
theorem RX.of {x x' y y' : St} {ch : Int64} {nb nn t : Nat} (h : RX x y ch nb nn t) (ex : ∀ r i j, (2 ≤ r ∧ r ≤ 4) ∨ (10 ≤ r ∧ r ≤ 21) ∨ r = 32 ∨ r = 36 ∨ r = 37 ∨ (40 ≤ r ∧ r ≤ 43) → x' r i j = x r i j) (ey : ∀ r i j, (10 ≤ r ∧ r ≤ 17) ∨ (23 ≤ r ∧ r ≤ 25) → y' r i j = y r i j) (e33 : ∀ n, n < nn → x 3 0 0 < x 33 n 0 → x 3 0 0 < x' 33 n 0) : RX x' y' ch nb nn t := by
  obtain ⟨⟨W, h1⟩, h2, h3, h4, h5, ⟨h6, h7⟩, h8, h9⟩ := h
  refine ⟨⟨W, h1.of (Nat.le_refl _) (fun r i j a b => ex r i j (by omega)) (fun r i j a b => ey r i j (by omega)) (ex 3 _ _ (by omega)) (fun n _ => ex 32 _ _ (by omega)) e33⟩, ?_, fun b hb => ?_, fun k hk d hd => ?_, h5.of (fun j => ex 43 _ _ (by omega)) (fun k => ey 17 _ _ (by omega)), ⟨h6.of (fun r i j hr => ex r i j (by omega)) (fun j => ey 25 _ _ (by omega)), h7⟩, fun k hk b hb => ?_, fun k hk hk2 d hd => ?_⟩
  · rw [ex 2 _ _ (by omega)]; exact h2
  · rw [ex 10 _ _ (by omega), ey 10 _ _ (by omega)]; exact h3 b hb
  · rw [ex 36 _ _ (by omega), ey 23 _ _ (by omega)]; exact h4 k hk d hd
  · rw [ex 37 _ _ (by omega), ey 24 _ _ (by omega)]; exact h8 k hk b hb
  · rw [ex 36 _ _ (by omega)]; exact h9 k hk hk2 d hd
theorem RX.up {x y : St} {ch : Int64} {nb nn t : Nat} (h : RX x y ch nb nn t) (ht : t < 512) : RX x y ch nb nn (t + 1) := by
  obtain ⟨h1, h2, h3, h4, h5, ⟨h6, h7⟩, h8, h9⟩ := h
  exact ⟨h1, h2, h3, h4, h5, ⟨h6.up, by omega⟩, fun k hk b hb => by obtain ⟨a, v, c, d⟩ := h8 k hk b hb; exact ⟨a, v, by omega, d⟩, h9⟩
theorem RX.tz {x y : St} {ch : Int64} {nb nn t : Nat} {v : Int32} (h : RX x y ch nb nn t) : RX x (st y 0 0 0 v) ch nb nn t := h.of (fun _ _ _ _ => rfl) (fun r i j hr => st_nr (by omega)) (fun _ _ h => h)
theorem RX.sun1 {x y : St} {ch : Int64} {nb nn t : Nat} {p : Int32} (h : RX x y ch nb nn t) (hp : 0 ≤ p.toInt ∧ p.toInt ≤ 20) : RX (st x 2 0 0 p) (st y 2 0 0 p) ch nb nn t := by
  obtain ⟨⟨W, h1⟩, h2, h3, h4, h5, ⟨h6, h7⟩, h8, h9⟩ := h
  obtain ⟨v, hv, rfl⟩ := nI_rng (n := 20) hp.1 hp.2
  refine ⟨⟨W, h1.of (Nat.le_refl _) (fun r i j a b => st_nr (by omega)) (fun r i j a b => st_nr (by omega)) (st_nr (by omega)) (fun n _ => st_nr (by omega)) (fun n _ h => by rw [st_nr (by omega)]; exact h)⟩, ⟨v, hv, st_eq⟩, fun b hb => ?_, fun k hk d hd => ?_, h5.of (fun j => st_nr (by omega)) (fun k => st_nr (by omega)), ⟨h6.of (fun r i j hr => st_nr (by omega)) (fun j => st_nr (by omega)), h7⟩, fun k hk b hb => ?_, fun k hk hk2 d hd => ?_⟩
  · rw [st_nr (by omega), st_nr (by omega)]; exact h3 b hb
  · rw [st_nr (by omega), st_nr (by omega)]; exact h4 k hk d hd
  · rw [st_nr (by omega), st_nr (by omega)]; exact h8 k hk b hb
  · rw [st_nr (by omega)]; exact h9 k hk hk2 d hd
theorem RX.add {x y : St} {ch : Int64} {nb nn t : Nat} {p q : Int32} (h : RX x y ch nb nn t) (hb : nb < 6) (hq : 0 ≤ q.toInt ∧ q.toInt ≤ 200) : RX (abF x nb p q) (abM y nb p q) ch (nb + 1) nn t := by
  obtain ⟨⟨W, h1, h1b, h1c, h1d⟩, h2, h3, h4, h5, ⟨h6, h7⟩, h8, h9⟩ := h
  obtain ⟨v, hv, rfl⟩ := nI_rng (n := 200) hq.1 hq.2
  have er : ∀ r i j, r ≠ 0 ∧ r ≠ 10 ∧ r ≠ 11 → abF x nb p (nI v) r i j = x r i j := fun r i j h => (st_nr (by omega)).trans ((st_nr (by omega)).trans (st_nr (by omega)))
  have mr : ∀ r i j, r ≠ 3 ∧ r ≠ 10 ∧ r ≠ 11 ∧ r ≠ 12 → abM y nb p (nI v) r i j = y r i j := fun r i j h => (st_nr (by omega)).trans ((st_nr (by omega)).trans ((st_nr (by omega)).trans (st_nr (by omega))))
  have e10 : ∀ i, abF x nb p (nI v) 10 i 0 = st x 10 nb 0 p 10 i 0 := fun i => (st_nr (by omega)).trans (st_nr (by omega))
  have e11 : ∀ i, abF x nb p (nI v) 11 i 0 = st x 11 nb 0 (nI v) 11 i 0 := fun i => by
    refine (st_nr (by omega)).trans ?_
    by_cases hi : i = nb
    · subst hi; rw [st_eq, st_eq]
    · rw [st_i (by omega), st_nr (by omega), st_i (by omega)]
  have m10 : ∀ i, abM y nb p (nI v) 10 0 i = st y 10 0 nb p 10 0 i := fun i => (st_nr (by omega)).trans ((st_nr (by omega)).trans (st_nr (by omega)))
  have m11 : ∀ i, abM y nb p (nI v) 11 0 i = st y 11 0 nb (nI v) 11 0 i := fun i => by
    refine (st_nr (by omega)).trans ((st_nr (by omega)).trans ?_)
    by_cases hi : i = nb
    · subst hi; rw [st_eq, st_eq]
    · rw [st_j (by omega), st_nr (by omega), st_j (by omega)]
  have m12 : ∀ i, abM y nb p (nI v) 12 0 i = st y 12 0 nb (-1) 12 0 i := fun i => by
    refine (st_nr (by omega)).trans ?_
    by_cases hi : i = nb
    · subst hi; rw [st_eq, st_eq]
    · rw [st_j (by omega), st_nr (by omega), st_nr (by omega), st_j (by omega)]
  refine ⟨⟨W, fun b hb6 => ?_, fun b hbn => ?_, fun b hbn hb6 => ?_, h1d⟩, ?_, fun b hb6 => ?_, fun k hk d hd => ?_, h5.of (fun j => er 43 _ _ (by omega)) (fun k => mr 17 _ _ (by omega)), ⟨h6.of (fun r i j hr => er r i j (by omega)) (fun j => mr 25 _ _ (by omega)), h7⟩, fun k hk b hb6 => ?_, fun k hk hk2 d hd => ?_⟩
  · obtain ⟨⟨q, hq⟩, e14⟩ := h1 b hb6
    refine ⟨?_, ?_⟩
    · by_cases hbn : b = nb
      · subst hbn
        obtain ⟨g1, g2, g3, g4⟩ := hq
        have e15 : abF x b p (nI v) 15 b 0 = 0 := (er 15 _ _ (by omega)).trans (h1c b (Nat.le_refl _) hb6).2.1
        have e15o : x 15 b 0 = 0 := (h1c b (Nat.le_refl _) hb6).2.1
        refine ⟨v, g1.of (fun r j a c => er r b j (by omega)) (by rw [e11, st_eq]) hv, ?_, ?_, ?_⟩
        · rw [e15, ← e15o]
          exact g2.of (fun j _ _ => ⟨mr 15 0 j (by omega), mr 16 0 j (by omega)⟩) (by show abM y b p (nI v) 11 0 b = _; rw [m11, st_eq])
        · rw [e15]
          have : cN (bt (0 : Int32)) 32 = 0 := by decide +kernel
          omega
        · rw [er 13 _ _ (by omega)]; exact g4.trans (mr 13 0 b (by omega)).symm
      · refine ⟨q, ?_⟩
        obtain ⟨g1, g2, g3, g4⟩ := hq
        have e15 : abF x nb p (nI v) 15 b 0 = x 15 b 0 := er 15 _ _ (by omega)
        refine ⟨g1.of (fun r j a c => er r b j (by omega)) (by rw [e11, st_i (by omega)]; exact g1.2.2.2.2.1) g1.2.2.2.2.2, ?_, ?_, ?_⟩
        · rw [e15]; exact g2.of (fun j _ _ => ⟨mr 15 0 j (by omega), mr 16 0 j (by omega)⟩) (by show abM y nb p (nI v) 11 0 b = _; rw [m11, st_j (by omega)]; exact g2.2)
        · rw [e15]; exact g3
        · rw [er 13 _ _ (by omega)]; exact g4.trans (mr 13 0 b (by omega)).symm
    · rw [er 14 _ _ (by omega)]; exact e14.trans (mr 14 0 b (by omega)).symm
  · rw [er 12 _ _ (by omega)]
    show x 12 b 0 = abM y nb p (nI v) 12 0 b ∧ _
    rw [m12]
    by_cases hbn2 : b = nb
    · subst hbn2
      rw [st_eq]
      exact ⟨(h1c b (Nat.le_refl _) (by omega)).1, Or.inl (h1c b (Nat.le_refl _) (by omega)).1⟩
    · obtain ⟨f12, f13⟩ := h1b b (by omega)
      rw [st_j (by omega), er 3 _ _ (by omega)]
      refine ⟨f12, f13.imp id (fun ⟨n, a, c, d, e⟩ => ⟨n, a, c, ?_, fun _ => ?_⟩)⟩
      · rw [er 32 _ _ (by omega)]; exact d
      · rw [er 33 _ _ (by omega)]; exact e (by omega)
  · rw [er 12 _ _ (by omega), er 15 _ _ (by omega)]; exact h1c b (by omega) hb6
  · rw [er 2 _ _ (by omega)]; exact h2
  · rw [e10, m10]
    by_cases hi : b = nb
    · subst hi; rw [st_eq, st_eq]
    · rw [st_i (by omega), st_j (by omega)]; exact h3 b hb6
  · rw [er 36 _ _ (by omega), mr 23 _ _ (by omega)]; exact h4 k hk d hd
  · rw [er 37 _ _ (by omega), mr 24 _ _ (by omega)]; exact h8 k hk b hb6
  · rw [er 36 _ _ (by omega)]; exact h9 k hk hk2 d hd
theorem RX.tk {x y : St} {ch : Int64} {nb nn t : Nat} {p0 p1 p2 p3 : Int32} (h : RX x y ch nb nn t) (hfl : ∀ k, k < nn → x 30 k 0 = y 17 0 k) (hn : nn < 40) (hp : ∃ q, q ≤ 10 ∧ p0 = nI q) : RX (tkF x nn p0 p1 p2 p3) (adM y nn p0 p1 p2 p3) ch nb (nn + 1) t := by
  obtain ⟨⟨W, h1⟩, h2, h3, h4, h5, ⟨h6, h7⟩, h8, h9⟩ := h
  obtain ⟨q, hq, rfl⟩ := hp
  have er : ∀ r i j, r ≠ 1 ∧ r ≠ 30 ∧ r ≠ 31 ∧ r ≠ 32 ∧ r ≠ 33 ∧ r ≠ 43 → tkF x nn (nI q) p1 p2 p3 r i j = x r i j := fun r i j h => tk_r h
  have mr : ∀ r i j, r ≠ 17 ∧ r ≠ 18 ∧ r ≠ 19 ∧ r ≠ 20 ∧ r ≠ 4 → adM y nn (nI q) p1 p2 p3 r i j = y r i j := fun r i j h => ad_r h
  have f32 : ∀ k, k < nn → tkF x nn (nI q) p1 p2 p3 32 k 0 = x 32 k 0 := fun k hk => by
    rw [tk_rr (by omega)]
    show st (st (st (st x 30 nn 0 _) 31 nn 0 p1) 32 nn 0 p2) 33 nn 0 p3 32 k 0 = _
    rw [st_nr (by omega), st_i (by omega), st_nr (by omega), st_nr (by omega)]
  have f33 : ∀ k, k < nn → tkF x nn (nI q) p1 p2 p3 33 k 0 = x 33 k 0 := fun k hk => by
    rw [tk_rr (by omega)]
    show st (st (st (st x 30 nn 0 _) 31 nn 0 p1) 32 nn 0 p2) 33 nn 0 p3 33 k 0 = _
    rw [st_i (by omega), st_nr (by omega), st_nr (by omega), st_nr (by omega)]
  refine ⟨⟨W, h1.of (by omega) (fun r i j a b => er r i j (by omega)) (fun r i j a b => mr r i j (by omega)) (er 3 _ _ (by omega)) f32 (fun n hn h => by rw [f33 n hn]; exact h)⟩, ?_, fun b hb => ?_, fun k hk d hd => ?_, h5.tk hfl hn hq, ⟨h6.of (fun r i j hr => er r i j (by omega)) (fun j => mr 25 _ _ (by omega)), h7⟩, fun k hk b hb => ?_, fun k hk hk2 d hd => ?_⟩
  · rw [er 2 _ _ (by omega)]; exact h2
  · rw [er 10 _ _ (by omega), mr 10 _ _ (by omega)]; exact h3 b hb
  · rw [er 36 _ _ (by omega), mr 23 _ _ (by omega)]; exact h4 k hk d hd
  · rw [er 37 _ _ (by omega), mr 24 _ _ (by omega)]; exact h8 k hk b hb
  · rw [er 36 _ _ (by omega)]; exact h9 k (by omega) hk2 d hd
theorem pi_bt {x : St} {k d d' : Nat} (hd : d < 4) (hd' : d' < 4) : bt (piF x k (nI d) 36 k 0) d' = (bt (x 36 k 0) d' || decide (d' = d)) := by
  unfold piF
  rw [st_eq, b_or, bit_1 (by omega) (by omega)]
theorem pi_o {x : St} {k : Nat} {p : Int32} {r i j : Nat} (h : r ≠ 36 ∨ i ≠ k) : piF x k p r i j = x r i j := by
  unfold piF
  rcases h with h | h
  · exact st_nr (by omega)
  · exact st_i (by omega)
theorem RX.dn {x y : St} {ch : Int64} {nb nn t k d : Nat} (h : RX x y ch nb nn t) (hk : k < nn) (hn : nn ≤ 40) (hd : d < 4) : RX (piF x k (nI d)) (qsM y k d) ch nb nn t := by
  obtain ⟨⟨W, h1⟩, h2, h3, h4, h5, ⟨h6, h7⟩, h8, h9⟩ := h
  have er : ∀ r i j, r ≠ 36 → piF x k (nI d) r i j = x r i j := fun r i j h => pi_o (Or.inl h)
  have mr : ∀ r i j, r ≠ 23 → qsM y k d r i j = y r i j := fun r i j h => st_nr (by omega)
  refine ⟨⟨W, h1.of (Nat.le_refl _) (fun r i j a b => er r i j (by omega)) (fun r i j a b => mr r i j (by omega)) (er 3 _ _ (by omega)) (fun n _ => er 32 _ _ (by omega)) (fun n hn h => by rw [er 33 _ _ (by omega)]; exact h)⟩, ?_, fun b hb => ?_, fun k' hk' d' hd' => ?_, h5.of (fun j => er 43 _ _ (by omega)) (fun k => mr 17 _ _ (by omega)), ⟨h6.of (fun r i j hr => er r i j (by omega)) (fun j => mr 25 _ _ (by omega)), h7⟩, fun k hk b hb => ?_, fun k' hk' hk2 d' hd' => ?_⟩
  · rw [er 2 _ _ (by omega)]; exact h2
  · rw [er 10 _ _ (by omega), mr 10 _ _ (by omega)]; exact h3 b hb
  · unfold qsM
    by_cases hkk : k' = k
    · subst hkk
      rw [pi_bt hd hd']
      by_cases hdd : d' = d
      · subst hdd
        rw [st_eq, decide_eq_true rfl, Bool.or_true]
        exact ⟨fun _ => by decide, fun _ => rfl⟩
      · rw [st_j (by omega), decide_eq_false hdd, Bool.or_false]; exact h4 k' hk' d' hd'
    · rw [pi_o (Or.inr hkk), st_j (by omega)]; exact h4 k' hk' d' hd'
  · rw [er 37 _ _ (by omega), mr 24 _ _ (by omega)]; exact h8 k hk b hb
  · rw [pi_o (Or.inr (by omega))]; exact h9 k' hk' hk2 d' hd'
theorem RX.cx {x y : St} {ch : Int64} {nb nn hr t : Nat} (h1 : R1 x y nb nn hr) (h : RX x y ch nb nn t) : CX x y nn :=
  ⟨h1.mi.nn40, h1.fl, h1.x3.trans h1.y1.symm, h1.sun, h.2.1, fun b hb => by obtain ⟨d, hd, e⟩ := h1.mi.ds b hb; exact ⟨d, hd, (h.2.2.1 b hb).trans e, e⟩, h.2.2.2.1, h.2.2.2.2.1, h1.mi.rk⟩
theorem RX.go {x y : St} {ch : Int64} {nb nn hr t N : Nat} (h1 : R1 x y nb nn hr) (h : RX x y ch nb nn t) (hN : hr + N ≤ 2000) : RX (goF x nb nn N) (goM (y, ch) nb nn N).1 (goM (y, ch) nb nn N).2 nb nn t := by
  have hc := RX.cx h1 h
  obtain ⟨⟨W, a1⟩, h2, h3, h4, h5, ⟨h6, h7⟩, h8, h9⟩ := h
  obtain ⟨W', a2, -, -⟩ := AB.go (s := (y, ch)) hc a1 h1.mi.nb6 h1.x3 N hN
  have er : ∀ r i j, (r < 11 ∧ r ≠ 3) ∨ 21 < r → goF x nb nn N r i j = x r i j := fun r i j h => goF_r h
  have mr : ∀ r i j, (r < 11 ∧ r ≠ 1) ∨ 16 < r → (goM (y, ch) nb nn N).1 r i j = y r i j := fun r i j h => goM_r h
  refine ⟨⟨W', a2⟩, ?_, fun b hb => ?_, fun k hk d hd => ?_, h5.of (fun j => er 43 _ _ (by omega)) (fun k => mr 17 _ _ (by omega)), ⟨h6.of (fun r i j hr => er r i j (by omega)) (fun j => mr 25 _ _ (by omega)), h7⟩, fun k hk b hb => ?_, fun k hk hk2 d hd => ?_⟩
  · rw [er 2 _ _ (by omega)]; exact h2
  · rw [er 10 _ _ (by omega), mr 10 _ _ (by omega)]; exact h3 b hb
  · rw [er 36 _ _ (by omega), mr 23 _ _ (by omega)]; exact h4 k hk d hd
  · rw [er 37 _ _ (by omega), mr 24 _ _ (by omega)]; exact h8 k hk b hb
  · rw [er 36 _ _ (by omega)]; exact h9 k hk hk2 d hd
theorem RX.tb {x y : St} {ch : Int64} {nb nn t j : Nat} {p : Int32} (h : RX x y ch nb nn t) (hp : ¬ p ≤ x 3 0 0) : RX (st (st x 35 j 0 1) 33 j 0 p) (tbM y j p) ch nb nn t :=
  h.of (fun r i k hr => (st_nr (by omega)).trans (st_nr (by omega))) (fun r i k hr => (st_nr (by omega)).trans (st_nr (by omega))) (fun n _ h9 => by
    by_cases hj : n = j
    · subst hj; rw [st_eq]; exact Int32.not_le.mp hp
    · rw [st_i (by omega), st_nr (by omega)]; exact h9)
theorem RX.ps {x y : St} {ch : Int64} {nb nn hr t k j c : Nat} {v : Int32} (h : RX x y ch nb nn t) (h3 : x 3 0 0 = nI hr) (hh : hr ≤ 2000) (ht : t < 512) (hk : k < 40) (hj : j < 6) (hv : 1 ≤ v.toInt ∧ v.toInt ≤ 999) (hc : c ≤ 512) (e4 : x 4 0 0 = nI c) : RX (paF x k (nI j) v c) (psM y k j hr v) ch nb nn (t + 1) := by
  obtain ⟨⟨W, h1⟩, h2, h3a, h4, h5, ⟨h6, h7⟩, h8, h9⟩ := h
  obtain ⟨q, hq, rfl⟩ := nI_rng (n := 999) (p := v) (by omega) hv.2
  have er : ∀ r i j', r ≠ 4 ∧ r ≠ 37 ∧ r ≠ 40 ∧ r ≠ 41 ∧ r ≠ 42 → paF x k (nI j) (nI q) c r i j' = x r i j' := fun r i j' h => (wr_r (by omega)).trans (st_nr (by omega))
  have mr : ∀ r i j', r ≠ 24 ∧ r ≠ 25 → psM y k j hr (nI q) r i j' = y r i j' := fun r i j' h => (st_nr (by omega)).trans (st_nr (by omega))
  have g37 : ∀ k' b, paF x k (nI j) (nI q) c 37 k' b = st x 37 k j (x 37 k j + nI q) 37 k' b := fun k' b => by
    refine (wr_r (by omega)).trans ?_
    rw [nI_clamp (by omega)]
  have g24 : ∀ i, psM y k j hr (nI q) 24 0 i = st y 24 0 (6 * k + j) (y 24 0 (6 * k + j) + nI q) 24 0 i := fun i => st_nr (by omega)
  refine ⟨⟨W, h1.of (Nat.le_refl _) (fun r i j a b => er r i j (by omega)) (fun r i j a b => mr r i j (by omega)) (er 3 _ _ (by omega)) (fun n _ => er 32 _ _ (by omega)) (fun n hn h => by rw [er 33 _ _ (by omega)]; exact h)⟩, ?_, fun b hb => ?_, fun k' hk' d' hd' => ?_, h5.of (fun j => er 43 _ _ (by omega)) (fun k => mr 17 _ _ (by omega)), ⟨?_, by omega⟩, fun k' hk' b hb => ?_, fun k' hk' hk2 d' hd' => ?_⟩
  · rw [er 2 _ _ (by omega)]; exact h2
  · rw [er 10 _ _ (by omega), mr 10 _ _ (by omega)]; exact h3a b hb
  · rw [er 36 _ _ (by omega), mr 23 _ _ (by omega)]; exact h4 k' hk' d' hd'
  · have h6' : RD (st x 37 k (nI j).toNatClampNeg (x 37 k (nI j).toNatClampNeg + nI q)) (st y 24 0 (6 * k + j) (y 24 0 (6 * k + j) + nI q)) t := h6.of (fun r i j hr => st_nr (by omega)) (fun j => st_nr (by omega))
    have h9 := h6'.wr (k := k) (hr := hr) (c := c) (v := nI q) ht hk hh hc ((st_nr (by omega)).trans e4)
    unfold paF
    rw [show st x 37 k (nI j).toNatClampNeg (x 37 k (nI j).toNatClampNeg + nI q) 3 0 0 = nI hr from (st_nr (by omega)).trans h3]
    exact h9
  · rw [g37, g24]
    by_cases hs : k' = k ∧ b = j
    · obtain ⟨rfl, rfl⟩ := hs
      obtain ⟨a, v, b2, d⟩ := h8 k' hk' b hb
      rw [st_eq, st_eq, a]
      refine ⟨rfl, v + q, by omega, ?_⟩
      rw [← a, d, nI_add]
    · obtain ⟨a, v, b2, d⟩ := h8 k' hk' b hb
      have e1 : st x 37 k j (x 37 k j + nI q) 37 k' b = x 37 k' b := by
        by_cases hkk : k' = k
        · exact st_j (fun h9 => hs ⟨hkk, h9.symm⟩)
        · exact st_i (fun h9 => hkk h9.symm)
      rw [e1, st_j (by omega)]
      exact ⟨a, v, by omega, d⟩
  · rw [er 36 _ _ (by omega)]; exact h9 k' hk' hk2 d' hd'
/-- a mended notice's queues go where it was read -/
theorem qw_bits {X Y : St} {nn j nb : Nat} (hj : j ≠ nn) (hov : ¬ X 33 j 0 ≤ X 3 0 0) (hb : ∀ d, d < 4 → (bt (X 36 j 0) d = true ↔ ¬ Y 23 0 (4 * j + d) = 0)) (h0 : ∀ d, d < 4 → bt (X 36 nn 0) d = false) (hri : ∀ d, riF X j d nb = riM Y j d nb) (k : Nat) (hk : k ≤ 4) : (∀ d, d < 4 → (bt (qwF X nn j nb k 36 nn 0) d = true ↔ (d < k ∧ ¬ Y 23 0 (4 * j + d) = 0 ∧ ¬ riM Y j (nI d) nb ≤ 0))) ∧ (∀ d, d < k → mdL Y nn j nb k 23 0 (4 * nn + d) = bz (¬ Y 23 0 (4 * j + d) = 0 ∧ ¬ riM Y j (nI d) nb ≤ 0)) ∧ (∀ k', k' ≠ nn → qwF X nn j nb k 36 k' 0 = X 36 k' 0) ∧ ∀ k', k' ≠ nn → ∀ d, d < 4 → mdL Y nn j nb k 23 0 (4 * k' + d) = Y 23 0 (4 * k' + d) := by
  induction k with
  | zero => exact ⟨fun d hd => ⟨fun h9 => absurd (h0 d hd) (by rw [show qwF X nn j nb 0 = X from rfl] at h9; rw [h9]; decide), fun h9 => absurd h9.1 (Nat.not_lt_zero _)⟩, fun d hd => absurd hd (Nat.not_lt_zero _), fun _ _ => rfl, fun _ _ _ _ => rfl⟩
  | succ k ih =>
    obtain ⟨i1, i2, i3, i4⟩ := ih (by omega)
    have rx : riF (qwF X nn j nb k) j (nI k) nb = riF X j (nI k) nb := by
      have : ∀ n, riF (qwF X nn j nb k) j (nI k) n = riF X j (nI k) n := fun n => by
        induction n with
        | zero => rfl
        | succ n ih2 =>
          show (if qwF X nn j nb k 10 n 0 = nI k then _ else _) = (if X 10 n 0 = nI k then _ else _)
          rw [qw_r (by omega), qw_r (by omega), ih2]
      exact this nb
    have ry : riM (mdL Y nn j nb k) j (nI k) nb = riM Y j (nI k) nb := by
      have : ∀ n, riM (mdL Y nn j nb k) j (nI k) n = riM Y j (nI k) n := fun n => by
        induction n with
        | zero => rfl
        | succ n ih2 =>
          show (if mdL Y nn j nb k 10 0 n = nI k then _ else _) = (if Y 10 0 n = nI k then _ else _)
          rw [mdL_r (by omega), mdL_r (by omega), ih2]
      exact this nb
    have hP : qwP (qwF X nn j nb k) j nb k ↔ (¬ Y 23 0 (4 * j + k) = 0 ∧ ¬ riM Y j (nI k) nb ≤ 0) := by
      unfold qwP
      rw [i3 j hj, qw_r (by omega), qw_r (by omega), rx, hri, bitF_bt (by omega), hb k (by omega)]
      exact ⟨fun h9 => ⟨h9.1.1, h9.2⟩, fun h9 => ⟨⟨h9.1, hov⟩, h9.2⟩⟩
    have hM : ∀ i, mdL Y nn j nb (k + 1) 23 0 i = st (mdL Y nn j nb k) 23 0 (4 * nn + k) (bz (¬ Y 23 0 (4 * j + k) = 0 ∧ ¬ riM Y j (nI k) nb ≤ 0)) 23 0 i := fun i => by
      show st (mdL Y nn j nb k) 23 0 (4 * nn + k) (bz (¬ mdL Y nn j nb k 23 0 (4 * j + k) = 0 ∧ ¬ riM (mdL Y nn j nb k) j (nI k) nb ≤ 0)) 23 0 i = _
      rw [i4 j hj k (by omega), ry]
    refine ⟨fun d hd => ?_, fun d hd => ?_, fun k' hk' => ?_, fun k' hk' d hd => ?_⟩
    · by_cases hq : qwP (qwF X nn j nb k) j nb k
      · rw [← qw_t hq, pi_bt (by omega) hd]
        by_cases hdk : d = k
        · subst hdk
          rw [decide_eq_true rfl, Bool.or_true]
          exact ⟨fun _ => ⟨by omega, hP.mp hq⟩, fun _ => rfl⟩
        · rw [decide_eq_false hdk, Bool.or_false, i1 d hd]
          exact ⟨fun h9 => ⟨by omega, h9.2⟩, fun h9 => ⟨by omega, h9.2⟩⟩
      · rw [← qw_f hq, i1 d hd]
        refine ⟨fun h9 => ⟨by omega, h9.2⟩, fun h9 => ⟨?_, h9.2⟩⟩
        have : d ≠ k := fun h8 => hq (hP.mpr (by subst h8; exact h9.2))
        omega
    · rw [hM]
      by_cases hdk : d = k
      · subst hdk; rw [st_eq]
      · rw [st_j (by omega)]; exact i2 d (by omega)
    · by_cases hq : qwP (qwF X nn j nb k) j nb k
      · rw [← qw_t hq, pi_o (Or.inr hk')]; exact i3 k' hk'
      · rw [← qw_f hq]; exact i3 k' hk'
    · rw [hM, st_j (by omega)]; exact i4 k' hk' d hd
theorem RX.md {x y : St} {ch : Int64} {nb nn hr t j : Nat} {p : Int32} (h1 : R1 x y nb nn hr) (h : RX x y ch nb nn t) (hn : nn < 40) (hj : j < nn) (hov : ¬ x 33 j 0 ≤ x 3 0 0) : RX (mdF x j nn nb p) (mdM y j nn nb p) ch nb (nn + 1) t := by
  obtain ⟨g3, g4, g5, g6⟩ := h1.fl j hj
  obtain ⟨q, hq, eq⟩ := h1.mi.rk j hj
  have e1 : (if 10 < x 30 j 0 + 1 then (10 : Int32) else x 30 j 0 + 1) = leI 10 (y 17 0 j + 1) := by
    rw [g3, eq, nI_1]
    unfold leI
    by_cases h9 : q + 1 ≤ 10
    · rw [if_neg (show ¬ (10 : Int32) < nI (q + 1) from nI_nlt (b := q + 1) (a := 10) h9 (by omega)), if_pos (show nI (q + 1) ≤ (10 : Int32) from nI_le (b := 10) h9 (by omega))]
    · rw [if_pos (show (10 : Int32) < nI (q + 1) from nI_lt (a := 10) (b := q + 1) (by omega) (by omega)), if_neg (show ¬ nI (q + 1) ≤ (10 : Int32) from nI_ge (a := 10) (b := q + 1) (by omega) (by omega))]
  have e2 : (if x 3 0 0 < x 32 j 0 then x 32 j 0 else x 3 0 0) = moI (y 1 0 0) (y 19 0 j) := by
    rw [g5, h1.x3.trans h1.y1.symm]
    unfold moI
    by_cases h9 : y 1 0 0 < y 19 0 j
    · rw [if_pos h9, if_pos (Int32.le_of_lt h9)]
    · rw [if_neg h9]
      by_cases h8 : y 1 0 0 ≤ y 19 0 j
      · rw [if_pos h8]; exact Int32.le_antisymm h8 (Int32.not_lt.mp h9)
      · rw [if_neg h8]
  have hp0 : ∃ r, r ≤ 10 ∧ leI 10 (y 17 0 j + 1) = nI r := by
    rw [eq, nI_1]
    unfold leI
    by_cases h9 : q + 1 ≤ 10
    · rw [if_pos (show nI (q + 1) ≤ (10 : Int32) from nI_le (b := 10) h9 (by omega))]; exact ⟨q + 1, h9, rfl⟩
    · rw [if_neg (show ¬ nI (q + 1) ≤ (10 : Int32) from nI_ge (a := 10) (b := q + 1) (by omega) (by omega))]; exact ⟨10, by omega, rfl⟩
  have hk : RX (mdT x j nn p) (adM y nn (leI 10 (y 17 0 j + 1)) p (moI (y 1 0 0) (y 19 0 j)) (y 20 0 j)) ch nb (nn + 1) t := by
    unfold mdT
    rw [e1, e2, g6]
    exact h.tk (fun k hk => (h1.fl k hk).1) hn hp0
  have ht33 : mdT x j nn p 33 j 0 = x 33 j 0 := by
    unfold mdT
    rw [tk_rr (by omega)]
    show st (st (st (st x 30 nn 0 _) 31 nn 0 _) 32 nn 0 _) 33 nn 0 _ 33 j 0 = _
    rw [st_i (by omega), st_nr (by omega), st_nr (by omega), st_nr (by omega)]
  have ht3 : mdT x j nn p 3 0 0 = x 3 0 0 := by unfold mdT; exact tk_r (by omega)
  have ht36 : mdT x j nn p 36 nn 0 = x 36 nn 0 := by unfold mdT; exact tk_r (by omega)
  unfold mdF mdM
  generalize mdT x j nn p = X at hk ht33 ht3 ht36 ⊢
  generalize adM y nn (leI 10 (y 17 0 j + 1)) p (moI (y 1 0 0) (y 19 0 j)) (y 20 0 j) = Y at hk ⊢
  obtain ⟨⟨W, a1⟩, h2, h3, h4, h5, ⟨h6, h7⟩, h8, h9⟩ := hk
  have hnb := h1.mi.nb6
  obtain ⟨b1, b2, b3, b4⟩ := qw_bits (X := X) (Y := Y) (nn := nn) (j := j) (nb := nb) (by omega) (by rw [ht33, ht3]; exact hov) (fun d hd => h4 j (by omega) d hd) (fun d hd => by rw [ht36]; exact h.2.2.2.2.2.2.2 nn (Nat.le_refl _) hn d hd) (fun d => ri_eq (fun b hb => ⟨h3 b (by omega), (h8 j (by omega) b (by omega)).1⟩)) 4 (Nat.le_refl _)
  have hq4 : RX (qwF X nn j nb 4) (mdL Y nn j nb 4) ch nb (nn + 1) t := by
    refine ⟨⟨W, a1.of (Nat.le_refl _) (fun r i j a b => qw_r (by omega)) (fun r i j a b => mdL_r (by omega)) (qw_r (by omega)) (fun n _ => qw_r (by omega)) (fun n _ h => by rw [qw_r (by omega)]; exact h)⟩, ?_, fun b hb => ?_, fun k' hk' d hd => ?_, h5.of (fun j => qw_r (by omega)) (fun k => mdL_r (by omega)), ⟨h6.of (fun r i j hr => qw_r (by omega)) (fun j => mdL_r (by omega)), h7⟩, fun k hk b hb => ?_, fun k' hk' hk2 d hd => ?_⟩
    · rw [qw_r (by omega)]; exact h2
    · rw [qw_r (by omega), mdL_r (by omega)]; exact h3 b hb
    · by_cases hkk : k' = nn
      · rw [hkk, b1 d hd, b2 d hd]
        constructor
        · rintro ⟨-, h⟩; rw [bz_t h]; decide
        · intro h; exact ⟨hd, bz_n0 h⟩
      · rw [b3 k' hkk, b4 k' hkk d hd]; exact h4 k' hk' d hd
    · rw [qw_r (by omega), mdL_r (by omega)]; exact h8 k hk b hb
    · rw [b3 k' (by omega)]; exact h9 k' hk' hk2 d hd
  refine hq4.of (fun r i k hr => (st_nr (by omega)).trans (st_nr (by omega))) (fun r i k hr => (st_nr (by omega)).trans (st_nr (by omega))) (fun n _ h9 => ?_)
  have e3 : qwF X nn j nb 4 3 0 0 = nI hr := (qw_r (by omega)).trans (ht3.trans h1.x3)
  by_cases hnj : n = j
  · subst hnj
    rw [st_eq, st_nr (by omega), e3, nI_1]
    exact nI_lt (by omega) (by have := h1.hr; omega)
  · rw [st_i (by omega), st_nr (by omega)]; exact h9
/-- the relation of the two, t calls behind the start -/
def R2 (x y : St) (ch : Int64) (nb nn hr t : Nat) : Prop := R1 x y nb nn hr ∧ RX x y ch nb nn t
theorem R2.tz {x y : St} {ch : Int64} {nb nn hr t : Nat} {v : Int32} (h : R2 x y ch nb nn hr t) : R2 x (st y 0 0 0 v) ch nb nn hr t := ⟨h.1.tz, h.2.tz⟩
theorem R2.up {x y : St} {ch : Int64} {nb nn hr t : Nat} (h : R2 x y ch nb nn hr t) (ht : t < 512) : R2 x y ch nb nn hr (t + 1) := ⟨h.1, h.2.up ht⟩
theorem R2.gi {x y : St} {ch : Int64} {nb nn hr t : Nat} (h : R2 x y ch nb nn hr t) : GI x nb nn := h.1.gi
theorem R2.mi {x y : St} {ch : Int64} {nb nn hr t : Nat} (h : R2 x y ch nb nn hr t) : MI y nb nn := h.1.mi
theorem R2.hr {x y : St} {ch : Int64} {nb nn hr t : Nat} (h : R2 x y ch nb nn hr t) : hr ≤ 2000 := h.1.hr
theorem R2.x3 {x y : St} {ch : Int64} {nb nn hr t : Nat} (h : R2 x y ch nb nn hr t) : x 3 0 0 = nI hr := h.1.x3
theorem R2.y1 {x y : St} {ch : Int64} {nb nn hr t : Nat} (h : R2 x y ch nb nn hr t) : y 1 0 0 = nI hr := h.1.y1
theorem R2.sun {x y : St} {ch : Int64} {nb nn hr t : Nat} (h : R2 x y ch nb nn hr t) : x 2 0 0 = y 2 0 0 := h.1.sun
theorem R2.cnt {x y : St} {ch : Int64} {nb nn hr t : Nat} (h : R2 x y ch nb nn hr t) : ∃ c, c ≤ 512 ∧ x 4 0 0 = nI c := h.1.cnt
theorem R2.b14 {x y : St} {ch : Int64} {nb nn hr t : Nat} (h : R2 x y ch nb nn hr t) : B14 x := h.1.b14
theorem R2.fl {x y : St} {ch : Int64} {nb nn hr t : Nat} (h : R2 x y ch nb nn hr t) : ∀ k, k < nn → fld x y k := h.1.fl
theorem R2.fg {x y : St} {ch : Int64} {nb nn hr t : Nat} (h : R2 x y ch nb nn hr t) : ∀ k, k < 40 → flg x y k := h.1.fg
theorem R2.sun1 {x y : St} {ch : Int64} {nb nn hr t : Nat} {p : Int32} (h : R2 x y ch nb nn hr t) (hp : 0 ≤ p.toInt ∧ p.toInt ≤ 20) : R2 (st x 2 0 0 p) (st y 2 0 0 p) ch nb nn hr t := ⟨h.1.sun1, h.2.sun1 hp⟩
theorem R2.add {x y : St} {ch : Int64} {nb nn hr t : Nat} {p q : Int32} (h : R2 x y ch nb nn hr t) (hb : nb < 6) (hp : 0 ≤ p.toInt ∧ p.toInt ≤ 3) (hq : 0 ≤ q.toInt ∧ q.toInt ≤ 200) : R2 (abF x nb p q) (abM y nb p q) ch (nb + 1) nn hr t := ⟨h.1.add hb hp, h.2.add hb hq⟩
theorem R2.tk {x y : St} {ch : Int64} {nb nn hr t : Nat} {p0 p1 p2 p3 : Int32} (h : R2 x y ch nb nn hr t) (hn : nn < 40) (hp : ∃ q, q ≤ 10 ∧ p0 = nI q) : R2 (tkF x nn p0 p1 p2 p3) (adM y nn p0 p1 p2 p3) ch nb (nn + 1) hr t := ⟨h.1.tk hn hp, h.2.tk (fun k hk => (h.fl k hk).1) hn hp⟩
theorem R2.dn {x y : St} {ch : Int64} {nb nn hr t k d : Nat} (h : R2 x y ch nb nn hr t) (hk : k < nn) (hd : d < 4) : R2 (piF x k (nI d)) (qsM y k d) ch nb nn hr t := ⟨h.1.dn, h.2.dn hk h.gi.nn40 hd⟩
theorem R2.go {x y : St} {ch : Int64} {nb nn hr t N N' : Nat} (h : R2 x y ch nb nn hr t) (hN : N ≤ 48) (hN2 : hr + N ≤ 2000) (e : N' = N) : R2 (goF x nb nn N) (goM (y, ch) nb nn N').1 (goM (y, ch) nb nn N').2 nb nn (hr + N) t := ⟨h.1.go hN hN2 e, by subst e; exact RX.go h.1 h.2 hN2⟩
theorem R2.md {x y : St} {ch : Int64} {nb nn hr t j : Nat} {p : Int32} (h : R2 x y ch nb nn hr t) (hn : nn < 40) (hj : j < nn) (hov : ¬ x 33 j 0 ≤ x 3 0 0) : R2 (mdF x j nn nb p) (mdM y j nn nb p) ch nb (nn + 1) hr t := ⟨h.1.md hn hj, RX.md h.1 h.2 hn hj hov⟩
theorem R2.tb {x y : St} {ch : Int64} {nb nn hr t j : Nat} {p : Int32} (h : R2 x y ch nb nn hr t) (hp : ¬ p ≤ x 3 0 0) : R2 (st (st x 35 j 0 1) 33 j 0 p) (tbM y j p) ch nb nn hr t := ⟨h.1.tb, h.2.tb hp⟩
theorem R2.ps {x y : St} {ch : Int64} {nb nn hr t k j c : Nat} {v : Int32} (h : R2 x y ch nb nn hr t) (ht : t < 512) (hk : k < 40) (hj : j < 6) (hv : 1 ≤ v.toInt ∧ v.toInt ≤ 999) (hc : c ≤ 512) (e4 : x 4 0 0 = nI c) : R2 (paF x k (nI j) v c) (psM y k j hr v) ch nb nn hr (t + 1) := ⟨h.1.ps (q := 0), h.2.ps h.x3 h.hr ht hk hj hv hc e4⟩
-- what a board of both is
theorem R2.bd {x y : St} {ch : Int64} {nb nn hr t : Nat} (h : R2 x y ch nb nn hr t) {b : Nat} (hb : b < nb) : (∃ w q, BD x y b w q) ∧ x 14 b 0 = y 14 0 b ∧ x 12 b 0 = y 12 0 b := by
  have hnb := h.gi.nb6
  obtain ⟨⟨W, h1, h2, -⟩, -⟩ := h.2
  obtain ⟨⟨q, hq⟩, e⟩ := h1 b (by omega)
  exact ⟨⟨_, q, hq⟩, e, (h2 b hb).1⟩
end BR7
