/-! THE RELATION, first part: counts, the hour, the sun, the notices' fields -/
section RL1
-- floats that are numbers
abbrev V64 (a : UInt64) : FP.Core.Datum := FP.Core.decode FP.Core.b64 a.toNat
def OKD (d : FP.Core.Datum) : Prop := d ≠ .nan ∧ ∀ s c q, d = .fin s c q → c < 9007199254740992 ∧ -1074 ≤ q ∧ q ≤ 971
theorem tl64 : FP.Core.b64.tails = 4503599627370496 := by decide
theorem ex64 : FP.Core.b64.exps = 2048 := by decide
theorem qn64 : FP.Core.b64.qmin = -1074 := by decide
theorem qx64 : FP.Core.b64.qmax = 971 := by decide
theorem rr_ok (s : Bool) (a b : Nat) (e : Int) : OKD (FP.Core.roundRatio FP.Core.b64 s a b e) := by
  unfold FP.Core.roundRatio
  by_cases h0 : a = 0
  · rw [if_pos h0, qn64]
    refine ⟨fun h => (by cases h), fun s c q h => ?_⟩
    cases h
    exact ⟨by omega, by omega, by omega⟩
  · rw [if_neg h0]
    unfold FP.Core.roundAt FP.Core.settle
    have hq : (-1074 : Int) ≤ FP.Core.quantum FP.Core.b64 a b e := by unfold FP.Core.quantum; rw [qn64]; exact Int.le_max_left _ _
    generalize FP.Core.quantum FP.Core.b64 a b e = q at hq
    generalize FP.Core.nearest (FP.Core.unitsNum a e q) (FP.Core.unitsDen b e q) = c
    by_cases h1 : c < 2 ^ FP.Core.b64.p
    · rw [if_pos h1]
      unfold FP.Core.bound
      rw [qx64]
      by_cases h2 : q ≤ 971
      · rw [if_pos h2]
        refine ⟨fun h => (by cases h), fun s c q h => ?_⟩
        cases h
        exact ⟨h1, hq, h2⟩
      · rw [if_neg h2]
        exact ⟨fun h => (by cases h), fun s c q h => (by cases h)⟩
    · rw [if_neg h1]
      unfold FP.Core.bound
      rw [qx64, tl64]
      by_cases h2 : q + 1 ≤ 971
      · rw [if_pos h2]
        refine ⟨fun h => (by cases h), fun s c q h => ?_⟩
        cases h
        exact ⟨by omega, by omega, h2⟩
      · rw [if_neg h2]
        exact ⟨fun h => (by cases h), fun s c q h => (by cases h)⟩
theorem enc_ok {d : FP.Core.Datum} (h : OKD d) : FP.Core.encode FP.Core.b64 d % 9223372036854775808 ≤ 9218868437227405312 ∧ FP.Core.encode FP.Core.b64 d < 18446744073709551616 := by
  cases d with
  | nan => exact absurd rfl h.1
  | inf s => cases s <;> decide
  | fin s c q =>
    obtain ⟨h1, h2, h3⟩ := h.2 s c q rfl
    unfold FP.Core.encode FP.Core.assemble
    rw [tl64, ex64, qn64]
    dsimp only
    by_cases h4 : c < 4503599627370496
    · rw [if_pos h4]
      cases s
      · simp only [Bool.toNat_false]; omega
      · simp only [Bool.toNat_true]; omega
    · rw [if_neg h4]
      cases s
      · simp only [Bool.toNat_false]; omega
      · simp only [Bool.toNat_true]; omega
theorem dec_ok {n : Nat} (h : n % 9223372036854775808 ≤ 9218868437227405312) : FP.Core.decode FP.Core.b64 n ≠ .nan := by
  unfold FP.Core.decode FP.Core.fieldE FP.Core.fieldT
  rw [tl64, ex64]
  by_cases h1 : n / 4503599627370496 % 2048 = 2048 - 1
  · rw [if_pos h1, if_pos (by omega)]
    intro h; cases h
  · rw [if_neg h1]
    split <;> (intro h; cases h)
theorem of_ok {d : FP.Core.Datum} (h : OKD d) : vf_n64 (UInt64.ofNat (FP.Core.encode FP.Core.b64 d)) ∧ V64 (UInt64.ofNat (FP.Core.encode FP.Core.b64 d)) ≠ .nan := by
  obtain ⟨h1, h2⟩ := enc_ok h
  have e : (UInt64.ofNat (FP.Core.encode FP.Core.b64 d)).toNat = FP.Core.encode FP.Core.b64 d := UInt64.toNat_ofNat_of_lt' h2
  constructor
  · unfold vf_n64
    rw [UInt64.le_iff_toNat_le, UInt64.toNat_and, e]
    show FP.Core.encode FP.Core.b64 d &&& 9223372036854775807 ≤ 9218868437227405312
    rw [show (9223372036854775807 : Nat) = 2 ^ 63 - 1 from rfl, Nat.and_two_pow_sub_one_eq_mod]
    exact h1
  · unfold V64
    rw [e]
    exact dec_ok h1
def finB : FP.Core.Datum → Bool
  | .fin _ c _ => c != 0
  | _ => false
theorem div_nn {a b : UInt64} (ha : V64 a ≠ .nan) (hb : finB (V64 b) = true) : vf_n64 (FP.ddiv a b) := by
  refine (of_ok (d := FP.Core.quotient FP.Core.b64 (V64 a) (V64 b)) ?_).1
  generalize V64 a = da at ha
  generalize V64 b = db at hb
  cases db with
  | nan => cases hb
  | inf s => cases hb
  | fin t d r =>
    have hd : d ≠ 0 := by simpa [finB] using hb
    cases da with
    | nan => exact absurd rfl ha
    | inf s => exact ⟨fun h => (by cases h), fun s c q h => (by cases h)⟩
    | fin s c q =>
      show OKD (if d = 0 then (if c = 0 then FP.Core.Datum.nan else .inf (s != t)) else FP.Core.roundRatio FP.Core.b64 (s != t) c d (q - r))
      rw [if_neg hd]
      exact rr_ok _ _ _ _
theorem l2d_nn (v : Int64) : V64 (FP.l2d v) ≠ .nan := (of_ok (rr_ok _ _ _ _)).2
theorem i2d_nn (v : Int32) : V64 (FP.i2d v) ≠ .nan := (of_ok (rr_ok _ _ _ _)).2
theorem den_ok : ∀ nb, nb < 7 → nb ≠ 0 → finB (V64 (FP.i2d (nI nb * 32))) = true ∧ finB (V64 (FP.i2d (32 * nI nb))) = true := by decide +kernel
theorem shr_ok : ∀ nb, nb < 7 → nb ≠ 0 → ∀ c, c < 7 → (FP.fdiv (FP.i2f (nI c)) (FP.i2f (nI nb))) &&& 0x7fffffff ≤ 0x7f800000 ∧ (FP.f2d (FP.fdiv (FP.i2f (nI c)) (FP.i2f (nI nb)))) &&& 0x7fffffffffffffff ≤ 0x7ff0000000000000 := by decide +kernel
theorem ss_nat (x : St) (n : Nat) : ∃ c, c ≤ n ∧ ssF x n = nI c := by
  induction n with
  | zero => exact ⟨0, Nat.le_refl _, rfl⟩
  | succ n ih =>
    obtain ⟨c, h1, h2⟩ := ih
    by_cases h : x 12 n 0 = -1
    · exact ⟨c, by omega, by rw [ss_t h, h2]⟩
    · exact ⟨c + 1, by omega, by rw [ss_f h, h2, nI_1]⟩
-- what the hours keep
theorem wi_r {x : St} {i r a b : Nat} (h : r < 11 ∨ 21 < r ∨ r = 14) : wiF x i r a b = x r a b := (st_nr (by omega)).trans ((st_nr (by omega)).trans (ch_r (by omega)))
theorem tu_r {x : St} {i k r a b : Nat} (h : r < 11 ∨ 21 < r ∨ r = 14) : tuF x i k r a b = x r a b := (st_nr (by omega)).trans ((st_nr (by omega)).trans (ch_r (by omega)))
theorem lhA_r {x : St} {i r a b : Nat} (h : r < 11 ∨ 21 < r) : lhA x i r a b = x r a b := (st_nr (by omega)).trans (st_nr (by omega))
theorem lhB_r {x : St} {i r a b : Nat} (h : r < 11 ∨ 21 < r ∨ r = 14) : lhB x i r a b = x r a b := by
  unfold lhB
  split
  · rfl
  · split
    · rfl
    · exact wi_r h
theorem lhL_r {i d r a b : Nat} (h : r < 11 ∨ 21 < r) : ∀ {k : Nat} {x : St}, lhL i d k x r a b = x r a b := by
  induction d with
  | zero => intro k x; exact wi_r (by omega)
  | succ d ih =>
    intro k x
    unfold lhL
    split
    · split
      · rfl
      · split
        · exact ih.trans (st_nr (by omega))
        · exact tu_r (by omega)
    · exact ih
theorem lhF_r {x : St} {i nn r a b : Nat} (h : r < 11 ∨ 21 < r) : lhF x i nn r a b = x r a b := (lhL_r h).trans ((lhB_r (by omega)).trans (lhA_r h))
theorem hrF_r {x : St} {nn k r a b : Nat} (h : r < 11 ∨ 21 < r) : hrF x nn k r a b = x r a b := by
  induction k with
  | zero => rfl
  | succ k ih => exact (lhF_r h).trans ih
theorem goF_r {x : St} {nb nn k r a b : Nat} (h : (r < 11 ∧ r ≠ 3) ∨ 21 < r) : goF x nb nn k r a b = x r a b := by
  induction k with
  | zero => rfl
  | succ k ih => exact (hrF_r (by omega)).trans ((st_nr (by omega)).trans ih)
theorem goF_3 {x : St} {nb nn k : Nat} : goF x nb nn k 3 0 0 = x 3 0 0 + nI k := by
  induction k with
  | zero => exact (Int32.add_zero _).symm
  | succ k ih =>
    refine (hrF_r (by omega)).trans ?_
    show st (goF x nb nn k) 3 0 0 (goF x nb nn k 3 0 0 + 1) 3 0 0 = _
    rw [st_eq, ih, Int32.add_assoc, nI_1]
def B14 (x : St) : Prop := ∀ b, b < 6 → x 14 b 0 = 0 ∨ x 14 b 0 = 1
theorem B14.of {x y : St} (h : B14 x) (e : ∀ i j, y 14 i j = x 14 i j) : B14 y := fun b hb => by rw [e]; exact h b hb
theorem B14.k9 {x : St} {i : Nat} {v : Int32} (h : B14 x) (hv : v = 0 ∨ v = 1) : B14 (st x 14 i 0 v) := fun b hb => by
  by_cases hi : b = i
  · subst hi; rw [st_eq]; exact hv
  · rw [st_i (by omega)]; exact h b hb
theorem B14.lL {i d : Nat} : ∀ {k : Nat} {x : St}, B14 x → B14 (lhL i d k x) := by
  induction d with
  | zero => intro k x h; exact h.of (fun _ _ => wi_r (by omega))
  | succ d ih =>
    intro k x h
    unfold lhL
    split
    · split
      · exact h
      · split
        · exact ih (h.k9 (Or.inr rfl))
        · exact h.of (fun _ _ => tu_r (by omega))
    · exact ih h
theorem B14.lF {x : St} {i nn : Nat} (h : B14 x) : B14 (lhF x i nn) := by
  have h1 : B14 (lhA x i) := (h.of (y := cbF x i (x 2 0 0)) (fun _ _ => st_nr (by omega))).k9 (Or.inl rfl)
  exact B14.lL (h1.of (fun _ _ => lhB_r (by omega)))
theorem B14.hF {x : St} {nn : Nat} (h : B14 x) (k : Nat) : B14 (hrF x nn k) := by
  induction k with
  | zero => exact h
  | succ k ih => exact ih.lF
theorem B14.go {x : St} {nb nn : Nat} (h : B14 x) (k : Nat) : B14 (goF x nb nn k) := by
  induction k with
  | zero => exact h
  | succ k ih => exact B14.hF (ih.of (y := goS (goF x nb nn k)) (fun _ _ => st_nr (by omega))) nb
-- the reference's
theorem wp_r {s : MS} {b r i j : Nat} (h : r < 11 ∨ 16 < r ∨ r = 14) : (wpM s b).1 r i j = s.1 r i j := (st_nr (by omega)).trans ((st_nr (by omega)).trans (wpL_r (by omega)))
theorem sh_r {s : MS} {b k q r i j : Nat} (h : r < 11 ∨ 16 < r ∨ r = 14) : (shM s b k q).1 r i j = s.1 r i j := (st_nr (by omega)).trans ((st_nr (by omega)).trans (shL_r (by omega)))
theorem chL_r {b d nn f r i j : Nat} (h : r < 11 ∨ 16 < r) : ∀ {k : Nat} {s : MS}, (chL b d nn f k s).1 r i j = s.1 r i j := by
  induction f with
  | zero => intro k s; exact wp_r (by omega)
  | succ f ih =>
    intro k s
    unfold chL
    split
    · split
      · rfl
      · split
        · exact ih.trans (st_nr (by omega))
        · exact sh_r (by omega)
    · exact ih
theorem gwM_r {s : MS} {b r i j : Nat} (h : r < 11 ∨ 16 < r ∨ r = 14) : (gwM s b).1 r i j = s.1 r i j := by
  unfold gwM
  split
  · rfl
  · split
    · exact wp_r h
    · rfl
theorem gbM_r {s : MS} {b nn r i j : Nat} (h : r < 11 ∨ 16 < r) : (gbM s b nn).1 r i j = s.1 r i j :=
  (chL_r h).trans ((st_nr (by omega)).trans ((gwM_r (s := (cbM s.1 b, s.2)) (by omega)).trans (st_nr (by omega))))
theorem grM_r {s : MS} {nn k r i j : Nat} (h : r < 11 ∨ 16 < r) : (grM s nn k).1 r i j = s.1 r i j := by
  induction k with
  | zero => rfl
  | succ k ih => exact (gbM_r h).trans ih
theorem goM_r {s : MS} {nb nn k r i j : Nat} (h : (r < 11 ∧ r ≠ 1) ∨ 16 < r) : (goM s nb nn k).1 r i j = s.1 r i j := by
  induction k with
  | zero => rfl
  | succ k ih => exact (grM_r (by omega)).trans ((st_nr (by omega)).trans ih)
theorem goM_1 {s : MS} {nb nn k : Nat} : (goM s nb nn k).1 1 0 0 = s.1 1 0 0 + nI k := by
  induction k with
  | zero => exact (Int32.add_zero _).symm
  | succ k ih =>
    refine (grM_r (by omega)).trans ?_
    show st (goM s nb nn k).1 1 0 0 ((goM s nb nn k).1 1 0 0 + 1) 1 0 0 = _
    rw [st_eq, ih, Int32.add_assoc, nI_1]
-- the relation
abbrev fld (x y : St) (k : Nat) : Prop := x 30 k 0 = y 17 0 k ∧ x 31 k 0 = y 18 0 k ∧ x 32 k 0 = y 19 0 k ∧ x 33 k 0 = y 20 0 k
abbrev flg (x y : St) (k : Nat) : Prop := x 34 k 0 = y 22 0 k ∧ x 35 k 0 = y 21 0 k
def R1 (x y : St) (nb nn hr : Nat) : Prop := GI x nb nn ∧ MI y nb nn ∧ (hr ≤ 2000 ∧ x 3 0 0 = nI hr ∧ y 1 0 0 = nI hr) ∧ x 2 0 0 = y 2 0 0 ∧ (∃ c, c ≤ 512 ∧ x 4 0 0 = nI c) ∧ B14 x ∧ (∀ k, k < nn → fld x y k) ∧ ∀ k, k < 40 → flg x y k
theorem R1.gi {x y : St} {nb nn hr : Nat} (h : R1 x y nb nn hr) : GI x nb nn := h.1
theorem R1.mi {x y : St} {nb nn hr : Nat} (h : R1 x y nb nn hr) : MI y nb nn := h.2.1
theorem R1.hr {x y : St} {nb nn hr : Nat} (h : R1 x y nb nn hr) : hr ≤ 2000 := h.2.2.1.1
theorem R1.x3 {x y : St} {nb nn hr : Nat} (h : R1 x y nb nn hr) : x 3 0 0 = nI hr := h.2.2.1.2.1
theorem R1.y1 {x y : St} {nb nn hr : Nat} (h : R1 x y nb nn hr) : y 1 0 0 = nI hr := h.2.2.1.2.2
theorem R1.sun {x y : St} {nb nn hr : Nat} (h : R1 x y nb nn hr) : x 2 0 0 = y 2 0 0 := h.2.2.2.1
theorem R1.cnt {x y : St} {nb nn hr : Nat} (h : R1 x y nb nn hr) : ∃ c, c ≤ 512 ∧ x 4 0 0 = nI c := h.2.2.2.2.1
theorem R1.b14 {x y : St} {nb nn hr : Nat} (h : R1 x y nb nn hr) : B14 x := h.2.2.2.2.2.1
theorem R1.fl {x y : St} {nb nn hr : Nat} (h : R1 x y nb nn hr) : ∀ k, k < nn → fld x y k := h.2.2.2.2.2.2.1
theorem R1.fg {x y : St} {nb nn hr : Nat} (h : R1 x y nb nn hr) : ∀ k, k < 40 → flg x y k := h.2.2.2.2.2.2.2
theorem R1.tz {x y : St} {nb nn hr : Nat} {v : Int32} (h : R1 x y nb nn hr) : R1 x (st y 0 0 0 v) nb nn hr := by
  obtain ⟨a, b, ⟨c1, c2, c3⟩, d, e, f, g1, g2⟩ := h
  refine ⟨a, b.k9 (by omega), ⟨c1, c2, (st_nr (by omega)).trans c3⟩, d.trans (st_nr (by omega)).symm, e, f, fun k hk => ?_, fun k hk => ?_⟩
  · unfold fld
    rw [st_nr (by omega), st_nr (by omega), st_nr (by omega), st_nr (by omega)]; exact g1 k hk
  · unfold flg
    rw [st_nr (by omega), st_nr (by omega)]; exact g2 k hk
theorem R1.add {x y : St} {nb nn hr : Nat} {p q : Int32} (h : R1 x y nb nn hr) (hb : nb < 6) (hp : 0 ≤ p.toInt ∧ p.toInt ≤ 3) : R1 (abF x nb p q) (abM y nb p q) (nb + 1) nn hr := by
  obtain ⟨a, b, ⟨c1, c2, c3⟩, d, e, f, g1, g2⟩ := h
  have er : ∀ r i j, r ≠ 0 ∧ r ≠ 10 ∧ r ≠ 11 → abF x nb p q r i j = x r i j := fun r i j h => (st_nr (by omega)).trans ((st_nr (by omega)).trans (st_nr (by omega)))
  have mr : ∀ r i j, r ≠ 3 ∧ r ≠ 10 ∧ r ≠ 11 ∧ r ≠ 12 → abM y nb p q r i j = y r i j := fun r i j h => (st_nr (by omega)).trans ((st_nr (by omega)).trans ((st_nr (by omega)).trans (st_nr (by omega))))
  obtain ⟨pd, hpd, rfl⟩ := nI_rng (n := 3) hp.1 hp.2
  refine ⟨⟨⟨by omega, ?_⟩, ⟨a.nn40, (er 1 _ _ (by omega)).trans a.x1⟩, fun k hk => ?_, fun k hk => ?_, fun k hk => ?_⟩, ⟨⟨by omega, ?_⟩, ⟨b.nn40, (mr 4 _ _ (by omega)).trans b.y4⟩, fun k hk => ?_, fun k hk => ?_, fun k hk => ?_⟩, ⟨c1, (er 3 _ _ (by omega)).trans c2, (mr 1 _ _ (by omega)).trans c3⟩, by rw [er 2 _ _ (by omega), mr 2 _ _ (by omega)]; exact d, by rw [er 4 _ _ (by omega)]; exact e, f.of (fun _ _ => er 14 _ _ (by omega)), fun k hk => ?_, fun k hk => ?_⟩
  · show st (st (st x 10 nb 0 (nI pd)) 11 nb 0 q) 0 0 0 _ 0 0 0 = _
    rw [st_eq, st_nr (by omega), st_nr (by omega), a.x0, nI_1]
  · rw [er 12 _ _ (by omega)]; exact a.sh k hk
  · rw [er 43 _ _ (by omega)]; exact a.rk k hk
  · rw [er 19 _ _ (by omega)]; exact ⟨a.tc hk, a.x19 hk⟩
  · show st (st (st (st y 10 0 nb (nI pd)) 11 0 nb q) 12 0 nb (-1)) 3 0 0 _ 3 0 0 = _
    rw [st_eq, st_nr (by omega), st_nr (by omega), st_nr (by omega), b.y3, nI_1]
  · have e1 : abM y nb (nI pd) q 12 0 k = st y 12 0 nb (-1) 12 0 k := by
      show st (st (st (st y 10 0 nb (nI pd)) 11 0 nb q) 12 0 nb (-1)) 3 0 0 _ 12 0 k = _
      rw [st_nr (by omega)]
      by_cases hk2 : k = nb
      · subst hk2; rw [st_eq, st_eq]
      · exact ((st_j (by omega)).trans ((st_nr (by omega)).trans (st_nr (by omega)))).trans (st_j (by omega)).symm
    rw [e1]
    by_cases hk2 : k = nb
    · subst hk2; rw [st_eq]; exact Or.inl rfl
    · rw [st_j (by omega)]; exact b.sh k hk
  · have e1 : abM y nb (nI pd) q 10 0 k = st y 10 0 nb (nI pd) 10 0 k := by
      show st (st (st (st y 10 0 nb (nI pd)) 11 0 nb q) 12 0 nb (-1)) 3 0 0 _ 10 0 k = _
      rw [st_nr (by omega), st_nr (by omega), st_nr (by omega)]
    rw [e1]
    by_cases hk2 : k = nb
    · subst hk2; rw [st_eq]; exact ⟨pd, by omega, rfl⟩
    · rw [st_j (by omega)]; exact b.ds k hk
  · rw [mr 17 _ _ (by omega)]; exact b.rk k hk
  · unfold fld; rw [er 30 _ _ (by omega), er 31 _ _ (by omega), er 32 _ _ (by omega), er 33 _ _ (by omega), mr 17 _ _ (by omega), mr 18 _ _ (by omega), mr 19 _ _ (by omega), mr 20 _ _ (by omega)]; exact g1 k hk
  · unfold flg; rw [er 34 _ _ (by omega), er 35 _ _ (by omega), mr 22 _ _ (by omega), mr 21 _ _ (by omega)]; exact g2 k hk
end RL1
