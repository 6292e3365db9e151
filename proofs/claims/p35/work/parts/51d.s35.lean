/-! p35: each call of the law keeps J35 -/
section S35
theorem tk_31 {x : St} {nn n : Nat} {p0 p1 p2 p3 : Int32} : tkF x nn p0 p1 p2 p3 31 n 0 = if n = nn then p1 else x 31 n 0 := by
  rw [tk_rr (by omega)]
  show st (st (st (st x 30 nn 0 p0) 31 nn 0 p1) 32 nn 0 p2) 33 nn 0 p3 31 n 0 = _
  rw [st_nr (by omega), st_nr (by omega)]
  by_cases h : n = nn
  · subst h; rw [st_eq, if_pos rfl]
  · rw [st_i (by omega), st_nr (by omega), if_neg h]
theorem qw_o {x : St} {i1 i nb n : Nat} (h : n ≠ i1) (k : Nat) : qwF x i1 i nb k 36 n 0 = x 36 n 0 := by
  induction k with
  | zero => rfl
  | succ k ih =>
    by_cases hq : qwP (qwF x i1 i nb k) i nb k
    · rw [← qw_t hq, pi_o (Or.inr h)]; exact ih
    · rw [← qw_f hq]; exact ih
theorem md_31 {x : St} {j nn nb n : Nat} {p : Int32} : mdF x j nn nb p 31 n 0 = if n = nn then p else x 31 n 0 := by
  refine (st_nr (by omega)).trans ((st_nr (by omega)).trans ((qw_r (by omega)).trans ?_))
  unfold mdT
  exact tk_31
theorem md_36 {x : St} {j nn nb n : Nat} {p : Int32} (h : n ≠ nn) : mdF x j nn nb p 36 n 0 = x 36 n 0 := by
  refine (st_nr (by omega)).trans ((st_nr (by omega)).trans ((qw_o h 4).trans ?_))
  unfold mdT
  exact tk_r (by omega)
theorem md_r {x : St} {j nn nb r i k : Nat} {p : Int32} (h : r ≠ 1 ∧ r ≠ 30 ∧ r ≠ 31 ∧ r ≠ 32 ∧ r ≠ 33 ∧ r ≠ 34 ∧ r ≠ 36 ∧ r ≠ 43) : mdF x j nn nb p r i k = x r i k := by
  refine (st_nr (by omega)).trans ((st_nr (by omega)).trans ((qw_r (by omega)).trans ?_))
  unfold mdT
  exact tk_r (by omega)
theorem J35.gi {x : St} {D P : Nat → Int32} {nn k : Nat} (h : J35 x D P nn k) : GI x 4 nn := by
  obtain ⟨y, ch, hr, hR, -⟩ := h
  exact hR.gi
theorem J35.nk {x : St} {D P : Nat → Int32} {nn k : Nat} (h : J35 x D P nn k) : nn ≤ k := by
  obtain ⟨y, ch, hr, -, -, h1, -⟩ := h
  exact h1
theorem J35.cnt {x : St} {D P : Nat → Int32} {nn k : Nat} (h : J35 x D P nn k) : ∃ c, c ≤ 512 ∧ x 4 0 0 = nI c := by
  obtain ⟨y, ch, hr, hR, -⟩ := h
  exact hR.cnt
theorem J35.x3 {x : St} {D P : Nat → Int32} {nn k : Nat} (h : J35 x D P nn k) : ∃ hr, hr ≤ 6 * k ∧ x 3 0 0 = nI hr := by
  obtain ⟨y, ch, hr, hR, h1, -⟩ := h
  exact ⟨hr, h1, hR.x3⟩
theorem J35.db {x : St} {D P : Nat → Int32} {nn k b : Nat} (h : J35 x D P nn k) (hb : b < 4) : ∃ d, d < 4 ∧ D b = nI d ∧ x 10 b 0 = nI d := by
  obtain ⟨y, ch, hr, -, -, -, hD, -⟩ := h
  obtain ⟨d, h1, h2, h3, -⟩ := hD b hb
  exact ⟨d, h1, h2, h3⟩
theorem J35.up {x : St} {D P : Nat → Int32} {nn k : Nat} (h : J35 x D P nn k) (hk : k < 500) : J35 x D P nn (k + 1) := by
  obtain ⟨y, ch, hr, hR, h1, h2, h3, h4, h5⟩ := h
  exact ⟨y, ch, hr, hR.up (by omega), by omega, by omega, h3, h4, h5⟩
theorem upd_eq {f : Nat → Int32} {i : Nat} {v : Int32} : upd f i v i = v := by simp [upd]
theorem upd_ne {f : Nat → Int32} {i j : Nat} {v : Int32} (h : j ≠ i) : upd f i v j = f j := by simp [upd, h]
theorem J35.row {x : St} {D P : Nat → Int32} {nn k : Nat} {v : Int32} (h : J35 x D P nn k) : J35 x D (upd P nn v) nn k := by
  obtain ⟨y, ch, hr, hR, h1, h2, h3, h4, h5⟩ := h
  exact ⟨y, ch, hr, hR, h1, h2, h3, fun n hn => by rw [upd_ne (by omega)]; exact h4 n hn, h5⟩
theorem J35.tk {x : St} {D P : Nat → Int32} {nn k : Nat} {p0 p1 p2 p3 : Int32} (h : J35 x D P nn k) (hk : k < 40) (hp : ∃ q, q ≤ 10 ∧ p0 = nI q) : J35 (tkF x nn p0 p1 p2 p3) D (upd P nn p1) (nn + 1) (k + 1) := by
  obtain ⟨y, ch, hr, hR, h1, h2, h3, h4, h5⟩ := h
  refine ⟨_, ch, hr, (hR.tk (by omega) hp).up (by omega), by omega, by omega, fun b hb => ?_, fun n hn => ?_, h5.of (fun r j hr => ad_r (by omega))⟩
  · obtain ⟨d, a1, a2, a3, a4⟩ := h3 b hb
    exact ⟨d, a1, a2, (tk_r (by omega)).trans a3, a4.of (by omega) (fun r hr => tk_r (by omega)) (fun n hn => by rw [tk_31, if_neg (by omega)]) (fun n _ h9 => by rw [tk_r (by omega)]; exact h9)⟩
  · rw [tk_31]
    by_cases hn2 : n = nn
    · rw [if_pos hn2, hn2, upd_eq]
    · rw [if_neg hn2, upd_ne hn2]; exact h4 n (by omega)
theorem J35.dn {x : St} {D P : Nat → Int32} {nn k j d : Nat} (h : J35 x D P nn k) (hj : j < nn) (hd : d < 4) : J35 (piF x j (nI d)) D P nn k := by
  obtain ⟨y, ch, hr, hR, h1, h2, h3, h4, h5⟩ := h
  have er : ∀ r i q, r ≠ 36 → piF x j (nI d) r i q = x r i q := fun r i q h => pi_o (Or.inl h)
  refine ⟨_, ch, hr, hR.dn hj hd, h1, h2, fun b hb => ?_, fun n hn => by rw [er 31 _ _ (by omega)]; exact h4 n hn, h5.of (fun r j hr => st_nr (by omega))⟩
  obtain ⟨d', a1, a2, a3, a4⟩ := h3 b hb
  refine ⟨d', a1, a2, (er 10 _ _ (by omega)).trans a3, a4.of (Nat.le_refl _) (fun r hr => er r _ _ (by omega)) (fun n _ => er 31 _ _ (by omega)) (fun n _ h9 => ?_)⟩
  by_cases hnj : n = j
  · subst hnj; rw [pi_bt hd a1, h9, Bool.true_or]
  · rw [pi_o (Or.inr hnj)]; exact h9
theorem J35.tb {x : St} {D P : Nat → Int32} {nn k j : Nat} {p : Int32} (h : J35 x D P nn k) (hp : ¬ p ≤ x 3 0 0) : J35 (st (st x 35 j 0 1) 33 j 0 p) D P nn k := by
  obtain ⟨y, ch, hr, hR, h1, h2, h3, h4, h5⟩ := h
  have er : ∀ r i q, r ≠ 33 ∧ r ≠ 35 → st (st x 35 j 0 1) 33 j 0 p r i q = x r i q := fun r i q h => (st_nr (by omega)).trans (st_nr (by omega))
  refine ⟨_, ch, hr, hR.tb hp, h1, h2, fun b hb => ?_, fun n hn => by rw [er 31 _ _ (by omega)]; exact h4 n hn, h5.of (fun r j hr => (st_nr (by omega)).trans (st_nr (by omega)))⟩
  obtain ⟨d', a1, a2, a3, a4⟩ := h3 b hb
  exact ⟨d', a1, a2, (er 10 _ _ (by omega)).trans a3, a4.of (Nat.le_refl _) (fun r hr => er r _ _ (by omega)) (fun n _ => er 31 _ _ (by omega)) (fun n _ h9 => by rw [er 36 _ _ (by omega)]; exact h9)⟩
theorem J35.md {x : St} {D P : Nat → Int32} {nn k j : Nat} {p : Int32} (h : J35 x D P nn k) (hk : k < 40) (hj : j < nn) (hov : ¬ x 33 j 0 ≤ x 3 0 0) : J35 (mdF x j nn 4 p) D (upd P nn p) (nn + 1) (k + 1) := by
  obtain ⟨y, ch, hr, hR, h1, h2, h3, h4, h5⟩ := h
  refine ⟨_, ch, hr, (hR.md (by omega) hj hov).up (by omega), by omega, by omega, fun b hb => ?_, fun n hn => ?_, h5.of (fun r q hr => (st_nr (by omega)).trans ((st_nr (by omega)).trans ((mdL_r (by omega)).trans (ad_r (by omega)))))⟩
  · obtain ⟨d, a1, a2, a3, a4⟩ := h3 b hb
    exact ⟨d, a1, a2, (md_r (by omega)).trans a3, a4.of (by omega) (fun r hr => md_r (by omega)) (fun n hn => by rw [md_31, if_neg (by omega)]) (fun n hn h9 => by rw [md_36 (by omega)]; exact h9)⟩
  · rw [md_31]
    by_cases hn2 : n = nn
    · rw [if_pos hn2, hn2, upd_eq]
    · rw [if_neg hn2, upd_ne hn2]; exact h4 n (by omega)
theorem pa_r {x : St} {n c r i j : Nat} {p v : Int32} (h : r ≠ 4 ∧ r ≠ 37 ∧ r ≠ 40 ∧ r ≠ 41 ∧ r ≠ 42) : paF x n p v c r i j = x r i j := (wr_r (by omega)).trans (st_nr (by omega))
theorem pa_37 {x : St} {n b c i j : Nat} {v : Int32} (hb : b < 6) : paF x n (nI b) v c 37 i j = st x 37 n b (x 37 n b + v) 37 i j := by
  refine (wr_r (by omega)).trans ?_
  rw [nI_clamp (by omega)]
theorem J35.ps {x : St} {D P : Nat → Int32} {nn k n b c : Nat} {v : Int32} (h : J35 x D P nn k) (hk : k < 500) (hn : n < 40) (hb : b < 4) (hv : 1 ≤ v.toInt ∧ v.toInt ≤ 999) (hc : c ≤ 512) (e4 : x 4 0 0 = nI c) : J35 (paF x n (nI b) v c) D P nn (k + 1) := by
  obtain ⟨y, ch, hr, hR, h1, h2, h3, h4, h5⟩ := h
  refine ⟨_, ch, hr, hR.ps (by omega) hn (by omega) hv hc e4, by omega, by omega, fun b' hb' => ?_, fun n hn => by rw [pa_r (by omega)]; exact h4 n hn, h5.ps hn hb hR.hr⟩
  obtain ⟨d', a1, a2, a3, a4⟩ := h3 b' hb'
  exact ⟨d', a1, a2, (pa_r (by omega)).trans a3, a4.of (Nat.le_refl _) (fun r hr => pa_r (by omega)) (fun n _ => pa_r (by omega)) (fun n _ h9 => by rw [pa_r (by omega)]; exact h9)⟩
theorem J35.go {x : St} {D P : Nat → Int32} {nn k N : Nat} (h : J35 x D P nn k) (hk : k < 40) (hN : N ≤ 6) : J35 (goF x 4 nn N) D P nn (k + 1) ∧ ∃ hr, hr ≤ 2000 ∧ x 3 0 0 = nI hr ∧ goF x 4 nn N 3 0 0 = nI (hr + N) := by
  obtain ⟨y, ch, hr, hR, h1, h2, h3, h4, h5⟩ := h
  have hg : R2 (goF x 4 nn N) (goM (y, ch) 4 nn N).1 (goM (y, ch) 4 nn N).2 4 nn (hr + N) k := hR.go (by omega) (by omega) rfl
  have hrk : ∀ j, j < nn → rk x j < nn := (hR.qc (d := 0) (by omega)).2.2.1
  have hch : ∃ d : Nat → Nat, ∀ b, b < 4 → d b < 4 ∧ D b = nI (d b) ∧ x 10 b 0 = nI (d b) ∧ SHB x b nn (d b) := by
    have hex : ∀ b, ∃ d, b < 4 → d < 4 ∧ D b = nI d ∧ x 10 b 0 = nI d ∧ SHB x b nn d := fun b => by
      by_cases hb : b < 4
      · obtain ⟨d, h9⟩ := h3 b hb; exact ⟨d, fun _ => h9⟩
      · exact ⟨0, fun h9 => absurd h9 hb⟩
    exact ⟨fun b => Classical.choose (hex b), fun b => Classical.choose_spec (hex b)⟩
  obtain ⟨d, hd⟩ := hch
  have hs := shb_G hrk (nb := 4) (d := d) (fun b hb => ⟨(hd b hb).1, (hd b hb).2.2.1, (hd b hb).2.2.2⟩) N
  refine ⟨⟨_, _, hr + N, hg.up (by omega), by omega, by omega, fun b hb => ⟨d b, (hd b hb).1, (hd b hb).2.1, (go_r (by omega) N).trans (hd b hb).2.2.1, hs b hb⟩, fun n hn => by rw [go_r (by omega)]; exact h4 n hn, ?_⟩, hr, hR.hr, hR.x3, hg.x3⟩
  refine (h5.up (N := N) (by omega)).of (fun r j hr => ?_)
  exact goM_r (by omega)
/-- while the boards are added: i of them -/
def S35 (x : St) (D : Nat → Int32) (i : Nat) : Prop := ∃ (y : St) (ch : Int64), R2 x y ch i 0 0 0 ∧ (∀ b, b < i → ∃ d, d < 4 ∧ D b = nI d ∧ x 10 b 0 = nI d) ∧ (∀ b, b < 4 → x 12 b 0 = -1 ∧ x 15 b 0 = 0 ∧ x 13 b 0 = 0) ∧ RS y 0
theorem S35.gi {x : St} {D : Nat → Int32} {i : Nat} (h : S35 x D i) : GI x i 0 := by
  obtain ⟨y, ch, hR, -⟩ := h
  exact hR.gi
theorem S35.add {x : St} {D : Nat → Int32} {i d q : Nat} {p0 p1 : Int32} (h : S35 x D i) (hi : i < 4) (hd : d < 4) (e0 : p0 = nI d) (hq : q ≤ 200) (e1 : p1 = nI q) : S35 (abF x i p0 p1) (upd D i p0) (i + 1) := by
  obtain ⟨y, ch, hR, h1, h2, h3⟩ := h
  have g0 : 0 ≤ p0.toInt ∧ p0.toInt ≤ 3 := by rw [e0, nI_toInt (by omega)]; omega
  have g1 : 0 ≤ p1.toInt ∧ p1.toInt ≤ 200 := by rw [e1, nI_toInt (by omega)]; omega
  have er : ∀ r i' j, r ≠ 0 ∧ r ≠ 10 ∧ r ≠ 11 → abF x i p0 p1 r i' j = x r i' j := fun r i' j h => (st_nr (by omega)).trans ((st_nr (by omega)).trans (st_nr (by omega)))
  refine ⟨_, ch, hR.add (by omega) g0 g1, fun b hb => ?_, fun b hb => ?_, h3.of (fun r j hr => (st_nr (by omega)).trans ((st_nr (by omega)).trans ((st_nr (by omega)).trans (st_nr (by omega)))))⟩
  · have e10 : abF x i p0 p1 10 b 0 = st x 10 i 0 p0 10 b 0 := (st_nr (by omega)).trans (st_nr (by omega))
    rw [e10]
    by_cases hbi : b = i
    · subst hbi; exact ⟨d, hd, by rw [upd_eq, e0], by rw [st_eq, e0]⟩
    · rw [st_i (by omega), upd_ne hbi]; exact h1 b (by omega)
  · rw [er 12 _ _ (by omega), er 13 _ _ (by omega), er 15 _ _ (by omega)]; exact h2 b hb
theorem S35.j {x : St} {D P : Nat → Int32} {p : Int32} (h : S35 x D 4) (hp : 0 ≤ p.toInt ∧ p.toInt ≤ 20) : J35 (st x 2 0 0 p) D P 0 0 := by
  obtain ⟨y, ch, hR, h1, h2, h3⟩ := h
  refine ⟨_, ch, 0, hR.sun1 hp, by omega, by omega, fun b hb => ?_, fun n hn => absurd hn (Nat.not_lt_zero _), h3.of (fun r j hr => st_nr (by omega))⟩
  obtain ⟨d, a1, a2, a3⟩ := h1 b hb
  exact ⟨d, a1, a2, (st_nr (by omega)).trans a3, Or.inl ⟨(st_nr (by omega)).trans (h2 b hb).1, (st_nr (by omega)).trans (h2 b hb).2.1, (st_nr (by omega)).trans (h2 b hb).2.2⟩⟩
end S35
