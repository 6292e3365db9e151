/-! p35: what the law's calls answer, and what they leave -/
section L35
theorem bad_no {p : Int32} {n j : Nat} (hn : n ≤ 40) (hj : j < n) (e : p = nI j) (h : p.toInt < 0 ∨ (n : Int) ≤ p.toInt) : False := by
  rw [e, nI_toInt (by omega)] at h; omega
theorem add_n {a c : Nat} {q : Int32} (e : q = nI c) (h : a + c < 2 ^ 31) : 0 ≤ (nI a + q).toInt := by
  rw [e, nI_add, nI_toInt h]; omega
theorem add_n2 {a c : Nat} {q : Int32} (e : q = nI c) (h : a + c ≤ 1000) : (nI a + q).toInt ≤ 1000 := by
  rw [e, nI_add, nI_toInt (by omega)]; omega
theorem add_n9 {a c : Nat} {q : Int32} (e : q = nI c) (h : a + c ≤ 900) : (nI a + q).toInt ≤ 900 := by
  rw [e, nI_add, nI_toInt (by omega)]; omega
theorem J35.pp {x : St} {D P : Nat → Int32} {nn k : Nat} (h : J35 x D P nn k) : ∀ n, n < nn → P n = x 31 n 0 := by
  obtain ⟨y, ch, hr, -, -, -, -, h4, -⟩ := h
  exact h4
theorem ng_ne {v : Int32} {n : Nat} (hv : v.toInt < 0) (hn : n < 2 ^ 31) : ¬ v = nI n := fun h => by
  rw [h, nI_toInt hn] at hv; omega
theorem ge_0 {a : Int32} {n : Nat} (h : a = nI n) (hn : n < 2 ^ 31) : 0 ≤ a.toInt ∧ a.toInt = n := by
  rw [h, nI_toInt hn]; omega
theorem A0 {x u : St} {i : Nat} {p0 p1 r : Int32} {c q : Nat} (hi : i < 4) (hc : c < 4) (e0 : p0 = nI c) (hq : q ≤ 200) (e1 : p1 = nI q) (h : ((0 ≤ p0.toInt ∧ p0.toInt ≤ 3 ∧ 0 ≤ p1.toInt ∧ p1.toInt ≤ 200) ∧ i < 6 ∧ u = abF x i p0 p1 ∧ r = u 0 0 0 - 1) ∨ ∃ E, ((E = "java/lang/IllegalArgumentException" ∧ ¬ (0 ≤ p0.toInt ∧ p0.toInt ≤ 3 ∧ 0 ≤ p1.toInt ∧ p1.toInt ≤ 200)) ∨ (E = "java/lang/IllegalStateException" ∧ (0 ≤ p0.toInt ∧ p0.toInt ≤ 3 ∧ 0 ≤ p1.toInt ∧ p1.toInt ≤ 200) ∧ i = 6)) ∧ r = cdE E ∧ u = x) : u = abF x i p0 p1 := by
  have h0 := ge_0 e0 (by omega)
  have h1 := ge_0 e1 (by omega)
  rcases h with ⟨-, -, h, -⟩ | ⟨E, ⟨-, h⟩ | ⟨-, -, h⟩, -⟩
  · exact h
  · exact absurd ⟨by omega, by omega, by omega, by omega⟩ h
  · omega
theorem A1 {x u : St} {p0 r : Int32} {c : Nat} (hc : c ≤ 20) (e0 : p0 = nI c) (h : ((0 ≤ p0.toInt ∧ p0.toInt ≤ 20) ∧ r = x 2 0 0 ∧ u = st x 2 0 0 p0) ∨ ∃ E, (E = "java/lang/IllegalArgumentException" ∧ ¬ (0 ≤ p0.toInt ∧ p0.toInt ≤ 20)) ∧ r = cdE E ∧ u = x) : (0 ≤ p0.toInt ∧ p0.toInt ≤ 20) ∧ u = st x 2 0 0 p0 := by
  have h0 := ge_0 e0 (by omega)
  rcases h with ⟨a, -, h⟩ | ⟨E, ⟨-, h⟩, -⟩
  · exact ⟨a, h⟩
  · exact absurd ⟨by omega, by omega⟩ h
theorem A8 {x u : St} {D P : Nat → Int32} {nn k a f t : Nat} {p0 p1 p2 p3 r : Int32} (hJ : J35 x D P nn k) (hk : k < 30) (ha : a < 10) (e0 : p0 = nI a) (h1 : p1 ≠ 0) (e2 : p2 = nI f) (e3 : p3 = nI t) (hft : f < t) (ht : t ≤ 2000) (h : ((0 ≤ p0.toInt ∧ p0.toInt ≤ 9 ∧ p1.toInt ≠ 0 ∧ 0 ≤ p2.toInt ∧ p2.toInt < p3.toInt ∧ p3.toInt ≤ 2000) ∧ nn < 40 ∧ u = tkF x nn p0 p1 p2 p3 ∧ r = nI nn) ∨ ∃ E, ((E = "java/lang/IllegalArgumentException" ∧ ¬ (0 ≤ p0.toInt ∧ p0.toInt ≤ 9 ∧ p1.toInt ≠ 0 ∧ 0 ≤ p2.toInt ∧ p2.toInt < p3.toInt ∧ p3.toInt ≤ 2000)) ∨ (E = "java/lang/IllegalStateException" ∧ (0 ≤ p0.toInt ∧ p0.toInt ≤ 9 ∧ p1.toInt ≠ 0 ∧ 0 ≤ p2.toInt ∧ p2.toInt < p3.toInt ∧ p3.toInt ≤ 2000) ∧ nn = 40)) ∧ r = cdE E ∧ u = x) : r = nI nn ∧ J35 u D (upd P nn p1) (nn + 1) (k + 1) := by
  have hnk := hJ.nk
  have g0 := ge_0 e0 (by omega)
  have g2 := ge_0 e2 (by omega)
  have g3 := ge_0 e3 (by omega)
  have g1 : p1.toInt ≠ 0 := fun h9 => h1 (Int32.toInt_inj.mp (h9.trans i_0.symm))
  rcases h with ⟨-, -, rfl, h⟩ | ⟨E, ⟨-, h⟩ | ⟨-, -, h⟩, -⟩
  · exact ⟨h, hJ.tk (by omega) ⟨a, by omega, e0⟩⟩
  · exact absurd ⟨by omega, by omega, g1, by omega, by omega, by omega⟩ h
  · omega
theorem A9 {x u : St} {D P : Nat → Int32} {nn k d : Nat} {p0 p1 r : Int32} (hJ : J35 x D P nn k) (hd : d < 4) (e1 : p1 = nI d) (h : (∃ v : Int32, (∃ j, j < nn ∧ p0 = nI j ∧ (0 ≤ p1.toInt ∧ p1.toInt ≤ 3) ∧ (x 34 j 0 = 0 ∧ x 35 j 0 = 0) ∧ u = piF x j p1 ∧ ((v = 0 ∧ qcP x j p1) ∨ (v = 1 ∧ ¬ qcP x j p1))) ∧ r = if v = 0 then 0 else 1) ∨ ∃ E, ((E = "java/lang/IndexOutOfBoundsException" ∧ (p0.toInt < 0 ∨ (nn : Int) ≤ p0.toInt)) ∨ (∃ j, j < nn ∧ p0 = nI j ∧ ((E = "java/lang/IllegalArgumentException" ∧ (p1.toInt < 0 ∨ 3 < p1.toInt)) ∨ (E = "java/lang/UnsupportedOperationException" ∧ (0 ≤ p1.toInt ∧ p1.toInt ≤ 3) ∧ ¬ (x 34 j 0 = 0 ∧ x 35 j 0 = 0))))) ∧ r = cdE E ∧ u = x) : J35 u D P nn k := by
  rcases h with ⟨v, ⟨j, hj, -, -, -, rfl, -⟩, -⟩ | ⟨E, -, -, rfl⟩
  · rw [e1]; exact hJ.dn hj hd
  · exact hJ
/-- a notice that was taken back is refused -/
theorem A9r {x u : St} {nn j : Nat} {r : Int32} (hnn : nn ≤ 40) (hj : j < nn) (e35 : x 35 j 0 = 1) (h : (∃ v : Int32, (∃ i, i < nn ∧ nI j = nI i ∧ (0 ≤ (0 : Int32).toInt ∧ (0 : Int32).toInt ≤ 3) ∧ (x 34 i 0 = 0 ∧ x 35 i 0 = 0) ∧ u = piF x i 0 ∧ ((v = 0 ∧ qcP x i 0) ∨ (v = 1 ∧ ¬ qcP x i 0))) ∧ r = if v = 0 then 0 else 1) ∨ ∃ E, ((E = "java/lang/IndexOutOfBoundsException" ∧ ((nI j).toInt < 0 ∨ (nn : Int) ≤ (nI j).toInt)) ∨ (∃ i, i < nn ∧ nI j = nI i ∧ ((E = "java/lang/IllegalArgumentException" ∧ ((0 : Int32).toInt < 0 ∨ 3 < (0 : Int32).toInt)) ∨ (E = "java/lang/UnsupportedOperationException" ∧ (0 ≤ (0 : Int32).toInt ∧ (0 : Int32).toInt ≤ 3) ∧ ¬ (x 34 i 0 = 0 ∧ x 35 i 0 = 0))))) ∧ r = cdE E ∧ u = x) : r = -2004 ∧ u = x := by
  rcases h with ⟨v, ⟨i, hi, e, -, ⟨-, h⟩, -⟩, -⟩ | ⟨E, ⟨-, h⟩ | ⟨i, hi, e, ⟨-, h⟩ | ⟨h, -⟩⟩, er, eu⟩
  · rw [← (nI_eq (by omega) (by omega)).mp e, e35] at h; exact absurd h (by decide)
  · exact (bad_no hnn hj rfl h).elim
  · rw [i_0] at h; omega
  · exact ⟨by rw [er, h]; decide +kernel, eu⟩
theorem J35.sh9 {x : St} {D P : Nat → Int32} {nn k b : Nat} (h : J35 x D P nn k) (hb : b < 4) : x 12 b 0 = -1 ∨ ∃ n, n < nn ∧ x 12 b 0 = nI n := by
  obtain ⟨y, ch, hr, -, -, -, hD, -⟩ := h
  obtain ⟨d, -, -, -, h3⟩ := hD b hb
  exact h3.imp (fun h => h.1) (fun ⟨n, h1, h2, _⟩ => ⟨n, h1, h2⟩)
theorem A16n {x u : St} {b c : Nat} {p r : Int32} {q : Nat} (hb : b < 4) (e12 : x 12 b 0 = -1) (hq : 1 ≤ q ∧ q ≤ 999) (ep : p = nI q) (h : (∃ j, j < 4 ∧ nI b = nI j ∧ (1 ≤ p.toInt ∧ p.toInt ≤ 999) ∧ ((x 12 j 0 = -1 ∧ r = 0 ∧ u = x) ∨ (∃ k, k < 40 ∧ x 12 j 0 = nI k ∧ u = paF x k (nI b) p c ∧ r = u 37 k (nI b).toNatClampNeg))) ∨ ∃ E, ((E = "java/lang/IndexOutOfBoundsException" ∧ ((nI b).toInt < 0 ∨ ((4 : Nat) : Int) ≤ (nI b).toInt)) ∨ (E = "java/lang/IllegalArgumentException" ∧ (∃ j, j < 4 ∧ nI b = nI j) ∧ ¬ (1 ≤ p.toInt ∧ p.toInt ≤ 999))) ∧ r = cdE E ∧ u = x) : r = 0 ∧ u = x := by
  have g := ge_0 ep (by omega)
  rcases h with ⟨j, hj, e, -, ⟨-, h⟩ | ⟨k, hk, h, -⟩⟩ | ⟨E, ⟨-, h⟩ | ⟨-, -, h⟩, -⟩
  · exact h
  · rw [← (nI_eq (by omega) (by omega)).mp e, e12] at h; exact absurd h.symm (nI_ne (by omega))
  · rw [nI_toInt (by omega)] at h; omega
  · exact absurd ⟨by omega, by omega⟩ h
theorem ri_pa {x : St} {n b c d : Nat} {v : Int32} (hb : b < 4) (e10 : x 10 b 0 = nI d) (k : Nat) (hk : k ≤ 4) : riF (paF x n (nI b) v c) n (nI d) k = if b < k then riF x n (nI d) k + v else riF x n (nI d) k := by
  induction k with
  | zero => rw [if_neg (by omega)]; rfl
  | succ k ih =>
    have a10 : paF x n (nI b) v c 10 k 0 = x 10 k 0 := pa_r (by omega)
    have a37 : paF x n (nI b) v c 37 n k = if k = b then x 37 n k + v else x 37 n k := by
      rw [pa_37 (by omega)]
      by_cases h : k = b
      · subst h; rw [st_eq, if_pos rfl]
      · rw [st_j (by omega), if_neg h]
    have ih := ih (by omega)
    by_cases h10 : x 10 k 0 = nI d
    · rw [ri_t (a10.trans h10), ih, a37, ri_t h10]
      by_cases h1 : b < k
      · rw [if_pos h1, if_neg (by omega), if_pos (by omega), add_rc]
      · rw [if_neg h1]
        by_cases h2 : k = b
        · rw [if_pos h2, if_pos (by omega), Int32.add_assoc]
        · rw [if_neg h2, if_neg (by omega)]
    · rw [ri_f (fun h9 => h10 (a10.symm.trans h9)), ih, ri_f h10]
      have : k ≠ b := fun h9 => h10 (by rw [h9]; exact e10)
      by_cases h1 : b < k
      · rw [if_pos h1, if_pos (by omega)]
      · rw [if_neg h1, if_neg (by omega)]
theorem A16s {x u : St} {D P : Nat → Int32} {nn k n d b c : Nat} {p r : Int32} {q : Nat} (hJ : J35 x D P nn k) (hk : k < 30) (hn : n < nn) (hb : b < 4) (e12 : x 12 b 0 = nI n) (e10 : x 10 b 0 = nI d) (hc : c ≤ 512) (e4 : x 4 0 0 = nI c) (hq : 1 ≤ q ∧ q ≤ 999) (ep : p = nI q) (h : (∃ j, j < 4 ∧ nI b = nI j ∧ (1 ≤ p.toInt ∧ p.toInt ≤ 999) ∧ ((x 12 j 0 = -1 ∧ r = 0 ∧ u = x) ∨ (∃ k, k < 40 ∧ x 12 j 0 = nI k ∧ u = paF x k (nI b) p c ∧ r = u 37 k (nI b).toNatClampNeg))) ∨ ∃ E, ((E = "java/lang/IndexOutOfBoundsException" ∧ ((nI b).toInt < 0 ∨ ((4 : Nat) : Int) ≤ (nI b).toInt)) ∨ (E = "java/lang/IllegalArgumentException" ∧ (∃ j, j < 4 ∧ nI b = nI j) ∧ ¬ (1 ≤ p.toInt ∧ p.toInt ≤ 999))) ∧ r = cdE E ∧ u = x) : J35 u D P nn (k + 1) ∧ ¬ r < p ∧ riF u n (nI d) 4 = riF x n (nI d) 4 + p := by
  have g := ge_0 ep (by omega)
  have hnn := hJ.gi.nn40
  rcases h with ⟨j, hj, e, -, ⟨h, -⟩ | ⟨k', hk', h, rfl, er⟩⟩ | ⟨E, ⟨-, h⟩ | ⟨-, -, h⟩, -⟩
  · rw [← (nI_eq (by omega) (by omega)).mp e, e12] at h; exact absurd h (nI_ne (by omega))
  · rw [← (nI_eq (by omega) (by omega)).mp e, e12] at h
    obtain rfl := (nI_eq (by omega) (by omega)).mp h
    refine ⟨hJ.ps (by omega) (by omega) hb ⟨by omega, by omega⟩ hc e4, ?_, ?_⟩
    · obtain ⟨y, ch, hr, hR, -⟩ := hJ
      obtain ⟨-, -, -, -, -, -, h8, -⟩ := hR.2
      obtain ⟨-, v, hv, ev⟩ := h8 n (by omega) b (by omega)
      rw [er, pa_37 (by omega), nI_clamp (by omega), st_eq, ev, ep, nI_add]
      have : 999 * k ≤ 999 * 30 := by omega
      exact nI_nlt (by omega) (by omega)
    · rw [ri_pa hb e10 4 (by omega), if_pos hb]
  · rw [nI_toInt (by omega)] at h; omega
  · exact absurd ⟨by omega, by omega⟩ h
theorem bt_nat {x : St} {i : Nat} (n : Nat) : ∃ c, c ≤ n ∧ btF x i n = nI c := by
  induction n with
  | zero => exact ⟨0, Nat.le_refl _, rfl⟩
  | succ n ih =>
    obtain ⟨c, h1, h2⟩ := ih
    by_cases h : x 12 n 0 = nI i
    · exact ⟨c + 1, by omega, by rw [bt_t h, h2, nI_1]⟩
    · exact ⟨c, by omega, by rw [bt_f h, h2]⟩
abbrev T10 (x u : St) (nn : Nat) (p0 p1 r : Int32) : Prop := (∃ j, j < nn ∧ p0 = nI j ∧ (¬ p1 ≤ x 3 0 0 ∧ p1 ≤ x 33 j 0 ∧ x 34 j 0 = 0) ∧ u = st (st x 35 j 0 1) 33 j 0 p1 ∧ r = btF u j 4) ∨ ∃ E, ((E = "java/lang/IndexOutOfBoundsException" ∧ (p0.toInt < 0 ∨ (nn : Int) ≤ p0.toInt)) ∨ (∃ j, j < nn ∧ p0 = nI j ∧ ((E = "java/lang/IllegalArgumentException" ∧ (p1 ≤ x 3 0 0 ∨ ¬ p1 ≤ x 33 j 0)) ∨ (E = "java/lang/UnsupportedOperationException" ∧ (¬ p1 ≤ x 3 0 0 ∧ p1 ≤ x 33 j 0) ∧ ¬ x 34 j 0 = 0)))) ∧ r = cdE E ∧ u = x
theorem no_at {nn j : Nat} (hnn : nn ≤ 40) (hj : j < nn) : ¬ nI nn = nI j := fun h => by
  have := (nI_eq (by omega) (by omega)).mp h
  omega
theorem A10n {x u : St} {nn : Nat} {p1 r : Int32} (hnn : nn ≤ 40) (h : T10 x u nn (nI nn) p1 r) : r = -2001 ∧ u = x := by
  rcases h with ⟨j, hj, e, -⟩ | ⟨E, ⟨h, -⟩ | ⟨j, hj, e, -⟩, er, eu⟩
  · exact absurd e (no_at hnn hj)
  · exact ⟨by rw [er, h]; decide +kernel, eu⟩
  · exact absurd e (no_at hnn hj)
theorem A10s {x u : St} {D P : Nat → Int32} {nn k j : Nat} {p1 r : Int32} (hJ : J35 x D P nn k) (hj : j < nn) (h : T10 x u nn (nI j) p1 r) : (J35 u D P nn k ∧ u 35 j 0 = 1 ∧ ∃ c, c < 2 ^ 31 ∧ r = nI c) ∨ (r = -2002 ∧ u = x) ∨ (r = -2004 ∧ u = x) := by
  have hnn := hJ.gi.nn40
  rcases h with ⟨i, hi, e, ⟨h1, -⟩, rfl, er⟩ | ⟨E, ⟨-, h⟩ | ⟨i, hi, e, ⟨h, -⟩ | ⟨h, -⟩⟩, er, eu⟩
  · obtain rfl := (nI_eq (by omega) (by omega)).mp e
    obtain ⟨c, hc, ec⟩ := bt_nat (x := st (st x 35 j 0 1) 33 j 0 p1) (i := j) 4
    exact Or.inl ⟨hJ.tb h1, (st_nr (by omega)).trans st_eq, c, by omega, er.trans ec⟩
  · exact (bad_no hnn hj rfl h).elim
  · exact Or.inr (Or.inl ⟨by rw [er, h]; decide +kernel, eu⟩)
  · exact Or.inr (Or.inr ⟨by rw [er, h]; decide +kernel, eu⟩)
abbrev T11 (x u : St) (nn : Nat) (p0 p1 r : Int32) : Prop := (∃ j, j < nn ∧ p0 = nI j ∧ (p1 ≠ 0 ∧ p1 ≠ x 31 j 0) ∧ (x 34 j 0 = 0 ∧ ¬ x 33 j 0 ≤ x 3 0 0) ∧ nn < 40 ∧ u = mdF x j nn 4 p1 ∧ r = nI nn) ∨ ∃ E, ((E = "java/lang/IndexOutOfBoundsException" ∧ (p0.toInt < 0 ∨ (nn : Int) ≤ p0.toInt)) ∨ (∃ j, j < nn ∧ p0 = nI j ∧ ((E = "java/lang/IllegalArgumentException" ∧ ¬ (p1 ≠ 0 ∧ p1 ≠ x 31 j 0)) ∨ (E = "java/lang/UnsupportedOperationException" ∧ (p1 ≠ 0 ∧ p1 ≠ x 31 j 0) ∧ ¬ (x 34 j 0 = 0 ∧ ¬ x 33 j 0 ≤ x 3 0 0)) ∨ (E = "java/lang/IllegalStateException" ∧ (p1 ≠ 0 ∧ p1 ≠ x 31 j 0) ∧ (x 34 j 0 = 0 ∧ ¬ x 33 j 0 ≤ x 3 0 0) ∧ nn = 40)))) ∧ r = cdE E ∧ u = x
theorem A11n {x u : St} {nn : Nat} {p1 r : Int32} (hnn : nn ≤ 40) (h : T11 x u nn (nI nn) p1 r) : r = -2001 ∧ u = x := by
  rcases h with ⟨j, hj, e, -⟩ | ⟨E, ⟨h, -⟩ | ⟨j, hj, e, -⟩, er, eu⟩
  · exact absurd e (no_at hnn hj)
  · exact ⟨by rw [er, h]; decide +kernel, eu⟩
  · exact absurd e (no_at hnn hj)
theorem A11s {x u : St} {D P : Nat → Int32} {nn k j : Nat} {p1 r : Int32} (hJ : J35 x D P nn k) (hk : k < 30) (hj : j < nn) (h : T11 x u nn (nI j) p1 r) : (r = nI nn ∧ J35 u D (upd P nn p1) (nn + 1) (k + 1)) ∨ (r = -2002 ∧ u = x) ∨ (r = -2004 ∧ u = x) := by
  have hnn := hJ.gi.nn40
  have hnk := hJ.nk
  rcases h with ⟨i, hi, e, -, ⟨-, h1⟩, -, rfl, er⟩ | ⟨E, ⟨-, h⟩ | ⟨i, hi, e, ⟨h, -⟩ | ⟨h, -⟩ | ⟨-, -, -, h⟩⟩, er, eu⟩
  · obtain rfl := (nI_eq (by omega) (by omega)).mp e
    exact Or.inl ⟨er, hJ.md (by omega) hj h1⟩
  · exact (bad_no hnn hj rfl h).elim
  · exact Or.inr (Or.inl ⟨by rw [er, h]; decide +kernel, eu⟩)
  · exact Or.inr (Or.inr ⟨by rw [er, h]; decide +kernel, eu⟩)
  · omega
theorem A21 {x u : St} {D P : Nat → Int32} {nn k hr N : Nat} {p r : Int32} (hJ : J35 x D P nn k) (hk : k < 30) (e3 : x 3 0 0 = nI hr) (hhr : hr ≤ 6 * k) (hN : 1 ≤ N ∧ N ≤ 6) (ep : p = nI N) (h : ((1 ≤ p.toInt ∧ p.toInt ≤ 48) ∧ x 3 0 0 + p ≤ 2000 ∧ ∃ M, M ≤ 48 ∧ p = nI M ∧ u = goF x 4 nn M ∧ r = u 3 0 0) ∨ ∃ E, ((E = "java/lang/IllegalArgumentException" ∧ ¬ (1 ≤ p.toInt ∧ p.toInt ≤ 48)) ∨ (E = "java/lang/IllegalStateException" ∧ (1 ≤ p.toInt ∧ p.toInt ≤ 48) ∧ ¬ x 3 0 0 + p ≤ 2000)) ∧ r = cdE E ∧ u = x) : r = nI hr + p ∧ J35 u D P nn (k + 1) := by
  have g := ge_0 ep (by omega)
  rcases h with ⟨-, -, M, hM, eM, rfl, er⟩ | ⟨E, ⟨-, h⟩ | ⟨-, -, h⟩, -⟩
  · obtain rfl := (nI_eq (by omega) (by omega)).mp (ep.symm.trans eM)
    obtain ⟨h1, hr', hb', e3', h2⟩ := hJ.go (N := N) (by omega) hN.2
    obtain rfl := (nI_eq (by omega) (by omega)).mp (e3.symm.trans e3')
    exact ⟨by rw [er, h2, ep, nI_add], h1⟩
  · exact absurd ⟨by omega, by omega⟩ h
  · refine absurd ?_ h
    rw [e3, ep, nI_add]
    exact nI_le (b := 2000) (by omega) (by omega)
end L35
