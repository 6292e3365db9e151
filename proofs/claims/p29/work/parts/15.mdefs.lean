/-! WORDS of what the reference's methods answer, on its registers; what every state keeps (MI) -/
section MD1
noncomputable def cnP (P : Nat → Prop) : Nat → Int32
  | 0 => 0
  | k + 1 => @ite _ (P k) (Classical.propDecidable _) (cnP P k + 1) (cnP P k)
theorem cnP_t {P : Nat → Prop} {k : Nat} (h : P k) : cnP P k + 1 = cnP P (k + 1) := (if_pos h).symm
theorem cnP_f {P : Nat → Prop} {k : Nat} (h : ¬ P k) : cnP P k + 0 = cnP P (k + 1) := (Int32.add_zero _).trans (if_neg h).symm
noncomputable def bz (P : Prop) : Int32 := @ite _ P (Classical.propDecidable _) 1 0
theorem bz_t {P : Prop} (h : P) : bz P = 1 := if_pos h
theorem bz_f {P : Prop} (h : ¬ P) : bz P = 0 := if_neg h
theorem bz_01 (P : Prop) : bz P = 0 ∨ bz P = 1 := (Classical.em P).elim (fun h => Or.inr (bz_t h)) (fun h => Or.inl (bz_f h))
theorem bzr (P : Prop) : (bz P = 1 ∧ P) ∨ (bz P = 0 ∧ ¬ P) := (Classical.em P).elim (fun h => Or.inl ⟨bz_t h, h⟩) (fun h => Or.inr ⟨bz_f h, h⟩)
theorem bz_n0 {P : Prop} (h : ¬ bz P = 0) : P := Classical.byContradiction (fun h9 => h (bz_f h9))
theorem bz_0 {P : Prop} (h : bz P = 0) : ¬ P := fun h9 => by rw [bz_t h9] at h; exact absurd h (by decide)
theorem m4 (a : Nat) : (4 : Int32) * nI a = nI (4 * a) := (Int32.ofNat_mul 4 a).symm
theorem m6 (a : Nat) : (6 : Int32) * nI a = nI (6 * a) := (Int32.ofNat_mul 6 a).symm
theorem m8 (a : Nat) : (8 : Int32) * nI a = nI (8 * a) := (Int32.ofNat_mul 8 a).symm
theorem m32 (a : Nat) : (32 : Int32) * nI a = nI (32 * a) := (Int32.ofNat_mul 32 a).symm
theorem m2001 (a : Nat) : (2001 : Int32) * nI a = nI (2001 * a) := (Int32.ofNat_mul 2001 a).symm
theorem nI_rng {p : Int32} {n : Nat} (h0 : 0 ≤ p.toInt) (h1 : p.toInt ≤ (n : Int)) : ∃ c, c ≤ n ∧ p = nI c := by
  obtain ⟨j, hj, rfl⟩ := nI_of (x := p) (by rw [Int32.lt_iff_toInt_lt, i_0]; omega)
  rw [nI_toInt hj] at h1
  exact ⟨j, by omega, rfl⟩
def MI (y : St) (nb nn : Nat) : Prop := (nb ≤ 6 ∧ y 3 0 0 = nI nb) ∧ (nn ≤ 40 ∧ y 4 0 0 = nI nn) ∧ (∀ b, b < 6 → y 12 0 b = -1 ∨ ∃ k, k < 40 ∧ y 12 0 b = nI k) ∧ (∀ b, b < 6 → ∃ d, d < 4 ∧ y 10 0 b = nI d) ∧ ∀ k, k < nn → ∃ r, r ≤ 10 ∧ y 17 0 k = nI r
theorem MI.nb6 {y : St} {nb nn : Nat} (h : MI y nb nn) : nb ≤ 6 := h.1.1
theorem MI.y3 {y : St} {nb nn : Nat} (h : MI y nb nn) : y 3 0 0 = nI nb := h.1.2
theorem MI.nn40 {y : St} {nb nn : Nat} (h : MI y nb nn) : nn ≤ 40 := h.2.1.1
theorem MI.y4 {y : St} {nb nn : Nat} (h : MI y nb nn) : y 4 0 0 = nI nn := h.2.1.2
theorem MI.sh {y : St} {nb nn : Nat} (h : MI y nb nn) : ∀ b, b < 6 → y 12 0 b = -1 ∨ ∃ k, k < 40 ∧ y 12 0 b = nI k := h.2.2.1
theorem MI.ds {y : St} {nb nn : Nat} (h : MI y nb nn) : ∀ b, b < 6 → ∃ d, d < 4 ∧ y 10 0 b = nI d := h.2.2.2.1
theorem MI.rk {y : St} {nb nn : Nat} (h : MI y nb nn) : ∀ k, k < nn → ∃ r, r ≤ 10 ∧ y 17 0 k = nI r := h.2.2.2.2
theorem MI.of {x y : St} {nb nn : Nat} (h : MI x nb nn) (e : ∀ r, r = 3 ∨ r = 4 ∨ r = 12 ∨ r = 10 ∨ r = 17 → ∀ i j, y r i j = x r i j) : MI y nb nn := by
  obtain ⟨⟨a, b⟩, ⟨c, d⟩, e1, f, g⟩ := h
  refine ⟨⟨a, (e 3 (by omega) _ _).trans b⟩, ⟨c, (e 4 (by omega) _ _).trans d⟩, fun q hq => ?_, fun q hq => ?_, fun q hq => ?_⟩
  · rw [e 12 (by omega)]; exact e1 q hq
  · rw [e 10 (by omega)]; exact f q hq
  · rw [e 17 (by omega)]; exact g q hq
theorem MI.k9 {x : St} {nb nn r i j : Nat} {v : Int32} (h : MI x nb nn) (hr : r ≠ 3 ∧ r ≠ 4 ∧ r ≠ 12 ∧ r ≠ 10 ∧ r ≠ 17) : MI (st x r i j v) nb nn :=
  h.of (fun q hq _ _ => st_nr (by omega))
theorem MI.tz {x : St} {nb nn : Nat} (h : MI x nb nn) : MI (st x 0 0 0 0) nb nn := h.k9 (by omega)
theorem st_j {x : St} {r i j : Nat} {v : Int32} {r' i' j' : Nat} (h : j ≠ j') : st x r i j v r' i' j' = x r' i' j' := by
  simp only [st]
  exact if_neg (fun h9 => h h9.2.2.symm)
theorem MI.sh1 {x : St} {nb nn b : Nat} {v : Int32} (h : MI x nb nn) (hv : v = -1 ∨ ∃ k, k < 40 ∧ v = nI k) : MI (st x 12 0 b v) nb nn := by
  obtain ⟨⟨a, b9⟩, ⟨c, d⟩, e1, f, g⟩ := h
  refine ⟨⟨a, (st_nr (by omega)).trans b9⟩, ⟨c, (st_nr (by omega)).trans d⟩, fun q hq => ?_, fun q hq => ?_, fun q hq => ?_⟩
  · by_cases hqi : q = b
    · subst hqi; rw [st_eq]; exact hv
    · rw [st_j (by omega)]; exact e1 q hq
  · rw [st_nr (by omega)]; exact f q hq
  · rw [st_nr (by omega)]; exact g q hq
theorem mw_putch {g : gE} {L : Nat → Nat} {y : St} {ch v : Int64} {r0 : Nat → va_E} : va_up (mw g L y ch r0) 106 (.inr (kM, (mF L y ch).set 5 (.long v))) = mw g L y v r0 := by
  funext q
  by_cases hq : q = 106
  · subst hq
    rw [va_up_self]
    rfl
  · rw [va_up_ne _ _ hq]
    unfold mw
    by_cases h9 : 106 ≤ q ∧ q < 123
    · rw [if_pos h9, if_pos h9]
      unfold mk
      rw [if_neg hq, if_neg hq]
    · rw [if_neg h9, if_neg h9]
theorem nB_e {v : Int32} {n : Nat} (hn : n ≤ 40) (h : v = nI n) : (v - 1).toInt = (n : Int) - 1 := by
  subst h
  cases n with
  | zero => decide
  | succ n => rw [nI_pred, nI_toInt (by omega)]; omega
theorem nB_ok {p v : Int32} {n : Nat} (e : v.toInt = (n : Int) - 1) (h : (0 : Int32).toInt ≤ p.toInt ∧ p.toInt ≤ v.toInt) : ∃ j, j < n ∧ p = nI j := by
  rw [i_0, e] at h
  obtain ⟨j, hj, rfl⟩ := nI_of (x := p) (by rw [Int32.lt_iff_toInt_lt, i_0]; omega)
  rw [nI_toInt hj] at h
  exact ⟨j, by omega, rfl⟩
theorem nB_no {p v : Int32} {n : Nat} (e : v.toInt = (n : Int) - 1) (h : ¬ ((0 : Int32).toInt ≤ p.toInt ∧ p.toInt ≤ v.toInt)) : p.toInt < 0 ∨ (n : Int) ≤ p.toInt := by
  rw [i_0, e] at h
  omega
-- a picture's cell
def hasN (p : Int32) (b c : Nat) : Prop := bitF p (nI (8 * (c / 8) + (c % 8 + 8 - b) % 8)) = 1
theorem has_ix : ∀ b, b < 8 → ∀ c, c < 32 → nI c / 8 * 8 + (nI c - nI c / 8 * 8 - nI b + 8 - (nI c - nI c / 8 * 8 - nI b + 8) / 8 * 8) = nI (8 * (c / 8) + (c % 8 + 8 - b) % 8) := by decide +kernel
noncomputable abbrev bkF (p : Int32) (k : Nat) : Int32 := cnP (fun c => hasN p 0 c) k
-- readers, queues
def riM (y : St) (nt : Nat) (d : Int32) : Nat → Int32
  | 0 => 0
  | k + 1 => if y 10 0 k = d then riM y nt d k + y 24 0 (6 * nt + k) else riM y nt d k
theorem riM_t {y : St} {nt k : Nat} {d : Int32} (h : y 10 0 k = d) : riM y nt d k + y 24 0 (6 * nt + k) = riM y nt d (k + 1) := (if_pos h).symm
theorem riM_f {y : St} {nt k : Nat} {d : Int32} (h : ¬ y 10 0 k = d) : riM y nt d k + 0 = riM y nt d (k + 1) := (Int32.add_zero _).trans (if_neg h).symm
abbrev iiP (y : St) (k d : Nat) : Prop := ¬ y 23 0 (4 * k + d) = 0 ∧ y 1 0 0 < y 20 0 k
noncomputable abbrev mqF (y : St) (d : Nat) (n : Nat) : Int32 := cnP (fun k => iiP y k d) n
def iqI (y : St) (d : Nat) (its : Int32) (rest : Int32 → Int32) : Nat → Nat → Int32 → Int32
  | 0, _, l => rest l
  | f + 1, k, l => if y 17 0 k = its ∧ iiP y k d then (if l = 0 then nI k else iqI y d its rest f (k + 1) (l + (-1))) else iqI y d its rest f (k + 1) l
theorem iqI_r {y : St} {d f k : Nat} {its l : Int32} {rest : Int32 → Int32} (h : y 17 0 k = its ∧ iiP y k d) (h2 : l = 0) : iqI y d its rest (f + 1) k l = nI k := (if_pos h).trans (if_pos h2)
theorem iqI_s {y : St} {d f k : Nat} {its l : Int32} {rest : Int32 → Int32} (h : y 17 0 k = its ∧ iiP y k d) (h2 : ¬ l = 0) : iqI y d its rest (f + 1) k l = iqI y d its rest f (k + 1) (l + (-1)) := (if_pos h).trans (if_neg h2)
theorem iqI_n {y : St} {d f k : Nat} {its l : Int32} {rest : Int32 → Int32} (h : ¬ (y 17 0 k = its ∧ iiP y k d)) : iqI y d its rest (f + 1) k l = iqI y d its rest f (k + 1) l := if_neg h
def iqO (y : St) (d nn : Nat) : Nat → Int32 → Int32
  | 0, _ => -1
  | m + 1, l => iqI y d (nI m) (iqO y d nn m) nn 0 l
abbrev duP (y : St) (k : Nat) : Prop := y 19 0 k ≤ y 1 0 0 ∧ y 1 0 0 < y 20 0 k
-- rumours
abbrev cmQ (y : St) (k : Nat) (p : Int32) (j m : Nat) : Prop := ∀ c, c < m → hasN p 0 c → hasN (y 18 0 k) j c
abbrev cmP (y : St) (k : Nat) (p : Int32) (m : Nat) : Prop := ∃ j, j < m ∧ cmQ y k p j 32
abbrev csP (y : St) (k : Nat) (p d : Int32) (nb : Nat) : Prop := cmP y k p 8 ∧ ¬ riM y k d nb ≤ 0
theorem cmQ_y {y : St} {k j m : Nat} {p : Int32} (h : cmQ y k p j m) (h2 : hasN p 0 m → hasN (y 18 0 k) j m) : cmQ y k p j (m + 1) := by
  intro c hc
  rcases (show c < m ∨ c = m by omega) with h9 | rfl
  · exact h c h9
  · exact h2
theorem cmQ_n {y : St} {k j m : Nat} {p : Int32} (h : ¬ cmQ y k p j m) : ¬ cmQ y k p j (m + 1) := fun h9 => h (fun c hc => h9 c (by omega))
theorem cmQ_m {y : St} {k j m : Nat} {p : Int32} (h2 : hasN p 0 m) (h3 : ¬ hasN (y 18 0 k) j m) : ¬ cmQ y k p j (m + 1) := fun h9 => h3 (h9 m (by omega) h2)
theorem cmP_y {y : St} {k m : Nat} {p : Int32} (h : cmP y k p m ∨ cmQ y k p m 32) : cmP y k p (m + 1) := by
  rcases h with ⟨j, hj, h⟩ | h
  · exact ⟨j, by omega, h⟩
  · exact ⟨m, by omega, h⟩
theorem cmP_n {y : St} {k m : Nat} {p : Int32} (h : ¬ cmP y k p m) (h2 : ¬ cmQ y k p m 32) : ¬ cmP y k p (m + 1) := by
  rintro ⟨j, hj, h9⟩
  rcases (show j < m ∨ j = m by omega) with h8 | rfl
  · exact h ⟨j, h8, h9⟩
  · exact h2 h9
noncomputable abbrev msF (y : St) (p d : Int32) (nb : Nat) (n : Nat) : Int32 := cnP (fun k => csP y k p d nb) n
abbrev saQ (y : St) (p d : Int32) (nb k j : Nat) : Prop := csP y j p d nb ∧ (0 < riM y j d nb - riM y k d nb ∨ (riM y j d nb - riM y k d nb = 0 ∧ ¬ nI k ≤ nI j))
noncomputable abbrev saM (y : St) (p d : Int32) (nb k n : Nat) : Int32 := cnP (fun j => saQ y p d nb k j) n
noncomputable def sfM (y : St) (p d q : Int32) (nb nn : Nat) : Nat → Int32
  | 0 => -1
  | k + 1 => @ite _ (csP y k p d nb ∧ saM y p d nb k nn = q) (Classical.propDecidable _) (nI k) (sfM y p d q nb nn k)
theorem sfM_t {y : St} {p d q : Int32} {nb nn k : Nat} (h : csP y k p d nb ∧ saM y p d nb k nn = q) : nI k = sfM y p d q nb nn (k + 1) := (if_pos h).symm
theorem sfM_f {y : St} {p d q : Int32} {nb nn k : Nat} (h : ¬ (csP y k p d nb ∧ saM y p d nb k nn = q)) : sfM y p d q nb nn k = sfM y p d q nb nn (k + 1) := (if_neg h).symm
-- a board's cells
abbrev MS : Type := St × Int64
def cgM (s : MS) (a : Nat) : MS := (st (st s.1 15 0 a (if s.1 15 0 a = 0 then 1 else 0)) 16 0 a (st s.1 15 0 a (if s.1 15 0 a = 0 then 1 else 0) 16 0 a + 1), s.2 + 1)
def cg1 (s : MS) (a b : Nat) : MS := (st (cgM s a).1 11 0 b ((cgM s a).1 11 0 b - 1), (cgM s a).2)
theorem lpX {α : Type} (f : α → Nat → α) : ∃ g : α → Nat → α, (∀ s, g s 0 = s) ∧ ∀ s k, g s (k + 1) = f (g s k) k := ⟨fun s k => Nat.rec s (fun k r => f r k) k, fun _ => rfl, fun _ _ => rfl⟩
noncomputable def lpG {α : Type} (f : α → Nat → α) : α → Nat → α := Classical.choose (lpX f)
theorem lpG_0 {α : Type} {f : α → Nat → α} {s : α} : lpG f s 0 = s := (Classical.choose_spec (lpX f)).1 s
theorem lpG_s {α : Type} {f : α → Nat → α} {s : α} {k : Nat} : lpG f s (k + 1) = f (lpG f s k) k := (Classical.choose_spec (lpX f)).2 s k
def wpS (b : Nat) (t : MS) (k : Nat) : MS := if t.1 15 0 (32 * b + k) = 0 then t else cg1 t (32 * b + k) b
noncomputable def wpL (s : MS) (b : Nat) (k : Nat) : MS := lpG (wpS b) s k
theorem wpL_0 {s : MS} {b : Nat} : wpL s b 0 = s := lpG_0
theorem wpL_s {s : MS} {b k : Nat} : wpL s b (k + 1) = wpS b (wpL s b k) k := lpG_s
theorem wpL_t {s : MS} {b k : Nat} (h : (wpL s b k).1 15 0 (32 * b + k) = 0) : wpL s b k = wpL s b (k + 1) := (wpL_s.trans (if_pos h)).symm
theorem wpL_f {s : MS} {b k : Nat} (h : ¬ (wpL s b k).1 15 0 (32 * b + k) = 0) : cg1 (wpL s b k) (32 * b + k) b = wpL s b (k + 1) := (wpL_s.trans (if_neg h)).symm
noncomputable def wpM (s : MS) (b : Nat) : MS := (st (st (wpL s b 32).1 12 0 b (-1)) 13 0 b 0, (wpL s b 32).2)
abbrev dfP (y : St) (b : Nat) (p : Int32) (j c : Nat) : Prop := ¬ y 15 0 (32 * b + c) = bz (hasN p j c)
noncomputable abbrev coF (y : St) (b : Nat) (p : Int32) (j n : Nat) : Int32 := cnP (fun c => dfP y b p j c) n
noncomputable def wbV (y : St) (b : Nat) (p : Int32) (j c : Nat) : Int32 := y 16 0 (32 * b + c) + bz (dfP y b p j c)
def moI (a b : Int32) : Int32 := if a ≤ b then b else a
def leI (a b : Int32) : Int32 := if b ≤ a then b else a
noncomputable def wbF (y : St) (b : Nat) (p : Int32) (j : Nat) : Nat → Int32
  | 0 => 0
  | k + 1 => moI (wbF y b p j k) (wbV y b p j k)
abbrev cnQ (y : St) (b : Nat) (p : Int32) (j n : Nat) : Prop := coF y b p j 32 + bkF p 32 ≤ y 11 0 b ∧ ∀ c, c < n → y 16 0 (32 * b + c) + bz (dfP y b p j c) + bz (hasN p j c) ≤ 60
theorem cnQ_y {y : St} {b j n : Nat} {p : Int32} (h : cnQ y b p j n) (h2 : y 16 0 (32 * b + n) + bz (dfP y b p j n) + bz (hasN p j n) ≤ 60) : cnQ y b p j (n + 1) := by
  refine ⟨h.1, fun c hc => ?_⟩
  rcases (show c < n ∨ c = n by omega) with h9 | rfl
  · exact h.2 c h9
  · exact h2
theorem cnQ_n {y : St} {b j n : Nat} {p : Int32} (h : ¬ cnQ y b p j n) : ¬ cnQ y b p j (n + 1) := fun h9 => h ⟨h9.1, fun c hc => h9.2 c (by omega)⟩
theorem cnQ_m {y : St} {b j n : Nat} {p : Int32} (h : ¬ y 16 0 (32 * b + n) + bz (dfP y b p j n) + bz (hasN p j n) ≤ 60) : ¬ cnQ y b p j (n + 1) := fun h9 => h (h9.2 n (by omega))
-- the shift
abbrev sbP (y : St) (b : Nat) (p v : Int32) (j : Nat) : Prop := v = -1 ∨ (wbF y b p j 32 - wbF y b p v.toNatClampNeg 32 < 0 ∨ (wbF y b p j 32 - wbF y b p v.toNatClampNeg 32 = 0 ∧ ¬ coF y b p v.toNatClampNeg 32 ≤ coF y b p j 32))
noncomputable def sfF (y : St) (b : Nat) (p : Int32) : Nat → Int32
  | 0 => -1
  | k + 1 => @ite _ (cnQ y b p k 32 ∧ sbP y b p (sfF y b p k) k) (Classical.propDecidable _) (nI k) (sfF y b p k)
theorem sfF_t {y : St} {b k : Nat} {p : Int32} (h : cnQ y b p k 32 ∧ sbP y b p (sfF y b p k) k) : nI k = sfF y b p (k + 1) := (if_pos h).symm
theorem sfF_f {y : St} {b k : Nat} {p : Int32} (h : ¬ (cnQ y b p k 32 ∧ sbP y b p (sfF y b p k) k)) : sfF y b p k = sfF y b p (k + 1) := (if_neg h).symm
theorem sfF_r {y : St} {b : Nat} {p : Int32} (k : Nat) : sfF y b p k = -1 ∨ ∃ j, j < k ∧ sfF y b p k = nI j := by
  induction k with
  | zero => exact Or.inl rfl
  | succ k ih =>
    by_cases h : cnQ y b p k 32 ∧ sbP y b p (sfF y b p k) k
    · exact Or.inr ⟨k, by omega, (sfF_t h).symm⟩
    · rw [← sfF_f h]
      exact ih.imp id (fun ⟨j, h1, h2⟩ => ⟨j, by omega, h2⟩)
noncomputable def shS (b : Nat) (p : Int32) (j : Nat) (t : MS) (k : Nat) : MS := @ite _ (dfP t.1 b p j k) (Classical.propDecidable _) (cg1 t (32 * b + k) b) t
noncomputable def shL (s : MS) (b : Nat) (p : Int32) (j : Nat) (k : Nat) : MS := lpG (shS b p j) s k
theorem shL_0 {s : MS} {b j : Nat} {p : Int32} : shL s b p j 0 = s := lpG_0
theorem shL_s {s : MS} {b j k : Nat} {p : Int32} : shL s b p j (k + 1) = shS b p j (shL s b p j k) k := lpG_s
theorem shL_t {s : MS} {b j k : Nat} {p : Int32} (h : dfP (shL s b p j k).1 b p j k) : cg1 (shL s b p j k) (32 * b + k) b = shL s b p j (k + 1) := (shL_s.trans (if_pos h)).symm
theorem shL_f {s : MS} {b j k : Nat} {p : Int32} (h : ¬ dfP (shL s b p j k).1 b p j k) : shL s b p j k = shL s b p j (k + 1) := (shL_s.trans (if_neg h)).symm
noncomputable def shM (s : MS) (b k j : Nat) : MS := (st (st (shL s b (s.1 18 0 k) j 32).1 12 0 b (nI k)) 13 0 b (nI j), (shL s b (s.1 18 0 k) j 32).2)
theorem cg1_r {s : MS} {a b r i j : Nat} (h : r ≠ 15 ∧ r ≠ 16 ∧ r ≠ 11) : (cg1 s a b).1 r i j = s.1 r i j := by
  unfold cg1 cgM
  dsimp only
  repeat (first | rfl | rw [st_nr (by omega)])
theorem wpL_r {s : MS} {b k r i j : Nat} (h : r ≠ 15 ∧ r ≠ 16 ∧ r ≠ 11) : (wpL s b k).1 r i j = s.1 r i j := by
  induction k with
  | zero => rw [wpL_0]
  | succ k ih =>
    by_cases h9 : (wpL s b k).1 15 0 (32 * b + k) = 0
    · rw [← wpL_t h9]; exact ih
    · rw [← wpL_f h9]; exact (cg1_r h).trans ih
theorem shL_r {s : MS} {b k q r i j : Nat} {p : Int32} (h : r ≠ 15 ∧ r ≠ 16 ∧ r ≠ 11) : (shL s b p q k).1 r i j = s.1 r i j := by
  induction k with
  | zero => rw [shL_0]
  | succ k ih =>
    by_cases h9 : dfP (shL s b p q k).1 b p q k
    · rw [← shL_t h9]; exact (cg1_r h).trans ih
    · rw [← shL_f h9]; exact ih
theorem MI.wp {s : MS} {nb nn b : Nat} (h : MI s.1 nb nn) : MI (wpM s b).1 nb nn := ((h.of (y := (wpL s b 32).1) (fun r hr _ _ => wpL_r (by omega))).sh1 (Or.inl rfl)).k9 (by omega)
theorem MI.shw {s : MS} {nb nn b k j : Nat} (h : MI s.1 nb nn) (hk : k < 40) : MI (shM s b k j).1 nb nn := ((h.of (y := (shL s b (s.1 18 0 k) j 32).1) (fun r hr _ _ => shL_r (by omega))).sh1 (Or.inr ⟨k, hk, rfl⟩)).k9 (by omega)
-- an hour
abbrev iqN (y : St) (d nn k : Nat) : Nat := (iqO y d nn 11 (nI k)).toNatClampNeg
noncomputable def chL (b d nn : Nat) : Nat → Nat → MS → MS
  | 0, _, s => wpM s b
  | f + 1, k, s => if duP s.1 (iqN s.1 d nn k) then (if s.1 12 0 b = nI (iqN s.1 d nn k) then s else if sfF s.1 b (s.1 18 0 (iqN s.1 d nn k)) 8 = -1 then chL b d nn f (k + 1) (st s.1 14 0 b 1, s.2) else shM s b (iqN s.1 d nn k) (sfF s.1 b (s.1 18 0 (iqN s.1 d nn k)) 8).toNatClampNeg) else chL b d nn f (k + 1) s
theorem chL_n {b d nn f k : Nat} {s : MS} (h : ¬ duP s.1 (iqN s.1 d nn k)) : chL b d nn (f + 1) k s = chL b d nn f (k + 1) s := if_neg h
theorem chL_s {b d nn f k : Nat} {s : MS} (h : duP s.1 (iqN s.1 d nn k)) (h2 : s.1 12 0 b = nI (iqN s.1 d nn k)) : chL b d nn (f + 1) k s = s := (if_pos h).trans (if_pos h2)
theorem chL_a {b d nn f k : Nat} {s : MS} (h : duP s.1 (iqN s.1 d nn k)) (h2 : ¬ s.1 12 0 b = nI (iqN s.1 d nn k)) (h3 : sfF s.1 b (s.1 18 0 (iqN s.1 d nn k)) 8 = -1) : chL b d nn (f + 1) k s = chL b d nn f (k + 1) (st s.1 14 0 b 1, s.2) := (if_pos h).trans ((if_neg h2).trans (if_pos h3))
theorem chL_t {b d nn f k : Nat} {s : MS} (h : duP s.1 (iqN s.1 d nn k)) (h2 : ¬ s.1 12 0 b = nI (iqN s.1 d nn k)) (h3 : ¬ sfF s.1 b (s.1 18 0 (iqN s.1 d nn k)) 8 = -1) : chL b d nn (f + 1) k s = shM s b (iqN s.1 d nn k) (sfF s.1 b (s.1 18 0 (iqN s.1 d nn k)) 8).toNatClampNeg := (if_pos h).trans ((if_neg h2).trans (if_neg h3))
noncomputable def chM (s : MS) (b nn : Nat) : MS := chL b (s.1 10 0 b).toNatClampNeg nn (mqF (st s.1 14 0 b 0) (s.1 10 0 b).toNatClampNeg nn).toNatClampNeg 0 (st s.1 14 0 b 0, s.2)
def cbM (y : St) (b : Nat) : St := st y 11 0 b (leI 200 (y 11 0 b + y 2 0 0))
noncomputable def gwM (s : MS) (b : Nat) : MS := if s.1 12 0 b = -1 then s else if s.1 20 0 (s.1 12 0 b).toNatClampNeg ≤ s.1 1 0 0 then wpM s b else s
noncomputable def gbM (s : MS) (b nn : Nat) : MS := chM (gwM (cbM s.1 b, s.2) b) b nn
noncomputable def grM (s : MS) (nn : Nat) : Nat → MS
  | 0 => s
  | k + 1 => gbM (grM s nn k) k nn
def gsM (s : MS) : MS := (st s.1 1 0 0 (s.1 1 0 0 + 1), s.2)
noncomputable def goM (s : MS) (nb nn : Nat) : Nat → MS
  | 0 => s
  | k + 1 => grM (gsM (goM s nb nn k)) nn nb
-- figures
def woM (y : St) (b : Nat) : Nat → Int32
  | 0 => 0
  | k + 1 => moI (woM y b k) (y 16 0 (32 * b + k))
noncomputable def csM (y : St) : Nat → Int64
  | 0 => 0
  | k + 1 => 31 * csM y k + (bz (¬ y 15 0 k = 0)).toInt64 + 2 * (y 16 0 k).toInt64
noncomputable abbrev ssM (y : St) (n : Nat) : Int32 := cnP (fun k => ¬ y 12 0 k = -1) n
def swM (y : St) : Nat → Int32
  | 0 => 0
  | k + 1 => swM y k + y 16 0 k
def adM (y : St) (nn : Nat) (p0 p1 p2 p3 : Int32) : St := st (st (st (st (st y 17 0 nn p0) 18 0 nn p1) 19 0 nn p2) 20 0 nn p3) 4 0 0 (st (st (st (st y 17 0 nn p0) 18 0 nn p1) 19 0 nn p2) 20 0 nn p3 4 0 0 + 1)
noncomputable def mdL (y : St) (m k nb : Nat) : Nat → St
  | 0 => y
  | d + 1 => st (mdL y m k nb d) 23 0 (4 * m + d) (bz (¬ mdL y m k nb d 23 0 (4 * k + d) = 0 ∧ ¬ riM (mdL y m k nb d) k (nI d) nb ≤ 0))
def abM (y : St) (nb : Nat) (p q : Int32) : St := st (st (st (st y 10 0 nb p) 11 0 nb q) 12 0 nb (-1)) 3 0 0 (st (st (st y 10 0 nb p) 11 0 nb q) 12 0 nb (-1) 3 0 0 + 1)
def qsM (y : St) (k d : Nat) : St := st y 23 0 (4 * k + d) 1
def tbM (y : St) (k : Nat) (p : Int32) : St := st (st y 20 0 k p) 21 0 k 1
noncomputable def mdM (y : St) (k nn nb : Nat) (p : Int32) : St := st (st (mdL (adM y nn (leI 10 (y 17 0 k + 1)) p (moI (y 1 0 0) (y 19 0 k)) (y 20 0 k)) nn k nb 4) 22 0 k 1) 20 0 k (st (mdL (adM y nn (leI 10 (y 17 0 k + 1)) p (moI (y 1 0 0) (y 19 0 k)) (y 20 0 k)) nn k nb 4) 22 0 k 1 1 0 0 + 1)
def psM (y : St) (k j hr : Nat) (p : Int32) : St := st (st y 24 0 (6 * k + j) (y 24 0 (6 * k + j) + p)) 25 0 (2001 * k + hr) (st y 24 0 (6 * k + j) (y 24 0 (6 * k + j) + p) 25 0 (2001 * k + hr) + p)
theorem ad_r {y : St} {nn : Nat} {p0 p1 p2 p3 : Int32} {r i j : Nat} (h : r ≠ 17 ∧ r ≠ 18 ∧ r ≠ 19 ∧ r ≠ 20 ∧ r ≠ 4) : adM y nn p0 p1 p2 p3 r i j = y r i j := by
  unfold adM
  repeat (first | rfl | rw [st_nr (by omega)])
theorem mdL_r {y : St} {m k nb d r i j : Nat} (h : r ≠ 23) : mdL y m k nb d r i j = y r i j := by
  induction d with
  | zero => rfl
  | succ d ih => exact (st_nr (by omega)).trans ih
theorem dsOK {p : Int32} {d : Nat} (h : d < 4) (e : p = nI d) : 0 ≤ p.toInt ∧ p.toInt ≤ 3 := by
  subst e
  rw [nI_toInt (by omega)]
  omega
-- what the loops keep
theorem cnP_nat (P : Nat → Prop) (n : Nat) : ∃ c, c ≤ n ∧ cnP P n = nI c := by
  induction n with
  | zero => exact ⟨0, Nat.le_refl _, rfl⟩
  | succ n ih =>
    obtain ⟨c, h1, h2⟩ := ih
    by_cases h : P n
    · exact ⟨c + 1, by omega, by rw [← cnP_t h, h2, nI_1]⟩
    · exact ⟨c, by omega, by rw [← cnP_f h, h2, Int32.add_zero]⟩
theorem cnP_congr {P Q : Nat → Prop} {n : Nat} (h : ∀ k, k < n → (P k ↔ Q k)) : cnP P n = cnP Q n := by
  induction n with
  | zero => rfl
  | succ n ih =>
    have e := ih (fun k hk => h k (by omega))
    by_cases h9 : P n
    · rw [← cnP_t h9, ← cnP_t ((h n (by omega)).mp h9), e]
    · rw [← cnP_f h9, ← cnP_f (fun h8 => h9 ((h n (by omega)).mpr h8)), e]
theorem iqI_x {y : St} {d nn : Nat} {its : Int32} {rest : Int32 → Int32} (hr : ∀ l, rest l = -1 ∨ ∃ j, j < nn ∧ rest l = nI j) (f : Nat) : ∀ (k : Nat) (l : Int32), k + f ≤ nn → (iqI y d its rest f k l = -1 ∨ ∃ j, j < nn ∧ iqI y d its rest f k l = nI j) := by
  induction f with
  | zero => intro k l _; exact hr l
  | succ f ih =>
    intro k l hk
    unfold iqI
    split
    · split
      · exact Or.inr ⟨k, by omega, rfl⟩
      · exact ih _ _ (by omega)
    · exact ih _ _ (by omega)
theorem iqO_x {y : St} {d nn : Nat} (m : Nat) : ∀ l, iqO y d nn m l = -1 ∨ ∃ j, j < nn ∧ iqO y d nn m l = nI j := by
  induction m with
  | zero => intro l; exact Or.inl rfl
  | succ m ih => intro l; exact iqI_x ih nn 0 l (by omega)
theorem iqN_lt {y : St} {d nn k : Nat} (h : nn ≤ 40) : iqN y d nn k < 40 := by
  unfold iqN
  rcases iqO_x (y := y) (d := d) (nn := nn) 11 (nI k) with h1 | ⟨j, h1, h2⟩
  · rw [h1]; decide
  · rw [h2, nI_clamp (by omega)]; omega
-- how many of a list's first are such; a place of a queue is one of its notices
def cnN (P : Nat → Bool) (k : Nat) : Nat → Nat
  | 0 => 0
  | f + 1 => (if P k then 1 else 0) + cnN P (k + 1) f
theorem iqI_ok {y : St} {d : Nat} {its : Int32} {rest : Int32 → Int32} (P : Nat → Bool) (hP : ∀ k, P k = true ↔ (y 17 0 k = its ∧ iiP y k d)) (f : Nat) : ∀ (k a : Nat), a < 2 ^ 30 → ((a < cnN P k f ∧ ∃ j, k ≤ j ∧ j < k + f ∧ P j = true ∧ iqI y d its rest f k (nI a) = nI j) ∨ (cnN P k f ≤ a ∧ iqI y d its rest f k (nI a) = rest (nI (a - cnN P k f)))) := by
  induction f with
  | zero => intro k a ha; exact Or.inr ⟨Nat.zero_le _, rfl⟩
  | succ f ih =>
    intro k a ha
    by_cases hp : P k = true
    · have h9 := (hP k).mp hp
      have e9 : cnN P k (f + 1) = 1 + cnN P (k + 1) f := by show (if P k then 1 else 0) + _ = _; rw [if_pos hp]
      cases a with
      | zero => exact Or.inl ⟨by omega, k, Nat.le_refl _, by omega, hp, iqI_r h9 nI_0⟩
      | succ a =>
        have e8 : iqI y d its rest (f + 1) k (nI (a + 1)) = iqI y d its rest f (k + 1) (nI a) := by
          rw [iqI_s h9 (nI_ne0 (by omega) (by omega))]
          rw [show nI (a + 1) + (-1) = nI a from (Int32.sub_eq_add_neg _ _).symm.trans (nI_pred a)]
        rcases ih (k + 1) a (by omega) with ⟨h1, j, h2, h3, h4, h5⟩ | ⟨h1, h2⟩
        · exact Or.inl ⟨by omega, j, by omega, by omega, h4, e8.trans h5⟩
        · exact Or.inr ⟨by omega, by rw [e8, h2]; congr 2; omega⟩
    · have h9 : ¬ (y 17 0 k = its ∧ iiP y k d) := fun h => hp ((hP k).mpr h)
      have e9 : cnN P k (f + 1) = cnN P (k + 1) f := by show (if P k then 1 else 0) + _ = _; rw [if_neg hp]; omega
      have e8 := iqI_n (f := f) (l := nI a) (rest := rest) h9
      rcases ih (k + 1) a ha with ⟨h1, j, h2, h3, h4, h5⟩ | ⟨h1, h2⟩
      · exact Or.inl ⟨by omega, j, by omega, by omega, h4, e8.trans h5⟩
      · exact Or.inr ⟨by omega, by rw [e8, h2, e9]⟩
noncomputable def rkB (y : St) (d : Nat) (its : Nat) (k : Nat) : Bool := @decide (y 17 0 k = nI its ∧ iiP y k d) (Classical.propDecidable _)
theorem rkB_iff {y : St} {d its k : Nat} : rkB y d its k = true ↔ (y 17 0 k = nI its ∧ iiP y k d) := by unfold rkB; exact @decide_eq_true_iff _ (Classical.propDecidable _)
noncomputable def rkS (y : St) (d nn : Nat) : Nat → Nat
  | 0 => 0
  | m + 1 => cnN (rkB y d m) 0 nn + rkS y d nn m
theorem iqO_ok {y : St} {d nn : Nat} (m : Nat) : ∀ a, a < rkS y d nn m → a < 2 ^ 30 → ∃ j, j < nn ∧ iiP y j d ∧ iqO y d nn m (nI a) = nI j := by
  induction m with
  | zero => intro a h; exact absurd h (Nat.not_lt_zero _)
  | succ m ih =>
    intro a h ha
    rcases iqI_ok (y := y) (d := d) (rest := iqO y d nn m) (rkB y d m) (fun k => rkB_iff) nn 0 a ha with ⟨h1, j, h2, h3, h4, h5⟩ | ⟨h1, h2⟩
    · exact ⟨j, by omega, (rkB_iff.mp h4).2, h5⟩
    · obtain ⟨j, h3, h4, h5⟩ := ih (a - cnN (rkB y d m) 0 nn) (by have h' : a < cnN (rkB y d m) 0 nn + rkS y d nn m := h; omega) (by omega)
      exact ⟨j, h3, h4, h2.trans h5⟩
theorem cnN_end (P : Nat → Bool) (f : Nat) : ∀ k, cnN P k (f + 1) = cnN P k f + (if P (k + f) then 1 else 0) := by
  induction f with
  | zero => intro k; show (if P k then 1 else 0) + 0 = 0 + _; rw [Nat.add_zero, Nat.zero_add]; rfl
  | succ f ih =>
    intro k
    show (if P k then 1 else 0) + cnN P (k + 1) (f + 1) = (if P k then 1 else 0) + cnN P (k + 1) f + _
    rw [ih (k + 1), show k + 1 + f = k + (f + 1) by omega]
    omega
theorem rkS_end {y : St} {d n : Nat} (m : Nat) (hm : m ≤ 11) : rkS y d (n + 1) m = rkS y d n m + (if ∃ q, q < m ∧ rkB y d q n = true then 1 else 0) := by
  induction m with
  | zero => rw [if_neg (by rintro ⟨q, h, _⟩; exact absurd h (Nat.not_lt_zero _))]; rfl
  | succ m ih =>
    show cnN (rkB y d m) 0 (n + 1) + rkS y d (n + 1) m = cnN (rkB y d m) 0 n + rkS y d n m + _
    rw [cnN_end, ih (by omega), Nat.zero_add]
    by_cases h : rkB y d m n = true
    · have hno : ¬ ∃ q, q < m ∧ rkB y d q n = true := by
        rintro ⟨q, h1, h2⟩
        have e1 := (rkB_iff.mp h).1
        have e2 := (rkB_iff.mp h2).1
        rw [e1] at e2
        have := (nI_eq (by omega) (by omega)).mp e2
        omega
      rw [if_pos h, if_neg hno, if_pos ⟨m, by omega, h⟩]
      omega
    · by_cases h2 : ∃ q, q < m ∧ rkB y d q n = true
      · obtain ⟨q, h3, h4⟩ := h2
        rw [if_neg h, if_pos ⟨q, h3, h4⟩, if_pos ⟨q, by omega, h4⟩]
        omega
      · have h6 : ¬ ∃ q, q < m + 1 ∧ rkB y d q n = true := by
          rintro ⟨q, h3, h4⟩
          rcases (show q < m ∨ q = m by omega) with h5 | rfl
          · exact h2 ⟨q, h5, h4⟩
          · exact h h4
        rw [if_neg h, if_neg h2, if_neg h6] <;> omega
theorem rkS_0 {y : St} {d : Nat} (m : Nat) : rkS y d 0 m = 0 := by
  induction m with
  | zero => rfl
  | succ m ih => show 0 + rkS y d 0 m = 0; rw [ih]
theorem mq_rk {y : St} {d nn : Nat} (h : ∀ k, k < nn → ∃ r, r ≤ 10 ∧ y 17 0 k = nI r) : mqF y d nn = nI (rkS y d nn 11) := by
  induction nn with
  | zero => rw [rkS_0]; rfl
  | succ n ih =>
    have e : cnP (fun k => iiP y k d) n = nI (rkS y d n 11) := ih (fun k hk => h k (by omega))
    rw [rkS_end 11 (Nat.le_refl _)]
    by_cases h9 : iiP y n d
    · obtain ⟨r, h1, h2⟩ := h n (by omega)
      rw [if_pos ⟨r, by omega, rkB_iff.mpr ⟨h2, h9⟩⟩]
      exact (cnP_t (P := fun k => iiP y k d) h9).symm.trans (by rw [e, nI_1])
    · rw [if_neg (fun ⟨q, h1, h2⟩ => h9 (rkB_iff.mp h2).2)]
      exact (cnP_f (P := fun k => iiP y k d) h9).symm.trans (by rw [e, Int32.add_zero, Nat.add_zero])
theorem rkS_le {y : St} {d nn : Nat} (m : Nat) (hm : m ≤ 11) : rkS y d nn m ≤ nn := by
  induction nn with
  | zero => rw [rkS_0]; exact Nat.le_refl _
  | succ n ih =>
    rw [rkS_end m hm]
    split <;> omega
/-- a place of the queue that is ahead of its number -/
theorem iq_at {y : St} {d nn mc k : Nat} (h : ∀ k, k < nn → ∃ r, r ≤ 10 ∧ y 17 0 k = nI r) (hn : nn ≤ 40) (e : mqF y d nn = nI mc) (hm : mc ≤ nn) (hk : k < mc) : ∃ j, j < nn ∧ iiP y j d ∧ iqO y d nn 11 (nI k) = nI j := by
  have e2 := mq_rk (d := d) h
  have e3 := rkS_le (y := y) (d := d) (nn := nn) 11 (Nat.le_refl _)
  have e4 := (nI_eq (by omega) (by omega)).mp (e2.symm.trans e)
  exact iqO_ok 11 k (by omega) (by omega)
theorem mqF_congr {y y' : St} {d n : Nat} (h : ∀ r i j, r ≠ 14 → y' r i j = y r i j) : mqF y' d n = mqF y d n :=
  cnP_congr (fun k _ => by unfold iiP; rw [h 23 _ _ (by omega), h 1 _ _ (by omega), h 20 _ _ (by omega)])
theorem MI.cL {b d nn nb : Nat} (hn : nn ≤ 40) (f : Nat) : ∀ (k : Nat) (s : MS), MI s.1 nb nn → MI (chL b d nn f k s).1 nb nn := by
  induction f with
  | zero => intro k s h; exact h.wp
  | succ f ih =>
    intro k s h
    unfold chL
    split
    · split
      · exact h
      · split
        · exact ih _ _ (h.k9 (by omega))
        · exact h.shw (iqN_lt hn)
    · exact ih _ _ h
theorem MI.cM {s : MS} {nb nn b : Nat} (h : MI s.1 nb nn) : MI (chM s b nn).1 nb nn := MI.cL h.nn40 _ _ _ (h.k9 (by omega))
theorem MI.gw {s : MS} {nb nn b : Nat} (h : MI s.1 nb nn) : MI (gwM s b).1 nb nn := by
  unfold gwM
  split
  · exact h
  · split
    · exact h.wp
    · exact h
theorem MI.gb {s : MS} {nb nn b : Nat} (h : MI s.1 nb nn) : MI (gbM s b nn).1 nb nn := MI.cM (MI.gw (s := (cbM s.1 b, s.2)) (h.k9 (by omega)))
theorem MI.gr {s : MS} {nb nn : Nat} (h : MI s.1 nb nn) (k : Nat) : MI (grM s nn k).1 nb nn := by
  induction k with
  | zero => exact h
  | succ k ih => exact ih.gb
theorem MI.gs {s : MS} {nb nn : Nat} (h : MI s.1 nb nn) : MI (gsM s).1 nb nn := h.k9 (by omega)
theorem MI.go {s : MS} {nb nn : Nat} (h : MI s.1 nb nn) (k : Nat) : MI (goM s nb nn k).1 nb nn := by
  induction k with
  | zero => exact h
  | succ k ih => exact ih.gs.gr nb
end MD1
