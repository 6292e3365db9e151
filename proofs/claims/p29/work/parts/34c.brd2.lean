/-! A BOARD of the reference: wear w, charge q, cells β; what wipe and show do to it -/
section BR2
def RB (y : St) (b : Nat) (w : Nat → Nat) (q : Nat) (β : Nat → Bool) : Prop := (∀ c, c < 32 → y 16 0 (32 * b + c) = nI (w c) ∧ y 15 0 (32 * b + c) = nI (b2n (β c))) ∧ y 11 0 b = nI q
/-- cell by cell up to k: those that differ from τ are changed -/
def difs (β τ : Nat → Bool) : Nat → Bool := fun c => β c != τ c
def upto (β τ : Nat → Bool) (k : Nat) : Nat → Bool := fun c => if c < k then τ c else β c
theorem nb_0 {b : Bool} : (if nI (b2n b) = 0 then (1 : Int32) else 0) = nI (b2n (!b)) := by cases b <;> decide
theorem incs_hi {w : Nat → Nat} {β : Nat → Bool} {k c : Nat} (h : k ≤ c) : incs w β k c = w c := by
  unfold incs
  rw [if_neg (by omega)] <;> rfl
theorem cN_s {β : Nat → Bool} {k : Nat} : cN β (k + 1) = cN β k + b2n (β k) := rfl
def fl1 (β : Nat → Bool) (k : Nat) : Nat → Bool := fun c => if c = k then !β c else β c
theorem fl1_eq {β : Nat → Bool} {k : Nat} : fl1 β k k = !β k := if_pos rfl
theorem fl1_ne {β : Nat → Bool} {k c : Nat} (h : c ≠ k) : fl1 β k c = β c := if_neg h
theorem cg1_16 {s : MS} {a b j : Nat} : (cg1 s a b).1 16 0 j = st s.1 16 0 a (s.1 16 0 a + 1) 16 0 j := by
  unfold cg1 cgM
  dsimp only
  rw [st_nr (by omega)]
  by_cases h : j = a
  · subst h; rw [st_eq, st_eq, st_nr (by omega)]
  · rw [st_j (by omega), st_nr (by omega), st_j (by omega)]
theorem cg1_15 {s : MS} {a b j : Nat} : (cg1 s a b).1 15 0 j = st s.1 15 0 a (if s.1 15 0 a = 0 then 1 else 0) 15 0 j := by
  unfold cg1 cgM
  dsimp only
  rw [st_nr (by omega), st_nr (by omega)]
theorem cg1_11 {s : MS} {a b : Nat} : (cg1 s a b).1 11 0 b = s.1 11 0 b - 1 := by
  unfold cg1 cgM
  dsimp only
  rw [st_eq, st_nr (by omega), st_nr (by omega)]
theorem wpM_r {s : MS} {b r i j : Nat} (h : r ≠ 12 ∧ r ≠ 13) : (wpM s b).1 r i j = (wpL s b 32).1 r i j := by
  unfold wpM
  dsimp only
  rw [st_nr (by omega), st_nr (by omega)]
theorem shM_r {s : MS} {b k q r i j : Nat} (h : r ≠ 12 ∧ r ≠ 13) : (shM s b k q).1 r i j = (shL s b (s.1 18 0 k) q 32).1 r i j := by
  unfold shM
  dsimp only
  rw [st_nr (by omega), st_nr (by omega)]
theorem RB.one {s : MS} {b k q : Nat} {w : Nat → Nat} {β : Nat → Bool} (hk : k < 32) (hq : 1 ≤ q) (h : RB s.1 b w q β) : RB (cg1 s (32 * b + k) b).1 b (inc w k) (q - 1) (fl1 β k) ∧ (cg1 s (32 * b + k) b).2 = s.2 + 1 := by
  obtain ⟨h1, h2⟩ := h
  obtain ⟨h16, h15⟩ := h1 k hk
  refine ⟨⟨fun c hc => ?_, ?_⟩, rfl⟩
  · obtain ⟨g16, g15⟩ := h1 c hc
    rw [cg1_16, cg1_15]
    by_cases hck : c = k
    · subst hck
      rw [st_eq, st_eq, h16, inc_eq, nI_1, h15, nb_0, fl1_eq]
      exact ⟨rfl, rfl⟩
    · rw [st_j (by omega), st_j (by omega), fl1_ne hck, inc_ne hck]
      exact ⟨g16, g15⟩
  · rw [cg1_11, h2]
    exact nI_sub (b := 1) hq
/-- a walk over the cells -/
theorem RB.loop {S : Nat → MS} {b q : Nat} {w : Nat → Nat} {β τ : Nat → Bool} (h0 : RB (S 0).1 b w q β) (hq : cN (difs β τ) 32 ≤ q) (hS : ∀ k, k < 32 → (S k).1 15 0 (32 * b + k) = nI (b2n (β k)) → S (k + 1) = if β k != τ k then cg1 (S k) (32 * b + k) b else S k) (k : Nat) (hk : k ≤ 32) : RB (S k).1 b (incs w (difs β τ) k) (q - cN (difs β τ) k) (upto β τ k) ∧ (S k).2 = (S 0).2 + Int64.ofNat (cN (difs β τ) k) := by
  have hmono : ∀ k, k ≤ 32 → cN (difs β τ) k ≤ cN (difs β τ) 32 := by
    intro k hk
    have : ∀ d, cN (difs β τ) k ≤ cN (difs β τ) (k + d) := by
      intro d
      induction d with
      | zero => exact Nat.le_refl _
      | succ d ih => rw [show k + (d + 1) = (k + d) + 1 by omega, cN_s]; omega
    have h9 := this (32 - k)
    rw [show k + (32 - k) = 32 by omega] at h9
    exact h9
  induction k with
  | zero =>
    refine ⟨?_, (Int64.add_zero _).symm⟩
    have e1 : incs w (difs β τ) 0 = w := incs_0
    have e2 : upto β τ 0 = β := by funext c; unfold upto; rw [if_neg (by omega)]
    rw [e1, e2]
    exact h0
  | succ k ih =>
    obtain ⟨ih1, ih2⟩ := ih (by omega)
    have e15 : (S k).1 15 0 (32 * b + k) = nI (b2n (β k)) := by
      rw [(ih1.1 k (by omega)).2]
      unfold upto
      rw [if_neg (by omega)]
    rw [hS k (by omega) e15]
    by_cases hd : (β k != τ k) = true
    · rw [if_pos hd]
      have hdk : difs β τ k = true := hd
      have hc : cN (difs β τ) (k + 1) = cN (difs β τ) k + 1 := by rw [cN_s, hdk] <;> rfl
      have hle := hmono (k + 1) hk
      obtain ⟨r1, r2⟩ := RB.one (s := S k) (k := k) (by omega) (by omega) ih1
      rw [incs_s, if_pos hdk, hc, r2, ih2]
      refine ⟨?_, ?_⟩
      · rw [show q - (cN (difs β τ) k + 1) = q - cN (difs β τ) k - 1 by omega]
        have e : fl1 (upto β τ k) k = upto β τ (k + 1) := by
          funext c
          by_cases h1 : c = k
          · subst h1
            rw [fl1_eq]
            unfold upto
            rw [if_neg (by omega), if_pos (by omega)]
            revert hd
            cases β c <;> cases τ c <;> decide
          · rw [fl1_ne h1]
            unfold upto
            by_cases h2 : c < k
            · rw [if_pos h2, if_pos (by omega)]
            · rw [if_neg h2, if_neg (by omega)]
        rw [← e]
        exact r1
      · rw [show Int64.ofNat (cN (difs β τ) k + 1) = Int64.ofNat (cN (difs β τ) k) + 1 from Int64.ofNat_add _ _, Int64.add_assoc]
    · rw [if_neg hd]
      have hdk : difs β τ k = false := by unfold difs; cases h9 : (β k != τ k) with | true => exact absurd h9 hd | false => rfl
      have hc : cN (difs β τ) (k + 1) = cN (difs β τ) k := by rw [cN_s, hdk] <;> rfl
      rw [incs_s, if_neg (by rw [hdk]; decide), hc, ih2]
      refine ⟨?_, rfl⟩
      have e : upto β τ k = upto β τ (k + 1) := by
        funext c
        unfold upto
        by_cases h1 : c = k
        · subst h1
          rw [if_neg (by omega), if_pos (by omega)]
          revert hd
          cases β c <;> cases τ c <;> decide
        · by_cases h2 : c < k
          · rw [if_pos h2, if_pos (by omega)]
          · rw [if_neg h2, if_neg (by omega)]
      rw [← e]
      exact ih1
theorem RB.ext {y : St} {b q : Nat} {w w' : Nat → Nat} {β β' : Nat → Bool} (h : RB y b w q β) (hw : ∀ c, c < 32 → w' c = w c) (hβ : ∀ c, c < 32 → β' c = β c) : RB y b w' q β' := ⟨fun c hc => by rw [hw c hc, hβ c hc]; exact h.1 c hc, h.2⟩
/-- wipe: no cell is black -/
theorem RB.wipe {s : MS} {b q : Nat} {w : Nat → Nat} {β : Nat → Bool} (h : RB s.1 b w q β) (hq : cN β 32 ≤ q) : RB (wpM s b).1 b (incs w β 32) (q - cN β 32) (fun _ => false) ∧ (wpM s b).2 = s.2 + Int64.ofNat (cN β 32) := by
  have e : difs β (fun _ => false) = β := by funext c; unfold difs; cases β c <;> rfl
  have h9 := RB.loop (S := fun k => wpL s b k) (τ := fun _ => false) (by rw [wpL_0]; exact h) (by rw [e]; exact hq) (fun k hk e15 => by
    show wpL s b (k + 1) = _
    by_cases hb : β k = true
    · rw [← wpL_f (by show ¬ (wpL s b k).1 15 0 (32 * b + k) = 0; rw [e15, hb]; decide), hb] <;> rfl
    · have hb2 : β k = false := by cases h9 : β k with | true => exact absurd h9 hb | false => rfl
      rw [← wpL_t (by show (wpL s b k).1 15 0 (32 * b + k) = 0; rw [e15, hb2]; decide), hb2] <;> rfl) 32 (by omega)
  rw [e] at h9
  obtain ⟨⟨r1, r2⟩, r3⟩ := h9
  refine ⟨⟨fun c hc => ?_, ?_⟩, ?_⟩
  · obtain ⟨r4, r5⟩ := r1 c hc
    rw [wpM_r (by omega), wpM_r (by omega)]
    refine ⟨r4, r5.trans ?_⟩
    unfold upto
    rw [if_pos hc]
  · rw [wpM_r (by omega)]; exact r2
  · show (wpL s b 32).2 = _
    rw [r3]
    show (wpL s b 0).2 + _ = _
    rw [wpL_0]
/-- show: the cells of the picture -/
theorem RB.show {s : MS} {b k j q : Nat} {w : Nat → Nat} {β τ : Nat → Bool} (h : RB s.1 b w q β) (hτ : ∀ c, c < 32 → (hasN (s.1 18 0 k) j c ↔ τ c = true)) (hq : cN (difs β τ) 32 ≤ q) : RB (shM s b k j).1 b (incs w (difs β τ) 32) (q - cN (difs β τ) 32) τ ∧ (shM s b k j).2 = s.2 + Int64.ofNat (cN (difs β τ) 32) := by
  have h9 := RB.loop (S := fun q => shL s b (s.1 18 0 k) j q) (τ := τ) (by rw [shL_0]; exact h) hq (fun n hn e15 => by
    show shL s b (s.1 18 0 k) j (n + 1) = _
    have hbz : bz (hasN (s.1 18 0 k) j n) = nI (b2n (τ n)) := by
      by_cases ht : τ n = true
      · rw [bz_t ((hτ n hn).mpr ht), ht] <;> rfl
      · have ht2 : τ n = false := by cases h9 : τ n with | true => exact absurd h9 ht | false => rfl
        rw [bz_f (fun h9 => ht ((hτ n hn).mp h9)), ht2] <;> rfl
    by_cases hd : (β n != τ n) = true
    · rw [if_pos hd]
      refine (shL_t ?_).symm
      show ¬ (shL s b (s.1 18 0 k) j n).1 15 0 (32 * b + n) = bz _
      rw [e15, hbz]
      revert hd
      cases β n <;> cases τ n <;> decide
    · rw [if_neg hd]
      refine (shL_f ?_).symm
      show ¬ ¬ (shL s b (s.1 18 0 k) j n).1 15 0 (32 * b + n) = bz _
      rw [e15, hbz]
      revert hd
      cases β n <;> cases τ n <;> decide) 32 (by omega)
  obtain ⟨⟨r1, r2⟩, r3⟩ := h9
  refine ⟨⟨fun c hc => ?_, ?_⟩, ?_⟩
  · obtain ⟨r4, r5⟩ := r1 c hc
    rw [shM_r (by omega), shM_r (by omega)]
    refine ⟨r4, r5.trans ?_⟩
    unfold upto
    rw [if_pos hc]
  · rw [shM_r (by omega)]; exact r2
  · show (shL s b (s.1 18 0 k) j 32).2 = _
    rw [r3]
    show (shL s b (s.1 18 0 k) j 0).2 + _ = _
    rw [shL_0]
/-- another board's cells stay -/
theorem cg1_o {s : MS} {a b r i j : Nat} (h : (r = 15 ∨ r = 16) → j ≠ a) (h2 : r = 11 → j ≠ b) : (cg1 s a b).1 r i j = s.1 r i j := by
  unfold cg1 cgM
  dsimp only
  have e1 : ∀ (z : St) v, st z 11 0 b v r i j = z r i j := fun z v => by
    by_cases hr : r = 11
    · exact st_j (Ne.symm (h2 hr))
    · exact st_nr (by omega)
  have e2 : ∀ (z : St) v, st z 16 0 a v r i j = z r i j := fun z v => by
    by_cases hr : r = 16
    · exact st_j (Ne.symm (h (Or.inr hr)))
    · exact st_nr (by omega)
  have e3 : ∀ (z : St) v, st z 15 0 a v r i j = z r i j := fun z v => by
    by_cases hr : r = 15
    · exact st_j (Ne.symm (h (Or.inl hr)))
    · exact st_nr (by omega)
  rw [e1, e2, e3]
theorem wpL_o {s : MS} {b k r i j : Nat} (hk : k ≤ 32) (h : (r = 15 ∨ r = 16) → ¬ (32 * b ≤ j ∧ j < 32 * b + 32)) (h2 : r = 11 → j ≠ b) : (wpL s b k).1 r i j = s.1 r i j := by
  induction k with
  | zero => rw [wpL_0]
  | succ k ih =>
    by_cases h9 : (wpL s b k).1 15 0 (32 * b + k) = 0
    · rw [← wpL_t h9]; exact ih (by omega)
    · rw [← wpL_f h9]; exact (cg1_o (fun hr => by have := h hr; omega) h2).trans (ih (by omega))
theorem shL_o {s : MS} {b k q r i j : Nat} {p : Int32} (hk : k ≤ 32) (h : (r = 15 ∨ r = 16) → ¬ (32 * b ≤ j ∧ j < 32 * b + 32)) (h2 : r = 11 → j ≠ b) : (shL s b p q k).1 r i j = s.1 r i j := by
  induction k with
  | zero => rw [shL_0]
  | succ k ih =>
    by_cases h9 : dfP (shL s b p q k).1 b p q k
    · rw [← shL_t h9]; exact (cg1_o (fun hr => by have := h hr; omega) h2).trans (ih (by omega))
    · rw [← shL_f h9]; exact ih (by omega)
theorem wpM_o {s : MS} {b r i j : Nat} (h : (r = 15 ∨ r = 16) → ¬ (32 * b ≤ j ∧ j < 32 * b + 32)) (h2 : (r = 11 ∨ r = 12 ∨ r = 13) → j ≠ b) : (wpM s b).1 r i j = s.1 r i j := by
  have e1 : ∀ (z : St) v, st z 13 0 b v r i j = z r i j := fun z v => by
    by_cases hr : r = 13
    · exact st_j (Ne.symm (h2 (by omega)))
    · exact st_nr (by omega)
  have e2 : ∀ (z : St) v, st z 12 0 b v r i j = z r i j := fun z v => by
    by_cases hr : r = 12
    · exact st_j (Ne.symm (h2 (by omega)))
    · exact st_nr (by omega)
  unfold wpM
  dsimp only
  rw [e1, e2]
  exact wpL_o (by omega) h (fun hr => h2 (by omega))
theorem shM_o {s : MS} {b k q r i j : Nat} (h : (r = 15 ∨ r = 16) → ¬ (32 * b ≤ j ∧ j < 32 * b + 32)) (h2 : (r = 11 ∨ r = 12 ∨ r = 13) → j ≠ b) : (shM s b k q).1 r i j = s.1 r i j := by
  have e1 : ∀ (z : St) v, st z 13 0 b v r i j = z r i j := fun z v => by
    by_cases hr : r = 13
    · exact st_j (Ne.symm (h2 (by omega)))
    · exact st_nr (by omega)
  have e2 : ∀ (z : St) v, st z 12 0 b v r i j = z r i j := fun z v => by
    by_cases hr : r = 12
    · exact st_j (Ne.symm (h2 (by omega)))
    · exact st_nr (by omega)
  unfold shM
  dsimp only
  rw [e1, e2]
  exact shL_o (by omega) h (fun hr => h2 (by omega))
end BR2
