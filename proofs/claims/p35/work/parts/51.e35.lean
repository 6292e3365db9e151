/-! p35: what the law's own methods see -/
section E35
theorem bitF_v {p : Int32} {c : Nat} (hc : c < 32) : bitF p (nI c) = if bt p c = true then 1 else 0 := by
  by_cases h : bt p c = true
  · rw [if_pos h]; exact (bitF_bt hc).mpr h
  · rw [if_neg h]
    refine b_ext (fun i hi => ?_)
    show bt (jush p (nI c) &&& 1) i = _
    have e1 : ∀ i, i < 32 → bt (1 : Int32) i = decide (i = 0) := by decide +kernel
    rw [b_and, e1 i hi, b_0]
    by_cases h0 : i = 0
    · subst h0
      show (bt ((p.toUInt32 >>> ((nI c).toUInt32 &&& Int32.toUInt32 31)).toInt32) 0 && _) = false
      rw [b_ushr c hc, Nat.add_zero]
      cases hb : bt p c with
      | true => exact absurd hb h
      | false => rfl
    · rw [decide_eq_false h0, Bool.and_false]
theorem bitF_2 {p : Int32} {c : Nat} (hc : c < 32) : bitF p (nI c) = nI (b2n (bt p c)) := by
  rw [bitF_v hc]
  cases bt p c <;> rfl
theorem sn_bt {v : Int32} (k : Nat) (hk : k ≤ 32) : ∀ c, c < 32 → bt (snF v k) c = (decide (c < k) && bt v c) := by
  induction k with
  | zero => intro c hc; rw [decide_eq_false (by omega), Bool.false_and]; exact b_0 c
  | succ k ih =>
    intro c hc
    show bt (snF v k ||| ((bitF v (8 * (nI k / 8) + (nI k - nI k / 8 * 8))) <<< (nI k &&& 31))) c = _
    have hk2 : k < 32 := by omega
    rw [b_or, ih (by omega) c hc, kd8e hk2, b_shl k hk2 _ hc, bitF_v hk2]
    have e1 : ∀ i, i < 32 → bt (1 : Int32) i = decide (i = 0) := by decide +kernel
    by_cases h1 : c < k
    · rw [decide_eq_true h1, decide_eq_true (show c < k + 1 by omega), decide_eq_false (show ¬ k ≤ c by omega), Bool.false_and, Bool.or_false]
    · rw [decide_eq_false h1, Bool.false_and, Bool.false_or, decide_eq_true (show k ≤ c by omega), Bool.true_and]
      by_cases h2 : c = k
      · subst h2
        rw [decide_eq_true (show c < c + 1 by omega), Bool.true_and, Nat.sub_self]
        cases hb : bt v c with
        | true => rw [if_pos rfl]; exact e1 0 (by omega)
        | false => rw [if_neg (by decide)]; exact b_0 0
      · rw [decide_eq_false (show ¬ c < k + 1 by omega), Bool.false_and]
        cases hb : bt v k with
        | true => rw [if_pos rfl, e1 _ (by omega)]; exact decide_eq_false (by omega)
        | false => rw [if_neg (by decide)]; exact b_0 _
theorem sn_all {v : Int32} : snF v 32 = v := b_ext (fun c hc => by rw [sn_bt 32 (by omega) c hc, decide_eq_true hc, Bool.true_and])
theorem sh1_bt {p : Int32} {c : Nat} (hc : c < 32) : bt (sh1 p) c = bt p (rot 1 c) := by
  have m1 : ∀ i, i < 32 → bt (2139062143 : Int32) i = decide (i % 8 < 7) := by decide +kernel
  have m2 : ∀ i, i < 32 → bt (16843009 : Int32) i = decide (i % 8 = 0) := by decide +kernel
  show bt (((p &&& 2139062143) <<< (nI 1 &&& 31)) ||| (jush p (nI 7) &&& 16843009)) c = _
  have e7 : bt (jush p (nI 7)) c = bt p (7 + c) := b_ushr 7 (by omega) p c
  rw [b_or, b_shl 1 (by omega) _ hc, b_and, b_and, m2 c hc, e7]
  unfold rot
  by_cases h : c % 8 = 0
  · rw [decide_eq_true h, Bool.and_true, show 8 * (c / 8) + (c % 8 + 8 - 1) % 8 = 7 + c by omega]
    by_cases h0 : 1 ≤ c
    · rw [m1 _ (by omega), decide_eq_false (show ¬ (c - 1) % 8 < 7 by omega), Bool.and_false, Bool.and_false, Bool.false_or]
    · rw [decide_eq_false h0, Bool.false_and, Bool.false_or]
  · rw [decide_eq_false h, Bool.and_false, Bool.or_false, decide_eq_true (show 1 ≤ c by omega), Bool.true_and, m1 _ (by omega), decide_eq_true (show (c - 1) % 8 < 7 by omega), Bool.and_true, show 8 * (c / 8) + (c % 8 + 8 - 1) % 8 = c - 1 by omega]
theorem shK_bt {p : Int32} (k : Nat) (hk : k ≤ 7) : ∀ c, c < 32 → bt (shK p k) c = bt p (rot k c) := by
  induction k with
  | zero => intro c hc; show bt p c = bt p (8 * (c / 8) + (c % 8 + 8 - 0) % 8); congr 1; omega
  | succ k ih =>
    intro c hc
    show bt (sh1 (shK p k)) c = _
    rw [sh1_bt hc, ih (by omega) _ (by unfold rot; omega)]
    congr 1
    unfold rot
    omega
theorem shK_shF {p : Int32} {k : Nat} (hk : k ≤ 7) : shK p k = shF p (nI k) := b_ext (fun c hc => by rw [shK_bt k hk c hc, sh_bt (by omega) hc])
theorem od1 {b nb : Nat} {f : Nat → Int32} {r : Int32} (hb : b < nb) (hn : nb ≤ 40) (h : (∃ j, j < nb ∧ nI b = nI j ∧ r = f j) ∨ ∃ E, (E = "java/lang/IndexOutOfBoundsException" ∧ ((nI b).toInt < 0 ∨ (nb : Int) ≤ (nI b).toInt)) ∧ r = cdE E) : r = f b := by
  rcases h with ⟨j, hj, e, rfl⟩ | ⟨E, ⟨-, h⟩, -⟩
  · rw [(nI_eq (by omega) (by omega)).mp e]
  · rw [nI_toInt (by omega)] at h; omega
theorem od3 {b nb : Nat} {f : Nat → Int32} {C : Prop} {r : Int32} (hb : b < nb) (hn : nb ≤ 40) (hC : C) (h : (∃ j, j < nb ∧ nI b = nI j ∧ C ∧ r = f j) ∨ ∃ E, (E = "java/lang/IndexOutOfBoundsException" ∧ (((nI b).toInt < 0 ∨ (nb : Int) ≤ (nI b).toInt) ∨ ¬ C)) ∧ r = cdE E) : r = f b := by
  rcases h with ⟨j, hj, e, -, rfl⟩ | ⟨E, ⟨-, h⟩, -⟩
  · rw [(nI_eq (by omega) (by omega)).mp e]
  · rw [nI_toInt (by omega)] at h
    rcases h with h | h
    · omega
    · exact absurd hC h
theorem add_small {p : Int32} {n : Nat} (h0 : 0 ≤ p.toInt) (h1 : p.toInt ≤ 1000) (hn : n ≤ 1000) : (p + nI n).toInt = p.toInt + n := by
  obtain ⟨c, hc, rfl⟩ := nI_rng (n := 1000) h0 h1
  rw [nI_add, nI_toInt (by omega), nI_toInt (by omega)]
  omega
theorem add_q {p q : Int32} {n : Nat} (e : q = nI n) (h0 : 0 ≤ p.toInt) (h1 : p.toInt ≤ 1000) (hn : n ≤ 1000) : 0 ≤ (p + q).toInt ∧ (p + q).toInt = p.toInt + n := by
  subst e
  rw [add_small h0 h1 hn]
  omega
end E35
