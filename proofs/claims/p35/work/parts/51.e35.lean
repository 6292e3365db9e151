/-! p35: what the law's own methods see -/
section E35
theorem bitF_w {p : Int32} {c : Nat} (hc : c < 32) : bitF p (nI c) = if bt p c = true then 1 else 0 := by
  by_cases h : bt p c = true
  · rw [if_pos h]; exact (bitF_bt hc).mpr h
  · rw [if_neg h]
    refine b_ext (fun i hi => ?_)
    show bt (jush p (nI c) &&& 1) i = _
    have e1 : ∀ i, i < 32 → bt (1 : Int32) i = decide (i = 0) := by decide +kernel
    rw [b_and, e1 i hi, b_0]
    by_cases h0 : i = 0
    · subst h0
      show (bt ((p.toUInt32 >>> ((nI c).toUInt32 &&& Int32.toUInt32 31)).toInt32) 0 && _) = false
      rw [b_ushr c hc, Nat.add_zero]
      cases hb : bt p c with
      | true => exact absurd hb h
      | false => rfl
    · rw [decide_eq_false h0, Bool.and_false]
theorem sn_bt {v : Int32} (k : Nat) (hk : k ≤ 32) : ∀ c, c < 32 → bt (snF v k) c = (decide (c < k) && bt v c) := by
  induction k with
  | zero => intro c hc; rw [decide_eq_false (by omega), Bool.false_and]; exact b_0 c
  | succ k ih =>
    intro c hc
    show bt (snF v k ||| ((bitF v (8 * (nI k / 8) + (nI k - nI k / 8 * 8))) <<< (nI k &&& 31))) c = _
    have hk2 : k < 32 := by omega
    rw [b_or, ih (by omega) c hc, kd8e hk2, b_shl k hk2 _ hc, bitF_w hk2]
    have e1 : ∀ i, i < 32 → bt (1 : Int32) i = decide (i = 0) := by decide +kernel
    by_cases h1 : c < k
    · rw [decide_eq_true h1, decide_eq_true (show c < k + 1 by omega), decide_eq_false (show ¬ k ≤ c by omega), Bool.false_and, Bool.or_false]
    · rw [decide_eq_false h1, Bool.false_and, Bool.false_or, decide_eq_true (show k ≤ c by omega), Bool.true_and]
      by_cases h2 : c = k
      · subst h2
        rw [decide_eq_true (show c < c + 1 by omega), Bool.true_and, Nat.sub_self]
        cases hb : bt v c with
        | true => rw [if_pos rfl]; exact e1 0 (by omega)
        | false => rw [if_neg (by decide)]; exact b_0 0
      · rw [decide_eq_false (show ¬ c < k + 1 by omega), Bool.false_and]
        cases hb : bt v k with
        | true => rw [if_pos rfl, e1 _ (by omega)]; exact decide_eq_false (by omega)
        | false => rw [if_neg (by decide)]; exact b_0 _
theorem sn_all {v : Int32} : snF v 32 = v := b_ext (fun c hc => by rw [sn_bt 32 (by omega) c hc, decide_eq_true hc, Bool.true_and])
theorem sh1_bt {p : Int32} {c : Nat} (hc : c < 32) : bt (sh1 p) c = bt p (rot 1 c) := by
  have m1 : ∀ i, i < 32 → bt (2139062143 : Int32) i = decide (i % 8 < 7) := by decide +kernel
  have m2 : ∀ i, i < 32 → bt (16843009 : Int32) i = decide (i % 8 = 0) := by decide +kernel
  show bt (((p &&& 2139062143) <<< (nI 1 &&& 31)) ||| (jush p (nI 7) &&& 16843009)) c = _
  have e7 : bt (jush p (nI 7)) c = bt p (7 + c) := b_ushr 7 (by omega) p c
  rw [b_or, b_shl 1 (by omega) _ hc, b_and, b_and, m2 c hc, e7]
  unfold rot
  by_cases h : c % 8 = 0
  · rw [decide_eq_true h, Bool.and_true, show 8 * (c / 8) + (c % 8 + 8 - 1) % 8 = 7 + c by omega]
    by_cases h0 : 1 ≤ c
    · rw [m1 _ (by omega), decide_eq_false (show ¬ (c - 1) % 8 < 7 by omega), Bool.and_false, Bool.and_false, Bool.false_or]
    · rw [decide_eq_false h0, Bool.false_and, Bool.false_or]
  · rw [decide_eq_false h, Bool.and_false, Bool.or_false, decide_eq_true (show 1 ≤ c by omega), Bool.true_and, m1 _ (by omega), decide_eq_true (show (c - 1) % 8 < 7 by omega), Bool.and_true, show 8 * (c / 8) + (c % 8 + 8 - 1) % 8 = c - 1 by omega]
theorem shK_bt {p : Int32} (k : Nat) (hk : k ≤ 7) : ∀ c, c < 32 → bt (shK p k) c = bt p (rot k c) := by
  induction k with
  | zero => intro c hc; show bt p c = bt p (8 * (c / 8) + (c % 8 + 8 - 0) % 8); congr 1; omega
  | succ k ih =>
    intro c hc
    show bt (sh1 (shK p k)) c = _
    rw [sh1_bt hc, ih (by omega) _ (by unfold rot; omega)]
    congr 1
    unfold rot
    omega
theorem shK_shF {p : Int32} {k : Nat} (hk : k ≤ 7) : shK p k = shF p (nI k) := b_ext (fun c hc => by rw [shK_bt k hk c hc, sh_bt (by omega) hc])
theorem od1 {b nb : Nat} {f : Nat → Int32} {r : Int32} (hb : b < nb) (hn : nb ≤ 40) (h : (∃ j, j < nb ∧ nI b = nI j ∧ r = f j) ∨ ∃ E, (E = "java/lang/IndexOutOfBoundsException" ∧ ((nI b).toInt < 0 ∨ (nb : Int) ≤ (nI b).toInt)) ∧ r = cdE E) : r = f b := by
  rcases h with ⟨j, hj, e, rfl⟩ | ⟨E, ⟨-, h⟩, -⟩
  · rw [(nI_eq (by omega) (by omega)).mp e]
  · rw [nI_toInt (by omega)] at h; omega
theorem od3 {b nb : Nat} {f : Nat → Int32} {C : Prop} {r : Int32} (hb : b < nb) (hn : nb ≤ 40) (hC : C) (h : (∃ j, j < nb ∧ nI b = nI j ∧ C ∧ r = f j) ∨ ∃ E, (E = "java/lang/IndexOutOfBoundsException" ∧ (((nI b).toInt < 0 ∨ (nb : Int) ≤ (nI b).toInt) ∨ ¬ C)) ∧ r = cdE E) : r = f b := by
  rcases h with ⟨j, hj, e, -, rfl⟩ | ⟨E, ⟨-, h⟩, -⟩
  · rw [(nI_eq (by omega) (by omega)).mp e]
  · rw [nI_toInt (by omega)] at h
    rcases h with h | h
    · omega
    · exact absurd hC h
theorem add_small {p : Int32} {n : Nat} (h0 : 0 ≤ p.toInt) (h1 : p.toInt ≤ 1000) (hn : n ≤ 1000) : (p + nI n).toInt = p.toInt + n := by
  obtain ⟨c, hc, rfl⟩ := nI_rng (n := 1000) h0 h1
  rw [nI_add, nI_toInt (by omega), nI_toInt (by omega)]
  omega
theorem add_q {p q : Int32} {n : Nat} (e : q = nI n) (h0 : 0 ≤ p.toInt) (h1 : p.toInt ≤ 1000) (hn : n ≤ 1000) : 0 ≤ (p + q).toInt ∧ (p + q).toInt = p.toInt + n := by
  subst e
  rw [add_small h0 h1 hn]
  omega
theorem od15 {n nn : Nat} {O : Nat → Prop} {r : Int32} (hn : n < nn) (hnn : nn ≤ 40) (hO : O n) (h : (∃ v : Int32, (∃ j, j < nn ∧ nI n = nI j ∧ ((v = 1 ∧ O j) ∨ (v = 0 ∧ ¬ O j))) ∧ r = if v = 0 then 0 else 1) ∨ ∃ E, (E = "java/lang/IndexOutOfBoundsException" ∧ ((nI n).toInt < 0 ∨ (nn : Int) ≤ (nI n).toInt)) ∧ r = cdE E) : r = 1 := by
  rcases h with ⟨v, ⟨j, hj, e, hv⟩, er⟩ | ⟨E, ⟨-, h⟩, -⟩
  · obtain rfl := (nI_eq (by omega) (by omega)).mp e
    rcases hv with ⟨e1, -⟩ | ⟨-, h9⟩
    · rw [er, e1]; decide
    · exact absurd hO h9
  · rw [nI_toInt (by omega)] at h; omega
theorem od13 {d cnt : Nat} {q r : Int32} (hd : d < 4) (hq : q = nI cnt) (h : ((0 ≤ (nI d).toInt ∧ (nI d).toInt ≤ 3) ∧ r = q) ∨ ∃ E, (E = "java/lang/IllegalArgumentException" ∧ ((nI d).toInt < 0 ∨ 3 < (nI d).toInt)) ∧ r = cdE E) : r = nI cnt := by
  rcases h with ⟨-, rfl⟩ | ⟨E, ⟨-, h⟩, -⟩
  · exact hq
  · rw [nI_toInt (by omega)] at h; omega
theorem wearF_v {x : St} {b k : Nat} (hk : k < 32) : wearF x b (nI k) = x 20 b k := by
  unfold wearF
  rw [if_neg (nI_pos (by omega)), if_pos (show nI k < (32 : Int32) from nI_lt (b := 32) hk (by omega)), nI_clamp (by omega)]
/-- the greatest wear; the sums over the cells, as the law makes them -/
def mxF (x : St) (b : Nat) : Nat → Int32
  | 0 => 0
  | k + 1 => if mxF x b k < x 20 b k then x 20 b k else mxF x b k
def wlF (x : St) (b : Nat) (v : Int64) : Nat → Int64
  | 0 => v
  | k + 1 => wlF x b v k + (x 20 b k).toInt64
def woS (x : St) : Nat → Int64
  | 0 => 0
  | b + 1 => wlF x b (woS x b) 32
def slF (x : St) (b : Nat) (v : Int64) : Nat → Int64
  | 0 => v
  | k + 1 => 31 * slF x b v k + (bitF (x 15 b 0) (nI k)).toInt64 + 2 * (x 20 b k).toInt64
def soS (x : St) : Nat → Int64
  | 0 => 0
  | b + 1 => slF x b (soS x b) 32
abbrev tcF (x : St) (b : Nat) : Nat := (x 19 b 0).toNatClampNeg
/-- what queuedAt may answer -/
abbrev QA (x : St) (nn : Nat) (p0 p1 r : Int32) : Prop := ((0 ≤ p0.toInt ∧ p0.toInt ≤ 3) ∧ ∃ k, k < nn ∧ (qcP x (x 43 0 k).toNatClampNeg p0 ∧ qrF x p0 k = p1) ∧ r = nI (x 43 0 k).toNatClampNeg ∧ ∀ j, j < k → ¬ (qcP x (x 43 0 j).toNatClampNeg p0 ∧ qrF x p0 j = p1)) ∨ ∃ E, ((E = "java/lang/IllegalArgumentException" ∧ (p0.toInt < 0 ∨ 3 < p0.toInt)) ∨ (E = "java/lang/IndexOutOfBoundsException" ∧ (0 ≤ p0.toInt ∧ p0.toInt ≤ 3) ∧ ∀ j, j < nn → ¬ (qcP x (x 43 0 j).toNatClampNeg p0 ∧ qrF x p0 j = p1))) ∧ r = cdE E
/-- what a board shows hangs together -/
def FB (x : St) (nn : Nat) (D P : Nat → Int32) (b : Nat) : Prop :=
  (∀ c, c < 32 → x 20 b c + bitF (x 15 b 0) (nI c) ≤ 60 ∧ x 20 b c - x 20 b c / 2 * 2 = bitF (x 15 b 0) (nI c)) ∧ x 16 b 0 = mxF x b 32 ∧ xorF x b (tcF x b) = x 15 b 0 ∧ pcF (x 15 b 0) ≤ x 11 b 0 ∧ x 11 b 0 ≤ 200 ∧
  ((x 12 b 0 = -1 ∧ x 15 b 0 = 0 ∧ x 13 b 0 = 0) ∨ ∃ n, n < nn ∧ x 12 b 0 = nI n ∧ (∃ s, s ≤ 7 ∧ x 13 b 0 = nI s ∧ x 15 b 0 = shK (P n) s) ∧ ofP x n ∧ ∃ d, d < 4 ∧ D b = nI d ∧ ∃ cnt a, a < cnt ∧ cnt ≤ 40 ∧ qcF x (nI d) nn = nI cnt ∧ ∀ r, QA x nn (nI d) (nI a) r → r = nI n)
def FR (x : St) (nn : Nat) (D P : Nat → Int32) : Prop :=
  GI x 4 nn ∧ (∀ b, b < 4 → FB x nn D P b) ∧ woS x 4 = chgF x 4 ∧ soS x 4 = csF x 4 ∧ ∀ j, j < 4 → okB x (tcF x) j
theorem GI.tc4 {x : St} {nb nn : Nat} (h : GI x nb nn) : ∀ b, b < 6 → tcF x b ≤ 1920 := fun b hb => h.tc hb
theorem GI.x194 {x : St} {nb nn : Nat} (h : GI x nb nn) : ∀ b, b < 6 → x 19 b 0 = nI (tcF x b) := fun b hb => h.x19 hb
theorem c4f : FP.i2f (nI 4) = 1082130432 := by decide +kernel
theorem c128 : FP.i2d (nI 4 * 32) = 4638707616191610880 := by decide +kernel
theorem hfn4 {x : St} (h0 : x 0 0 0 = nI 4) : vf_n32 (FP.fdiv (FP.i2f (ssF x 4)) (FP.i2f (x 0 0 0))) := by
  obtain ⟨c, h1, h2⟩ := ss_nat x 4
  rw [h2, h0]; exact (shr_ok 4 (by omega) (by omega) c (by omega)).1
theorem hfnL {x : St} (h0 : x 0 0 0 = nI 4) : vf_n32 (FP.fdiv (FP.i2f (ssF x 4)) 1082130432) := by rw [← c4f, ← h0]; exact hfn4 h0
theorem hfd4 {x : St} (h0 : x 0 0 0 = nI 4) : vf_n64 (FP.ddiv (FP.l2d (chgF x 4)) (FP.i2d (x 0 0 0 * 32))) := div_nn (l2d_nn _) (by rw [h0]; exact (den_ok 4 (by omega) (by omega)).1)
theorem hfdL {x : St} {v : Int64} (h0 : x 0 0 0 = nI 4) (hv : v = chgF x 4) : vf_n64 (FP.ddiv (FP.l2d v) 4638707616191610880) := by rw [← c128, ← h0, hv]; exact hfd4 h0
theorem cmpD {x : St} {v : Int64} {op : CmpOp} (h0 : x 0 0 0 = nI 4) (hv : v = chgF x 4) : ¬ ¬ Op.cmpValue (FP.dcmp (FP.ddiv (FP.l2d (chgF x 4)) (FP.i2d (x 0 0 0 * 32))) (FP.ddiv (FP.l2d v) 4638707616191610880)) op = 0 := fun h9 => h9 (by rw [← c128, ← h0, hv]; exact cmp9 (hfd4 h0) op)
theorem fc5 : ∀ c, c < 5 → FP.fcmp (FP.fdiv (FP.i2f (nI c)) (FP.i2f (nI 4))) (FP.fdiv (FP.i2f (nI c)) 1082130432) = some .eq := by decide +kernel
theorem cmpFF {x : St} {op : CmpOp} (h0 : x 0 0 0 = nI 4) : ¬ ¬ Op.cmpValue (FP.fcmp (FP.fdiv (FP.i2f (ssF x 4)) (FP.i2f (x 0 0 0))) (FP.fdiv (FP.i2f (ssF x 4)) 1082130432)) op = 0 := fun h9 => h9 (by
  obtain ⟨c, h1, h2⟩ := ss_nat x 4
  rw [h2, h0, fc5 c (by omega)]; cases op <;> rfl)
theorem lgc9 {a b : Int64} (h : a = b) : ¬ ¬ lg_cmp a b = 0 := fun h9 => h9 (by rw [h]; simp [lg_cmp])
theorem od17 {m nn nb d : Nat} {x : St} {r : Int32} (hm : m < nn) (hnn : nn ≤ 40) (hd : d < 4) (h : (∃ j, j < nn ∧ nI m = nI j ∧ (0 ≤ (nI d).toInt ∧ (nI d).toInt ≤ 3) ∧ r = riF x j (nI d) nb) ∨ ∃ E, ((E = "java/lang/IndexOutOfBoundsException" ∧ ((nI m).toInt < 0 ∨ (nn : Int) ≤ (nI m).toInt)) ∨ (E = "java/lang/IllegalArgumentException" ∧ (∃ j, j < nn ∧ nI m = nI j) ∧ ((nI d).toInt < 0 ∨ 3 < (nI d).toInt))) ∧ r = cdE E) : r = riF x m (nI d) nb := by
  rcases h with ⟨j, hj, e, -, rfl⟩ | ⟨E, h | h, -⟩
  · rw [(nI_eq (by omega) (by omega)).mp e]
  · have h := h.2; rw [nI_toInt (by omega)] at h; omega
  · have h := h.2.2; rw [nI_toInt (by omega)] at h; omega
theorem od19 {nn nb d : Nat} {x : St} {q r : Int32} (hd : d < 4) (hq : q ≠ 0) (h : ((0 ≤ (nI d).toInt ∧ (nI d).toInt ≤ 3 ∧ q.toInt ≠ 0) ∧ r = scF x q (nI d) nb nn) ∨ ∃ E, (E = "java/lang/IllegalArgumentException" ∧ ((nI d).toInt < 0 ∨ 3 < (nI d).toInt ∨ q.toInt = 0)) ∧ r = cdE E) : r = scF x q (nI d) nb nn := by
  rcases h with ⟨-, rfl⟩ | ⟨E, ⟨-, h⟩, -⟩
  · rfl
  · rw [nI_toInt (by omega)] at h
    rcases h with h | h | h
    · omega
    · omega
    · exact absurd (Int32.toInt_inj.mp (h.trans i_0.symm)) hq
/-- readers by districts, by hours -/
def rdS (x : St) (m : Nat) : Nat → Int32
  | 0 => 0
  | d + 1 => rdS x m d + riF x m (nI d) 4
def riS (x : St) (m c : Nat) : Nat → Int32
  | 0 => 0
  | h + 1 => riS x m c h + poF x (nI m) (nI h) c
def RR (x : St) (nn hr c : Nat) : Prop := ∀ m, m < nn → rdS x m 4 = riS x m c (hr + 1) ∧ poF x (nI m) (x 3 0 0 + 1) c = 0
/-- what suspectAt may answer -/
abbrev SA (x : St) (nb nn : Nat) (p0 p1 p2 r : Int32) : Prop := ((0 ≤ p1.toInt ∧ p1.toInt ≤ 3 ∧ p0.toInt ≠ 0) ∧ ∃ k, k < nn ∧ (suP x k p0 p1 nb ∧ saF x k p0 p1 nb nn = p2) ∧ r = nI k ∧ ∀ j, j < k → ¬ (suP x j p0 p1 nb ∧ saF x j p0 p1 nb nn = p2)) ∨ ∃ E, ((E = "java/lang/IllegalArgumentException" ∧ (p1.toInt < 0 ∨ 3 < p1.toInt ∨ p0.toInt = 0)) ∨ (E = "java/lang/IndexOutOfBoundsException" ∧ (0 ≤ p1.toInt ∧ p1.toInt ≤ 3 ∧ p0.toInt ≠ 0) ∧ ∀ j, j < nn → ¬ (suP x j p0 p1 nb ∧ saF x j p0 p1 nb nn = p2))) ∧ r = cdE E
def SR (x : St) (nn : Nat) : Prop := ∀ (q : Int32) (d : Nat), q ≠ 0 → d < 4 → ∃ (M : Nat) (v pl : Nat → Nat), M ≤ 40 ∧ scF x q (nI d) 4 nn = nI M ∧ (∀ k, k < M → pl k < nn ∧ riF x (pl k) (nI d) 4 = nI (v k) ∧ ∀ r, SA x 4 nn q (nI d) (nI k) r → r = nI (pl k)) ∧ (∀ r, SA x 4 nn q (nI d) (nI M) r → r = -2001) ∧ (∀ k, k < M → v k ≤ 1000000) ∧ ∀ k, k + 1 < M → v (k + 1) ≤ v k
def bfF (v : Nat → Nat) : Nat → Int32
  | 0 => 1000000
  | k + 1 => nI (v k)
theorem bf_le {v : Nat → Nat} {M k : Nat} (hk : k < M) (h1 : ∀ k, k < M → v k ≤ 1000000) (h2 : ∀ k, k + 1 < M → v (k + 1) ≤ v k) : ¬ bfF v k < nI (v k) := by
  have h3 := h1 k hk
  cases k with
  | zero => show ¬ nI 1000000 < nI (v 0); exact nI_nlt h3 (by omega)
  | succ k => have h4 := h1 k (by omega); exact nI_nlt (h2 k hk) (by omega)
theorem and_eq {a q : Int32} : a &&& q = q ↔ q &&& (a ^^^ (-1)) = 0 := by
  constructor
  · intro h
    refine b_ext (fun c hc => ?_)
    have h1 : bt (a &&& q) c = bt q c := by rw [h]
    rw [b_and] at h1
    rw [b_and, b_xor, b_m1 c hc, b_0]
    revert h1
    cases bt a c <;> cases bt q c <;> decide
  · intro h
    refine b_ext (fun c hc => ?_)
    have h1 : bt (q &&& (a ^^^ (-1))) c = bt 0 c := by rw [h]
    rw [b_and, b_xor, b_m1 c hc, b_0] at h1
    rw [b_and]
    revert h1
    cases bt a c <;> cases bt q c <;> decide
theorem chm_sh {x : St} {m : Nat} {p q : Int32} (e : p = x 31 m 0) : (∃ c, c < 8 ∧ shK p c &&& q = q) ↔ chmP x m q := by
  subst e
  constructor
  · rintro ⟨c, hc, h⟩
    exact ⟨c, hc, by rw [shK_shF (by omega)] at h; exact and_eq.mp h⟩
  · rintro ⟨c, hc, h⟩
    exact ⟨c, hc, by rw [shK_shF (by omega)]; exact and_eq.mpr h⟩
theorem sc1 {x : St} {p d : Int32} {nb k : Nat} (h : suP x k p d nb) : scF x p d nb k + (if (1 : Int32) = 0 then 0 else 1) = scF x p d nb (k + 1) := by rw [sc_t h]; rfl
theorem sc0 {x : St} {p d : Int32} {nb k : Nat} (h : ¬ suP x k p d nb) : scF x p d nb k + (if (0 : Int32) = 0 then 0 else 1) = scF x p d nb (k + 1) := by rw [← sc_f h]; exact Int32.add_zero _
theorem pk_nat {r m : Int32} {n : Nat} (h : 0 ≤ r.toInt ∧ r.toInt < m.toInt) (hm : m.toInt = n) (hn : n < 2 ^ 31) : ∃ c, c < n ∧ r = nI c := by
  obtain ⟨j, hj, rfl⟩ := nI_of (x := r) (by rw [Int32.lt_iff_toInt_lt, i_0]; omega)
  rw [nI_toInt hj] at h
  exact ⟨j, by omega, rfl⟩
end E35
