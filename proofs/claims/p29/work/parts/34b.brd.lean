/-! A BOARD: the class's wear, kept cell by cell, and what is kept beside it -/
section BRD
def sw (w : Nat → Nat) : Nat → Nat
  | 0 => 0
  | n + 1 => sw w n + w n
def b2n (b : Bool) : Nat := if b then 1 else 0
theorem b2n_le (b : Bool) : b2n b ≤ 1 := by cases b <;> decide
theorem b2n_t : b2n true = 1 := rfl
theorem b2n_f : b2n false = 0 := rfl
abbrev cN (β : Nat → Bool) (n : Nat) : Nat := sw (fun c => b2n (β c)) n
theorem sw_congr {w v : Nat → Nat} {n : Nat} (h : ∀ c, c < n → w c = v c) : sw w n = sw v n := by
  induction n with
  | zero => rfl
  | succ n ih => show sw w n + w n = sw v n + v n; rw [ih (fun c hc => h c (by omega)), h n (by omega)]
theorem sw_add {w v : Nat → Nat} {n : Nat} : sw (fun c => w c + v c) n = sw w n + sw v n := by
  induction n with
  | zero => rfl
  | succ n ih => show sw _ n + (w n + v n) = (sw w n + w n) + (sw v n + v n); rw [ih]; omega
theorem sw_le {w : Nat → Nat} {n B : Nat} (h : ∀ c, c < n → w c ≤ B) : sw w n ≤ n * B := by
  induction n with
  | zero => exact Nat.zero_le _
  | succ n ih =>
    have h1 := ih (fun c hc => h c (by omega))
    have h2 := h n (by omega)
    show sw w n + w n ≤ (n + 1) * B
    rw [Nat.add_mul]
    omega
theorem sw_lt {w : Nat → Nat} {n B c : Nat} (h : ∀ c, c < n → w c ≤ B) (hc : c < n) (hw : w c < B) : sw w n < n * B := by
  induction n with
  | zero => omega
  | succ n ih =>
    have h2 := h n (by omega)
    show sw w n + w n < (n + 1) * B
    rw [Nat.add_mul]
    by_cases hn : c = n
    · subst hn
      have h1 := sw_le (w := w) (n := c) (B := B) (fun q hq => h q (by omega))
      omega
    · have h1 := ih (fun q hq => h q (by omega)) (by omega)
      omega
theorem cN_pos {β : Nat → Bool} {n c : Nat} (hc : c < n) (h : β c = true) : 1 ≤ cN β n := by
  induction n with
  | zero => omega
  | succ n ih =>
    show 1 ≤ sw _ n + b2n (β n)
    by_cases hn : c = n
    · subst hn; rw [h, b2n_t]; omega
    · have := ih (by omega)
      have h9 : 1 ≤ sw (fun c => b2n (β c)) n := this
      omega
theorem cN_le {β : Nat → Bool} (n : Nat) : cN β n ≤ n := by
  have := sw_le (w := fun c => b2n (β c)) (n := n) (B := 1) (fun c _ => b2n_le _)
  rw [Nat.mul_one] at this
  exact this
theorem cnP_cN {P : Nat → Prop} {β : Nat → Bool} {n : Nat} (h : ∀ c, c < n → (P c ↔ β c = true)) : cnP P n = nI (cN β n) := by
  induction n with
  | zero => rfl
  | succ n ih =>
    have e := ih (fun c hc => h c (by omega))
    by_cases h9 : P n
    · rw [← cnP_t h9, e, nI_1]
      show _ = nI (sw _ n + b2n (β n))
      rw [(h n (by omega)).mp h9] <;> rfl
    · rw [← cnP_f h9, e, Int32.add_zero]
      have h8 : β n = false := by cases hb : β n with | true => exact absurd ((h n (by omega)).mpr hb) h9 | false => rfl
      show _ = nI (sw _ n + b2n (β n))
      rw [h8] <;> rfl
theorem pc_cN (p : Int32) : pcF p = nI (cN (bt p) 32) := (pc_cn p).trans (cnP_cN (fun _ _ => Iff.rfl))
theorem bit_1 {k c : Nat} (hk : k < 32) (hc : c < 32) : bt ((1 : Int32) <<< (nI k &&& 31)) c = decide (c = k) := by
  rw [b_shl k hk 1 hc]
  have h1 : ∀ i, i < 32 → bt 1 i = decide (i = 0) := by decide +kernel
  by_cases h : k ≤ c
  · rw [h1 (c - k) (by omega), decide_eq_true h, Bool.true_and]
    by_cases h2 : c = k
    · rw [decide_eq_true h2, decide_eq_true (by omega)]
    · rw [decide_eq_false h2, decide_eq_false (by omega)]
  · rw [decide_eq_false h, decide_eq_false (by omega), Bool.false_and]
/-- the wear, and what is kept beside it -/
def WP (x : St) (i : Nat) (w : Nat → Nat) : Prop := (∀ c, c < 32 → x 20 i c = nI (w c)) ∧ (∃ M, x 16 i 0 = nI M ∧ (∀ c, c < 32 → w c ≤ M) ∧ (∃ c, c < 32 ∧ w c = M) ∧ ∀ c, c < 32 → bt (x 17 i 0) c = decide (w c = M)) ∧ ∀ c, c < 32 → bt (x 18 i 0) c = decide (60 ≤ w c)
def inc (w : Nat → Nat) (k : Nat) : Nat → Nat := fun c => if c = k then w c + 1 else w c
theorem inc_eq {w : Nat → Nat} {k : Nat} : inc w k k = w k + 1 := if_pos rfl
theorem inc_ne {w : Nat → Nat} {k c : Nat} (h : c ≠ k) : inc w k c = w c := if_neg h
theorem wo_step {x : St} {i k : Nat} {w : Nat → Nat} (h : WP x i w) (h60 : ∀ c, c < 32 → w c ≤ 60) (hk : k < 32) (hw : w k < 60) : WP (woF x i (nI k)) i (inc w k) := by
  obtain ⟨h20, ⟨M, h16, hM, ⟨c0, hc0, e0⟩, h17⟩, h18⟩ := h
  have hM60 : w k ≤ M := hM k hk
  rw [woF_2 (nI_pos (by omega)) (nI_lt (b := 32) hk (by omega))]
  have hcl : (nI k).toNatClampNeg = k := nI_clamp (by omega)
  have ev : wo1 x i (nI k) 20 i (nI k).toNatClampNeg = nI (w k + 1) := by
    unfold wo1; rw [hcl, st_eq, h20 k hk, nI_1]
  rw [ev]
  have e1 : ∀ r a b, r ≠ 20 → wo1 x i (nI k) r a b = x r a b := fun r a b h => st_nr (by omega)
  have e20 : ∀ c, c < 32 → wo1 x i (nI k) 20 i c = nI (inc w k c) := fun c hc => by
    unfold wo1; rw [hcl]
    by_cases h : c = k
    · subst h; rw [st_eq, h20 c hc, inc_eq, nI_1]
    · rw [st_j (by omega), h20 c hc, inc_ne h]
  generalize wo1 x i (nI k) = z at e1 e20
  have hlt31 : w k + 1 < 2 ^ 31 := by omega
  -- 18 first: it doesn't touch the rest
  have s18 : ∀ (y : St), (∀ r a b, r ≠ 16 → r ≠ 17 → y r a b = z r a b) → ∀ c, c < 32 → bt (wo4 y i (nI (w k + 1)) (1 <<< (nI k &&& 31)) 18 i 0) c = decide (60 ≤ inc w k c) := fun y hy c hc => by
    by_cases h9 : w k + 1 < 60
    · rw [wo4_t (nI_lt (b := 60) h9 (by omega)), hy 18 _ _ (by omega) (by omega), e1 18 _ _ (by omega), h18 c hc]
      by_cases hck : c = k
      · subst hck; rw [inc_eq, decide_eq_false (by omega), decide_eq_false (by omega)]
      · rw [inc_ne hck]
    · rw [wo4_f (nI_nlt (b := 60) (by omega) (by omega)), st_eq, b_or, hy 18 _ _ (by omega) (by omega), e1 18 _ _ (by omega), h18 c hc, bit_1 hk hc]
      by_cases hck : c = k
      · subst hck; rw [inc_eq, decide_eq_true (rfl : c = c), decide_eq_true (show 60 ≤ w c + 1 by omega), Bool.or_true]
      · rw [inc_ne hck, decide_eq_false hck, Bool.or_false]
  have s4 : ∀ (y : St) r a b, r ≠ 18 → wo4 y i (nI (w k + 1)) (1 <<< (nI k &&& 31)) r a b = y r a b := fun y r a b h => by
    unfold wo4
    split
    · rfl
    · exact st_nr (by omega)
  have hM6 : M ≤ 60 := by rw [← e0]; exact h60 c0 hc0
  have z16 : z 16 i 0 = nI M := (e1 16 _ _ (by omega)).trans h16
  have z17 : z 17 i 0 = x 17 i 0 := e1 17 _ _ (by omega)
  unfold wo5
  by_cases h1 : w k + 1 ≤ M
  · have ew2 : wo2 z i (nI (w k + 1)) = z := wo2_t (by rw [z16]; exact nI_le h1 (by omega))
    rw [ew2]
    by_cases h2 : w k + 1 = M
    · have ew3 : wo3 z i (nI (w k + 1)) (1 <<< (nI k &&& 31)) = st z 17 i 0 (z 17 i 0 ||| (1 <<< (nI k &&& 31))) := wo3_t (by rw [z16, h2])
      rw [ew3]
      refine ⟨fun c hc => ?_, ⟨M, ?_, fun c hc => ?_, ⟨k, hk, ?_⟩, fun c hc => ?_⟩, s18 _ (fun r a b h3 h4 => st_nr (by omega))⟩
      · rw [s4 _ _ _ _ (by omega), st_nr (by omega)]; exact e20 c hc
      · rw [s4 _ _ _ _ (by omega), st_nr (by omega)]; exact z16
      · by_cases hck : c = k
        · subst hck; rw [inc_eq]; omega
        · rw [inc_ne hck]; exact hM c hc
      · rw [inc_eq]; exact h2
      · rw [s4 _ _ _ _ (by omega), st_eq, b_or, z17, h17 c hc, bit_1 hk hc]
        by_cases hck : c = k
        · subst hck; rw [inc_eq, decide_eq_true (rfl : c = c), decide_eq_true h2, Bool.or_true]
        · rw [inc_ne hck, decide_eq_false hck, Bool.or_false]
    · have ew3 : wo3 z i (nI (w k + 1)) (1 <<< (nI k &&& 31)) = z := wo3_f (by rw [z16]; exact fun h9 => h2 ((nI_eq (by omega) (by omega)).mp h9))
      rw [ew3]
      have hc0k : c0 ≠ k := fun h9 => by rw [h9] at e0; omega
      refine ⟨fun c hc => ?_, ⟨M, ?_, fun c hc => ?_, ⟨c0, hc0, ?_⟩, fun c hc => ?_⟩, s18 _ (fun r a b h3 h4 => rfl)⟩
      · rw [s4 _ _ _ _ (by omega)]; exact e20 c hc
      · rw [s4 _ _ _ _ (by omega)]; exact z16
      · by_cases hck : c = k
        · subst hck; rw [inc_eq]; omega
        · rw [inc_ne hck]; exact hM c hc
      · rw [inc_ne hc0k]; exact e0
      · rw [s4 _ _ _ _ (by omega), z17, h17 c hc]
        by_cases hck : c = k
        · subst hck; rw [inc_eq, decide_eq_false (by omega), decide_eq_false (by omega)]
        · rw [inc_ne hck]
  · have ew2 : wo2 z i (nI (w k + 1)) = st (st z 16 i 0 (nI (w k + 1))) 17 i 0 0 := wo2_f (by rw [z16]; exact nI_ge (by omega) (by omega))
    rw [ew2]
    have ew3 : wo3 (st (st z 16 i 0 (nI (w k + 1))) 17 i 0 0) i (nI (w k + 1)) (1 <<< (nI k &&& 31)) = st (st (st z 16 i 0 (nI (w k + 1))) 17 i 0 0) 17 i 0 (st (st z 16 i 0 (nI (w k + 1))) 17 i 0 0 17 i 0 ||| (1 <<< (nI k &&& 31))) := wo3_t (by rw [st_nr (by omega), st_eq])
    rw [ew3]
    have hv : w k + 1 = M + 1 := by omega
    refine ⟨fun c hc => ?_, ⟨w k + 1, ?_, fun c hc => ?_, ⟨k, hk, inc_eq⟩, fun c hc => ?_⟩, s18 _ (fun r a b h3 h4 => (st_nr (by omega)).trans ((st_nr (by omega)).trans (st_nr (by omega))))⟩
    · rw [s4 _ _ _ _ (by omega), st_nr (by omega), st_nr (by omega), st_nr (by omega)]; exact e20 c hc
    · rw [s4 _ _ _ _ (by omega), st_nr (by omega), st_nr (by omega), st_eq]
    · by_cases hck : c = k
      · subst hck; rw [inc_eq]; omega
      · rw [inc_ne hck]; have := hM c hc; omega
    · rw [s4 _ _ _ _ (by omega), st_eq, b_or, st_eq, b_0, bit_1 hk hc, Bool.false_or]
      by_cases hck : c = k
      · subst hck; rw [inc_eq, decide_eq_true rfl, decide_eq_true rfl]
      · rw [inc_ne hck, decide_eq_false hck, decide_eq_false (by have := hM c hc; omega)]
/-- the wear behind a change of the cells p: what it was, one more at each -/
def incs (w : Nat → Nat) (β : Nat → Bool) (k : Nat) : Nat → Nat := fun c => w c + (if c < k then b2n (β c) else 0)
theorem incs_0 {w : Nat → Nat} {β : Nat → Bool} : incs w β 0 = w := by
  funext c
  unfold incs
  rw [if_neg (by omega)] <;> rfl
theorem incs_s {w : Nat → Nat} {β : Nat → Bool} {k : Nat} : incs w β (k + 1) = if β k = true then inc (incs w β k) k else incs w β k := by
  funext c
  by_cases h : β k = true
  · rw [if_pos h]
    by_cases hc : c = k
    · subst hc
      rw [inc_eq]
      unfold incs
      rw [if_pos (by omega), if_neg (by omega), h, b2n_t]
      try omega
    · rw [inc_ne hc]
      unfold incs
      by_cases h2 : c < k
      · rw [if_pos (by omega), if_pos h2]
      · rw [if_neg (by omega), if_neg h2]
  · have h8 : β k = false := by cases hb : β k with | true => exact absurd hb h | false => rfl
    rw [if_neg h]
    unfold incs
    by_cases hc : c = k
    · subst hc
      rw [if_pos (by omega), if_neg (by omega), h8, b2n_f]
    · by_cases h2 : c < k
      · rw [if_pos (by omega), if_pos h2]
      · rw [if_neg (by omega), if_neg h2]
theorem incs_at {w : Nat → Nat} {β : Nat → Bool} {k : Nat} : incs w β k k = w k := by
  unfold incs
  rw [if_neg (by omega)] <;> rfl
theorem incs_le {w : Nat → Nat} {β : Nat → Bool} (h60 : ∀ c, c < 32 → w c ≤ 60) (hβ : ∀ c, c < 32 → β c = true → w c < 60) (k : Nat) : ∀ c, c < 32 → incs w β k c ≤ 60 := by
  intro c hc
  have h1 := h60 c hc
  unfold incs
  split
  · cases hb : β c with
    | true => have := hβ c hc hb; rw [b2n_t]; omega
    | false => rw [b2n_f]; omega
  · omega
theorem woL_step {x : St} {i : Nat} {p : Int32} {w : Nat → Nat} (h : WP x i w) (h60 : ∀ c, c < 32 → w c ≤ 60) (hp : ∀ c, c < 32 → bt p c = true → w c < 60) (k : Nat) (hk : k ≤ 32) : WP (woL x i p k) i (incs w (bt p) k) := by
  induction k with
  | zero => rw [incs_0]; exact h
  | succ k ih =>
    have ih := ih (by omega)
    rw [incs_s]
    by_cases h9 : bt p k = true
    · rw [if_pos h9, ← woL_t ((bitF_bt (by omega)).mpr h9)]
      exact wo_step ih (incs_le h60 hp k) (by omega) (by rw [incs_at]; exact hp k (by omega) h9)
    · rw [if_neg h9, ← woL_f (fun h8 => h9 ((bitF_bt (by omega)).mp h8))]
      exact ih
/-- what is written down gives what is black -/
theorem xor_st {x y : St} {i n : Nat} (h : ∀ j, j < n → y 21 i j = x 21 i j) : xorF y i n = xorF x i n := by
  induction n with
  | zero => rfl
  | succ n ih => show xorF y i n ^^^ y 21 i n = xorF x i n ^^^ x 21 i n; rw [ih (fun j hj => h j (by omega)), h n (by omega)]
def XP (x : St) (i : Nat) (w : Nat → Nat) : Prop := ∃ tc, x 19 i 0 = nI tc ∧ tc ≤ sw w 32 ∧ xorF x i tc = x 15 i 0
/-- the class's board: wear w, charge q -/
def CB (x : St) (i : Nat) (w : Nat → Nat) (q : Nat) : Prop := WP x i w ∧ (∀ c, c < 32 → w c ≤ 60) ∧ (∀ c, c < 32 → w c % 2 = b2n (bt (x 15 i 0) c)) ∧ XP x i w ∧ (x 11 i 0 = nI q ∧ q ≤ 200)
theorem xor_e {a b : Bool} : (a ^^ b) = !(a == b) := by cases a <;> cases b <;> rfl
theorem CB.change {x : St} {i q : Nat} {p : Int32} {w : Nat → Nat} (h : CB x i w q) (hp : ∀ c, c < 32 → bt p c = true → w c < 60) (hq : cN (bt p) 32 ≤ q) : CB (chF x i p) i (incs w (bt p) 32) (q - cN (bt p) 32) ∧ chF x i p 15 i 0 = x 15 i 0 ^^^ p := by
  obtain ⟨hW, h60, hpar, ⟨tc, e19, htc, hx⟩, e11, hq2⟩ := h
  have hs60 : sw w 32 ≤ 1920 := sw_le (n := 32) (B := 60) h60
  have a1 : ∀ r a b, r ≠ 11 → r ≠ 15 → ch1 x i p r a b = x r a b := fun r a b h1 h2 => ch1_r ⟨h1, h2⟩
  have a15 : ch1 x i p 15 i 0 = x 15 i 0 ^^^ p := by unfold ch1; rw [st_eq, st_nr (by omega)]
  have a11 : ch1 x i p 11 i 0 = nI (q - cN (bt p) 32) := by
    unfold ch1; rw [st_nr (by omega), st_eq, e11, pc_cN, nI_sub hq]
  have e15 : chF x i p 15 i 0 = x 15 i 0 ^^^ p := (woL_r (by omega)).trans ((ch2_r (by omega)).trans a15)
  have e2 : ∀ r a b, r ≠ 21 → r ≠ 19 → ch2 (ch1 x i p) i p r a b = ch1 x i p r a b := fun r a b h1 h2 => ch2_r ⟨h1, h2⟩
  have hW2 : WP (ch2 (ch1 x i p) i p) i w := by
    obtain ⟨h20, ⟨M, h16, hM, hc0, h17⟩, h18⟩ := hW
    refine ⟨fun c hc => ?_, ⟨M, ?_, hM, hc0, fun c hc => ?_⟩, fun c hc => ?_⟩
    · rw [e2 _ _ _ (by omega) (by omega), a1 _ _ _ (by omega) (by omega)]; exact h20 c hc
    · rw [e2 _ _ _ (by omega) (by omega), a1 _ _ _ (by omega) (by omega)]; exact h16
    · rw [e2 _ _ _ (by omega) (by omega), a1 _ _ _ (by omega) (by omega)]; exact h17 c hc
    · rw [e2 _ _ _ (by omega) (by omega), a1 _ _ _ (by omega) (by omega)]; exact h18 c hc
  refine ⟨⟨woL_step hW2 h60 hp 32 (by omega), incs_le h60 hp 32, fun c hc => ?_, ?_, ?_, by omega⟩, e15⟩
  · rw [e15, b_xor]
    unfold incs
    rw [if_pos hc]
    have h1 := hpar c hc
    cases hb : bt p c <;> cases hb2 : bt (x 15 i 0) c <;> rw [hb2] at h1 <;> simp only [b2n, if_true, Bool.false_eq_true, if_false, Bool.xor_false, Bool.xor_true, Bool.not_true, Bool.not_false] at h1 ⊢ <;> omega
  · have es : sw (incs w (bt p) 32) 32 = sw w 32 + cN (bt p) 32 := by
      rw [← sw_add]
      exact sw_congr (fun c hc => by unfold incs; rw [if_pos hc])
    by_cases h0 : p = 0
    · have z : ch2 (ch1 x i p) i p = ch1 x i p := ch2_0 h0
      refine ⟨tc, ?_, by omega, ?_⟩
      · refine (woL_r (by omega)).trans ?_
        rw [z, a1 _ _ _ (by omega) (by omega)]; exact e19
      · rw [e15, h0, Int32.xor_zero, ← hx]
        refine xor_st (fun j hj => (woL_r (by omega)).trans ?_)
        rw [← h0, z, a1 _ _ _ (by omega) (by omega)]
    · have hpos : ∃ c, c < 32 ∧ bt p c = true := Classical.byContradiction (fun h9 => h0 (b_ext (fun c hc => by
        rw [b_0]
        cases hb : bt p c with
        | true => exact absurd ⟨c, hc, hb⟩ h9
        | false => rfl)))
      obtain ⟨c, hc, hb⟩ := hpos
      have hlt : sw w 32 < 1920 := sw_lt (n := 32) (B := 60) h60 hc (hp c hc hb)
      have hcn := cN_pos hc hb
      have z19 : ch1 x i p 19 i 0 = nI tc := (a1 _ _ _ (by omega) (by omega)).trans e19
      have z : ch2 (ch1 x i p) i p = st (st (ch1 x i p) 21 i tc p) 19 i 0 (nI (tc + 1)) := by
        rw [ch2_2 h0 (by rw [z19]; exact nI_ge (b := 1920) (by omega) (by omega)), z19, nI_clamp (by omega), st_nr (by omega), z19, nI_1]
      refine ⟨tc + 1, ?_, by omega, ?_⟩
      · refine (woL_r (by omega)).trans ?_
        rw [z, st_eq]
      · rw [e15, ← hx]
        show xorF _ i tc ^^^ _ = _
        have ex : xorF (chF x i p) i tc = xorF x i tc := xor_st (fun j hj => (show chF x i p 21 i j = ch2 (ch1 x i p) i p 21 i j from woL_r (by omega)).trans (by rw [z, st_nr (by omega), st_j (by omega), a1 _ _ _ (by omega) (by omega)]))
        rw [ex]
        congr 1
        refine (woL_r (by omega)).trans ?_
        rw [z, st_nr (by omega), st_eq]
  · exact (woL_r (by omega)).trans ((e2 _ _ _ (by omega) (by omega)).trans a11)
end BRD
