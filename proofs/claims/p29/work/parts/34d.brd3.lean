/-! THE SHIFT: the class's and the reference's are one -/
section BR3
theorem xor_ne (a b : Bool) : (a ^^ b) = (a != b) := by cases a <;> cases b <;> rfl
abbrev tau (p : Int32) (s : Nat) : Nat → Bool := bt (shF p (nI s))
theorem has_tau {p : Int32} {s c : Nat} (hs : s < 8) (hc : c < 32) : hasN p s c ↔ tau p s c = true := (sh_has hs hc).symm
theorem rot_sum (f : Nat → Nat) (s : Nat) (hs : s < 8) : sw (fun c => f (rot s c)) 32 = sw f 32 := by
  rcases (show s = 0 ∨ s = 1 ∨ s = 2 ∨ s = 3 ∨ s = 4 ∨ s = 5 ∨ s = 6 ∨ s = 7 by omega) with rfl | rfl | rfl | rfl | rfl | rfl | rfl | rfl <;> (simp only [sw, rot, Nat.reduceDiv, Nat.reduceMod, Nat.reduceAdd, Nat.reduceSub, Nat.reduceMul]; try omega)
theorem cN_tau {p : Int32} {s : Nat} (hs : s < 8) : cN (tau p s) 32 = cN (bt p) 32 := by
  show sw (fun c => b2n (tau p s c)) 32 = sw (fun c => b2n (bt p c)) 32
  rw [← rot_sum (fun c => b2n (bt p c)) s hs]
  exact sw_congr (fun c hc => by rw [show tau p s c = bt p (rot s c) from sh_bt hs hc])
theorem bk_cN (p : Int32) : bkF p 32 = nI (cN (bt p) 32) := cnP_cN (fun _ hc => has_0 hc)
theorem df_iff {y : St} {b q s c : Nat} {w : Nat → Nat} {β : Nat → Bool} {p : Int32} (h : RB y b w q β) (hs : s < 8) (hc : c < 32) : dfP y b p s c ↔ difs β (tau p s) c = true := by
  unfold dfP difs
  rw [(h.1 c hc).2]
  by_cases ht : hasN p s c
  · rw [bz_t ht, (has_tau hs hc).mp ht]
    cases β c <;> decide
  · have ht2 : tau p s c = false := by cases h9 : tau p s c with | true => exact absurd ((has_tau hs hc).mpr h9) ht | false => rfl
    rw [bz_f ht, ht2]
    cases β c <;> decide
theorem bz_b2n {P : Prop} {b : Bool} (h : P ↔ b = true) : bz P = nI (b2n b) := by
  cases b with
  | true => rw [bz_t (h.mpr rfl)] <;> rfl
  | false => rw [bz_f (fun h9 => by cases h.mp h9)] <;> rfl
theorem co_cN {y : St} {b q s : Nat} {w : Nat → Nat} {β : Nat → Bool} {p : Int32} (h : RB y b w q β) (hs : s < 8) : coF y b p s 32 = nI (cN (difs β (tau p s)) 32) := cnP_cN (fun _ hc => df_iff h hs hc)
theorem bsA_bt {x : St} {i s c : Nat} {p : Int32} : bt (bsA x i p s) c = difs (bt (x 15 i 0)) (tau p s) c := by
  unfold bsA difs
  rw [b_xor, xor_ne]
theorem pc_bsA {x : St} {i s : Nat} {p : Int32} : pcF (bsA x i p s) = nI (cN (difs (bt (x 15 i 0)) (tau p s)) 32) := by
  rw [pc_cN]
  congr 1
  exact sw_congr (fun c hc => by rw [bsA_bt])
-- the greatest
def mxN (v : Nat → Nat) : Nat → Nat
  | 0 => 0
  | n + 1 => max (mxN v n) (v n)
theorem mxN_ge {v : Nat → Nat} {n c : Nat} (hc : c < n) : v c ≤ mxN v n := by
  induction n with
  | zero => omega
  | succ n ih =>
    show v c ≤ max (mxN v n) (v n)
    by_cases h : c = n
    · subst h; exact Nat.le_max_right _ _
    · exact Nat.le_trans (ih (by omega)) (Nat.le_max_left _ _)
theorem mxN_le {v : Nat → Nat} {n B : Nat} (h : ∀ c, c < n → v c ≤ B) : mxN v n ≤ B := by
  induction n with
  | zero => exact Nat.zero_le _
  | succ n ih => exact Nat.max_le.mpr ⟨ih (fun c hc => h c (by omega)), h n (by omega)⟩
theorem mo_nI {a b : Nat} (ha : a < 2 ^ 30) (hb : b < 2 ^ 30) : moI (nI a) (nI b) = nI (max a b) := by
  unfold moI
  by_cases h : a ≤ b
  · rw [if_pos (nI_le h (by omega)), Nat.max_eq_right h]
  · rw [if_neg (nI_ge (by omega) (by omega)), Nat.max_eq_left (by omega)]
theorem wb_mx {y : St} {b q s : Nat} {w : Nat → Nat} {β : Nat → Bool} {p : Int32} (h : RB y b w q β) (h60 : ∀ c, c < 32 → w c ≤ 60) (hs : s < 8) (n : Nat) (hn : n ≤ 32) : wbF y b p s n = nI (mxN (fun c => w c + b2n (difs β (tau p s) c)) n) := by
  induction n with
  | zero => rfl
  | succ n ih =>
    show moI (wbF y b p s n) (wbV y b p s n) = _
    have hb1 := b2n_le (difs β (tau p s) n)
    have hw := h60 n (by omega)
    have e : wbV y b p s n = nI (w n + b2n (difs β (tau p s) n)) := by
      unfold wbV
      rw [(h.1 n (by omega)).1, bz_b2n (df_iff h hs (by omega)), nI_add]
    have hm : mxN (fun c => w c + b2n (difs β (tau p s) c)) n ≤ 61 := mxN_le (fun c hc => by have := h60 c (by omega); have := b2n_le (difs β (tau p s) c); omega)
    rw [ih (by omega), e, mo_nI (by omega) (by omega)] <;> rfl
theorem and_0 {a b : Int32} : a &&& b = 0 ↔ ∀ c, c < 32 → ¬ (bt a c = true ∧ bt b c = true) := by
  constructor
  · intro h c hc h9
    have h2 : bt (a &&& b) c = false := by rw [h, b_0]
    rw [b_and, h9.1, h9.2] at h2
    cases h2
  · intro h
    apply b_ext
    intro c hc
    rw [b_0, b_and]
    have h9 := h c hc
    revert h9
    cases bt a c <;> cases bt b c <;> decide
theorem gw_mx {x : St} {i q s : Nat} {w : Nat → Nat} {p : Int32} (h : CB x i w q) : gwF x i (bsA x i p s) = nI (mxN (fun c => w c + b2n (difs (bt (x 15 i 0)) (tau p s) c)) 32) := by
  obtain ⟨⟨h20, ⟨M, h16, hM, ⟨c0, hc0, e0⟩, h17⟩, h18⟩, h60, -⟩ := h
  unfold gwF
  rw [h16]
  by_cases h1 : bsA x i p s &&& x 17 i 0 = 0
  · rw [if_pos h1]
    have h2 := and_0.mp h1
    refine congrArg nI ?_
    refine Nat.le_antisymm ?_ (mxN_le (fun c hc => ?_))
    · have h3 := mxN_ge (v := fun c => w c + b2n (difs (bt (x 15 i 0)) (tau p s) c)) (n := 32) hc0
      omega
    · have h3 := h2 c hc
      rw [bsA_bt, h17 c hc] at h3
      have h4 := hM c hc
      cases hd : difs (bt (x 15 i 0)) (tau p s) c with
      | true =>
        have h5 : ¬ w c = M := fun h9 => h3 ⟨hd, decide_eq_true h9⟩
        rw [b2n_t]; omega
      | false => rw [b2n_f]; omega
  · rw [if_neg h1, nI_1]
    have h2 : ∃ c, c < 32 ∧ bt (bsA x i p s) c = true ∧ bt (x 17 i 0) c = true := Classical.byContradiction (fun h9 => h1 (and_0.mpr (fun c hc h8 => h9 ⟨c, hc, h8⟩)))
    obtain ⟨c, hc, h3, h4⟩ := h2
    rw [bsA_bt] at h3
    rw [h17 c hc] at h4
    have h4 := of_decide_eq_true h4
    refine congrArg nI ?_
    refine Nat.le_antisymm ?_ (mxN_le (fun c hc => ?_))
    · have h5 := mxN_ge (v := fun c => w c + b2n (difs (bt (x 15 i 0)) (tau p s) c)) (n := 32) hc
      rw [h3, b2n_t, h4] at h5
      exact h5
    · have := hM c hc
      have := b2n_le (difs (bt (x 15 i 0)) (tau p s) c)
      omega
theorem ct_cell (b t : Bool) (w : Nat) (h60 : w ≤ 60) (hp : w % 2 = b2n b) : ¬ (((b != t) || t) = true ∧ 60 ≤ w) ↔ w + b2n (b != t) + b2n t ≤ 60 := by
  cases b <;> cases t <;> simp [b2n] at hp ⊢ <;> omega
theorem ct_cn {x y : St} {i q s : Nat} {w : Nat → Nat} {p : Int32} (h : CB x i w q) (hy : RB y i w q (bt (x 15 i 0))) (hs : s < 8) : ctP x i (shF p (nI s)) ↔ cnQ y i p s 32 := by
  obtain ⟨⟨h20, -, h18⟩, h60, hpar, -, h11, hq⟩ := h
  have e1 : pcF (x 15 i 0 ^^^ shF p (nI s)) + pcF (shF p (nI s)) ≤ x 11 i 0 ↔ coF y i p s 32 + bkF p 32 ≤ y 11 0 i := by
    rw [show pcF (x 15 i 0 ^^^ shF p (nI s)) = nI (cN (difs (bt (x 15 i 0)) (tau p s)) 32) from pc_bsA, pc_cN, show cN (bt (shF p (nI s))) 32 = cN (bt p) 32 from cN_tau hs, h11, co_cN hy hs, bk_cN, hy.2]
  have e2 : ((x 15 i 0 ^^^ shF p (nI s)) ||| shF p (nI s)) &&& x 18 i 0 = 0 ↔ ∀ c, c < 32 → y 16 0 (32 * i + c) + bz (dfP y i p s c) + bz (hasN p s c) ≤ 60 := by
    rw [and_0]
    refine forall_congr' (fun c => forall_congr' (fun hc => ?_))
    rw [(hy.1 c hc).1, bz_b2n (df_iff hy hs hc), bz_b2n (has_tau hs hc), nI_add, nI_add, h18 c hc, b_or, b_xor, xor_ne]
    have h1 := h60 c hc
    have h2 := hpar c hc
    have h3 := b2n_le (difs (bt (x 15 i 0)) (tau p s) c)
    have h4 := b2n_le (tau p s c)
    rw [show (nI (w c + b2n (difs (bt (x 15 i 0)) (tau p s) c) + b2n (tau p s c)) ≤ (60 : Int32)) ↔ w c + b2n (difs (bt (x 15 i 0)) (tau p s) c) + b2n (tau p s c) ≤ 60 from nI_leI (b := 60) (by omega) (by omega), decide_eq_true_iff]
    exact ct_cell (bt (x 15 i 0) c) (tau p s c) (w c) h1 h2
  unfold ctP cnQ
  rw [e1, e2]
  exact and_comm
theorem sub_lt {a b : Nat} (ha : a < 2 ^ 30) (hb : b < 2 ^ 30) : (nI a - nI b < 0 ↔ a < b) ∧ (nI a - nI b = 0 ↔ a = b) := by
  have e : (nI a - nI b).toInt = (a : Int) - b := by
    rw [Int32.toInt_sub, nI_toInt (by omega), nI_toInt (by omega), Int.bmod_eq_of_le (by omega) (by omega)]
  constructor
  · rw [Int32.lt_iff_toInt_lt, e, i_0]; omega
  · rw [← Int32.toInt_inj, e, i_0]; omega
/-- the shift that is chosen -/
theorem bs_sf {x y : St} {i q : Nat} {w : Nat → Nat} {p : Int32} (h : CB x i w q) (hy : RB y i w q (bt (x 15 i 0))) (k : Nat) (hk : k ≤ 8) : (bs x i p k).1 = sfF y i p k ∧ ((bs x i p k).1 = -1 ∨ ∃ j, j < k ∧ (bs x i p k).1 = nI j ∧ (bs x i p k).2.1 = wbF y i p j 32 ∧ (bs x i p k).2.2 = coF y i p j 32) := by
  have h60 := h.2.1
  induction k with
  | zero => exact ⟨rfl, Or.inl rfl⟩
  | succ k ih =>
    obtain ⟨ih1, ih2⟩ := ih (by omega)
    have ew : gwF x i (bsA x i p k) = wbF y i p k 32 := (gw_mx h).trans (wb_mx hy h60 (by omega) 32 (by omega)).symm
    have ec : pcF (bsA x i p k) = coF y i p k 32 := pc_bsA.trans (co_cN hy (by omega)).symm
    by_cases hc : ctP x i (shF p (nI k))
    · have hn := (ct_cn h hy (by omega)).mp hc
      have hiff : bsC x i p k (bs x i p k) ↔ sbP y i p (sfF y i p k) k := by
        unfold bsC sbP
        rw [ew, ec, ← ih1]
        rcases ih2 with h1 | ⟨j, hj, h1, h2, h3⟩
        · rw [h1]; exact ⟨fun _ => Or.inl rfl, fun _ => Or.inl rfl⟩
        · rw [h1, h2, h3, nI_clamp (by omega)]
          rw [wb_mx hy h60 (by omega) 32 (by omega), wb_mx hy h60 (show j < 8 by omega) 32 (by omega), co_cN hy (by omega), co_cN hy (show j < 8 by omega)]
          have b1 : mxN (fun c => w c + b2n (difs (bt (x 15 i 0)) (tau p k) c)) 32 ≤ 61 := mxN_le (fun c hc => by have := h60 c hc; have := b2n_le (difs (bt (x 15 i 0)) (tau p k) c); omega)
          have b2 : mxN (fun c => w c + b2n (difs (bt (x 15 i 0)) (tau p j) c)) 32 ≤ 61 := mxN_le (fun c hc => by have := h60 c hc; have := b2n_le (difs (bt (x 15 i 0)) (tau p j) c); omega)
          have b3 := cN_le (β := difs (bt (x 15 i 0)) (tau p k)) 32
          have b4 := cN_le (β := difs (bt (x 15 i 0)) (tau p j)) 32
          rw [(sub_lt (by omega) (by omega)).1, (sub_lt (by omega) (by omega)).2, nI_ltI (by omega) (by omega), nI_eq (by omega) (by omega), nI_ltI (by omega) (by omega), nI_leI (by omega) (by omega), Nat.not_le]
      by_cases hb : bsC x i p k (bs x i p k)
      · rw [bs_take hc hb, ← sfF_t ⟨hn, hiff.mp hb⟩]
        exact ⟨rfl, Or.inr ⟨k, by omega, rfl, ew, ec⟩⟩
      · rw [bs_keep hc hb, ← sfF_f (fun h9 => hb (hiff.mpr h9.2))]
        exact ⟨ih1, ih2.imp id (fun ⟨j, h1, h2⟩ => ⟨j, by omega, h2⟩)⟩
    · rw [bs_no hc, ← sfF_f (fun h9 => hc ((ct_cn h hy (by omega)).mpr h9.1))]
      exact ⟨ih1, ih2.imp id (fun ⟨j, h1, h2⟩ => ⟨j, by omega, h2⟩)⟩
/-- what is chosen can be: its cells can change, and its charge is there -/
theorem sf_can {y : St} {b : Nat} {p : Int32} (k : Nat) : sfF y b p k = -1 ∨ ∃ j, j < k ∧ sfF y b p k = nI j ∧ cnQ y b p j 32 := by
  induction k with
  | zero => exact Or.inl rfl
  | succ k ih =>
    by_cases h : cnQ y b p k 32 ∧ sbP y b p (sfF y b p k) k
    · exact Or.inr ⟨k, by omega, (sfF_t h).symm, h.1⟩
    · rw [← sfF_f h]
      exact ih.imp id (fun ⟨j, h1, h2⟩ => ⟨j, by omega, h2⟩)
end BR3
