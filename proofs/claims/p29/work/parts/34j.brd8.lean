/-! VALUES that the two answer, by the whole relation -/
section BR8
theorem bitF_v {p : Int32} {c : Nat} (h : c < 32) : bitF p (nI c) = nI (b2n (bt p c)) := by
  cases hb : bt p c with
  | true => exact (bitF_bt h).mpr hb
  | false =>
    have h1 : ¬ bitF p (nI c) = 1 := fun h9 => by
      have := (bitF_bt h).mp h9
      rw [hb] at this; cases this
    have h2 : ∀ z : Int32, z &&& 1 = 0 ∨ z &&& 1 = 1 := fun z => by
      by_cases hz : bt z 0 = true
      · exact Or.inr ((and_1 z).mpr hz)
      · refine Or.inl (b_ext (fun i hi => ?_))
        rw [b_0, b_and]
        by_cases h0 : i = 0
        · subst h0
          cases hz2 : bt z 0 with
          | true => exact absurd hz2 hz
          | false => rfl
        · have h3 : ∀ i, i < 32 → i ≠ 0 → bt 1 i = false := by decide +kernel
          rw [h3 i hi h0, Bool.and_false]
    exact (h2 _).resolve_right h1
theorem cell_v {x y : St} {b q c : Nat} {w : Nat → Nat} (h : BD x y b w q) (hc : c < 32) : bitF (x 15 b 0) (nI c) = (if y 15 0 (32 * b + c) = 0 then 0 else 1) := by
  rw [bitF_v hc, (h.2.1.1 c hc).2]
  cases bt (x 15 b 0) c <;> decide
theorem wear_v {x y : St} {b q c : Nat} {w : Nat → Nat} (h : BD x y b w q) (hc : c < 32) : wearF x b (nI c) = y 16 0 (32 * b + c) := by
  rw [(h.2.1.1 c hc).1]
  unfold wearF
  rw [if_neg (nI_pos (by omega)), if_pos (show nI c < (32 : Int32) from nI_lt (b := 32) hc (by omega)), nI_clamp (by omega)]
  exact h.1.1.1 c hc
theorem anew_v {x y : St} {b q tc : Nat} {w : Nat → Nat} (h : BD x y b w q) (e : x 19 b 0 = nI tc) (hc : tc ≤ 1920) : xorF x b tc = x 15 b 0 := by
  obtain ⟨-, h60, -, ⟨tc2, e2, h2, h3⟩, -⟩ := h.1
  have h4 := sw_le (w := w) (n := 32) (B := 60) h60
  obtain rfl : tc2 = tc := (nI_eq (by omega) (by omega)).mp (e2.symm.trans e)
  exact h3
theorem worst_v {x y : St} {b q : Nat} {w : Nat → Nat} (h : BD x y b w q) : x 16 b 0 = woM y b 32 := by
  obtain ⟨⟨-, ⟨M, h16, hM, ⟨c0, hc0, e0⟩, -⟩, -⟩, h60, -⟩ := h.1
  have e : ∀ n, n ≤ 32 → woM y b n = nI (mxN w n) := by
    intro n
    induction n with
    | zero => intro _; rfl
    | succ n ih =>
      intro hn
      show moI (woM y b n) (y 16 0 (32 * b + n)) = _
      rw [ih (by omega), (h.2.1.1 n (by omega)).1, mo_nI (by have := mxN_le (v := w) (n := n) (B := 60) (fun c hc => h60 c (by omega)); omega) (by have := h60 n (by omega); omega)] <;> rfl
  rw [e 32 (by omega), h16]
  refine congrArg nI ?_
  have h1 := mxN_ge (v := w) (n := 32) hc0
  have h2 := mxN_le (v := w) (n := 32) (B := M) hM
  omega
theorem toL {n : Nat} (h : n < 2 ^ 31) : (nI n).toInt64 = Int64.ofNat n := by
  rw [← Int64.toInt_inj, Int32.toInt_toInt64, nI_toInt h, Int64.toInt_ofNat_of_lt (by omega)]
theorem sumW_v {x : St} {i : Nat} {w : Nat → Nat} (h : ∀ c, c < 32 → x 20 i c = nI (w c)) (n : Nat) (hn : n ≤ 32) : sumW x i n = nI (sw w n) := by
  induction n with
  | zero => rfl
  | succ n ih =>
    show sumW x i n + x 20 i n = _
    rw [ih (by omega), h n (by omega), nI_add] <;> rfl
theorem sw2_le {W : Nat → Nat → Nat} {n : Nat} (h : ∀ b, b < n → ∀ c, c < 32 → W b c ≤ 60) : sw (fun b => sw (W b) 32) n ≤ n * 1920 := sw_le (fun b hb => by have := sw_le (w := W b) (n := 32) (B := 60) (h b hb); omega)
theorem chg_v {x y : St} {ch : Int64} {nb nn hr t : Nat} (h : R2 x y ch nb nn hr t) : ∃ n, n ≤ 11520 ∧ chgF x nb = Int64.ofNat n ∧ ch = Int64.ofNat n ∧ swM y (32 * nb) = nI n := by
  have hnb := h.gi.nb6
  obtain ⟨⟨W, h1, -, h3, h4⟩, -⟩ := h.2
  have h60 : ∀ b, b < 6 → ∀ c, c < 32 → W b c ≤ 60 := fun b hb => by obtain ⟨⟨q, hq⟩, -⟩ := h1 b hb; exact hq.1.2.1
  refine ⟨sw (fun b => sw (W b) 32) nb, ?_, ?_, ?_, ?_⟩
  · have := sw2_le (W := W) (n := nb) (fun b hb => h60 b (by omega))
    have : nb * 1920 ≤ 6 * 1920 := Nat.mul_le_mul_right _ hnb
    omega
  · have e : ∀ n, n ≤ 6 → chgF x n = Int64.ofNat (sw (fun b => sw (W b) 32) n) := by
      intro n
      induction n with
      | zero => intro _; rfl
      | succ n ih =>
        intro hn
        obtain ⟨⟨q, hq⟩, -⟩ := h1 n (by omega)
        have hs := sw_le (w := W n) (n := 32) (B := 60) (h60 n (by omega))
        show chgF x n + (sumW x n 32).toInt64 = _
        rw [ih (by omega), sumW_v hq.1.1.1 32 (by omega), toL (by omega), ← Int64.ofNat_add] <;> rfl
    exact e nb hnb
  · rw [show ch = Int64.ofNat (sw (fun b => sw (W b) 32) 6) from h4]
    congr 1
    have e : ∀ d, nb + d ≤ 6 → sw (fun b => sw (W b) 32) (nb + d) = sw (fun b => sw (W b) 32) nb := by
      intro d
      induction d with
      | zero => intro _; rfl
      | succ d ih =>
        intro hd
        show sw (fun b => sw (W b) 32) (nb + d) + sw (W (nb + d)) 32 = _
        rw [ih (by omega)]
        have h0 := sw_le (w := W (nb + d)) (n := 32) (B := 0) (fun c hc => Nat.le_of_eq ((h3 (nb + d) (by omega) (by omega)).2.2 c hc))
        omega
    have e6 := e (6 - nb) (by omega)
    rw [show nb + (6 - nb) = 6 by omega] at e6
    exact e6
  · have e : ∀ b, b ≤ 6 → ∀ c, c ≤ 32 → swM y (32 * b + c) = nI (sw (fun b => sw (W b) 32) b + sw (W b) c) ∨ b = 6 := by
      intro b
      induction b with
      | zero =>
        intro _ c
        induction c with
        | zero => intro _; exact Or.inl rfl
        | succ c ih =>
          intro hc
          rcases ih (by omega) with e | e
          · refine Or.inl ?_
            obtain ⟨⟨q, hq⟩, -⟩ := h1 0 (by omega)
            show swM y (32 * 0 + c) + y 16 0 (32 * 0 + c) = _
            rw [e, (show y 16 0 (32 * 0 + c) = nI (W 0 c) from (hq.2.1.1 c (by omega)).1), nI_add, Nat.add_assoc] <;> rfl
          · omega
      | succ b ihb =>
        intro hb c
        by_cases h6 : b + 1 = 6
        · exact fun _ => Or.inr h6
        induction c with
        | zero =>
          intro _
          refine Or.inl ?_
          rcases ihb (by omega) 32 (by omega) with e | e
          · rw [show 32 * (b + 1) + 0 = 32 * b + 32 by omega, e] <;> rfl
          · omega
        | succ c ih =>
          intro hc
          rcases ih (by omega) with e | e
          · refine Or.inl ?_
            obtain ⟨⟨q, hq⟩, -⟩ := h1 (b + 1) (by omega)
            show swM y (32 * (b + 1) + c) + y 16 0 (32 * (b + 1) + c) = _
            rw [e, (show y 16 0 (32 * (b + 1) + c) = nI (W (b + 1) c) from (hq.2.1.1 c (by omega)).1), nI_add, Nat.add_assoc] <;> rfl
          · exact Or.inr e
    cases nb with
    | zero => rfl
    | succ m =>
      rcases e m (by omega) 32 (by omega) with e9 | e9
      · rw [show 32 * (m + 1) = 32 * m + 32 by omega, e9] <;> rfl
      · omega
theorem l2d_i2d {n : Nat} (h : n < 2 ^ 31) : FP.l2d (Int64.ofNat n) = FP.i2d (nI n) := by
  unfold FP.l2d FP.i2d FP.Core.l2d FP.Core.i2d
  rw [Int64.toInt_ofNat_of_lt (by omega), nI_toInt h]
theorem cs_v {x y : St} {ch : Int64} {nb nn hr t : Nat} (h : R2 x y ch nb nn hr t) : csF x nb = csM y (32 * nb) := by
  have hnb := h.gi.nb6
  have step : ∀ b, b < nb → csF x b = csM y (32 * b) → ∀ c, c ≤ 32 → csL x b (csF x b) c = csM y (32 * b + c) := by
    intro b hb e0 c
    obtain ⟨⟨w, q, g⟩, -⟩ := h.bd hb
    induction c with
    | zero => intro _; exact e0
    | succ c ih =>
      intro hc
      have e1 := cell_v g (show c < 32 by omega)
      have e2 := wear_v g (show c < 32 by omega)
      have e3 := (g.2.1.1 c (by omega)).1
      have h60 := g.1.2.1 c (by omega)
      show 31 * csL x b (csF x b) c + (bitF (x 15 b 0) (nI c)).toInt64 + (2 * wearF x b (nI c)).toInt64 = 31 * csM y (32 * b + c) + (bz (¬ y 15 0 (32 * b + c) = 0)).toInt64 + 2 * (y 16 0 (32 * b + c)).toInt64
      rw [ih (by omega), e1, e2, e3]
      have e4 : (if y 15 0 (32 * b + c) = 0 then (0 : Int32) else 1) = bz (¬ y 15 0 (32 * b + c) = 0) := by
        by_cases h9 : y 15 0 (32 * b + c) = 0
        · rw [if_pos h9, bz_f (fun h8 => h8 h9)]
        · rw [if_neg h9, bz_t h9]
      have e5 : (2 * nI (w c)).toInt64 = 2 * (nI (w c)).toInt64 := by
        have : ∀ v, v ≤ 60 → (2 * nI v).toInt64 = 2 * (nI v).toInt64 := by decide +kernel
        exact this _ h60
      rw [e4, e5]
  have e : ∀ b, b ≤ nb → csF x b = csM y (32 * b) := by
    intro b
    induction b with
    | zero => intro _; rfl
    | succ b ih =>
      intro hb
      show csL x b (csF x b) 32 = csM y (32 * b + 32)
      exact step b (by omega) (ih (by omega)) 32 (by omega)
  exact e nb (Nat.le_refl _)
theorem ss_v {x y : St} {ch : Int64} {nb nn hr t : Nat} (h : R2 x y ch nb nn hr t) : ssF x nb = ssM y nb := by
  have e : ∀ n, n ≤ nb → ssF x n = ssM y n := by
    intro n
    induction n with
    | zero => intro _; rfl
    | succ n ih =>
      intro hn
      have e1 := ih (by omega)
      have e2 := (h.bd (b := n) (by omega)).2.2
      by_cases h9 : x 12 n 0 = -1
      · rw [ss_t h9, e1]
        exact (Int32.add_zero _).symm.trans (cnP_f (P := fun k => ¬ y 12 0 k = -1) (fun h8 => h8 (e2.symm.trans h9)))
      · rw [ss_f h9, e1]
        exact cnP_t (P := fun k => ¬ y 12 0 k = -1) (fun h8 => h9 (e2.trans h8))
  exact e nb (Nat.le_refl _)
theorem btF_v {x y : St} {i nb : Nat} (h : ∀ b, b < nb → x 12 b 0 = y 12 0 b) : btF x i nb = cnP (fun b => y 12 0 b = nI i) nb := by
  induction nb with
  | zero => rfl
  | succ n ih =>
    have e1 := ih (fun b hb => h b (by omega))
    by_cases h9 : x 12 n 0 = nI i
    · rw [bt_t h9, e1]; exact cnP_t (P := fun b => y 12 0 b = nI i) ((h n (by omega)).symm.trans h9)
    · rw [bt_f h9, e1]; exact (Int32.add_zero _).symm.trans (cnP_f (P := fun b => y 12 0 b = nI i) (fun h8 => h9 ((h n (by omega)).trans h8)))
theorem qc_v {x y : St} {d nn : Nat} (h : ∀ k, k < nn → (qcP x k (nI d) ↔ iiP y k d)) : qcF x (nI d) nn = mqF y d nn := by
  induction nn with
  | zero => rfl
  | succ n ih =>
    have e1 := ih (fun b hb => h b (by omega))
    by_cases h9 : qcP x n (nI d)
    · rw [qc_t h9, e1]; exact cnP_t (P := fun k => iiP y k d) ((h n (by omega)).mp h9)
    · rw [qc_f h9, e1]; exact (Int32.add_zero _).symm.trans (cnP_f (P := fun k => iiP y k d) (fun h8 => h9 ((h n (by omega)).mpr h8)))
-- the queue by places
theorem RL_s {x : St} {k : Nat} : RLs x (k + 1) = RLs x k ++ [rk x k] := by
  unfold RLs
  rw [List.range_succ, List.map_append] <;> rfl
theorem qr_v {x : St} {p : Int32} {P : Nat → Bool} {nn : Nat} (h : ∀ k, k < nn → (qcP x (rk x k) p ↔ P (rk x k) = true)) (k : Nat) (hk : k ≤ nn) : qrF x p k = nI ((RLs x k).filter P).length := by
  induction k with
  | zero => rfl
  | succ k ih =>
    rw [RL_s, List.filter_append, List.length_append]
    by_cases h9 : qcP x (rk x k) p
    · rw [qr_t h9, ih (by omega), List.filter_cons_of_pos ((h k (by omega)).mp h9), nI_1] <;> rfl
    · rw [qr_f h9, ih (by omega), List.filter_cons_of_neg (fun h8 => h9 ((h k (by omega)).mpr h8))] <;> rfl
theorem RL_at {x : St} {P : Nat → Bool} {k : Nat} (hP : P (rk x k) = true) (d : Nat) : ((RLs x (k + 1 + d)).filter P)[((RLs x k).filter P).length]? = some (rk x k) := by
  induction d with
  | zero =>
    rw [Nat.add_zero, RL_s, List.filter_append, List.getElem?_append_right (Nat.le_refl _), Nat.sub_self, List.filter_cons_of_pos hP] <;> rfl
  | succ d ih =>
    rw [show k + 1 + (d + 1) = k + 1 + d + 1 by omega, RL_s, List.filter_append]
    obtain ⟨hl, -⟩ := List.getElem?_eq_some_iff.mp ih
    rw [List.getElem?_append_left hl]
    exact ih
theorem RL_ex {x : St} {P : Nat → Bool} (nn : Nat) : ∀ a, a < ((RLs x nn).filter P).length → ∃ k, k < nn ∧ P (rk x k) = true ∧ ((RLs x k).filter P).length = a := by
  induction nn with
  | zero => intro a h; exact absurd h (Nat.not_lt_zero _)
  | succ n ih =>
    intro a h
    rw [RL_s, List.filter_append, List.length_append] at h
    by_cases h9 : a < ((RLs x n).filter P).length
    · obtain ⟨k, h1, h2⟩ := ih a h9
      exact ⟨k, by omega, h2⟩
    · by_cases hP : P (rk x n) = true
      · rw [List.filter_cons_of_pos hP] at h
        have h8 : a < ((RLs x n).filter P).length + 1 := h
        exact ⟨n, by omega, hP, by omega⟩
      · rw [List.filter_cons_of_neg hP] at h
        exact absurd h h9
theorem R2.qc {x y : St} {ch : Int64} {nb nn hr t : Nat} (h : R2 x y ch nb nn hr t) {d : Nat} (hd : d < 4) : (∀ k, k < nn → (qcP x k (nI d) ↔ iiP y k d)) ∧ RLs x nn = qO (fun k => y 17 0 k) nn 11 ∧ (∀ k, k < nn → rk x k < nn) ∧ mqF y d nn = nI ((RLs x nn).filter (iiB y d)).length ∧ ((RLs x nn).filter (iiB y d)).length ≤ nn := by
  have hc := RX.cx h.1 h.2
  have hK : KR x y nn := hc.2.2.2.2.2.2.2.1
  refine ⟨fun k hk => qc_ii hd (hc.2.2.2.2.2.2.1 k (by have := hc.1; omega) d hd) (h.fl k hk).2.2.2 hc.2.2.1, hK, fun k hk => KR.lt hK hk, ?_, Nat.le_trans (List.length_filter_le _ _) (Nat.le_of_eq RL_len)⟩
  rw [mq_len h.mi.rk, hK] <;> rfl
-- suspects by places
theorem cN_mono {β γ : Nat → Bool} {n : Nat} (h : ∀ c, c < n → β c = true → γ c = true) : cN β n ≤ cN γ n := by
  induction n with
  | zero => exact Nat.le_refl _
  | succ n ih =>
    have h1 := ih (fun c hc => h c (by omega))
    rw [cN_s, cN_s]
    have h2 := h n (by omega)
    cases hb : β n with
    | true => rw [h2 hb]; omega
    | false => rw [b2n_f]; omega
theorem cN_lt {β γ : Nat → Bool} {n c0 : Nat} (h : ∀ c, c < n → β c = true → γ c = true) (hc : c0 < n) (h1 : β c0 = false) (h2 : γ c0 = true) : cN β n < cN γ n := by
  induction n with
  | zero => omega
  | succ n ih =>
    rw [cN_s, cN_s]
    by_cases hn : c0 = n
    · subst hn
      have h9 := cN_mono (n := c0) (β := β) (γ := γ) (fun c hc => h c (by omega))
      rw [h1, h2, b2n_t, b2n_f]; omega
    · have h9 := ih (fun c hc => h c (by omega)) (by omega)
      have h3 := h n (by omega)
      cases hb : β n with
      | true => rw [h3 hb]; omega
      | false => rw [b2n_f]; omega
/-- places in a strict order: S who is in it, B who is before whom -/
theorem place_ex {S : Nat → Bool} {B : Nat → Nat → Bool} (hirr : ∀ i, B i i = false) (htr : ∀ i j k, B i j = true → B j k = true → B i k = true) (htot : ∀ i j, i ≠ j → B i j = true ∨ B j i = true) (n : Nat) : ∀ a, a < cN S n → ∃ k, k < n ∧ S k = true ∧ cN (fun j => S j && B j k) n = a := by
  induction n with
  | zero => intro a h; exact absurd h (Nat.not_lt_zero _)
  | succ n ih =>
    intro a h
    by_cases hS : S n = true
    · rw [cN_s, hS, b2n_t] at h
      have hr : cN (fun j => S j && B j n) (n + 1) = cN (fun j => S j && B j n) n := by rw [cN_s, hirr, Bool.and_false, b2n_f, Nat.add_zero]
      rcases Nat.lt_trichotomy a (cN (fun j => S j && B j n) n) with h9 | h9 | h9
      · have hle : cN (fun j => S j && B j n) n ≤ cN S n := cN_mono (fun c _ hc => by rw [Bool.and_eq_true] at hc; exact hc.1)
        obtain ⟨k, h1, h2, h3⟩ := ih a (by omega)
        refine ⟨k, by omega, h2, ?_⟩
        have hB : B n k = false := by
          cases hb : B n k with
          | false => rfl
          | true =>
            have : cN (fun j => S j && B j n) n ≤ cN (fun j => S j && B j k) n := cN_mono (fun c _ hc => by
              rw [Bool.and_eq_true] at hc ⊢
              exact ⟨hc.1, htr _ _ _ hc.2 hb⟩)
            omega
        rw [cN_s, hB, Bool.and_false, b2n_f, Nat.add_zero]
        exact h3
      · exact ⟨n, by omega, hS, hr.trans h9.symm⟩
      · obtain ⟨k, h1, h2, h3⟩ := ih (a - 1) (by omega)
        refine ⟨k, by omega, h2, ?_⟩
        have hB : B n k = true := by
          rcases htot n k (by omega) with hb | hb
          · exact hb
          · have : cN (fun j => S j && B j k) n < cN (fun j => S j && B j n) n := cN_lt (c0 := k) (fun c _ hc => by
              rw [Bool.and_eq_true] at hc ⊢
              exact ⟨hc.1, htr _ _ _ hc.2 hb⟩) h1 (by rw [hirr, Bool.and_false]) (by rw [h2, hb] <;> rfl)
            omega
        rw [cN_s, hS, hB, h3]
        show a - 1 + 1 = a
        omega
    · have hS2 : S n = false := by cases h9 : S n with | true => exact absurd h9 hS | false => rfl
      rw [cN_s, hS2, b2n_f, Nat.add_zero] at h
      obtain ⟨k, h1, h2, h3⟩ := ih a h
      refine ⟨k, by omega, h2, ?_⟩
      rw [cN_s, hS2, Bool.false_and, b2n_f, Nat.add_zero]
      exact h3
theorem place_lt {S : Nat → Bool} {B : Nat → Nat → Bool} (hirr : ∀ i, B i i = false) (n k : Nat) (hk : k < n) (hS : S k = true) : cN (fun j => S j && B j k) n < cN S n := cN_lt (c0 := k) (fun c _ hc => by rw [Bool.and_eq_true] at hc; exact hc.1) hk (by rw [hirr, Bool.and_false]) hS
theorem place_uq {S : Nat → Bool} {B : Nat → Nat → Bool} (hirr : ∀ i, B i i = false) (htr : ∀ i j k, B i j = true → B j k = true → B i k = true) (htot : ∀ i j, i ≠ j → B i j = true ∨ B j i = true) (n : Nat) {k k' : Nat} (hk : k < n) (hk' : k' < n) (hS : S k = true) (hS' : S k' = true) (e : cN (fun j => S j && B j k) n = cN (fun j => S j && B j k') n) : k = k' := by
  refine Classical.byContradiction (fun hne => ?_)
  have key : ∀ a b, a < n → S a = true → B a b = true → cN (fun j => S j && B j a) n < cN (fun j => S j && B j b) n := fun a b ha hSa hb =>
    cN_lt (c0 := a) (fun c _ hc => by
      rw [Bool.and_eq_true] at hc ⊢
      exact ⟨hc.1, htr _ _ _ hc.2 hb⟩) ha (by rw [hirr, Bool.and_false]) (by rw [hSa, hb] <;> rfl)
  rcases htot k k' hne with h | h
  · have := key k k' hk hS h; omega
  · have := key k' k hk' hS' h; omega
theorem sound_v {x y : St} {ch : Int64} {nb nn hr t : Nat} {tcs : Nat → Nat} (h : R2 x y ch nb nn hr t) (htc : ∀ b, b < 6 → tcs b ≤ 1920) (hx19 : ∀ b, b < 6 → x 19 b 0 = nI (tcs b)) : ∀ j, j < nb → okB x tcs j := by
  intro j hj
  have hnb := h.gi.nb6
  have hnn := h.gi.nn40
  obtain ⟨⟨W, h1, h2, -⟩, -⟩ := h.2
  obtain ⟨⟨q, g⟩, -⟩ := h1 j (by omega)
  obtain ⟨-, h3⟩ := h2 j hj
  refine ⟨h3.imp id (fun ⟨n, a, b, c, d⟩ => ⟨n, by omega, b, c, d hj⟩), ⟨fun c hc h9 => ?_, ?_⟩, (anew_v g (hx19 j (by omega)) (htc j (by omega))).symm⟩
  · have h8 := g.1.blk hc ((bitF_bt (by omega)).mp h9.1)
    have h7 := h9.2
    rw [g.1.1.1 c hc] at h7
    exact absurd h7 (nI_ge (b := 60) h8 (by omega))
  · rw [pc_cN, g.1.2.2.2.2.1]
    exact nI_le g.2.2.1 (by have := g.1.2.2.2.2.2; omega)
end BR8
