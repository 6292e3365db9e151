/-! AN HOUR at one board: the class's and the reference's -/
section BR4
theorem CB.of {x x' : St} {i q q' : Nat} {w : Nat → Nat} (h : CB x i w q) (e : ∀ r j, 15 ≤ r → r ≤ 21 → x' r i j = x r i j) (e11 : x' 11 i 0 = nI q') (hq : q' ≤ 200) : CB x' i w q' := by
  obtain ⟨⟨h20, ⟨M, h16, hM, hc0, h17⟩, h18⟩, h60, hpar, ⟨tc, e19, htc, hx⟩, -, -⟩ := h
  refine ⟨⟨fun c hc => (e 20 c (by omega) (by omega)).trans (h20 c hc), ⟨M, (e 16 0 (by omega) (by omega)).trans h16, hM, hc0, fun c hc => ?_⟩, fun c hc => ?_⟩, h60, fun c hc => ?_, ⟨tc, (e 19 0 (by omega) (by omega)).trans e19, htc, ?_⟩, e11, hq⟩
  · rw [e 17 0 (by omega) (by omega)]; exact h17 c hc
  · rw [e 18 0 (by omega) (by omega)]; exact h18 c hc
  · rw [e 15 0 (by omega) (by omega)]; exact hpar c hc
  · rw [e 15 0 (by omega) (by omega), xor_st (x := x) (fun j _ => e 21 j (by omega) (by omega))]; exact hx
theorem RB.of {y y' : St} {b q q' : Nat} {w : Nat → Nat} {β : Nat → Bool} (h : RB y b w q β) (e : ∀ j, 32 * b ≤ j → j < 32 * b + 32 → y' 15 0 j = y 15 0 j ∧ y' 16 0 j = y 16 0 j) (e11 : y' 11 0 b = nI q') : RB y' b w q' β :=
  ⟨fun c hc => by obtain ⟨h1, h2⟩ := e (32 * b + c) (by omega) (by omega); rw [h1, h2]; exact h.1 c hc, e11⟩
/-- a board of both -/
def BD (x y : St) (b : Nat) (w : Nat → Nat) (q : Nat) : Prop := CB x b w q ∧ RB y b w q (bt (x 15 b 0)) ∧ cN (bt (x 15 b 0)) 32 ≤ q ∧ x 13 b 0 = y 13 0 b
theorem BD.of {x x' y y' : St} {b q : Nat} {w : Nat → Nat} (h : BD x y b w q) (ex : ∀ r j, 11 ≤ r → r ≤ 21 → r ≠ 12 → r ≠ 14 → x' r b j = x r b j) (ey : ∀ r, (r = 11 ∨ r = 13) → y' r 0 b = y r 0 b) (ez : ∀ j, 32 * b ≤ j → j < 32 * b + 32 → y' 15 0 j = y 15 0 j ∧ y' 16 0 j = y 16 0 j) : BD x' y' b w q := by
  obtain ⟨h1, h2, h3, h4⟩ := h
  have e15 : x' 15 b 0 = x 15 b 0 := ex 15 0 (by omega) (by omega) (by omega) (by omega)
  refine ⟨h1.of (fun r j a c => ex r j (by omega) (by omega) (by omega) (by omega)) ((ex 11 0 (by omega) (by omega) (by omega) (by omega)).trans h1.2.2.2.2.1) h1.2.2.2.2.2, ?_, ?_, ?_⟩
  · rw [e15]; exact h2.of ez ((ey 11 (by omega)).trans h2.2)
  · rw [e15]; exact h3
  · rw [ex 13 0 (by omega) (by omega) (by omega) (by omega), ey 13 (by omega)]; exact h4
theorem CB.blk {x : St} {i q c : Nat} {w : Nat → Nat} (h : CB x i w q) (hc : c < 32) (hb : bt (x 15 i 0) c = true) : w c < 60 := by
  have h1 := h.2.1 c hc
  have h2 := h.2.2.1 c hc
  rw [hb, b2n_t] at h2
  omega
theorem sw_incs {w : Nat → Nat} {β : Nat → Bool} : sw (incs w β 32) 32 = sw w 32 + cN β 32 := by
  rw [← sw_add]
  exact sw_congr (fun c hc => by unfold incs; rw [if_pos hc])
/-- what a step leaves: the board, and how many cells changed -/
def BO (x : St) (s : MS) (b : Nat) (w : Nat → Nat) (ch : Int64) : Prop := ∃ (w' : Nat → Nat) (q' n : Nat), BD x s.1 b w' q' ∧ s.2 = ch + Int64.ofNat n ∧ sw w' 32 = sw w 32 + n
theorem BD.wipe {x : St} {s : MS} {b q : Nat} {w : Nat → Nat} (h : BD x s.1 b w q) : BO (wiF x b) (wpM s b) b w s.2 ∧ wiF x b 12 b 0 = -1 ∧ (wpM s b).1 12 0 b = -1 := by
  obtain ⟨h1, h2, h3, h4⟩ := h
  obtain ⟨c1, c2⟩ := h1.change (p := x 15 b 0) (fun c hc hb => h1.blk hc hb) h3
  obtain ⟨r1, r2⟩ := h2.wipe h3
  have e15 : wiF x b 15 b 0 = 0 := (st_nr (by omega)).trans ((st_nr (by omega)).trans (c2.trans (Int32.xor_self)))
  refine ⟨⟨incs w (bt (x 15 b 0)) 32, q - cN (bt (x 15 b 0)) 32, cN (bt (x 15 b 0)) 32, ⟨?_, ?_, ?_, ?_⟩, r2, sw_incs⟩, ?_, ?_⟩
  · exact c1.of (fun r j a c => (st_nr (by omega)).trans (st_nr (by omega))) ((st_nr (by omega)).trans ((st_nr (by omega)).trans c1.2.2.2.2.1)) c1.2.2.2.2.2
  · rw [e15]; exact r1.ext (fun _ _ => rfl) (fun c _ => b_0 c)
  · rw [e15]
    have : cN (bt (0 : Int32)) 32 = 0 := by decide +kernel
    omega
  · exact (st_eq).trans (st_eq).symm
  · exact (st_nr (by omega)).trans st_eq
  · unfold wpM
    dsimp only
    rw [st_nr (by omega), st_eq]
theorem BD.take {x : St} {s : MS} {b q k : Nat} {w : Nat → Nat} (h : BD x s.1 b w q) (hp : x 31 k 0 = s.1 18 0 k) (hb : (bs x b (x 31 k 0) 8).1 ≠ -1) : BO (tuF x b k) (shM s b k (sfF s.1 b (s.1 18 0 k) 8).toNatClampNeg) b w s.2 ∧ tuF x b k 12 b 0 = nI k ∧ (shM s b k (sfF s.1 b (s.1 18 0 k) 8).toNatClampNeg).1 12 0 b = nI k := by
  obtain ⟨h1, h2, h3, h4⟩ := h
  have e1 := (bs_sf h1 h2 (p := x 31 k 0) 8 (by omega)).1
  rcases sf_can (y := s.1) (b := b) (p := x 31 k 0) 8 with h9 | ⟨j, hj, ej, hc⟩
  · exact absurd (e1.trans h9) hb
  obtain ⟨t1, t2⟩ := (ct_cn h1 h2 hj).mpr hc
  have ebs : (bs x b (x 31 k 0) 8).1 = nI j := e1.trans ej
  rw [← hp, ej, nI_clamp (by omega)]
  have hD : x 15 b 0 ^^^ shF (x 31 k 0) (nI j) = bsA x b (x 31 k 0) j := rfl
  have hcell : ∀ c, c < 32 → bt (x 15 b 0 ^^^ shF (x 31 k 0) (nI j)) c = true → w c < 60 := fun c hc2 hb2 => by
    have h9 := and_0.mp t1 c hc2
    rw [b_or, hb2, Bool.true_or, h1.1.2.2 c hc2] at h9
    exact Nat.lt_of_not_le (fun h8 => h9 ⟨rfl, decide_eq_true h8⟩)
  have ediff : ∀ c, bt (x 15 b 0 ^^^ shF (x 31 k 0) (nI j)) c = difs (bt (x 15 b 0)) (tau (x 31 k 0) j) c := fun c => bsA_bt (x := x) (i := b) (s := j) (p := x 31 k 0)
  have ecn : cN (bt (x 15 b 0 ^^^ shF (x 31 k 0) (nI j))) 32 = cN (difs (bt (x 15 b 0)) (tau (x 31 k 0) j)) 32 := sw_congr (fun c _ => by rw [ediff])
  have hle : cN (difs (bt (x 15 b 0)) (tau (x 31 k 0) j)) 32 + cN (tau (x 31 k 0) j) 32 ≤ q := by
    have h9 := hc.1
    rw [co_cN h2 hj, bk_cN, h2.2, nI_add, nI_leI (by have := cN_le (β := difs (bt (x 15 b 0)) (tau (x 31 k 0) j)) 32; have := cN_le (β := bt (x 31 k 0)) 32; omega) (by have := h1.2.2.2.2.2; omega)] at h9
    rw [cN_tau hj]; exact h9
  obtain ⟨c1, c2⟩ := h1.change hcell (by omega)
  obtain ⟨r1, r2⟩ := h2.show (s := s) (k := k) (j := j) (τ := tau (x 31 k 0) j) (fun c hc2 => by rw [← hp]; exact has_tau hj hc2) (by omega)
  have e15 : tuF x b k 15 b 0 = shF (x 31 k 0) (nI j) := by
    refine (st_nr (by omega)).trans ((st_nr (by omega)).trans ?_)
    rw [ebs]
    refine c2.trans ?_
    rw [← Int32.xor_assoc, Int32.xor_self, Int32.zero_xor]
  rw [ecn] at c1
  refine ⟨⟨incs w (difs (bt (x 15 b 0)) (tau (x 31 k 0) j)) 32, q - cN (difs (bt (x 15 b 0)) (tau (x 31 k 0) j)) 32, cN (difs (bt (x 15 b 0)) (tau (x 31 k 0) j)) 32, ⟨?_, ?_, ?_, ?_⟩, r2, sw_incs⟩, ?_, ?_⟩
  · have ew : incs w (bt (x 15 b 0 ^^^ shF (x 31 k 0) (nI j))) 32 = incs w (difs (bt (x 15 b 0)) (tau (x 31 k 0) j)) 32 := by
      funext c; unfold incs; rw [ediff]
    rw [ew] at c1
    unfold tuF
    rw [ebs]
    exact c1.of (fun r j a c => (st_nr (by omega)).trans (st_nr (by omega))) ((st_nr (by omega)).trans ((st_nr (by omega)).trans c1.2.2.2.2.1)) c1.2.2.2.2.2
  · rw [e15]; exact r1
  · rw [e15]
    show cN (tau (x 31 k 0) j) 32 ≤ _
    omega
  · unfold tuF; rw [ebs]; exact (st_eq).trans (st_eq).symm
  · exact (st_nr (by omega)).trans st_eq
  · unfold shM
    dsimp only
    rw [st_nr (by omega), st_eq]
-- the queue's places
theorem iqI_c {y y' : St} {d : Nat} {its : Int32} {rest rest' : Int32 → Int32} (h : ∀ r i j, r ≠ 14 → y' r i j = y r i j) (hr : ∀ l, rest' l = rest l) (f : Nat) : ∀ k l, iqI y' d its rest' f k l = iqI y d its rest f k l := by
  induction f with
  | zero => intro k l; exact hr l
  | succ f ih =>
    intro k l
    have e : (y' 17 0 k = its ∧ iiP y' k d) ↔ (y 17 0 k = its ∧ iiP y k d) := by
      unfold iiP
      rw [h 17 _ _ (by omega), h 23 _ _ (by omega), h 1 _ _ (by omega), h 20 _ _ (by omega)]
    by_cases h9 : y 17 0 k = its ∧ iiP y k d
    · by_cases h8 : l = 0
      · rw [iqI_r h9 h8, iqI_r (e.mpr h9) h8]
      · rw [iqI_s h9 h8, iqI_s (e.mpr h9) h8, ih]
    · rw [iqI_n h9, iqI_n (fun q => h9 (e.mp q)), ih]
theorem iqO_c {y y' : St} {d nn : Nat} (h : ∀ r i j, r ≠ 14 → y' r i j = y r i j) (m : Nat) : ∀ l, iqO y' d nn m l = iqO y d nn m l := by
  induction m with
  | zero => intro l; rfl
  | succ m ih => intro l; exact iqI_c h ih nn 0 l
/-- what the hour asks of the notices -/
def HN (x y : St) (b nn : Nat) (P : Nat → Bool) : Prop := ∀ k, k < nn → x 31 k 0 = y 18 0 k ∧ (ofP x k ↔ duP y k) ∧ (qcP x k (x 10 b 0) ↔ P k = true)
theorem HN.of {x x' y y' : St} {b nn : Nat} {P : Nat → Bool} (h : HN x y b nn P) (ex : ∀ r i j, (r < 11 ∨ 21 < r) → x' r i j = x r i j) (ey : ∀ r i j, (r < 11 ∨ 16 < r) → y' r i j = y r i j) : HN x' y' b nn P := by
  intro k hk
  have h9 := h k hk
  unfold ofP duP qcP at h9 ⊢
  rw [ex 31 _ _ (by omega), ex 32 _ _ (by omega), ex 3 _ _ (by omega), ex 33 _ _ (by omega), ex 36 _ _ (by omega), ex 10 _ _ (by omega), ey 18 _ _ (by omega), ey 19 _ _ (by omega), ey 1 _ _ (by omega), ey 20 _ _ (by omega)]
  exact h9
/-- an hour's end at a board -/
def BE (x : St) (s : MS) (b nn : Nat) (w : Nat → Nat) (ch : Int64) : Prop := BO x s b w ch ∧ x 12 b 0 = s.1 12 0 b ∧ x 14 b 0 = s.1 14 0 b ∧ (x 12 b 0 = -1 ∨ ∃ k, k < nn ∧ x 12 b 0 = nI k ∧ ofP x k)
theorem of_fr {x x' : St} {k : Nat} (ex : ∀ r i j, (r < 11 ∨ 21 < r) → x' r i j = x r i j) : ofP x' k ↔ ofP x k := by
  unfold ofP
  rw [ex 32 _ _ (by omega), ex 3 _ _ (by omega), ex 33 _ _ (by omega)]
theorem hour_list {b d nn : Nat} {P : Nat → Bool} (lst : List Nat) : ∀ (k a : Nat) (x : St) (s : MS) (w : Nat → Nat) (q : Nat), (∀ j n, lst[j]? = some n → rk x (k + j) = n) → (∀ j n, (lst.filter P)[j]? = some n → iqN s.1 d nn (a + j) = n) → (∀ n ∈ lst, n < nn) → HN x s.1 b nn P → BD x s.1 b w q → x 12 b 0 = s.1 12 0 b → x 14 b 0 = s.1 14 0 b → BE (lhL b lst.length k x) (chL b d nn (lst.filter P).length a s) b nn w s.2 := by
  induction lst with
  | nil =>
    intro k a x s w q _ _ _ _ h _ h14
    obtain ⟨h1, h2, h3⟩ := h.wipe
    exact ⟨h1, h2.trans h3.symm, (show wiF x b 14 b 0 = (wpM s b).1 14 0 b from (wi_r (by omega)).trans (h14.trans (wp_r (by omega)).symm)), Or.inl h2⟩
  | cons m lst ih =>
    intro k a x s w q hx hy hm hN h h12 h14
    have e0 : rk x k = m := hx 0 m rfl
    have hmn : m < nn := hm m (List.mem_cons_self)
    obtain ⟨n1, n2, n3⟩ := hN m hmn
    have hx' : ∀ j n, lst[j]? = some n → rk x (k + 1 + j) = n := fun j n h9 => by rw [show k + 1 + j = k + (j + 1) by omega]; exact hx (j + 1) n h9
    have hm' : ∀ n ∈ lst, n < nn := fun n h9 => hm n (List.mem_cons_of_mem _ h9)
    show BE (lhL b (lst.length + 1) k x) _ b nn w s.2
    by_cases hP : P m = true
    · have hy0 : iqN s.1 d nn a = m := hy 0 m (by rw [List.filter_cons_of_pos hP] <;> rfl)
      have hy' : ∀ j n, (lst.filter P)[j]? = some n → iqN s.1 d nn (a + 1 + j) = n := fun j n h9 => by
        rw [show a + 1 + j = a + (j + 1) by omega]; exact hy (j + 1) n (by rw [List.filter_cons_of_pos hP]; exact h9)
      rw [List.filter_cons_of_pos hP, List.length_cons]
      by_cases ho : ofP x m
      · have hC : lhC x b (rk x k) := by rw [e0]; exact ⟨ho, n3.mpr hP⟩
        have hD : duP s.1 (iqN s.1 d nn a) := by rw [hy0]; exact n2.mp ho
        by_cases hs : x 12 b 0 = nI m
        · rw [lhL_s hC (by rw [e0]; exact hs), chL_s hD (by rw [hy0, ← h12]; exact hs)]
          exact ⟨⟨w, q, 0, h, (Int64.add_zero _).symm, rfl⟩, h12, h14, Or.inr ⟨m, hmn, hs, ho⟩⟩
        · have hs2 : ¬ s.1 12 0 b = nI (iqN s.1 d nn a) := by rw [hy0, ← h12]; exact hs
          have ebs : (bs x b (x 31 (rk x k) 0) 8).1 = sfF s.1 b (s.1 18 0 (iqN s.1 d nn a)) 8 := by
            rw [e0, hy0, ← n1]; exact (bs_sf h.1 h.2.1 8 (by omega)).1
          by_cases hb : (bs x b (x 31 (rk x k) 0) 8).1 = -1
          · rw [lhL_a hC (by rw [e0]; exact hs) hb, chL_a hD hs2 (ebs.symm.trans hb)]
            have hBD : BD (st x 14 b 0 1) (st s.1 14 0 b 1) b w q := h.of (fun r j _ _ _ _ => st_nr (by omega)) (fun r _ => st_nr (by omega)) (fun j _ _ => ⟨st_nr (by omega), st_nr (by omega)⟩)
            refine ih (k + 1) (a + 1) (st x 14 b 0 1) (st s.1 14 0 b 1, s.2) w q (fun j n h9 => ?_) (fun j n h9 => ?_) hm' (hN.of (fun r i j h9 => st_nr (by omega)) (fun r i j h9 => st_nr (by omega))) hBD ?_ ?_
            · show (st x 14 b 0 1 43 0 _).toNatClampNeg = n
              rw [st_nr (by omega)]; exact hx' j n h9
            · show (iqO (st s.1 14 0 b 1) d nn 11 _).toNatClampNeg = n
              rw [iqO_c (y := s.1) (fun r i j h9 => st_nr (by omega))]; exact hy' j n h9
            · show st x 14 b 0 1 12 b 0 = st s.1 14 0 b 1 12 0 b
              rw [st_nr (by omega), st_nr (by omega)]; exact h12
            · show st x 14 b 0 1 14 b 0 = st s.1 14 0 b 1 14 0 b
              rw [st_eq, st_eq]
          · rw [lhL_t hC (by rw [e0]; exact hs) hb, chL_t hD hs2 (fun h9 => hb (ebs.trans h9)), e0, hy0]
            rw [e0] at hb
            obtain ⟨h1, h2, h3⟩ := h.take n1 hb
            exact ⟨h1, h2.trans h3.symm, by rw [tu_r (by omega)]; exact h14.trans (sh_r (by omega)).symm, Or.inr ⟨m, hmn, h2, (of_fr (fun r i j h9 => tu_r (by omega))).mpr ho⟩⟩
      · have hC : ¬ lhC x b (rk x k) := by rw [e0]; exact fun h9 => ho h9.1
        have hD : ¬ duP s.1 (iqN s.1 d nn a) := by rw [hy0]; exact fun h9 => ho (n2.mpr h9)
        rw [lhL_n hC, chL_n hD]
        exact ih (k + 1) (a + 1) x s w q hx' hy' hm' hN h h12 h14
    · have hC : ¬ lhC x b (rk x k) := by rw [e0]; exact fun h9 => hP (n3.mp h9.2)
      rw [lhL_n hC, List.filter_cons_of_neg hP]
      exact ih (k + 1) a x s w q hx' (fun j n h9 => hy j n (by rw [List.filter_cons_of_neg hP]; exact h9)) hm' hN h h12 h14
end BR4
