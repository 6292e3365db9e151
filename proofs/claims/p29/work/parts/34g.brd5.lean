/-! THE HOURS at all boards -/
section BR5
/-- what the hours read beside the boards -/
def CX (x y : St) (nn : Nat) : Prop := nn ≤ 40 ∧ (∀ k, k < nn → fld x y k) ∧ x 3 0 0 = y 1 0 0 ∧ x 2 0 0 = y 2 0 0 ∧ (∃ v, v ≤ 20 ∧ x 2 0 0 = nI v) ∧ (∀ b, b < 6 → ∃ d, d < 4 ∧ x 10 b 0 = nI d ∧ y 10 0 b = nI d) ∧ (∀ k, k < 40 → ∀ d, d < 4 → (bt (x 36 k 0) d = true ↔ ¬ y 23 0 (4 * k + d) = 0)) ∧ KR x y nn ∧ ∀ k, k < nn → ∃ r, r ≤ 10 ∧ y 17 0 k = nI r
theorem CX.of {x x' y y' : St} {nn : Nat} (h : CX x y nn) (ex : ∀ r i j, (r < 11 ∨ 21 < r) → x' r i j = x r i j) (ey : ∀ r i j, (r < 11 ∨ 16 < r) → y' r i j = y r i j) : CX x' y' nn := by
  obtain ⟨h1, h2, h3, h4, h5, h6, h7, h8, h9⟩ := h
  refine ⟨h1, fun k hk => ?_, ?_, ?_, ?_, fun b hb => ?_, fun k hk d hd => ?_, h8.of (fun j => ex 43 _ _ (by omega)) (fun k => ey 17 _ _ (by omega)), fun k hk => ?_⟩
  · unfold fld
    rw [ex 30 _ _ (by omega), ex 31 _ _ (by omega), ex 32 _ _ (by omega), ex 33 _ _ (by omega), ey 17 _ _ (by omega), ey 18 _ _ (by omega), ey 19 _ _ (by omega), ey 20 _ _ (by omega)]; exact h2 k hk
  · rw [ex 3 _ _ (by omega), ey 1 _ _ (by omega)]; exact h3
  · rw [ex 2 _ _ (by omega), ey 2 _ _ (by omega)]; exact h4
  · rw [ex 2 _ _ (by omega)]; exact h5
  · rw [ex 10 _ _ (by omega), ey 10 _ _ (by omega)]; exact h6 b hb
  · rw [ex 36 _ _ (by omega), ey 23 _ _ (by omega)]; exact h7 k hk d hd
  · rw [ey 17 _ _ (by omega)]; exact h9 k hk
theorem BE.trans {x : St} {s : MS} {b nn n : Nat} {w w1 : Nat → Nat} {ch ch1 : Int64} (h : BE x s b nn w1 ch1) (e : ch1 = ch + Int64.ofNat n) (e2 : sw w1 32 = sw w 32 + n) : BE x s b nn w ch := by
  obtain ⟨⟨w', q', m, h1, h2, h3⟩, h4⟩ := h
  exact ⟨⟨w', q', n + m, h1, by rw [h2, e, Int64.add_assoc, ← Int64.ofNat_add], by omega⟩, h4⟩
theorem leS {v s : Nat} (hv : v ≤ 200) (hs : s ≤ 20) : (if (200 : Int32) < nI v + nI s then (200 : Int32) else nI v + nI s) = nI (min (v + s) 200) ∧ leI 200 (nI v + nI s) = nI (min (v + s) 200) := by
  rw [nI_add]
  unfold leI
  by_cases h : v + s ≤ 200
  · rw [if_neg (show ¬ (200 : Int32) < nI (v + s) from nI_nlt (a := 200) h (by omega)), if_pos (show nI (v + s) ≤ (200 : Int32) from nI_le (b := 200) h (by omega)), Nat.min_eq_left h]
    exact ⟨rfl, rfl⟩
  · rw [if_pos (show (200 : Int32) < nI (v + s) from nI_lt (a := 200) (by omega) (by omega)), if_neg (show ¬ nI (v + s) ≤ (200 : Int32) from nI_ge (a := 200) (by omega) (by omega)), Nat.min_eq_right (by omega)]
    exact ⟨rfl, rfl⟩
theorem qc_ii {x y : St} {k d : Nat} (hd : d < 4) (hb : bt (x 36 k 0) d = true ↔ ¬ y 23 0 (4 * k + d) = 0) (e33 : x 33 k 0 = y 20 0 k) (e3 : x 3 0 0 = y 1 0 0) : qcP x k (nI d) ↔ iiP y k d := by
  unfold qcP iiP
  rw [bitF_bt (by omega), hb, e33, e3, Int32.not_le]
theorem hour_board {x : St} {s : MS} {b nn q : Nat} {w : Nat → Nat} (hb : b < 6) (hX : CX x s.1 nn) (h : BD x s.1 b w q) (h12 : x 12 b 0 = s.1 12 0 b) (hsh : x 12 b 0 = -1 ∨ ∃ k, k < nn ∧ x 12 b 0 = nI k ∧ x 32 k 0 ≤ x 3 0 0) : BE (lhF x b nn) (gbM s b nn) b nn w s.2 := by
  have hnn := hX.1
  obtain ⟨d, hd, ed, ed2⟩ := hX.2.2.2.2.2.1 b hb
  obtain ⟨v, hv, ev⟩ := hX.2.2.2.2.1
  -- the charge
  have hA : BD (lhA x b) (cbM s.1 b) b w (min (q + v) 200) := by
    obtain ⟨h1, h2, h3, h4⟩ := h
    have hq := h1.2.2.2.2.2
    obtain ⟨l1, l2⟩ := leS hq hv
    have e15 : lhA x b 15 b 0 = x 15 b 0 := (st_nr (by omega)).trans (st_nr (by omega))
    refine ⟨h1.of (fun r j a c => (st_nr (by omega)).trans (st_nr (by omega))) ?_ (Nat.min_le_right _ _), ?_, ?_, ?_⟩
    · refine (st_nr (by omega)).trans ?_
      show st x 11 b 0 (if 200 < x 11 b 0 + x 2 0 0 then 200 else x 11 b 0 + x 2 0 0) 11 b 0 = _
      rw [st_eq, h1.2.2.2.2.1, ev, l1]
    · rw [e15]
      refine h2.of (fun j _ _ => ⟨st_nr (by omega), st_nr (by omega)⟩) ?_
      show st s.1 11 0 b (leI 200 (s.1 11 0 b + s.1 2 0 0)) 11 0 b = _
      rw [st_eq, h2.2, ← hX.2.2.2.1, ev, l2]
    · rw [e15]
      have := cN_le (β := bt (x 15 b 0)) 32
      omega
    · exact (st_nr (by omega)).trans ((st_nr (by omega)).trans (h4.trans (st_nr (by omega)).symm))
  have a12 : lhA x b 12 b 0 = (cbM s.1 b) 12 0 b := (st_nr (by omega)).trans ((st_nr (by omega)).trans (h12.trans (st_nr (by omega)).symm))
  have a14 : lhA x b 14 b 0 = 0 := st_eq
  have hXA : CX (lhA x b) (cbM s.1 b) nn := hX.of (fun r i j hr => lhA_r hr) (fun r i j hr => st_nr (by omega))
  have hshA : lhA x b 12 b 0 = -1 ∨ ∃ k, k < nn ∧ lhA x b 12 b 0 = nI k ∧ lhA x b 32 k 0 ≤ lhA x b 3 0 0 := by
    rw [show lhA x b 12 b 0 = x 12 b 0 from (st_nr (by omega)).trans (st_nr (by omega)), lhA_r (by omega)]
    refine hsh.imp id (fun ⟨k, h1, h2, h3⟩ => ⟨k, h1, h2, ?_⟩)
    rw [lhA_r (by omega)]; exact h3
  -- what is over is wiped
  have hB : BO (lhB (lhA x b) b) (gwM (cbM s.1 b, s.2) b) b w s.2 ∧ lhB (lhA x b) b 12 b 0 = (gwM (cbM s.1 b, s.2) b).1 12 0 b := by
    rcases hshA with e | ⟨k, hk, e, hle⟩
    · have e1 : lhB (lhA x b) b = lhA x b := by unfold lhB; rw [if_pos e]
      have e2 : gwM (cbM s.1 b, s.2) b = (cbM s.1 b, s.2) := by
        unfold gwM
        dsimp only
        rw [if_pos (a12.symm.trans e)]
      rw [e1, e2]
      exact ⟨⟨w, _, 0, hA, (Int64.add_zero _).symm, rfl⟩, a12⟩
    · have ne1 : ¬ nI k = -1 := nI_ne (by omega)
      have eC : (lhA x b 12 b 0).toNatClampNeg = k := by rw [e, nI_clamp (by omega)]
      have eM : ((cbM s.1 b) 12 0 b).toNatClampNeg = k := by rw [← a12, eC]
      obtain ⟨-, -, -, f33⟩ := hXA.2.1 k hk
      by_cases ho : ofP (lhA x b) k
      · have e1 : lhB (lhA x b) b = lhA x b := by unfold lhB; rw [if_neg (by rw [e]; exact ne1), eC, if_pos ho]
        have e2 : gwM (cbM s.1 b, s.2) b = (cbM s.1 b, s.2) := by
          unfold gwM
          dsimp only
          rw [if_neg (by rw [← a12, e]; exact ne1), eM, if_neg (by rw [← f33, ← hXA.2.2.1]; exact Int32.not_le.mpr ho.2)]
        rw [e1, e2]
        exact ⟨⟨w, _, 0, hA, (Int64.add_zero _).symm, rfl⟩, a12⟩
      · have e1 : lhB (lhA x b) b = wiF (lhA x b) b := by unfold lhB; rw [if_neg (by rw [e]; exact ne1), eC, if_neg ho]
        have hov : (cbM s.1 b) 20 0 k ≤ (cbM s.1 b) 1 0 0 := by
          rw [← f33, ← hXA.2.2.1]
          exact Int32.not_lt.mp (fun h9 => ho ⟨hle, h9⟩)
        have e2 : gwM (cbM s.1 b, s.2) b = wpM (cbM s.1 b, s.2) b := by
          unfold gwM
          dsimp only
          rw [if_neg (by rw [← a12, e]; exact ne1), eM, if_pos hov]
        rw [e1, e2]
        obtain ⟨g1, g2, g3⟩ := BD.wipe (s := (cbM s.1 b, s.2)) hA
        exact ⟨g1, g2.trans g3.symm⟩
  obtain ⟨⟨w1, q1, n1, hB1, hB2, hB3⟩, hB4⟩ := hB
  -- what is shown
  have hXB : CX (lhB (lhA x b) b) (gwM (cbM s.1 b, s.2) b).1 nn := hXA.of (fun r i j hr => lhB_r (by omega)) (fun r i j hr => gwM_r (s := (cbM s.1 b, s.2)) (by omega))
  have b14 : lhB (lhA x b) b 14 b 0 = 0 := (lhB_r (by omega)).trans a14
  show BE (lhL b nn 0 (lhB (lhA x b) b)) (chM (gwM (cbM s.1 b, s.2) b) b nn) b nn w s.2
  generalize lhB (lhA x b) b = x2 at hB1 hB4 hXB b14 ⊢
  have ed3 : x2 10 b 0 = nI d ∧ (gwM (cbM s.1 b, s.2) b).1 10 0 b = nI d := by
    obtain ⟨d2, hd2, g1, g2⟩ := hXB.2.2.2.2.2.1 b hb
    have : (gwM (cbM s.1 b, s.2) b).1 10 0 b = nI d := (gwM_r (s := (cbM s.1 b, s.2)) (by omega)).trans ((show (cbM s.1 b) 10 0 b = s.1 10 0 b from st_nr (by omega)).trans ed2)
    rw [this] at g2
    exact ⟨g1.trans g2.symm, this⟩
  generalize gwM (cbM s.1 b, s.2) b = s2 at hB1 hB2 hB4 hXB ed3 ⊢
  refine BE.trans (n := n1) (w1 := w1) (ch1 := s2.2) ?_ hB2 hB3
  have hS : CX x2 (st s2.1 14 0 b 0) nn := hXB.of (fun _ _ _ _ => rfl) (fun r i j hr => st_nr (by omega))
  have hK : RLs x2 nn = qO (fun k => st s2.1 14 0 b 0 17 0 k) nn 11 := hS.2.2.2.2.2.2.2.1
  have hlen : (QL (st s2.1 14 0 b 0) d nn 11).length = ((RLs x2 nn).filter (iiB (st s2.1 14 0 b 0) d)).length := by rw [hK] <;> rfl
  have hql : ((RLs x2 nn).filter (iiB (st s2.1 14 0 b 0) d)).length ≤ nn := Nat.le_trans (List.length_filter_le _ _) (Nat.le_of_eq RL_len)
  unfold chM
  rw [ed3.2, nI_clamp (by omega), mq_len hS.2.2.2.2.2.2.2.2, hlen, nI_clamp (by omega), show lhL b nn 0 x2 = lhL b (RLs x2 nn).length 0 x2 by rw [RL_len]]
  refine hour_list (RLs x2 nn) 0 0 x2 (st s2.1 14 0 b 0, s2.2) w1 q1 (fun j n hj => ?_) (fun j n hj => ?_) (fun n hn => ?_) (fun k hk => ?_) ?_ ?_ ?_
  · unfold RLs at hj
    rw [List.getElem?_map] at hj
    rw [Nat.zero_add]
    by_cases hjn : j < nn
    · rw [List.getElem?_range hjn] at hj
      exact Option.some.inj hj
    · rw [List.getElem?_eq_none (by rw [List.length_range]; omega)] at hj
      cases hj
  · have hj2 : (QL (st s2.1 14 0 b 0) d nn 11)[j]? = some n := by rw [← hj, hK] <;> rfl
    obtain ⟨hjl, -⟩ := List.getElem?_eq_some_iff.mp hj
    have hmem : n ∈ RLs x2 nn := (List.mem_filter.mp (List.mem_of_getElem? hj)).1
    rw [hK] at hmem
    have hnn2 := (qO_mem hmem).1
    unfold iqN
    dsimp only
    rw [Nat.zero_add, iqO_list 11 j (by omega), hj2]
    exact nI_clamp (by omega)
  · rw [hK] at hn
    exact (qO_mem hn).1
  · obtain ⟨f30, f31, f32, f33⟩ := hS.2.1 k hk
    refine ⟨f31, ?_, ?_⟩
    · unfold ofP duP
      rw [f32, f33, hS.2.2.1]
    · rw [ed3.1, iiB_iff]
      exact qc_ii hd (hS.2.2.2.2.2.2.1 k (by omega) d hd) f33 hS.2.2.1
  · show BD x2 (st s2.1 14 0 b 0) b w1 q1
    exact hB1.of (fun _ _ _ _ _ _ => rfl) (fun r _ => st_nr (by omega)) (fun j _ _ => ⟨st_nr (by omega), st_nr (by omega)⟩)
  · show x2 12 b 0 = st s2.1 14 0 b 0 12 0 b
    exact hB4.trans (st_nr (by omega)).symm
  · show x2 14 b 0 = st s2.1 14 0 b 0 14 0 b
    exact b14.trans st_eq.symm
-- the other boards
theorem wi_i {x : St} {i r a c : Nat} (h : a ≠ i) : wiF x i r a c = x r a c := (st_i (by omega)).trans ((st_i (by omega)).trans (ch_i h))
theorem tu_i {x : St} {i k r a c : Nat} (h : a ≠ i) : tuF x i k r a c = x r a c := (st_i (by omega)).trans ((st_i (by omega)).trans (ch_i h))
theorem lhL_i {i d r a c : Nat} (h : a ≠ i) : ∀ {k : Nat} {x : St}, lhL i d k x r a c = x r a c := by
  induction d with
  | zero => intro k x; exact wi_i h
  | succ d ih =>
    intro k x
    unfold lhL
    split
    · split
      · rfl
      · split
        · exact ih.trans (st_i (by omega))
        · exact tu_i h
    · exact ih
theorem lhF_i {x : St} {i nn r a c : Nat} (h : a ≠ i) : lhF x i nn r a c = x r a c := by
  refine (lhL_i h).trans ?_
  have e : lhA x i r a c = x r a c := (st_i (by omega)).trans (st_i (by omega))
  unfold lhB
  split
  · exact e
  · split
    · exact e
    · exact (wi_i h).trans e
theorem st_o {y : St} {r q b j i : Nat} {v : Int32} (h : q = r → j ≠ b) : st y r 0 b v q i j = y q i j := by
  by_cases hr : q = r
  · exact st_j (Ne.symm (h hr))
  · exact st_nr (by omega)
theorem chL_o {b d nn f r i j : Nat} (h : (r = 15 ∨ r = 16) → ¬ (32 * b ≤ j ∧ j < 32 * b + 32)) (h2 : (r = 11 ∨ r = 12 ∨ r = 13 ∨ r = 14) → j ≠ b) : ∀ {k : Nat} {s : MS}, (chL b d nn f k s).1 r i j = s.1 r i j := by
  induction f with
  | zero => intro k s; exact wpM_o h (fun hr => h2 (by omega))
  | succ f ih =>
    intro k s
    unfold chL
    split
    · split
      · rfl
      · split
        · exact ih.trans (st_o (fun hr => h2 (by omega)))
        · exact shM_o h (fun hr => h2 (by omega))
    · exact ih
theorem gbM_o {s : MS} {b nn r i j : Nat} (h : (r = 15 ∨ r = 16) → ¬ (32 * b ≤ j ∧ j < 32 * b + 32)) (h2 : (r = 11 ∨ r = 12 ∨ r = 13 ∨ r = 14) → j ≠ b) : (gbM s b nn).1 r i j = s.1 r i j := by
  refine (chL_o h h2).trans ((st_o (fun hr => h2 (by omega))).trans ?_)
  have e : (cbM s.1 b) r i j = s.1 r i j := st_o (fun hr => h2 (by omega))
  unfold gwM
  split
  · exact e
  · split
    · exact (wpM_o (s := (cbM s.1 b, s.2)) h (fun hr => h2 (by omega))).trans e
    · exact e
/-- all boards, k of them behind this hour -/
def AB (x : St) (s : MS) (nb nn k : Nat) (W : Nat → Nat → Nat) : Prop := (∀ b, b < 6 → (∃ q, BD x s.1 b (W b) q) ∧ x 14 b 0 = s.1 14 0 b) ∧ (∀ b, b < nb → x 12 b 0 = s.1 12 0 b ∧ (x 12 b 0 = -1 ∨ ∃ n, n < nn ∧ x 12 b 0 = nI n ∧ x 32 n 0 ≤ x 3 0 0 ∧ (b < k → x 3 0 0 < x 33 n 0))) ∧ (∀ b, nb ≤ b → b < 6 → x 12 b 0 = -1 ∧ x 15 b 0 = 0 ∧ ∀ c, c < 32 → W b c = 0) ∧ s.2 = Int64.ofNat (sw (fun b => sw (W b) 32) 6)
theorem sw_up {f g : Nat → Nat} {k n m : Nat} (hk : k < n) (h : ∀ b, b ≠ k → g b = f b) (e : g k = f k + m) : sw g n = sw f n + m := by
  induction n with
  | zero => omega
  | succ n ih =>
    show sw g n + g n = sw f n + f n + m
    by_cases hn : n = k
    · subst hn
      rw [sw_congr (w := g) (v := f) (fun c hc => h c (by omega)), e]; omega
    · rw [ih (by omega), h n hn]; omega
theorem AB.step {x : St} {s : MS} {nb nn k : Nat} {W : Nat → Nat → Nat} (hX : CX x s.1 nn) (h : AB x s nb nn k W) (hk : k < nb) (hb : nb ≤ 6) : ∃ W', AB (lhF x k nn) (gbM s k nn) nb nn (k + 1) W' := by
  obtain ⟨h1, h2, h3, h4⟩ := h
  obtain ⟨⟨q, hq⟩, e14⟩ := h1 k (by omega)
  obtain ⟨e12, hsh⟩ := h2 k hk
  obtain ⟨⟨w', q', n, g1, g2, g3⟩, g4, g5, g6⟩ := hour_board (by omega) hX hq e12 (hsh.imp id (fun ⟨n, a, b, c, _⟩ => ⟨n, a, b, c⟩))
  have fx : ∀ r i j, i ≠ k → lhF x k nn r i j = x r i j := fun r i j hi => lhF_i hi
  have fr : ∀ r i j, (r < 11 ∨ 21 < r) → lhF x k nn r i j = x r i j := fun r i j hr => lhF_r hr
  obtain ⟨W', w1, w2⟩ : ∃ W' : Nat → Nat → Nat, W' k = w' ∧ ∀ b, b ≠ k → W' b = W b := ⟨fun b => if b = k then w' else W b, if_pos rfl, fun b hb => if_neg hb⟩
  refine ⟨W', fun b hb6 => ?_, fun b hbn => ?_, fun b hbn hb6 => ?_, ?_⟩
  · by_cases hbk : b = k
    · subst hbk
      rw [w1]
      exact ⟨⟨q', g1⟩, g5⟩
    · obtain ⟨⟨q2, hq2⟩, f14⟩ := h1 b hb6
      rw [w2 b hbk]
      refine ⟨⟨q2, hq2.of (fun r j _ _ _ _ => fx r b j hbk) (fun r hr => gbM_o (by omega) (fun _ => hbk)) (fun j hj hj2 => ⟨gbM_o (fun _ => by omega) (by omega), gbM_o (fun _ => by omega) (by omega)⟩)⟩, ?_⟩
      rw [fx _ _ _ hbk, gbM_o (by omega) (fun _ => hbk)]; exact f14
  · by_cases hbk : b = k
    · subst hbk
      exact ⟨g4, g6.imp id (fun ⟨n, a, b, c⟩ => ⟨n, a, b, c.1, fun _ => c.2⟩)⟩
    · obtain ⟨f12, f13⟩ := h2 b hbn
      rw [fx _ _ _ hbk, gbM_o (by omega) (fun _ => hbk), fr 3 _ _ (by omega)]
      refine ⟨f12, f13.imp id (fun ⟨n, a, c, d, e⟩ => ⟨n, a, c, ?_, ?_⟩)⟩
      · rw [fr 32 _ _ (by omega)]; exact d
      · rw [fr 33 _ _ (by omega)]; exact fun h9 => e (by omega)
  · obtain ⟨f1, f2, f3⟩ := h3 b hbn hb6
    have hbk : b ≠ k := by omega
    rw [fx _ _ _ hbk, fx _ _ _ hbk, w2 b hbk]
    exact ⟨f1, f2, f3⟩
  · rw [g2, h4, ← Int64.ofNat_add]
    congr 1
    refine (sw_up (k := k) (by omega) (fun b hbk => ?_) ?_).symm
    · show sw (W' b) 32 = sw (W b) 32
      rw [w2 b hbk]
    · show sw (W' k) 32 = sw (W k) 32 + n
      rw [w1]; exact g3
theorem AB.loop {x : St} {s : MS} {nb nn : Nat} {W : Nat → Nat → Nat} (hX : CX x s.1 nn) (h : AB x s nb nn 0 W) (hb : nb ≤ 6) (k : Nat) (hk : k ≤ nb) : ∃ W', AB (hrF x nn k) (grM s nn k) nb nn k W' := by
  induction k with
  | zero => exact ⟨W, h⟩
  | succ k ih =>
    obtain ⟨W', h9⟩ := ih (by omega)
    exact AB.step (hX.of (fun r i j hr => hrF_r hr) (fun r i j hr => grM_r hr)) h9 (by omega) hb
theorem goS_r {x : St} {r i j : Nat} (h : r ≠ 3) : goS x r i j = x r i j := st_nr (by omega)
theorem gsM_r {s : MS} {r i j : Nat} (h : r ≠ 1) : (gsM s).1 r i j = s.1 r i j := by
  show st s.1 1 0 0 (s.1 1 0 0 + 1) r i j = _
  exact st_nr (by omega)
theorem CX.gs {x : St} {s : MS} {nn : Nat} (h : CX x s.1 nn) : CX (goS x) (gsM s).1 nn := by
  obtain ⟨h1, h2, h3, h4, h5, h6, h7, h8, h9⟩ := h
  refine ⟨h1, fun k hk => ?_, ?_, ?_, ?_, fun b hb => ?_, fun k hk d hd => ?_, h8.of (fun j => goS_r (by omega)) (fun k => gsM_r (by omega)), fun k hk => ?_⟩
  · unfold fld
    rw [goS_r (by omega), goS_r (by omega), goS_r (by omega), goS_r (by omega), gsM_r (by omega), gsM_r (by omega), gsM_r (by omega), gsM_r (by omega)]; exact h2 k hk
  · show st x 3 0 0 (x 3 0 0 + 1) 3 0 0 = st s.1 1 0 0 (s.1 1 0 0 + 1) 1 0 0
    rw [st_eq, st_eq, h3]
  · rw [goS_r (by omega), gsM_r (by omega)]; exact h4
  · rw [goS_r (by omega)]; exact h5
  · rw [goS_r (by omega), gsM_r (by omega)]; exact h6 b hb
  · rw [goS_r (by omega), gsM_r (by omega)]; exact h7 k hk d hd
  · rw [gsM_r (by omega)]; exact h9 k hk
theorem AB.go {x : St} {s : MS} {nb nn hr : Nat} {W : Nat → Nat → Nat} (hX : CX x s.1 nn) (h : AB x s nb nn nb W) (hb : nb ≤ 6) (h3 : x 3 0 0 = nI hr) (N : Nat) (hN : hr + N ≤ 2000) : ∃ W', AB (goF x nb nn N) (goM s nb nn N) nb nn nb W' ∧ CX (goF x nb nn N) (goM s nb nn N).1 nn ∧ goF x nb nn N 3 0 0 = nI (hr + N) := by
  induction N with
  | zero => exact ⟨W, h, hX, h3⟩
  | succ N ih =>
    obtain ⟨W1, a1, a2, a3⟩ := ih (by omega)
    have c1 : CX (goS (goF x nb nn N)) (gsM (goM s nb nn N)).1 nn := a2.gs
    have e3 : goS (goF x nb nn N) 3 0 0 = nI (hr + (N + 1)) := by
      show st (goF x nb nn N) 3 0 0 (goF x nb nn N 3 0 0 + 1) 3 0 0 = nI (hr + N + 1)
      rw [st_eq, a3, nI_1]
    have a4 : AB (goS (goF x nb nn N)) (gsM (goM s nb nn N)) nb nn 0 W1 := by
      obtain ⟨h1, h2, h4, h5⟩ := a1
      refine ⟨fun b hb6 => ?_, fun b hbn => ?_, fun b hbn hb6 => ?_, h5⟩
      · obtain ⟨⟨q, hq⟩, f14⟩ := h1 b hb6
        refine ⟨⟨q, hq.of (fun r j _ _ _ _ => goS_r (by omega)) (fun r _ => gsM_r (by omega)) (fun j _ _ => ⟨gsM_r (by omega), gsM_r (by omega)⟩)⟩, ?_⟩
        rw [goS_r (by omega), gsM_r (by omega)]; exact f14
      · obtain ⟨f12, f13⟩ := h2 b hbn
        have g12 : goS (goF x nb nn N) 12 b 0 = goF x nb nn N 12 b 0 := goS_r (by omega)
        rw [g12, gsM_r (by omega)]
        refine ⟨f12, f13.imp id (fun ⟨n, a, c, d, e⟩ => ⟨n, a, c, ?_, fun h9 => absurd h9 (by omega)⟩)⟩
        rw [e3, goS_r (by omega)]
        refine Int32.le_trans d ?_
        rw [a3]
        exact nI_le (by omega) (by omega)
      · obtain ⟨f1, f2, f3⟩ := h4 b hbn hb6
        rw [goS_r (by omega), goS_r (by omega)]
        exact ⟨f1, f2, f3⟩
    obtain ⟨W2, a5⟩ := AB.loop c1 a4 hb nb (Nat.le_refl _)
    refine ⟨W2, a5, c1.of (fun r i j hr => hrF_r hr) (fun r i j hr => grM_r hr), ?_⟩
    exact (hrF_r (by omega)).trans e3
end BR5
