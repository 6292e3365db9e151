/-! READINGS: the class's rows and the reference's table; rumours -/
section BR6
theorem fd_spec {x : St} {p q : Int32} (c : Nat) (hc : c ≤ 512) : (fdF x p q c = -1 ∧ ∀ i, i < c → ¬ fdC x p q i) ∨ ∃ i, i < c ∧ fdF x p q c = nI i ∧ fdC x p q i := by
  induction c with
  | zero => exact Or.inl ⟨rfl, fun i h => absurd h (Nat.not_lt_zero _)⟩
  | succ c ih =>
    rcases ih (by omega) with ⟨h1, h2⟩ | ⟨i, h1, h2, h3⟩
    · by_cases h9 : fdC x p q c
      · exact Or.inr ⟨c, by omega, fd_yes h1 h9, h9⟩
      · refine Or.inl ⟨fd_no h1 h9, fun i hi => ?_⟩
        by_cases hic : i = c
        · subst hic; exact h9
        · exact h2 i (by omega)
    · exact Or.inr ⟨i, by omega, (if_neg (by rw [h2]; exact nI_ne (by omega))).trans h2, h3⟩
theorem fd_congr {x x' : St} {p q : Int32} {c : Nat} (h : ∀ i, i < c → x' 40 0 i = x 40 0 i ∧ x' 41 0 i = x 41 0 i) : fdF x' p q c = fdF x p q c := by
  induction c with
  | zero => rfl
  | succ c ih =>
    have e := ih (fun i hi => h i (by omega))
    have e2 : fdC x' p q c ↔ fdC x p q c := by unfold fdC; rw [(h c (by omega)).1, (h c (by omega)).2]
    by_cases h1 : fdF x p q c = -1
    · by_cases h2 : fdC x p q c
      · rw [fd_yes h1 h2, fd_yes (e.trans h1) (e2.mpr h2)]
      · rw [fd_no h1 h2, fd_no (e.trans h1) (fun h9 => h2 (e2.mp h9))]
    · rw [show fdF x p q (c + 1) = fdF x p q c from if_neg h1, show fdF x' p q (c + 1) = fdF x' p q c from if_neg (by rw [e]; exact h1), e]
theorem po_0 {x : St} {p q : Int32} {c : Nat} (h : fdF x p q c = -1) : poF x p q c = 0 := by
  unfold poF
  rw [h] <;> rfl
theorem po_n {x : St} {p q : Int32} {c i : Nat} (h : fdF x p q c = nI i) (hi : i < 512) : poF x p q c = x 42 0 i := by
  unfold poF
  rw [h, if_neg (nI_pos (by omega)), if_pos (show nI i < (512 : Int32) from nI_lt (b := 512) hi (by omega)), nI_clamp (by omega)]
/-- the readings of both -/
def RD (x y : St) (t : Nat) : Prop := ∃ c, c ≤ t ∧ c ≤ 512 ∧ x 4 0 0 = nI c ∧ (∀ i, i < c → ∃ h, h ≤ 2000 ∧ x 41 0 i = nI h) ∧ (∀ i, c ≤ i → i < 512 → x 42 0 i = 0) ∧ ∀ k, k < 40 → ∀ h, h ≤ 2000 → poF x (nI k) (nI h) c = y 25 0 (2001 * k + h)
theorem RD.of {x x' y y' : St} {t : Nat} (h : RD x y t) (ex : ∀ r i j, (r = 4 ∨ r = 40 ∨ r = 41 ∨ r = 42) → x' r i j = x r i j) (ey : ∀ j, y' 25 0 j = y 25 0 j) : RD x' y' t := by
  obtain ⟨c, h1, h2, h3, h4, h5, h6⟩ := h
  refine ⟨c, h1, h2, (ex 4 _ _ (by omega)).trans h3, fun i hi => ?_, fun i hi hi2 => ?_, fun k hk h hh => ?_⟩
  · rw [ex 41 _ _ (by omega)]; exact h4 i hi
  · rw [ex 42 _ _ (by omega)]; exact h5 i hi hi2
  · rw [ey, ← h6 k hk h hh]
    have e := fd_congr (x := x) (x' := x') (p := nI k) (q := nI h) (c := c) (fun i _ => ⟨ex 40 _ _ (by omega), ex 41 _ _ (by omega)⟩)
    unfold poF
    rw [e, ex 42 _ _ (by omega)]
theorem RD.up {x y : St} {t : Nat} (h : RD x y t) : RD x y (t + 1) := by
  obtain ⟨c, h1, h2⟩ := h
  exact ⟨c, by omega, h2⟩
theorem RD.wr {x y : St} {t k hr c : Nat} {v : Int32} (h : RD x y t) (ht : t < 512) (hk : k < 40) (hh : hr ≤ 2000) (hc : c ≤ 512) (e4 : x 4 0 0 = nI c) : RD (wrF x (nI k) (nI hr) v c) (st y 25 0 (2001 * k + hr) (y 25 0 (2001 * k + hr) + v)) (t + 1) := by
  obtain ⟨c', h1, h2, h3, h4, h5, h6⟩ := h
  obtain rfl : c' = c := (nI_eq (by omega) (by omega)).mp (h3.symm.trans e4)
  have hne : ∀ k', k' < 40 → ∀ h', h' ≤ 2000 → ¬ (k' = k ∧ h' = hr) → 2001 * k + hr ≠ 2001 * k' + h' := by omega
  have hpq : ∀ k', k' < 40 → ∀ h', h' ≤ 2000 → ∀ i, fdC x (nI k) (nI hr) i → fdC x (nI k') (nI h') i → k' = k ∧ h' = hr := fun k' hk' h' hh' i f1 f2 => by
    have e1 := f2.1.symm.trans f1.1
    have e2 := f2.2.symm.trans f1.2
    exact ⟨(nI_eq (by omega) (by omega)).mp e1, (nI_eq (by omega) (by omega)).mp e2⟩
  rcases fd_spec (x := x) (p := nI k) (q := nI hr) c' h2 with ⟨f1, f2⟩ | ⟨i, hi, f1, f2⟩
  · -- one more
    have e : wrF x (nI k) (nI hr) v c' = st (wr1 x (nI k) (nI hr)) 42 0 c' v := by
      rw [wrF_2 f1 (by rw [h3]; exact nI_ge (b := 512) (by omega) (by omega)), h3, wr2_2 (nI_pos (by omega)) (nI_ge (b := 512) (by omega) (by omega)), nI_clamp (by omega)]
      congr 1
      have : wr1 x (nI k) (nI hr) 42 0 c' = 0 := by
        unfold wr1
        rw [st_nr (by omega), st_nr (by omega), st_nr (by omega)]
        exact h5 c' (Nat.le_refl _) (by omega)
      rw [this, Int32.zero_add]
    rw [e]
    have g40 : ∀ i, st (wr1 x (nI k) (nI hr)) 42 0 c' v 40 0 i = if i = c' then nI k else x 40 0 i := fun i => by
      rw [st_nr (by omega)]
      unfold wr1
      rw [h3, nI_clamp (by omega), st_nr (by omega), st_nr (by omega)]
      by_cases hic : i = c'
      · subst hic; rw [st_eq, if_pos rfl]
      · rw [st_j (by omega), if_neg hic]
    have g41 : ∀ i, st (wr1 x (nI k) (nI hr)) 42 0 c' v 41 0 i = if i = c' then nI hr else x 41 0 i := fun i => by
      rw [st_nr (by omega)]
      unfold wr1
      rw [h3, nI_clamp (by omega), st_nr (by omega)]
      by_cases hic : i = c'
      · subst hic; rw [st_eq, if_pos rfl]
      · rw [st_j (by omega), if_neg hic, st_nr (by omega)]
    have g42 : ∀ i, i ≠ c' → st (wr1 x (nI k) (nI hr)) 42 0 c' v 42 0 i = x 42 0 i := fun i hic => by
      rw [st_j (by omega)]
      unfold wr1
      rw [st_nr (by omega), st_nr (by omega), st_nr (by omega)]
    refine ⟨c' + 1, by omega, by omega, ?_, fun i hi => ?_, fun i hi hi2 => ?_, fun k' hk' h' hh' => ?_⟩
    · rw [st_nr (by omega)]
      unfold wr1
      rw [st_eq, st_nr (by omega), st_nr (by omega), h3, nI_1]
    · rw [g41]
      by_cases hic : i = c'
      · rw [if_pos hic]; exact ⟨hr, hh, rfl⟩
      · rw [if_neg hic]; exact h4 i (by omega)
    · rw [g42 i (by omega)]; exact h5 i (by omega) hi2
    · have ec := fd_congr (x := x) (x' := st (wr1 x (nI k) (nI hr)) 42 0 c' v) (p := nI k') (q := nI h') (c := c') (fun i hi => by rw [g40, g41, if_neg (by omega), if_neg (by omega)]; exact ⟨rfl, rfl⟩)
      by_cases hs : k' = k ∧ h' = hr
      · obtain ⟨rfl, rfl⟩ := hs
        have ey : fdF (st (wr1 x (nI k') (nI h')) 42 0 c' v) (nI k') (nI h') (c' + 1) = nI c' := fd_yes (ec.trans f1) ⟨by rw [g40, if_pos rfl], by rw [g41, if_pos rfl]⟩
        rw [po_n ey (by omega), st_eq, st_eq, ← h6 k' hk' h' hh', po_0 f1, Int32.zero_add]
      · rw [st_j (hne k' hk' h' hh' hs), ← h6 k' hk' h' hh']
        rcases fd_spec (x := x) (p := nI k') (q := nI h') c' h2 with ⟨f3, f4⟩ | ⟨i, hi, f3, f4⟩
        · have ey : fdF (st (wr1 x (nI k) (nI hr)) 42 0 c' v) (nI k') (nI h') (c' + 1) = -1 := fd_no (ec.trans f3) (fun h9 => by
            have a1 := h9.1
            have a2 := h9.2
            rw [g40, if_pos rfl] at a1
            rw [g41, if_pos rfl] at a2
            exact hs ⟨((nI_eq (by omega) (by omega)).mp a1).symm, ((nI_eq (by omega) (by omega)).mp a2).symm⟩)
          rw [po_0 ey, po_0 f3]
        · have ey : fdF (st (wr1 x (nI k) (nI hr)) 42 0 c' v) (nI k') (nI h') (c' + 1) = nI i := (if_neg (by rw [ec, f3]; exact nI_ne (by omega))).trans (ec.trans f3)
          rw [po_n ey (by omega), po_n f3 (by omega), g42 i (by omega)]
  · -- one that stands
    have e : wrF x (nI k) (nI hr) v c' = st x 42 0 i (x 42 0 i + v) := by
      rw [wrF_0 (by rw [f1]; exact nI_ne (by omega)), f1, wr2_2 (nI_pos (by omega)) (nI_ge (b := 512) (by omega) (by omega)), nI_clamp (by omega)]
    rw [e]
    refine ⟨c', by omega, h2, (st_nr (by omega)).trans h3, fun i' hi' => ?_, fun i' hi' hi2 => ?_, fun k' hk' h' hh' => ?_⟩
    · rw [st_nr (by omega)]; exact h4 i' hi'
    · rw [st_j (by omega)]; exact h5 i' hi' hi2
    · have ec := fd_congr (x := x) (x' := st x 42 0 i (x 42 0 i + v)) (p := nI k') (q := nI h') (c := c') (fun i' _ => ⟨st_nr (by omega), st_nr (by omega)⟩)
      by_cases hs : k' = k ∧ h' = hr
      · obtain ⟨rfl, rfl⟩ := hs
        rw [po_n (ec.trans f1) (by omega), st_eq, st_eq, ← h6 k' hk' h' hh', po_n f1 (by omega)]
      · rw [st_j (hne k' hk' h' hh' hs), ← h6 k' hk' h' hh']
        rcases fd_spec (x := x) (p := nI k') (q := nI h') c' h2 with ⟨f3, f4⟩ | ⟨i2, hi2, f3, f4⟩
        · rw [po_0 (ec.trans f3), po_0 f3]
        · have hii : i ≠ i2 := fun h9 => hs (by subst h9; exact hpq k' hk' h' hh' i f2 f4)
          rw [po_n (ec.trans f3) (by omega), po_n f3 (by omega), st_j hii]
theorem RD.get {x y : St} {t k c : Nat} {q : Int32} (h : RD x y t) (hk : k < 40) (hc : c ≤ 512) (e4 : x 4 0 0 = nI c) : (¬ (0 ≤ q.toInt ∧ q.toInt ≤ 2000) → poF x (nI k) q c = 0) ∧ ∀ h9, h9 ≤ 2000 → q = nI h9 → poF x (nI k) q c = y 25 0 (2001 * k + h9) := by
  obtain ⟨c', h1, h2, h3, h4, h5, h6⟩ := h
  obtain rfl : c' = c := (nI_eq (by omega) (by omega)).mp (h3.symm.trans e4)
  refine ⟨fun hq => ?_, fun h9 hh eq => by rw [eq]; exact h6 k hk h9 hh⟩
  rcases fd_spec (x := x) (p := nI k) (q := q) c' h2 with ⟨f3, f4⟩ | ⟨i, hi, f3, f4⟩
  · exact po_0 f3
  · exfalso
    obtain ⟨h8, hh, e8⟩ := h4 i hi
    have e9 := f4.2.symm.trans e8
    refine hq ?_
    rw [e9, nI_toInt (by omega)]
    omega
-- rumours
theorem cm_iff {x y : St} {k : Nat} {p : Int32} (e : x 31 k 0 = y 18 0 k) : chmP x k p ↔ cmP y k p 8 := by
  unfold chmP cmP
  refine exists_congr (fun j => ?_)
  constructor
  · rintro ⟨hj, h⟩
    refine ⟨hj, fun c hc hb => ?_⟩
    rw [← e, has_tau hj hc]
    have h9 := and_0.mp h c hc
    rw [b_xor, b_m1 c hc, (has_0 hc).mp hb] at h9
    cases h8 : tau (x 31 k 0) j c with
    | true => rfl
    | false => exact absurd ⟨rfl, by rw [show bt (shF (x 31 k 0) (nI j)) c = false from h8] <;> rfl⟩ h9
  · rintro ⟨hj, h⟩
    refine ⟨hj, and_0.mpr (fun c hc h9 => ?_)⟩
    have h8 := h c hc ((has_0 hc).mpr h9.1)
    rw [← e, has_tau hj hc] at h8
    have h7 := h9.2
    rw [b_xor, b_m1 c hc, show bt (shF (x 31 k 0) (nI j)) c = true from h8] at h7
    cases h7
theorem ri_eq {x y : St} {k nb : Nat} {d : Int32} (e : ∀ b, b < nb → x 10 b 0 = y 10 0 b ∧ x 37 k b = y 24 0 (6 * k + b)) : riF x k d nb = riM y k d nb := by
  induction nb with
  | zero => rfl
  | succ n ih =>
    have e1 := ih (fun b hb => e b (by omega))
    obtain ⟨e2, e3⟩ := e n (by omega)
    by_cases h : x 10 n 0 = d
    · rw [ri_t h, ← riM_t (e2.symm.trans h), e1, e3]
    · rw [ri_f h, ← riM_f (fun h9 => h (e2.trans h9)), e1, Int32.add_zero]
theorem su_iff {x y : St} {k nb : Nat} {p d : Int32} (e : x 31 k 0 = y 18 0 k) (e2 : riF x k d nb = riM y k d nb) : suP x k p d nb ↔ csP y k p d nb := by
  unfold suP csP
  rw [cm_iff e, e2]
  exact and_comm
theorem scm_eq {x y : St} {nb nn : Nat} {p d : Int32} (h : ∀ k, k < nn → (suP x k p d nb ↔ csP y k p d nb)) : scF x p d nb nn = msF y p d nb nn := by
  induction nn with
  | zero => rfl
  | succ n ih =>
    have e := ih (fun k hk => h k (by omega))
    by_cases h9 : suP x n p d nb
    · rw [sc_t h9, e]; exact cnP_t (P := fun k => csP y k p d nb) ((h n (by omega)).mp h9)
    · rw [sc_f h9, e]; exact (Int32.add_zero _).symm.trans (cnP_f (P := fun k => csP y k p d nb) (fun h8 => h9 ((h n (by omega)).mpr h8)))
end BR6
