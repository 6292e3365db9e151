/-! THE ORDER: the class's ranked row is the reference's order by ranks, then by numbers -/
section ORD
def qO (f : Nat → Int32) (nn : Nat) : Nat → List Nat
  | 0 => []
  | m + 1 => (List.range nn).filter (fun k => decide (f k = nI m)) ++ qO f nn m
theorem qO_s {f : Nat → Int32} {nn m : Nat} : qO f nn (m + 1) = (List.range nn).filter (fun k => decide (f k = nI m)) ++ qO f nn m := rfl
def RLs (x : St) (nn : Nat) : List Nat := (List.range nn).map (rk x)
theorem qO_mem {f : Nat → Int32} {nn m k : Nat} (h : k ∈ qO f nn m) : k < nn ∧ ∃ r, r < m ∧ f k = nI r := by
  induction m with
  | zero => cases h
  | succ m ih =>
    rcases List.mem_append.mp h with h | h
    · obtain ⟨h1, h2⟩ := List.mem_filter.mp h
      exact ⟨List.mem_range.mp h1, m, by omega, of_decide_eq_true h2⟩
    · obtain ⟨h1, r, h2, h3⟩ := ih h
      exact ⟨h1, r, by omega, h3⟩
theorem qO_congr {f f' : Nat → Int32} {nn m : Nat} (h : ∀ k, k < nn → f' k = f k) : qO f' nn m = qO f nn m := by
  induction m with
  | zero => rfl
  | succ m ih =>
    show _ ++ _ = _ ++ _
    rw [ih]
    congr 1
    exact List.filter_congr (fun k hk => by rw [h k (List.mem_range.mp hk)])
/-- one notice more, of the rank q -/
theorem qO_one {f f' : Nat → Int32} {nn q : Nat} (h : ∀ k, k < nn → f' k = f k) (hq : f' nn = nI q) (hq2 : q < 2 ^ 30) (d : Nat) (hd : q + d < 2 ^ 30) : qO f' (nn + 1) q = qO f nn q ∧ ∃ hi, qO f nn (q + 1 + d) = hi ++ qO f nn q ∧ qO f' (nn + 1) (q + 1 + d) = hi ++ nn :: qO f nn q ∧ ∀ k ∈ hi, k < nn ∧ ∃ r, q ≤ r ∧ r < 2 ^ 30 ∧ f k = nI r := by
  have hF : ∀ m, m < 2 ^ 30 → (List.range (nn + 1)).filter (fun k => decide (f' k = nI m)) = (List.range nn).filter (fun k => decide (f k = nI m)) ++ (if m = q then [nn] else []) := by
    intro m hm
    rw [List.range_succ, List.filter_append]
    congr 1
    · exact List.filter_congr (fun k hk => by rw [h k (List.mem_range.mp hk)])
    · by_cases hmq : m = q
      · rw [hmq, if_pos rfl]
        exact List.filter_cons_of_pos (by rw [hq]; exact decide_eq_true rfl)
      · rw [if_neg hmq]
        exact List.filter_cons_of_neg (by rw [hq, decide_eq_true_iff]; exact fun h9 => hmq ((nI_eq (by omega) (by omega)).mp h9).symm)
  have hlow : ∀ m, m ≤ q → qO f' (nn + 1) m = qO f nn m := by
    intro m
    induction m with
    | zero => intro _; rfl
    | succ m ih =>
      intro hm
      show _ ++ _ = _ ++ _
      rw [hF m (by omega), if_neg (by omega), List.append_nil, ih (by omega)]
  refine ⟨hlow q (Nat.le_refl _), ?_⟩
  induction d with
  | zero =>
    refine ⟨(List.range nn).filter (fun k => decide (f k = nI q)), rfl, ?_, fun k hk => ?_⟩
    · show _ ++ qO f' (nn + 1) q = _
      rw [hF q (by omega), if_pos rfl, hlow q (Nat.le_refl _), List.append_assoc] <;> rfl
    · obtain ⟨h1, h2⟩ := List.mem_filter.mp hk
      exact ⟨List.mem_range.mp h1, q, Nat.le_refl _, hq2, of_decide_eq_true h2⟩
  | succ d ih =>
    obtain ⟨hi, h1, h2, h3⟩ := ih (by omega)
    refine ⟨(List.range nn).filter (fun k => decide (f k = nI (q + 1 + d))) ++ hi, ?_, ?_, fun k hk => ?_⟩
    · rw [show q + 1 + (d + 1) = q + 1 + d + 1 by omega, qO_s, h1, List.append_assoc]
    · rw [show q + 1 + (d + 1) = q + 1 + d + 1 by omega, qO_s, hF (q + 1 + d) (by omega), if_neg (by omega), List.append_nil, h2, List.append_assoc]
    · rcases List.mem_append.mp hk with hk | hk
      · obtain ⟨h4, h5⟩ := List.mem_filter.mp hk
        exact ⟨List.mem_range.mp h4, q + 1 + d, by omega, by omega, of_decide_eq_true h5⟩
      · exact h3 k hk
theorem RL_get {x : St} {nn k : Nat} (h : k < nn) : (RLs x nn)[k]? = some (rk x k) := by
  unfold RLs
  rw [List.getElem?_map, List.getElem?_range h] <;> rfl
theorem RL_len {x : St} {nn : Nat} : (RLs x nn).length = nn := by unfold RLs; rw [List.length_map, List.length_range]
/-- the row behind taking a notice: h places stay, then the new one, then the rest -/
theorem tkL_row {p0 : Int32} {nn h : Nat} (hnn : nn < 2 ^ 31) (m : Nat) : ∀ {x : St}, h ≤ m → (∀ j, h ≤ j → j < m → x 30 (rk x j) 0 < p0) → (∀ j, j < h → ¬ x 30 (rk x j) 0 < p0) → ∀ j, rk (tkL p0 nn m x) j = if j < h then rk x j else if j = h then nn else if j ≤ m then rk x (j - 1) else rk x j := by
  have key : ∀ (x : St) (m j : Nat) (v : Int32), rk (st x 43 0 m v) j = if j = m then v.toNatClampNeg else rk x j := by
    intro x m j v
    unfold rk
    by_cases hj : j = m
    · subst hj; rw [st_eq, if_pos rfl]
    · rw [st_j (by omega), if_neg hj]
  induction m with
  | zero =>
    intro x hm _ _ j
    show rk (st x 43 0 0 (nI nn)) j = _
    rw [key, nI_clamp hnn]
    by_cases hj : j = 0
    · subst hj
      rw [if_pos rfl, if_neg (by omega), if_pos (by omega)]
    · rw [if_neg hj, if_neg (by omega), if_neg (by omega), if_neg (by omega)]
  | succ m ih =>
    intro x hm h1 h2 j
    by_cases hmh : h = m + 1
    · have h3 := h2 m (by omega)
      rw [tkL_f h3, key, nI_clamp hnn]
      by_cases hj : j = m + 1
      · subst hj; rw [if_pos rfl, if_neg (by omega), if_pos (by omega)]
      · rw [if_neg hj]
        by_cases hj2 : j < h
        · rw [if_pos hj2]
        · rw [if_neg hj2, if_neg (by omega), if_neg (by omega)]
    · have h3 := h1 m (by omega) (by omega)
      rw [tkL_t h3]
      have hk : ∀ q, rk (st x 43 0 (m + 1) (x 43 0 m)) q = if q = m + 1 then rk x m else rk x q := fun q => key x (m + 1) q _
      have e30 : ∀ q, st x 43 0 (m + 1) (x 43 0 m) 30 q 0 = x 30 q 0 := fun q => st_nr (by omega)
      rw [ih (by omega) (fun q h4 h5 => by rw [e30, hk, if_neg (by omega)]; exact h1 q h4 (by omega)) (fun q h4 => by rw [e30, hk, if_neg (by omega)]; exact h2 q h4) j, hk, hk]
      by_cases hj : j < h
      · rw [if_pos hj, if_pos hj, if_neg (by omega)]
      · rw [if_neg hj, if_neg hj]
        by_cases hj2 : j = h
        · rw [if_pos hj2, if_pos hj2]
        · rw [if_neg hj2, if_neg hj2]
          by_cases hj3 : j ≤ m
          · rw [if_pos hj3, if_neg (show ¬ j - 1 = m + 1 by omega), if_pos (show j ≤ m + 1 by omega)]
          · rw [if_neg hj3]
            by_cases hj4 : j = m + 1
            · rw [if_pos hj4, if_pos (by omega), hj4] <;> rfl
            · rw [if_neg hj4, if_neg (by omega)]
/-- the class's row is in the reference's order -/
def KR (x y : St) (nn : Nat) : Prop := RLs x nn = qO (fun k => y 17 0 k) nn 11
theorem KR.len {x y : St} {nn : Nat} (h : KR x y nn) : (qO (fun k => y 17 0 k) nn 11).length = nn := by rw [← h, RL_len]
theorem KR.lt {x y : St} {nn k : Nat} (h : KR x y nn) (hk : k < nn) : rk x k < nn := by
  have h1 := RL_get (x := x) hk
  rw [h] at h1
  exact (qO_mem (List.mem_of_getElem? h1)).1
theorem KR.of {x x' y y' : St} {nn : Nat} (h : KR x y nn) (ex : ∀ j, x' 43 0 j = x 43 0 j) (ey : ∀ k, y' 17 0 k = y 17 0 k) : KR x' y' nn := by
  unfold KR
  rw [qO_congr (f := fun k => y 17 0 k) (fun k _ => ey k), ← h]
  unfold RLs rk
  congr 1
  funext j
  rw [ex]
theorem KR.tk {x y : St} {nn q : Nat} {p1 p2 p3 : Int32} (h : KR x y nn) (hfl : ∀ k, k < nn → x 30 k 0 = y 17 0 k) (hn : nn < 40) (hq : q ≤ 10) : KR (tkF x nn (nI q) p1 p2 p3) (adM y nn (nI q) p1 p2 p3) (nn + 1) := by
  have e17 : ∀ k, adM y nn (nI q) p1 p2 p3 17 0 k = st y 17 0 nn (nI q) 17 0 k := fun k => by
    show st (st (st (st (st y 17 0 nn (nI q)) 18 0 nn p1) 19 0 nn p2) 20 0 nn p3) 4 0 0 _ 17 0 k = _
    rw [st_nr (by omega), st_nr (by omega), st_nr (by omega), st_nr (by omega)]
  obtain ⟨-, hi, g1, g2, g3⟩ := qO_one (f := fun k => y 17 0 k) (f' := fun k => st y 17 0 nn (nI q) 17 0 k) (nn := nn) (q := q) (fun k hk => st_j (by omega)) st_eq (by omega) (10 - q) (by omega)
  rw [show q + 1 + (10 - q) = 11 by omega] at g1 g2
  have hlen : hi.length ≤ nn := by
    have := h.len
    rw [g1, List.length_append] at this
    omega
  -- the places' ranks
  have hget : ∀ j, j < nn → (hi ++ qO (fun k => y 17 0 k) nn q)[j]? = some (rk x j) := fun j hj => by rw [← g1, ← h]; exact RL_get hj
  have e30 : ∀ k, k < nn → tk0 x nn (nI q) p1 p2 p3 30 k 0 = y 17 0 k := fun k hk => by
    show st (st (st (st x 30 nn 0 (nI q)) 31 nn 0 p1) 32 nn 0 p2) 33 nn 0 p3 30 k 0 = _
    rw [st_nr (by omega), st_nr (by omega), st_nr (by omega), st_i (by omega)]
    exact hfl k hk
  have erk : ∀ j, rk (tk0 x nn (nI q) p1 p2 p3) j = rk x j := fun j => by unfold rk; rw [tk0_r (by omega)]
  have hhi : ∀ j, j < hi.length → ¬ tk0 x nn (nI q) p1 p2 p3 30 (rk (tk0 x nn (nI q) p1 p2 p3) j) 0 < nI q := fun j hj => by
    have h9 := hget j (by omega)
    rw [List.getElem?_append_left hj] at h9
    obtain ⟨h8, r, h7, h6, h5⟩ := g3 _ (List.mem_of_getElem? h9)
    rw [erk, e30 _ h8, h5]
    exact nI_nlt h7 (by omega)
  have hlo : ∀ j, hi.length ≤ j → j < nn → tk0 x nn (nI q) p1 p2 p3 30 (rk (tk0 x nn (nI q) p1 p2 p3) j) 0 < nI q := fun j hj hj2 => by
    have h9 := hget j hj2
    rw [List.getElem?_append_right hj] at h9
    obtain ⟨h8, r, h7, h5⟩ := qO_mem (List.mem_of_getElem? h9)
    rw [erk, e30 _ h8, h5]
    exact nI_lt h7 (by omega)
  have hrow := tkL_row (p0 := nI q) (nn := nn) (h := hi.length) (by omega) nn hlen hlo hhi
  have efin : ∀ j, rk (tkF x nn (nI q) p1 p2 p3) j = rk (tkL (nI q) nn nn (tk0 x nn (nI q) p1 p2 p3)) j := fun j => by
    unfold rk tkF
    rw [st_nr (by omega)]
  unfold KR
  rw [qO_congr (f := fun k => st y 17 0 nn (nI q) 17 0 k) (fun k _ => e17 k), g2]
  apply List.ext_getElem?
  intro j
  by_cases hj : j < nn + 1
  · rw [RL_get hj, efin, hrow j]
    by_cases h1 : j < hi.length
    · rw [if_pos h1, erk, List.getElem?_append_left h1]
      have h9 := hget j (by omega)
      rw [List.getElem?_append_left h1] at h9
      exact h9.symm
    · rw [if_neg h1, List.getElem?_append_right (by omega)]
      by_cases h2 : j = hi.length
      · rw [if_pos h2, h2, Nat.sub_self] <;> rfl
      · rw [if_neg h2, if_pos (by omega), erk]
        have h9 := hget (j - 1) (by omega)
        rw [List.getElem?_append_right (by omega)] at h9
        rw [show j - hi.length = (j - 1 - hi.length) + 1 by omega, List.getElem?_cons_succ]
        exact h9.symm
  · have hl := h.len
    rw [g1, List.length_append] at hl
    rw [List.getElem?_eq_none (by rw [RL_len]; omega), List.getElem?_eq_none (by rw [List.length_append, List.length_cons]; omega)]
-- the reference's way through it
noncomputable def iiB (y : St) (d : Nat) (k : Nat) : Bool := @decide (iiP y k d) (Classical.propDecidable _)
theorem iiB_iff {y : St} {d k : Nat} : iiB y d k = true ↔ iiP y k d := by unfold iiB; exact @decide_eq_true_iff _ (Classical.propDecidable _)
theorem iqI_list {y : St} {d its : Nat} {rest : Int32 → Int32} (f : Nat) : ∀ (k a : Nat), a < 2 ^ 30 → iqI y d (nI its) rest f k (nI a) = match ((List.range' k f).filter (fun k => decide (y 17 0 k = nI its) && iiB y d k))[a]? with | some j => nI j | none => rest (nI (a - ((List.range' k f).filter (fun k => decide (y 17 0 k = nI its) && iiB y d k)).length)) := by
  induction f with
  | zero => intro k a _; rfl
  | succ f ih =>
    intro k a ha
    rw [List.range'_succ]
    by_cases hp : y 17 0 k = nI its ∧ iiP y k d
    · have hb : (decide (y 17 0 k = nI its) && iiB y d k) = true := by rw [decide_eq_true hp.1, iiB_iff.mpr hp.2] <;> rfl
      rw [List.filter_cons_of_pos (p := fun k => decide (y 17 0 k = nI its) && iiB y d k) hb]
      cases a with
      | zero => rw [iqI_r hp nI_0] <;> rfl
      | succ a =>
        rw [iqI_s hp (nI_ne0 (by omega) (by omega)), show nI (a + 1) + (-1) = nI a from (Int32.sub_eq_add_neg _ _).symm.trans (nI_pred a), ih (k + 1) a (by omega), List.getElem?_cons_succ, List.length_cons, Nat.add_sub_add_right]
    · have hb : ¬ (decide (y 17 0 k = nI its) && iiB y d k) = true := fun h9 => by
        rw [Bool.and_eq_true] at h9
        exact hp ⟨of_decide_eq_true h9.1, iiB_iff.mp h9.2⟩
      rw [List.filter_cons_of_neg (p := fun k => decide (y 17 0 k = nI its) && iiB y d k) hb, iqI_n hp]
      exact ih (k + 1) a ha
noncomputable def QL (y : St) (d nn m : Nat) : List Nat := (qO (fun k => y 17 0 k) nn m).filter (iiB y d)
theorem QL_s {y : St} {d nn m : Nat} : QL y d nn (m + 1) = ((List.range' 0 nn).filter (fun k => decide (y 17 0 k = nI m) && iiB y d k)) ++ QL y d nn m := by
  unfold QL
  show List.filter _ (_ ++ _) = _
  rw [List.filter_append, List.filter_filter, List.range_eq_range']
  congr 1
  exact List.filter_congr (fun k _ => Bool.and_comm _ _)
theorem iqO_list {y : St} {d nn : Nat} (m : Nat) : ∀ a, a < 2 ^ 30 → iqO y d nn m (nI a) = match (QL y d nn m)[a]? with | some j => nI j | none => -1 := by
  induction m with
  | zero => intro a _; rfl
  | succ m ih =>
    intro a ha
    show iqI y d (nI m) (iqO y d nn m) nn 0 (nI a) = _
    rw [iqI_list nn 0 a ha, QL_s]
    generalize ((List.range' 0 nn).filter (fun k => decide (y 17 0 k = nI m) && iiB y d k)) = L1
    by_cases h : a < L1.length
    · rw [List.getElem?_append_left h, List.getElem?_eq_getElem h]
    · rw [List.getElem?_append_right (by omega), List.getElem?_eq_none (by omega)]
      exact ih (a - L1.length) (by omega)
theorem cnN_len (P : Nat → Bool) (f : Nat) : ∀ k, cnN P k f = ((List.range' k f).filter P).length := by
  induction f with
  | zero => intro k; rfl
  | succ f ih =>
    intro k
    rw [List.range'_succ]
    show (if P k then 1 else 0) + cnN P (k + 1) f = _
    by_cases h : P k = true
    · rw [List.filter_cons_of_pos h, List.length_cons, if_pos h, ih]; omega
    · rw [List.filter_cons_of_neg h, if_neg h, ih]; omega
theorem rkS_len {y : St} {d nn : Nat} (m : Nat) : rkS y d nn m = (QL y d nn m).length := by
  induction m with
  | zero => rfl
  | succ m ih =>
    show cnN (rkB y d m) 0 nn + rkS y d nn m = _
    rw [QL_s, List.length_append, ih, cnN_len]
    congr 2
    refine List.filter_congr (fun k _ => ?_)
    by_cases h : y 17 0 k = nI m ∧ iiP y k d
    · rw [rkB_iff.mpr h, decide_eq_true h.1, iiB_iff.mpr h.2] <;> rfl
    · have h1 : rkB y d m k = false := by cases h9 : rkB y d m k with | true => exact absurd (rkB_iff.mp h9) h | false => rfl
      rw [h1]
      cases h2 : (decide (y 17 0 k = nI m) && iiB y d k) with
      | false => rfl
      | true => rw [Bool.and_eq_true] at h2; exact absurd ⟨of_decide_eq_true h2.1, iiB_iff.mp h2.2⟩ h
theorem mq_len {y : St} {d nn : Nat} (h : ∀ k, k < nn → ∃ r, r ≤ 10 ∧ y 17 0 k = nI r) : mqF y d nn = nI (QL y d nn 11).length := by rw [mq_rk h, rkS_len]
end ORD
