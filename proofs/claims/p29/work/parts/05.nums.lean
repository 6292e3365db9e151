/-! the texts of what is thrown; numbers; places of the world -/
def SS : List (String × Nat × String) := [("FerroDesk", 104, "the rank is not 0 to 9"), ("FerroDesk", 106, "the picture is 0"), ("FerroDesk", 108, "the hours are not 0 to 2000, the first one ahead"), ("FerroDesk", 126, "it was mended or taken back"), ("FerroDesk", 139, "the hour is not later, or later than the one told"), ("FerroDesk", 141, "it was mended"), ("FerroDesk", 150, "the picture is 0, or the same"), ("FerroDesk", 156, "it was mended, or its hours are over"), ("FerroDesk", 176, "the rumour is 0 or all cells"), ("FerroDesk", 178, "the hour is not later than now, or later than 2000"), ("FerroDesk", 182, "there is no such notice in the queue"), ("FerroDesk", 188, "the people are not 1 to 999"), ("FerroDesk", 216, "there is no such suspect"), ("FerroDesk", 218, "the hours are not 1 to 48"), ("FerroDesk", 220, "the hour would be later than 2000"), ("FerroDesk", 240, "there are no boards"), ("FerroDesk", 251, "there is no such board"), ("FerroDesk", 253, "there is no such notice"), ("FerroDesk", 255, "there is no such cell"), ("FerroDesk", 257, "there is no such district"), ("FerroDesk", 259, "the rumour is 0"), ("FerroDesk", 261, "there are 40 notices"), ("FerroDesk", 53, "the charge is not 0 to 200"), ("FerroDesk", 60, "there are 6 boards"), ("FerroDesk", 67, "the sun is not 0 to 20")]
theorem ng_in {w : Cond} (h : w ∈ ngw) : w ∈ ngw := h
section NUM9
theorem i_0 : (0 : Int32).toInt = 0 := by decide
theorem i_1 : (1 : Int32).toInt = 1 := by decide
theorem i_2 : (2 : Int32).toInt = 2 := by decide
theorem i_3 : (3 : Int32).toInt = 3 := by decide
theorem i_4 : (4 : Int32).toInt = 4 := by decide
theorem i_6 : (6 : Int32).toInt = 6 := by decide
theorem i_7 : (7 : Int32).toInt = 7 := by decide
theorem i_8 : (8 : Int32).toInt = 8 := by decide
theorem i_9 : (9 : Int32).toInt = 9 := by decide
theorem i_10 : (10 : Int32).toInt = 10 := by decide
theorem i_20 : (20 : Int32).toInt = 20 := by decide
theorem i_32 : (32 : Int32).toInt = 32 := by decide
theorem i_40 : (40 : Int32).toInt = 40 := by decide
theorem i_48 : (48 : Int32).toInt = 48 := by decide
theorem i_60 : (60 : Int32).toInt = 60 := by decide
theorem i_200 : (200 : Int32).toInt = 200 := by decide
theorem i_512 : (512 : Int32).toInt = 512 := by decide
theorem i_999 : (999 : Int32).toInt = 999 := by decide
theorem i_2000 : (2000 : Int32).toInt = 2000 := by decide
theorem i_m1 : (-1 : Int32).toInt = -1 := by decide
theorem bd_in {p : Int32} {k : Nat} (h0 : ¬ p < 0) (h1 : p < nI k) (hk : k < 2 ^ 31) : ∃ j : Nat, j < k ∧ p = nI j := by
  obtain ⟨j, hj, rfl⟩ := nI_of h0
  exact ⟨j, (nI_ltI hj hk).mp h1, rfl⟩
theorem cw_d {g : gE} {L : Nat → Nat} {x : St} {r0 : Nat → va_E} : cw g L x r0 0 = .inr (kD, dF L x) := (cw_lt (by omega)).trans dk_0
theorem dk_4 {g : gE} {nb nn : Nat} {L : Nat → Nat} {x : St} : dk g nb nn L x 4 = .inr (kR, rF L x) := rfl
theorem cw_r {g : gE} {L : Nat → Nat} {x : St} {r0 : Nat → va_E} : cw g L x r0 4 = .inr (kR, rF L x) := (cw_lt (by omega)).trans dk_4
theorem cw_1 {g : gE} {L : Nat → Nat} {x : St} {r0 : Nat → va_E} : cw g L x r0 1 = aQ g 1 6 (fun j => if j < 6 then some (L (8 + 3 * j)) else none) := (cw_lt (by omega)).trans rfl
theorem cw_2 {g : gE} {L : Nat → Nat} {x : St} {r0 : Nat → va_E} : cw g L x r0 2 = aQ g 2 40 (fun j => if j < 40 then some (L (26 + 2 * j)) else none) := (cw_lt (by omega)).trans rfl
theorem cw_3 {g : gE} {L : Nat → Nat} {x : St} {r0 : Nat → va_E} : cw g L x r0 3 = aQ g 2 40 (fun j => if j < 40 then some (L (26 + 2 * (x 43 0 j).toNatClampNeg)) else none) := (cw_lt (by omega)).trans rfl
theorem mk_o {g : gE} {L : Nat → Nat} {y : St} {ch : Int64} : mk g L y ch 106 = .inr (kM, mF L y ch) := rfl
theorem mk_a {g : gE} {L : Nat → Nat} {y : St} {ch : Int64} {k : Nat} (h : 106 < k) : mk g L y ch k = .inl (if mZ k = true then g.2 3 else g.2 0, mN k, .inl (fun j => y (k - 97) 0 j)) := if_neg (by omega)
theorem mw_a {g : gE} {L : Nat → Nat} {y : St} {ch : Int64} {r0 : Nat → va_E} {k : Nat} (h : 106 < k) (h2 : k < 123) : mw g L y ch r0 k = .inl (if mZ k = true then g.2 3 else g.2 0, mN k, .inl (fun j => y (k - 97) 0 j)) := (if_pos ⟨by omega, h2⟩).trans (mk_a h)
/-- a store into a row of the reference -/
theorem mw_st {g : gE} {L : Nat → Nat} {y : St} {ch : Int64} {r0 : Nat → va_E} {r k i : Nat} {v : Int32} {cA : ClassId} {N : Nat} {f : Nat → Int32} (hk : k = r + 97) (h : 106 < k) (h2 : k < 123) (hc : cA = if mZ k = true then g.2 3 else g.2 0) (hN : N = mN k) (hf : f = fun j => y r 0 j) : va_up (mw g L y ch r0) k (.inl (cA, N, .inl (upd f i v))) = mw g L (st y r 0 i v) ch r0 := by
  subst hk hc hN hf
  refine mw_put (r := r) (i := 0) (j := i) (by unfold slm; rw [if_neg (by omega)]) ⟨by omega, h2⟩ ((mk_a h).trans ?_)
  congr 4
  funext j
  simp only [Nat.add_sub_cancel, upd, st]
  by_cases hj : j = i <;> simp [hj]
end NUM9
section RKP
theorem rk_put {g : gE} {L : Nat → Nat} {x : St} {j k : Nat} (hj : j < 40) (hk : k < 2 ^ 31) : dk g 6 40 L (st x 43 0 j (nI k)) 3 = aQ g 2 40 (va_up (fun i => if i < 40 then some (L (26 + 2 * (x 43 0 i).toNatClampNeg)) else none) j (some (L (26 + 2 * k)))) := by
  show aQ g 2 40 (fun i => if i < 40 then some (L (26 + 2 * (st x 43 0 j (nI k) 43 0 i).toNatClampNeg)) else none) = _
  congr 7
  funext i
  by_cases h : i = j
  · subst h
    rw [va_up_self, if_pos hj, st_eq, nI_clamp hk]
  · rw [va_up_ne _ _ h, st_ne (fun h9 => h h9.2.2)]
theorem xor_m1 {p : Int32} : p ^^^ (-1) = 0 ↔ p = -1 := by
  constructor
  · intro h
    have h2 : (p ^^^ (-1)) ^^^ (-1) = 0 ^^^ (-1) := by rw [h]
    rw [Int32.xor_assoc, Int32.xor_self, Int32.xor_zero, Int32.zero_xor] at h2
    exact h2
  · intro h
    rw [h]
    decide
theorem mw_rest {g : gE} {L : Nat → Nat} {y : St} {ch : Int64} {r0 : Nat → va_E} {k : Nat} {e : va_E} (h : 123 ≤ k) : va_up (mw g L y ch r0) k e = mw g L y ch (va_up r0 k e) := by
  funext q
  by_cases hq : q = k
  · subst hq
    rw [va_up_self]
    exact ((if_neg (by omega)).trans (va_up_self _ _ _)).symm
  · rw [va_up_ne _ _ hq]
    unfold mw
    by_cases h9 : 106 ≤ q ∧ q < 123
    · rw [if_pos h9, if_pos h9]
    · rw [if_neg h9, if_neg h9, va_up_ne _ _ hq]
theorem mw_ge {g : gE} {L : Nat → Nat} {y : St} {ch : Int64} {r0 : Nat → va_E} {k : Nat} (h : 123 ≤ k) : mw g L y ch r0 k = r0 k := if_neg (by omega)
end RKP
def oL (g : gE) (f : Nat → Int64) (v : Int64) : va_E := .inl (g.2 4, 1, .inr (.inl (vp_updL f (0 : Int32).toNatClampNeg v)))
