/-! p35: words of the law's own methods: the script beside the world; codes of what is thrown -/
section D35
def PWs (ss : List (String × Nat × String)) (g : gE) (base n : Nat) (L : Nat → Nat) (w : Nat → va_E) (sb sN : Nat) (sx : Nat → Int32) (U : State) : Prop :=
  PW ss g base n L w U ∧ va_X sb sN sx U U.heap ∧ sb < base
theorem PWs.blind {ss : List (String × Nat × String)} {g : gE} {base n : Nat} {L : Nat → Nat} {w : Nat → va_E} {sb sN : Nat} {sx : Nat → Int32} {av : List Value} : FrameBlind (va_Pc av (PWs ss g base n L w sb sN sx)) := fun a U gf mk h =>
  ⟨h.1, (PW.blind (av := av) a U gf mk ⟨h.1, h.2.1⟩).2, va_X.moved (U := U.calling gf mk a) (Vm.Alike.refl U.vm) h.2.2.1, h.2.2.2⟩
theorem X_next {base sb sN : Nat} {sx : Nat → Int32} {s U : State} {H : Heap} {locs : List Loc} (hX : va_X sb sN sx s s.heap) (hsb : sb < base) (hbs : base ≤ s.heap.size) (hS : va_S (fun q => base ≤ q) s.heap H locs) (hU : U.heap = H) (hW : s.WarmedH U.vm) : va_X sb sN sx U U.heap := by
  rw [hU]
  exact va_X.kept (va_X.moved hW.alike hX) (hS.2.1 sb (Nat.lt_of_lt_of_le hsb hbs) (Nat.not_le.mpr hsb))
theorem PWs.preS {ss : List (String × Nat × String)} {g : gE} {base n : Nat} {L : Nat → Nat} {w w' : Nat → va_E} {sb sN : Nat} {sx : Nat → Int32} {s : State} {H : Heap} {locs : List Loc} {As : List Value} (h : PWs ss g base n L w sb sN sx s) (hP : va_P g.1 vwCl (wl n L w') H) (hS : va_S (fun q => base ≤ q) s.heap H locs) : PreS s H (va_Pc As (PWs ss g base n L w' sb sN sx)) As :=
  ⟨PWs.blind, fun U hU hW => ⟨rfl, h.1.next hP hS hU hW, X_next h.2.1 h.2.2 h.1.1 hS hU hW, h.2.2⟩⟩
theorem PWs.preS3 {ss : List (String × Nat × String)} {g : gE} {base n : Nat} {L : Nat → Nat} {w' : Nat → va_E} {sb sN : Nat} {sx : Nat → Int32} {s : State} {H : Heap} {locs : List Loc} {As : List Value} (hb : base ≤ s.heap.size) (hJ : wj n L (fun q => base ≤ q)) (hK : va_K g.1 vwCl (tysC g) s) (hE : EE ss (fun q => base ≤ q) s) (hP : va_P g.1 vwCl (wl n L w') H) (hS : va_S (fun q => base ≤ q) s.heap H locs) (hX : va_X sb sN sx s s.heap) (hsb : sb < base) : PreS s H (va_Pc As (PWs ss g base n L w' sb sN sx)) As :=
  ⟨PWs.blind, fun U hU hW => ⟨rfl, ⟨by rw [hU]; exact Nat.le_trans hb hS.1, hJ, by rw [hU]; exact hP, va_K.moved hW.alike hK, hE.next hS hU hW⟩, X_next hX hsb hb hS hU hW, hsb⟩⟩
theorem PW.preS3 {ss : List (String × Nat × String)} {g : gE} {base n : Nat} {L : Nat → Nat} {w' : Nat → va_E} {s : State} {H : Heap} {locs : List Loc} {As : List Value} (hb : base ≤ s.heap.size) (hJ : wj n L (fun q => base ≤ q)) (hK : va_K g.1 vwCl (tysC g) s) (hE : EE ss (fun q => base ≤ q) s) (hP : va_P g.1 vwCl (wl n L w') H) (hS : va_S (fun q => base ≤ q) s.heap H locs) : PreS s H (va_Pc As (PW ss g base n L w')) As :=
  ⟨PW.blind, fun U hU hW => ⟨rfl, by rw [hU]; exact Nat.le_trans hb hS.1, hJ, by rw [hU]; exact hP, va_K.moved hW.alike hK, hE.next hS hU hW⟩⟩
theorem PW.preV3 {ss : List (String × Nat × String)} {g : gE} {base n : Nat} {L : Nat → Nat} {w' : Nat → va_E} {s : State} {H : Heap} {locs : List Loc} {As : List Value} {sl ci : Nat} {q : vw_C} {fs : List Value} (hb : base ≤ s.heap.size) (hJ : wj n L (fun q => base ≤ q)) (hK : va_K g.1 vwCl (tysC g) s) (hE : EE ss (fun q => base ≤ q) s) (hP : va_P g.1 vwCl (wl n L w') H) (hS : va_S (fun q => base ≤ q) s.heap H locs) (hc : vwCl[ci]? = some q) (hsl : sl < n) (he : w' sl = .inr (ci, fs)) : PreV s H q.1 (L sl) (va_Pc (.ref (L sl) :: As) (PW ss g base n L w')) As :=
  ⟨PW.blind, va_recv hK hP hc (wl_get hsl he), fun U hU hW => ⟨rfl, by rw [hU]; exact Nat.le_trans hb hS.1, hJ, by rw [hU]; exact hP, va_K.moved hW.alike hK, hE.next hS hU hW⟩⟩
/-- the law's code of what was thrown -/
def cdE (E : String) : Int32 := if E = "java/lang/IndexOutOfBoundsException" then -2001 else if E = "java/lang/IllegalArgumentException" then -2002 else if E = "java/lang/UnsupportedOperationException" then -2004 else if E = "java/lang/ArithmeticException" then -2006 else -2003
theorem vp_in_sc {i : Int32} {N : Nat} (h0 : 0 ≤ i.toInt) (hN : N ≤ 1000) (h : ¬ Int32.ofNat N ≤ i) : vp_in i N := by
  obtain ⟨j, hj, rfl⟩ := nI_of (x := i) (by rw [Int32.lt_iff_toInt_lt, i_0]; omega)
  refine vp_in_nI (n := j) ?_ (by omega)
  exact Nat.lt_of_not_le (fun h9 => h (nI_le h9 hj))
theorem jush_nn {a : Int32} : 0 ≤ (jush a 8).toInt := by
  unfold jush
  have e : ((8 : Int32).toUInt32 &&& Int32.toUInt32 31) = 8 := by decide
  rw [e]
  have h1 : (a.toUInt32 >>> 8).toNat = a.toUInt32.toNat >>> 8 := by rw [UInt32.toNat_shiftRight] <;> rfl
  have h2 : (a.toUInt32 >>> 8).toNat < 2 ^ 24 := by
    rw [h1, Nat.shiftRight_eq_div_pow]
    have := a.toUInt32.toNat_lt
    omega
  obtain ⟨c, hc, e2⟩ : ∃ c, c < 2 ^ 24 ∧ (a.toUInt32 >>> 8) = UInt32.ofNat c := ⟨_, h2, UInt32.toNat_inj.mp (by rw [UInt32.toNat_ofNat_of_lt' (by show _ < 2 ^ 32; omega)])⟩
  rw [e2]
  show 0 ≤ (nI c).toInt
  rw [nI_toInt (by omega)]
  omega
theorem rem_rng {a m : Int32} (ha : 0 ≤ a.toInt) (hm : 0 < m.toInt) : 0 ≤ (a - a / m * m).toInt ∧ (a - a / m * m).toInt < m.toInt := by
  rw [rem_toInt, Int.tmod_eq_emod_of_nonneg ha]
  exact ⟨Int.emod_nonneg _ (by omega), Int.emod_lt_of_pos _ hm⟩
/-- a picture a column to the right, as the law does it; k columns -/
def sh1 (p : Int32) : Int32 := ((p &&& 2139062143) <<< (1 &&& 31)) ||| (jush p 7 &&& 16843009)
def shK (p : Int32) : Nat → Int32
  | 0 => p
  | k + 1 => sh1 (shK p k)
/-- what is seen of the first k cells -/
def snF (v : Int32) : Nat → Int32
  | 0 => 0
  | k + 1 => snF v k ||| ((bitF v (8 * (nI k / 8) + (nI k - nI k / 8 * 8))) <<< (nI k &&& 31))
theorem kd8 {k : Nat} (h : k < 32) : nI k / 8 = nI (k / 8) ∧ nI k - nI k / 8 * 8 = nI (k % 8) := by
  revert k; decide +kernel
theorem kd8r {k : Nat} (h : k < 32) : 0 ≤ (nI k - nI k / 8 * 8).toInt ∧ (nI k - nI k / 8 * 8).toInt < 8 ∧ 0 ≤ (nI k / 8).toInt ∧ (nI k / 8).toInt < 4 := by
  obtain ⟨e1, e2⟩ := kd8 h
  rw [e2, e1, nI_toInt (by omega), nI_toInt (by omega)]
  omega
theorem kd8e {k : Nat} (h : k < 32) : 8 * (nI k / 8) + (nI k - nI k / 8 * 8) = nI k := by
  obtain ⟨e1, e2⟩ := kd8 h
  rw [e2, e1, show (8 : Int32) * nI (k / 8) = nI (8 * (k / 8)) from (Int32.ofNat_mul 8 _).symm, nI_add]
  congr 1
  omega
end D35
