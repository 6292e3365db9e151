/-! ===== Int32 by its bits: bt x i ===== -/
def bt (x : Int32) (i : Nat) : Bool := x.toBitVec.getLsbD i
theorem b_ext {x y : Int32} (h : ∀ i, i < 32 → bt x i = bt y i) : x = y := Int32.toBitVec_inj.mp (BitVec.eq_of_getLsbD_eq (fun i hi => h i hi))
theorem b_or (x y : Int32) (i : Nat) : bt (x ||| y) i = (bt x i || bt y i) := by unfold bt; rw [Int32.toBitVec_or, BitVec.getLsbD_or]
theorem b_and (x y : Int32) (i : Nat) : bt (x &&& y) i = (bt x i && bt y i) := by unfold bt; rw [Int32.toBitVec_and, BitVec.getLsbD_and]
theorem b_xor (x y : Int32) (i : Nat) : bt (x ^^^ y) i = (bt x i ^^ bt y i) := by unfold bt; rw [Int32.toBitVec_xor, BitVec.getLsbD_xor]
theorem b_big {x : Int32} {i : Nat} (h : 32 ≤ i) : bt x i = false := BitVec.getLsbD_of_ge _ _ h
theorem b_255 (i : Nat) : bt 255 i = decide (i < 8) := by
  rcases Nat.lt_or_ge i 32 with h | h
  · exact (by decide +kernel : ∀ i, i < 32 → bt 255 i = decide (i < 8)) i h
  · rw [b_big h, decide_eq_false (by omega)]
theorem b_65535 (i : Nat) : bt 65535 i = decide (i < 16) := by
  rcases Nat.lt_or_ge i 32 with h | h
  · exact (by decide +kernel : ∀ i, i < 32 → bt 65535 i = decide (i < 16)) i h
  · rw [b_big h, decide_eq_false (by omega)]
theorem b_m1 : ∀ i, i < 32 → bt (-1) i = true := by decide +kernel
theorem b_0 (i : Nat) : bt 0 i = false := BitVec.getLsbD_zero
theorem s_l : ∀ n, n < 32 → ((nI n &&& 31).toBitVec.smod 32).toNat = n := by decide +kernel
theorem s_u : ∀ n, n < 32 → (((nI n).toUInt32 &&& Int32.toUInt32 31).toBitVec % 32).toNat = n := by decide +kernel
theorem b_shl (n : Nat) (hn : n < 32) (x : Int32) {i : Nat} (hi : i < 32) : bt (x <<< (nI n &&& 31)) i = (decide (n ≤ i) && bt x (i - n)) := by
  unfold bt
  rw [Int32.toBitVec_shiftLeft]
  show (x.toBitVec <<< ((nI n &&& 31).toBitVec.smod 32).toNat).getLsbD i = _
  rw [s_l n hn, BitVec.getLsbD_shiftLeft]
  rcases Nat.lt_or_ge i n with h | h
  · simp [h, Nat.not_le.mpr h]
  · simp [hi, h, Nat.not_lt.mpr h]
theorem b_ushr (n : Nat) (hn : n < 32) (x : Int32) (i : Nat) : bt ((x.toUInt32 >>> ((nI n).toUInt32 &&& Int32.toUInt32 31)).toInt32) i = bt x (n + i) := by
  show (x.toUInt32 >>> ((nI n).toUInt32 &&& Int32.toUInt32 31)).toBitVec.getLsbD i = x.toUInt32.toBitVec.getLsbD (n + i)
  rw [UInt32.toBitVec_shiftRight]
  show (x.toUInt32.toBitVec >>> (((nI n).toUInt32 &&& Int32.toUInt32 31).toBitVec % 32).toNat).getLsbD i = _
  rw [s_u n hn, BitVec.getLsbD_ushiftRight]
theorem b_sshr (n : Nat) (hn : n < 32) (x : Int32) {i : Nat} (hi : i < 32) : bt (x >>> (nI n &&& 31)) i = if n + i < 32 then bt x (n + i) else bt x 31 := by
  unfold bt
  rw [Int32.toBitVec_shiftRight]
  show (x.toBitVec.sshiftRight ((nI n &&& 31).toBitVec.smod 32).toNat).getLsbD i = _
  rw [s_l n hn, BitVec.getLsbD_sshiftRight, BitVec.msb_eq_getLsbD_last]
  simp [hi]
theorem b_shl8 (x : Int32) {i : Nat} (hi : i < 32) : bt (x <<< ((8 : Int32) &&& 31)) i = (decide (8 ≤ i) && bt x (i - 8)) := b_shl 8 (by omega) x hi
theorem b_shl16 (x : Int32) {i : Nat} (hi : i < 32) : bt (x <<< ((16 : Int32) &&& 31)) i = (decide (16 ≤ i) && bt x (i - 16)) := b_shl 16 (by omega) x hi
theorem b_shl24 (x : Int32) {i : Nat} (hi : i < 32) : bt (x <<< ((24 : Int32) &&& 31)) i = (decide (24 ≤ i) && bt x (i - 24)) := b_shl 24 (by omega) x hi
theorem b_sshr8 (x : Int32) {i : Nat} (hi : i < 32) : bt (x >>> ((8 : Int32) &&& 31)) i = if 8 + i < 32 then bt x (8 + i) else bt x 31 := b_sshr 8 (by omega) x hi
/-! ===== nI under and, xor, >>>, one bit, 65535 ===== -/
theorem nx_and (a b : Nat) : nI a &&& nI b = nI (a &&& b) := by
  apply Int32.toBitVec_inj.1
  show BitVec.ofNat 32 a &&& BitVec.ofNat 32 b = BitVec.ofNat 32 (a &&& b)
  apply BitVec.eq_of_getLsbD_eq
  intro i hi
  simp [hi]
theorem nx_xor (a b : Nat) : nI a ^^^ nI b = nI (a ^^^ b) := by
  apply Int32.toBitVec_inj.1
  show BitVec.ofNat 32 a ^^^ BitVec.ofNat 32 b = BitVec.ofNat 32 (a ^^^ b)
  apply BitVec.eq_of_getLsbD_eq
  intro i hi
  simp [hi]
theorem nx_cnt : ∀ j : Fin 32, (UInt32.ofNat j.val &&& Int32.toUInt32 31).toNat % 32 = j.val := by decide +kernel
theorem nx_ush {k j : Nat} (hk : k < 65536) (hj : j < 32) : ((nI k).toUInt32 >>> ((nI j).toUInt32 &&& Int32.toUInt32 31)).toInt32 = nI (k >>> j) := by
  have hs : k >>> j ≤ k := by
    rw [Nat.shiftRight_eq_div_pow]
    exact Nat.div_le_self _ _
  have e2 : UInt32.ofNat k >>> (UInt32.ofNat j &&& Int32.toUInt32 31) = UInt32.ofNat (k >>> j) := by
    apply UInt32.toNat_inj.1
    have h1 : (UInt32.ofNat k).toNat = k := Nat.mod_eq_of_lt (by omega)
    have h2 : (UInt32.ofNat (k >>> j)).toNat = k >>> j := Nat.mod_eq_of_lt (by omega)
    rw [UInt32.toNat_shiftRight, nx_cnt ⟨j, hj⟩, h1, h2]
  show (UInt32.ofNat k >>> (UInt32.ofNat j &&& Int32.toUInt32 31)).toInt32 = _
  rw [e2]
  rfl
theorem nx_bit {k j : Nat} (hk : k < 65536) (hj : j < 16) : (((nI k).toUInt32 >>> ((nI j).toUInt32 &&& Int32.toUInt32 31)).toInt32 &&& 1) = 0 ↔ k.testBit j = false := by
  rw [nx_ush hk (by omega)]
  show nI (k >>> j) &&& nI 1 = 0 ↔ _
  rw [nx_and, Nat.and_one_is_mod, ← nI_0, nI_eq (by omega) (by omega), Nat.testBit_eq_decide_div_mod_eq, Nat.shiftRight_eq_div_pow, decide_eq_false_iff_not]
  generalize k / 2 ^ j = z
  omega
theorem nx_mod (k : Nat) : nI k &&& 65535 = nI (k % 65536) := by
  show nI k &&& nI 65535 = _
  rw [nx_and, show (65535 : Nat) = 2 ^ 16 - 1 from rfl, Nat.and_two_pow_sub_one_eq_mod]
theorem nx_m16 {k : Nat} (h : k < 65536) : nI k &&& 65535 = nI k := by rw [nx_mod, Nat.mod_eq_of_lt h]
theorem nx_mask (x : Int32) : ∃ k, k < 65536 ∧ x &&& 65535 = nI k := by
  have e : x = nI x.toBitVec.toNat := by
    apply Int32.toBitVec_inj.1
    show x.toBitVec = BitVec.ofNat 32 x.toBitVec.toNat
    simp
  refine ⟨x.toBitVec.toNat % 65536, Nat.mod_lt _ (by omega), ?_⟩
  rw [← nx_mod, ← e]
/-! BITS: a picture's cells, a shifted picture, how many are black -/
section BTS
theorem nI_all (x : Int32) : x = nI x.toBitVec.toNat := by
  apply Int32.toBitVec_inj.1
  show x.toBitVec = BitVec.ofNat 32 x.toBitVec.toNat
  simp
theorem bt_n (x : Int32) (c : Nat) : bt x c = decide (x.toBitVec.toNat / 2 ^ c % 2 = 1) := by
  show x.toBitVec.getLsbD c = _
  rw [BitVec.getLsbD, Nat.testBit_eq_decide_div_mod_eq]
theorem and_1 (x : Int32) : (x &&& 1 = 1) ↔ bt x 0 = true := by
  constructor
  · intro h
    have h2 : bt (x &&& 1) 0 = true := by rw [h]; decide
    rw [b_and] at h2
    exact (Bool.and_eq_true _ _ ▸ h2 : bt x 0 = true ∧ bt 1 0 = true).1
  · intro h
    apply b_ext
    intro i hi
    rw [b_and]
    by_cases h0 : i = 0
    · subst h0; rw [h]; decide
    · have : ∀ i, i < 32 → i ≠ 0 → bt 1 i = false := by decide +kernel
      rw [this i hi h0, Bool.and_false]
theorem bitF_bt {p : Int32} {c : Nat} (h : c < 32) : bitF p (nI c) = 1 ↔ bt p c = true := by
  unfold bitF jush
  rw [and_1, b_ushr c h, Nat.add_zero]
abbrev rot (b c : Nat) : Nat := 8 * (c / 8) + (c % 8 + 8 - b) % 8
theorem hasN_bt {p : Int32} {b c : Nat} (hc : c < 32) : hasN p b c ↔ bt p (rot b c) = true := bitF_bt (by show 8 * (c / 8) + (c % 8 + 8 - b) % 8 < 32; omega)
theorem nw_bt : ∀ s, s < 8 → ∀ c, c < 32 → bt (nwF (nI s)) c = decide (s ≤ c % 8) := by decide +kernel
theorem e_8s : ∀ s, s < 8 → (8 : Int32) - nI s = nI (8 - s) := by decide +kernel
theorem sh_bt {p : Int32} {s c : Nat} (hs : s < 8) (hc : c < 32) : bt (shF p (nI s)) c = bt p (rot s c) := by
  unfold shF jush
  rw [e_8s s hs, b_or, b_and, b_and, b_shl s (by omega) p hc, b_ushr (8 - s) (by omega) p c, b_xor, nw_bt s hs c hc, b_m1 c hc]
  by_cases h : s ≤ c % 8
  · rw [decide_eq_true h, decide_eq_true (show s ≤ c by omega), show rot s c = c - s by unfold rot; omega]
    simp
  · rw [decide_eq_false h, show rot s c = 8 - s + c by unfold rot; omega]
    simp
theorem sh_has {p : Int32} {s c : Nat} (hs : s < 8) (hc : c < 32) : bt (shF p (nI s)) c = true ↔ hasN p s c := by rw [sh_bt hs hc, hasN_bt hc]
theorem has_0 {p : Int32} {c : Nat} (hc : c < 32) : hasN p 0 c ↔ bt p c = true := by
  rw [hasN_bt hc, show rot 0 c = c by unfold rot; omega]
-- how many
def sB (n : Nat) : Nat → Nat
  | 0 => 0
  | m + 1 => sB n m + n / 2 ^ m % 2
theorem sB_low (n : Nat) (m : Nat) (hm : m ≤ 8) : sB n m = sB (n % 256) m := by
  induction m with
  | zero => rfl
  | succ m ih =>
    show sB n m + n / 2 ^ m % 2 = sB (n % 256) m + n % 256 / 2 ^ m % 2
    rw [ih (by omega)]
    congr 1
    rcases (show m = 0 ∨ m = 1 ∨ m = 2 ∨ m = 3 ∨ m = 4 ∨ m = 5 ∨ m = 6 ∨ m = 7 by omega) with rfl | rfl | rfl | rfl | rfl | rfl | rfl | rfl <;> (simp only [Nat.reducePow]; omega)
theorem sB_hi (n : Nat) (m : Nat) : sB n (8 + m) = sB n 8 + sB (n / 256) m := by
  induction m with
  | zero => rfl
  | succ m ih =>
    show sB n (8 + m) + n / 2 ^ (8 + m) % 2 = sB n 8 + (sB (n / 256) m + n / 256 / 2 ^ m % 2)
    rw [ih, Nat.pow_add, ← Nat.div_div_eq_div_mul]
    show _ + n / 256 / 2 ^ m % 2 = _
    omega
theorem sB_32 (n : Nat) : sB n 32 = sB (n % 256) 8 + sB (n / 256 % 256) 8 + sB (n / 65536 % 256) 8 + sB (n / 16777216 % 256) 8 := by
  rw [show (32 : Nat) = 8 + 24 from rfl, sB_hi, show (24 : Nat) = 8 + 16 from rfl, sB_hi, show (16 : Nat) = 8 + 8 from rfl, sB_hi, sB_low n 8 (by omega), sB_low (n / 256) 8 (by omega), sB_low (n / 256 / 256) 8 (by omega), sB_low (n / 256 / 256 / 256) 8 (by omega), show n / 256 / 256 = n / 65536 by omega, show n / 65536 / 256 = n / 16777216 by omega]
  omega
theorem ju_n {n j : Nat} (hn : n < 4294967296) (hj : j < 32) : jush (nI n) (nI j) = nI (n >>> j) := by
  have e2 : UInt32.ofNat n >>> (UInt32.ofNat j &&& Int32.toUInt32 31) = UInt32.ofNat (n >>> j) := by
    have hs : n >>> j ≤ n := by
      rw [Nat.shiftRight_eq_div_pow]
      exact Nat.div_le_self _ _
    apply UInt32.toNat_inj.1
    have h1 : (UInt32.ofNat n).toNat = n := Nat.mod_eq_of_lt (by omega)
    have h2 : (UInt32.ofNat (n >>> j)).toNat = n >>> j := Nat.mod_eq_of_lt (by omega)
    rw [UInt32.toNat_shiftRight, nx_cnt ⟨j, hj⟩, h1, h2]
  show (UInt32.ofNat n >>> (UInt32.ofNat j &&& Int32.toUInt32 31)).toInt32 = _
  rw [e2] <;> rfl
theorem nI_sub {a b : Nat} (h : b ≤ a) : nI a - nI b = nI (a - b) := by
  have e : nI a = nI (a - b) + nI b := by rw [nI_add, Nat.sub_add_cancel h]
  rw [e, Int32.add_sub_cancel]
theorem and_cat {a b c d : Nat} (hb : b < 256) (hd : d < 256) : (a * 256 + b) &&& (c * 256 + d) = (a &&& c) * 256 + (b &&& d) := by
  have h : b &&& d < 256 := Nat.lt_of_le_of_lt Nat.and_le_left hb
  rw [Nat.mul_comm a, Nat.mul_comm c, Nat.mul_comm (a &&& c)]
  apply Nat.eq_of_testBit_eq
  intro i
  rw [Nat.testBit_and, show (256 : Nat) = 2 ^ 8 from rfl, Nat.testBit_two_pow_mul_add _ hb, Nat.testBit_two_pow_mul_add _ hd, Nat.testBit_two_pow_mul_add _ h]
  by_cases hi : i < 8
  · rw [if_pos hi, if_pos hi, if_pos hi, Nat.testBit_and]
  · rw [if_neg hi, if_neg hi, if_neg hi, Nat.testBit_and]
abbrev hn4 (a b c d : Nat) : Nat := ((a * 256 + b) * 256 + c) * 256 + d
theorem and_4 {a b c d m : Nat} (hb : b < 256) (hc : c < 256) (hd : d < 256) (hm : m < 256) : hn4 a b c d &&& hn4 m m m m = hn4 (a &&& m) (b &&& m) (c &&& m) (d &&& m) := by
  unfold hn4
  rw [and_cat hd hm, and_cat hc hm, and_cat hb hm]
theorem b1 : ∀ q, q < 256 → ∀ r, r < 2 → (q / 2 + r * 128) &&& 85 = q / 2 &&& 85 ∧ (q / 2 &&& 85) ≤ q := by decide +kernel
theorem b2 : ∀ q, q < 256 → ∀ r, r < 4 → (q / 4 + r * 64) &&& 51 = q / 4 &&& 51 := by decide +kernel
theorem b3 : ∀ q, q < 256 → ((q - (q / 2 &&& 85)) &&& 51) + ((q - (q / 2 &&& 85)) / 4 &&& 51) ≤ 68 ∧ (((q - (q / 2 &&& 85)) &&& 51) + ((q - (q / 2 &&& 85)) / 4 &&& 51)) % 16 ≤ 4 := by decide +kernel
theorem b4 : ∀ q, q < 69 → ∀ r, r < 16 → (q + (q / 16 + r * 16)) &&& 15 = (q + q / 16) &&& 15 := by decide +kernel
theorem b5 : ∀ q, q < 256 → (((((q - (q / 2 &&& 85)) &&& 51) + ((q - (q / 2 &&& 85)) / 4 &&& 51)) + (((q - (q / 2 &&& 85)) &&& 51) + ((q - (q / 2 &&& 85)) / 4 &&& 51)) / 16) &&& 15) = sB q 8 ∧ sB q 8 ≤ 8 := by decide +kernel
def pB (q : Nat) : Nat := q - (q / 2 &&& 85)
def pC (q : Nat) : Nat := (pB q &&& 51) + (pB q / 4 &&& 51)
theorem pB_lt {q : Nat} (h : q < 256) : pB q < 256 := by unfold pB; omega
theorem pC_lt {q : Nat} (h : q < 256) : pC q < 69 ∧ pC q % 16 ≤ 4 := by have := b3 q h; unfold pC pB; omega
set_option maxRecDepth 100000 in
theorem pc_4 {a b c d : Nat} (ha : a < 256) (hb : b < 256) (hc : c < 256) (hd : d < 256) : pcF (nI (hn4 a b c d)) = nI (sB a 8 + sB b 8 + sB c 8 + sB d 8) := by
  have e1 : pc1 (nI (hn4 a b c d)) = nI (hn4 (pB a) (pB b) (pB c) (pB d)) := by
    unfold pc1
    rw [show (1 : Int32) = nI 1 from rfl, ju_n (by unfold hn4; omega) (by omega), show (1431655765 : Int32) = nI (hn4 85 85 85 85) from rfl, nx_and]
    have e : hn4 a b c d >>> 1 = hn4 (a / 2 + 0 * 128) (b / 2 + a % 2 * 128) (c / 2 + b % 2 * 128) (d / 2 + c % 2 * 128) := by
      rw [Nat.shiftRight_eq_div_pow]; unfold hn4; omega
    rw [e, and_4 (by omega) (by omega) (by omega) (by omega), (b1 a ha 0 (by omega)).1, (b1 b hb _ (by omega)).1, (b1 c hc _ (by omega)).1, (b1 d hd _ (by omega)).1]
    have h1 := (b1 a ha 0 (by omega)).2
    have h2 := (b1 b hb 0 (by omega)).2
    have h3 := (b1 c hc 0 (by omega)).2
    have h4 := (b1 d hd 0 (by omega)).2
    rw [nI_sub (by unfold hn4; omega)]
    congr 1
    unfold hn4 pB
    omega
  have e2 : pc2 (nI (hn4 (pB a) (pB b) (pB c) (pB d))) = nI (hn4 (pC a) (pC b) (pC c) (pC d)) := by
    have ha := pB_lt ha; have hb := pB_lt hb; have hc := pB_lt hc; have hd := pB_lt hd
    unfold pc2 pC
    generalize pB a = a at ha ⊢; generalize pB b = b at hb ⊢; generalize pB c = c at hc ⊢; generalize pB d = d at hd ⊢
    rw [show (2 : Int32) = nI 2 from rfl, ju_n (by unfold hn4; omega) (by omega), show (858993459 : Int32) = nI (hn4 51 51 51 51) from rfl, nx_and, nx_and]
    have e : hn4 a b c d >>> 2 = hn4 (a / 4 + 0 * 64) (b / 4 + a % 4 * 64) (c / 4 + b % 4 * 64) (d / 4 + c % 4 * 64) := by
      rw [Nat.shiftRight_eq_div_pow]; unfold hn4; omega
    rw [e, and_4 hb hc hd (by omega), and_4 (by omega) (by omega) (by omega) (by omega), b2 a ha 0 (by omega), b2 b hb _ (by omega), b2 c hc _ (by omega), b2 d hd _ (by omega), nI_add]
    refine congrArg nI ?_
    unfold hn4
    omega
  have e3 : pc3 (nI (hn4 (pC a) (pC b) (pC c) (pC d))) = nI (hn4 (sB a 8) (sB b 8) (sB c 8) (sB d 8)) := by
    have f1 := (b5 a ha).1; have f2 := (b5 b hb).1; have f3 := (b5 c hc).1; have f4 := (b5 d hd).1
    obtain ⟨ha, ha4⟩ := pC_lt ha; obtain ⟨hb, hb4⟩ := pC_lt hb; obtain ⟨hc, hc4⟩ := pC_lt hc; obtain ⟨hd, hd4⟩ := pC_lt hd
    change (pC a + pC a / 16) &&& 15 = _ at f1; change (pC b + pC b / 16) &&& 15 = _ at f2; change (pC c + pC c / 16) &&& 15 = _ at f3; change (pC d + pC d / 16) &&& 15 = _ at f4
    rw [← f1, ← f2, ← f3, ← f4]
    unfold pc3
    generalize pC a = a at ha ha4 ⊢; generalize pC b = b at hb hb4 ⊢; generalize pC c = c at hc hc4 ⊢; generalize pC d = d at hd hd4 ⊢
    rw [show (4 : Int32) = nI 4 from rfl, ju_n (by unfold hn4; omega) (by omega), show (252645135 : Int32) = nI (hn4 15 15 15 15) from rfl, nI_add, nx_and]
    have e : hn4 a b c d + hn4 a b c d >>> 4 = hn4 (a + (a / 16 + 0 * 16)) (b + (b / 16 + a % 16 * 16)) (c + (c / 16 + b % 16 * 16)) (d + (d / 16 + c % 16 * 16)) := by
      rw [Nat.shiftRight_eq_div_pow]; unfold hn4; omega
    rw [e, and_4 (by omega) (by omega) (by omega) (by omega), b4 a ha 0 (by omega), b4 b hb _ (by omega), b4 c hc _ (by omega), b4 d hd _ (by omega)]
  have ga := (b5 a ha).2; have gb := (b5 b hb).2; have gc := (b5 c hc).2; have gd := (b5 d hd).2
  unfold pcF
  rw [e1, e2, e3]
  generalize sB a 8 = a at ga ⊢; generalize sB b 8 = b at gb ⊢; generalize sB c 8 = c at gc ⊢; generalize sB d 8 = d at gd ⊢
  have s1 : hn4 a b c d / 2 ^ 8 = (a * 256 + b) * 256 + c := by unfold hn4; omega
  have s2 : (hn4 a b c d + ((a * 256 + b) * 256 + c)) / 2 ^ 16 = a * 256 + (a + b) := by unfold hn4; omega
  have s3 : (hn4 a b c d + ((a * 256 + b) * 256 + c) + (a * 256 + (a + b))) % 2 ^ 6 = a + b + c + d := by unfold hn4; omega
  unfold pc5 pc4
  rw [show (8 : Int32) = nI 8 from rfl, ju_n (by unfold hn4; omega) (by omega), Nat.shiftRight_eq_div_pow, s1, nI_add, show (16 : Int32) = nI 16 from rfl, ju_n (by unfold hn4; omega) (by omega), Nat.shiftRight_eq_div_pow, s2, nI_add, show (63 : Int32) = nI 63 from rfl, nx_and, show (63 : Nat) = 2 ^ 6 - 1 from rfl, Nat.and_two_pow_sub_one_eq_mod, s3]
theorem cn_sB (x : Int32) (m : Nat) : cnP (fun c => bt x c = true) m = nI (sB x.toBitVec.toNat m) := by
  induction m with
  | zero => rfl
  | succ m ih =>
    by_cases h : bt x m = true
    · refine (cnP_t (P := fun c => bt x c = true) h).symm.trans ?_
      rw [ih, nI_1]
      rw [bt_n] at h
      have h := of_decide_eq_true h
      show nI (_ + 1) = nI (_ + x.toBitVec.toNat / 2 ^ m % 2)
      rw [h]
    · refine (cnP_f (P := fun c => bt x c = true) h).symm.trans ?_
      rw [ih, Int32.add_zero]
      rw [bt_n] at h
      have h : ¬ (x.toBitVec.toNat / 2 ^ m % 2 = 1) := fun h9 => h (decide_eq_true h9)
      show nI _ = nI (_ + x.toBitVec.toNat / 2 ^ m % 2)
      rw [show x.toBitVec.toNat / 2 ^ m % 2 = 0 by omega, Nat.add_zero]
/-- the JDK's count is the count -/
theorem pc_cn (x : Int32) : pcF x = cnP (fun c => bt x c = true) 32 := by
  have hx := x.toBitVec.isLt
  rw [cn_sB, sB_32]
  conv => lhs; rw [nI_all x]
  generalize x.toBitVec.toNat = n at hx ⊢
  have e : n = hn4 (n / 16777216) (n / 65536 % 256) (n / 256 % 256) (n % 256) := by unfold hn4; omega
  have h0 : n / 16777216 % 256 = n / 16777216 := Nat.mod_eq_of_lt (by omega)
  conv => lhs; rw [e]
  rw [pc_4 (by omega) (by omega) (by omega) (by omega), h0]
  congr 1
  omega
end BTS
