/-! p35: the relation with a ghost, and what it gives -/
section V35
def J35 (x : St) (D P : Nat → Int32) (nn k : Nat) : Prop := ∃ (y : St) (ch : Int64) (hr : Nat), R2 x y ch 4 nn hr k ∧ hr ≤ 6 * k ∧ nn ≤ k ∧ (∀ b, b < 4 → ∃ d, d < 4 ∧ D b = nI d ∧ x 10 b 0 = nI d ∧ SHB x b nn d) ∧ (∀ n, n < nn → P n = x 31 n 0) ∧ RS y hr
theorem par60 : ∀ w, w < 61 → nI w - nI w / 2 * 2 = nI (w % 2) := by decide +kernel
theorem dbl60 : ∀ w, w < 61 → (2 * nI w).toInt64 = 2 * (nI w).toInt64 := by decide +kernel
theorem mxF_v {x : St} {b : Nat} {w : Nat → Nat} (h : ∀ c, c < 32 → x 20 b c = nI (w c)) (h60 : ∀ c, c < 32 → w c ≤ 60) (k : Nat) (hk : k ≤ 32) : mxF x b k = nI (mxN w k) := by
  induction k with
  | zero => rfl
  | succ k ih =>
    show (if mxF x b k < x 20 b k then x 20 b k else mxF x b k) = nI (max (mxN w k) (w k))
    have h1 := mxN_le (v := w) (n := k) (B := 60) (fun c hc => h60 c (by omega))
    have h2 := h60 k (by omega)
    rw [ih (by omega), h k (by omega)]
    by_cases h9 : mxN w k < w k
    · rw [if_pos (nI_lt h9 (by omega)), Nat.max_eq_right (by omega)]
    · rw [if_neg (nI_nlt (by omega) (by omega)), Nat.max_eq_left (by omega)]
theorem wlF_v {x : St} {b : Nat} {w : Nat → Nat} (h : ∀ c, c < 32 → x 20 b c = nI (w c)) (h60 : ∀ c, c < 32 → w c ≤ 60) (v : Int64) (k : Nat) (hk : k ≤ 32) : wlF x b v k = v + (sumW x b k).toInt64 := by
  induction k with
  | zero => show v = v + (0 : Int32).toInt64; rw [show (0 : Int32).toInt64 = 0 by decide, Int64.add_zero]
  | succ k ih =>
    show wlF x b v k + (x 20 b k).toInt64 = v + (sumW x b (k + 1)).toInt64
    have hs : ∀ n, n ≤ 32 → sw w n ≤ n * 60 := fun n hn => sw_le (fun c hc => h60 c (by omega))
    have h1 := hs k (by omega)
    have h2 := h60 k (by omega)
    rw [ih (by omega), sumW_v h k (by omega), sumW_v h (k + 1) (by omega), h k (by omega)]
    show v + (nI (sw w k)).toInt64 + _ = v + (nI (sw w k + w k)).toInt64
    rw [toL (by omega), toL (by omega), toL (by omega), Int64.ofNat_add, Int64.add_assoc]
theorem slF_v {x : St} {b : Nat} {w : Nat → Nat} (h : ∀ c, c < 32 → x 20 b c = nI (w c)) (h60 : ∀ c, c < 32 → w c ≤ 60) (v : Int64) (k : Nat) (hk : k ≤ 32) : slF x b v k = csL x b v k := by
  induction k with
  | zero => rfl
  | succ k ih =>
    show 31 * slF x b v k + (bitF (x 15 b 0) (nI k)).toInt64 + 2 * (x 20 b k).toInt64 = 31 * csL x b v k + (bitF (x 15 b 0) (nI k)).toInt64 + (2 * wearF x b (nI k)).toInt64
    rw [ih (by omega), wearF_v (by omega), h k (by omega), dbl60 _ (by have := h60 k (by omega); omega)]
theorem qO_in {f : Nat → Int32} {nn k r : Nat} (hk : k < nn) (e : f k = nI r) (m : Nat) (hr : r < m) : k ∈ qO f nn m := by
  induction m with
  | zero => omega
  | succ m ih =>
    rw [qO_s, List.mem_append]
    by_cases h : r = m
    · subst h
      exact Or.inl (List.mem_filter.mpr ⟨List.mem_range.mpr hk, decide_eq_true e⟩)
    · exact Or.inr (ih (by omega))
theorem J35.of {x y : St} {ch : Int64} {nn hr t : Nat} (h : R2 x y ch 4 nn hr t) {b : Nat} (hb : b < 4) {n : Nat} (hn : n < nn) (e : x 12 b 0 = nI n) : ofP x n := by
  have hnn := h.gi.nn40
  obtain ⟨W, -, h2, -⟩ := h.2.1
  rcases (h2 b hb).2 with h9 | ⟨n', hn', e', h3, h4⟩
  · exact absurd (e.symm.trans h9) (nI_ne (by omega))
  · obtain rfl := (nI_eq (by omega) (by omega)).mp (e.symm.trans e')
    exact ⟨h3, h4 hb⟩
theorem J35.fb {x : St} {D P : Nat → Int32} {nn k : Nat} (h : J35 x D P nn k) {b : Nat} (hb : b < 4) : FB x nn D P b := by
  obtain ⟨y, ch, hr, hR, -, -, hD, hP, -⟩ := h
  have hnn := hR.gi.nn40
  obtain ⟨⟨w, q, ⟨hW, h60, hpar, hX, e11, hq2⟩, hRB, g3, e13⟩, -, -⟩ := hR.bd hb
  have hBD : BD x y b w q := ⟨⟨hW, h60, hpar, hX, e11, hq2⟩, hRB, g3, e13⟩
  obtain ⟨h20, ⟨M, h16, hM, ⟨c0, hc0, ec0⟩, -⟩, -⟩ := hW
  refine ⟨fun c hc => ?_, ?_, ?_, ?_, ?_, ?_⟩
  · have h1 := hpar c hc
    have h2 := h60 c hc
    rw [h20 c hc, bitF_v hc, nI_add, par60 _ (by omega), h1]
    refine ⟨?_, rfl⟩
    have h3 := b2n_le (bt (x 15 b 0) c)
    exact nI_le (b := 60) (by omega) (by omega)
  · have h1 := mxN_le (v := w) (n := 32) (B := M) hM
    have h2 := mxN_ge (v := w) hc0
    have h3 := mxF_v h20 h60 32 (by omega)
    generalize mxN w 32 = z at h1 h2 h3
    rw [h3, h16, show z = M by omega]
  · exact anew_v hBD (hR.gi.x19 (by omega)) (hR.gi.tc (by omega))
  · rw [pc_cN, e11]; exact nI_le g3 (by omega)
  · rw [e11]; exact nI_le (b := 200) hq2 (by omega)
  · obtain ⟨d, hd, eD, e10, hs⟩ := hD b hb
    refine hs.imp id (fun ⟨n, hn, e12, ⟨s, hs7, e13, e15⟩, hbt⟩ => ?_)
    have hof := J35.of hR hb hn e12
    have hqc : qcP x n (nI d) := ⟨(bitF_bt (by omega)).mpr hbt, Int32.not_le.mpr hof.2⟩
    refine ⟨n, hn, e12, ⟨s, hs7, e13, by rw [hP n hn, shK_shF hs7]; exact e15⟩, hof, d, hd, eD, ?_⟩
    obtain ⟨g1, g2, g3, g4, g5⟩ := hR.qc hd
    have hPk : ∀ k, k < nn → (qcP x (rk x k) (nI d) ↔ iiB y d (rk x k) = true) := fun k hk => (g1 _ (g3 k hk)).trans iiB_iff.symm
    obtain ⟨r, hr10, er⟩ := hR.mi.rk n hn
    have hmem : n ∈ RLs x nn := by rw [g2]; exact qO_in hn er 11 (by omega)
    obtain ⟨k0, hk0, ek0⟩ : ∃ k0, k0 < nn ∧ rk x k0 = n := by
      obtain ⟨k0, hk0, e⟩ := List.mem_map.mp hmem
      exact ⟨k0, List.mem_range.mp hk0, e⟩
    have hat : ∀ k, k < nn → qcP x (rk x k) (nI d) → ((RLs x nn).filter (iiB y d))[((RLs x k).filter (iiB y d)).length]? = some (rk x k) := fun k hk hq => by
      have h1 := RL_at ((hPk k hk).mp hq) (nn - (k + 1))
      rw [show k + 1 + (nn - (k + 1)) = nn by omega] at h1
      exact h1
    have h0 := hat k0 hk0 (by rw [ek0]; exact hqc)
    obtain ⟨hlt, -⟩ := List.getElem?_eq_some_iff.mp h0
    have hln : ((RLs x nn).filter (iiB y d)).length ≤ nn := g5
    refine ⟨((RLs x nn).filter (iiB y d)).length, ((RLs x k0).filter (iiB y d)).length, hlt, by omega, (qc_v g1).trans g4, fun r hQ => ?_⟩
    rcases hQ with ⟨-, k, hk, ⟨hq, hqr⟩, rfl, -⟩ | ⟨E, h9 | ⟨-, -, h9⟩, -⟩
    · have hqr2 := (qr_v hPk k (by omega)).symm.trans hqr
      have hl2 := List.length_filter_le (iiB y d) (RLs x k)
      rw [RL_len] at hl2
      have e2 := (nI_eq (by omega) (by omega)).mp hqr2
      have h1 := hat k hk hq
      rw [e2, h0] at h1
      rw [← ek0]
      exact congrArg nI (Option.some.inj h1).symm
    · have h8 := h9.2
      rw [nI_toInt (by omega)] at h8; omega
    · exact absurd ⟨by rw [show (x 43 0 k0).toNatClampNeg = n from ek0]; exact hqc, qr_v hPk k0 (by omega)⟩ (h9 k0 hk0)
theorem J35.fr {x : St} {D P : Nat → Int32} {nn k : Nat} (h : J35 x D P nn k) : FR x nn D P := by
  have hb : ∀ b, b < 4 → FB x nn D P b := fun b hb => h.fb hb
  obtain ⟨y, ch, hr, hR, -⟩ := h
  have hw : ∀ b, b < 4 → ∃ w : Nat → Nat, (∀ c, c < 32 → x 20 b c = nI (w c)) ∧ ∀ c, c < 32 → w c ≤ 60 := fun b hb => by
    obtain ⟨⟨w, q, ⟨hW, h60, -⟩, -⟩, -⟩ := hR.bd hb
    exact ⟨w, hW.1, h60⟩
  refine ⟨hR.gi, hb, ?_, ?_, sound_v hR hR.gi.tc4 hR.gi.x194⟩
  · have : ∀ n, n ≤ 4 → woS x n = chgF x n := fun n hn => by
      induction n with
      | zero => rfl
      | succ n ih =>
        obtain ⟨w, h1, h2⟩ := hw n (by omega)
        show wlF x n (woS x n) 32 = chgF x n + (sumW x n 32).toInt64
        rw [wlF_v h1 h2 _ 32 (by omega), ih (by omega)]
    exact this 4 (by omega)
  · have : ∀ n, n ≤ 4 → soS x n = csF x n := fun n hn => by
      induction n with
      | zero => rfl
      | succ n ih =>
        obtain ⟨w, h1, h2⟩ := hw n (by omega)
        show slF x n (soS x n) 32 = csL x n (csF x n) 32
        rw [slF_v h1 h2 _ 32 (by omega), ih (by omega)]
    exact this 4 (by omega)
theorem cN_le_of {β γ : Nat → Bool} {n : Nat} (h : ∀ c, c < n → β c = true → γ c = true) : cN β n ≤ cN γ n := cN_mono h
theorem J35.sr {x : St} {D P : Nat → Int32} {nn k : Nat} (h : J35 x D P nn k) (hk26 : k ≤ 26) : SR x nn := by
  obtain ⟨y, ch, hr, hR, -⟩ := h
  intro q d hq hd
  have hnn := hR.gi.nn40
  obtain ⟨-, -, h3, -, -, ⟨-, h7⟩, h8, -⟩ := hR.2
  have hbd : ∀ j, j < nn → ∃ s, s ≤ 4 * (999 * 26) ∧ riF x j (nI d) 4 = nI s := fun j hj => by
    obtain ⟨s, h1, h2⟩ := ri_nat (x := x) (k := j) (nb := 4) (B := 999 * k) (d := nI d) (fun b hb => (h8 j (by omega) b (by omega)).2)
    exact ⟨s, by omega, h2⟩
  obtain ⟨v, hv⟩ : ∃ v : Nat → Nat, ∀ j, j < nn → v j ≤ 4 * (999 * 26) ∧ riF x j (nI d) 4 = nI (v j) := ⟨fun j => (riF x j (nI d) 4).toNatClampNeg, fun j hj => by
    obtain ⟨s, h1, h2⟩ := hbd j hj
    show (riF x j (nI d) 4).toNatClampNeg ≤ _ ∧ riF x j (nI d) 4 = nI (riF x j (nI d) 4).toNatClampNeg
    rw [h2, nI_clamp (by omega)]
    exact ⟨h1, rfl⟩⟩
  obtain ⟨S, hS⟩ : ∃ S : Nat → Bool, ∀ j, suP x j q (nI d) 4 ↔ S j = true := ⟨fun j => @decide (suP x j q (nI d) 4) (Classical.propDecidable _), fun j => (@decide_eq_true_iff (suP x j q (nI d) 4) (Classical.propDecidable _)).symm⟩
  have hsa : ∀ j, j < nn → saF x j q (nI d) 4 nn = nI (cN (fun i => S i && Bv v i j) nn) := fun j hj => sa_v hnn hj (fun i _ => hS i) (fun i hi => ⟨by have := (hv i hi).1; omega, (hv i hi).2⟩) nn (Nat.le_refl _)
  have hsc : scF x q (nI d) 4 nn = nI (cN S nn) := by
    have : ∀ n, n ≤ nn → scF x q (nI d) 4 n = nI (cN S n) := fun n hn => by
      induction n with
      | zero => rfl
      | succ n ih =>
        rw [cN_s]
        by_cases h9 : suP x n q (nI d) 4
        · rw [sc_t h9, ih (by omega), (hS n).mp h9, nI_1] <;> rfl
        · have h8 : S n = false := by cases h7 : S n with | true => exact absurd ((hS n).mpr h7) h9 | false => rfl
          rw [sc_f h9, ih (by omega), h8] <;> rfl
    exact this nn (Nat.le_refl _)
  have hMn : cN S nn ≤ nn := cN_le nn
  have hex : ∀ a, ∃ j, a < cN S nn → j < nn ∧ S j = true ∧ cN (fun i => S i && Bv v i j) nn = a := fun a => by
    by_cases h9 : a < cN S nn
    · obtain ⟨j, e⟩ := place_ex (S := S) Bv_irr (Bv_tr (v := v)) Bv_tot nn a h9
      exact ⟨j, fun _ => e⟩
    · exact ⟨0, fun h8 => absurd h8 h9⟩
  obtain ⟨pl, hpl⟩ : ∃ pl : Nat → Nat, ∀ a, a < cN S nn → pl a < nn ∧ S (pl a) = true ∧ cN (fun i => S i && Bv v i (pl a)) nn = a := ⟨fun a => Classical.choose (hex a), fun a => Classical.choose_spec (hex a)⟩
  have hpq : 0 ≤ (nI d).toInt ∧ (nI d).toInt ≤ 3 := by rw [nI_toInt (by omega)]; omega
  have hcl : ∀ j, cN (fun i => S i && Bv v i j) nn ≤ nn := fun j => cN_le nn
  refine ⟨cN S nn, fun a => v (pl a), pl, by omega, hsc, fun a ha => ?_, fun r hQ => ?_, fun a ha => ?_, fun a ha => ?_⟩
  · obtain ⟨p1, p2, p3⟩ := hpl a ha
    refine ⟨p1, (hv _ p1).2, fun r hQ => ?_⟩
    rcases hQ with ⟨-, j, hj, ⟨h1, h2⟩, rfl, -⟩ | ⟨E, h9 | ⟨-, -, h9⟩, -⟩
    · rw [hsa j hj] at h2
      have h4 := hcl j
      have e := (nI_eq (by omega) (by omega)).mp h2
      rw [place_uq (S := S) Bv_irr (Bv_tr (v := v)) Bv_tot nn hj p1 ((hS j).mp h1) p2 (e.trans p3.symm)]
    · rcases h9.2 with h9 | h9 | h9
      · omega
      · omega
      · exact absurd (Int32.toInt_inj.mp (h9.trans i_0.symm)) hq
    · exact absurd ⟨(hS _).mpr p2, by rw [hsa _ p1, p3]⟩ (h9 _ p1)
  · rcases hQ with ⟨-, j, hj, ⟨h1, h2⟩, rfl, -⟩ | ⟨E, h9 | ⟨h9, -, -⟩, rfl⟩
    · rw [hsa j hj] at h2
      have h4 := hcl j
      have e := (nI_eq (by omega) (by omega)).mp h2
      have h5 := place_lt (S := S) (B := Bv v) Bv_irr nn j hj ((hS j).mp h1)
      omega
    · rcases h9.2 with h9 | h9 | h9
      · omega
      · omega
      · exact absurd (Int32.toInt_inj.mp (h9.trans i_0.symm)) hq
    · rw [h9]; decide +kernel
  · have := (hv _ (hpl a ha).1).1
    show v (pl a) ≤ 1000000
    omega
  · obtain ⟨p1, p2, p3⟩ := hpl a (by omega)
    obtain ⟨q1, q2, q3⟩ := hpl (a + 1) ha
    show v (pl (a + 1)) ≤ v (pl a)
    refine Nat.le_of_not_lt (fun h9 => ?_)
    have hB : Bv v (pl (a + 1)) (pl a) = true := decide_eq_true (Or.inl h9)
    have := cN_le_of (β := fun i => S i && Bv v i (pl (a + 1))) (γ := fun i => S i && Bv v i (pl a)) (n := nn) (fun c _ hc => by
      rw [Bool.and_eq_true] at hc ⊢
      exact ⟨hc.1, Bv_tr _ _ _ hc.2 hB⟩)
    omega
theorem add_rc {a v b : Int32} : a + v + b = a + b + v := by rw [Int32.add_assoc, Int32.add_comm v b, ← Int32.add_assoc]
theorem r4_0 {a v b c e : Int32} : a + v + b + c + e = a + b + c + e + v := by rw [add_rc (a := a) (v := v) (b := b), add_rc (a := a + b) (v := v) (b := c), add_rc (a := a + b + c) (v := v) (b := e)]
theorem r4_1 {a v b c e : Int32} : a + (b + v) + c + e = a + b + c + e + v := by rw [← Int32.add_assoc a b v, add_rc (a := a + b) (v := v) (b := c), add_rc (a := a + b + c) (v := v) (b := e)]
theorem r4_2 {a v b c e : Int32} : a + b + (c + v) + e = a + b + c + e + v := by rw [← Int32.add_assoc (a + b) c v, add_rc (a := a + b + c) (v := v) (b := e)]
theorem r4_3 {a v b c e : Int32} : a + b + c + (e + v) = a + b + c + e + v := (Int32.add_assoc _ _ _).symm
theorem rd_v {x y : St} {m : Nat} (h : ∀ b, b < 4 → (∃ d, d < 4 ∧ x 10 b 0 = nI d) ∧ x 37 m b = y 24 0 (6 * m + b)) (k : Nat) (hk : k ≤ 4) : riF x m (nI 0) k + riF x m (nI 1) k + riF x m (nI 2) k + riF x m (nI 3) k = y24S y m k := by
  induction k with
  | zero => show (0 : Int32) + 0 + 0 + 0 = 0; decide
  | succ k ih =>
    obtain ⟨⟨d, hd, e⟩, e37⟩ := h k (by omega)
    have hne : ∀ c, c < 4 → c ≠ d → ¬ x 10 k 0 = nI c := fun c hc hcd h9 => hcd ((nI_eq (by omega) (by omega)).mp (h9.symm.trans e))
    show _ = y24S y m k + y 24 0 (6 * m + k)
    rw [← ih (by omega), ← e37]
    rcases (show d = 0 ∨ d = 1 ∨ d = 2 ∨ d = 3 by omega) with rfl | rfl | rfl | rfl
    · rw [ri_t e, ri_f (hne 1 (by omega) (by omega)), ri_f (hne 2 (by omega) (by omega)), ri_f (hne 3 (by omega) (by omega))]; exact r4_0
    · rw [ri_t e, ri_f (hne 0 (by omega) (by omega)), ri_f (hne 2 (by omega) (by omega)), ri_f (hne 3 (by omega) (by omega))]; exact r4_1
    · rw [ri_t e, ri_f (hne 0 (by omega) (by omega)), ri_f (hne 1 (by omega) (by omega)), ri_f (hne 3 (by omega) (by omega))]; exact r4_2
    · rw [ri_t e, ri_f (hne 0 (by omega) (by omega)), ri_f (hne 1 (by omega) (by omega)), ri_f (hne 2 (by omega) (by omega))]; exact r4_3
theorem J35.rr {x : St} {D P : Nat → Int32} {nn k : Nat} (h : J35 x D P nn k) (hk26 : k ≤ 26) : ∃ hr c, hr ≤ 200 ∧ x 3 0 0 = nI hr ∧ c ≤ 512 ∧ x 4 0 0 = nI c ∧ RR x nn hr c := by
  obtain ⟨y, ch, hr, hR, hh, -, hD, -, hS⟩ := h
  have hnn := hR.gi.nn40
  obtain ⟨c, hc, e4⟩ := hR.cnt
  obtain ⟨-, -, -, -, -, ⟨hRD, -⟩, h8, -⟩ := hR.2
  refine ⟨hr, c, by omega, hR.x3, hc, e4, fun m hm => ?_⟩
  have hpo : ∀ q, q ≤ 2000 → poF x (nI m) (nI q) c = y 25 0 (2001 * m + q) := fun q hq => (hRD.get (by omega) hc e4).2 q hq rfl
  obtain ⟨s1, s2⟩ := hS m (by omega)
  constructor
  · have e1 : rdS x m 4 = y24S y m 4 := by
      rw [← rd_v (x := x) (y := y) (m := m) (fun b hb => ⟨by obtain ⟨d, hd, -, e, -⟩ := hD b hb; exact ⟨d, hd, e⟩, (h8 m (by omega) b (by omega)).1⟩) 4 (by omega)]
      show (0 : Int32) + riF x m (nI 0) 4 + riF x m (nI 1) 4 + riF x m (nI 2) 4 + riF x m (nI 3) 4 = _
      rw [Int32.zero_add]
    have e2 : ∀ n, n ≤ 2001 → riS x m c n = y25S y m n := fun n hn => by
      induction n with
      | zero => rfl
      | succ n ih => show riS x m c n + poF x (nI m) (nI n) c = y25S y m n + _; rw [ih (by omega), hpo n (by omega)]
    rw [e1, s1, e2 _ (by omega)]
  · rw [hR.x3, nI_1, hpo _ (by omega)]
    exact s2 _ (by omega) (by omega)
end V35
