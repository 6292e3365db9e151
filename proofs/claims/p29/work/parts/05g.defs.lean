/-! WORDS of what the methods answer, on the class's registers -/
section GDF
def jush (x y : Int32) : Int32 := (x.toUInt32 >>> (y.toUInt32 &&& Int32.toUInt32 31)).toInt32
def bitF (p c : Int32) : Int32 := jush p c &&& 1
def nwF (c : Int32) : Int32 := ((255 <<< (c &&& 31)) &&& 255) * 16843009
def shF (p c : Int32) : Int32 := ((p <<< (c &&& 31)) &&& nwF c) ||| (jush p (8 - c) &&& (nwF c ^^^ (-1)))
def pc1 (x : Int32) : Int32 := x - (jush x 1 &&& 1431655765)
def pc2 (x : Int32) : Int32 := (x &&& 858993459) + (jush x 2 &&& 858993459)
def pc3 (x : Int32) : Int32 := (x + jush x 4) &&& 252645135
def pc4 (x : Int32) : Int32 := x + jush x 8
def pc5 (x : Int32) : Int32 := x + jush x 16
def pcF (x : Int32) : Int32 := pc5 (pc4 (pc3 (pc2 (pc1 x)))) &&& 63
theorem cw_bw {g : gE} {L : Nat → Nat} {x : St} {r0 : Nat → va_E} {i : Nat} (h : i < 6) : cw g L x r0 (9 + 3 * i) = aI g 32 (fun j => x 20 i j) := (cw_lt (by omega)).trans (dk_bw h)
theorem cw_bc {g : gE} {L : Nat → Nat} {x : St} {r0 : Nat → va_E} {i : Nat} (h : i < 6) : cw g L x r0 (10 + 3 * i) = aI g 1920 (fun j => x 21 i j) := (cw_lt (by omega)).trans (dk_bc h)
theorem cw_nr {g : gE} {L : Nat → Nat} {x : St} {r0 : Nat → va_E} {i : Nat} (h : i < 40) : cw g L x r0 (27 + 2 * i) = aI g 6 (fun j => x 37 i j) := (cw_lt (by omega)).trans dk_nr
theorem cw_5 {g : gE} {L : Nat → Nat} {x : St} {r0 : Nat → va_E} : cw g L x r0 5 = aI g 512 (fun j => x 40 0 j) := (cw_lt (by omega)).trans rfl
theorem cw_6 {g : gE} {L : Nat → Nat} {x : St} {r0 : Nat → va_E} : cw g L x r0 6 = aI g 512 (fun j => x 41 0 j) := (cw_lt (by omega)).trans rfl
theorem cw_7 {g : gE} {L : Nat → Nat} {x : St} {r0 : Nat → va_E} : cw g L x r0 7 = aI g 512 (fun j => x 42 0 j) := (cw_lt (by omega)).trans rfl
theorem up_st {x : St} {r i j : Nat} {v : Int32} : (upd (fun k => x r i k) j v) = fun k => st x r i j v r i k := by
  funext k
  simp only [upd, st]
  by_cases h : k = j <;> simp [h]
theorem cw_stw {g : gE} {L : Nat → Nat} {x : St} {r0 : Nat → va_E} {i j : Nat} {v : Int32} (h : i < 6) : va_up (cw g L x r0) (9 + 3 * i) (aI g 32 (upd (fun k => x 20 i k) j v)) = cw g L (st x 20 i j v) r0 := cw_put (r := 20) (i := i) (j := j) rfl (by omega) (by rw [dk_bw h, up_st])
theorem cw_stc {g : gE} {L : Nat → Nat} {x : St} {r0 : Nat → va_E} {i j : Nat} {v : Int32} (h : i < 6) : va_up (cw g L x r0) (10 + 3 * i) (aI g 1920 (upd (fun k => x 21 i k) j v)) = cw g L (st x 21 i j v) r0 := cw_put (r := 21) (i := i) (j := j) rfl (by omega) (by rw [dk_bc h, up_st])
theorem cw_str {g : gE} {L : Nat → Nat} {x : St} {r0 : Nat → va_E} {i j : Nat} {v : Int32} (h : i < 40) : va_up (cw g L x r0) (27 + 2 * i) (aI g 6 (upd (fun k => x 37 i k) j v)) = cw g L (st x 37 i j v) r0 := cw_put (r := 37) (i := i) (j := j) rfl (by omega) (by rw [dk_nr, up_st])
theorem cw_st5 {g : gE} {L : Nat → Nat} {x : St} {r0 : Nat → va_E} {j : Nat} {v : Int32} : va_up (cw g L x r0) 5 (aI g 512 (upd (fun k => x 40 0 k) j v)) = cw g L (st x 40 0 j v) r0 := cw_put (r := 40) (i := 0) (j := j) rfl (by omega) (by rw [up_st]; rfl)
theorem cw_st6 {g : gE} {L : Nat → Nat} {x : St} {r0 : Nat → va_E} {j : Nat} {v : Int32} : va_up (cw g L x r0) 6 (aI g 512 (upd (fun k => x 41 0 k) j v)) = cw g L (st x 41 0 j v) r0 := cw_put (r := 41) (i := 0) (j := j) rfl (by omega) (by rw [up_st]; rfl)
theorem cw_st7 {g : gE} {L : Nat → Nat} {x : St} {r0 : Nat → va_E} {j : Nat} {v : Int32} : va_up (cw g L x r0) 7 (aI g 512 (upd (fun k => x 42 0 k) j v)) = cw g L (st x 42 0 j v) r0 := cw_put (r := 42) (i := 0) (j := j) rfl (by omega) (by rw [up_st]; rfl)
def wearF (x : St) (i : Nat) (p : Int32) : Int32 := if p < 0 then 0 else if p < 32 then x 20 i p.toNatClampNeg else 0
theorem cell_in {p : Int32} (h0 : ¬ p < 0) (h1 : p < 32) : vp_in p 32 := by
  obtain ⟨j, hj, rfl⟩ := bd_in (k := 32) h0 h1 (by decide)
  exact vp_in_nI hj (by decide)
def sumW (x : St) (i : Nat) : Nat → Int32
  | 0 => 0
  | k + 1 => sumW x i k + x 20 i k
def xorF (x : St) (i : Nat) : Nat → Int32
  | 0 => 0
  | k + 1 => xorF x i k ^^^ x 21 i k
def gwF (x : St) (i : Nat) (p : Int32) : Int32 := if p &&& x 17 i 0 = 0 then x 16 i 0 else x 16 i 0 + 1
abbrev ctP (x : St) (i : Nat) (p : Int32) : Prop := (((x 15 i 0 ^^^ p) ||| p) &&& x 18 i 0) = 0 ∧ pcF (x 15 i 0 ^^^ p) + pcF p ≤ x 11 i 0
def wo1 (x : St) (i : Nat) (p : Int32) : St := st x 20 i p.toNatClampNeg (x 20 i p.toNatClampNeg + 1)
def wo2 (x : St) (i : Nat) (w : Int32) : St := if w ≤ x 16 i 0 then x else st (st x 16 i 0 w) 17 i 0 0
theorem wo2_t {x : St} {i : Nat} {w : Int32} (h : w ≤ x 16 i 0) : wo2 x i w = x := if_pos h
theorem wo2_f {x : St} {i : Nat} {w : Int32} (h : ¬ w ≤ x 16 i 0) : wo2 x i w = st (st x 16 i 0 w) 17 i 0 0 := if_neg h
def wo3 (x : St) (i : Nat) (w b : Int32) : St := if w = x 16 i 0 then st x 17 i 0 (x 17 i 0 ||| b) else x
theorem wo3_t {x : St} {i : Nat} {w b : Int32} (h : w = x 16 i 0) : wo3 x i w b = st x 17 i 0 (x 17 i 0 ||| b) := if_pos h
theorem wo3_f {x : St} {i : Nat} {w b : Int32} (h : ¬ w = x 16 i 0) : wo3 x i w b = x := if_neg h
def wo4 (x : St) (i : Nat) (w b : Int32) : St := if w < 60 then x else st x 18 i 0 (x 18 i 0 ||| b)
theorem wo4_t {x : St} {i : Nat} {w b : Int32} (h : w < 60) : wo4 x i w b = x := if_pos h
theorem wo4_f {x : St} {i : Nat} {w b : Int32} (h : ¬ w < 60) : wo4 x i w b = st x 18 i 0 (x 18 i 0 ||| b) := if_neg h
def wo5 (x : St) (i : Nat) (w b : Int32) : St := wo4 (wo3 (wo2 x i w) i w b) i w b
def woF (x : St) (i : Nat) (p : Int32) : St := if p < 0 then x else if p < 32 then wo5 (wo1 x i p) i (wo1 x i p 20 i p.toNatClampNeg) (1 <<< (p &&& 31)) else x
theorem woF_0 {x : St} {i : Nat} {p : Int32} (h : p < 0) : woF x i p = x := if_pos h
theorem woF_1 {x : St} {i : Nat} {p : Int32} (h : ¬ p < 0) (h2 : ¬ p < 32) : woF x i p = x := (if_neg h).trans (if_neg h2)
theorem woF_2 {x : St} {i : Nat} {p : Int32} (h : ¬ p < 0) (h2 : p < 32) : woF x i p = wo5 (wo1 x i p) i (wo1 x i p 20 i p.toNatClampNeg) (1 <<< (p &&& 31)) := (if_neg h).trans (if_pos h2)
def woL (x : St) (i : Nat) (p : Int32) : Nat → St
  | 0 => x
  | k + 1 => if bitF p (nI k) = 1 then woF (woL x i p k) i (nI k) else woL x i p k
theorem woL_t {x : St} {i : Nat} {p : Int32} {k : Nat} (h : bitF p (nI k) = 1) : woF (woL x i p k) i (nI k) = woL x i p (k + 1) := (if_pos h).symm
theorem woL_f {x : St} {i : Nat} {p : Int32} {k : Nat} (h : ¬ bitF p (nI k) = 1) : woL x i p k = woL x i p (k + 1) := (if_neg h).symm
def ch1 (x : St) (i : Nat) (p : Int32) : St := st (st x 11 i 0 (x 11 i 0 - pcF p)) 15 i 0 ((st x 11 i 0 (x 11 i 0 - pcF p)) 15 i 0 ^^^ p)
def ch2 (x : St) (i : Nat) (p : Int32) : St := if p = 0 then x else if 1920 ≤ x 19 i 0 then x else st (st x 21 i (x 19 i 0).toNatClampNeg p) 19 i 0 ((st x 21 i (x 19 i 0).toNatClampNeg p) 19 i 0 + 1)
theorem ch2_0 {x : St} {i : Nat} {p : Int32} (h : p = 0) : ch2 x i p = x := if_pos h
theorem ch2_1 {x : St} {i : Nat} {p : Int32} (h : ¬ p = 0) (h2 : 1920 ≤ x 19 i 0) : ch2 x i p = x := (if_neg h).trans (if_pos h2)
theorem ch2_2 {x : St} {i : Nat} {p : Int32} (h : ¬ p = 0) (h2 : ¬ 1920 ≤ x 19 i 0) : ch2 x i p = st (st x 21 i (x 19 i 0).toNatClampNeg p) 19 i 0 ((st x 21 i (x 19 i 0).toNatClampNeg p) 19 i 0 + 1) := (if_neg h).trans (if_neg h2)
def chF (x : St) (i : Nat) (p : Int32) : St := woL (ch2 (ch1 x i p) i p) i p 32
def cbF (x : St) (i : Nat) (p : Int32) : St := st x 11 i 0 (if 200 < x 11 i 0 + p then 200 else x 11 i 0 + p)
def wiF (x : St) (i : Nat) : St := st (st (chF x i (x 15 i 0)) 12 i 0 (-1)) 13 i 0 0
theorem shw_m1 {L : Nat → Nat} : shw L (-1) = none := by simp [shw]
theorem shw_nI {L : Nat → Nat} {k : Nat} (h : k < 2 ^ 31) : shw L (nI k) = some (L (26 + 2 * k)) := by
  unfold shw
  rw [if_neg (nI_pos h), nI_clamp h]
theorem ch_in {a : Int32} {tc : Nat} (h : tc ≤ 1920) (e : a = nI tc) (c : ¬ 1920 ≤ a) : vp_in a 1920 := by
  subst e
  exact vp_in_nI (Nat.lt_of_not_le (fun q => c (nI_le (a := 1920) q (by omega)))) (by decide)
end GDF
section GBS
def bsA (x : St) (i : Nat) (p : Int32) (k : Nat) : Int32 := x 15 i 0 ^^^ shF p (nI k)
abbrev bsC (x : St) (i : Nat) (p : Int32) (k : Nat) (t : Int32 × Int32 × Int32) : Prop := t.1 = -1 ∨ gwF x i (bsA x i p k) < t.2.1 ∨ (gwF x i (bsA x i p k) = t.2.1 ∧ pcF (bsA x i p k) < t.2.2)
def bs (x : St) (i : Nat) (p : Int32) : Nat → Int32 × Int32 × Int32
  | 0 => (-1, 0, 0)
  | k + 1 => if ctP x i (shF p (nI k)) then (if bsC x i p k (bs x i p k) then (nI k, gwF x i (bsA x i p k), pcF (bsA x i p k)) else bs x i p k) else bs x i p k
theorem bs_no {x : St} {i : Nat} {p : Int32} {k : Nat} (h : ¬ ctP x i (shF p (nI k))) : bs x i p (k + 1) = bs x i p k := if_neg h
theorem bs_take {x : St} {i : Nat} {p : Int32} {k : Nat} (h : ctP x i (shF p (nI k))) (h2 : bsC x i p k (bs x i p k)) : bs x i p (k + 1) = (nI k, gwF x i (bsA x i p k), pcF (bsA x i p k)) := (if_pos h).trans (if_pos h2)
theorem bs_keep {x : St} {i : Nat} {p : Int32} {k : Nat} (h : ctP x i (shF p (nI k))) (h2 : ¬ bsC x i p k (bs x i p k)) : bs x i p (k + 1) = bs x i p k := (if_pos h).trans (if_neg h2)
def tuF (x : St) (i k : Nat) : St := st (st (chF x i (x 15 i 0 ^^^ shF (x 31 k 0) (bs x i (x 31 k 0) 8).1)) 12 i 0 (nI k)) 13 i 0 (bs x i (x 31 k 0) 8).1
theorem shw_is {n base : Nat} {L : Nat → Nat} {v : Int32} {k0 : Nat} (hJ : wj n L (fun q => base ≤ q)) (hn : 106 ≤ n) (hk : k0 < 40) (h : v = -1 ∨ ∃ k, k < 40 ∧ v = nI k) (e : shw L v = some (L (26 + 2 * k0))) : v = nI k0 := by
  rcases h with rfl | ⟨k, hk2, rfl⟩
  · rw [shw_m1] at e
    cases e
  · rw [shw_nI (by omega)] at e
    have h9 := hJ.1 _ _ (by omega) (by omega) (Option.some.inj e)
    rw [show k = k0 by omega]
end GBS
section GRW
variable {p : Program} {l : Launch} {e : Env} {R : Room} {s : State} {m : MethodId} {args : Array Value} {below : List Frame} {meth : Method} {c : Code} {H : Heap} {locs : List Loc} {cells slots : Nat} {Q : State → Prop}
variable {cc : ByteArray} {pc : Nat} {ls : Array Slot} {rest : List Value} {D : va_G} {cl : List vw_C} {A : Nat → Prop} {tys : List (ClassId × FieldType)} {H0 : Heap} {n : Nat} {L : Nat → Nat} {w w' : Nat → va_E}
theorem wx_ialdv (hexec : p.tables.exec = Jvm.exec) (hb : c.code = cc) (hK : va_K D cl tys s) (hP : va_P D cl (wl n L w) H) (sl t0 : Nat) (hsl : sl < n) {cA : ClassId} {N : Nat} {f : Nat → Int32} (he : w sl = .inl (cA, N, .inl f)) (ht : tys[t0]? = some (cA, .int)) {i v : Int32} (hin : vp_in i N) (hv : f i.toNatClampNeg = v) (hdg : decode cc pc = .ok (.iaload, 1))
    (kk : W p l e R s m args below meth c H locs cells slots Q (F0 m (pc + 1) ls (.int v :: rest))) : W p l e R s m args below meth c H locs cells slots Q (F0 m pc ls (.int i :: .ref (L sl) :: rest)) := by
  subst hv
  exact va_iald hexec hb hK hP sl t0 (wl_get hsl he) ht hin hdg kk
theorem wx_zaldv (hexec : p.tables.exec = Jvm.exec) (hb : c.code = cc) (hK : va_K D cl tys s) (hP : va_P D cl (wl n L w) H) (sl t0 : Nat) (hsl : sl < n) {cA : ClassId} {N : Nat} {f : Nat → Int32} (he : w sl = .inl (cA, N, .inl f)) (ht : tys[t0]? = some (cA, .boolean)) {i v : Int32} (hin : vp_in i N) (hv : f i.toNatClampNeg = v) (hdg : decode cc pc = .ok (.baload, 1))
    (kk : W p l e R s m args below meth c H locs cells slots Q (F0 m (pc + 1) ls (.int v :: rest))) : W p l e R s m args below meth c H locs cells slots Q (F0 m pc ls (.int i :: .ref (L sl) :: rest)) := by
  subst hv
  exact va_zald hexec hb hK hP sl t0 (wl_get hsl he) ht hin hdg kk
end GRW
section GRD
abbrev fdC (x : St) (p q : Int32) (k : Nat) : Prop := x 40 0 k = p ∧ x 41 0 k = q
def fdF (x : St) (p q : Int32) : Nat → Int32
  | 0 => -1
  | k + 1 => if fdF x p q k = -1 then (if fdC x p q k then nI k else -1) else fdF x p q k
theorem fd_no {x : St} {p q : Int32} {k : Nat} (h : fdF x p q k = -1) (h2 : ¬ fdC x p q k) : fdF x p q (k + 1) = -1 := (if_pos h).trans (if_neg h2)
theorem fd_yes {x : St} {p q : Int32} {k : Nat} (h : fdF x p q k = -1) (h2 : fdC x p q k) : fdF x p q (k + 1) = nI k := (if_pos h).trans (if_pos h2)
theorem nI_ne {k : Nat} (h : k < 2 ^ 31) : nI k ≠ -1 := fun e => nI_pos h (by rw [e]; decide)
theorem fd_on {x : St} {p q : Int32} {k : Nat} (h : fdF x p q k ≠ -1) (d : Nat) : fdF x p q (k + d) = fdF x p q k := by
  induction d with
  | zero => rfl
  | succ d ih => rw [show k + (d + 1) = (k + d) + 1 by omega]; exact (if_neg (by rw [ih]; exact h)).trans ih
theorem fd_at {x : St} {p q : Int32} {k c : Nat} (h : fdF x p q k = -1) (h2 : fdC x p q k) (hk : k < c) (hb : k < 2 ^ 31) : fdF x p q c = nI k := by
  have e := fd_yes h h2
  have h9 := fd_on (k := k + 1) (by rw [e]; exact nI_ne hb) (c - (k + 1))
  rw [show k + 1 + (c - (k + 1)) = c by omega] at h9
  exact h9.trans e
theorem cell_in2 {p : Int32} (h0 : ¬ p < 0) (h1 : p < 512) : vp_in p 512 := by
  obtain ⟨j, hj, rfl⟩ := bd_in (k := 512) h0 h1 (by decide)
  exact vp_in_nI hj (by decide)
theorem rd_in {a : Int32} {tc : Nat} (h : tc ≤ 512) (e : a = nI tc) (c : ¬ 512 ≤ a) : vp_in a 512 := by
  subst e
  exact vp_in_nI (Nat.lt_of_not_le (fun q => c (nI_le (a := 512) q (by omega)))) (by decide)
def poF (x : St) (p q : Int32) (c : Nat) : Int32 := if fdF x p q c < 0 then 0 else if fdF x p q c < 512 then x 42 0 (fdF x p q c).toNatClampNeg else 0
def wr1 (x : St) (p q : Int32) : St := st (st (st x 40 0 (x 4 0 0).toNatClampNeg p) 41 0 (x 4 0 0).toNatClampNeg q) 4 0 0 ((st (st x 40 0 (x 4 0 0).toNatClampNeg p) 41 0 (x 4 0 0).toNatClampNeg q) 4 0 0 + 1)
def wr2 (x : St) (e v : Int32) : St := if e < 0 then x else if 512 ≤ e then x else st x 42 0 e.toNatClampNeg (x 42 0 e.toNatClampNeg + v)
def wrF (x : St) (p q v : Int32) (c : Nat) : St := if fdF x p q c = -1 then (if 512 ≤ x 4 0 0 then wr2 x (fdF x p q c) v else wr2 (wr1 x p q) (x 4 0 0) v) else wr2 x (fdF x p q c) v
theorem wr2_0 {x : St} {e v : Int32} (h : e < 0) : wr2 x e v = x := if_pos h
theorem wr2_1 {x : St} {e v : Int32} (h : ¬ e < 0) (h2 : 512 ≤ e) : wr2 x e v = x := (if_neg h).trans (if_pos h2)
theorem wr2_2 {x : St} {e v : Int32} (h : ¬ e < 0) (h2 : ¬ 512 ≤ e) : wr2 x e v = st x 42 0 e.toNatClampNeg (x 42 0 e.toNatClampNeg + v) := (if_neg h).trans (if_neg h2)
theorem wrF_0 {x : St} {p q v : Int32} {c : Nat} (h : ¬ fdF x p q c = -1) : wrF x p q v c = wr2 x (fdF x p q c) v := if_neg h
theorem wrF_1 {x : St} {p q v : Int32} {c : Nat} (h : fdF x p q c = -1) (h2 : 512 ≤ x 4 0 0) : wrF x p q v c = wr2 x (fdF x p q c) v := (if_pos h).trans (if_pos h2)
theorem wrF_2 {x : St} {p q v : Int32} {c : Nat} (h : fdF x p q c = -1) (h2 : ¬ 512 ≤ x 4 0 0) : wrF x p q v c = wr2 (wr1 x p q) (x 4 0 0) v := (if_pos h).trans (if_neg h2)
def riF (x : St) (i : Nat) (p : Int32) : Nat → Int32
  | 0 => 0
  | k + 1 => if x 10 k 0 = p then riF x i p k + x 37 i k else riF x i p k
theorem ri_t {x : St} {i k : Nat} {p : Int32} (h : x 10 k 0 = p) : riF x i p (k + 1) = riF x i p k + x 37 i k := if_pos h
theorem ri_f {x : St} {i k : Nat} {p : Int32} (h : ¬ x 10 k 0 = p) : riF x i p (k + 1) = riF x i p k := if_neg h
def btF (x : St) (i : Nat) : Nat → Int32
  | 0 => 0
  | k + 1 => if x 12 k 0 = nI i then btF x i k + 1 else btF x i k
theorem bt_t {x : St} {i k : Nat} (h : x 12 k 0 = nI i) : btF x i (k + 1) = btF x i k + 1 := if_pos h
theorem bt_f {x : St} {i k : Nat} (h : ¬ x 12 k 0 = nI i) : btF x i (k + 1) = btF x i k := if_neg h
end GRD
section GSU
abbrev chmP (x : St) (i : Nat) (p : Int32) : Prop := ∃ j, j < 8 ∧ p &&& (shF (x 31 i 0) (nI j) ^^^ (-1)) = 0
abbrev suP (x : St) (i : Nat) (p q : Int32) (nb : Nat) : Prop := ¬ riF x i q nb ≤ 0 ∧ chmP x i p
abbrev saP (x : St) (i : Nat) (p q : Int32) (nb k : Nat) : Prop := (riF x i q nb < riF x k q nb ∨ (riF x k q nb = riF x i q nb ∧ ¬ nI i ≤ nI k)) ∧ suP x k p q nb
noncomputable def saF (x : St) (i : Nat) (p q : Int32) (nb : Nat) : Nat → Int32
  | 0 => 0
  | k + 1 => @ite _ (saP x i p q nb k) (Classical.propDecidable _) (saF x i p q nb k + 1) (saF x i p q nb k)
theorem sa_t {x : St} {i nb k : Nat} {p q : Int32} (h : saP x i p q nb k) : saF x i p q nb (k + 1) = saF x i p q nb k + 1 := if_pos h
theorem sa_f {x : St} {i nb k : Nat} {p q : Int32} (h : ¬ saP x i p q nb k) : saF x i p q nb (k + 1) = saF x i p q nb k := if_neg h
def piF (x : St) (i : Nat) (p : Int32) : St := st x 36 i 0 (x 36 i 0 ||| (1 <<< (p &&& 31)))
abbrev qwP (x : St) (i nb k : Nat) : Prop := (bitF (x 36 i 0) (nI k) = 1 ∧ ¬ x 33 i 0 ≤ x 3 0 0) ∧ ¬ riF x i (nI k) nb ≤ 0
noncomputable def qwF (x : St) (i1 i nb : Nat) : Nat → St
  | 0 => x
  | k + 1 => @ite _ (qwP (qwF x i1 i nb k) i nb k) (Classical.propDecidable _) (piF (qwF x i1 i nb k) i1 (nI k)) (qwF x i1 i nb k)
theorem qw_t {x : St} {i1 i nb k : Nat} (h : qwP (qwF x i1 i nb k) i nb k) : piF (qwF x i1 i nb k) i1 (nI k) = qwF x i1 i nb (k + 1) := (if_pos h).symm
theorem qw_f {x : St} {i1 i nb k : Nat} (h : ¬ qwP (qwF x i1 i nb k) i nb k) : qwF x i1 i nb k = qwF x i1 i nb (k + 1) := (if_neg h).symm
theorem st_nr {x : St} {r i j : Nat} {v : Int32} {r' i' j' : Nat} (h : r ≠ r') : st x r i j v r' i' j' = x r' i' j' := by
  simp only [st]
  exact if_neg (fun h9 => h h9.1.symm)
theorem qw_0 {x : St} {i1 i nb k : Nat} : qwF x i1 i nb k 0 0 0 = x 0 0 0 := by
  induction k with
  | zero => rfl
  | succ k ih =>
    by_cases h : qwP (qwF x i1 i nb k) i nb k
    · rw [← qw_t h]; exact (st_nr (r := 36) (r' := 0) (by omega)).trans ih
    · rw [← qw_f h]; exact ih
end GSU
section GSC
noncomputable def scF (x : St) (p q : Int32) (nb : Nat) : Nat → Int32
  | 0 => 0
  | k + 1 => @ite _ (suP x k p q nb) (Classical.propDecidable _) (scF x p q nb k + 1) (scF x p q nb k)
theorem sc_t {x : St} {nb k : Nat} {p q : Int32} (h : suP x k p q nb) : scF x p q nb (k + 1) = scF x p q nb k + 1 := if_pos h
theorem sc_f {x : St} {nb k : Nat} {p q : Int32} (h : ¬ suP x k p q nb) : scF x p q nb (k + 1) = scF x p q nb k := if_neg h
end GSC
section GQC
abbrev qcP (x : St) (k : Nat) (p : Int32) : Prop := bitF (x 36 k 0) p = 1 ∧ ¬ x 33 k 0 ≤ x 3 0 0
def qcF (x : St) (p : Int32) : Nat → Int32
  | 0 => 0
  | k + 1 => if qcP x k p then qcF x p k + 1 else qcF x p k
theorem qc_t {x : St} {k : Nat} {p : Int32} (h : qcP x k p) : qcF x p (k + 1) = qcF x p k + 1 := if_pos h
theorem qc_f {x : St} {k : Nat} {p : Int32} (h : ¬ qcP x k p) : qcF x p (k + 1) = qcF x p k := if_neg h
end GQC
section GQR
def qrF (x : St) (p : Int32) : Nat → Int32
  | 0 => 0
  | k + 1 => if qcP x (x 43 0 k).toNatClampNeg p then qrF x p k + 1 else qrF x p k
theorem qr_t {x : St} {k : Nat} {p : Int32} (h : qcP x (x 43 0 k).toNatClampNeg p) : qrF x p (k + 1) = qrF x p k + 1 := if_pos h
theorem qr_f {x : St} {k : Nat} {p : Int32} (h : ¬ qcP x (x 43 0 k).toNatClampNeg p) : qrF x p (k + 1) = qrF x p k := if_neg h
end GQR
section GCG
def chgF (x : St) : Nat → Int64
  | 0 => 0
  | k + 1 => chgF x k + (sumW x k 32).toInt64
end GCG
section GPA
def paF (x : St) (k : Nat) (p v : Int32) (c : Nat) : St := wrF (st x 37 k p.toNatClampNeg (x 37 k p.toNatClampNeg + v)) (nI k) (st x 37 k p.toNatClampNeg (x 37 k p.toNatClampNeg + v) 3 0 0) v c
end GPA
