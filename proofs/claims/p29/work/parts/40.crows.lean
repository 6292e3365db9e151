/-! CONSTRUCTORS: worlds that grow. n cells and the list behind them -/
section UPS
def ups {α : Type} (f : Nat → α) (n : Nat) (As : List α) : Nat → α := fun j => if j < n then f j else (As[j - n]?).getD (f j)
theorem ups_lt {α : Type} {f : Nat → α} {n j : Nat} {As : List α} (h : j < n) : ups f n As j = f j := if_pos h
theorem ups_at {α : Type} {f : Nat → α} {n i : Nat} {As : List α} {a : α} (h : As[i]? = some a) : ups f n As (n + i) = a := by
  unfold ups
  rw [if_neg (by omega), Nat.add_sub_cancel_left, h, Option.getD_some]
theorem ups_nil {α : Type} (f : Nat → α) (n : Nat) : ups f n [] = f := by
  funext j
  by_cases h : j < n
  · exact ups_lt h
  · unfold ups; rw [if_neg h]; rfl
theorem ups_push {α : Type} {f : Nat → α} {n : Nat} {As : List α} {a : α} : va_up (ups f n As) (n + As.length) a = ups f n (As ++ [a]) := by
  funext j
  by_cases hj : j = n + As.length
  · subst hj
    rw [va_up_self, ups_at (a := a) (by simp)]
  · rw [va_up_ne _ _ hj]
    unfold ups
    by_cases h : j < n
    · rw [if_pos h, if_pos h]
    · rw [if_neg h, if_neg h]
      by_cases h2 : j - n < As.length
      · rw [List.getElem?_append_left h2]
      · rw [List.getElem?_eq_none (by omega), List.getElem?_eq_none (by rw [List.length_append, List.length_singleton]; omega)]
theorem ups_in {α : Type} {f : Nat → α} {n k : Nat} {As : List α} {e : α} (h : k < n) : va_up (ups f n As) k e = ups (va_up f k e) n As := by
  funext j
  by_cases hj : j = k
  · subst hj
    rw [va_up_self, ups_lt h, va_up_self]
  · rw [va_up_ne _ _ hj]
    unfold ups
    rw [va_up_ne _ _ hj]
theorem ups_set {α : Type} {f : Nat → α} {n i : Nat} {As : List α} {e : α} (h : i < As.length) : va_up (ups f n As) (n + i) e = ups f n (As.set i e) := by
  funext j
  by_cases hj : j = n + i
  · subst hj
    rw [va_up_self, ups_at (List.getElem?_set_self h)]
  · rw [va_up_ne _ _ hj]
    unfold ups
    by_cases h9 : j < n
    · rw [if_pos h9, if_pos h9]
    · rw [if_neg h9, if_neg h9, List.getElem?_set_ne (by omega)]
theorem ups_ups {α : Type} {f : Nat → α} {n : Nat} {As Bs : List α} : ups (ups f n As) (n + As.length) Bs = ups f n (As ++ Bs) := by
  funext j
  unfold ups
  by_cases h9 : j < n
  · rw [if_pos (show j < n + As.length by omega), if_pos h9, if_pos h9]
  · rw [if_neg h9, if_neg h9]
    by_cases h8 : j < n + As.length
    · rw [if_pos h8, List.getElem?_append_left (by omega)]
    · rw [if_neg h8, List.getElem?_append_right (by omega), show j - (n + As.length) = j - n - As.length by omega, List.getElem?_eq_none (show As.length ≤ j - n by omega)]
      rfl
theorem up_up {α : Type} {f : Nat → α} {k : Nat} {a b : α} : va_up (va_up f k a) k b = va_up f k b := by
  funext j
  by_cases hj : j = k
  · subst hj; rw [va_up_self, va_up_self]
  · rw [va_up_ne _ _ hj, va_up_ne _ _ hj, va_up_ne _ _ hj]
theorem D_wj {A : Nat → Prop} {n : Nat} {L : Nat → Nat} {w : Nat → va_E} (h : va_D A (wl n L w)) : wj n L A := ⟨fun i j hi hj e => h.1 i j _ _ (wl_get hi rfl) (wl_get hj rfl) e, fun k hk => h.2 k _ (wl_get hk rfl)⟩
theorem ra_same {s : State} {c1 c2 : ClassId} {ty : FieldType} (h1 : va_RA s c1 ty) (h2 : va_RA s c2 ty) : c2 = c1 := by
  cases ty with
  | object C =>
    obtain ⟨_, _, _, _, _, e1⟩ := h1
    obtain ⟨_, _, _, _, _, e2⟩ := h2
    exact Option.some.inj (e2.symm.trans e1)
  | _ =>
    have e1 : s.vm.findClass _ = some c1 := h1
    have e2 : s.vm.findClass _ = some c2 := h2
    exact Option.some.inj (e2.symm.trans e1)
theorem cA_same {D : va_G} {cl : List vw_C} {tys : List (ClassId × FieldType)} {s : State} {k : Nat} {c1 c2 : ClassId} {ty : FieldType} (hK : va_K D cl (tys ++ [(c2, ty)]) s) (hk : tys[k]? = some (c1, ty)) : c2 = c1 := by
  have hl := (List.getElem?_eq_some_iff.mp hk).1
  have h1 := (hK.2 k (c1, ty) (by rw [List.getElem?_append_left hl]; exact hk)).2
  have h2 := (hK.2 tys.length (c2, ty) (by rw [List.getElem?_append_right (Nat.le_refl _), Nat.sub_self]; rfl)).2
  exact ra_same h1 h2
end UPS
section CTR
variable {p : Program} {l : Launch} {e : Env} {R : Room} {s : State} {m : MethodId} {args : Array Value} {below : List Frame} {meth : Method} {c : Code} {H : Heap} {locs : List Loc} {cells slots : Nat} {Q : State → Prop}
variable {cc : ByteArray} {pc : Nat} {ls : Array Slot} {rest : List Value} {D : va_G} {cl : List vw_C} {A : Nat → Prop} {tys : List (ClassId × FieldType)} {H0 : Heap} {n : Nat} {L : Nat → Nat} {w w' : Nat → va_E}
theorem wx_newa (hexec : p.tables.exec = Jvm.exec) (hb : c.code = cc) {atype : ArrayType} (harr : (Cond.arrayClass (newarray.typeOf atype)).before args s = true) {ty : FieldType} (hty : newarray.typeOf atype = ty) (hK : va_K D cl tys s) (hP : va_P D cl (wl n L w) H) (hJ : wj n L A) (hS : va_S A H0 H locs) (hA : ∀ q, H0.size ≤ q → A q)
    {x : Int32} {N' : Nat} {a0 : vp_A} (ha : ∀ cA : ClassId, vp_cell cA a0 = arrV cA N' (fun _ => defaultValue ty)) (hn : ¬ x < 0) (hN : x.toNatClampNeg = N') (hbytes : N' * componentBytes ty ≤ 536870912) (hcells : cells + 1 ≤ R.cells) (hslots : slots + N' ≤ R.slots) (hdg : decode cc pc = .ok (.newarray atype, 2)) {k0 : Nat} {c1 : ClassId} (hk : tys[k0]? = some (c1, ty))
    (kk : ∀ (q : Nat) (H1 : Heap), va_P D cl (wl (n + 1) (va_up L n q) (va_up w n (.inl (c1, a0)))) H1 → wj (n + 1) (va_up L n q) A → va_S A H0 H1 locs →
      W p l e R s m args below meth c H1 locs (cells + 1) (slots + N') Q (F0 m (pc + 2) ls (.ref q :: rest))) : W p l e R s m args below meth c H locs cells slots Q (F0 m pc ls (.int x :: rest)) :=
  va_newa (atype := atype) hexec hb harr hty hK hP (wl_D w hJ) hS hA ha hn hN hbytes hcells hslots hdg (fun q cA H1 hK1 hP1 hD1 hS1 => by
    obtain rfl := cA_same hK1 hk
    rw [wl_push] at hP1 hD1
    exact kk q H1 hP1 (D_wj hD1) hS1)
theorem wx_newq (hexec : p.tables.exec = Jvm.exec) (hb : c.code = cc) {own C : String} {index : Nat} (hown : s.vm.findClass own = some m.cls) (hclink : (Cond.classLink own index C).before args s = true) (hover : (Cond.arrayOver (.object C)).before args s = true) (hK : va_K D cl tys s) (hP : va_P D cl (wl n L w) H) (hJ : wj n L A) (hS : va_S A H0 H locs) (hA : ∀ q, H0.size ≤ q → A q)
    {x : Int32} {N' : Nat} (hn : ¬ x < 0) (hN : x.toNatClampNeg = N') (hbytes : N' * 4 ≤ 536870912) (hcells : cells + 1 ≤ R.cells) (hslots : slots + N' ≤ R.slots) (hdg : decode cc pc = .ok (.anewarray index, 3)) {k0 : Nat} {c1 : ClassId} (hk : tys[k0]? = some (c1, .object C))
    (kk : ∀ (q : Nat) (H1 : Heap), va_P D cl (wl (n + 1) (va_up L n q) (va_up w n (.inl (c1, N', .inr (.inr (.inr (.inr (fun _ => none)))))))) H1 → wj (n + 1) (va_up L n q) A → va_S A H0 H1 locs →
      W p l e R s m args below meth c H1 locs (cells + 1) (slots + N') Q (F0 m (pc + 3) ls (.ref q :: rest))) : W p l e R s m args below meth c H locs cells slots Q (F0 m pc ls (.int x :: rest)) :=
  va_newq hexec hb hown hclink (va_AO.of hover) hK hP (wl_D w hJ) hS hA hn hN hbytes hcells hslots hdg (fun q cA H1 hK1 hP1 hD1 hS1 => by
    obtain rfl := cA_same hK1 hk
    rw [wl_push] at hP1 hD1
    exact kk q H1 hP1 (D_wj hD1) hS1)
theorem wx_new {c0 : Code} (hexec : p.tables.exec = Jvm.exec) (hb : c0.code = cc) {own C : String} {T : u_T} {N ci index : Nat} {Ts : List Cond} (hts : ∀ w ∈ Ts, w.before args s = true) (hin : ∀ w ∈ u_ws C T N, w ∈ Ts) (ty : Nat → FieldType) (hty : ∀ k, k < N → parseFieldDescriptor (T k).2.2.1 = some (ty k)) (hown : s.vm.findClass own = some m.cls) (hcl : (Cond.classLink own index C).before args s = true) (hinst : (Cond.instantiable C N).before args s = true) (hini : (Cond.initialized C).before args s = true)
    (hK : va_K D cl tys s) (hP : va_P D cl (wl n L w) H) (hJ : wj n L A) (hS : va_S A H0 H locs) (hA : ∀ q, H0.size ≤ q → A q) (hc : cl[ci]? = some (C, T, N)) {fs : List Value} (hfs : ∀ j, j < N → defaultValue (ty j) = vp_V fs j) (hcells : cells + 1 ≤ R.cells) (hslots : slots + N ≤ R.slots) (hdg : decode cc pc = .ok (.new index, 3))
    (kk : ∀ (q : Nat) (H1 : Heap), va_P D cl (wl (n + 1) (va_up L n q) (va_up w n (.inr (ci, fs)))) H1 → wj (n + 1) (va_up L n q) A → va_S A H0 H1 locs →
      W p l e R s m args below meth c0 H1 locs (cells + 1) (slots + N) Q (F0 m (pc + 3) ls (.ref q :: rest))) : W p l e R s m args below meth c0 H locs cells slots Q (F0 m pc ls rest) :=
  va_new hexec hb hts hin ty hty hown hcl hinst hini hK hP (wl_D w hJ) hS hA hc hfs hcells hslots hdg (fun q H1 hP1 hD1 hS1 => by
    rw [wl_push] at hP1 hD1
    exact kk q H1 hP1 (D_wj hD1) hS1)
theorem wx_putA (hexec : p.tables.exec = Jvm.exec) (hb : c.code = cc) {own ref C : String} {T : u_T} {N ci index : Nat} {Ts : List Cond} (hts : ∀ w ∈ Ts, w.before args s = true) (hin : ∀ w ∈ u_ws C T N, w ∈ Ts) (ty0 : Nat → FieldType) (hty : ∀ k, k < N → parseFieldDescriptor (T k).2.2.1 = some (ty0 k)) (hnm : ∀ a, a < N → ∀ b, b < N → a ≠ b → (T a).2.1 ≠ (T b).2.1) (hown : s.vm.findClass own = some m.cls) (hK : va_K D cl tys s) (hP : va_P D cl (wl n L w) H) (hJ : wj n L A) (hS0 : va_S A H0 H locs) (sl : Nat) (hsl : sl < n) {fs : List Value} (he : w sl = .inr (ci, fs)) (hc : cl[ci]? = some (C, T, N)) (k : Nat) (hk : k < N) (hlink : (Cond.fieldLink own index ref (T k).2.1 (T k).2.2.1).before args s = true) (hsame : ∀ x, s.fieldFound? (T k).1 (T k).2.1 (T k).2.2.1 = some x → s.fieldFound? ref (T k).2.1 (T k).2.2.1 = some x) (hfin : (T k).2.2.2 = false) {ty : FieldType} {v : Value} (hd : parseFieldDescriptor (T k).2.2.1 = some ty) (hn : narrow ty v = v) (hfit : fits ty v = true) (hl : k < fs.length)
    (hdg : decode cc pc = .ok (.putfield index, 3)) {a : Nat} (ha : L sl = a) (hw : va_up w sl (.inr (ci, fs.set k v)) = w') (kk : ∀ (H1 : Heap) (locs1 : List Loc), va_P D cl (wl n L w') H1 → va_S A H0 H1 locs1 → W p l e R s m args below meth c H1 locs1 cells slots Q (F0 m (pc + 3) ls rest)) : W p l e R s m args below meth c H locs cells slots Q (F0 m pc ls (v :: .ref a :: rest)) := by
  subst ha
  exact wx_put hexec hb hts hin ty0 hty hnm hown hK hP hJ hS0 sl hsl he hc k hk hlink hsame hfin hd hn hfit hl hdg hw kk
theorem wx_putFA (hexec : p.tables.exec = Jvm.exec) (hb : c.code = cc) {own ref C : String} {T : u_T} {N ci index : Nat} {Ts : List Cond} (hts : ∀ w ∈ Ts, w.before args s = true) (hin : ∀ w ∈ u_ws C T N, w ∈ Ts) (ty0 : Nat → FieldType) (hty : ∀ k, k < N → parseFieldDescriptor (T k).2.2.1 = some (ty0 k)) (hnm : ∀ a, a < N → ∀ b, b < N → a ≠ b → (T a).2.1 ≠ (T b).2.1) (hown : s.vm.findClass own = some m.cls) (hK : va_K D cl tys s) (hP : va_P D cl (wl n L w) H) (hJ : wj n L A) (hS0 : va_S A H0 H locs) (sl : Nat) (hsl : sl < n) {fs : List Value} (he : w sl = .inr (ci, fs)) (hc : cl[ci]? = some (C, T, N)) (k : Nat) (hk : k < N) (hlink : (Cond.fieldLink own index ref (T k).2.1 (T k).2.2.1).before args s = true) (hsame : ∀ x, s.fieldFound? (T k).1 (T k).2.1 (T k).2.2.1 = some x → s.fieldFound? ref (T k).2.1 (T k).2.2.1 = some x) (hfin : (T k).2.2.2 = true) (hin2 : meth.name = "<init>") (hdecl : (T k).1 = own) {ty : FieldType} {v : Value} (hd : parseFieldDescriptor (T k).2.2.1 = some ty) (hn : narrow ty v = v) (hfit : fits ty v = true) (hl : k < fs.length)
    (hdg : decode cc pc = .ok (.putfield index, 3)) {a : Nat} (ha : L sl = a) (hw : va_up w sl (.inr (ci, fs.set k v)) = w') (kk : ∀ (H1 : Heap) (locs1 : List Loc), va_P D cl (wl n L w') H1 → va_S A H0 H1 locs1 → W p l e R s m args below meth c H1 locs1 cells slots Q (F0 m (pc + 3) ls rest)) : W p l e R s m args below meth c H locs cells slots Q (F0 m pc ls (v :: .ref a :: rest)) := by
  subst ha
  exact va_putF hexec hb hts hin ty0 hty hnm hown hK hP (wl_D w hJ) hS0 sl (wl_get hsl he) hc k hk hlink hsame hfin hin2 hdecl hd hn hfit hl hdg (fun H1 locs1 h1 _ h3 => kk H1 locs1 (by rw [wl_set, hw] at h1; exact h1) h3)
theorem wx_aastA (hexec : p.tables.exec = Jvm.exec) (hb : c.code = cc) (hK : va_K D cl tys s) (hP : va_P D cl (wl n L w) H) (hJ : wj n L A) (hS : va_S A H0 H locs) (sl t0 sv ci : Nat) (hsl : sl < n) (hsv : sv < n) {cA : ClassId} {r : vw_C} {N : Nat} {vs : List Value} {f : Nat → Option Nat} (he : w sl = .inl (cA, N, .inr (.inr (.inr (.inr f))))) (ht : tys[t0]? = some (cA, .object r.1)) (hv : w sv = .inr (ci, vs)) (hc : cl[ci]? = some r) {i : Int32} (hin : vp_in i N) (hdg : decode cc pc = .ok (.aastore, 1)) {a b : Nat} (ha : L sl = a) (hb9 : L sv = b) (hw : va_up w sl (.inl (cA, N, .inr (.inr (.inr (.inr (va_up f i.toNatClampNeg (some b))))))) = w')
    (kk : ∀ (H1 : Heap) (locs1 : List Loc), va_P D cl (wl n L w') H1 → va_S A H0 H1 locs1 → W p l e R s m args below meth c H1 locs1 cells slots Q (F0 m (pc + 1) ls rest)) : W p l e R s m args below meth c H locs cells slots Q (F0 m pc ls (.ref b :: .int i :: .ref a :: rest)) := by
  subst ha hb9
  exact wx_aast hexec hb hK hP hJ hS sl t0 sv ci hsl hsv he ht hv hc hin hdg hw kk
end CTR
theorem P_cast {D : va_G} {cl : List vw_C} {n n' : Nat} {L L' : Nat → Nat} {w w' : Nat → va_E} {H : Heap} (hn : n = n') (hL : L = L') (hw : w = w') (h : va_P D cl (wl n L w) H) : va_P D cl (wl n' L' w') H := by subst hn hL hw; exact h
theorem J_cast {A : Nat → Prop} {n n' : Nat} {L L' : Nat → Nat} (hn : n = n') (hL : L = L') (h : wj n L A) : wj n' L' A := by subst hn hL; exact h
theorem PW.next2 {ss : List (String × Nat × String)} {g : gE} {base n n' : Nat} {L L' : Nat → Nat} {w w' : Nat → va_E} {s U : State} {H : Heap} {locs : List Loc} (h : PW ss g base n L w s) (hJ : wj n' L' (fun q => base ≤ q)) (hP : va_P g.1 vwCl (wl n' L' w') H) (hS : va_S (fun q => base ≤ q) s.heap H locs) (hU : U.heap = H) (hW : s.WarmedH U.vm) : PW ss g base n' L' w' U :=
  ⟨by rw [hU]; exact Nat.le_trans h.1 hS.1, hJ, by rw [hU]; exact hP, va_K.moved hW.alike h.2.2.2.1, h.2.2.2.2.next hS hU hW⟩
theorem PW.preS2 {ss : List (String × Nat × String)} {g : gE} {base n n' : Nat} {L L' : Nat → Nat} {w w' : Nat → va_E} {s : State} {H : Heap} {locs : List Loc} {As : List Value} (h : PW ss g base n L w s) (hJ : wj n' L' (fun q => base ≤ q)) (hP : va_P g.1 vwCl (wl n' L' w') H) (hS : va_S (fun q => base ≤ q) s.heap H locs) : PreS s H (va_Pc As (PW ss g base n' L' w')) As :=
  ⟨PW.blind, fun U hU hW => ⟨rfl, h.next2 hJ hP hS hU hW⟩⟩
section CTG
variable {p : Program} {l : Launch} {e : Env} {R : Room} {s : State} {m : MethodId} {args : Array Value} {below : List Frame} {meth : Method} {c : Code} {H : Heap} {locs : List Loc} {cells slots : Nat} {Q : State → Prop}
variable {cc : ByteArray} {pc : Nat} {ls : Array Slot} {rest : List Value} {D : va_G} {cl : List vw_C} {A : Nat → Prop} {tys : List (ClassId × FieldType)} {H0 : Heap} {n : Nat} {L : Nat → Nat} {w w' : Nat → va_E}
theorem wx_getA (hexec : p.tables.exec = Jvm.exec) (hb : c.code = cc) {own ref C : String} {T : u_T} {N ci index : Nat} {Ts : List Cond} (hts : ∀ w ∈ Ts, w.before args s = true) (hin : ∀ w ∈ u_ws C T N, w ∈ Ts) (hown : s.vm.findClass own = some m.cls) (hK : va_K D cl tys s) (hP : va_P D cl (wl n L w) H) (sl : Nat) (hsl : sl < n) {fs : List Value} (he : w sl = .inr (ci, fs)) (hc : cl[ci]? = some (C, T, N)) (k : Nat) (hk : k < N) (hlink : (Cond.fieldLink own index ref (T k).2.1 (T k).2.2.1).before args s = true) (hsame : ∀ x, s.fieldFound? (T k).1 (T k).2.1 (T k).2.2.1 = some x → s.fieldFound? ref (T k).2.1 (T k).2.2.1 = some x) {v : Value} (hv : fs[k]? = some v) (hdg : decode cc pc = .ok (.getfield index, 3)) {a : Nat} (ha : L sl = a)
    (kk : W p l e R s m args below meth c H locs cells slots Q (F0 m (pc + 3) ls (v :: rest))) : W p l e R s m args below meth c H locs cells slots Q (F0 m pc ls (.ref a :: rest)) := by
  subst ha
  exact wx_get hexec hb hts hin hown hK hP sl hsl he hc k hk hlink hsame hv hdg kk
end CTG
