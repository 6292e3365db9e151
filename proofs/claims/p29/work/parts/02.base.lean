/-! THE WORLD: a state of the class is registers x r i j (r: which, i: board or notice, j: place in a row); its cells lie at L 0 .. L 105 -/
section WLD
abbrev St : Type := Nat → Nat → Nat → Int32
def st (x : St) (r i j : Nat) (v : Int32) : St := fun r' i' j' => if r' = r ∧ i' = i ∧ j' = j then v else x r' i' j'
theorem st_eq {x : St} {r i j : Nat} {v : Int32} : st x r i j v r i j = v := by simp [st]
theorem st_ne {x : St} {r i j r' i' j' : Nat} {v : Int32} (h : ¬ (r' = r ∧ i' = i ∧ j' = j)) : st x r i j v r' i' j' = x r' i' j' := by simp only [st, if_neg h]
/-- n cells as a list -/
def wl (n : Nat) (L : Nat → Nat) (w : Nat → va_E) : va_W := (List.range n).map (fun k => (L k, w k))
def wj (n : Nat) (L : Nat → Nat) (A : Nat → Prop) : Prop := (∀ i j, i < n → j < n → L i = L j → i = j) ∧ ∀ k, k < n → A (L k)
theorem wl_get {n : Nat} {L : Nat → Nat} {w : Nat → va_E} {k : Nat} {e : va_E} (hk : k < n) (he : w k = e) : (wl n L w)[k]? = some (L k, e) := by
  subst he
  simp [wl, hk]
theorem wl_of {n : Nat} {L : Nat → Nat} {w : Nat → va_E} {k : Nat} {q : Nat × va_E} (h : (wl n L w)[k]? = some q) : k < n ∧ q = (L k, w k) := by
  by_cases hk : k < n
  · rw [wl_get hk rfl] at h
    exact ⟨hk, (Option.some.inj h).symm⟩
  · simp [wl, hk] at h
theorem wl_D {A : Nat → Prop} {n : Nat} {L : Nat → Nat} (w : Nat → va_E) (h : wj n L A) : va_D A (wl n L w) := by
  refine ⟨fun i j p q hp hq e => ?_, fun k q hq => ?_⟩
  · obtain ⟨h1, rfl⟩ := wl_of hp
    obtain ⟨h2, rfl⟩ := wl_of hq
    exact h.1 i j h1 h2 e
  · obtain ⟨h1, rfl⟩ := wl_of hq
    exact h.2 k h1
theorem wl_set {n : Nat} {L : Nat → Nat} {w : Nat → va_E} {k : Nat} {e : va_E} : (wl n L w).set k (L k, e) = wl n L (va_up w k e) := by
  apply List.ext_getElem?
  intro j
  by_cases hj : j = k
  · subst hj
    by_cases hn : j < n
    · rw [List.getElem?_set_self (by simp [wl, hn]), wl_get hn (va_up_self w j e)]
    · simp [wl, hn]
  · rw [List.getElem?_set_ne (Ne.symm hj)]
    by_cases hn : j < n
    · rw [wl_get hn rfl, wl_get hn (va_up_ne w e hj)]
    · simp [wl, hn]
theorem wl_congr {n : Nat} {L L' : Nat → Nat} {w w' : Nat → va_E} (h : ∀ k, k < n → L k = L' k ∧ w k = w' k) : wl n L w = wl n L' w' := by
  unfold wl
  apply List.map_congr_left
  intro k hk
  rw [(h k (List.mem_range.mp hk)).1, (h k (List.mem_range.mp hk)).2]
theorem wl_push {n : Nat} {L : Nat → Nat} {w : Nat → va_E} {q : Nat} {e : va_E} : wl n L w ++ [(q, e)] = wl (n + 1) (va_up L n q) (va_up w n e) := by
  have h : wl n L w = wl n (va_up L n q) (va_up w n e) := wl_congr (fun k hk => ⟨(va_up_ne L q (Nat.ne_of_lt hk)).symm, (va_up_ne w e (Nat.ne_of_lt hk)).symm⟩)
  rw [h]
  simp [wl, List.range_succ, va_up_self]
end WLD
section WXR
variable {p : Program} {l : Launch} {e : Env} {R : Room} {s : State} {m : MethodId} {args : Array Value} {below : List Frame} {meth : Method} {c : Code} {H : Heap} {locs : List Loc} {cells slots : Nat} {Q : State → Prop}
variable {cc : ByteArray} {pc : Nat} {ls : Array Slot} {rest : List Value} {D : va_G} {cl : List vw_C} {A : Nat → Prop} {tys : List (ClassId × FieldType)} {H0 : Heap} {n : Nat} {L : Nat → Nat} {w w' : Nat → va_E}
theorem wx_get (hexec : p.tables.exec = Jvm.exec) (hb : c.code = cc) {own ref C : String} {T : u_T} {N ci index : Nat} {Ts : List Cond} (hts : ∀ w ∈ Ts, w.before args s = true) (hin : ∀ w ∈ u_ws C T N, w ∈ Ts) (hown : s.vm.findClass own = some m.cls) (hK : va_K D cl tys s) (hP : va_P D cl (wl n L w) H) (sl : Nat) (hsl : sl < n) {fs : List Value} (he : w sl = .inr (ci, fs)) (hc : cl[ci]? = some (C, T, N)) (k : Nat) (hk : k < N) (hlink : (Cond.fieldLink own index ref (T k).2.1 (T k).2.2.1).before args s = true) (hsame : ∀ x, s.fieldFound? (T k).1 (T k).2.1 (T k).2.2.1 = some x → s.fieldFound? ref (T k).2.1 (T k).2.2.1 = some x) {v : Value} (hv : fs[k]? = some v) (hdg : decode cc pc = .ok (.getfield index, 3))
    (kk : W p l e R s m args below meth c H locs cells slots Q (F0 m (pc + 3) ls (v :: rest))) : W p l e R s m args below meth c H locs cells slots Q (F0 m pc ls (.ref (L sl) :: rest)) :=
  va_get hexec hb hts hin hown hK hP sl (wl_get hsl he) hc k hk hlink hsame hv hdg kk
theorem wx_put (hexec : p.tables.exec = Jvm.exec) (hb : c.code = cc) {own ref C : String} {T : u_T} {N ci index : Nat} {Ts : List Cond} (hts : ∀ w ∈ Ts, w.before args s = true) (hin : ∀ w ∈ u_ws C T N, w ∈ Ts) (ty0 : Nat → FieldType) (hty : ∀ k, k < N → parseFieldDescriptor (T k).2.2.1 = some (ty0 k)) (hnm : ∀ a, a < N → ∀ b, b < N → a ≠ b → (T a).2.1 ≠ (T b).2.1) (hown : s.vm.findClass own = some m.cls) (hK : va_K D cl tys s) (hP : va_P D cl (wl n L w) H) (hJ : wj n L A) (hS0 : va_S A H0 H locs) (sl : Nat) (hsl : sl < n) {fs : List Value} (he : w sl = .inr (ci, fs)) (hc : cl[ci]? = some (C, T, N)) (k : Nat) (hk : k < N) (hlink : (Cond.fieldLink own index ref (T k).2.1 (T k).2.2.1).before args s = true) (hsame : ∀ x, s.fieldFound? (T k).1 (T k).2.1 (T k).2.2.1 = some x → s.fieldFound? ref (T k).2.1 (T k).2.2.1 = some x) (hfin : (T k).2.2.2 = false) {ty : FieldType} {v : Value} (hd : parseFieldDescriptor (T k).2.2.1 = some ty) (hn : narrow ty v = v) (hfit : fits ty v = true) (hl : k < fs.length)
    (hdg : decode cc pc = .ok (.putfield index, 3)) (hw : va_up w sl (.inr (ci, fs.set k v)) = w') (kk : ∀ (H1 : Heap) (locs1 : List Loc), va_P D cl (wl n L w') H1 → va_S A H0 H1 locs1 → W p l e R s m args below meth c H1 locs1 cells slots Q (F0 m (pc + 3) ls rest)) : W p l e R s m args below meth c H locs cells slots Q (F0 m pc ls (v :: .ref (L sl) :: rest)) :=
  va_put hexec hb hts hin ty0 hty hnm hown hK hP (wl_D w hJ) hS0 sl (wl_get hsl he) hc k hk hlink hsame hfin hd hn hfit hl hdg (fun H1 locs1 h1 _ h3 => kk H1 locs1 (by rw [wl_set, hw] at h1; exact h1) h3)
theorem wx_iald (hexec : p.tables.exec = Jvm.exec) (hb : c.code = cc) (hK : va_K D cl tys s) (hP : va_P D cl (wl n L w) H) (sl t0 : Nat) (hsl : sl < n) {cA : ClassId} {N : Nat} {f : Nat → Int32} (he : w sl = .inl (cA, N, .inl f)) (ht : tys[t0]? = some (cA, .int)) {i : Int32} (hin : vp_in i N) (hdg : decode cc pc = .ok (.iaload, 1))
    (kk : W p l e R s m args below meth c H locs cells slots Q (F0 m (pc + 1) ls (.int (f i.toNatClampNeg) :: rest))) : W p l e R s m args below meth c H locs cells slots Q (F0 m pc ls (.int i :: .ref (L sl) :: rest)) :=
  va_iald hexec hb hK hP sl t0 (wl_get hsl he) ht hin hdg kk
theorem wx_iast (hexec : p.tables.exec = Jvm.exec) (hb : c.code = cc) (hK : va_K D cl tys s) (hP : va_P D cl (wl n L w) H) (hJ : wj n L A) (hS : va_S A H0 H locs) (sl t0 : Nat) (hsl : sl < n) {cA : ClassId} {N : Nat} {f : Nat → Int32} (he : w sl = .inl (cA, N, .inl f)) (ht : tys[t0]? = some (cA, .int)) {i : Int32} {x : Int32} (hin : vp_in i N) (hdg : decode cc pc = .ok (.iastore, 1)) (hw : va_up w sl (.inl (cA, N, .inl (upd f i.toNatClampNeg x))) = w')
    (kk : ∀ (H1 : Heap) (locs1 : List Loc), va_P D cl (wl n L w') H1 → va_S A H0 H1 locs1 → W p l e R s m args below meth c H1 locs1 cells slots Q (F0 m (pc + 1) ls rest)) : W p l e R s m args below meth c H locs cells slots Q (F0 m pc ls (.int x :: .int i :: .ref (L sl) :: rest)) :=
  va_iast hexec hb hK hP (wl_D w hJ) hS sl t0 (wl_get hsl he) ht hin hdg (fun H1 locs1 h1 _ h3 => kk H1 locs1 (by rw [wl_set, hw] at h1; exact h1) h3)
theorem wx_aald (hexec : p.tables.exec = Jvm.exec) (hb : c.code = cc) (hK : va_K D cl tys s) (hP : va_P D cl (wl n L w) H) (sl t0 : Nat) (hsl : sl < n) {cA : ClassId} {C : String} {N : Nat} {f : Nat → Option Nat} (he : w sl = .inl (cA, N, .inr (.inr (.inr (.inr f))))) (ht : tys[t0]? = some (cA, .object C)) {i : Int32} (hin : vp_in i N) {a : Nat} (hv : f i.toNatClampNeg = some a) (hdg : decode cc pc = .ok (.aaload, 1))
    (kk : W p l e R s m args below meth c H locs cells slots Q (F0 m (pc + 1) ls (.ref a :: rest))) : W p l e R s m args below meth c H locs cells slots Q (F0 m pc ls (.int i :: .ref (L sl) :: rest)) :=
  va_aldq hexec hb hK hP sl t0 (wl_get hsl he) ht hin hdg (by rw [hv]; exact kk)
/-- what else a method's start gives: nest links, casts, texts, two statics of Throwable -/
def isNG : Cond → Bool
  | .fieldLinkNest .. => true
  | .methodLinkNest .. => true
  | .castable .. => true
  | .declares .. => true
  | .arrayOver (.object _) => true
  | .classLink c _ _ => c == "FerroDeskLaw"
  | _ => false
def ngw : List Cond := tables_1.filter isNG
theorem ng_warm {w : Cond} {s U : State} (hg : isNG w = true) (hW : s.WarmedH U.vm) (h : va_Nw w s) : va_Nw w U := by
  cases w <;> first | exact va_Nw.warmF hW h | exact va_Nw.warmM hW h | exact va_Nw.warmC hW h | exact va_Nw.warmD hW h | exact word_at hW (good_of_word rfl) h | cases hg | (rename_i t; cases t <;> first | exact va_AO.moved hW.alike h | cases hg)
def NCS : List (String × String) := [("java/lang/ArithmeticException", "java/lang/IllegalArgumentException"), ("java/lang/ArithmeticException", "java/lang/IllegalStateException"), ("java/lang/ArithmeticException", "java/lang/IndexOutOfBoundsException"), ("java/lang/ArithmeticException", "java/lang/UnsupportedOperationException"), ("java/lang/IllegalArgumentException", "java/lang/ArithmeticException"), ("java/lang/IllegalArgumentException", "java/lang/IllegalStateException"), ("java/lang/IllegalArgumentException", "java/lang/IndexOutOfBoundsException"), ("java/lang/IllegalArgumentException", "java/lang/UnsupportedOperationException"), ("java/lang/IllegalStateException", "java/lang/ArithmeticException"), ("java/lang/IllegalStateException", "java/lang/IllegalArgumentException"), ("java/lang/IllegalStateException", "java/lang/IndexOutOfBoundsException"), ("java/lang/IllegalStateException", "java/lang/UnsupportedOperationException"), ("java/lang/IndexOutOfBoundsException", "java/lang/ArithmeticException"), ("java/lang/IndexOutOfBoundsException", "java/lang/IllegalArgumentException"), ("java/lang/IndexOutOfBoundsException", "java/lang/IllegalStateException"), ("java/lang/IndexOutOfBoundsException", "java/lang/UnsupportedOperationException"), ("java/lang/UnsupportedOperationException", "java/lang/ArithmeticException"), ("java/lang/UnsupportedOperationException", "java/lang/IllegalArgumentException"), ("java/lang/UnsupportedOperationException", "java/lang/IllegalStateException"), ("java/lang/UnsupportedOperationException", "java/lang/IndexOutOfBoundsException")]
abbrev zU : String := "UNASSIGNED_STACK"
abbrev zN : String := "SUPPRESSED_SENTINEL"
def EE (ss : List (String × Nat × String)) (A : Nat → Prop) (U : State) : Prop := (∀ w ∈ ngw, va_Nw w U) ∧ (∀ q ∈ ss, ∃ a, vk_R q.1 q.2.1 q.2.2 a U) ∧ vx_Zq Bundle.tN zU Bundle.steD A U U.heap ∧ vx_Zq Bundle.tN zN Bundle.listD A U U.heap ∧ ∀ q ∈ NCS, va_Nc q.1 q.2 U
theorem EE.next {ss : List (String × Nat × String)} {A : Nat → Prop} {s U : State} {H : Heap} {locs : List Loc} (h : EE ss A s) (hS : va_S A s.heap H locs) (hU : U.heap = H) (hW : s.WarmedH U.vm) : EE ss A U := by
  obtain ⟨h1, h2, h3, h4, h5⟩ := h
  refine ⟨fun w hw => ng_warm (List.mem_filter.mp hw).2 hW (h1 w hw), fun q hq => ?_, ?_, ?_, fun q hq => va_Nc.moved hW.alike (h5 q hq)⟩
  · obtain ⟨a, ha⟩ := h2 q hq
    exact ⟨a, vk_R.warm hW ha⟩
  · rw [hU]; exact vx_Zq.moved hW.alike (h3.kept hS.2.1)
  · rw [hU]; exact vx_Zq.moved hW.alike (h4.kept hS.2.1)
theorem EE.calling {ss : List (String × Nat × String)} {A : Nat → Prop} {U : State} {g : JFrame} {mk : MethodId} {a : Array Value} (h : EE ss A U) : EE ss A (U.calling g mk a) :=
  EE.next (s := U) (U := U.calling g mk a) (H := U.heap) (locs := []) h va_S.rf rfl (State.WarmedH.refl U)
end WXR
