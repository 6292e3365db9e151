/-! MORE ROWS over n cells: nest mates, throws, answers that are references -/
section VXR9
variable {p : Program} {l : Launch} {e : Env} {R : Room} {s : State} {m : MethodId} {args : Array Value} {below : List Frame} {meth : Method} {c : Code} {H : Heap} {locs : List Loc} {cells slots : Nat} {Q : State → Prop}
variable {mc ms : Nat} {free : Addr → Prop} {A0 A1 : Nat → Prop} {H0 : Heap} {a : Array Value} {pc : Nat} {ls : Array Slot} {st0 rest : List Value}
theorem vx_callr9 {S SX : Type} {post : S → Prop} {px : SX → Prop} {B : S → Nat → State → Prop} {BX : String → SX → State → Prop} {AX : Nat → Prop} (hr : vx_Run p l e R s m args below meth c H locs cells slots mc ms (F0 m pc ls st0) rest (va_Qr post B A1 a) (vx_X px BX AX) free) (hS : va_S A0 H0 H locs) (hA : ∀ q, q < H.size → A1 q → A0 q) (hf : ∀ q, free q → A0 q) (hAX : ∀ q, q < H.size → AX q → A0 q)
    (kx : ∀ (E : String) (ce : Cell) (q9 : Addr) (u : SX) (t : State) (H1 : Heap) (locs1 : List Loc), t.heap = H1 → s.vm.Alike t.vm → px u → BX E u t → H.size ≤ H1.size → (∀ q : Nat, q < H.size → ¬ AX q → H1[q]? = H[q]?) → va_S A0 H0 H1 locs1 → H1[q9]? = some ce → ce.vm = .none → s.vm.findClass E = some ce.cls → vx_W p l e R s m args below meth c H1 locs1 (cells + mc) (slots + ms) Q (F0 m pc ls rest) q9)
    (kk : ∀ (u : S) (ra : Nat) (t : State) (H1 : Heap) (locs1 : List Loc), t.heap = H1 → s.vm.Alike t.vm → post u → B u ra t → H.size ≤ H1.size → (∀ q : Nat, q < H.size → ¬ A1 q → H1[q]? = H[q]?) → va_S A0 H0 H1 locs1 → W p l e R s m args below meth c H1 locs1 (cells + mc) (slots + ms) Q (F0 m (pc + 3) ls (.ref ra :: rest))) : W p l e R s m args below meth c H locs cells slots Q (F0 m pc ls st0) := by
  intro T hT X
  rcases hr T hT X with ⟨v, st₀, t, T', L, h0, X', hL, e1, e2, ⟨⟨u, ra, hv, hp, hb⟩, hF⟩, st⟩ | ⟨q, st₀, t, T', L, E, ce, h0, X', hL, e1, e2, ⟨u, hp, hb, hF⟩, hce, hcv, hcl, st⟩
  · cases hv
    obtain ⟨k1, k2, k3⟩ := vx_keep h0 e1 hS hA hf hL hF
    obtain ⟨t2, a1, b1⟩ := kk u ra t T'.heap (locs ++ L) e1.symm (by rw [← e2]; exact X'.warmed.alike) hp hb k1 k2 k3 T' rfl X'
    exact ⟨t2, st t2 a1, b1⟩
  · obtain ⟨k1, k2, k3⟩ := vx_keep h0 e1 hS hAX hf hL hF
    obtain ⟨t2, a1, b1⟩ := kx E ce q u t T'.heap (locs ++ L) e1.symm (by rw [← e2]; exact X'.warmed.alike) hp hb k1 k2 k3 (by rw [e1]; exact hce) hcv hcl T' rfl X'
    exact ⟨t2, st.trans a1, b1⟩
variable {ss : List (String × Nat × String)} {g : gE} {base n : Nat} {L : Nat → Nat} {w w' : Nat → va_E}
abbrev BR (g : gE) (n : Nat) (L : Nat → Nat) {S : Type} (G : S → Nat) (F : S → Nat → va_E) : S → Nat → State → Prop := fun u ra t => ra = L (G u) ∧ PB g n L (F u) t
theorem wx_xcallr {S : Type} {post : S → Prop} {F : S → Nat → va_E} {G : S → Nat} {px : String → Prop} (hr : vx_Run p l e R s m args below meth c H locs cells slots mc ms (F0 m pc ls st0) rest (va_Qr post (BR g n L G F) (fun q => base ≤ q) a) (QX g base n L w px) (fun q => base ≤ q)) (hS : va_S (fun q => base ≤ q) H0 H locs)
    (kx : ∀ (E : String) (ce : Cell) (q9 : Addr) (H1 : Heap) (locs1 : List Loc), px E → va_P g.1 vwCl (wl n L w) H1 → va_S (fun q => base ≤ q) H0 H1 locs1 → H1[q9]? = some ce → ce.vm = .none → s.vm.findClass E = some ce.cls → vx_W p l e R s m args below meth c H1 locs1 (cells + mc) (slots + ms) Q (F0 m pc ls rest) q9)
    (kk : ∀ (u : S) (H1 : Heap) (locs1 : List Loc), post u → va_P g.1 vwCl (wl n L (F u)) H1 → va_S (fun q => base ≤ q) H0 H1 locs1 → W p l e R s m args below meth c H1 locs1 (cells + mc) (slots + ms) Q (F0 m (pc + 3) ls (.ref (L (G u)) :: rest))) : W p l e R s m args below meth c H locs cells slots Q (F0 m pc ls st0) :=
  vx_callr9 hr hS (fun _ _ h => h) (fun _ h => h) (fun _ _ h => h) (fun E ce q9 u _ H1 locs1 ht _ hp hB _ _ hS1 h1 h2 h3 => kx E ce q9 H1 locs1 (by rw [hB.1]; exact hp) (PB.at hB.2 ht) hS1 h1 h2 h3) (fun u ra _ H1 locs1 ht _ hp hB _ _ hS1 => by obtain ⟨rfl, hB⟩ := hB; exact kk u H1 locs1 hp (PB.at hB ht) hS1)
/-- thrown through: the caller's exception is ours -/
theorem wx_out {pc : Nat} {E : String} {ce : Cell} {q : Addr} {px : String → Prop} {Qc : Array Value → State → Outcome → State → Prop} (hno : ∀ x ∈ c.exceptionTable.toList, False) (hlocks : meth.locks = false) (hcell : H[q]? = some ce) (hv : ce.vm = .none) (hcl : s.vm.findClass E = some ce.cls)
    (hpx : px E) (hP : va_P g.1 vwCl (wl n L w) H) (hS : va_S (fun q => base ≤ q) s.heap H locs) (hc : cells ≤ mc) (hs : slots ≤ ms) :
    vx_W p l e R s m args below meth c H locs cells slots (vx_MQ below Qc (QX g base n L w px) args s mc ms (fun q => base ≤ q)) (F0 m pc ls rest) q :=
  vx_out (fun x hx => (hno x hx).elim) hlocks hcell hv hcl (fun t ht _ => ⟨E, hpx, ⟨rfl, by unfold PB; rw [ht]; exact hP⟩, hS.F ht⟩) hS.2.2 hc hs
end VXR9
section WXN
variable {p : Program} {l : Launch} {e : Env} {R : Room} {s : State} {m : MethodId} {args : Array Value} {below : List Frame} {meth : Method} {c : Code} {H : Heap} {locs : List Loc} {cells slots : Nat} {Q : State → Prop}
variable {cc : ByteArray} {pc : Nat} {ls : Array Slot} {rest : List Value} {D : va_G} {cl : List vw_C} {A : Nat → Prop} {tys : List (ClassId × FieldType)} {H0 : Heap} {n : Nat} {L : Nat → Nat} {w w' : Nat → va_E}
theorem wx_getN (hexec : p.tables.exec = Jvm.exec) (hb : c.code = cc) {own ref C host : String} {T : u_T} {N ci index : Nat} {Ts : List Cond} (hts : ∀ w ∈ Ts, w.before args s = true) (hin : ∀ w ∈ u_ws C T N, w ∈ Ts) (hown : s.vm.findClass own = some m.cls) (hK : va_K D cl tys s) (hP : va_P D cl (wl n L w) H) (sl : Nat) (hsl : sl < n) {fs : List Value} (he : w sl = .inr (ci, fs)) (hc : cl[ci]? = some (C, T, N)) (k : Nat) (hk : k < N) (hlink : va_Nw (.fieldLinkNest own index ref (T k).2.1 (T k).2.2.1 host) s) (hsame : ∀ x, s.fieldFound? (T k).1 (T k).2.1 (T k).2.2.1 = some x → s.fieldFound? ref (T k).2.1 (T k).2.2.1 = some x) {v : Value} (hv : fs[k]? = some v) (hdg : decode cc pc = .ok (.getfield index, 3))
    (kk : W p l e R s m args below meth c H locs cells slots Q (F0 m (pc + 3) ls (v :: rest))) : W p l e R s m args below meth c H locs cells slots Q (F0 m pc ls (.ref (L sl) :: rest)) :=
  va_getN hexec hb hts hin hown hK hP sl (wl_get hsl he) hc k hk (va_Nw.use rfl hlink) hsame hv hdg kk
theorem wx_putN (hexec : p.tables.exec = Jvm.exec) (hb : c.code = cc) {own ref C host : String} {T : u_T} {N ci index : Nat} {Ts : List Cond} (hts : ∀ w ∈ Ts, w.before args s = true) (hin : ∀ w ∈ u_ws C T N, w ∈ Ts) (ty0 : Nat → FieldType) (hty : ∀ k, k < N → parseFieldDescriptor (T k).2.2.1 = some (ty0 k)) (hnm : ∀ a, a < N → ∀ b, b < N → a ≠ b → (T a).2.1 ≠ (T b).2.1) (hown : s.vm.findClass own = some m.cls) (hK : va_K D cl tys s) (hP : va_P D cl (wl n L w) H) (hJ : wj n L A) (hS0 : va_S A H0 H locs) (sl : Nat) (hsl : sl < n) {fs : List Value} (he : w sl = .inr (ci, fs)) (hc : cl[ci]? = some (C, T, N)) (k : Nat) (hk : k < N) (hlink : va_Nw (.fieldLinkNest own index ref (T k).2.1 (T k).2.2.1 host) s) (hsame : ∀ x, s.fieldFound? (T k).1 (T k).2.1 (T k).2.2.1 = some x → s.fieldFound? ref (T k).2.1 (T k).2.2.1 = some x) (hfin : (T k).2.2.2 = false) {ty : FieldType} {v : Value} (hd : parseFieldDescriptor (T k).2.2.1 = some ty) (hn : narrow ty v = v) (hfit : fits ty v = true) (hl : k < fs.length)
    (hdg : decode cc pc = .ok (.putfield index, 3)) (hw : va_up w sl (.inr (ci, fs.set k v)) = w') (kk : ∀ (H1 : Heap) (locs1 : List Loc), va_P D cl (wl n L w') H1 → va_S A H0 H1 locs1 → W p l e R s m args below meth c H1 locs1 cells slots Q (F0 m (pc + 3) ls rest)) : W p l e R s m args below meth c H locs cells slots Q (F0 m pc ls (v :: .ref (L sl) :: rest)) :=
  va_putN hexec hb hts hin ty0 hty hnm hown hK hP (wl_D w hJ) hS0 sl (wl_get hsl he) hc k hk (va_Nw.use rfl hlink) hsame hfin hd hn hfit hl hdg (fun H1 locs1 h1 _ h3 => kk H1 locs1 (by rw [wl_set, hw] at h1; exact h1) h3)
theorem wx_aast (hexec : p.tables.exec = Jvm.exec) (hb : c.code = cc) (hK : va_K D cl tys s) (hP : va_P D cl (wl n L w) H) (hJ : wj n L A) (hS : va_S A H0 H locs) (sl t0 sv ci : Nat) (hsl : sl < n) (hsv : sv < n) {cA : ClassId} {r : vw_C} {N : Nat} {vs : List Value} {f : Nat → Option Nat} (he : w sl = .inl (cA, N, .inr (.inr (.inr (.inr f))))) (ht : tys[t0]? = some (cA, .object r.1)) (hv : w sv = .inr (ci, vs)) (hc : cl[ci]? = some r) {i : Int32} (hin : vp_in i N) (hdg : decode cc pc = .ok (.aastore, 1)) (hw : va_up w sl (.inl (cA, N, .inr (.inr (.inr (.inr (va_up f i.toNatClampNeg (some (L sv)))))))) = w')
    (kk : ∀ (H1 : Heap) (locs1 : List Loc), va_P D cl (wl n L w') H1 → va_S A H0 H1 locs1 → W p l e R s m args below meth c H1 locs1 cells slots Q (F0 m (pc + 1) ls rest)) : W p l e R s m args below meth c H locs cells slots Q (F0 m pc ls (.ref (L sv) :: .int i :: .ref (L sl) :: rest)) :=
  va_astq hexec hb hK hP (wl_D w hJ) hS sl t0 sv ci (wl_get hsl he) ht (wl_get hsv hv) hc hin hdg (fun H1 locs1 h1 _ h3 => kk H1 locs1 (by rw [wl_set, hw] at h1; exact h1) h3)
theorem wx_zald (hexec : p.tables.exec = Jvm.exec) (hb : c.code = cc) (hK : va_K D cl tys s) (hP : va_P D cl (wl n L w) H) (sl t0 : Nat) (hsl : sl < n) {cA : ClassId} {N : Nat} {f : Nat → Int32} (he : w sl = .inl (cA, N, .inl f)) (ht : tys[t0]? = some (cA, .boolean)) {i : Int32} (hin : vp_in i N) (hdg : decode cc pc = .ok (.baload, 1))
    (kk : W p l e R s m args below meth c H locs cells slots Q (F0 m (pc + 1) ls (.int (f i.toNatClampNeg) :: rest))) : W p l e R s m args below meth c H locs cells slots Q (F0 m pc ls (.int i :: .ref (L sl) :: rest)) :=
  va_zald hexec hb hK hP sl t0 (wl_get hsl he) ht hin hdg kk
theorem wx_zast (hexec : p.tables.exec = Jvm.exec) (hb : c.code = cc) (hK : va_K D cl tys s) (hP : va_P D cl (wl n L w) H) (hJ : wj n L A) (hS : va_S A H0 H locs) (sl t0 : Nat) (hsl : sl < n) {cA : ClassId} {N : Nat} {f : Nat → Int32} (he : w sl = .inl (cA, N, .inl f)) (ht : tys[t0]? = some (cA, .boolean)) {i : Int32} {x : Int32} (hin : vp_in i N) (hx : vp_nar .boolean x = x) (hdg : decode cc pc = .ok (.bastore, 1)) (hw : va_up w sl (.inl (cA, N, .inl (upd f i.toNatClampNeg x))) = w')
    (kk : ∀ (H1 : Heap) (locs1 : List Loc), va_P D cl (wl n L w') H1 → va_S A H0 H1 locs1 → W p l e R s m args below meth c H1 locs1 cells slots Q (F0 m (pc + 1) ls rest)) : W p l e R s m args below meth c H locs cells slots Q (F0 m pc ls (.int x :: .int i :: .ref (L sl) :: rest)) :=
  va_zast hexec hb hK hP (wl_D w hJ) hS sl t0 (wl_get hsl he) ht hin hdg (fun H1 locs1 h1 _ h3 => kk H1 locs1 (by rw [wl_set, hx, hw] at h1; exact h1) h3)
theorem wx_last (hexec : p.tables.exec = Jvm.exec) (hb : c.code = cc) (hK : va_K D cl tys s) (hP : va_P D cl (wl n L w) H) (hJ : wj n L A) (hS : va_S A H0 H locs) (sl t0 : Nat) (hsl : sl < n) {cA : ClassId} {N : Nat} {f : Nat → Int64} (he : w sl = .inl (cA, N, .inr (.inl f))) (ht : tys[t0]? = some (cA, .long)) {i : Int32} {x : Int64} (hin : vp_in i N) (hdg : decode cc pc = .ok (.lastore, 1)) (hw : va_up w sl (.inl (cA, N, .inr (.inl (vp_updL f i.toNatClampNeg x)))) = w')
    (kk : ∀ (H1 : Heap) (locs1 : List Loc), va_P D cl (wl n L w') H1 → va_S A H0 H1 locs1 → W p l e R s m args below meth c H1 locs1 cells slots Q (F0 m (pc + 1) ls rest)) : W p l e R s m args below meth c H locs cells slots Q (F0 m pc ls (.long x :: .int i :: .ref (L sl) :: rest)) :=
  va_last hexec hb hK hP (wl_D w hJ) hS sl t0 (wl_get hsl he) ht hin hdg (fun H1 locs1 h1 _ h3 => kk H1 locs1 (by rw [wl_set, hw] at h1; exact h1) h3)
theorem wx_lald (hexec : p.tables.exec = Jvm.exec) (hb : c.code = cc) (hK : va_K D cl tys s) (hP : va_P D cl (wl n L w) H) (sl t0 : Nat) (hsl : sl < n) {cA : ClassId} {N : Nat} {f : Nat → Int64} (he : w sl = .inl (cA, N, .inr (.inl f))) (ht : tys[t0]? = some (cA, .long)) {i : Int32} (hin : vp_in i N) (hdg : decode cc pc = .ok (.laload, 1))
    (kk : W p l e R s m args below meth c H locs cells slots Q (F0 m (pc + 1) ls (.long (f i.toNatClampNeg) :: rest))) : W p l e R s m args below meth c H locs cells slots Q (F0 m pc ls (.int i :: .ref (L sl) :: rest)) :=
  va_lald hexec hb hK hP sl t0 (wl_get hsl he) ht hin hdg kk
end WXN
section WXT
variable {p : Program} {l : Launch} {e : Env} {R : Room} {s : State} {m : MethodId} {args : Array Value} {below : List Frame} {meth : Method} {c : Code} {H : Heap} {locs : List Loc} {cells slots : Nat}
variable {Qc : Array Value → State → Outcome → State → Prop} {ls : Array Slot} {rest : List Value} {ss : List (String × Nat × String)} {g : gE} {base n : Nat} {L : Nat → Nat} {w w0 : Nat → va_E} {px : String → Prop}
theorem wx_throwS {cc : ByteArray} {pc : Nat} (hexec : p.tables.exec = Jvm.exec) (hb : c.code = cc) (hl : l.stackTraces = false) {own cls text : String} {names : List String} {ik is ic mc ms : Nat} (h0 : PW ss g base n L w0 s)
    (hown : s.vm.findClass own = some m.cls) (hcls : Bundle.fit cls = true) (hnames : ∀ n ∈ names, Bundle.fit n = true)
    (hk : (Cond.classLink own ik cls).before args s = true) (hini : (Cond.initialized cls).before args s = true) (hstr : (own, is, text) ∈ ss) (hat1 : ∀ w ∈ (vx_atS own ic cls names).filter goodWord, w.before args s = true) (hat2 : ∀ w ∈ (vx_atS own ic cls names).filter (fun w => !goodWord w), w ∈ ngw ∧ w.onTables = true)
    (hgood : ∀ w ∈ Cond.classLink own ik cls :: Cond.initialized cls :: vx_atS own ic cls names, vx_ot w = true)
    (hP : va_P g.1 vwCl (wl n L w) H) (hS : va_S (fun q => base ≤ q) s.heap H locs) (hsize : ls.size = c.maxLocals)
    (d0 : decode cc pc = .ok (.new ik, 3)) (d3 : decode cc (pc + 3) = .ok (.dup, 1)) (d4 : decode cc (pc + 4) = .ok (.ldc is, 2)) (d6 : decode cc (pc + 6) = .ok (.invokespecial ic, 3)) (d9 : decode cc (pc + 9) = .ok (.athrow, 1))
    (hno : ∀ x ∈ c.exceptionTable.toList, False)
    (hRframes : names.length + 3 < R.frames) (hRlocals : (rest.map fun v => v.category).sum + (13 * (names.length + 1) + 43) ≤ R.locals) (hRcells : cells + 1 ≤ R.cells) (hRslots : slots + 6 ≤ R.slots) (hlocks : meth.locks = false)
    (hpx : px cls) (hc : cells + 1 ≤ mc) (hs : slots + 6 ≤ ms) :
    W p l e R s m args below meth c H locs cells slots (vx_MQ below Qc (QX g base n L w px) args s mc ms (fun q => base ≤ q)) (F0 m pc ls rest) := by
  obtain ⟨sa, ha⟩ := h0.2.2.2.2.2.1 _ hstr
  refine vx_throwS (A := fun q => base ≤ q) hexec hb hl hown hcls hnames hk hini ha (vx_hat hat1 (B := ngw.filter (fun w => w.onTables)) (fun w hw => List.mem_filter.mpr (hat2 w hw)) (fun w hw => va_Nw.use (List.mem_filter.mp hw).2 (h0.2.2.2.2.1 w (List.mem_filter.mp hw).1))) hgood h0.2.2.2.2.2.2.1 h0.2.2.2.2.2.2.2.1 hS hsize d0 d3 d4 d6 d9 (fun x hx => (hno x hx).elim) hRframes hRlocals hRcells hRslots hlocks (fun t hv hz hk9 => ?_) hS.2.2 hc hs
  refine ⟨cls, hpx, ⟨rfl, hP.kept (fun k q hq => hk9 q.1 (hP k q hq).lt)⟩, Nat.le_trans hS.1 hz, fun q h1 h2 => ?_⟩
  rw [hk9 q (Nat.lt_of_lt_of_le h1 hS.1)]
  exact hS.2.1 q h1 h2
theorem wx_throwSW {cc : ByteArray} {pc : Nat} (hexec : p.tables.exec = Jvm.exec) (hb : c.code = cc) (hl : l.stackTraces = false) {own cls text : String} {names : List String} {ik is ic mc ms : Nat} (h0 : PW ss g base n L w0 s)
    (hown : s.vm.findClass own = some m.cls) (hcls : Bundle.fit cls = true) (hnames : ∀ n ∈ names, Bundle.fit n = true)
    (hk : (Cond.classLink own ik cls).before args s = true) (hini : (Cond.initialized cls).before args s = true) (hstr : (own, is, text) ∈ ss) (hat1 : ∀ w ∈ (vx_atS own ic cls names).filter goodWord, w.before args s = true) (hat2 : ∀ w ∈ (vx_atS own ic cls names).filter (fun w => !goodWord w), w ∈ ngw ∧ w.onTables = true)
    (hgood : ∀ w ∈ Cond.classLink own ik cls :: Cond.initialized cls :: vx_atS own ic cls names, vx_ot w = true)
    (hP : va_P g.1 vwCl (wl n L w) H) (hS : va_S (fun q => base ≤ q) s.heap H locs) (hsize : ls.size = c.maxLocals)
    (d0 : decode cc pc = .ok (.new ik, 3)) (d3 : decode cc (pc + 3) = .ok (.dup, 1)) (d4 : decode cc (pc + 4) = .ok (.ldc_w is, 3)) (d6 : decode cc (pc + 7) = .ok (.invokespecial ic, 3)) (d9 : decode cc (pc + 10) = .ok (.athrow, 1))
    (hno : ∀ x ∈ c.exceptionTable.toList, False)
    (hRframes : names.length + 3 < R.frames) (hRlocals : (rest.map fun v => v.category).sum + (13 * (names.length + 1) + 43) ≤ R.locals) (hRcells : cells + 1 ≤ R.cells) (hRslots : slots + 6 ≤ R.slots) (hlocks : meth.locks = false)
    (hpx : px cls) (hc : cells + 1 ≤ mc) (hs : slots + 6 ≤ ms) :
    W p l e R s m args below meth c H locs cells slots (vx_MQ below Qc (QX g base n L w px) args s mc ms (fun q => base ≤ q)) (F0 m pc ls rest) := by
  obtain ⟨sa, ha⟩ := h0.2.2.2.2.2.1 _ hstr
  refine vx_throwSW (A := fun q => base ≤ q) hexec hb hl hown hcls hnames hk hini ha (vx_hat hat1 (B := ngw.filter (fun w => w.onTables)) (fun w hw => List.mem_filter.mpr (hat2 w hw)) (fun w hw => va_Nw.use (List.mem_filter.mp hw).2 (h0.2.2.2.2.1 w (List.mem_filter.mp hw).1))) hgood h0.2.2.2.2.2.2.1 h0.2.2.2.2.2.2.2.1 hS hsize d0 d3 d4 d6 d9 (fun x hx => (hno x hx).elim) hRframes hRlocals hRcells hRslots hlocks (fun t hv hz hk9 => ?_) hS.2.2 hc hs
  refine ⟨cls, hpx, ⟨rfl, hP.kept (fun k q hq => hk9 q.1 (hP k q hq).lt)⟩, Nat.le_trans hS.1 hz, fun q h1 h2 => ?_⟩
  rw [hk9 q (Nat.lt_of_lt_of_le h1 hS.1)]
  exact hS.2.1 q h1 h2
end WXT
