/-! THE LAW'S OWN ROWS: two words of what stands in its rows of one; a double's store -/
section LD1
def oD (g : gE) (f : Nat → UInt64) (v : UInt64) : va_E := .inl (g.2 5, 1, .inr (.inr (.inr (.inl (vf_upd f (0 : Int32).toNatClampNeg v)))))
variable {p : Program} {l : Launch} {e : Env} {R : Room} {s : State} {m : MethodId} {args : Array Value} {below : List Frame} {meth : Method} {c : Code} {H : Heap} {locs : List Loc} {cells slots : Nat} {Q : State → Prop}
variable {cc : ByteArray} {pc : Nat} {ls : Array Slot} {rest : List Value} {D : va_G} {cl : List vw_C} {A : Nat → Prop} {tys : List (ClassId × FieldType)} {H0 : Heap} {n : Nat} {L : Nat → Nat} {w w' : Nat → va_E}
theorem wx_dast (hexec : p.tables.exec = Jvm.exec) (hb : c.code = cc) (hK : va_K D cl tys s) (hP : va_P D cl (wl n L w) H) (hJ : wj n L A) (hS : va_S A H0 H locs) (sl t0 : Nat) (hsl : sl < n) {cA : ClassId} {N : Nat} {f : Nat → UInt64} (he : w sl = .inl (cA, N, .inr (.inr (.inr (.inl f))))) (ht : tys[t0]? = some (cA, .double)) {i : Int32} {x : UInt64} (hin : vp_in i N) (hdg : decode cc pc = .ok (.dastore, 1)) (hw : va_up w sl (.inl (cA, N, .inr (.inr (.inr (.inl (vf_upd f i.toNatClampNeg x)))))) = w')
    (kk : ∀ (H1 : Heap) (locs1 : List Loc), va_P D cl (wl n L w') H1 → va_S A H0 H1 locs1 → W p l e R s m args below meth c H1 locs1 cells slots Q (F0 m (pc + 1) ls rest)) : W p l e R s m args below meth c H locs cells slots Q (F0 m pc ls (.double x :: .int i :: .ref (L sl) :: rest)) :=
  va_dast hexec hb hK hP (wl_D w hJ) hS sl t0 (wl_get hsl he) ht hin hdg (fun H1 locs1 h1 _ h3 => kk H1 locs1 (by rw [wl_set, hw] at h1; exact h1) h3)
theorem wx_dald (hexec : p.tables.exec = Jvm.exec) (hb : c.code = cc) (hK : va_K D cl tys s) (hP : va_P D cl (wl n L w) H) (sl t0 : Nat) (hsl : sl < n) {cA : ClassId} {N : Nat} {f : Nat → UInt64} (he : w sl = .inl (cA, N, .inr (.inr (.inr (.inl f))))) (ht : tys[t0]? = some (cA, .double)) {i : Int32} (hin : vp_in i N) (hdg : decode cc pc = .ok (.daload, 1))
    (kk : W p l e R s m args below meth c H locs cells slots Q (F0 m (pc + 1) ls (.double (f i.toNatClampNeg) :: rest))) : W p l e R s m args below meth c H locs cells slots Q (F0 m pc ls (.int i :: .ref (L sl) :: rest)) :=
  va_dald hexec hb hK hP sl t0 (wl_get hsl he) ht hin hdg kk
theorem cw_rest2 {g : gE} {L : Nat → Nat} {x : St} {r : Nat → va_E} {k : Nat} {e : va_E} (h : 106 ≤ k) : va_up (cw g L x r) k e = cw g L x (va_up r k e) := by
  funext q
  by_cases hq : q = k
  · subst hq
    rw [va_up_self]
    unfold cw
    rw [if_neg (by omega), va_up_self]
  · rw [va_up_ne _ _ hq]
    unfold cw
    rw [va_up_ne _ _ hq]
end LD1
