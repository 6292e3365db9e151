/-! ===== BEGIN words of one list among another's, by their places ===== -/
theorem goodIn_r {big : List Cond} (ws : List Cond) (ps : List Nat) (hp : ws = ps.filterMap (fun i => big[i]?)) (h : ws.all goodWord = true) : GoodIn big ws := by
  intro w hw
  have h1 := List.all_eq_true.mp h w hw
  rw [hp] at hw
  obtain ⟨i, -, hi⟩ := List.mem_filterMap.mp hw
  have hm : w ∈ big := by first | exact List.mem_of_getElem? hi | exact List.getElem?_mem hi
  exact ⟨hm, good_of_word h1⟩
theorem goodIn_app {big a b : List Cond} (ha : GoodIn big a) (hb : GoodIn big b) : GoodIn big (a ++ b) := fun w h => (List.mem_append.mp h).elim (ha w) (hb w)
theorem goodIn_ca {big a b : List Cond} {c : Cond} (ha : GoodIn big (c :: a)) (hb : GoodIn big b) : GoodIn big (c :: (a ++ b)) := fun w h => (List.mem_cons.mp h).elim (fun e => ha w (List.mem_cons.mpr (Or.inl e))) (fun h => (List.mem_append.mp h).elim (fun h => ha w (List.mem_cons.mpr (Or.inr h))) (hb w))
theorem goodIn_sub {big ws : List Cond} (hm : ∀ w ∈ ws, w ∈ big) (h : ws.all goodWord = true) : GoodIn big ws := fun w hw => ⟨hm w hw, good_of_word (List.all_eq_true.mp h w hw)⟩
/-! ===== END ===== -/

/-! ===== BEGIN exceptions that leave a method, and their catching by the caller (launches without stack traces) ===== -/
section VXA
/-! The laws vx_back, vx_callV, vx_callS, vx_callSW, vx_throw0, vx_throwS follow proofs of the library, with one case more: JvmDerived/Free/Laws.lean (Back.of_free), Shelf42/LK1.lean (callV, callS), Shelf/KitTraced.lean (throwNew0V, throwNewS). -/
/-- where a method has thrown q: the class by its name, the cell, what was written, the world -/
def vx_T (XC : String → State → State → Prop) (st : State) (q : Addr) (t : State) (mc ms : Nat) (free : Addr → Prop) : Prop :=
  ∃ (E : String) (ce : Cell) (L : List Loc), XC E st t ∧ t.heap[q]? = some ce ∧ ce.vm = .none ∧ st.vm.findClass E = some ce.cls ∧ st.WarmedH t.vm ∧ st.sameButNew ({ t with vm := st.vm } : State) L mc ms ∧ ∀ z ∈ L, free z.base
def vx_Q (Qc : Array Value → State → Outcome → State → Prop) (XC : String → State → State → Prop) (mc ms : Nat) (free : Addr → Prop) : Array Value → State → Outcome → State → Prop := fun a st o t =>
  (Qc a st o t ∧ ∃ L, FrameEnd st o t L mc ms ∧ ∀ q ∈ L, free q.base) ∨ ∃ q, o = .threw q ∧ vx_T XC st q t mc ms free
/-- a callee that returns or throws -/
def vx_Met (l : Launch) (y : MethodName) (ws : List Cond) (rm : Room) (Pc : Array Value → State → Prop) (Qc : Array Value → State → Outcome → State → Prop) (XC : String → State → State → Prop) (mc ms : Nat) (free : Addr → Prop) : Prop :=
  MetFree l y (headSpec ws rm) Pc (fun _ _ _ _ _ => True) (vx_Q Qc XC mc ms free)
def vx_Post (XC : String → State → State → Prop) (mc ms : Nat) (free : Addr → Prop) : Pt → Array Value → Addr → Pt → Prop := fun A a q B =>
  ∃ (g : JFrame) (mk : MethodId) (t : State) (L : List Loc) (E : String) (ce : Cell), B.U.heap = t.heap ∧ B.U.vm = t.vm ∧ XC E (A.U.calling g mk a) t ∧ t.heap[q]? = some ce ∧ ce.vm = .none ∧ A.U.vm.findClass E = some ce.cls ∧ B.locs = A.locs ++ L ∧ (∀ z ∈ L, free z.base) ∧ B.cells = A.cells + mc ∧ B.slots = A.slots + ms
def vx_Back (l : Launch) (R : Room) (p : Program) (e : Env) (below : List Frame) (s : State) (sargs : Array Value) (y : MethodName) (len W9 : Nat)
    (Pre : Pt → Array Value → Prop) (Post : Pt → Array Value → Option Value → Pt → Prop) (PostX : Pt → Array Value → Addr → Pt → Prop) : Prop :=
  ∀ (m : MethodId) (meth : Method) (c : Code) (A : Pt) (g : JFrame) (ig : Instr) (mk : MethodId) (a : Array Value),
    Stand p l e R s m sargs below meth c A.U A.locs A.cells A.slots → g.method = m → g.locals.size = c.maxLocals → decode c.code g.pc = .ok (ig, len) →
    2 * g.monitorRoom + (g.stack.map fun v => v.category).sum ≤ W9 → A.U.methodNamed? y = some mk → Pre A a →
    (∃ (v : Option Value) (B : Pt), Stand p l e R s m sargs below meth c B.U B.locs B.cells B.slots ∧ Post A a v B ∧
      Steps p.tables e below (doInvoke e (A.U.setTop g) [] mk a).1 (B.U.setTop { g with pc := g.pc + len, stack := v.toList ++ g.stack })) ∨
    (∃ (q : Addr) (B : Pt), Stand p l e R s m sargs below meth c B.U B.locs B.cells B.slots ∧ PostX A a q B ∧
      Steps p.tables e below (doInvoke e (A.U.setTop g) [] mk a).1 ((B.U.setTop g).pushFrame (.throwing q)))
section Payer
variable {l : Launch} {R : Room} {p : Program} {e : Env} {below : List Frame} {s : State} {sargs : Array Value} {y : MethodName} {len W9 : Nat}
theorem vx_back {ws : List Cond} {rm : Room} {Pc : Array Value → State → Prop} {Qc : Array Value → State → Outcome → State → Prop} {XC : String → State → State → Prop} {mc ms : Nat} {free : Addr → Prop} {bytes : ByteArray} {maxL : Nat} {ret : Option FieldType}
    (hM : vx_Met l y ws rm Pc Qc XC mc ms free) (hblind : FrameBlind Pc) (hrc : rm.cells = mc) (hrs : rm.slots = ms)
    (hframes : rm.frames + 1 ≤ R.frames) (hlocals : W9 + (maxL + 11) + rm.locals ≤ R.locals)
    (hws : ∀ w ∈ ws, ∀ a' U, s.WarmedH U.vm → w.before a' U = true) (hcode : Cond.code y bytes maxL ret ∈ ws) (hinit : ∀ a' U, s.WarmedH U.vm → (Cond.initialized y.cls).before a' U = true) :
    vx_Back l R p e below s sargs y len W9 (PreOf R mc ms Pc) (PostOf Qc mc ms free) (vx_Post XC mc ms free) := by
  intro m meth c A g ig mk a X hg hsize hdg hW hn hp
  have h1 : (headSpec ws rm).pre.before a A.U = true := atoms_intro fun w hw => hws w hw _ _ X.warmed
  have h2 : (Cond.code y bytes maxL ret).before a A.U = true := hws _ hcode _ _ X.warmed
  have h3 : (Cond.initialized y.cls).before a A.U = true := hinit _ _ X.warmed
  have h4 : A.cells + (headSpec ws rm).room.cells ≤ R.cells := by rw [show (headSpec ws rm).room.cells = mc from hrc]; exact hp.1
  have h5 : A.slots + (headSpec ws rm).room.slots ≤ R.slots := by rw [show (headSpec ws rm).room.slots = ms from hrs]; exact hp.2.1
  have hPc : Pc a (A.U.calling g mk a) := hblind _ _ _ _ hp.2.2
  obtain ⟨U, Ls, c0, s0⟩ := A
  dsimp only [Pt.U, Pt.locs, Pt.cells, Pt.slots] at h1 h2 h3 h4 h5 X hn hPc ⊢
  obtain ⟨methY, cY, hmY, hcY, -, hlY, -, -, -, -⟩ := Cond.code_spec hn h2
  obtain ⟨kY, hkY, -⟩ := className_of_methodNamed hn
  have hinitY : kY.init = .initialized := Cond.initialized_spec (findClass_of_methodNamed hn) hkY h3
  have h : At U g.method c below := by rw [hg]; exact X.here
  have hlocals9 : W9 + (maxL + 11) + (headSpec ws rm).room.locals ≤ R.locals := hlocals
  have happ : (headSpec ws rm).appliesLoose y e.platform (U.calling g mk a) = true :=
    Spec.appliesLoose_calling (g := g) h hdg hn hkY hinitY
      (X.room_calling (g := g) (R' := (headSpec ws rm).room) hsize hmY hcY hframes (by rw [hlY]; omega) h4 h5) h1
  obtain ⟨mid, hmid⟩ := h.above
  have hfr : (U.setTop g).frames = (.java g :: mid) ++ below := by rw [State.frames_setTop' g h.top, hmid]; rfl
  obtain ⟨o, s₂, hsteps, -, hend, hq⟩ := Steps.callFree hM p X.admits X.cas X.clock (acts := []) hfr happ hPc trivial
  have hq' : vx_Q Qc XC mc ms free a (U.calling g mk a) o s₂ := hq
  rw [State.frames_setTop' g h.top] at hend
  obtain ⟨g₀, hg0⟩ := Option.isSome_iff_exists.mp h.top
  obtain ⟨r, hr⟩ := State.topJava?_eq_some.mp hg0
  have hr' : (({ U with heap := s₂.heap, slotsUsed := s₂.slotsUsed } : State).setVm s₂.vm).frames = .java g₀ :: r := hr
  rcases hq' with ⟨hqc, L, hfe, hL⟩ | ⟨q, rfl, E, ce, L, hx, hce, hcv, hcl, hW₂, hsm, hL⟩
  · obtain ⟨⟨v, rfl⟩, hW₂, e2, q2, q3, q4, q5, q6⟩ := id hfe
    have e3 : s₂ = ({ (U.calling g mk a).setFrames s₂.frames with heap := s₂.heap, slotsUsed := s₂.slotsUsed } : State).setVm s₂.vm := by
      have : s₂ = ({ s₂ with vm := (U.calling g mk a).vm } : State).setVm s₂.vm := rfl
      rw [e2] at this
      exact this
    obtain ⟨c₂, i₂, len₂, hc₂, hd₂, hf₂⟩ := hend
    have hW' : U.WarmedH s₂.vm := hW₂
    have hcc : c₂ = c := by
      have h1 : s₂.code? g.method = U.code? g.method := by
        rw [State.code?_eq, State.code?_eq, hW'.alike.method?]
      exact Option.some.inj (hc₂.symm.trans (h1.trans h.code))
    subst hcc
    have hlen : len₂ = len := by rw [hdg] at hd₂; cases hd₂; rfl
    subst hlen
    have hs₂ : s₂ = (({ U with heap := s₂.heap, slotsUsed := s₂.slotsUsed } : State).setVm s₂.vm).setTop { g with pc := g.pc + len₂, stack := v.toList ++ g.stack } := by
      refine e3.trans ?_
      rw [hf₂, State.calling_eq h.top, State.setFrames_setFrames, State.setTop_of_frames _ hr', hr]
      rfl
    have hsame : U.sameButNew ({ U with heap := s₂.heap, slotsUsed := s₂.slotsUsed } : State) L mc ms := by
      refine ⟨?_, q2, q3, q4, q5, q6⟩
      obtain ⟨t, ht, -⟩ := State.frames_cons hr
      show ({ U with heap := s₂.heap, slotsUsed := s₂.slotsUsed } : State) = { U.setFrames U.frames with heap := s₂.heap, slotsUsed := s₂.slotsUsed }
      rw [State.setFrames_self ht]
    subst hg
    refine Or.inl ⟨v, ⟨(({ U with heap := s₂.heap, slotsUsed := s₂.slotsUsed } : State).setVm s₂.vm), Ls ++ L, c0 + mc, s0 + ms⟩,
      ⟨X.admits, X.cas, X.clock, X.frames, X.room, X.hears, X.method, X.code, (X.here.setHeapUsed s₂.heap s₂.slotsUsed).setVm hW'.alike, X.tail, State.WarmedH.trans X.warmed hW', X.limits, X.bytes, X.same.trans (hsame.setVm s.vm)⟩,
      ⟨g, mk, s₂, L, rfl, rfl, hqc, rfl, hL, rfl, rfl⟩, ?_⟩
    show Steps p.tables e below _ ((({ U with heap := s₂.heap, slotsUsed := s₂.slotsUsed } : State).setVm s₂.vm).setTop { g with pc := g.pc + len₂, stack := v.toList ++ g.stack })
    rw [← hs₂]
    exact hsteps
  · obtain ⟨e2, q2, q3, q4, q5, q6⟩ := id hsm
    have e3 : s₂ = ({ (U.calling g mk a).setFrames s₂.frames with heap := s₂.heap, slotsUsed := s₂.slotsUsed } : State).setVm s₂.vm := by
      have : s₂ = ({ s₂ with vm := (U.calling g mk a).vm } : State).setVm s₂.vm := rfl
      rw [e2] at this
      exact this
    have hf₂ : s₂.frames = .throwing q :: .java g :: U.frames.tail := hend
    have hW' : U.WarmedH s₂.vm := hW₂
    have hs₂ : s₂ = ((({ U with heap := s₂.heap, slotsUsed := s₂.slotsUsed } : State).setVm s₂.vm).setTop g).pushFrame (.throwing q) := by
      refine e3.trans ?_
      rw [hf₂, State.calling_eq h.top, State.setFrames_setFrames, State.pushFrame, State.frames_setTop _ hr', State.setTop_of_frames _ hr', State.setFrames_setFrames, hr]
      rfl
    have hsame : U.sameButNew ({ U with heap := s₂.heap, slotsUsed := s₂.slotsUsed } : State) L mc ms := by
      refine ⟨?_, q2, q3, q4, q5, q6⟩
      obtain ⟨t, ht, -⟩ := State.frames_cons hr
      show ({ U with heap := s₂.heap, slotsUsed := s₂.slotsUsed } : State) = { U.setFrames U.frames with heap := s₂.heap, slotsUsed := s₂.slotsUsed }
      rw [State.setFrames_self ht]
    subst hg
    refine Or.inr ⟨q, ⟨(({ U with heap := s₂.heap, slotsUsed := s₂.slotsUsed } : State).setVm s₂.vm), Ls ++ L, c0 + mc, s0 + ms⟩,
      ⟨X.admits, X.cas, X.clock, X.frames, X.room, X.hears, X.method, X.code, (X.here.setHeapUsed s₂.heap s₂.slotsUsed).setVm hW'.alike, X.tail, State.WarmedH.trans X.warmed hW', X.limits, X.bytes, X.same.trans (hsame.setVm s.vm)⟩,
      ⟨g, mk, s₂, L, E, ce, rfl, rfl, hx, hce, hcv, hcl, rfl, hL, rfl, rfl⟩, ?_⟩
    show Steps p.tables e below _ (((({ U with heap := s₂.heap, slotsUsed := s₂.slotsUsed } : State).setVm s₂.vm).setTop g).pushFrame (.throwing q))
    rw [← hs₂]
    exact hsteps
end Payer
section Calls
variable {p : Program} {l : Launch} {e : Env} {R : Room} {s : State} {m : MethodId} {args : Array Value} {below : List Frame} {meth : Method} {c : Code} {T : State} {locs : List Loc} {cells slots : Nat}
theorem vx_callV (X : Stand p l e R s m args below meth c T locs cells slots) (hexec : p.tables.exec = Jvm.exec) {own C : String} {index : Nat} {y : MethodName} {bytes : ByteArray} {maxL : Nat} {ret : Option FieldType}
    (hown : s.vm.findClass own = some m.cls) (hlink : (Cond.methodLink own index y).before args s = true) (hinst : (Cond.instanceMethod y).before args s = true) (hsel : (Cond.selects C y y).before args s = true)
    (hcode : (Cond.code y bytes maxL ret).before args s = true) (hy : y.cls ≠ "java/lang/invoke/MethodHandle" ∧ y.cls ≠ "java/lang/invoke/VarHandle")
    {W9 : Nat} {Pre : Pt → Array Value → Prop} {Post : Pt → Array Value → Option Value → Pt → Prop} {PostX : Pt → Array Value → Addr → Pt → Prop} (hK : vx_Back l R p e below s args y 3 W9 Pre Post PostX)
    {b : Addr} {cellB : Cell} (hcell : T.heap[b]? = some cellB) (hobj : cellB.vm.isStatics = false) (hcls : s.vm.findClass C = some cellB.cls)
    {g : JFrame} (hg : g.method = m) (hsize : g.locals.size = c.maxLocals) {argsL rest : List Value} (hlen : ∀ sig, parseMethodDescriptor y.desc = some sig → argsL.length = sig.parameters.length)
    (hstack : g.stack = argsL.reverse ++ .ref b :: rest) (hW : 2 * g.monitorRoom + (rest.map fun v => v.category).sum ≤ W9) (hdg : decode c.code g.pc = .ok (.invokevirtual index, 3))
    (hpre : ∀ vm₁, s.WarmedH vm₁ → Pre ⟨T.setVm vm₁, locs, cells, slots⟩ (Value.ref b :: argsL).toArray) :
    (∃ (v : Option Value) (vm₁ : Vm) (B : Pt), s.WarmedH vm₁ ∧ Stand p l e R s m args below meth c B.U B.locs B.cells B.slots ∧ Post ⟨T.setVm vm₁, locs, cells, slots⟩ (Value.ref b :: argsL).toArray v B ∧
      ∀ target, Steps p.tables e below (B.U.setTop { g with pc := g.pc + 3, stack := v.toList ++ rest }) target → Steps p.tables e below (T.setTop g) target) ∨
    (∃ (q : Addr) (vm₁ : Vm) (B : Pt), s.WarmedH vm₁ ∧ Stand p l e R s m args below meth c B.U B.locs B.cells B.slots ∧ PostX ⟨T.setVm vm₁, locs, cells, slots⟩ (Value.ref b :: argsL).toArray q B ∧
      Steps p.tables e below (T.setTop g) ((B.U.setTop { g with stack := rest }).pushFrame (.throwing q))) := by
  obtain ⟨mk, methM, hnamed, hmethM, hstM, habM⟩ := Cond.instanceMethod_spec hinst
  obtain ⟨methM', cM, hmethM', -, -, -, -, -, -, hsigM⟩ := Cond.code_spec hnamed hcode
  cases hmethM.symm.trans hmethM'
  obtain ⟨c2, r2, m2, q1, q2, q3, q4, kP, hkP, hkPi⟩ := Cond.selects_spec hsel
  cases hcls.symm.trans q1
  cases (State.methodFound?_of_named hnamed hy).symm.trans q2
  cases hnamed.symm.trans q3
  have hselP : selectMethod e.platform s.vm cellB.cls mk = .method mk := by rw [Launch.admits_selectMethod X.admits]; exact q4
  obtain ⟨vm₁, X₁, hstep₁⟩ := X.invokevirtual hexec hown hlink hnamed hmethM hstM hkP hkPi hy (a := b) (cell := cellB) hcell
    (fun z h => by rw [h] at hobj; cases hobj) hselP hmethM habM hkP hkPi (g := g) hg (argsL := argsL) (rest := rest) (hlen _ hsigM) hstack hdg
  rcases hK m meth c ⟨T.setVm vm₁, locs, cells, slots⟩ { g with stack := rest } (.invokevirtual index) mk (Value.ref b :: argsL).toArray X₁ hg hsize hdg hW (X₁.named hnamed) (hpre vm₁ X₁.warmed) with ⟨v, B, X', hpost, hsteps⟩ | ⟨q, B, X', hpost, hsteps⟩
  · exact Or.inl ⟨v, vm₁, B, X₁.warmed, X', hpost, fun target h => hstep₁ _ fun acts => by rw [doInvoke_state]; exact hsteps.trans h⟩
  · exact Or.inr ⟨q, vm₁, B, X₁.warmed, X', hpost, hstep₁ _ fun acts => by rw [doInvoke_state]; exact hsteps⟩
theorem vx_callS (X : Stand p l e R s m args below meth c T locs cells slots) (hexec : p.tables.exec = Jvm.exec) {own : String} {index : Nat} {y : MethodName} {bytes : ByteArray} {maxL : Nat} {ret : Option FieldType}
    (hown : s.vm.findClass own = some m.cls) (hlink : (Cond.methodLink own index y).before args s = true) (hstat : (Cond.static y).before args s = true) (hinit : (Cond.initialized y.cls).before args s = true)
    (hcode : (Cond.code y bytes maxL ret).before args s = true) (hy : y.cls ≠ "java/lang/invoke/MethodHandle" ∧ y.cls ≠ "java/lang/invoke/VarHandle")
    {W9 : Nat} {Pre : Pt → Array Value → Prop} {Post : Pt → Array Value → Option Value → Pt → Prop} {PostX : Pt → Array Value → Addr → Pt → Prop} (hK : vx_Back l R p e below s args y 3 W9 Pre Post PostX)
    {g : JFrame} (hg : g.method = m) (hsize : g.locals.size = c.maxLocals) {argsL rest : List Value} (hlen : ∀ sig, parseMethodDescriptor y.desc = some sig → argsL.length = sig.parameters.length)
    (hstack : g.stack = argsL.reverse ++ rest) (hW : 2 * g.monitorRoom + (rest.map fun v => v.category).sum ≤ W9) (hdg : decode c.code g.pc = .ok (.invokestatic index, 3))
    (hpre : ∀ vm₁, s.WarmedH vm₁ → Pre ⟨T.setVm vm₁, locs, cells, slots⟩ argsL.toArray) :
    (∃ (v : Option Value) (vm₁ : Vm) (B : Pt), s.WarmedH vm₁ ∧ Stand p l e R s m args below meth c B.U B.locs B.cells B.slots ∧ Post ⟨T.setVm vm₁, locs, cells, slots⟩ argsL.toArray v B ∧
      ∀ target, Steps p.tables e below (B.U.setTop { g with pc := g.pc + 3, stack := v.toList ++ rest }) target → Steps p.tables e below (T.setTop g) target) ∨
    (∃ (q : Addr) (vm₁ : Vm) (B : Pt), s.WarmedH vm₁ ∧ Stand p l e R s m args below meth c B.U B.locs B.cells B.slots ∧ PostX ⟨T.setVm vm₁, locs, cells, slots⟩ argsL.toArray q B ∧
      Steps p.tables e below (T.setTop g) ((B.U.setTop { g with stack := rest }).pushFrame (.throwing q))) := by
  obtain ⟨mk, hnamed⟩ := Cond.code_named hcode
  obtain ⟨methM, cM, hmethM, -, -, -, -, -, -, hsigM⟩ := Cond.code_spec hnamed hcode
  have hstatic : methM.isStatic = true := Cond.static_spec hnamed hmethM hstat
  obtain ⟨kP, hkP, -⟩ := className_of_methodNamed hnamed
  have hinitP : kP.init = .initialized := Cond.initialized_spec (findClass_of_methodNamed hnamed) hkP hinit
  obtain ⟨vm₁, X₁, hstep₁⟩ := X.invokestatic hexec hown hlink hnamed hmethM hstatic hkP hinitP hy (g := g) hg (argsL := argsL) (rest := rest) (hlen _ hsigM) hstack hdg
  rcases hK m meth c ⟨T.setVm vm₁, locs, cells, slots⟩ { g with stack := rest } (.invokestatic index) mk argsL.toArray X₁ hg hsize hdg hW (X₁.named hnamed) (hpre vm₁ X₁.warmed) with ⟨v, B, X', hpost, hsteps⟩ | ⟨q, B, X', hpost, hsteps⟩
  · exact Or.inl ⟨v, vm₁, B, X₁.warmed, X', hpost, fun target h => hstep₁ _ fun acts => by rw [doInvoke_state]; exact hsteps.trans h⟩
  · exact Or.inr ⟨q, vm₁, B, X₁.warmed, X', hpost, hstep₁ _ fun acts => by rw [doInvoke_state]; exact hsteps⟩
end Calls
theorem vx_cls {s : State} {T : State} {vm₁ : Vm} {E : String} {k : ClassId} (hW : s.WarmedH vm₁) (h : (T.setVm vm₁).vm.findClass E = some k) : s.vm.findClass E = some k := by
  have h1 : vm₁.findClass E = some k := h
  rw [hW.alike.findClass] at h1
  exact h1
/-- the method's frame g, with q thrown over it -/
def vx_W (p : Program) (l : Launch) (e : Env) (R : Room) (s : State) (m : MethodId) (args : Array Value) (below : List Frame) (meth : Method) (c : Code) (H : Heap) (locs : List Loc) (cells slots : Nat) (Q : State → Prop) (g : JFrame) (q : Addr) : Prop :=
  ∀ T : State, T.heap = H → Stand p l e R s m args below meth c T locs cells slots → ∃ t, Steps p.tables e below ((T.setTop g).pushFrame (.throwing q)) t ∧ Q t
def vx_Run (p : Program) (l : Launch) (e : Env) (R : Room) (s : State) (m : MethodId) (args : Array Value) (below : List Frame) (meth : Method) (c : Code) (H : Heap) (locs : List Loc) (cells slots mc ms : Nat) (g : JFrame) (rest : List Value) (Qa : State → Outcome → State → Prop) (XC : String → State → State → Prop) (free : Addr → Prop) : Prop :=
  ∀ T : State, T.heap = H → Stand p l e R s m args below meth c T locs cells slots →
    (∃ (v : Option Value) (st₀ t T' : State) (L : List Loc), st₀.heap = H ∧ Stand p l e R s m args below meth c T' (locs ++ L) (cells + mc) (slots + ms) ∧ (∀ q ∈ L, free q.base) ∧ T'.heap = t.heap ∧ T'.vm = t.vm ∧ Qa st₀ (.returned v) t ∧
      Goes p e below T g T' { g with pc := g.pc + 3, stack := v.toList ++ rest }) ∨
    (∃ (q : Addr) (st₀ t T' : State) (L : List Loc) (E : String) (ce : Cell), st₀.heap = H ∧ Stand p l e R s m args below meth c T' (locs ++ L) (cells + mc) (slots + ms) ∧ (∀ z ∈ L, free z.base) ∧ T'.heap = t.heap ∧ T'.vm = t.vm ∧ XC E st₀ t ∧ t.heap[q]? = some ce ∧ ce.vm = .none ∧ s.vm.findClass E = some ce.cls ∧
      Steps p.tables e below (T.setTop g) ((T'.setTop { g with stack := rest }).pushFrame (.throwing q)))
def vx_X {S : Type} (px : S → Prop) (B : String → S → State → Prop) (A : Nat → Prop) : String → State → State → Prop := fun E st t => ∃ u : S, px u ∧ B E u t ∧ va_F A st t
section Runs
variable {p : Program} {l : Launch} {e : Env} {R : Room} {s : State} {m : MethodId} {args : Array Value} {below : List Frame} {meth : Method} {c : Code} {H : Heap} {locs : List Loc} {cells slots : Nat}
variable {y : MethodName} {bytes cc : ByteArray} {maxL nL mc ms n index : Nat} {ret : Option FieldType} {ws : List Cond} {rm : Room} {Pc : Array Value → State → Prop} {Qc : Array Value → State → Outcome → State → Prop} {XC : String → State → State → Prop} {free : Addr → Prop} {Ts : List Cond} {own C : String} {b : Addr} {As rest : List Value} {g : JFrame}
theorem vx_callBack (cb : CallB R s args own index y bytes maxL ret ws rm mc ms n) (hM : vx_Met l y ws rm Pc Qc XC mc ms free) (hbl : FrameBlind Pc) : vx_Back l R p e below s args y 3 8 (PreOf R mc ms Pc) (PostOf Qc mc ms free) (vx_Post XC mc ms free) := by
  obtain ⟨hrc, hrs, hfr, hlo, hws, hcw, -, hini, -⟩ := cb
  exact vx_back (bytes := bytes) (maxL := maxL) (ret := ret) hM hbl hrc hrs hfr hlo hws hcw (fun a' U hW => word_at hW (Or.inl (by first | rfl | simp [Cond.onTables, Cond.keeps, Cond.steady])) hini)
theorem vx_runV (S : CallFix p m c cc nL s args Ts own) (hM : vx_Met l y ws rm Pc Qc XC mc ms free) (cw : CallW R s args own C index y bytes maxL ret ws rm mc ms n) (hp : PreV s H C b Pc As)
    (hg : g.method = m) (hn : As.length = n) (hsize : g.locals.size = nL) (hstack : g.stack = As.reverse ++ .ref b :: rest) (hW : 2 * g.monitorRoom + (rest.map fun v => v.category).sum ≤ 8) (hdg : decode cc g.pc = .ok (.invokevirtual index, 3)) (hf : cells + mc ≤ R.cells ∧ slots + ms ≤ R.slots) :
    vx_Run p l e R s m args below meth c H locs cells slots mc ms g rest (Qc (Value.ref b :: As).toArray) XC free := by
  have hK : vx_Back l R p e below s args y 3 8 (PreOf R mc ms Pc) (PostOf Qc mc ms free) (vx_Post XC mc ms free) := vx_callBack cw.1 hM hp.1
  obtain ⟨⟨-, -, -, -, -, -, hcode, -, hy, hlen, hl⟩, hin, hse⟩ := cw
  obtain ⟨hx, hb, hml, ho, -⟩ := S
  obtain ⟨-, ⟨cellB, hcB, hoB, hclB⟩, hPc⟩ := hp
  intro T hT X
  rcases vx_callV X hx (C := C) (bytes := bytes) (maxL := maxL) (ret := ret) ho hl hin hse hcode hy hK (by rw [hT]; exact hcB) hoB hclB hg (hsize.trans hml.symm) (argsL := As) (rest := rest) (fun sig h => hn.trans (hlen sig h)) hstack hW (by rw [hb]; exact hdg)
    (fun vm₁ hW₁ => ⟨hf.1, hf.2, hPc (T.setVm vm₁) hT hW₁⟩) with ⟨v, vm₁, ⟨U', l2, c2, s2⟩, hW₁, X', ⟨g', mk, t, L, e1, e2, hq, h1, hL, h2, h3⟩, st⟩ | ⟨q, vm₁, ⟨U', l2, c2, s2⟩, hW₁, X', ⟨g', mk, t, L, E, ce, e1, e2, hq, hce, hcv, hcl, h1, hL, h2, h3⟩, st⟩
  · dsimp only [Pt.U, Pt.locs, Pt.cells, Pt.slots] at X' e1 e2 h1 h2 h3 st
    subst h1; subst h2; subst h3
    exact Or.inl ⟨v, (T.setVm vm₁).calling g' mk (Value.ref b :: As).toArray, t, U', L, hT, X', hL, e1, e2, hq, st⟩
  · dsimp only [Pt.U, Pt.locs, Pt.cells, Pt.slots] at X' e1 e2 h1 h2 h3 st hcl
    subst h1; subst h2; subst h3
    exact Or.inr ⟨q, (T.setVm vm₁).calling g' mk (Value.ref b :: As).toArray, t, U', L, E, ce, hT, X', hL, e1, e2, hq, hce, hcv, vx_cls hW₁ hcl, st⟩
theorem vx_runS (S : CallFix p m c cc nL s args Ts own) (hM : vx_Met l y ws rm Pc Qc XC mc ms free) (cw : CallB R s args own index y bytes maxL ret ws rm mc ms n ∧ (Cond.static y).before args s = true) (hp : PreS s H Pc As)
    (hg : g.method = m) (hn : As.length = n) (hsize : g.locals.size = nL) (hstack : g.stack = As.reverse ++ rest) (hW : 2 * g.monitorRoom + (rest.map fun v => v.category).sum ≤ 8) (hdg : decode cc g.pc = .ok (.invokestatic index, 3)) (hf : cells + mc ≤ R.cells ∧ slots + ms ≤ R.slots) :
    vx_Run p l e R s m args below meth c H locs cells slots mc ms g rest (Qc As.toArray) XC free := by
  have hK : vx_Back l R p e below s args y 3 8 (PreOf R mc ms Pc) (PostOf Qc mc ms free) (vx_Post XC mc ms free) := vx_callBack cw.1 hM hp.1
  obtain ⟨⟨-, -, -, -, -, -, hcode, hini, hy, hlen, hl⟩, hstt⟩ := cw
  obtain ⟨hx, hb, hml, ho, -⟩ := S
  intro T hT X
  rcases vx_callS X hx (bytes := bytes) (maxL := maxL) (ret := ret) ho hl hstt hini hcode hy hK hg (hsize.trans hml.symm) (argsL := As) (rest := rest) (fun sig h => hn.trans (hlen sig h)) hstack hW (by rw [hb]; exact hdg)
    (fun vm₁ hW₁ => ⟨hf.1, hf.2, hp.2 (T.setVm vm₁) hT hW₁⟩) with ⟨v, vm₁, ⟨U', l2, c2, s2⟩, hW₁, X', ⟨g', mk, t, L, e1, e2, hq, h1, hL, h2, h3⟩, st⟩ | ⟨q, vm₁, ⟨U', l2, c2, s2⟩, hW₁, X', ⟨g', mk, t, L, E, ce, e1, e2, hq, hce, hcv, hcl, h1, hL, h2, h3⟩, st⟩
  · dsimp only [Pt.U, Pt.locs, Pt.cells, Pt.slots] at X' e1 e2 h1 h2 h3 st
    subst h1; subst h2; subst h3
    exact Or.inl ⟨v, (T.setVm vm₁).calling g' mk As.toArray, t, U', L, hT, X', hL, e1, e2, hq, st⟩
  · dsimp only [Pt.U, Pt.locs, Pt.cells, Pt.slots] at X' e1 e2 h1 h2 h3 st hcl
    subst h1; subst h2; subst h3
    exact Or.inr ⟨q, (T.setVm vm₁).calling g' mk As.toArray, t, U', L, E, ce, hT, X', hL, e1, e2, hq, hce, hcv, vx_cls hW₁ hcl, st⟩
end Runs
section Rows
variable {p : Program} {l : Launch} {e : Env} {R : Room} {s : State} {m : MethodId} {args : Array Value} {below : List Frame} {meth : Method} {c : Code} {H : Heap} {locs : List Loc} {cells slots : Nat} {Q : State → Prop}
variable {mc ms : Nat} {free : Addr → Prop} {A0 A1 : Nat → Prop} {H0 : Heap} {a : Array Value} {pc : Nat} {ls : Array Slot} {st0 rest : List Value}
theorem vx_keep {st₀ t T' : State} {L : List Loc} (h0 : st₀.heap = H) (e1 : T'.heap = t.heap) (hS : va_S A0 H0 H locs) (hA : ∀ q, q < H.size → A1 q → A0 q) (hf : ∀ q, free q → A0 q) (hL : ∀ q ∈ L, free q.base) (hF : va_F A1 st₀ t) :
    H.size ≤ T'.heap.size ∧ (∀ q : Nat, q < H.size → ¬ A1 q → T'.heap[q]? = H[q]?) ∧ va_S A0 H0 T'.heap (locs ++ L) := by
  obtain ⟨hz, hk⟩ := hF
  rw [h0] at hz hk
  exact ⟨by rw [e1]; exact hz, fun q h1 h2 => by rw [e1]; exact hk q h1 h2,
    ⟨Nat.le_trans hS.1 (by rw [e1]; exact hz), fun q h1 h2 => by rw [e1, hk q (Nat.lt_of_lt_of_le h1 hS.1) (fun z => h2 (hA q (Nat.lt_of_lt_of_le h1 hS.1) z))]; exact hS.2.1 q h1 h2, fun q hq => by
      rcases List.mem_append.mp hq with h | h
      · exact hS.2.2 q h
      · exact hf _ (hL q h)⟩⟩
theorem vx_calli {S SX : Type} {post : Int32 → S → Prop} {px : SX → Prop} {B : S → State → Prop} {BX : String → SX → State → Prop} {AX : Nat → Prop} (hr : vx_Run p l e R s m args below meth c H locs cells slots mc ms (F0 m pc ls st0) rest (va_Qi post B A1 a) (vx_X px BX AX) free) (hS : va_S A0 H0 H locs) (hA : ∀ q, q < H.size → A1 q → A0 q) (hf : ∀ q, free q → A0 q) (hAX : ∀ q, q < H.size → AX q → A0 q)
    (kx : ∀ (E : String) (ce : Cell) (q9 : Addr) (u : SX) (t : State) (H1 : Heap) (locs1 : List Loc), t.heap = H1 → s.vm.Alike t.vm → px u → BX E u t → H.size ≤ H1.size → (∀ q : Nat, q < H.size → ¬ AX q → H1[q]? = H[q]?) → va_S A0 H0 H1 locs1 → H1[q9]? = some ce → ce.vm = .none → s.vm.findClass E = some ce.cls → vx_W p l e R s m args below meth c H1 locs1 (cells + mc) (slots + ms) Q (F0 m pc ls rest) q9)
    (kk : ∀ (r : Int32) (u : S) (t : State) (H1 : Heap) (locs1 : List Loc), t.heap = H1 → s.vm.Alike t.vm → post r u → B u t → H.size ≤ H1.size → (∀ q : Nat, q < H.size → ¬ A1 q → H1[q]? = H[q]?) → va_S A0 H0 H1 locs1 → W p l e R s m args below meth c H1 locs1 (cells + mc) (slots + ms) Q (F0 m (pc + 3) ls (.int r :: rest))) : W p l e R s m args below meth c H locs cells slots Q (F0 m pc ls st0) := by
  intro T hT X
  rcases hr T hT X with ⟨v, st₀, t, T', L, h0, X', hL, e1, e2, ⟨⟨r, u, hv, hp, hb⟩, hF⟩, st⟩ | ⟨q, st₀, t, T', L, E, ce, h0, X', hL, e1, e2, ⟨u, hp, hb, hF⟩, hce, hcv, hcl, st⟩
  · cases hv
    obtain ⟨k1, k2, k3⟩ := vx_keep h0 e1 hS hA hf hL hF
    obtain ⟨t2, a1, b1⟩ := kk r u t T'.heap (locs ++ L) e1.symm (by rw [← e2]; exact X'.warmed.alike) hp hb k1 k2 k3 T' rfl X'
    exact ⟨t2, st t2 a1, b1⟩
  · obtain ⟨k1, k2, k3⟩ := vx_keep h0 e1 hS hAX hf hL hF
    obtain ⟨t2, a1, b1⟩ := kx E ce q u t T'.heap (locs ++ L) e1.symm (by rw [← e2]; exact X'.warmed.alike) hp hb k1 k2 k3 (by rw [e1]; exact hce) hcv hcl T' rfl X'
    exact ⟨t2, st.trans a1, b1⟩
theorem vx_calll {S SX : Type} {post : Int64 → S → Prop} {px : SX → Prop} {B : S → State → Prop} {BX : String → SX → State → Prop} {AX : Nat → Prop} (hr : vx_Run p l e R s m args below meth c H locs cells slots mc ms (F0 m pc ls st0) rest (va_Ql post B A1 a) (vx_X px BX AX) free) (hS : va_S A0 H0 H locs) (hA : ∀ q, q < H.size → A1 q → A0 q) (hf : ∀ q, free q → A0 q) (hAX : ∀ q, q < H.size → AX q → A0 q)
    (kx : ∀ (E : String) (ce : Cell) (q9 : Addr) (u : SX) (t : State) (H1 : Heap) (locs1 : List Loc), t.heap = H1 → s.vm.Alike t.vm → px u → BX E u t → H.size ≤ H1.size → (∀ q : Nat, q < H.size → ¬ AX q → H1[q]? = H[q]?) → va_S A0 H0 H1 locs1 → H1[q9]? = some ce → ce.vm = .none → s.vm.findClass E = some ce.cls → vx_W p l e R s m args below meth c H1 locs1 (cells + mc) (slots + ms) Q (F0 m pc ls rest) q9)
    (kk : ∀ (r : Int64) (u : S) (t : State) (H1 : Heap) (locs1 : List Loc), t.heap = H1 → s.vm.Alike t.vm → post r u → B u t → H.size ≤ H1.size → (∀ q : Nat, q < H.size → ¬ A1 q → H1[q]? = H[q]?) → va_S A0 H0 H1 locs1 → W p l e R s m args below meth c H1 locs1 (cells + mc) (slots + ms) Q (F0 m (pc + 3) ls (.long r :: rest))) : W p l e R s m args below meth c H locs cells slots Q (F0 m pc ls st0) := by
  intro T hT X
  rcases hr T hT X with ⟨v, st₀, t, T', L, h0, X', hL, e1, e2, ⟨⟨r, u, hv, hp, hb⟩, hF⟩, st⟩ | ⟨q, st₀, t, T', L, E, ce, h0, X', hL, e1, e2, ⟨u, hp, hb, hF⟩, hce, hcv, hcl, st⟩
  · cases hv
    obtain ⟨k1, k2, k3⟩ := vx_keep h0 e1 hS hA hf hL hF
    obtain ⟨t2, a1, b1⟩ := kk r u t T'.heap (locs ++ L) e1.symm (by rw [← e2]; exact X'.warmed.alike) hp hb k1 k2 k3 T' rfl X'
    exact ⟨t2, st t2 a1, b1⟩
  · obtain ⟨k1, k2, k3⟩ := vx_keep h0 e1 hS hAX hf hL hF
    obtain ⟨t2, a1, b1⟩ := kx E ce q u t T'.heap (locs ++ L) e1.symm (by rw [← e2]; exact X'.warmed.alike) hp hb k1 k2 k3 (by rw [e1]; exact hce) hcv hcl T' rfl X'
    exact ⟨t2, st.trans a1, b1⟩
theorem vx_callf {S SX : Type} {post : UInt32 → S → Prop} {px : SX → Prop} {B : S → State → Prop} {BX : String → SX → State → Prop} {AX : Nat → Prop} (hr : vx_Run p l e R s m args below meth c H locs cells slots mc ms (F0 m pc ls st0) rest (va_Qf post B A1 a) (vx_X px BX AX) free) (hS : va_S A0 H0 H locs) (hA : ∀ q, q < H.size → A1 q → A0 q) (hf : ∀ q, free q → A0 q) (hAX : ∀ q, q < H.size → AX q → A0 q)
    (kx : ∀ (E : String) (ce : Cell) (q9 : Addr) (u : SX) (t : State) (H1 : Heap) (locs1 : List Loc), t.heap = H1 → s.vm.Alike t.vm → px u → BX E u t → H.size ≤ H1.size → (∀ q : Nat, q < H.size → ¬ AX q → H1[q]? = H[q]?) → va_S A0 H0 H1 locs1 → H1[q9]? = some ce → ce.vm = .none → s.vm.findClass E = some ce.cls → vx_W p l e R s m args below meth c H1 locs1 (cells + mc) (slots + ms) Q (F0 m pc ls rest) q9)
    (kk : ∀ (r : UInt32) (u : S) (t : State) (H1 : Heap) (locs1 : List Loc), t.heap = H1 → s.vm.Alike t.vm → post r u → B u t → H.size ≤ H1.size → (∀ q : Nat, q < H.size → ¬ A1 q → H1[q]? = H[q]?) → va_S A0 H0 H1 locs1 → W p l e R s m args below meth c H1 locs1 (cells + mc) (slots + ms) Q (F0 m (pc + 3) ls (.float r :: rest))) : W p l e R s m args below meth c H locs cells slots Q (F0 m pc ls st0) := by
  intro T hT X
  rcases hr T hT X with ⟨v, st₀, t, T', L, h0, X', hL, e1, e2, ⟨⟨r, u, hv, hp, hb⟩, hF⟩, st⟩ | ⟨q, st₀, t, T', L, E, ce, h0, X', hL, e1, e2, ⟨u, hp, hb, hF⟩, hce, hcv, hcl, st⟩
  · cases hv
    obtain ⟨k1, k2, k3⟩ := vx_keep h0 e1 hS hA hf hL hF
    obtain ⟨t2, a1, b1⟩ := kk r u t T'.heap (locs ++ L) e1.symm (by rw [← e2]; exact X'.warmed.alike) hp hb k1 k2 k3 T' rfl X'
    exact ⟨t2, st t2 a1, b1⟩
  · obtain ⟨k1, k2, k3⟩ := vx_keep h0 e1 hS hAX hf hL hF
    obtain ⟨t2, a1, b1⟩ := kx E ce q u t T'.heap (locs ++ L) e1.symm (by rw [← e2]; exact X'.warmed.alike) hp hb k1 k2 k3 (by rw [e1]; exact hce) hcv hcl T' rfl X'
    exact ⟨t2, st.trans a1, b1⟩
theorem vx_calld {S SX : Type} {post : UInt64 → S → Prop} {px : SX → Prop} {B : S → State → Prop} {BX : String → SX → State → Prop} {AX : Nat → Prop} (hr : vx_Run p l e R s m args below meth c H locs cells slots mc ms (F0 m pc ls st0) rest (va_Qd post B A1 a) (vx_X px BX AX) free) (hS : va_S A0 H0 H locs) (hA : ∀ q, q < H.size → A1 q → A0 q) (hf : ∀ q, free q → A0 q) (hAX : ∀ q, q < H.size → AX q → A0 q)
    (kx : ∀ (E : String) (ce : Cell) (q9 : Addr) (u : SX) (t : State) (H1 : Heap) (locs1 : List Loc), t.heap = H1 → s.vm.Alike t.vm → px u → BX E u t → H.size ≤ H1.size → (∀ q : Nat, q < H.size → ¬ AX q → H1[q]? = H[q]?) → va_S A0 H0 H1 locs1 → H1[q9]? = some ce → ce.vm = .none → s.vm.findClass E = some ce.cls → vx_W p l e R s m args below meth c H1 locs1 (cells + mc) (slots + ms) Q (F0 m pc ls rest) q9)
    (kk : ∀ (r : UInt64) (u : S) (t : State) (H1 : Heap) (locs1 : List Loc), t.heap = H1 → s.vm.Alike t.vm → post r u → B u t → H.size ≤ H1.size → (∀ q : Nat, q < H.size → ¬ A1 q → H1[q]? = H[q]?) → va_S A0 H0 H1 locs1 → W p l e R s m args below meth c H1 locs1 (cells + mc) (slots + ms) Q (F0 m (pc + 3) ls (.double r :: rest))) : W p l e R s m args below meth c H locs cells slots Q (F0 m pc ls st0) := by
  intro T hT X
  rcases hr T hT X with ⟨v, st₀, t, T', L, h0, X', hL, e1, e2, ⟨⟨r, u, hv, hp, hb⟩, hF⟩, st⟩ | ⟨q, st₀, t, T', L, E, ce, h0, X', hL, e1, e2, ⟨u, hp, hb, hF⟩, hce, hcv, hcl, st⟩
  · cases hv
    obtain ⟨k1, k2, k3⟩ := vx_keep h0 e1 hS hA hf hL hF
    obtain ⟨t2, a1, b1⟩ := kk r u t T'.heap (locs ++ L) e1.symm (by rw [← e2]; exact X'.warmed.alike) hp hb k1 k2 k3 T' rfl X'
    exact ⟨t2, st t2 a1, b1⟩
  · obtain ⟨k1, k2, k3⟩ := vx_keep h0 e1 hS hAX hf hL hF
    obtain ⟨t2, a1, b1⟩ := kx E ce q u t T'.heap (locs ++ L) e1.symm (by rw [← e2]; exact X'.warmed.alike) hp hb k1 k2 k3 (by rw [e1]; exact hce) hcv hcl T' rfl X'
    exact ⟨t2, st.trans a1, b1⟩
theorem vx_callv {S SX : Type} {post : S → Prop} {px : SX → Prop} {B : S → State → Prop} {BX : String → SX → State → Prop} {AX : Nat → Prop} (hr : vx_Run p l e R s m args below meth c H locs cells slots mc ms (F0 m pc ls st0) rest (va_Qv post B A1 a) (vx_X px BX AX) free) (hS : va_S A0 H0 H locs) (hA : ∀ q, q < H.size → A1 q → A0 q) (hf : ∀ q, free q → A0 q) (hAX : ∀ q, q < H.size → AX q → A0 q)
    (kx : ∀ (E : String) (ce : Cell) (q9 : Addr) (u : SX) (t : State) (H1 : Heap) (locs1 : List Loc), t.heap = H1 → s.vm.Alike t.vm → px u → BX E u t → H.size ≤ H1.size → (∀ q : Nat, q < H.size → ¬ AX q → H1[q]? = H[q]?) → va_S A0 H0 H1 locs1 → H1[q9]? = some ce → ce.vm = .none → s.vm.findClass E = some ce.cls → vx_W p l e R s m args below meth c H1 locs1 (cells + mc) (slots + ms) Q (F0 m pc ls rest) q9)
    (kk : ∀ (u : S) (t : State) (H1 : Heap) (locs1 : List Loc), t.heap = H1 → s.vm.Alike t.vm → post u → B u t → H.size ≤ H1.size → (∀ q : Nat, q < H.size → ¬ A1 q → H1[q]? = H[q]?) → va_S A0 H0 H1 locs1 → W p l e R s m args below meth c H1 locs1 (cells + mc) (slots + ms) Q (F0 m (pc + 3) ls (rest))) : W p l e R s m args below meth c H locs cells slots Q (F0 m pc ls st0) := by
  intro T hT X
  rcases hr T hT X with ⟨v, st₀, t, T', L, h0, X', hL, e1, e2, ⟨⟨u, hv, hp, hb⟩, hF⟩, st⟩ | ⟨q, st₀, t, T', L, E, ce, h0, X', hL, e1, e2, ⟨u, hp, hb, hF⟩, hce, hcv, hcl, st⟩
  · cases hv
    obtain ⟨k1, k2, k3⟩ := vx_keep h0 e1 hS hA hf hL hF
    obtain ⟨t2, a1, b1⟩ := kk u t T'.heap (locs ++ L) e1.symm (by rw [← e2]; exact X'.warmed.alike) hp hb k1 k2 k3 T' rfl X'
    exact ⟨t2, st t2 a1, b1⟩
  · obtain ⟨k1, k2, k3⟩ := vx_keep h0 e1 hS hAX hf hL hF
    obtain ⟨t2, a1, b1⟩ := kx E ce q u t T'.heap (locs ++ L) e1.symm (by rw [← e2]; exact X'.warmed.alike) hp hb k1 k2 k3 (by rw [e1]; exact hce) hcv hcl T' rfl X'
    exact ⟨t2, st.trans a1, b1⟩
/-- caught by the row x of this method's table; the rows ahead don't take it -/
theorem vx_catch {own name : String} {E : String} {ce : Cell} {q : Addr} (hown : s.vm.findClass own = some m.cls) (pre : List ExceptionTableEntry) (x : ExceptionTableEntry) (suf : List ExceptionTableEntry) (hsplit : c.exceptionTable.toList = pre ++ x :: suf)
    (hpass : ∀ z ∈ pre, covers z pc = false ∨ (z.catchType ≠ 0 ∧ ∃ nm : String, (Cond.classLink own z.catchType nm).before args s = true ∧ va_Nc E nm s)) (hx : covers x pc = true) (h0 : x.catchType ≠ 0)
    (hlink : (Cond.classLink own x.catchType name).before args s = true) (hcast : (Cond.castable E name).before args s = true) (hcell : H[q]? = some ce) (hv : ce.vm = .none) (hcl : s.vm.findClass E = some ce.cls)
    (kk : W p l e R s m args below meth c H locs cells slots Q (F0 m x.handlerPc ls [.ref q])) : vx_W p l e R s m args below meth c H locs cells slots Q (F0 m pc ls rest) q := by
  intro T hT X
  have hpl : e.platform.magicAccessors = ({} : Platform).magicAccessors := by rw [X.admits.platform]
  obtain ⟨c3, c4, hc3, hc4, hasg⟩ := Cond.castable_spec hcast
  cases Option.some.inj (hc3.symm.trans hcl)
  obtain ⟨c5, hc5, hcl5⟩ := Cond.classLink_spec hown hlink e.platform hpl
  cases Option.some.inj (hc4.symm.trans hc5)
  obtain ⟨vm', X', st⟩ := X.thenCaughtThrough q (g := F0 m pc ls rest) rfl (Steps.refl _) (by rw [hT]; exact hcell) (by rw [hv]; rfl) (by obtain ⟨k9, h9, -⟩ := Vm.findClass_spec hcl; exact ⟨k9, h9⟩) pre x suf hsplit
    (fun z hz => by
      rcases hpass z hz with h | ⟨hz0, nm, hl1, hn1⟩
      · exact Or.inl h
      · obtain ⟨c6, hc6, hcl6⟩ := Cond.classLink_spec hown hl1 e.platform hpl
        obtain ⟨a8, b8, h1, h2, h3⟩ := hn1
        cases Option.some.inj (h1.symm.trans hcl)
        cases Option.some.inj (h2.symm.trans hc6)
        exact Or.inr ⟨hz0, _, hcl6, h3⟩) hx (Or.inr ⟨h0, c4, hcl5, hasg⟩)
  obtain ⟨t, a1, b1⟩ := kk (T.setVm vm') hT X'
  exact ⟨t, st.trans a1, b1⟩
end Rows
section Ends
variable {p : Program} {l : Launch} {e : Env} {R : Room} {s : State} {m : MethodId} {args : Array Value} {below : List Frame} {meth : Method} {c : Code} {H : Heap} {locs : List Loc} {cells slots : Nat} {Q : State → Prop}
variable {mc ms : Nat} {free : Addr → Prop} {A0 A1 : Nat → Prop} {H0 : Heap} {a : Array Value} {ls : Array Slot} {st0 rest : List Value}
variable {Qc : Array Value → State → Outcome → State → Prop} {XC : String → State → State → Prop}
/-- what a body that may throw owes at its end -/
def vx_MQ (below : List Frame) (Qc : Array Value → State → Outcome → State → Prop) (XC : String → State → State → Prop) (a : Array Value) (s : State) (mc ms : Nat) (free : Addr → Prop) : State → Prop := fun t =>
  ∃ o, t.status = .running ∧ Ended t below o ∧ vx_Q Qc XC mc ms free a s o t
theorem vx_ret {g : JFrame} {mc ms : Nat} (k : W p l e R s m args below meth c H locs cells slots (MQ below Qc args s mc ms free) g) : W p l e R s m args below meth c H locs cells slots (vx_MQ below Qc XC args s mc ms free) g := by
  intro T hT X
  obtain ⟨t, a1, o, b1, b2, b3, b4⟩ := k T hT X
  exact ⟨t, a1, o, b1, b2, Or.inl ⟨b3, b4⟩⟩
/-- not caught here: it goes on to the caller -/
theorem vx_widen {g : JFrame} {q : Addr} {k n : Nat} (h1 : cells ≤ k) (h2 : slots ≤ n) (kk : vx_W p l e R s m args below meth c H locs k n Q g q) : vx_W p l e R s m args below meth c H locs cells slots Q g q := fun T hT X => kk T hT (stand_widen X h1 h2)
theorem vx_out {pc : Nat} {E : String} {ce : Cell} {q : Addr} {mc ms : Nat} (hout : ∀ x ∈ c.exceptionTable.toList, covers x pc = false) (hlocks : meth.locks = false) (hcell : H[q]? = some ce) (hv : ce.vm = .none) (hcl : s.vm.findClass E = some ce.cls)
    (hx : ∀ t : State, t.heap = H → s.vm.Alike t.vm → XC E s t) (hf : ∀ z ∈ locs, free z.base) (hc : cells ≤ mc) (hs : slots ≤ ms) :
    vx_W p l e R s m args below meth c H locs cells slots (vx_MQ below Qc XC args s mc ms free) (F0 m pc ls rest) q := by
  intro T hT X
  obtain ⟨st1, hrun, hend, hW, hsm⟩ := X.leaveThrown q (g := F0 m pc ls rest) rfl rfl rfl hout hlocks
  have hcell9 : (T.setFrames (.throwing q :: below)).heap[q]? = some ce := by
    show T.heap[q]? = some ce
    rw [hT]; exact hcell
  exact ⟨_, st1, .threw q, hrun, hend, Or.inr ⟨q, rfl, E, ce, locs, hx _ hT hW.alike, hcell9, hv, hcl, hW, hsm.mono hc hs, hf⟩⟩
theorem vx_frame {U : State} {k n : Nat} (h : s.sameButNew ({ U with vm := s.vm } : State) locs k n) : s.heap.size ≤ U.heap.size ∧ ∀ q : Nat, q < s.heap.size → (∀ z ∈ locs, z.base ≠ q) → U.heap[q]? = s.heap[q]? := by
  obtain ⟨-, h2, -, -, -, h6⟩ := h
  refine ⟨h2, fun q hq hz => ?_⟩
  obtain ⟨c9, e1, e2, e3, e4⟩ := h6 q _ (Array.getElem?_eq_getElem hq)
  have hs : c9.slots = (s.heap[q]).slots := Array.ext_getElem? fun i => e4 i fun hm => hz _ hm rfl
  have h9 : c9 = s.heap[q] := by
    rw [hs] at e2
    exact e2
  have e5 : U.heap[q]? = some c9 := e1
  rw [e5, h9, Array.getElem?_eq_getElem hq]
/-- the words of a throw but the four that speak of the heap -/
def vx_no (w : Cond) : Bool := decide (w ≠ .isRef (.static Bundle.tN "UNASSIGNED_STACK" Bundle.steD)) && decide (w ≠ .isRef (.static Bundle.tN "SUPPRESSED_SENTINEL" Bundle.listD)) && decide (w ≠ .laysStatic Bundle.tN "UNASSIGNED_STACK" Bundle.steD) && decide (w ≠ .laysStatic Bundle.tN "SUPPRESSED_SENTINEL" Bundle.listD)
def vx_at0 (own : String) (ic : Nat) (X : String) (names : List String) : List Cond := (Bundle.ownAtoms0 own ic X names).filter vx_no
def vx_atS (own : String) (ic : Nat) (X : String) (names : List String) : List Cond := (Bundle.ownAtoms own ic X names).filter vx_no
/-- a word that the tables alone decide, or a good one -/
def vx_ot (w : Cond) : Bool := w.onTables || goodWord w
theorem vx_ot_at {args a' : Array Value} {s U : State} {w : Cond} (hW : s.WarmedH U.vm) (hvm : s.vm = U.vm) (hg : vx_ot w = true) (h : w.before args s = true) : w.before a' U = true := by
  simp only [vx_ot, Bool.or_eq_true] at hg
  rcases hg with hg | hg
  · exact va_tabs hg hvm h
  · exact word_at hW (good_of_word hg) h
/-- a list's words: the good ones out of the method's own list, the others by premises of their own -/
theorem vx_hat {args : Array Value} {s : State} {L B : List Cond} (h1 : ∀ w ∈ L.filter goodWord, w.before args s = true) (h2 : ∀ w ∈ L.filter (fun w => !goodWord w), w ∈ B) (h3 : ∀ w ∈ B, w.before args s = true) : ∀ w ∈ L, w.before args s = true := by
  intro w hw
  by_cases g : goodWord w = true
  · exact h1 w (List.mem_filter.mpr ⟨hw, g⟩)
  · refine h3 w (h2 w (List.mem_filter.mpr ⟨hw, ?_⟩))
    show (!goodWord w) = true
    cases hgw : goodWord w
    · rfl
    · exact absurd hgw g
theorem vx_c {args : Array Value} {s : State} {w : Cond} {B : List Cond} (h : w.before args s = true) (t : ∀ w ∈ B, w.before args s = true) : ∀ w' ∈ w :: B, w'.before args s = true := fun w' h' => (List.mem_cons.mp h').elim (fun e => by rw [e]; exact h) (t w')
theorem vx_n {args : Array Value} {s : State} : ∀ w ∈ ([] : List Cond), w.before args s = true := fun _ h => nomatch h
theorem vx_own {args : Array Value} {s : State} {L : List Cond} (h1 : ∀ w ∈ L.filter vx_no, w.before args s = true)
    (hU : (Cond.isRef (.static Bundle.tN "UNASSIGNED_STACK" Bundle.steD)).before args s = true) (hN : (Cond.isRef (.static Bundle.tN "SUPPRESSED_SENTINEL" Bundle.listD)).before args s = true)
    (lU : (Cond.laysStatic Bundle.tN "UNASSIGNED_STACK" Bundle.steD).before args s = true) (lN : (Cond.laysStatic Bundle.tN "SUPPRESSED_SENTINEL" Bundle.listD).before args s = true) : ∀ w ∈ L, w.before args s = true := by
  intro w hw
  by_cases e1 : w = .isRef (.static Bundle.tN "UNASSIGNED_STACK" Bundle.steD)
  · rw [e1]; exact hU
  · by_cases e2 : w = .isRef (.static Bundle.tN "SUPPRESSED_SENTINEL" Bundle.listD)
    · rw [e2]; exact hN
    · by_cases e3 : w = .laysStatic Bundle.tN "UNASSIGNED_STACK" Bundle.steD
      · rw [e3]; exact lU
      · by_cases e4 : w = .laysStatic Bundle.tN "SUPPRESSED_SENTINEL" Bundle.listD
        · rw [e4]; exact lN
        · exact h1 w (List.mem_filter.mpr ⟨hw, by unfold vx_no; rw [decide_eq_true e1, decide_eq_true e2, decide_eq_true e3, decide_eq_true e4]; rfl⟩)
/-- where a static field lies, its class's statics cell in H -/
def vx_L (C n d : String) (A : Nat → Prop) (U : State) (H : Heap) : Prop := ∃ (c : ClassId) (k : Class) (i : Nat) (f : Field) (a : Nat) (cell : Cell), U.vm.findClass C = some c ∧ U.fieldFound? C n d = some (c, k, i, f) ∧ f.isStatic = true ∧ k.statics = some a ∧ H[a]? = some cell ∧ cell.vm.isStatics = true ∧ cell.cls = c ∧ f.slot < cell.slots.size ∧ k.staticTypes[f.slot]? = some f.type ∧ ¬ A a
theorem vx_L.moved {C n d : String} {A : Nat → Prop} {u U : State} {H : Heap} (hvm : u.vm.Alike U.vm) (h : vx_L C n d A u H) : vx_L C n d A U H := by
  obtain ⟨c, k, i, f, a, cell, h1, h2, h3, h4, h5, h6, h7, h8, h9, h10⟩ := h
  obtain ⟨k', hi', he⟩ := State.fieldFound?_setVm hvm h2
  exact ⟨c, k', i, f, a, cell, by rw [hvm.findClass]; exact h1, hi', h3, by rw [he]; exact h4, h5, h6, h7, h8, by rw [he]; exact h9, h10⟩
theorem vx_L.kept {C n d : String} {A : Nat → Prop} {U : State} {H H1 : Heap} (h : vx_L C n d A U H) (hq : ∀ a : Nat, a < H.size → ¬ A a → H1[a]? = H[a]?) : vx_L C n d A U H1 := by
  obtain ⟨c, k, i, f, a, cell, h1, h2, h3, h4, h5, h6, h7, h8, h9, h10⟩ := h
  exact ⟨c, k, i, f, a, cell, h1, h2, h3, h4, by rw [hq a (Array.getElem?_eq_some_iff.mp h5).1 h10]; exact h5, h6, h7, h8, h9, h10⟩
theorem vx_L.narrow {C n d : String} {A B : Nat → Prop} {U : State} {H : Heap} (h : vx_L C n d A U H) (hAB : ∀ q, B q → A q) : vx_L C n d B U H := by
  obtain ⟨c, k, i, f, a, cell, h1, h2, h3, h4, h5, h6, h7, h8, h9, h10⟩ := h
  exact ⟨c, k, i, f, a, cell, h1, h2, h3, h4, h5, h6, h7, h8, h9, fun z => h10 (hAB _ z)⟩
theorem vx_L.word {C n d : String} {A : Nat → Prop} {s : State} {args : Array Value} (h : vx_L C n d A s s.heap) : (Cond.laysStatic C n d).before args s = true := by
  obtain ⟨c, k, i, f, a, cell, h1, h2, h3, h4, h5, h6, h7, h8, h9, -⟩ := h
  show (Cond.laysStatic C n d).holds args s none s [] = true
  exact Cond.laysStatic_of h1 h2 h3 h4 h5 h6 h7 h8 h9
/-- .. and what it holds: null or some reference -/
def vx_Zq (C n d : String) (A : Nat → Prop) (U : State) (H : Heap) : Prop := va_Zq C n d A U H ∧ vx_L C n d A U H
theorem vx_Zq.moved {C n d : String} {A : Nat → Prop} {u U : State} {H : Heap} (hvm : u.vm.Alike U.vm) (h : vx_Zq C n d A u H) : vx_Zq C n d A U H := ⟨va_Zq.moved hvm h.1, vx_L.moved hvm h.2⟩
theorem vx_Zq.kept {C n d : String} {A : Nat → Prop} {U : State} {H H1 : Heap} (h : vx_Zq C n d A U H) (hq : ∀ a : Nat, a < H.size → ¬ A a → H1[a]? = H[a]?) : vx_Zq C n d A U H1 := ⟨va_Zq.kept h.1 hq, vx_L.kept h.2 hq⟩
theorem vx_Zq.narrow {C n d : String} {A B : Nat → Prop} {U : State} {H : Heap} (h : vx_Zq C n d A U H) (hAB : ∀ q, B q → A q) : vx_Zq C n d B U H := ⟨va_Zq.narrow h.1 hAB, vx_L.narrow h.2 hAB⟩
theorem vx_Zqof {args : Array Value} {s : State} {C n d : String} {A : Nat → Prop} (hl : (Cond.laysStatic C n d).before args s = true) (hini : (Cond.initialized C).before args s = true) (h : (Cond.isRef (.static C n d)).before args s = true) (hA : ∀ a : Nat, a < s.heap.size → ¬ A a) : vx_Zq C n d A s s.heap := by
  refine ⟨va_Zqof hl hini h hA, ?_⟩
  obtain ⟨c, k, i, f, a, cell, h1, h2, h3, h4, h5, h6, h7, h8, h9⟩ := Cond.laysStatic_spec hl
  exact ⟨c, k, i, f, a, cell, h1, h2, h3, h4, h5, h6, h7, h8, h9, hA a (Array.getElem?_eq_some_iff.mp h5).1⟩
theorem vx_isRef {C n d : String} {v : Value} {A : Nat → Prop} {s : State} {args : Array Value} (h : va_Z C n d v A s s.heap) (hv : v.isRef = true) : (Cond.isRef (.static C n d)).before args s = true := by
  obtain ⟨cf, kf, fi, f, a, cell, h1, h2, h3, h4, h5, h6, h7, -⟩ := h
  have he : (Term.static C n d).eval args s none [] s = some v := by
    simp [Term.eval, State.fieldNamed?, h1, h2, h4, h5, h6, h7]
  simp only [Cond.before, Cond.holds, Cond.value, he]
  cases v <;> simp_all [Value.isRef]
theorem vx_isRefq {C n d : String} {A : Nat → Prop} {s : State} {args : Array Value} (h : va_Zq C n d A s s.heap) : (Cond.isRef (.static C n d)).before args s = true := by
  rcases h with h | ⟨t, h⟩
  · exact vx_isRef h rfl
  · exact vx_isRef h rfl
/-- the same frame, seen from here: as if the method were called anew in this heap -/
theorem vx_rebase {T : State} (X : Stand p l e R s m args below meth c T locs cells slots) {R' : Room} (hf : R'.frames ≤ R.frames) (hl : R'.locals ≤ R.locals) (hc : cells + R'.cells ≤ R.cells) (hs : slots + R'.slots ≤ R.slots) :
    Stand p l e R' ((T.setVm s.vm).setFrames (.invoking m args :: below)) m args below meth c T [] 0 0 := by
  have htop : (T.setVm s.vm).topJava?.isSome := X.here.top
  have hF : ((T.setVm s.vm).setFrames (.invoking m args :: below)).frames = .invoking m args :: below := State.frames_setFrames _ (State.cur_lt_of_top htop)
  obtain ⟨g₀, hg0⟩ := Option.isSome_iff_exists.mp htop
  obtain ⟨r, hr⟩ := State.topJava?_eq_some.mp hg0
  have hl9 : e.platform.stackLimits (T.setVm s.vm).me = e.platform.stackLimits s.me := X.limits
  have hb9 : (T.setVm s.vm).me.stackBytes = s.me.stackBytes := X.bytes
  refine ⟨X.admits, X.cas, X.clock, hF, ?_, X.hears, X.method, X.code, X.here, X.tail, X.warmed, ?_, ?_, ?_⟩
  · have h := X.room
    have hU : ((T.setVm s.vm).setFrames (.invoking m args :: below)).localsInUse = s.localsInUse := by
      rw [State.localsInUse_invoking hF (meth := meth) (c := c) X.method X.code, State.localsInUse_invoking X.frames X.method X.code]
    simp only [State.hasRoom, Bool.and_eq_true, decide_eq_true_eq] at h ⊢
    obtain ⟨⟨⟨⟨h1, h2, h3, h4, h5, h6⟩, h7⟩, h8⟩, h9⟩ := h
    rw [X.frames, List.length_cons] at h2 h3
    have q1 := X.heapSize
    have q2 := X.used
    simp only [hF, hU, List.length_cons, State.stackLimits_setFrames, State.stackBytes_setFrames, hl9, hb9]
    refine ⟨⟨⟨⟨by omega, by omega, by omega, by omega, by omega, h6⟩, ?_⟩, ?_⟩, X.book⟩
    · show T.heap.size + R'.cells ≤ e.platform.maxCells
      omega
    · show T.slotsUsed + R'.slots ≤ e.platform.maxSlots
      omega
  · rw [State.stackLimits_setFrames]; rfl
  · rw [State.stackBytes_setFrames]; rfl
  · refine ⟨?_, Nat.le_refl _, Nat.le_refl _, ?_, ?_, fun a c9 h9 => ⟨c9, h9, rfl, rfl, fun _ _ => rfl⟩⟩
    · obtain ⟨t, ht, -⟩ := State.frames_cons hr
      show T.setVm s.vm = { ((T.setVm s.vm).setFrames (.invoking m args :: below)).setFrames (T.setVm s.vm).frames with heap := T.heap, slotsUsed := T.slotsUsed }
      rw [State.setFrames_setFrames, State.setFrames_self ht]
      rfl
    · show T.slotsUsed = T.slotsUsed + ((T.heap.toList.drop T.heap.size).map (·.slots.size)).sum
      rw [List.drop_eq_nil_of_le (Nat.le_of_eq Array.length_toList)]
      rfl
    · show ((T.heap.toList.drop T.heap.size).map (·.slots.size)).sum ≤ 0
      rw [List.drop_eq_nil_of_le (Nat.le_of_eq Array.length_toList)]
      exact Nat.le_refl _
/-- 'throw new E()': new; dup; invokespecial; athrow -/
theorem vx_throw0 {cc : ByteArray} {pc : Nat} (hexec : p.tables.exec = Jvm.exec) (hb : c.code = cc) (hl : l.stackTraces = false) {own cls : String} {names : List String} {ik ic mc ms : Nat} {A : Nat → Prop}
    (hown : s.vm.findClass own = some m.cls) (hcls : Bundle.fit cls = true) (hnames : ∀ n ∈ names, Bundle.fit n = true)
    (hk : (Cond.classLink own ik cls).before args s = true) (hini : (Cond.initialized cls).before args s = true) (hat : ∀ w ∈ vx_at0 own ic cls names, w.before args s = true)
    (hgood : ∀ w ∈ Cond.classLink own ik cls :: Cond.initialized cls :: vx_at0 own ic cls names, vx_ot w = true)
    (hU : vx_Zq Bundle.tN "UNASSIGNED_STACK" Bundle.steD A s s.heap) (hN : vx_Zq Bundle.tN "SUPPRESSED_SENTINEL" Bundle.listD A s s.heap) (hS : va_S A s.heap H locs) (hsize : ls.size = c.maxLocals)
    (d0 : decode cc pc = .ok (.new ik, 3)) (d3 : decode cc (pc + 3) = .ok (.dup, 1)) (d4 : decode cc (pc + 4) = .ok (.invokespecial ic, 3)) (d7 : decode cc (pc + 7) = .ok (.athrow, 1))
    (hout : ∀ x ∈ c.exceptionTable.toList, covers x (pc + 7) = false)
    (hRframes : names.length + 3 < R.frames) (hRlocals : (rest.map fun v => v.category).sum + (13 * (names.length + 1) + 42) ≤ R.locals) (hRcells : cells + 1 ≤ R.cells) (hRslots : slots + 6 ≤ R.slots) (hlocks : meth.locks = false)
    (hx : ∀ t : State, s.vm.Alike t.vm → H.size ≤ t.heap.size → (∀ q : Nat, q < H.size → t.heap[q]? = H[q]?) → XC cls s t)
    (hf : ∀ z ∈ locs, free z.base) (hc : cells + 1 ≤ mc) (hs : slots + 6 ≤ ms) :
    W p l e R s m args below meth c H locs cells slots (vx_MQ below Qc XC args s mc ms free) (F0 m pc ls rest) := by
  intro T hT X
  have htr : e.platform.stackTraces = false := (show e.platform.stackTraces = l.stackTraces by rw [X.admits.platform]).trans hl
  have Y := vx_rebase X (R' := { frames := R.frames, locals := R.locals, cells := 1, slots := 6 }) (Nat.le_refl _) (Nat.le_refl _) hRcells hRslots
  obtain ⟨s', hA⟩ : ∃ z, z = (T.setVm s.vm).setFrames (.invoking m args :: below) := ⟨_, rfl⟩
  rw [← hA] at Y
  have hvm : s'.vm = s.vm := by rw [hA]; rfl
  have hhp : s'.heap = H := by rw [hA]; exact hT
  have hW0 : s.WarmedH s'.vm := by rw [hvm]; exact State.WarmedH.refl s
  have hat' : ∀ w ∈ vx_at0 own ic cls names, w.before args s' = true := fun w hw => vx_ot_at hW0 hvm.symm (hgood w (List.mem_cons_of_mem _ (List.mem_cons_of_mem _ hw))) (hat w hw)
  have hk' : (Cond.classLink own ik cls).before args s' = true := vx_ot_at hW0 hvm.symm (hgood _ List.mem_cons_self) hk
  have hini' : (Cond.initialized cls).before args s' = true := vx_ot_at hW0 hvm.symm (hgood _ (List.mem_cons_of_mem _ List.mem_cons_self)) hini
  have hU' : vx_Zq Bundle.tN "UNASSIGNED_STACK" Bundle.steD A s' s'.heap := by rw [hhp]; exact vx_Zq.moved hW0.alike (hU.kept hS.2.1)
  have hN' : vx_Zq Bundle.tN "SUPPRESSED_SENTINEL" Bundle.listD A s' s'.heap := by rw [hhp]; exact vx_Zq.moved hW0.alike (hN.kept hS.2.1)
  have h : ∀ w ∈ Bundle.ownAtoms0 own ic cls names, w.before args s' = true := vx_own hat' (vx_isRefq hU'.1) (vx_isRefq hN'.1) hU'.2.word hN'.2.word
  have hown' : s'.vm.findClass own = some m.cls := by rw [hvm]; exact hown
  have hins : (Cond.instantiable cls 6).before args s' = true := h _ (by simp [Bundle.ownAtoms0])
  obtain ⟨vm₁, cX, kX, hfX, hkX, -, -, X₁, st1⟩ := Y.newCold hexec (own := own) (C := cls) (index := ik) (n := 6) hown' hk' hins hini'
    (g := F0 m pc ls rest) rfl (by rw [hb]; exact d0) (Nat.le_refl _) (Nat.le_refl _)
  generalize hT1 : (T.setVm vm₁).pushCell { cls := cX, slots := kX.instanceTypes.map defaultValue, vm := .none } = T1 at X₁ st1
  have hcat : (Value.ref T.heap.size).category = 1 := rfl
  have hcellA : T1.heap[T.heap.size]? = some (freshCell cX kX) := by rw [← hT1]; exact State.heap_pushCell_size _ _
  have d3' : decode c.code (pc + 3) = .ok (.dup, 1) := by rw [hb]; exact d3
  obtain ⟨U, hsteps, hrun, hend, hW, hsame, ce, hce, hO⟩ := X₁.ctorThrow0 hexec htr (own := own) (cls := cls) (names := names) (ic := ic) hown' hcls hnames h (fun x hx => nomatch hx) hfX hkX hcellA (by rw [hhp, hT]; exact Nat.le_refl _)
    (g := { method := m, pc := pc + 4, locals := ls, stack := .ref T.heap.size :: .ref T.heap.size :: rest, locked := none }) rfl hsize rfl rfl (rest := rest) rfl
    (by rw [hb]; exact d4) (by rw [hb]; exact d7) hout hRframes (by simp only [List.map_cons, List.sum_cons, hcat]; omega) hlocks
  obtain ⟨f1, f2⟩ := vx_frame hsame
  rw [hhp] at f1 f2
  have hWs : s.WarmedH U.vm := State.WarmedH.trans hW0 hW
  have hcl : s.vm.findClass cls = some ce.cls := by
    have h9 := hO.cls
    rw [hvm] at h9
    exact h9
  have hall : s.sameButNew ({ U with vm := s.vm } : State) locs mc ms := by
    subst hA
    obtain ⟨e1, e2⟩ := hsame
    rw [State.setFrames_setFrames] at e1
    have h2 : (T.setVm s.vm).sameButNew ({ U with vm := s.vm } : State) [] (0 + 1) (0 + 6) := ⟨e1, e2⟩
    have h3 := X.same.trans h2
    rw [List.append_nil] at h3
    exact h3.mono hc hs
  refine ⟨U, ?_, .threw T.heap.size, hrun, hend, Or.inr ⟨T.heap.size, rfl, cls, ce, locs, hx U hWs.alike f1 (fun q hq => f2 q hq (fun z hz => nomatch hz)), hce, hO.vm, hcl, hWs, hall, hf⟩⟩
  refine st1 _ ?_
  show Steps p.tables e below (T1.setTop { method := m, pc := pc + 3, locals := ls, stack := .ref T.heap.size :: rest, locked := none }) _
  jvm_step X₁.here [X₁.here.top, hexec, d3', Value.category]
  exact hsteps
/-- 'throw new E("text")': new; dup; ldc; invokespecial; athrow -/
theorem vx_throwS {cc : ByteArray} {pc : Nat} (hexec : p.tables.exec = Jvm.exec) (hb : c.code = cc) (hl : l.stackTraces = false) {own cls text : String} {names : List String} {ik is ic mc ms sa : Nat} {A : Nat → Prop}
    (hown : s.vm.findClass own = some m.cls) (hcls : Bundle.fit cls = true) (hnames : ∀ n ∈ names, Bundle.fit n = true)
    (hk : (Cond.classLink own ik cls).before args s = true) (hini : (Cond.initialized cls).before args s = true) (hstr : vk_R own is text sa s) (hat : ∀ w ∈ vx_atS own ic cls names, w.before args s = true)
    (hgood : ∀ w ∈ Cond.classLink own ik cls :: Cond.initialized cls :: vx_atS own ic cls names, vx_ot w = true)
    (hU : vx_Zq Bundle.tN "UNASSIGNED_STACK" Bundle.steD A s s.heap) (hN : vx_Zq Bundle.tN "SUPPRESSED_SENTINEL" Bundle.listD A s s.heap) (hS : va_S A s.heap H locs) (hsize : ls.size = c.maxLocals)
    (d0 : decode cc pc = .ok (.new ik, 3)) (d3 : decode cc (pc + 3) = .ok (.dup, 1)) (d4 : decode cc (pc + 4) = .ok (.ldc is, 2)) (d6 : decode cc (pc + 6) = .ok (.invokespecial ic, 3)) (d9 : decode cc (pc + 9) = .ok (.athrow, 1))
    (hout : ∀ x ∈ c.exceptionTable.toList, covers x (pc + 9) = false)
    (hRframes : names.length + 3 < R.frames) (hRlocals : (rest.map fun v => v.category).sum + (13 * (names.length + 1) + 43) ≤ R.locals) (hRcells : cells + 1 ≤ R.cells) (hRslots : slots + 6 ≤ R.slots) (hlocks : meth.locks = false)
    (hx : ∀ t : State, s.vm.Alike t.vm → H.size ≤ t.heap.size → (∀ q : Nat, q < H.size → t.heap[q]? = H[q]?) → XC cls s t)
    (hf : ∀ z ∈ locs, free z.base) (hc : cells + 1 ≤ mc) (hs : slots + 6 ≤ ms) :
    W p l e R s m args below meth c H locs cells slots (vx_MQ below Qc XC args s mc ms free) (F0 m pc ls rest) := by
  intro T hT X
  have htr : e.platform.stackTraces = false := (show e.platform.stackTraces = l.stackTraces by rw [X.admits.platform]).trans hl
  have Y := vx_rebase X (R' := { frames := R.frames, locals := R.locals, cells := 1, slots := 6 }) (Nat.le_refl _) (Nat.le_refl _) hRcells hRslots
  obtain ⟨s', hA⟩ : ∃ z, z = (T.setVm s.vm).setFrames (.invoking m args :: below) := ⟨_, rfl⟩
  rw [← hA] at Y
  have hvm : s'.vm = s.vm := by rw [hA]; rfl
  have hhp : s'.heap = H := by rw [hA]; exact hT
  have hW0 : s.WarmedH s'.vm := by rw [hvm]; exact State.WarmedH.refl s
  have hat' : ∀ w ∈ vx_atS own ic cls names, w.before args s' = true := fun w hw => vx_ot_at hW0 hvm.symm (hgood w (List.mem_cons_of_mem _ (List.mem_cons_of_mem _ hw))) (hat w hw)
  have hk' : (Cond.classLink own ik cls).before args s' = true := vx_ot_at hW0 hvm.symm (hgood _ List.mem_cons_self) hk
  have hini' : (Cond.initialized cls).before args s' = true := vx_ot_at hW0 hvm.symm (hgood _ (List.mem_cons_of_mem _ List.mem_cons_self)) hini
  have hU' : vx_Zq Bundle.tN "UNASSIGNED_STACK" Bundle.steD A s' s'.heap := by rw [hhp]; exact vx_Zq.moved hW0.alike (hU.kept hS.2.1)
  have hN' : vx_Zq Bundle.tN "SUPPRESSED_SENTINEL" Bundle.listD A s' s'.heap := by rw [hhp]; exact vx_Zq.moved hW0.alike (hN.kept hS.2.1)
  have h : ∀ w ∈ Bundle.ownAtoms own ic cls names, w.before args s' = true := vx_own hat' (vx_isRefq hU'.1) (vx_isRefq hN'.1) hU'.2.word hN'.2.word
  have hown' : s'.vm.findClass own = some m.cls := by rw [hvm]; exact hown
  have hins : (Cond.instantiable cls 6).before args s' = true := h _ (by simp [Bundle.ownAtoms])
  obtain ⟨vm₁, cX, kX, hfX, hkX, -, -, X₁, st1⟩ := Y.newCold hexec (own := own) (C := cls) (index := ik) (n := 6) hown' hk' hins hini'
    (g := F0 m pc ls rest) rfl (by rw [hb]; exact d0) (Nat.le_refl _) (Nat.le_refl _)
  generalize hT1 : (T.setVm vm₁).pushCell { cls := cX, slots := kX.instanceTypes.map defaultValue, vm := .none } = T1 at X₁ st1
  have hcat : (Value.ref T.heap.size).category = 1 := rfl
  have hcellA : T1.heap[T.heap.size]? = some (freshCell cX kX) := by rw [← hT1]; exact State.heap_pushCell_size _ _
  have d3' : decode c.code (pc + 3) = .ok (.dup, 1) := by rw [hb]; exact d3
  have d4' : decode c.code (pc + 4) = .ok (.ldc is, 2) := by rw [hb]; exact d4
  have hstr' : vk_R own is text sa s' := vk_R.warm hW0 hstr
  obtain ⟨U, hsteps, hrun, hend, hW, hsame, ce, hce, hO⟩ := X₁.ctorThrowS hexec htr (own := own) (cls := cls) (names := names) (ic := ic) hown' hcls hnames h (fun x hx => nomatch hx) hfX hkX hcellA (by rw [hhp, hT]; exact Nat.le_refl _) (msg := .ref sa) rfl
    (g := { method := m, pc := pc + 6, locals := ls, stack := .ref sa :: .ref T.heap.size :: .ref T.heap.size :: rest, locked := none }) rfl hsize rfl rfl (rest := rest) rfl
    (by rw [hb]; exact d6) (by rw [hb]; exact d9) hout hRframes (by simp only [List.map_cons, List.sum_cons, hcat]; omega) hlocks
  obtain ⟨f1, f2⟩ := vx_frame hsame
  rw [hhp] at f1 f2
  have hWs : s.WarmedH U.vm := State.WarmedH.trans hW0 hW
  have hcl : s.vm.findClass cls = some ce.cls := by
    have h9 := hO.cls
    rw [hvm] at h9
    exact h9
  have hall : s.sameButNew ({ U with vm := s.vm } : State) locs mc ms := by
    subst hA
    obtain ⟨e1, e2⟩ := hsame
    rw [State.setFrames_setFrames] at e1
    have h2 : (T.setVm s.vm).sameButNew ({ U with vm := s.vm } : State) [] (0 + 1) (0 + 6) := ⟨e1, e2⟩
    have h3 := X.same.trans h2
    rw [List.append_nil] at h3
    exact h3.mono hc hs
  refine ⟨U, ?_, .threw T.heap.size, hrun, hend, Or.inr ⟨T.heap.size, rfl, cls, ce, locs, hx U hWs.alike f1 (fun q hq => f2 q hq (fun z hz => nomatch hz)), hce, hO.vm, hcl, hWs, hall, hf⟩⟩
  refine st1 _ ?_
  show Steps p.tables e below (T1.setTop { method := m, pc := pc + 3, locals := ls, stack := .ref T.heap.size :: rest, locked := none }) _
  jvm_step X₁.here [X₁.here.top, hexec, d3', Value.category]
  exact X₁.ldcString hexec (own := own) (text := text) (index := is) (a := sa) hown' hstr'.1 hstr'.2
    (g := { method := m, pc := pc + 4, locals := ls, stack := .ref T.heap.size :: .ref T.heap.size :: rest, locked := none }) rfl d4' _ hsteps
/-- 'throw new E("text")', the text by a wide index -/
theorem vx_throwSW {cc : ByteArray} {pc : Nat} (hexec : p.tables.exec = Jvm.exec) (hb : c.code = cc) (hl : l.stackTraces = false) {own cls text : String} {names : List String} {ik is ic mc ms sa : Nat} {A : Nat → Prop}
    (hown : s.vm.findClass own = some m.cls) (hcls : Bundle.fit cls = true) (hnames : ∀ n ∈ names, Bundle.fit n = true)
    (hk : (Cond.classLink own ik cls).before args s = true) (hini : (Cond.initialized cls).before args s = true) (hstr : vk_R own is text sa s) (hat : ∀ w ∈ vx_atS own ic cls names, w.before args s = true)
    (hgood : ∀ w ∈ Cond.classLink own ik cls :: Cond.initialized cls :: vx_atS own ic cls names, vx_ot w = true)
    (hU : vx_Zq Bundle.tN "UNASSIGNED_STACK" Bundle.steD A s s.heap) (hN : vx_Zq Bundle.tN "SUPPRESSED_SENTINEL" Bundle.listD A s s.heap) (hS : va_S A s.heap H locs) (hsize : ls.size = c.maxLocals)
    (d0 : decode cc pc = .ok (.new ik, 3)) (d3 : decode cc (pc + 3) = .ok (.dup, 1)) (d4 : decode cc (pc + 4) = .ok (.ldc_w is, 3)) (d7 : decode cc (pc + 7) = .ok (.invokespecial ic, 3)) (d10 : decode cc (pc + 10) = .ok (.athrow, 1))
    (hout : ∀ x ∈ c.exceptionTable.toList, covers x (pc + 10) = false)
    (hRframes : names.length + 3 < R.frames) (hRlocals : (rest.map fun v => v.category).sum + (13 * (names.length + 1) + 43) ≤ R.locals) (hRcells : cells + 1 ≤ R.cells) (hRslots : slots + 6 ≤ R.slots) (hlocks : meth.locks = false)
    (hx : ∀ t : State, s.vm.Alike t.vm → H.size ≤ t.heap.size → (∀ q : Nat, q < H.size → t.heap[q]? = H[q]?) → XC cls s t)
    (hf : ∀ z ∈ locs, free z.base) (hc : cells + 1 ≤ mc) (hs : slots + 6 ≤ ms) :
    W p l e R s m args below meth c H locs cells slots (vx_MQ below Qc XC args s mc ms free) (F0 m pc ls rest) := by
  intro T hT X
  have htr : e.platform.stackTraces = false := (show e.platform.stackTraces = l.stackTraces by rw [X.admits.platform]).trans hl
  have Y := vx_rebase X (R' := { frames := R.frames, locals := R.locals, cells := 1, slots := 6 }) (Nat.le_refl _) (Nat.le_refl _) hRcells hRslots
  obtain ⟨s', hA⟩ : ∃ z, z = (T.setVm s.vm).setFrames (.invoking m args :: below) := ⟨_, rfl⟩
  rw [← hA] at Y
  have hvm : s'.vm = s.vm := by rw [hA]; rfl
  have hhp : s'.heap = H := by rw [hA]; exact hT
  have hW0 : s.WarmedH s'.vm := by rw [hvm]; exact State.WarmedH.refl s
  have hat' : ∀ w ∈ vx_atS own ic cls names, w.before args s' = true := fun w hw => vx_ot_at hW0 hvm.symm (hgood w (List.mem_cons_of_mem _ (List.mem_cons_of_mem _ hw))) (hat w hw)
  have hk' : (Cond.classLink own ik cls).before args s' = true := vx_ot_at hW0 hvm.symm (hgood _ List.mem_cons_self) hk
  have hini' : (Cond.initialized cls).before args s' = true := vx_ot_at hW0 hvm.symm (hgood _ (List.mem_cons_of_mem _ List.mem_cons_self)) hini
  have hU' : vx_Zq Bundle.tN "UNASSIGNED_STACK" Bundle.steD A s' s'.heap := by rw [hhp]; exact vx_Zq.moved hW0.alike (hU.kept hS.2.1)
  have hN' : vx_Zq Bundle.tN "SUPPRESSED_SENTINEL" Bundle.listD A s' s'.heap := by rw [hhp]; exact vx_Zq.moved hW0.alike (hN.kept hS.2.1)
  have h : ∀ w ∈ Bundle.ownAtoms own ic cls names, w.before args s' = true := vx_own hat' (vx_isRefq hU'.1) (vx_isRefq hN'.1) hU'.2.word hN'.2.word
  have hown' : s'.vm.findClass own = some m.cls := by rw [hvm]; exact hown
  have hins : (Cond.instantiable cls 6).before args s' = true := h _ (by simp [Bundle.ownAtoms])
  obtain ⟨vm₁, cX, kX, hfX, hkX, -, -, X₁, st1⟩ := Y.newCold hexec (own := own) (C := cls) (index := ik) (n := 6) hown' hk' hins hini'
    (g := F0 m pc ls rest) rfl (by rw [hb]; exact d0) (Nat.le_refl _) (Nat.le_refl _)
  generalize hT1 : (T.setVm vm₁).pushCell { cls := cX, slots := kX.instanceTypes.map defaultValue, vm := .none } = T1 at X₁ st1
  have hcat : (Value.ref T.heap.size).category = 1 := rfl
  have hcellA : T1.heap[T.heap.size]? = some (freshCell cX kX) := by rw [← hT1]; exact State.heap_pushCell_size _ _
  have d3' : decode c.code (pc + 3) = .ok (.dup, 1) := by rw [hb]; exact d3
  have d4' : decode c.code (pc + 4) = .ok (.ldc_w is, 3) := by rw [hb]; exact d4
  have hstr' : vk_R own is text sa s' := vk_R.warm hW0 hstr
  obtain ⟨U, hsteps, hrun, hend, hW, hsame, ce, hce, hO⟩ := X₁.ctorThrowS hexec htr (own := own) (cls := cls) (names := names) (ic := ic) hown' hcls hnames h (fun x hx => nomatch hx) hfX hkX hcellA (by rw [hhp, hT]; exact Nat.le_refl _) (msg := .ref sa) rfl
    (g := { method := m, pc := pc + 7, locals := ls, stack := .ref sa :: .ref T.heap.size :: .ref T.heap.size :: rest, locked := none }) rfl hsize rfl rfl (rest := rest) rfl
    (by rw [hb]; exact d7) (by rw [hb]; exact d10) hout hRframes (by simp only [List.map_cons, List.sum_cons, hcat]; omega) hlocks
  obtain ⟨f1, f2⟩ := vx_frame hsame
  rw [hhp] at f1 f2
  have hWs : s.WarmedH U.vm := State.WarmedH.trans hW0 hW
  have hcl : s.vm.findClass cls = some ce.cls := by
    have h9 := hO.cls
    rw [hvm] at h9
    exact h9
  have hall : s.sameButNew ({ U with vm := s.vm } : State) locs mc ms := by
    subst hA
    obtain ⟨e1, e2⟩ := hsame
    rw [State.setFrames_setFrames] at e1
    have h2 : (T.setVm s.vm).sameButNew ({ U with vm := s.vm } : State) [] (0 + 1) (0 + 6) := ⟨e1, e2⟩
    have h3 := X.same.trans h2
    rw [List.append_nil] at h3
    exact h3.mono hc hs
  refine ⟨U, ?_, .threw T.heap.size, hrun, hend, Or.inr ⟨T.heap.size, rfl, cls, ce, locs, hx U hWs.alike f1 (fun q hq => f2 q hq (fun z hz => nomatch hz)), hce, hO.vm, hcl, hWs, hall, hf⟩⟩
  refine st1 _ ?_
  show Steps p.tables e below (T1.setTop { method := m, pc := pc + 3, locals := ls, stack := .ref T.heap.size :: rest, locked := none }) _
  jvm_step X₁.here [X₁.here.top, hexec, d3', Value.category]
  exact X₁.ldcStringW hexec (own := own) (text := text) (index := is) (a := sa) hown' hstr'.1 hstr'.2
    (g := { method := m, pc := pc + 4, locals := ls, stack := .ref T.heap.size :: .ref T.heap.size :: rest, locked := none }) rfl d4' _ hsteps
end Ends
section Bodies
variable {l : Launch}
theorem vx_ofW {y : MethodName} {ws ws' : List Cond} {rm : Room} {Pc : Array Value → State → Prop} {Qc : Array Value → State → Outcome → State → Prop} {XC : String → State → State → Prop} {mc ms : Nat} {free : Addr → Prop} {cc : ByteArray} {maxL : Nat} {ret : Option FieldType}
    (hy : plainName y.cls = true) (hw : ws = Cond.code y cc maxL ret :: ws')
    (body : ∀ p e s m args below meth c s₁, BodyLoose p l y (headSpec ws rm) cc maxL ret e s m args below meth c s₁ → c.maxLocals = maxL → (∀ x ∈ c.exceptionTable.toList, False) → Pc args s →
      W p l e (headSpec ws rm).room s m args below meth c s.heap [] 0 0 (vx_MQ below Qc XC args s mc ms free) (entryFrame m args maxL)) : vx_Met l y ws rm Pc Qc XC mc ms free := by
  refine MetFree.of_bodyS (code := cc) (maxLocals := maxL) (ret := ret) hy ?_ ?_
  · intro args s m h hn
    obtain ⟨meth, c, h1, h2, h3, h4, h5, h6, -, -⟩ := Cond.code_spec hn (atoms_spec (ws := ws) h _ (by rw [hw]; exact List.mem_cons_self))
    exact ⟨meth, c, h1, h2, h3, h4, h5, h6⟩
  · intro p e s m args below meth c s₁ B hml hP _
    have hh0 : s₁.heap = s.heap := by rw [B.state]; rfl
    have ht : ∀ x ∈ c.exceptionTable.toList, False := by
      obtain ⟨meth9, c9, h1, h2, -, -, -, -, h7, -⟩ := Cond.code_spec B.named (atoms_spec (ws := ws) B.pre _ (by rw [hw]; exact List.mem_cons_self))
      cases Option.some.inj (h1.symm.trans B.method)
      cases Option.some.inj (h2.symm.trans (Stand.of_body B).code)
      intro x hx
      rw [Array.isEmpty_iff.mp h7] at hx
      cases hx
    obtain ⟨t, a1, o, b1, b2, b3⟩ := body p e s m args below meth c s₁ B hml ht hP s₁ hh0 (Stand.of_body B)
    exact ⟨t, o, a1, b1, b2, b3⟩
/-- the table of a body with handlers -/
theorem vx_table {p : Program} {x y : MethodName} {S : Spec} {cc bytes : ByteArray} {maxL maxL' : Nat} {ret ret' : Option FieldType} {e : Env} {s s₁ : State} {m : MethodId} {args : Array Value} {below : List Frame} {meth : Method} {c : Code} {hh : List (Nat × Nat × Nat × Nat)}
    (B : BodyLoose p l y S cc maxL ret e s m args below meth c s₁) (h : (Cond.codeWith y bytes maxL' ret' hh).before args s = true) : c.exceptionTable.toList = tableOf hh := by
  obtain ⟨m9, meth9, c9, hn9, h1, h2, -, -, h6, -⟩ := Cond.codeWith_spec h
  cases Option.some.inj (hn9.symm.trans B.named)
  cases Option.some.inj (h1.symm.trans B.method)
  cases Option.some.inj (h2.symm.trans (Stand.of_body B).code)
  rw [← h6, table_eq]
end Bodies
end VXA
/-! ===== END ===== -/
/-! ===== BEGIN a static call of a method with an exception table ===== -/
section VXS
variable {p : Program} {l : Launch} {e : Env} {R : Room} {s : State} {m : MethodId} {args : Array Value} {below : List Frame} {meth : Method} {c : Code} {T : State} {H : Heap} {locs : List Loc} {cells slots : Nat}
abbrev vx_CSW (R : Room) (s : State) (args : Array Value) (own : String) (index : Nat) (y : MethodName) (bytes : ByteArray) (maxL : Nat) (ret : Option FieldType) (hh : List (Nat × Nat × Nat × Nat)) (ws : List Cond) (rm : Room) (mc ms n : Nat) : Prop :=
  (rm.cells = mc ∧ rm.slots = ms ∧ rm.frames + 1 ≤ R.frames ∧ 8 + (maxL + 11) + rm.locals ≤ R.locals ∧ (∀ w ∈ ws, ∀ (a' : Array Value) (U : State), s.WarmedH U.vm → w.before a' U = true) ∧ Cond.codeWith y bytes maxL ret hh ∈ ws) ∧
  (Cond.codeWith y bytes maxL ret hh).before args s = true ∧ (Cond.initialized y.cls).before args s = true ∧ (y.cls ≠ "java/lang/invoke/MethodHandle" ∧ y.cls ≠ "java/lang/invoke/VarHandle") ∧
  (∀ sig, parseMethodDescriptor y.desc = some sig → n = sig.parameters.length) ∧ (Cond.methodLink own index y).before args s = true ∧ (Cond.static y).before args s = true
theorem vx_cwSW {own : String} {index maxL mc ms : Nat} {y : MethodName} {bytes : ByteArray} {ret : Option FieldType} {hh : List (Nat × Nat × Nat × Nat)} {Ts ws ws' : List Cond} {rm : Room} (n : Nat) (ht : ∀ w ∈ Ts, w.before args s = true) (hT : GoodIn Ts (va_wsS own index y ws)) (hw : ws = Cond.codeWith y bytes maxL ret hh :: ws') (hrc : rm.cells = mc) (hrs : rm.slots = ms)
    (hd : y.cls ≠ "java/lang/invoke/MethodHandle" ∧ y.cls ≠ "java/lang/invoke/VarHandle" ∧ (parseMethodDescriptor y.desc).map (fun d => d.parameters.length) = some n) (hR : rm.frames + 1 ≤ R.frames ∧ 8 + (maxL + 11) + rm.locals ≤ R.locals) :
    vx_CSW R s args own index y bytes maxL ret hh ws rm mc ms n := by
  have ok : ∀ w ∈ va_wsS own index y ws, w.before args s = true := fun w h => ht w (hT w h).1
  have hG : GoodIn Ts ws := fun w h => hT w (by unfold va_wsS; exact List.mem_append_right _ h)
  have hc : Cond.codeWith y bytes maxL ret hh ∈ ws := by rw [hw]; exact List.mem_cons_self
  refine ⟨⟨hrc, hrs, hR.1, hR.2, pay_in ht hG, hc⟩, ht _ (hG _ hc).1, ok _ (by simp [va_wsS]), ⟨hd.1, hd.2.1⟩, fun sig h => ?_, ok _ (by simp [va_wsS]), ok _ (by simp [va_wsS])⟩
  have h2 := hd.2.2
  rw [h] at h2
  exact (Option.some.inj h2).symm
theorem vx_callSW (X : Stand p l e R s m args below meth c T locs cells slots) (hexec : p.tables.exec = Jvm.exec) {own : String} {index : Nat} {y : MethodName} {bytes : ByteArray} {maxL : Nat} {ret : Option FieldType} {hh : List (Nat × Nat × Nat × Nat)}
    (hown : s.vm.findClass own = some m.cls) (hlink : (Cond.methodLink own index y).before args s = true) (hstat : (Cond.static y).before args s = true) (hinit : (Cond.initialized y.cls).before args s = true)
    (hcode : (Cond.codeWith y bytes maxL ret hh).before args s = true) (hy : y.cls ≠ "java/lang/invoke/MethodHandle" ∧ y.cls ≠ "java/lang/invoke/VarHandle")
    {W9 : Nat} {Pre : Pt → Array Value → Prop} {Post : Pt → Array Value → Option Value → Pt → Prop} (hK : Back l R p e below s args y 3 W9 Pre Post)
    {g : JFrame} (hg : g.method = m) (hsize : g.locals.size = c.maxLocals) {argsL rest : List Value} (hlen : ∀ sig, parseMethodDescriptor y.desc = some sig → argsL.length = sig.parameters.length)
    (hstack : g.stack = argsL.reverse ++ rest) (hW : 2 * g.monitorRoom + (rest.map fun v => v.category).sum ≤ W9) (hdg : decode c.code g.pc = .ok (.invokestatic index, 3))
    (hpre : ∀ vm₁, s.WarmedH vm₁ → Pre ⟨T.setVm vm₁, locs, cells, slots⟩ argsL.toArray) :
    ∃ (v : Option Value) (vm₁ : Vm) (B : Pt), s.WarmedH vm₁ ∧ Stand p l e R s m args below meth c B.U B.locs B.cells B.slots ∧ Post ⟨T.setVm vm₁, locs, cells, slots⟩ argsL.toArray v B ∧
      ∀ target, Steps p.tables e below (B.U.setTop { g with pc := g.pc + 3, stack := v.toList ++ rest }) target → Steps p.tables e below (T.setTop g) target := by
  obtain ⟨mk, methM, cM, hnamed, hmethM, -, -, -, -, -, -, hsigM⟩ := Cond.codeWith_spec hcode
  have hstatic : methM.isStatic = true := Cond.static_spec hnamed hmethM hstat
  obtain ⟨kP, hkP, -⟩ := className_of_methodNamed hnamed
  have hinitP : kP.init = .initialized := Cond.initialized_spec (findClass_of_methodNamed hnamed) hkP hinit
  obtain ⟨vm₁, X₁, hstep₁⟩ := X.invokestatic hexec hown hlink hnamed hmethM hstatic hkP hinitP hy (g := g) hg (argsL := argsL) (rest := rest) (hlen _ hsigM) hstack hdg
  obtain ⟨v, B, X', hpost, hsteps⟩ := hK m meth c ⟨T.setVm vm₁, locs, cells, slots⟩ { g with stack := rest } (.invokestatic index) mk argsL.toArray X₁ hg hsize hdg hW (X₁.named hnamed) (hpre vm₁ X₁.warmed)
  exact ⟨v, vm₁, B, X₁.warmed, X', hpost, fun target h => hstep₁ _ fun acts => by rw [doInvoke_state]; exact hsteps.trans h⟩
theorem vx_runSW {y : MethodName} {bytes cc : ByteArray} {maxL nL mc ms n index : Nat} {ret : Option FieldType} {hh : List (Nat × Nat × Nat × Nat)} {ws : List Cond} {rm : Room} {Pc : Array Value → State → Prop} {Qc : Array Value → State → Outcome → State → Prop} {free : Addr → Prop} {Ts : List Cond} {own : String} {As rest : List Value} {g : JFrame}
    (S : CallFix p m c cc nL s args Ts own) (hM : Met l y ws rm Pc Qc mc ms free) (cw : vx_CSW R s args own index y bytes maxL ret hh ws rm mc ms n) (hp : PreS s H Pc As)
    (hg : g.method = m) (hn : As.length = n) (hsize : g.locals.size = nL) (hstack : g.stack = As.reverse ++ rest) (hW : 2 * g.monitorRoom + (rest.map fun v => v.category).sum ≤ 8) (hdg : decode cc g.pc = .ok (.invokestatic index, 3)) (hf : cells + mc ≤ R.cells ∧ slots + ms ≤ R.slots) :
    va_Run p l e R s m args below meth c H locs cells slots mc ms g rest (Qc As.toArray) (free) := by
  obtain ⟨⟨hrc, hrs, hfr, hlo, hws, hcw⟩, hcode, hini, hy, hlen, hl, hstt⟩ := cw
  have hK : Back l R p e below s args y 3 8 (PreOf R mc ms Pc) (PostOf Qc mc ms free) := va_backW (hh := hh) (bytes := bytes) (maxL := maxL) (ret := ret) hM hp.1 hrc hrs hfr hlo hws hcw (fun a' U hW => word_at hW (Or.inl (by first | rfl | simp [Cond.onTables, Cond.keeps, Cond.steady])) hini)
  obtain ⟨hx, hb, hml, ho, -⟩ := S
  intro T hT X
  obtain ⟨v, vm₁, ⟨U', l2, c2, s2⟩, hW₁, X', ⟨g', mk, t, L, e1, e2, hq, h1, hL, h2, h3⟩, st⟩ := vx_callSW X hx (hh := hh) (bytes := bytes) (maxL := maxL) (ret := ret) ho hl hstt hini hcode hy hK hg (hsize.trans hml.symm) (argsL := As) (rest := rest) (fun sig h => hn.trans (hlen sig h)) hstack hW (by rw [hb]; exact hdg)
    (fun vm₁ hW₁ => ⟨hf.1, hf.2, hp.2 (T.setVm vm₁) hT hW₁⟩)
  dsimp only [Pt.U, Pt.locs, Pt.cells, Pt.slots] at X' e1 e2 h1 h2 h3 st
  subst h1; subst h2; subst h3
  exact ⟨v, (T.setVm vm₁).calling g' mk As.toArray, t, U', L, hT, X', hL, e1, e2, hq, st⟩
/-- not caught here, past rows that name other classes: it goes on to the caller -/
theorem vx_outP {p : Program} {l : Launch} {e : Env} {R : Room} {s : State} {m : MethodId} {args : Array Value} {below : List Frame} {meth : Method} {c : Code} {H : Heap} {locs : List Loc} {cells slots : Nat} {free : Addr → Prop} {ls : Array Slot} {rest : List Value} {Qc : Array Value → State → Outcome → State → Prop} {XC : String → State → State → Prop}
    {pc : Nat} {own E : String} {ce : Cell} {q : Addr} {mc ms : Nat} (hown : s.vm.findClass own = some m.cls) (hlocks : meth.locks = false)
    (hpass : ∀ z ∈ c.exceptionTable.toList, covers z pc = false ∨ (z.catchType ≠ 0 ∧ ∃ nm : String, (Cond.classLink own z.catchType nm).before args s = true ∧ va_Nc E nm s)) (hcell : H[q]? = some ce) (hv : ce.vm = .none) (hcl : s.vm.findClass E = some ce.cls)
    (hx : ∀ t : State, t.heap = H → s.vm.Alike t.vm → XC E s t) (hf : ∀ z ∈ locs, free z.base) (hc : cells ≤ mc) (hs : slots ≤ ms) :
    vx_W p l e R s m args below meth c H locs cells slots (vx_MQ below Qc XC args s mc ms free) (F0 m pc ls rest) q := by
  intro T hT X
  have hpl : e.platform.magicAccessors = ({} : Platform).magicAccessors := by rw [X.admits.platform]
  obtain ⟨vm', hW', X', st⟩ := X.outThrough hlocks q (g := F0 m pc ls rest) rfl rfl rfl (cell := ce) (by rw [hT]; exact hcell) (by rw [hv]; rfl)
    (by obtain ⟨k9, h9, -⟩ := Vm.findClass_spec hcl; exact ⟨k9, h9⟩) (fun z hz => by
      rcases hpass z hz with h | ⟨hz0, nm, hl1, hn1⟩
      · exact Or.inl h
      · obtain ⟨c6, hc6, hcl6⟩ := Cond.classLink_spec hown hl1 e.platform hpl
        obtain ⟨a8, b8, h1, h2, h3⟩ := hn1
        cases Option.some.inj (h1.symm.trans hcl)
        cases Option.some.inj (h2.symm.trans hc6)
        exact Or.inr ⟨hz0, _, hcl6, h3⟩)
  obtain ⟨g₀, hfr⟩ := X'.frames_eq
  have hcell9 : ((T.setVm vm').setFrames (.throwing q :: below)).heap[q]? = some ce := by
    show T.heap[q]? = some ce
    rw [hT]; exact hcell
  have hend : Ended ((T.setVm vm').setFrames (.throwing q :: below)) below (.threw q) := State.frames_setFrames _ (State.cur_lt_of_frames hfr)
  refine ⟨(T.setVm vm').setFrames (.throwing q :: below), ?_, .threw q, X'.here.running, hend, Or.inr ⟨q, rfl, E, ce, locs, hx _ hT (X'.ends _).1.alike, hcell9, hv, hcl, (X'.ends _).1, (X'.ends _).2.mono hc hs, hf⟩⟩
  rw [X.pushThrowing_eq]
  exact st
/-- a thing of a world lies in the heap -/
theorem vx_lt {D : va_G} {cl : List vw_C} {ws : va_W} {H1 : Heap} (h : va_P D cl ws H1) {k : Nat} {q : Nat × va_E} (hk : ws[k]? = some q) : q.1 < H1.size := (h k q hk).lt
end VXS
/-! ===== END ===== -/
/-! ===== BEGIN methods with a table of their own: called by a name, returning or throwing ===== -/
section VXH
/-! vx_backW, vx_callVX, vx_callSX, vx_callVW, vx_runVW, vx_runVX, vx_runSX, vx_ofWH follow the same proofs as their sisters above (Free/Laws.lean, Shelf42/LK1.lean); vx_outP calls Shelf42/NT130.lean (outThrough). -/
section
variable {l : Launch} {R : Room} {p : Program} {e : Env} {below : List Frame} {s : State} {sargs : Array Value} {y : MethodName} {len W9 : Nat}
theorem vx_backW {ws : List Cond} {rm : Room} {Pc : Array Value → State → Prop} {Qc : Array Value → State → Outcome → State → Prop} {XC : String → State → State → Prop} {mc ms : Nat} {free : Addr → Prop} {bytes : ByteArray} {maxL : Nat} {ret : Option FieldType} {hh : List (Nat × Nat × Nat × Nat)}
    (hM : vx_Met l y ws rm Pc Qc XC mc ms free) (hblind : FrameBlind Pc) (hrc : rm.cells = mc) (hrs : rm.slots = ms)
    (hframes : rm.frames + 1 ≤ R.frames) (hlocals : W9 + (maxL + 11) + rm.locals ≤ R.locals)
    (hws : ∀ w ∈ ws, ∀ a' U, s.WarmedH U.vm → w.before a' U = true) (hcode : Cond.codeWith y bytes maxL ret hh ∈ ws) (hinit : ∀ a' U, s.WarmedH U.vm → (Cond.initialized y.cls).before a' U = true) :
    vx_Back l R p e below s sargs y len W9 (PreOf R mc ms Pc) (PostOf Qc mc ms free) (vx_Post XC mc ms free) := by
  intro m meth c A g ig mk a X hg hsize hdg hW hn hp
  have h1 : (headSpec ws rm).pre.before a A.U = true := atoms_intro fun w hw => hws w hw _ _ X.warmed
  have h2 : (Cond.codeWith y bytes maxL ret hh).before a A.U = true := hws _ hcode _ _ X.warmed
  have h3 : (Cond.initialized y.cls).before a A.U = true := hinit _ _ X.warmed
  have h4 : A.cells + (headSpec ws rm).room.cells ≤ R.cells := by rw [show (headSpec ws rm).room.cells = mc from hrc]; exact hp.1
  have h5 : A.slots + (headSpec ws rm).room.slots ≤ R.slots := by rw [show (headSpec ws rm).room.slots = ms from hrs]; exact hp.2.1
  have hPc : Pc a (A.U.calling g mk a) := hblind _ _ _ _ hp.2.2
  obtain ⟨U, Ls, c0, s0⟩ := A
  dsimp only [Pt.U, Pt.locs, Pt.cells, Pt.slots] at h1 h2 h3 h4 h5 X hn hPc ⊢
  obtain ⟨m9, methY, cY, hn9, hmY, hcY, -, hlY, -⟩ := Cond.codeWith_spec h2
  cases Option.some.inj (hn9.symm.trans hn)
  obtain ⟨kY, hkY, -⟩ := className_of_methodNamed hn
  have hinitY : kY.init = .initialized := Cond.initialized_spec (findClass_of_methodNamed hn) hkY h3
  have h : At U g.method c below := by rw [hg]; exact X.here
  have hlocals9 : W9 + (maxL + 11) + (headSpec ws rm).room.locals ≤ R.locals := hlocals
  have happ : (headSpec ws rm).appliesLoose y e.platform (U.calling g mk a) = true :=
    Spec.appliesLoose_calling (g := g) h hdg hn hkY hinitY
      (X.room_calling (g := g) (R' := (headSpec ws rm).room) hsize hmY hcY hframes (by rw [hlY]; omega) h4 h5) h1
  obtain ⟨mid, hmid⟩ := h.above
  have hfr : (U.setTop g).frames = (.java g :: mid) ++ below := by rw [State.frames_setTop' g h.top, hmid]; rfl
  obtain ⟨o, s₂, hsteps, -, hend, hq⟩ := Steps.callFree hM p X.admits X.cas X.clock (acts := []) hfr happ hPc trivial
  have hq' : vx_Q Qc XC mc ms free a (U.calling g mk a) o s₂ := hq
  rw [State.frames_setTop' g h.top] at hend
  obtain ⟨g₀, hg0⟩ := Option.isSome_iff_exists.mp h.top
  obtain ⟨r, hr⟩ := State.topJava?_eq_some.mp hg0
  have hr' : (({ U with heap := s₂.heap, slotsUsed := s₂.slotsUsed } : State).setVm s₂.vm).frames = .java g₀ :: r := hr
  rcases hq' with ⟨hqc, L, hfe, hL⟩ | ⟨q, rfl, E, ce, L, hx, hce, hcv, hcl, hW₂, hsm, hL⟩
  · obtain ⟨⟨v, rfl⟩, hW₂, e2, q2, q3, q4, q5, q6⟩ := id hfe
    have e3 : s₂ = ({ (U.calling g mk a).setFrames s₂.frames with heap := s₂.heap, slotsUsed := s₂.slotsUsed } : State).setVm s₂.vm := by
      have : s₂ = ({ s₂ with vm := (U.calling g mk a).vm } : State).setVm s₂.vm := rfl
      rw [e2] at this
      exact this
    obtain ⟨c₂, i₂, len₂, hc₂, hd₂, hf₂⟩ := hend
    have hW' : U.WarmedH s₂.vm := hW₂
    have hcc : c₂ = c := by
      have h1 : s₂.code? g.method = U.code? g.method := by
        rw [State.code?_eq, State.code?_eq, hW'.alike.method?]
      exact Option.some.inj (hc₂.symm.trans (h1.trans h.code))
    subst hcc
    have hlen : len₂ = len := by rw [hdg] at hd₂; cases hd₂; rfl
    subst hlen
    have hs₂ : s₂ = (({ U with heap := s₂.heap, slotsUsed := s₂.slotsUsed } : State).setVm s₂.vm).setTop { g with pc := g.pc + len₂, stack := v.toList ++ g.stack } := by
      refine e3.trans ?_
      rw [hf₂, State.calling_eq h.top, State.setFrames_setFrames, State.setTop_of_frames _ hr', hr]
      rfl
    have hsame : U.sameButNew ({ U with heap := s₂.heap, slotsUsed := s₂.slotsUsed } : State) L mc ms := by
      refine ⟨?_, q2, q3, q4, q5, q6⟩
      obtain ⟨t, ht, -⟩ := State.frames_cons hr
      show ({ U with heap := s₂.heap, slotsUsed := s₂.slotsUsed } : State) = { U.setFrames U.frames with heap := s₂.heap, slotsUsed := s₂.slotsUsed }
      rw [State.setFrames_self ht]
    subst hg
    refine Or.inl ⟨v, ⟨(({ U with heap := s₂.heap, slotsUsed := s₂.slotsUsed } : State).setVm s₂.vm), Ls ++ L, c0 + mc, s0 + ms⟩,
      ⟨X.admits, X.cas, X.clock, X.frames, X.room, X.hears, X.method, X.code, (X.here.setHeapUsed s₂.heap s₂.slotsUsed).setVm hW'.alike, X.tail, State.WarmedH.trans X.warmed hW', X.limits, X.bytes, X.same.trans (hsame.setVm s.vm)⟩,
      ⟨g, mk, s₂, L, rfl, rfl, hqc, rfl, hL, rfl, rfl⟩, ?_⟩
    show Steps p.tables e below _ ((({ U with heap := s₂.heap, slotsUsed := s₂.slotsUsed } : State).setVm s₂.vm).setTop { g with pc := g.pc + len₂, stack := v.toList ++ g.stack })
    rw [← hs₂]
    exact hsteps
  · obtain ⟨e2, q2, q3, q4, q5, q6⟩ := id hsm
    have e3 : s₂ = ({ (U.calling g mk a).setFrames s₂.frames with heap := s₂.heap, slotsUsed := s₂.slotsUsed } : State).setVm s₂.vm := by
      have : s₂ = ({ s₂ with vm := (U.calling g mk a).vm } : State).setVm s₂.vm := rfl
      rw [e2] at this
      exact this
    have hf₂ : s₂.frames = .throwing q :: .java g :: U.frames.tail := hend
    have hW' : U.WarmedH s₂.vm := hW₂
    have hs₂ : s₂ = ((({ U with heap := s₂.heap, slotsUsed := s₂.slotsUsed } : State).setVm s₂.vm).setTop g).pushFrame (.throwing q) := by
      refine e3.trans ?_
      rw [hf₂, State.calling_eq h.top, State.setFrames_setFrames, State.pushFrame, State.frames_setTop _ hr', State.setTop_of_frames _ hr', State.setFrames_setFrames, hr]
      rfl
    have hsame : U.sameButNew ({ U with heap := s₂.heap, slotsUsed := s₂.slotsUsed } : State) L mc ms := by
      refine ⟨?_, q2, q3, q4, q5, q6⟩
      obtain ⟨t, ht, -⟩ := State.frames_cons hr
      show ({ U with heap := s₂.heap, slotsUsed := s₂.slotsUsed } : State) = { U.setFrames U.frames with heap := s₂.heap, slotsUsed := s₂.slotsUsed }
      rw [State.setFrames_self ht]
    subst hg
    refine Or.inr ⟨q, ⟨(({ U with heap := s₂.heap, slotsUsed := s₂.slotsUsed } : State).setVm s₂.vm), Ls ++ L, c0 + mc, s0 + ms⟩,
      ⟨X.admits, X.cas, X.clock, X.frames, X.room, X.hears, X.method, X.code, (X.here.setHeapUsed s₂.heap s₂.slotsUsed).setVm hW'.alike, X.tail, State.WarmedH.trans X.warmed hW', X.limits, X.bytes, X.same.trans (hsame.setVm s.vm)⟩,
      ⟨g, mk, s₂, L, E, ce, rfl, rfl, hx, hce, hcv, hcl, rfl, hL, rfl, rfl⟩, ?_⟩
    show Steps p.tables e below _ (((({ U with heap := s₂.heap, slotsUsed := s₂.slotsUsed } : State).setVm s₂.vm).setTop g).pushFrame (.throwing q))
    rw [← hs₂]
    exact hsteps
end
variable {p : Program} {l : Launch} {e : Env} {R : Room} {s : State} {m : MethodId} {args : Array Value} {below : List Frame} {meth : Method} {c : Code} {T : State} {H : Heap} {locs : List Loc} {cells slots : Nat}
theorem vx_callVX (X : Stand p l e R s m args below meth c T locs cells slots) (hexec : p.tables.exec = Jvm.exec) {own C : String} {index : Nat} {y : MethodName} {bytes : ByteArray} {maxL : Nat} {ret : Option FieldType} {hh : List (Nat × Nat × Nat × Nat)}
    (hown : s.vm.findClass own = some m.cls) (hlink : (Cond.methodLink own index y).before args s = true) (hinst : (Cond.instanceMethod y).before args s = true) (hsel : (Cond.selects C y y).before args s = true)
    (hcode : (Cond.codeWith y bytes maxL ret hh).before args s = true) (hy : y.cls ≠ "java/lang/invoke/MethodHandle" ∧ y.cls ≠ "java/lang/invoke/VarHandle")
    {W9 : Nat} {Pre : Pt → Array Value → Prop} {Post : Pt → Array Value → Option Value → Pt → Prop} {PostX : Pt → Array Value → Addr → Pt → Prop} (hK : vx_Back l R p e below s args y 3 W9 Pre Post PostX)
    {b : Addr} {cellB : Cell} (hcell : T.heap[b]? = some cellB) (hobj : cellB.vm.isStatics = false) (hcls : s.vm.findClass C = some cellB.cls)
    {g : JFrame} (hg : g.method = m) (hsize : g.locals.size = c.maxLocals) {argsL rest : List Value} (hlen : ∀ sig, parseMethodDescriptor y.desc = some sig → argsL.length = sig.parameters.length)
    (hstack : g.stack = argsL.reverse ++ .ref b :: rest) (hW : 2 * g.monitorRoom + (rest.map fun v => v.category).sum ≤ W9) (hdg : decode c.code g.pc = .ok (.invokevirtual index, 3))
    (hpre : ∀ vm₁, s.WarmedH vm₁ → Pre ⟨T.setVm vm₁, locs, cells, slots⟩ (Value.ref b :: argsL).toArray) :
    (∃ (v : Option Value) (vm₁ : Vm) (B : Pt), s.WarmedH vm₁ ∧ Stand p l e R s m args below meth c B.U B.locs B.cells B.slots ∧ Post ⟨T.setVm vm₁, locs, cells, slots⟩ (Value.ref b :: argsL).toArray v B ∧
      ∀ target, Steps p.tables e below (B.U.setTop { g with pc := g.pc + 3, stack := v.toList ++ rest }) target → Steps p.tables e below (T.setTop g) target) ∨
    (∃ (q : Addr) (vm₁ : Vm) (B : Pt), s.WarmedH vm₁ ∧ Stand p l e R s m args below meth c B.U B.locs B.cells B.slots ∧ PostX ⟨T.setVm vm₁, locs, cells, slots⟩ (Value.ref b :: argsL).toArray q B ∧
      Steps p.tables e below (T.setTop g) ((B.U.setTop { g with stack := rest }).pushFrame (.throwing q))) := by
  obtain ⟨mk, methM, hnamed, hmethM, hstM, habM⟩ := Cond.instanceMethod_spec hinst
  obtain ⟨m8, methM', cM, hn8, hmethM', -, -, -, -, -, -, hsigM⟩ := Cond.codeWith_spec hcode
  cases Option.some.inj (hn8.symm.trans hnamed)
  cases hmethM.symm.trans hmethM'
  obtain ⟨c2, r2, m2, q1, q2, q3, q4, kP, hkP, hkPi⟩ := Cond.selects_spec hsel
  cases hcls.symm.trans q1
  cases (State.methodFound?_of_named hnamed hy).symm.trans q2
  cases hnamed.symm.trans q3
  have hselP : selectMethod e.platform s.vm cellB.cls mk = .method mk := by rw [Launch.admits_selectMethod X.admits]; exact q4
  obtain ⟨vm₁, X₁, hstep₁⟩ := X.invokevirtual hexec hown hlink hnamed hmethM hstM hkP hkPi hy (a := b) (cell := cellB) hcell
    (fun z h => by rw [h] at hobj; cases hobj) hselP hmethM habM hkP hkPi (g := g) hg (argsL := argsL) (rest := rest) (hlen _ hsigM) hstack hdg
  rcases hK m meth c ⟨T.setVm vm₁, locs, cells, slots⟩ { g with stack := rest } (.invokevirtual index) mk (Value.ref b :: argsL).toArray X₁ hg hsize hdg hW (X₁.named hnamed) (hpre vm₁ X₁.warmed) with ⟨v, B, X', hpost, hsteps⟩ | ⟨q, B, X', hpost, hsteps⟩
  · exact Or.inl ⟨v, vm₁, B, X₁.warmed, X', hpost, fun target h => hstep₁ _ fun acts => by rw [doInvoke_state]; exact hsteps.trans h⟩
  · exact Or.inr ⟨q, vm₁, B, X₁.warmed, X', hpost, hstep₁ _ fun acts => by rw [doInvoke_state]; exact hsteps⟩
theorem vx_callSX (X : Stand p l e R s m args below meth c T locs cells slots) (hexec : p.tables.exec = Jvm.exec) {own : String} {index : Nat} {y : MethodName} {bytes : ByteArray} {maxL : Nat} {ret : Option FieldType} {hh : List (Nat × Nat × Nat × Nat)}
    (hown : s.vm.findClass own = some m.cls) (hlink : (Cond.methodLink own index y).before args s = true) (hstat : (Cond.static y).before args s = true) (hinit : (Cond.initialized y.cls).before args s = true)
    (hcode : (Cond.codeWith y bytes maxL ret hh).before args s = true) (hy : y.cls ≠ "java/lang/invoke/MethodHandle" ∧ y.cls ≠ "java/lang/invoke/VarHandle")
    {W9 : Nat} {Pre : Pt → Array Value → Prop} {Post : Pt → Array Value → Option Value → Pt → Prop} {PostX : Pt → Array Value → Addr → Pt → Prop} (hK : vx_Back l R p e below s args y 3 W9 Pre Post PostX)
    {g : JFrame} (hg : g.method = m) (hsize : g.locals.size = c.maxLocals) {argsL rest : List Value} (hlen : ∀ sig, parseMethodDescriptor y.desc = some sig → argsL.length = sig.parameters.length)
    (hstack : g.stack = argsL.reverse ++ rest) (hW : 2 * g.monitorRoom + (rest.map fun v => v.category).sum ≤ W9) (hdg : decode c.code g.pc = .ok (.invokestatic index, 3))
    (hpre : ∀ vm₁, s.WarmedH vm₁ → Pre ⟨T.setVm vm₁, locs, cells, slots⟩ argsL.toArray) :
    (∃ (v : Option Value) (vm₁ : Vm) (B : Pt), s.WarmedH vm₁ ∧ Stand p l e R s m args below meth c B.U B.locs B.cells B.slots ∧ Post ⟨T.setVm vm₁, locs, cells, slots⟩ argsL.toArray v B ∧
      ∀ target, Steps p.tables e below (B.U.setTop { g with pc := g.pc + 3, stack := v.toList ++ rest }) target → Steps p.tables e below (T.setTop g) target) ∨
    (∃ (q : Addr) (vm₁ : Vm) (B : Pt), s.WarmedH vm₁ ∧ Stand p l e R s m args below meth c B.U B.locs B.cells B.slots ∧ PostX ⟨T.setVm vm₁, locs, cells, slots⟩ argsL.toArray q B ∧
      Steps p.tables e below (T.setTop g) ((B.U.setTop { g with stack := rest }).pushFrame (.throwing q))) := by
  obtain ⟨mk, methM, cM, hnamed, hmethM, -, -, -, -, -, -, hsigM⟩ := Cond.codeWith_spec hcode
  have hstatic : methM.isStatic = true := Cond.static_spec hnamed hmethM hstat
  obtain ⟨kP, hkP, -⟩ := className_of_methodNamed hnamed
  have hinitP : kP.init = .initialized := Cond.initialized_spec (findClass_of_methodNamed hnamed) hkP hinit
  obtain ⟨vm₁, X₁, hstep₁⟩ := X.invokestatic hexec hown hlink hnamed hmethM hstatic hkP hinitP hy (g := g) hg (argsL := argsL) (rest := rest) (hlen _ hsigM) hstack hdg
  rcases hK m meth c ⟨T.setVm vm₁, locs, cells, slots⟩ { g with stack := rest } (.invokestatic index) mk argsL.toArray X₁ hg hsize hdg hW (X₁.named hnamed) (hpre vm₁ X₁.warmed) with ⟨v, B, X', hpost, hsteps⟩ | ⟨q, B, X', hpost, hsteps⟩
  · exact Or.inl ⟨v, vm₁, B, X₁.warmed, X', hpost, fun target h => hstep₁ _ fun acts => by rw [doInvoke_state]; exact hsteps.trans h⟩
  · exact Or.inr ⟨q, vm₁, B, X₁.warmed, X', hpost, hstep₁ _ fun acts => by rw [doInvoke_state]; exact hsteps⟩
theorem vx_callVW (X : Stand p l e R s m args below meth c T locs cells slots) (hexec : p.tables.exec = Jvm.exec) {own C : String} {index : Nat} {y : MethodName} {bytes : ByteArray} {maxL : Nat} {ret : Option FieldType} {hh : List (Nat × Nat × Nat × Nat)}
    (hown : s.vm.findClass own = some m.cls) (hlink : (Cond.methodLink own index y).before args s = true) (hinst : (Cond.instanceMethod y).before args s = true) (hsel : (Cond.selects C y y).before args s = true)
    (hcode : (Cond.codeWith y bytes maxL ret hh).before args s = true) (hy : y.cls ≠ "java/lang/invoke/MethodHandle" ∧ y.cls ≠ "java/lang/invoke/VarHandle")
    {W9 : Nat} {Pre : Pt → Array Value → Prop} {Post : Pt → Array Value → Option Value → Pt → Prop} (hK : Back l R p e below s args y 3 W9 Pre Post)
    {b : Addr} {cellB : Cell} (hcell : T.heap[b]? = some cellB) (hobj : cellB.vm.isStatics = false) (hcls : s.vm.findClass C = some cellB.cls)
    {g : JFrame} (hg : g.method = m) (hsize : g.locals.size = c.maxLocals) {argsL rest : List Value} (hlen : ∀ sig, parseMethodDescriptor y.desc = some sig → argsL.length = sig.parameters.length)
    (hstack : g.stack = argsL.reverse ++ .ref b :: rest) (hW : 2 * g.monitorRoom + (rest.map fun v => v.category).sum ≤ W9) (hdg : decode c.code g.pc = .ok (.invokevirtual index, 3))
    (hpre : ∀ vm₁, s.WarmedH vm₁ → Pre ⟨T.setVm vm₁, locs, cells, slots⟩ (Value.ref b :: argsL).toArray) :
    ∃ (v : Option Value) (vm₁ : Vm) (B : Pt), s.WarmedH vm₁ ∧ Stand p l e R s m args below meth c B.U B.locs B.cells B.slots ∧ Post ⟨T.setVm vm₁, locs, cells, slots⟩ (Value.ref b :: argsL).toArray v B ∧
      ∀ target, Steps p.tables e below (B.U.setTop { g with pc := g.pc + 3, stack := v.toList ++ rest }) target → Steps p.tables e below (T.setTop g) target := by
  obtain ⟨mk, methM, hnamed, hmethM, hstM, habM⟩ := Cond.instanceMethod_spec hinst
  obtain ⟨m8, methM', cM, hn8, hmethM', -, -, -, -, -, -, hsigM⟩ := Cond.codeWith_spec hcode
  cases Option.some.inj (hn8.symm.trans hnamed)
  cases hmethM.symm.trans hmethM'
  obtain ⟨c2, r2, m2, q1, q2, q3, q4, kP, hkP, hkPi⟩ := Cond.selects_spec hsel
  cases hcls.symm.trans q1
  cases (State.methodFound?_of_named hnamed hy).symm.trans q2
  cases hnamed.symm.trans q3
  have hselP : selectMethod e.platform s.vm cellB.cls mk = .method mk := by rw [Launch.admits_selectMethod X.admits]; exact q4
  obtain ⟨vm₁, X₁, hstep₁⟩ := X.invokevirtual hexec hown hlink hnamed hmethM hstM hkP hkPi hy (a := b) (cell := cellB) hcell
    (fun z h => by rw [h] at hobj; cases hobj) hselP hmethM habM hkP hkPi (g := g) hg (argsL := argsL) (rest := rest) (hlen _ hsigM) hstack hdg
  obtain ⟨v, B, X', hpost, hsteps⟩ := hK m meth c ⟨T.setVm vm₁, locs, cells, slots⟩ { g with stack := rest } (.invokevirtual index) mk (Value.ref b :: argsL).toArray X₁ hg hsize hdg hW (X₁.named hnamed) (hpre vm₁ X₁.warmed)
  exact ⟨v, vm₁, B, X₁.warmed, X', hpost, fun target h => hstep₁ _ fun acts => by rw [doInvoke_state]; exact hsteps.trans h⟩
abbrev vx_CVW (R : Room) (s : State) (args : Array Value) (own C : String) (index : Nat) (y : MethodName) (bytes : ByteArray) (maxL : Nat) (ret : Option FieldType) (hh : List (Nat × Nat × Nat × Nat)) (ws : List Cond) (rm : Room) (mc ms n : Nat) : Prop :=
  (rm.cells = mc ∧ rm.slots = ms ∧ rm.frames + 1 ≤ R.frames ∧ 8 + (maxL + 11) + rm.locals ≤ R.locals ∧ (∀ w ∈ ws, ∀ (a' : Array Value) (U : State), s.WarmedH U.vm → w.before a' U = true) ∧ Cond.codeWith y bytes maxL ret hh ∈ ws) ∧
  (Cond.codeWith y bytes maxL ret hh).before args s = true ∧ (Cond.initialized y.cls).before args s = true ∧ (y.cls ≠ "java/lang/invoke/MethodHandle" ∧ y.cls ≠ "java/lang/invoke/VarHandle") ∧
  (∀ sig, parseMethodDescriptor y.desc = some sig → n = sig.parameters.length) ∧ (Cond.methodLink own index y).before args s = true ∧ (Cond.instanceMethod y).before args s = true ∧ (Cond.selects C y y).before args s = true
theorem vx_cwVW {own C : String} {index maxL mc ms : Nat} {y : MethodName} {bytes : ByteArray} {ret : Option FieldType} {hh : List (Nat × Nat × Nat × Nat)} {Ts ws ws' : List Cond} {rm : Room} (n : Nat) (ht : ∀ w ∈ Ts, w.before args s = true) (hT : GoodIn Ts (wsV own index C y ws)) (hw : ws = Cond.codeWith y bytes maxL ret hh :: ws') (hrc : rm.cells = mc) (hrs : rm.slots = ms)
    (hd : y.cls = C ∧ y.cls ≠ "java/lang/invoke/MethodHandle" ∧ y.cls ≠ "java/lang/invoke/VarHandle" ∧ (parseMethodDescriptor y.desc).map (fun d => d.parameters.length) = some n) (hR : rm.frames + 1 ≤ R.frames ∧ 8 + (maxL + 11) + rm.locals ≤ R.locals) :
    vx_CVW R s args own C index y bytes maxL ret hh ws rm mc ms n := by
  obtain ⟨hC, hd⟩ := hd
  subst hC
  have ok : ∀ w ∈ wsV own index y.cls y ws, w.before args s = true := fun w h => ht w (hT w h).1
  have hG : GoodIn Ts ws := fun w h => hT w (by unfold wsV; exact List.mem_append_right _ h)
  have hc : Cond.codeWith y bytes maxL ret hh ∈ ws := by rw [hw]; exact List.mem_cons_self
  refine ⟨⟨hrc, hrs, hR.1, hR.2, pay_in ht hG, hc⟩, ht _ (hG _ hc).1, ok _ (by simp [wsV]), ⟨hd.1, hd.2.1⟩, fun sig h => ?_, ok _ (by simp [wsV]), ok _ (by simp [wsV]), ok _ (by simp [wsV])⟩
  have h2 := hd.2.2
  rw [h] at h2
  exact (Option.some.inj h2).symm
theorem vx_runVW {y : MethodName} {bytes cc : ByteArray} {maxL nL mc ms n index : Nat} {ret : Option FieldType} {hh : List (Nat × Nat × Nat × Nat)} {ws : List Cond} {rm : Room} {Pc : Array Value → State → Prop} {Qc : Array Value → State → Outcome → State → Prop} {free : Addr → Prop} {Ts : List Cond} {own C : String} {b : Addr} {As rest : List Value} {g : JFrame}
    (S : CallFix p m c cc nL s args Ts own) (hM : Met l y ws rm Pc Qc mc ms free) (cw : vx_CVW R s args own C index y bytes maxL ret hh ws rm mc ms n) (hp : PreV s H C b Pc As)
    (hg : g.method = m) (hn : As.length = n) (hsize : g.locals.size = nL) (hstack : g.stack = As.reverse ++ .ref b :: rest) (hW : 2 * g.monitorRoom + (rest.map fun v => v.category).sum ≤ 8) (hdg : decode cc g.pc = .ok (.invokevirtual index, 3)) (hf : cells + mc ≤ R.cells ∧ slots + ms ≤ R.slots) :
    va_Run p l e R s m args below meth c H locs cells slots mc ms g rest (Qc (Value.ref b :: As).toArray) free := by
  obtain ⟨⟨hrc, hrs, hfr, hlo, hws, hcw⟩, hcode, hini, hy, hlen, hl, hin, hse⟩ := cw
  have hK : Back l R p e below s args y 3 8 (PreOf R mc ms Pc) (PostOf Qc mc ms free) := va_backW (hh := hh) (bytes := bytes) (maxL := maxL) (ret := ret) hM hp.1 hrc hrs hfr hlo hws hcw (fun a' U hW => word_at hW (Or.inl (by first | rfl | simp [Cond.onTables, Cond.keeps, Cond.steady])) hini)
  obtain ⟨hx, hb, hml, ho, -⟩ := S
  obtain ⟨-, ⟨cellB, hcB, hoB, hclB⟩, hPc⟩ := hp
  intro T hT X
  obtain ⟨v, vm₁, ⟨U', l2, c2, s2⟩, hW₁, X', ⟨g', mk, t, L, e1, e2, hq, h1, hL, h2, h3⟩, st⟩ := vx_callVW X hx (C := C) (hh := hh) (bytes := bytes) (maxL := maxL) (ret := ret) ho hl hin hse hcode hy hK (by rw [hT]; exact hcB) hoB hclB hg (hsize.trans hml.symm) (argsL := As) (rest := rest) (fun sig h => hn.trans (hlen sig h)) hstack hW (by rw [hb]; exact hdg)
    (fun vm₁ hW₁ => ⟨hf.1, hf.2, hPc (T.setVm vm₁) hT hW₁⟩)
  dsimp only [Pt.U, Pt.locs, Pt.cells, Pt.slots] at X' e1 e2 h1 h2 h3 st
  subst h1; subst h2; subst h3
  exact ⟨v, (T.setVm vm₁).calling g' mk (Value.ref b :: As).toArray, t, U', L, hT, X', hL, e1, e2, hq, st⟩
section
variable {y : MethodName} {bytes cc : ByteArray} {maxL nL mc ms n index : Nat} {ret : Option FieldType} {ws : List Cond} {rm : Room} {Pc : Array Value → State → Prop} {Qc : Array Value → State → Outcome → State → Prop} {XC : String → State → State → Prop} {free : Addr → Prop} {Ts : List Cond} {own C : String} {b : Addr} {As rest : List Value} {g : JFrame}
theorem vx_runVX {hh : List (Nat × Nat × Nat × Nat)} (S : CallFix p m c cc nL s args Ts own) (hM : vx_Met l y ws rm Pc Qc XC mc ms free) (cw : vx_CVW R s args own C index y bytes maxL ret hh ws rm mc ms n) (hp : PreV s H C b Pc As)
    (hg : g.method = m) (hn : As.length = n) (hsize : g.locals.size = nL) (hstack : g.stack = As.reverse ++ .ref b :: rest) (hW : 2 * g.monitorRoom + (rest.map fun v => v.category).sum ≤ 8) (hdg : decode cc g.pc = .ok (.invokevirtual index, 3)) (hf : cells + mc ≤ R.cells ∧ slots + ms ≤ R.slots) :
    vx_Run p l e R s m args below meth c H locs cells slots mc ms g rest (Qc (Value.ref b :: As).toArray) XC free := by
  obtain ⟨⟨hrc, hrs, hfr, hlo, hws, hcw⟩, hcode, hini, hy, hlen, hl, hin, hse⟩ := cw
  have hK : vx_Back l R p e below s args y 3 8 (PreOf R mc ms Pc) (PostOf Qc mc ms free) (vx_Post XC mc ms free) := vx_backW (hh := hh) (bytes := bytes) (maxL := maxL) (ret := ret) hM hp.1 hrc hrs hfr hlo hws hcw (fun a' U hW => word_at hW (Or.inl (by first | rfl | simp [Cond.onTables, Cond.keeps, Cond.steady])) hini)
  obtain ⟨hx, hb, hml, ho, -⟩ := S
  obtain ⟨-, ⟨cellB, hcB, hoB, hclB⟩, hPc⟩ := hp
  intro T hT X
  rcases vx_callVX X hx (C := C) (hh := hh) (bytes := bytes) (maxL := maxL) (ret := ret) ho hl hin hse hcode hy hK (by rw [hT]; exact hcB) hoB hclB hg (hsize.trans hml.symm) (argsL := As) (rest := rest) (fun sig h => hn.trans (hlen sig h)) hstack hW (by rw [hb]; exact hdg)
    (fun vm₁ hW₁ => ⟨hf.1, hf.2, hPc (T.setVm vm₁) hT hW₁⟩) with ⟨v, vm₁, ⟨U', l2, c2, s2⟩, hW₁, X', ⟨g', mk, t, L, e1, e2, hq, h1, hL, h2, h3⟩, st⟩ | ⟨q, vm₁, ⟨U', l2, c2, s2⟩, hW₁, X', ⟨g', mk, t, L, E, ce, e1, e2, hq, hce, hcv, hcl, h1, hL, h2, h3⟩, st⟩
  · dsimp only [Pt.U, Pt.locs, Pt.cells, Pt.slots] at X' e1 e2 h1 h2 h3 st
    subst h1; subst h2; subst h3
    exact Or.inl ⟨v, (T.setVm vm₁).calling g' mk (Value.ref b :: As).toArray, t, U', L, hT, X', hL, e1, e2, hq, st⟩
  · dsimp only [Pt.U, Pt.locs, Pt.cells, Pt.slots] at X' e1 e2 h1 h2 h3 st hcl
    subst h1; subst h2; subst h3
    exact Or.inr ⟨q, (T.setVm vm₁).calling g' mk (Value.ref b :: As).toArray, t, U', L, E, ce, hT, X', hL, e1, e2, hq, hce, hcv, vx_cls hW₁ hcl, st⟩
theorem vx_runSX {hh : List (Nat × Nat × Nat × Nat)} (S : CallFix p m c cc nL s args Ts own) (hM : vx_Met l y ws rm Pc Qc XC mc ms free) (cw : vx_CSW R s args own index y bytes maxL ret hh ws rm mc ms n) (hp : PreS s H Pc As)
    (hg : g.method = m) (hn : As.length = n) (hsize : g.locals.size = nL) (hstack : g.stack = As.reverse ++ rest) (hW : 2 * g.monitorRoom + (rest.map fun v => v.category).sum ≤ 8) (hdg : decode cc g.pc = .ok (.invokestatic index, 3)) (hf : cells + mc ≤ R.cells ∧ slots + ms ≤ R.slots) :
    vx_Run p l e R s m args below meth c H locs cells slots mc ms g rest (Qc As.toArray) XC free := by
  obtain ⟨⟨hrc, hrs, hfr, hlo, hws, hcw⟩, hcode, hini, hy, hlen, hl, hstt⟩ := cw
  have hK : vx_Back l R p e below s args y 3 8 (PreOf R mc ms Pc) (PostOf Qc mc ms free) (vx_Post XC mc ms free) := vx_backW (hh := hh) (bytes := bytes) (maxL := maxL) (ret := ret) hM hp.1 hrc hrs hfr hlo hws hcw (fun a' U hW => word_at hW (Or.inl (by first | rfl | simp [Cond.onTables, Cond.keeps, Cond.steady])) hini)
  obtain ⟨hx, hb, hml, ho, -⟩ := S
  intro T hT X
  rcases vx_callSX X hx (hh := hh) (bytes := bytes) (maxL := maxL) (ret := ret) ho hl hstt hini hcode hy hK hg (hsize.trans hml.symm) (argsL := As) (rest := rest) (fun sig h => hn.trans (hlen sig h)) hstack hW (by rw [hb]; exact hdg)
    (fun vm₁ hW₁ => ⟨hf.1, hf.2, hp.2 (T.setVm vm₁) hT hW₁⟩) with ⟨v, vm₁, ⟨U', l2, c2, s2⟩, hW₁, X', ⟨g', mk, t, L, e1, e2, hq, h1, hL, h2, h3⟩, st⟩ | ⟨q, vm₁, ⟨U', l2, c2, s2⟩, hW₁, X', ⟨g', mk, t, L, E, ce, e1, e2, hq, hce, hcv, hcl, h1, hL, h2, h3⟩, st⟩
  · dsimp only [Pt.U, Pt.locs, Pt.cells, Pt.slots] at X' e1 e2 h1 h2 h3 st
    subst h1; subst h2; subst h3
    exact Or.inl ⟨v, (T.setVm vm₁).calling g' mk As.toArray, t, U', L, hT, X', hL, e1, e2, hq, st⟩
  · dsimp only [Pt.U, Pt.locs, Pt.cells, Pt.slots] at X' e1 e2 h1 h2 h3 st hcl
    subst h1; subst h2; subst h3
    exact Or.inr ⟨q, (T.setVm vm₁).calling g' mk As.toArray, t, U', L, E, ce, hT, X', hL, e1, e2, hq, hce, hcv, vx_cls hW₁ hcl, st⟩
end
end VXH
theorem vx_ofWH {l : Launch} {y : MethodName} {ws ws' : List Cond} {rm : Room} {Pc : Array Value → State → Prop} {Qc : Array Value → State → Outcome → State → Prop} {XC : String → State → State → Prop} {mc ms : Nat} {free : Addr → Prop} {cc : ByteArray} {maxL : Nat} {ret : Option FieldType} {hh : List (Nat × Nat × Nat × Nat)}
    (hy : plainName y.cls = true) (hw : ws = Cond.codeWith y cc maxL ret hh :: ws')
    (body : ∀ p e s m args below meth c s₁, BodyLoose p l y (headSpec ws rm) cc maxL ret e s m args below meth c s₁ → c.maxLocals = maxL → Pc args s →
      W p l e (headSpec ws rm).room s m args below meth c s.heap [] 0 0 (vx_MQ below Qc XC args s mc ms free) (entryFrame m args maxL)) : vx_Met l y ws rm Pc Qc XC mc ms free := by
  refine MetFree.of_bodyS (code := cc) (maxLocals := maxL) (ret := ret) hy ?_ ?_
  · intro args s m h hn
    obtain ⟨m9, meth, c, hn9, h1, h2, h3, h4, -, h5, h6, -⟩ := Cond.codeWith_spec (atoms_spec (ws := ws) h _ (by rw [hw]; exact List.mem_cons_self))
    cases hn.symm.trans hn9
    exact ⟨meth, c, h1, h2, h3, h4, h5, h6⟩
  · intro p e s m args below meth c s₁ B hml hP _
    have hh0 : s₁.heap = s.heap := by rw [B.state]; rfl
    obtain ⟨t, a1, o, b1, b2, b3⟩ := body p e s m args below meth c s₁ B hml hP s₁ hh0 (Stand.of_body B)
    exact ⟨t, o, a1, b1, b2, b3⟩
/-! ===== END ===== -/

/-! ===== BEGIN what the machine throws by itself, no traces kept ===== -/
section VXM
set_option maxHeartbeats 1000000 in
/-- the machine throws cls with the message text, no traces kept: from its note over the frame g to 'throwing' over the same frame (follows the proofs of Stand.vmThrowsMessage, Shelf/KitTracedVmS.lean, and Stand.throwsMessageColdBareV, StandMessageColdV.lean, without the step out of the frame) -/
theorem vx_vmAt {p : Program} {l : Launch} {e : Env} {R : Room} {s : State} {m₀ : MethodId} {args : Array Value} {below : List Frame} {meth : Method} {c : Code} {W : State} {locs : List Loc} {cells slots : Nat}
    (X : Stand p l e R s m₀ args below meth c W locs cells slots) (hexec : p.tables.exec = Jvm.exec) (htr : e.platform.stackTraces = false) {cls : String} {names : List String} {text : String}
    (hcls : Bundle.fit cls = true) (hnames : ∀ n ∈ names, Bundle.fit n = true) (hsoe : (cls == "java/lang/StackOverflowError") = false) (hoom : (cls == "java/lang/OutOfMemoryError") = false)
    (h : ∀ a ∈ Bundle.messageArmAtoms cls names, a.before args s = true)
    (hlocs : ∀ x ∈ locs, ∀ cell, s.heap[x.base]? = some cell → cell.vm.isStatics = false)
    (htext : (text == notModelled) = false) (hlimit : ¬ (stringBytes (stringToUtf16 text)).size > e.platform.arrayLengthLimit) (hheap : ¬ (stringBytes (stringToUtf16 text)).size * componentBytes .byte > e.platform.maxHeapBytes)
    {g : JFrame} (hg : g.method = m₀) (hsize : g.locals.size = c.maxLocals)
    (hRframes : names.length + 4 < R.frames) (hRlocals : 2 * g.monitorRoom + (g.stack.map fun v => v.category).sum + 10240 ≤ R.locals) (hshort : 13 * names.length + 55 ≤ 10240)
    (hRcells : cells + 3 ≤ R.cells) (hRslots : slots + ((stringBytes (stringToUtf16 text)).size + 4 + 6) ≤ R.slots) (hlocks : meth.locks = false) :
    ∃ (S : State) (q : Addr) (ce : Cell), (∀ target, Steps p.tables e below ((S.setTop g).pushFrame (.throwing q)) target → Steps p.tables e below ((W.setTop g).pushFrame (.throwNew cls (some text) none)) target) ∧
      Stand p l e R s m₀ args below meth c S locs (cells + 3) (slots + ((stringBytes (stringToUtf16 text)).size + 4 + 6)) ∧ S.heap[q]? = some ce ∧ s.vm.findClass cls = some ce.cls ∧ ce.vm = .none := by
  have howns : e.platform.frameOwnsMonitors = true := by rw [X.admits.platform]
  have hfin : e.platform.finalization = false := by rw [X.admits.platform]
  have hpl : e.platform.magicAccessors = ({} : Platform).magicAccessors := by rw [X.admits.platform]
  have a : ∀ x, x ∈ Bundle.messageArmAtoms cls names → x.holds args s none s [] = true := fun x hx => h x hx
  obtain ⟨T, Z0, L, -, Y⟩ := ThrowableC.of_atoms (args := args) howns hfin hpl (fun x hx => h x (by simp [Bundle.messageArmAtoms, hx]))
  obtain ⟨Z, M, LZ, LM, hnZ⟩ := Init0T.ofS_atoms (args := args) hpl L Y (fun x hx => h x (by simp [Bundle.messageArmAtoms, hx]))
  obtain ⟨P1, Ps, hlen, L1, hL, hP1m, hlink1, hlink⟩ := Bundle.chainS (args := args) hpl hnZ names cls hcls hnames (fun x hx => h x (by simp [Bundle.messageArmAtoms, hx]))
  obtain ⟨Zs, LZs, hn4, hfitv, hfitc⟩ := StringT.of_atoms (args := args) (fun x hx => h x (by simp [Bundle.messageArmAtoms, hx]))
  have hfound : s.vm.findClass cls = some P1.m.cls := findClass_of_methodNamed hP1m
  obtain ⟨c1, kX, hc1, hk, hord, -, -, hn6⟩ := Cond.instantiable_spec (a (.instantiable cls 6) (by simp [Bundle.messageArmAtoms]))
  cases Option.some.inj (hc1.symm.trans hfound)
  have hinit := Cond.initialized_spec hfound hk (a (.initialized cls) (by simp [Bundle.messageArmAtoms]))
  have hctor : kX.findMethod "<init>" "(Ljava/lang/String;)V" = some P1.m.idx := findMethod_of_methodNamed hP1m hk
  have hsel0 : selectMethod e.platform s.vm P1.m.cls T.fill0 = .method T.fill0 := by
    obtain ⟨c2, r2, m2, q1, q2, q3, q4, -⟩ := Cond.selects_spec (a (.selects cls Bundle.tFill0 Bundle.tFill0) (by simp [Bundle.messageArmAtoms]))
    cases Option.some.inj (q1.symm.trans hfound)
    cases Option.some.inj (q2.symm.trans (State.methodFound?_of_named Y.fill0 (by decide)))
    cases Option.some.inj (q3.symm.trans Y.fill0)
    rw [Launch.admits_selectMethod X.admits]; exact q4
  have hselF : selectMethod e.platform s.vm P1.m.cls T.fill = .method T.fill := by
    obtain ⟨c2, r2, m2, q1, q2, q3, q4, -⟩ := Cond.selects_spec (a (.selects cls Bundle.tFill Bundle.tFill) (by simp [Bundle.messageArmAtoms]))
    cases Option.some.inj (q1.symm.trans hfound)
    cases Option.some.inj (q2.symm.trans (State.methodFound?_of_named Y.fill (by decide)))
    cases Option.some.inj (q3.symm.trans Y.fill)
    rw [Launch.admits_selectMethod X.admits]; exact q4
  obtain ⟨cellS0, hcS0, hiss⟩ := Y.statics
  obtain ⟨u0, hu0⟩ := Cond.staticRefV Y.unassigned L.unassignedStatic L.statics hcS0 hiss (a (.isRef (.static Bundle.tN "UNASSIGNED_STACK" Bundle.steD)) (by simp [Bundle.messageArmAtoms]))
  obtain ⟨sen, hsen⟩ := Cond.staticRefV Y.sentinel L.sentinelStatic L.statics hcS0 hiss (a (.isRef (.static Bundle.tN "SUPPRESSED_SENTINEL" Bundle.listD)) (by simp [Bundle.messageArmAtoms]))
  obtain ⟨ci198, i198, fB, hk198, hg198, ha198, hsB, -, hnB, htB, hffB⟩ := Cond.ownField (t := .object "java/lang/Object") Y.found L.cls (by decide +kernel) (a (.fieldLink Bundle.tN 198 Bundle.tN "backtrace" "Ljava/lang/Object;") (by simp [Bundle.messageArmAtoms])) (a (.lays Bundle.tN Bundle.tN "backtrace" "Ljava/lang/Object;") (by simp [Bundle.messageArmAtoms])) e.platform hpl
  obtain ⟨cellS, hcS', heS, -, hkeep⟩ := X.same.2.2.2.2.2 T.aS cellS0 hcS0
  have hcellS : W.heap[T.aS]? = some cellS := hcS'
  have hout' : ∀ i, (⟨T.aS, i⟩ : Loc) ∉ locs := fun i hmem => by
    have := hlocs _ hmem cellS0 hcS0
    rw [hiss] at this; cases this
  have hknownS : cellS.vm ≠ .unknown := by
    rw [heS]; intro hu
    rw [show cellS0.vm = .unknown from hu] at hiss
    cases hiss
  have hvU : cellS.slots[T.fUnassigned.slot]? = some u0.v := by rw [hkeep _ (hout' _)]; exact hu0
  have hvSen : cellS.slots[T.fSentinel.slot]? = some sen.v := by rw [hkeep _ (hout' _)]; exact hsen
  obtain ⟨iM, hffM⟩ := Y.msg
  obtain ⟨tyC, dC, hdC, hdnC⟩ := Cond.laysAt hfound hk Y.cause (a (.lays cls Bundle.tN "cause" "Ljava/lang/Throwable;") (by simp [Bundle.messageArmAtoms]))
  obtain ⟨tyS, dS, hdS, hdnS⟩ := Cond.laysAt hfound hk Y.stack (a (.lays cls Bundle.tN "stackTrace" Bundle.steD) (by simp [Bundle.messageArmAtoms]))
  obtain ⟨tyP, dP, hdP, hdnP⟩ := Cond.laysAt hfound hk Y.supp (a (.lays cls Bundle.tN "suppressedExceptions" Bundle.listD) (by simp [Bundle.messageArmAtoms]))
  obtain ⟨tyM, dM, hdM, hdnM⟩ := Cond.laysAt hfound hk hffM (a (.lays cls Bundle.tN "detailMessage" "Ljava/lang/String;") (by simp [Bundle.messageArmAtoms]))
  obtain ⟨tyB, dB, hdB, hdnB⟩ := Cond.laysAt hfound hk hffB (a (.lays cls Bundle.tN "backtrace" "Ljava/lang/Object;") (by simp [Bundle.messageArmAtoms]))
  have bC := Cond.laysApart hdB hdC hdnB hdnC (by rw [hnB, Y.causeName]; decide)
  have bS := Cond.laysApart hdB hdS hdnB hdnS (by rw [hnB, Y.stackName]; decide)
  have bP := Cond.laysApart hdB hdP hdnB hdnP (by rw [hnB, Y.suppName]; decide)
  have hbk : ((preparedCellV T.toThrowableT (freshCell P1.m.cls kX) (W.heap.size + 2) u0 sen).withEntry W.cur).slots[fB.slot]? = some .null := by
    have := fresh_default (c := P1.m.cls) tyB
    rw [htB] at this
    simpa [preparedCellV, Cell.setSlot, Cell.withEntry, Array.getElem?_setIfInBounds, bC, bS, bP, bC.symm, bS.symm, bP.symm, defaultValue] using this
  have tkC := Takes.of_laid (v := .ref (W.heap.size + 2)) hk hord tyC (by rw [Y.causeType]; rfl)
  have tkS := Takes.of_laid (v := u0.v) hk hord tyS (by rw [Y.stackType]; exact fits_refV_array _ u0)
  have tkP := Takes.of_laid (v := sen.v) hk hord tyP (by rw [Y.suppType]; exact fits_refV_object _ sen)
  have tkM := Takes.of_laid (v := .ref (W.heap.size + 1)) hk hord tyM (by rw [Y.msgType]; rfl)
  have hskip : SkipFacts T e.platform s (fun u => u) u0 ((preparedCellV T.toThrowableT (freshCell P1.m.cls kX) (W.heap.size + 2) u0 sen).withEntry W.cur) := ⟨{ ci198 := ci198, i198 := i198, fBack := fB }, ⟨hk198, hg198, ha198, hsB⟩, hbk, fun _ _ => rfl⟩
  have h0 : At W g.method c below := by rw [hg]; exact X.here
  obtain ⟨hbeyond, hfreeW⟩ := X.vmMayThrow hsize (.throwNew cls (some text) none) (fun f hf => by cases hf) rfl hRlocals
  have hfr' : W.frames.length + Ps.length + 4 < (e.platform.stackLimits W.me).1 := by have := X.framesAbove hRframes; omega
  have hwd' : (stackUse (.java g :: W.frames.tail)).2 + 13 * Ps.length + 55 ≤ (e.platform.stackLimits W.me).2 := by have := X.stackAbove hsize (K := 13 * Ps.length + 55) (by omega); omega
  have hslots : W.slotsUsed + (stringBytes (stringToUtf16 text)).size + Zs.kS.instanceTypes.size + kX.instanceTypes.size ≤ e.platform.maxSlots := by
    have := X.slotsAbove hRslots
    rw [hn4, hn6]
    omega
  obtain ⟨vm', hW', st⟩ := Steps.vmThrowsMessageColdByV p (s₀ := s) (S := W) (g := g) h0 hexec T L Z LZ M LM X.warmed (t := W.cur) rfl Zs LZs P1 L1 Ps hL hlink1 hlink hsoe hoom hfound hk hinit hord hctor
    (Launch.admits_hotImplicitExceptions X.admits) hbeyond hfreeW htext hlimit hheap (X.cellsAbove hRcells) hslots (hfitv _) (hfitc _)
    (Nn := fun u => u) heapOnly_id (fun _ _ => rfl) (fun _ => rfl) (fun u x y => setCell_twice _ _ _ _) (fun _ => Nat.le_refl _) (cN := ((preparedCellV T.toThrowableT (freshCell P1.m.cls kX) (W.heap.size + 2) u0 sen).withEntry W.cur))
    hsel0 hcellS hknownS hvU tkS (fun _ hu => hu) (fun _ hu => hu) rfl rfl rfl (by simp [preparedCellV, Cell.setSlot, Cell.withEntry]) hskip (fun _ _ hA hW _ hroom _ hrest => L.nativeOff p htr hA hW hroom hrest) hselF hvSen tkC tkP tkM Y.objLocals rfl hfr' hwd'
  rw [plainBareV_eq T.toThrowableT (W.heap.size + 2) u0 sen (.ref (W.heap.size + 1)) W.cur rfl rfl] at st
  obtain ⟨-, -, w3, w4, -, -, -⟩ := withThrown_facts e.platform W Zs text P1.m.cls kX
  have X3 := ((X.pushed (bytesOf Zs.cB (stringToUtf16 text))).pushed (stringAt Zs.cS Zs.kS Zs.fv Zs.fc (stringToUtf16 text) W.heap.size)).pushed (freshCell P1.m.cls kX)
  rw [← withString_eq] at X3
  have X4 := X3.noted hW'
  have ha : (W.heap.size + 2) < ((withThrown W Zs text P1.m.cls kX).setVm vm').heap.size := by show _ < (withThrown W Zs text P1.m.cls kX).heap.size; rw [w3]; omega
  have hcell : ((withThrown W Zs text P1.m.cls kX).setVm vm').heap[(W.heap.size + 2)]? = some (freshCell P1.m.cls kX) := w4
  have X5 := ((((X4.stored hcell T.fCause.slot (.ref (W.heap.size + 2))).storedAgain ha T.fStack.slot u0.v).storedAgain ha T.fSupp.slot sen.v).storedAgain ha T.fStack.slot u0.v).storedAgain ha T.fMsg.slot (.ref (W.heap.size + 1))
  obtain ⟨g₁, hfrM⟩ := X5.frames_eq
  have hU : ((((withThrown W Zs text P1.m.cls kX).setVm vm').setCell (W.heap.size + 2) (plainBareV T.toThrowableT (freshCell P1.m.cls kX) (W.heap.size + 2) u0 sen (.ref (W.heap.size + 1)))).setTop g).pushFrame (.throwing (W.heap.size + 2)) = (((withThrown W Zs text P1.m.cls kX).setVm vm').setCell (W.heap.size + 2) (plainBareV T.toThrowableT (freshCell P1.m.cls kX) (W.heap.size + 2) u0 sen (.ref (W.heap.size + 1)))).setFrames (.throwing (W.heap.size + 2) :: .java g :: below) := by
    rw [State.pushFrame, State.frames_setTop _ hfrM, State.setTop_of_frames _ hfrM, State.setFrames_setFrames]
  have b1 : (bytesOf Zs.cB (stringToUtf16 text)).slots.size = (stringBytes (stringToUtf16 text)).size := by
    rw [(Cell.writeAll_facts _ _).2.2]; simp [bytes0]
  have b2 : (stringAt Zs.cS Zs.kS Zs.fv Zs.fc (stringToUtf16 text) W.heap.size).slots.size = 4 := by simp [string0, Cell.setSlot, hn4]
  have b3 : (freshCell P1.m.cls kX).slots.size = 6 := by simp [hn6]
  rw [b1, b2, b3] at X5
  have e9 : slots + (stringBytes (stringToUtf16 text)).size + 4 + 6 = slots + ((stringBytes (stringToUtf16 text)).size + 4 + 6) := by omega
  rw [e9] at X5
  simp only [List.append_assoc, List.cons_append, List.nil_append] at X5
  refine ⟨((withThrown W Zs text P1.m.cls kX).setVm vm').setCell (W.heap.size + 2) (plainBareV T.toThrowableT (freshCell P1.m.cls kX) (W.heap.size + 2) u0 sen (.ref (W.heap.size + 1))), W.heap.size + 2, _, fun target ht => st _ (by rw [X.tail, ← hU]; exact ht),
    X5.forget (fun y hy => ?_), heapAt_setCell_self _ ha, hfound, rfl⟩
  simp only [List.mem_cons, List.not_mem_nil, or_false] at hy
  have hge : s.heap.size ≤ W.heap.size := X.same.2.1
  rcases hy with rfl | rfl | rfl | rfl | rfl <;> exact Nat.le_trans hge (Nat.le_add_right _ 2)
set_option maxHeartbeats 1000000 in
/-- the machine throws NullPointerException, no traces kept: from its note over the frame g to 'throwing' over the same frame (follows the proof of Stand.vmThrowsNpe, Shelf42/KT2.lean; throwsNpeColdBareVAt, Shelf42/NT91.lean, called) -/
theorem vx_npeAt {p : Program} {l : Launch} {e : Env} {R : Room} {s : State} {m₀ : MethodId} {args : Array Value} {below : List Frame} {meth : Method} {c : Code} {W : State} {locs : List Loc} {cells slots : Nat}
    (X : Stand p l e R s m₀ args below meth c W locs cells slots) (hexec : p.tables.exec = Jvm.exec) (htr : e.platform.stackTraces = false) {n : Nat}
    (h : ∀ a ∈ Bundle.npeArmAtoms n, a.before args s = true)
    (hlocs : ∀ x ∈ locs, ∀ cell, s.heap[x.base]? = some cell → cell.vm.isStatics = false)
    {g : JFrame} (hg : g.method = m₀) (hsize : g.locals.size = c.maxLocals)
    (hRframes : 7 < R.frames) (hRlocals : 2 * g.monitorRoom + (g.stack.map fun v => v.category).sum + 10240 ≤ R.locals)
    (hRcells : cells + 1 ≤ R.cells) (hRslots : slots + n ≤ R.slots) (hlocks : meth.locks = false) :
    ∃ (S : State) (q : Addr) (ce : Cell), (∀ target, Steps p.tables e below ((S.setTop g).pushFrame (.throwing q)) target → Steps p.tables e below ((W.setTop g).pushFrame (.throwNew "java/lang/NullPointerException" none none)) target) ∧
      Stand p l e R s m₀ args below meth c S locs (cells + 1) (slots + n) ∧ S.heap[q]? = some ce ∧ s.vm.findClass "java/lang/NullPointerException" = some ce.cls ∧ ce.vm = .none := by
  have howns : e.platform.frameOwnsMonitors = true := by rw [X.admits.platform]
  have hfin : e.platform.finalization = false := by rw [X.admits.platform]
  have hpl : e.platform.magicAccessors = ({} : Platform).magicAccessors := by rw [X.admits.platform]
  have hpl2 : e.platform.arrayCloneIsPublic = true := by rw [X.admits.platform]
  have a' : ∀ x, x ∈ Bundle.npeArmAtoms n → x.holds args s none s [] = true := fun x hx => h x hx
  obtain ⟨T, Z, L, LZ, Y⟩ := ThrowableC.of_atoms (args := args) howns hfin hpl (fun x hx => h x (by simp [Bundle.npeArmAtoms, hx]))
  obtain ⟨N, LN, hcN, hnNF, hordN, hffS⟩ := NpeC.of_atoms (args := args) hpl hpl2 L Y (fun x hx => h x (by simp [Bundle.npeArmAtoms, hx]))
  obtain ⟨P1, L1, hP1m, hP1s⟩ := PassC.of_atoms (args := args) (s := s) hpl (X := Bundle.nN) (Y := Bundle.rN) (by decide) (by decide) LibCode.NullPointerException.Init0.at_0 LibCode.NullPointerException.Init0.at_1 LibCode.NullPointerException.Init0.at_4 (fun x hx => h x (by simp [Bundle.npeArmAtoms, hx]))
  obtain ⟨PR, LR, hPRm, hPRs⟩ := PassC.of_atoms (args := args) (s := s) hpl (X := Bundle.rN) (Y := Bundle.eN) (by decide) (by decide) LibCode.RuntimeException.Init0.at_0 LibCode.RuntimeException.Init0.at_1 LibCode.RuntimeException.Init0.at_4 (fun x hx => h x (by simp [Bundle.npeArmAtoms, hx]))
  obtain ⟨PE, LEx, hPEm, hPEs⟩ := PassC.of_atoms (args := args) (s := s) hpl (X := Bundle.eN) (Y := Bundle.tN) (by decide) (by decide) LibCode.Exception.Init0.at_0 LibCode.Exception.Init0.at_1 LibCode.Exception.Init0.at_4 (fun x hx => h x (by simp [Bundle.npeArmAtoms, hx]))
  have hfound : s.vm.findClass Bundle.nN = some P1.m.cls := findClass_of_methodNamed hP1m
  have ecls : N.cN = P1.m.cls := Option.some.inj (hcN.symm.trans hfound)
  have hk : s.vm.classes[P1.m.cls]? = some N.kN := by rw [← ecls]; exact LN.cls
  have hinit := Cond.initialized_spec hfound hk (a' (.initialized Bundle.nN) (by simp [Bundle.npeArmAtoms]))
  have hctor : N.kN.findMethod "<init>" "()V" = some P1.m.idx := findMethod_of_methodNamed hP1m hk
  obtain ⟨c1, k1, hc1, hk1, -, -, -, hn⟩ := Cond.instantiable_spec (a' (.instantiable Bundle.nN n) (by simp [Bundle.npeArmAtoms]))
  cases Option.some.inj (hc1.symm.trans hfound)
  cases Option.some.inj (hk1.symm.trans hk)
  have hfsz : (freshCell P1.m.cls N.kN).slots.size = n := by simp [hn]
  have hlink1 : P1.sup = PR.m := Option.some.inj (hP1s.symm.trans hPRm)
  have hlinkR : PR.sup = PE.m := Option.some.inj (hPRs.symm.trans hPEm)
  have hlinkE : PE.sup = Z.m T.toThrowableT := Option.some.inj (hPEs.symm.trans Y.init0)
  have hLs : ∀ P, P ∈ [PR, PE] → P.Links0 e.platform s := fun P hP => by
    simp only [List.mem_cons, List.not_mem_nil, or_false] at hP
    rcases hP with rfl | rfl
    · exact LR
    · exact LEx
  have hsel0 : selectMethod e.platform s.vm P1.m.cls T.fill0 = .method T.fill0 := by
    obtain ⟨c2, r2, m2, q1, q2, q3, q4, -⟩ := Cond.selects_spec (a' (.selects Bundle.nN Bundle.tFill0 Bundle.tFill0) (by simp [Bundle.npeArmAtoms]))
    cases Option.some.inj (q1.symm.trans hfound)
    cases Option.some.inj (q2.symm.trans (State.methodFound?_of_named Y.fill0 (by decide)))
    cases Option.some.inj (q3.symm.trans Y.fill0)
    rw [Launch.admits_selectMethod X.admits]; exact q4
  have hselF : selectMethod e.platform s.vm P1.m.cls T.fill = .method N.fill := by
    obtain ⟨c2, r2, m2, q1, q2, q3, q4, -⟩ := Cond.selects_spec (a' (.selects Bundle.nN Bundle.tFill Bundle.nFill) (by simp [Bundle.npeArmAtoms]))
    cases Option.some.inj (q1.symm.trans hfound)
    cases Option.some.inj (q2.symm.trans (State.methodFound?_of_named Y.fill (by decide)))
    cases Option.some.inj (q3.symm.trans hnNF)
    rw [Launch.admits_selectMethod X.admits]; exact q4
  obtain ⟨cellS0, hcS0, hiss⟩ := Y.statics
  obtain ⟨u0, hu0⟩ := Cond.staticRefV Y.unassigned L.unassignedStatic L.statics hcS0 hiss (a' (.isRef (.static Bundle.tN "UNASSIGNED_STACK" Bundle.steD)) (by simp [Bundle.npeArmAtoms]))
  obtain ⟨sen, hsen⟩ := Cond.staticRefV Y.sentinel L.sentinelStatic L.statics hcS0 hiss (a' (.isRef (.static Bundle.tN "SUPPRESSED_SENTINEL" Bundle.listD)) (by simp [Bundle.npeArmAtoms]))
  obtain ⟨ci198, i198, fB, hk198, hg198, ha198, hsB, -, hnB, htB, hffB⟩ := Cond.ownField (t := .object "java/lang/Object") Y.found L.cls (by decide +kernel) (a' (.fieldLink Bundle.tN 198 Bundle.tN "backtrace" Bundle.objD) (by simp [Bundle.npeArmAtoms])) (a' (.lays Bundle.tN Bundle.tN "backtrace" Bundle.objD) (by simp [Bundle.npeArmAtoms])) e.platform hpl
  obtain ⟨cellS, hcS', heS, -, hkeep⟩ := X.same.2.2.2.2.2 T.aS cellS0 hcS0
  have hcellS : W.heap[T.aS]? = some cellS := hcS'
  have hout' : ∀ i, (⟨T.aS, i⟩ : Loc) ∉ locs := fun i hmem => by
    have := hlocs _ hmem cellS0 hcS0
    rw [hiss] at this; cases this
  have hknownS : cellS.vm ≠ .unknown := by
    rw [heS]; intro hu
    rw [show cellS0.vm = .unknown from hu] at hiss
    cases hiss
  have hvU : cellS.slots[T.fUnassigned.slot]? = some u0.v := by rw [hkeep _ (hout' _)]; exact hu0
  have hvSen : cellS.slots[T.fSentinel.slot]? = some sen.v := by rw [hkeep _ (hout' _)]; exact hsen
  obtain ⟨tyC, dC, hdC, hdnC⟩ := Cond.laysAt hfound hk Y.cause (a' (.lays Bundle.nN Bundle.tN "cause" "Ljava/lang/Throwable;") (by simp [Bundle.npeArmAtoms]))
  obtain ⟨tyS, dS, hdS, hdnS⟩ := Cond.laysAt hfound hk Y.stack (a' (.lays Bundle.nN Bundle.tN "stackTrace" Bundle.steD) (by simp [Bundle.npeArmAtoms]))
  obtain ⟨tyP, dP, hdP, hdnP⟩ := Cond.laysAt hfound hk Y.supp (a' (.lays Bundle.nN Bundle.tN "suppressedExceptions" Bundle.listD) (by simp [Bundle.npeArmAtoms]))
  obtain ⟨tyX, dX, hdX, hdnX⟩ := Cond.laysAt hfound hk hffS (a' (.lays Bundle.nN Bundle.nN "extendedMessageState" "I") (by simp [Bundle.npeArmAtoms, Bundle.npeAtoms]))
  obtain ⟨hnX, htX⟩ := State.fieldFound?_type hffS (t := .int) (by decide +kernel)
  have xC := Cond.laysApart hdC hdX hdnC hdnX (by rw [hnX, Y.causeName]; decide)
  have xS := Cond.laysApart hdS hdX hdnS hdnX (by rw [hnX, Y.stackName]; decide)
  have xP := Cond.laysApart hdP hdX hdnP hdnX (by rw [hnX, Y.suppName]; decide)
  have hv0 : (freshCell P1.m.cls N.kN).slots[N.fState.slot]? = some (.int 0) := by
    have := fresh_default (c := P1.m.cls) tyX
    rw [htX] at this; exact this
  obtain ⟨tyB, dB, hdB, hdnB⟩ := Cond.laysAt hfound hk hffB (a' (.lays Bundle.nN Bundle.tN "backtrace" Bundle.objD) (by simp [Bundle.npeArmAtoms]))
  have bC := Cond.laysApart hdB hdC hdnB hdnC (by rw [hnB, Y.causeName]; decide)
  have bS := Cond.laysApart hdB hdS hdnB hdnS (by rw [hnB, Y.stackName]; decide)
  have bP := Cond.laysApart hdB hdP hdnB hdnP (by rw [hnB, Y.suppName]; decide)
  have bX := Cond.laysApart hdB hdX hdnB hdnX (by rw [hnB, hnX]; decide)
  have hbk : ((npeCell N.toNpeT (preparedCellV T.toThrowableT (freshCell P1.m.cls N.kN) W.heap.size u0 sen) W.cur).withEntry W.cur).slots[fB.slot]? = some .null := by
    have := fresh_default (c := P1.m.cls) tyB
    rw [htB] at this
    simpa [npeCell, preparedCellV, Cell.setSlot, Cell.withEntry, Array.getElem?_setIfInBounds, bC, bS, bP, bX, bC.symm, bS.symm, bP.symm, bX.symm, defaultValue] using this
  have tkC := Takes.of_laid (v := .ref W.heap.size) hk hordN tyC (by rw [Y.causeType]; rfl)
  have tkS := Takes.of_laid (v := u0.v) hk hordN tyS (by rw [Y.stackType]; exact fits_refV_array _ u0)
  have tkP := Takes.of_laid (v := sen.v) hk hordN tyP (by rw [Y.suppType]; exact fits_refV_object _ sen)
  have tkX := Takes.of_laid (v := .int 1) hk hordN tyX (by rw [htX]; rfl)
  have hskip : SkipFacts T e.platform s (fun u => u) u0 ((npeCell N.toNpeT (preparedCellV T.toThrowableT (freshCell P1.m.cls N.kN) W.heap.size u0 sen) W.cur).withEntry W.cur) := ⟨{ ci198 := ci198, i198 := i198, fBack := fB }, ⟨hk198, hg198, ha198, hsB⟩, hbk, fun _ _ => rfl⟩
  obtain ⟨vm', X3, st, -⟩ := X.throwsNpeColdBareVAt hexec hg hsize T L Z LZ N LN P1 L1 [PR, PE] hLs hlink1 ⟨hlinkR, hlinkE, trivial⟩ hfound hk hinit hordN hctor hsel0 hselF hcellS hknownS hvU hvSen
    hv0 xC xS xP tkC tkS tkP tkX Y.objLocals hskip (fun _ _ hA hW _ hroom _ hrest => L.nativeOff p htr hA hW hroom hrest) (by simpa using hRframes) hRlocals (by simp) hRcells (by rw [hn]; exact hRslots)
  have hlt : W.heap.size < ((W.pushCell (freshCell P1.m.cls N.kN)).setVm vm').heap.size := by
    show W.heap.size < (W.pushCell (freshCell P1.m.cls N.kN)).heap.size
    rw [State.heap_size_pushCell]; omega
  rw [hfsz] at X3
  obtain ⟨g₁, hfrM⟩ := X3.frames_eq
  have hU : ((((W.pushCell (freshCell P1.m.cls N.kN)).setVm vm').setCell W.heap.size (npeBareV T.toThrowableT N.toNpeT (freshCell P1.m.cls N.kN) W.heap.size u0 sen)).setTop g).pushFrame (.throwing W.heap.size) = (((W.pushCell (freshCell P1.m.cls N.kN)).setVm vm').setCell W.heap.size (npeBareV T.toThrowableT N.toNpeT (freshCell P1.m.cls N.kN) W.heap.size u0 sen)).setFrames (.throwing W.heap.size :: .java g :: below) := by
    rw [State.pushFrame, State.frames_setTop _ hfrM, State.setTop_of_frames _ hfrM, State.setFrames_setFrames]
  refine ⟨_, W.heap.size, _, fun target ht => st.trans (by rw [← hU]; exact ht), X3.forget (fun y hy => ?_), heapAt_setCell_self _ hlt, hfound, rfl⟩
  simp only [List.mem_cons, List.not_mem_nil, or_false] at hy
  have hge : s.heap.size ≤ W.heap.size := X.same.2.1
  rcases hy with rfl | rfl | rfl | rfl | rfl <;> exact hge
/-- the words of a machine's NullPointerException, but the four that speak of the heap -/
def vx_atN (n : Nat) : List Cond := (Bundle.npeArmAtoms n).filter vx_no
/-- the words of a machine's throw with a message, but the four that speak of the heap -/
def vx_atM (X : String) (names : List String) : List Cond := (Bundle.messageArmAtoms X names).filter vx_no
section
variable {p : Program} {l : Launch} {e : Env} {R : Room} {s : State} {m : MethodId} {args : Array Value} {below : List Frame} {meth : Method} {c : Code} {H : Heap} {locs : List Loc} {cells slots : Nat}
/-- a frame seen from a rebased start, seen from the first start again -/
theorem vx_back9 {T S : State} {R' : Room} {k n : Nat} (X : Stand p l e R s m args below meth c T locs cells slots) (Y : Stand p l e R' ((T.setVm s.vm).setFrames (.invoking m args :: below)) m args below meth c T [] 0 0) (Z : Stand p l e R' ((T.setVm s.vm).setFrames (.invoking m args :: below)) m args below meth c S [] k n) :
    Stand p l e R s m args below meth c S locs (cells + k) (slots + n) := by
  have hW0 : s.WarmedH ((T.setVm s.vm).setFrames (.invoking m args :: below)).vm := State.WarmedH.refl s
  refine { admits := X.admits, cas := X.cas, clock := X.clock, frames := X.frames, room := X.room, hears := X.hears, method := X.method, code := X.code, here := Z.here, tail := Z.tail, warmed := State.WarmedH.trans hW0 Z.warmed, limits := Z.limits.trans (Y.limits.symm.trans X.limits), bytes := Z.bytes.trans (Y.bytes.symm.trans X.bytes), same := ?_ }
  obtain ⟨e1, e2⟩ := Z.same
  rw [State.setFrames_setFrames] at e1
  have h2 : (T.setVm s.vm).sameButNew (S.setVm s.vm) [] k n := ⟨e1, e2⟩
  have h3 := X.same.trans h2
  rw [List.append_nil] at h3
  exact h3
/-- from the machine's note that E is thrown here with this text -/
def vx_Note (p : Program) (l : Launch) (e : Env) (R : Room) (s : State) (m : MethodId) (args : Array Value) (below : List Frame) (meth : Method) (c : Code) (H : Heap) (locs : List Loc) (cells slots : Nat) (Q : State → Prop) (g : JFrame) (E text : String) : Prop :=
  ∀ T : State, T.heap = H → Stand p l e R s m args below meth c T locs cells slots → ∃ t, Steps p.tables e below ((T.setTop g).pushFrame (.throwNew E (some text) none)) t ∧ Q t
theorem vx_vm {pc : Nat} {ls : Array Slot} {rest : List Value} {Q : State → Prop} (hexec : p.tables.exec = Jvm.exec) (hl : l.stackTraces = false) {cls text : String} {names : List String} {nb : Nat} {A : Nat → Prop}
    (hcls : Bundle.fit cls = true) (hnames : ∀ n ∈ names, Bundle.fit n = true) (hsoe : (cls == "java/lang/StackOverflowError") = false) (hoom : (cls == "java/lang/OutOfMemoryError") = false)
    (hat : ∀ w ∈ vx_atM cls names, w.before args s = true) (hgood : ∀ w ∈ vx_atM cls names, vx_ot w = true)
    (hU : vx_Zq Bundle.tN "UNASSIGNED_STACK" Bundle.steD A s s.heap) (hN : vx_Zq Bundle.tN "SUPPRESSED_SENTINEL" Bundle.listD A s s.heap) (hS : va_S A s.heap H locs) (hsize : ls.size = c.maxLocals)
    (htext : (text == notModelled) = false) (hnb : (stringBytes (stringToUtf16 text)).size ≤ nb) (hnb1 : nb ≤ 1000)
    (hRframes : names.length + 4 < R.frames) (hRlocals : (rest.map fun v => v.category).sum + 10240 ≤ R.locals) (hshort : 13 * names.length + 55 ≤ 10240) (hRcells : cells + 3 ≤ R.cells) (hRslots : slots + (nb + 10) ≤ R.slots) (hlocks : meth.locks = false)
    (k : ∀ (H1 : Heap) (q9 : Addr) (ce : Cell), H.size ≤ H1.size → (∀ q : Nat, q < H.size → H1[q]? = H[q]?) → va_S A s.heap H1 locs → H1[q9]? = some ce → ce.vm = .none → s.vm.findClass cls = some ce.cls → vx_W p l e R s m args below meth c H1 locs (cells + 3) (slots + (nb + 10)) Q (F0 m pc ls rest) q9) :
    vx_Note p l e R s m args below meth c H locs cells slots Q (F0 m pc ls rest) cls text := by
  intro T hT X
  have htr : e.platform.stackTraces = false := (show e.platform.stackTraces = l.stackTraces by rw [X.admits.platform]).trans hl
  have Y := vx_rebase X (R' := { frames := R.frames, locals := R.locals, cells := 3, slots := nb + 10 }) (Nat.le_refl _) (Nat.le_refl _) hRcells hRslots
  have hhp : ((T.setVm s.vm).setFrames (.invoking m args :: below)).heap = H := hT
  have hW0 : s.WarmedH ((T.setVm s.vm).setFrames (.invoking m args :: below)).vm := State.WarmedH.refl s
  have hat' : ∀ w ∈ vx_atM cls names, w.before args ((T.setVm s.vm).setFrames (.invoking m args :: below)) = true := fun w hw => vx_ot_at hW0 rfl (hgood w hw) (hat w hw)
  have hU' : vx_Zq Bundle.tN "UNASSIGNED_STACK" Bundle.steD A ((T.setVm s.vm).setFrames (.invoking m args :: below)) ((T.setVm s.vm).setFrames (.invoking m args :: below)).heap := by rw [hhp]; exact vx_Zq.moved hW0.alike (hU.kept hS.2.1)
  have hN' : vx_Zq Bundle.tN "SUPPRESSED_SENTINEL" Bundle.listD A ((T.setVm s.vm).setFrames (.invoking m args :: below)) ((T.setVm s.vm).setFrames (.invoking m args :: below)).heap := by rw [hhp]; exact vx_Zq.moved hW0.alike (hN.kept hS.2.1)
  obtain ⟨S, q, ce, st, Z, hce, hcl', hv⟩ := vx_vmAt Y hexec htr (cls := cls) (names := names) (text := text) hcls hnames hsoe hoom (vx_own hat' (vx_isRefq hU'.1) (vx_isRefq hN'.1) hU'.2.word hN'.2.word) (fun x hx => nomatch hx) htext
    (by rw [Launch.admits_arrayLengthLimit X.admits]; omega) (by rw [Launch.admits_maxHeapBytes X.admits]; simp only [componentBytes]; omega)
    (g := F0 m pc ls rest) rfl hsize hRframes (by show 2 * 0 + (rest.map fun v => v.category).sum + 10240 ≤ R.locals; omega) hshort (by show 0 + 3 ≤ 3; omega) (by show 0 + (_ + 4 + 6) ≤ nb + 10; omega) hlocks
  obtain ⟨f1, f2⟩ := vx_frame Z.same
  have f1' : H.size ≤ S.heap.size := by rw [← hT]; exact f1
  have f2' : ∀ q : Nat, q < H.size → S.heap[q]? = H[q]? := fun q hq => by
    rw [← hT]
    exact f2 q (by rw [← hT] at hq; exact hq) (fun z hz => nomatch hz)
  have X5 := vx_back9 X Y Z
  have X6 : Stand p l e R s m args below meth c S locs (cells + 3) (slots + (nb + 10)) := { X5 with same := X5.same.mono (by omega) (by omega) }
  obtain ⟨t, a1, b1⟩ := k S.heap q ce f1' f2' ⟨Nat.le_trans hS.1 f1', fun q h1 h2 => (f2' q (Nat.lt_of_lt_of_le h1 hS.1)).trans (hS.2.1 q h1 h2), hS.2.2⟩ hce hv hcl' S rfl X6
  exact ⟨t, st t a1, b1⟩
/-- from the machine's note that NullPointerException is thrown here -/
def vx_NoteN (p : Program) (l : Launch) (e : Env) (R : Room) (s : State) (m : MethodId) (args : Array Value) (below : List Frame) (meth : Method) (c : Code) (H : Heap) (locs : List Loc) (cells slots : Nat) (Q : State → Prop) (g : JFrame) : Prop :=
  ∀ T : State, T.heap = H → Stand p l e R s m args below meth c T locs cells slots → ∃ t, Steps p.tables e below ((T.setTop g).pushFrame (.throwNew "java/lang/NullPointerException" none none)) t ∧ Q t
theorem vx_npe {pc : Nat} {ls : Array Slot} {rest : List Value} {Q : State → Prop} (hexec : p.tables.exec = Jvm.exec) (hl : l.stackTraces = false) {nb : Nat} {A : Nat → Prop}
    (hat : ∀ w ∈ vx_atN nb, w.before args s = true) (hgood : ∀ w ∈ vx_atN nb, vx_ot w = true)
    (hU : vx_Zq Bundle.tN "UNASSIGNED_STACK" Bundle.steD A s s.heap) (hN : vx_Zq Bundle.tN "SUPPRESSED_SENTINEL" Bundle.listD A s s.heap) (hS : va_S A s.heap H locs) (hsize : ls.size = c.maxLocals)
    (hRframes : 7 < R.frames) (hRlocals : (rest.map fun v => v.category).sum + 10240 ≤ R.locals) (hRcells : cells + 1 ≤ R.cells) (hRslots : slots + nb ≤ R.slots) (hlocks : meth.locks = false)
    (k : ∀ (H1 : Heap) (q9 : Addr) (ce : Cell), H.size ≤ H1.size → (∀ q : Nat, q < H.size → H1[q]? = H[q]?) → va_S A s.heap H1 locs → H1[q9]? = some ce → ce.vm = .none → s.vm.findClass "java/lang/NullPointerException" = some ce.cls → vx_W p l e R s m args below meth c H1 locs (cells + 1) (slots + nb) Q (F0 m pc ls rest) q9) :
    vx_NoteN p l e R s m args below meth c H locs cells slots Q (F0 m pc ls rest) := by
  intro T hT X
  have htr : e.platform.stackTraces = false := (show e.platform.stackTraces = l.stackTraces by rw [X.admits.platform]).trans hl
  have Y := vx_rebase X (R' := { frames := R.frames, locals := R.locals, cells := 1, slots := nb }) (Nat.le_refl _) (Nat.le_refl _) hRcells hRslots
  have hhp : ((T.setVm s.vm).setFrames (.invoking m args :: below)).heap = H := hT
  have hW0 : s.WarmedH ((T.setVm s.vm).setFrames (.invoking m args :: below)).vm := State.WarmedH.refl s
  have hat' : ∀ w ∈ vx_atN nb, w.before args ((T.setVm s.vm).setFrames (.invoking m args :: below)) = true := fun w hw => vx_ot_at hW0 rfl (hgood w hw) (hat w hw)
  have hU' : vx_Zq Bundle.tN "UNASSIGNED_STACK" Bundle.steD A ((T.setVm s.vm).setFrames (.invoking m args :: below)) ((T.setVm s.vm).setFrames (.invoking m args :: below)).heap := by rw [hhp]; exact vx_Zq.moved hW0.alike (hU.kept hS.2.1)
  have hN' : vx_Zq Bundle.tN "SUPPRESSED_SENTINEL" Bundle.listD A ((T.setVm s.vm).setFrames (.invoking m args :: below)) ((T.setVm s.vm).setFrames (.invoking m args :: below)).heap := by rw [hhp]; exact vx_Zq.moved hW0.alike (hN.kept hS.2.1)
  obtain ⟨S, q, ce, st, Z, hce, hcl', hv⟩ := vx_npeAt Y hexec htr (n := nb) (vx_own hat' (vx_isRefq hU'.1) (vx_isRefq hN'.1) hU'.2.word hN'.2.word) (fun x hx => nomatch hx)
    (g := F0 m pc ls rest) rfl hsize hRframes (by show 2 * 0 + (rest.map fun v => v.category).sum + 10240 ≤ R.locals; omega) (by show 0 + 1 ≤ 1; omega) (by show 0 + nb ≤ nb; omega) hlocks
  obtain ⟨f1, f2⟩ := vx_frame Z.same
  have f1' : H.size ≤ S.heap.size := by rw [← hT]; exact f1
  have f2' : ∀ q : Nat, q < H.size → S.heap[q]? = H[q]? := fun q hq => by
    rw [← hT]
    exact f2 q (by rw [← hT] at hq; exact hq) (fun z hz => nomatch hz)
  have X5 := vx_back9 X Y Z
  have X6 : Stand p l e R s m args below meth c S locs (cells + 1) (slots + nb) := { X5 with same := X5.same.mono (by omega) (by omega) }
  obtain ⟨t, a1, b1⟩ := k S.heap q ce f1' f2' ⟨Nat.le_trans hS.1 f1', fun q h1 h2 => (f2' q (Nat.lt_of_lt_of_le h1 hS.1)).trans (hS.2.1 q h1 h2), hS.2.2⟩ hce hv hcl' S rfl X6
  exact ⟨t, st t a1, b1⟩
variable {Q : State → Prop} {cc : ByteArray} {pc : Nat} {ls : Array Slot} {rest : List Value}
theorem vx_idivZ (hexec : p.tables.exec = Jvm.exec) (hb : c.code = cc) {a b : Int32} (h0 : b = 0) (d : decode cc pc = .ok (.idiv, 1)) (k : vx_Note p l e R s m args below meth c H locs cells slots Q (F0 m pc ls rest) "java/lang/ArithmeticException" "/ by zero") :
    W p l e R s m args below meth c H locs cells slots Q (F0 m pc ls (.int b :: .int a :: rest)) := by
  intro T hT X
  obtain ⟨t, st, q⟩ := k T hT X
  exact ⟨t, X.idivZero hexec (g := F0 m pc ls (.int b :: .int a :: rest)) rfl (a := a) (rest := rest) (by rw [h0]) (by rw [hb]; exact d) t st, q⟩
theorem vx_iremZ (hexec : p.tables.exec = Jvm.exec) (hb : c.code = cc) {a b : Int32} (h0 : b = 0) (d : decode cc pc = .ok (.irem, 1)) (k : vx_Note p l e R s m args below meth c H locs cells slots Q (F0 m pc ls rest) "java/lang/ArithmeticException" "/ by zero") :
    W p l e R s m args below meth c H locs cells slots Q (F0 m pc ls (.int b :: .int a :: rest)) := by
  intro T hT X
  obtain ⟨t, st, q⟩ := k T hT X
  exact ⟨t, X.iremZero hexec (g := F0 m pc ls (.int b :: .int a :: rest)) rfl (a := a) (rest := rest) (by rw [h0]) (by rw [hb]; exact d) t st, q⟩
theorem vx_ldivZ (hexec : p.tables.exec = Jvm.exec) (hb : c.code = cc) {a b : Int64} (h0 : b = 0) (d : decode cc pc = .ok (.ldiv, 1)) (k : vx_Note p l e R s m args below meth c H locs cells slots Q (F0 m pc ls rest) "java/lang/ArithmeticException" "/ by zero") :
    W p l e R s m args below meth c H locs cells slots Q (F0 m pc ls (.long b :: .long a :: rest)) := by
  intro T hT X
  obtain ⟨t, st, q⟩ := k T hT X
  exact ⟨t, X.ldivZero hexec (g := F0 m pc ls (.long b :: .long a :: rest)) rfl (a := a) (rest := rest) (by rw [h0]) (by rw [hb]; exact d) t st, q⟩
theorem vx_lremZ (hexec : p.tables.exec = Jvm.exec) (hb : c.code = cc) {a b : Int64} (h0 : b = 0) (d : decode cc pc = .ok (.lrem, 1)) (k : vx_Note p l e R s m args below meth c H locs cells slots Q (F0 m pc ls rest) "java/lang/ArithmeticException" "/ by zero") :
    W p l e R s m args below meth c H locs cells slots Q (F0 m pc ls (.long b :: .long a :: rest)) := by
  intro T hT X
  obtain ⟨t, st, q⟩ := k T hT X
  exact ⟨t, X.lremZero hexec (g := F0 m pc ls (.long b :: .long a :: rest)) rfl (a := a) (rest := rest) (by rw [h0]) (by rw [hb]; exact d) t st, q⟩
theorem vx_ialdZ {D : va_G} {cl : List vw_C} {ws : va_W} {tys : List (ClassId × FieldType)} {a : Nat} (hexec : p.tables.exec = Jvm.exec) (hb : c.code = cc) (hK : va_K D cl tys s) (hP : va_P D cl ws H) (q0 t0 : Nat) {cA : ClassId} {n : Nat} {f : Nat → Int32} (ha : ws[q0]? = some (a, .inl (cA, n, .inl f))) (ht : tys[t0]? = some (cA, .int)) {i : Int32} (hout : ¬ vp_in i n) (hdg : decode cc pc = .ok (.iaload, 1))
    (k : ∀ tx : String, tx = (toString "Index " ++ toString i ++ toString " out of bounds for length " ++ toString n : String) → vx_Note p l e R s m args below meth c H locs cells slots Q (F0 m pc ls rest) "java/lang/ArrayIndexOutOfBoundsException" tx) : W p l e R s m args below meth c H locs cells slots Q (F0 m pc ls (.int i :: .ref a :: rest)) := by
  intro T hT X
  obtain ⟨t, st, q⟩ := k _ rfl T hT X
  refine ⟨t, ?_, q⟩
  have h1 := X.ialoadOut hexec (by rw [hT]; exact hP q0 _ ha) ((hK.2 t0 _ ht).1 n (fun j => .int (f j))) (j := i) (by show (i < 0 ∨ (arrV _ _ _).slots.size ≤ _); rw [arrV_size]; exact Classical.byContradiction hout) (g := F0 m pc ls (.int i :: .ref a :: rest)) rfl (rest := rest) rfl (by rw [hb]; exact hdg) t
  simp only [arrV_size] at h1
  exact h1 st
theorem vx_iastZ {D : va_G} {cl : List vw_C} {ws : va_W} {tys : List (ClassId × FieldType)} {a : Nat} (hexec : p.tables.exec = Jvm.exec) (hb : c.code = cc) (hK : va_K D cl tys s) (hP : va_P D cl ws H) (q0 t0 : Nat) {cA : ClassId} {n : Nat} {f : Nat → Int32} (ha : ws[q0]? = some (a, .inl (cA, n, .inl f))) (ht : tys[t0]? = some (cA, .int)) {i : Int32} {x : Int32} (hout : ¬ vp_in i n) (hdg : decode cc pc = .ok (.iastore, 1))
    (k : ∀ tx : String, tx = (toString "Index " ++ toString i ++ toString " out of bounds for length " ++ toString n : String) → vx_Note p l e R s m args below meth c H locs cells slots Q (F0 m pc ls rest) "java/lang/ArrayIndexOutOfBoundsException" tx) : W p l e R s m args below meth c H locs cells slots Q (F0 m pc ls (.int x :: .int i :: .ref a :: rest)) := by
  intro T hT X
  obtain ⟨t, st, q⟩ := k _ rfl T hT X
  refine ⟨t, ?_, q⟩
  have h1 := X.iastoreOut hexec (by rw [hT]; exact hP q0 _ ha) ((hK.2 t0 _ ht).1 n (fun j => .int (f j))) (j := i) (by show (i < 0 ∨ (arrV _ _ _).slots.size ≤ _); rw [arrV_size]; exact Classical.byContradiction hout) (g := F0 m pc ls (.int x :: .int i :: .ref a :: rest)) rfl (rest := rest) rfl (by rw [hb]; exact hdg) t
  simp only [arrV_size] at h1
  exact h1 st
theorem vx_baldZ {D : va_G} {cl : List vw_C} {ws : va_W} {tys : List (ClassId × FieldType)} {a : Nat} (hexec : p.tables.exec = Jvm.exec) (hb : c.code = cc) (hK : va_K D cl tys s) (hP : va_P D cl ws H) (q0 t0 : Nat) {cA : ClassId} {n : Nat} {f : Nat → Int32} (ha : ws[q0]? = some (a, .inl (cA, n, .inl f))) (ht : tys[t0]? = some (cA, .byte)) {i : Int32} (hout : ¬ vp_in i n) (hdg : decode cc pc = .ok (.baload, 1))
    (k : ∀ tx : String, tx = (toString "Index " ++ toString i ++ toString " out of bounds for length " ++ toString n : String) → vx_Note p l e R s m args below meth c H locs cells slots Q (F0 m pc ls rest) "java/lang/ArrayIndexOutOfBoundsException" tx) : W p l e R s m args below meth c H locs cells slots Q (F0 m pc ls (.int i :: .ref a :: rest)) := by
  intro T hT X
  obtain ⟨t, st, q⟩ := k _ rfl T hT X
  refine ⟨t, ?_, q⟩
  have h1 := X.baloadOut hexec (by rw [hT]; exact hP q0 _ ha) ((hK.2 t0 _ ht).1 n (fun j => .int (f j))) (j := i) (by show (i < 0 ∨ (arrV _ _ _).slots.size ≤ _); rw [arrV_size]; exact Classical.byContradiction hout) (g := F0 m pc ls (.int i :: .ref a :: rest)) rfl (rest := rest) rfl (by rw [hb]; exact hdg) t
  simp only [arrV_size] at h1
  exact h1 st
theorem vx_bastZ {D : va_G} {cl : List vw_C} {ws : va_W} {tys : List (ClassId × FieldType)} {a : Nat} (hexec : p.tables.exec = Jvm.exec) (hb : c.code = cc) (hK : va_K D cl tys s) (hP : va_P D cl ws H) (q0 t0 : Nat) {cA : ClassId} {n : Nat} {f : Nat → Int32} (ha : ws[q0]? = some (a, .inl (cA, n, .inl f))) (ht : tys[t0]? = some (cA, .byte)) {i : Int32} {x : Int32} (hout : ¬ vp_in i n) (hdg : decode cc pc = .ok (.bastore, 1))
    (k : ∀ tx : String, tx = (toString "Index " ++ toString i ++ toString " out of bounds for length " ++ toString n : String) → vx_Note p l e R s m args below meth c H locs cells slots Q (F0 m pc ls rest) "java/lang/ArrayIndexOutOfBoundsException" tx) : W p l e R s m args below meth c H locs cells slots Q (F0 m pc ls (.int x :: .int i :: .ref a :: rest)) := by
  intro T hT X
  obtain ⟨t, st, q⟩ := k _ rfl T hT X
  refine ⟨t, ?_, q⟩
  have h1 := X.bastoreOut hexec (by rw [hT]; exact hP q0 _ ha) ((hK.2 t0 _ ht).1 n (fun j => .int (f j))) (j := i) (by show (i < 0 ∨ (arrV _ _ _).slots.size ≤ _); rw [arrV_size]; exact Classical.byContradiction hout) (g := F0 m pc ls (.int x :: .int i :: .ref a :: rest)) rfl (rest := rest) rfl (by rw [hb]; exact hdg) t
  simp only [arrV_size] at h1
  exact h1 st
theorem vx_zaldZ {D : va_G} {cl : List vw_C} {ws : va_W} {tys : List (ClassId × FieldType)} {a : Nat} (hexec : p.tables.exec = Jvm.exec) (hb : c.code = cc) (hK : va_K D cl tys s) (hP : va_P D cl ws H) (q0 t0 : Nat) {cA : ClassId} {n : Nat} {f : Nat → Int32} (ha : ws[q0]? = some (a, .inl (cA, n, .inl f))) (ht : tys[t0]? = some (cA, .boolean)) {i : Int32} (hout : ¬ vp_in i n) (hdg : decode cc pc = .ok (.baload, 1))
    (k : ∀ tx : String, tx = (toString "Index " ++ toString i ++ toString " out of bounds for length " ++ toString n : String) → vx_Note p l e R s m args below meth c H locs cells slots Q (F0 m pc ls rest) "java/lang/ArrayIndexOutOfBoundsException" tx) : W p l e R s m args below meth c H locs cells slots Q (F0 m pc ls (.int i :: .ref a :: rest)) := by
  intro T hT X
  obtain ⟨t, st, q⟩ := k _ rfl T hT X
  refine ⟨t, ?_, q⟩
  have h1 := X.baloadOut hexec (by rw [hT]; exact hP q0 _ ha) ((hK.2 t0 _ ht).1 n (fun j => .int (f j))) (j := i) (by show (i < 0 ∨ (arrV _ _ _).slots.size ≤ _); rw [arrV_size]; exact Classical.byContradiction hout) (g := F0 m pc ls (.int i :: .ref a :: rest)) rfl (rest := rest) rfl (by rw [hb]; exact hdg) t
  simp only [arrV_size] at h1
  exact h1 st
theorem vx_zastZ {D : va_G} {cl : List vw_C} {ws : va_W} {tys : List (ClassId × FieldType)} {a : Nat} (hexec : p.tables.exec = Jvm.exec) (hb : c.code = cc) (hK : va_K D cl tys s) (hP : va_P D cl ws H) (q0 t0 : Nat) {cA : ClassId} {n : Nat} {f : Nat → Int32} (ha : ws[q0]? = some (a, .inl (cA, n, .inl f))) (ht : tys[t0]? = some (cA, .boolean)) {i : Int32} {x : Int32} (hout : ¬ vp_in i n) (hdg : decode cc pc = .ok (.bastore, 1))
    (k : ∀ tx : String, tx = (toString "Index " ++ toString i ++ toString " out of bounds for length " ++ toString n : String) → vx_Note p l e R s m args below meth c H locs cells slots Q (F0 m pc ls rest) "java/lang/ArrayIndexOutOfBoundsException" tx) : W p l e R s m args below meth c H locs cells slots Q (F0 m pc ls (.int x :: .int i :: .ref a :: rest)) := by
  intro T hT X
  obtain ⟨t, st, q⟩ := k _ rfl T hT X
  refine ⟨t, ?_, q⟩
  have h1 := X.bastoreOut hexec (by rw [hT]; exact hP q0 _ ha) ((hK.2 t0 _ ht).1 n (fun j => .int (f j))) (j := i) (by show (i < 0 ∨ (arrV _ _ _).slots.size ≤ _); rw [arrV_size]; exact Classical.byContradiction hout) (g := F0 m pc ls (.int x :: .int i :: .ref a :: rest)) rfl (rest := rest) rfl (by rw [hb]; exact hdg) t
  simp only [arrV_size] at h1
  exact h1 st
theorem vx_caldZ {D : va_G} {cl : List vw_C} {ws : va_W} {tys : List (ClassId × FieldType)} {a : Nat} (hexec : p.tables.exec = Jvm.exec) (hb : c.code = cc) (hK : va_K D cl tys s) (hP : va_P D cl ws H) (q0 t0 : Nat) {cA : ClassId} {n : Nat} {f : Nat → Int32} (ha : ws[q0]? = some (a, .inl (cA, n, .inl f))) (ht : tys[t0]? = some (cA, .char)) {i : Int32} (hout : ¬ vp_in i n) (hdg : decode cc pc = .ok (.caload, 1))
    (k : ∀ tx : String, tx = (toString "Index " ++ toString i ++ toString " out of bounds for length " ++ toString n : String) → vx_Note p l e R s m args below meth c H locs cells slots Q (F0 m pc ls rest) "java/lang/ArrayIndexOutOfBoundsException" tx) : W p l e R s m args below meth c H locs cells slots Q (F0 m pc ls (.int i :: .ref a :: rest)) := by
  intro T hT X
  obtain ⟨t, st, q⟩ := k _ rfl T hT X
  refine ⟨t, ?_, q⟩
  have h1 := X.caloadOut hexec (by rw [hT]; exact hP q0 _ ha) ((hK.2 t0 _ ht).1 n (fun j => .int (f j))) (j := i) (by show (i < 0 ∨ (arrV _ _ _).slots.size ≤ _); rw [arrV_size]; exact Classical.byContradiction hout) (g := F0 m pc ls (.int i :: .ref a :: rest)) rfl (rest := rest) rfl (by rw [hb]; exact hdg) t
  simp only [arrV_size] at h1
  exact h1 st
theorem vx_castZ {D : va_G} {cl : List vw_C} {ws : va_W} {tys : List (ClassId × FieldType)} {a : Nat} (hexec : p.tables.exec = Jvm.exec) (hb : c.code = cc) (hK : va_K D cl tys s) (hP : va_P D cl ws H) (q0 t0 : Nat) {cA : ClassId} {n : Nat} {f : Nat → Int32} (ha : ws[q0]? = some (a, .inl (cA, n, .inl f))) (ht : tys[t0]? = some (cA, .char)) {i : Int32} {x : Int32} (hout : ¬ vp_in i n) (hdg : decode cc pc = .ok (.castore, 1))
    (k : ∀ tx : String, tx = (toString "Index " ++ toString i ++ toString " out of bounds for length " ++ toString n : String) → vx_Note p l e R s m args below meth c H locs cells slots Q (F0 m pc ls rest) "java/lang/ArrayIndexOutOfBoundsException" tx) : W p l e R s m args below meth c H locs cells slots Q (F0 m pc ls (.int x :: .int i :: .ref a :: rest)) := by
  intro T hT X
  obtain ⟨t, st, q⟩ := k _ rfl T hT X
  refine ⟨t, ?_, q⟩
  have h1 := X.castoreOut hexec (by rw [hT]; exact hP q0 _ ha) ((hK.2 t0 _ ht).1 n (fun j => .int (f j))) (j := i) (by show (i < 0 ∨ (arrV _ _ _).slots.size ≤ _); rw [arrV_size]; exact Classical.byContradiction hout) (g := F0 m pc ls (.int x :: .int i :: .ref a :: rest)) rfl (rest := rest) rfl (by rw [hb]; exact hdg) t
  simp only [arrV_size] at h1
  exact h1 st
theorem vx_saldZ {D : va_G} {cl : List vw_C} {ws : va_W} {tys : List (ClassId × FieldType)} {a : Nat} (hexec : p.tables.exec = Jvm.exec) (hb : c.code = cc) (hK : va_K D cl tys s) (hP : va_P D cl ws H) (q0 t0 : Nat) {cA : ClassId} {n : Nat} {f : Nat → Int32} (ha : ws[q0]? = some (a, .inl (cA, n, .inl f))) (ht : tys[t0]? = some (cA, .short)) {i : Int32} (hout : ¬ vp_in i n) (hdg : decode cc pc = .ok (.saload, 1))
    (k : ∀ tx : String, tx = (toString "Index " ++ toString i ++ toString " out of bounds for length " ++ toString n : String) → vx_Note p l e R s m args below meth c H locs cells slots Q (F0 m pc ls rest) "java/lang/ArrayIndexOutOfBoundsException" tx) : W p l e R s m args below meth c H locs cells slots Q (F0 m pc ls (.int i :: .ref a :: rest)) := by
  intro T hT X
  obtain ⟨t, st, q⟩ := k _ rfl T hT X
  refine ⟨t, ?_, q⟩
  have h1 := X.saloadOut hexec (by rw [hT]; exact hP q0 _ ha) ((hK.2 t0 _ ht).1 n (fun j => .int (f j))) (j := i) (by show (i < 0 ∨ (arrV _ _ _).slots.size ≤ _); rw [arrV_size]; exact Classical.byContradiction hout) (g := F0 m pc ls (.int i :: .ref a :: rest)) rfl (rest := rest) rfl (by rw [hb]; exact hdg) t
  simp only [arrV_size] at h1
  exact h1 st
theorem vx_sastZ {D : va_G} {cl : List vw_C} {ws : va_W} {tys : List (ClassId × FieldType)} {a : Nat} (hexec : p.tables.exec = Jvm.exec) (hb : c.code = cc) (hK : va_K D cl tys s) (hP : va_P D cl ws H) (q0 t0 : Nat) {cA : ClassId} {n : Nat} {f : Nat → Int32} (ha : ws[q0]? = some (a, .inl (cA, n, .inl f))) (ht : tys[t0]? = some (cA, .short)) {i : Int32} {x : Int32} (hout : ¬ vp_in i n) (hdg : decode cc pc = .ok (.sastore, 1))
    (k : ∀ tx : String, tx = (toString "Index " ++ toString i ++ toString " out of bounds for length " ++ toString n : String) → vx_Note p l e R s m args below meth c H locs cells slots Q (F0 m pc ls rest) "java/lang/ArrayIndexOutOfBoundsException" tx) : W p l e R s m args below meth c H locs cells slots Q (F0 m pc ls (.int x :: .int i :: .ref a :: rest)) := by
  intro T hT X
  obtain ⟨t, st, q⟩ := k _ rfl T hT X
  refine ⟨t, ?_, q⟩
  have h1 := X.sastoreOut hexec (by rw [hT]; exact hP q0 _ ha) ((hK.2 t0 _ ht).1 n (fun j => .int (f j))) (j := i) (by show (i < 0 ∨ (arrV _ _ _).slots.size ≤ _); rw [arrV_size]; exact Classical.byContradiction hout) (g := F0 m pc ls (.int x :: .int i :: .ref a :: rest)) rfl (rest := rest) rfl (by rw [hb]; exact hdg) t
  simp only [arrV_size] at h1
  exact h1 st
theorem vx_laldZ {D : va_G} {cl : List vw_C} {ws : va_W} {tys : List (ClassId × FieldType)} {a : Nat} (hexec : p.tables.exec = Jvm.exec) (hb : c.code = cc) (hK : va_K D cl tys s) (hP : va_P D cl ws H) (q0 t0 : Nat) {cA : ClassId} {n : Nat} {f : Nat → Int64} (ha : ws[q0]? = some (a, .inl (cA, n, .inr (.inl f)))) (ht : tys[t0]? = some (cA, .long)) {i : Int32} (hout : ¬ vp_in i n) (hdg : decode cc pc = .ok (.laload, 1))
    (k : ∀ tx : String, tx = (toString "Index " ++ toString i ++ toString " out of bounds for length " ++ toString n : String) → vx_Note p l e R s m args below meth c H locs cells slots Q (F0 m pc ls rest) "java/lang/ArrayIndexOutOfBoundsException" tx) : W p l e R s m args below meth c H locs cells slots Q (F0 m pc ls (.int i :: .ref a :: rest)) := by
  intro T hT X
  obtain ⟨t, st, q⟩ := k _ rfl T hT X
  refine ⟨t, ?_, q⟩
  have h1 := X.laloadOut hexec (by rw [hT]; exact hP q0 _ ha) ((hK.2 t0 _ ht).1 n (fun j => .long (f j))) (j := i) (by show (i < 0 ∨ (arrV _ _ _).slots.size ≤ _); rw [arrV_size]; exact Classical.byContradiction hout) (g := F0 m pc ls (.int i :: .ref a :: rest)) rfl (rest := rest) rfl (by rw [hb]; exact hdg) t
  simp only [arrV_size] at h1
  exact h1 st
theorem vx_lastZ {D : va_G} {cl : List vw_C} {ws : va_W} {tys : List (ClassId × FieldType)} {a : Nat} (hexec : p.tables.exec = Jvm.exec) (hb : c.code = cc) (hK : va_K D cl tys s) (hP : va_P D cl ws H) (q0 t0 : Nat) {cA : ClassId} {n : Nat} {f : Nat → Int64} (ha : ws[q0]? = some (a, .inl (cA, n, .inr (.inl f)))) (ht : tys[t0]? = some (cA, .long)) {i : Int32} {x : Int64} (hout : ¬ vp_in i n) (hdg : decode cc pc = .ok (.lastore, 1))
    (k : ∀ tx : String, tx = (toString "Index " ++ toString i ++ toString " out of bounds for length " ++ toString n : String) → vx_Note p l e R s m args below meth c H locs cells slots Q (F0 m pc ls rest) "java/lang/ArrayIndexOutOfBoundsException" tx) : W p l e R s m args below meth c H locs cells slots Q (F0 m pc ls (.long x :: .int i :: .ref a :: rest)) := by
  intro T hT X
  obtain ⟨t, st, q⟩ := k _ rfl T hT X
  refine ⟨t, ?_, q⟩
  have h1 := X.lastoreOut hexec (by rw [hT]; exact hP q0 _ ha) ((hK.2 t0 _ ht).1 n (fun j => .long (f j))) (j := i) (by show (i < 0 ∨ (arrV _ _ _).slots.size ≤ _); rw [arrV_size]; exact Classical.byContradiction hout) (g := F0 m pc ls (.long x :: .int i :: .ref a :: rest)) rfl (rest := rest) rfl (by rw [hb]; exact hdg) t
  simp only [arrV_size] at h1
  exact h1 st
theorem vx_faldZ {D : va_G} {cl : List vw_C} {ws : va_W} {tys : List (ClassId × FieldType)} {a : Nat} (hexec : p.tables.exec = Jvm.exec) (hb : c.code = cc) (hK : va_K D cl tys s) (hP : va_P D cl ws H) (q0 t0 : Nat) {cA : ClassId} {n : Nat} {f : Nat → UInt32} (ha : ws[q0]? = some (a, .inl (cA, n, .inr (.inr (.inl f))))) (ht : tys[t0]? = some (cA, .float)) {i : Int32} (hout : ¬ vp_in i n) (hdg : decode cc pc = .ok (.faload, 1))
    (k : ∀ tx : String, tx = (toString "Index " ++ toString i ++ toString " out of bounds for length " ++ toString n : String) → vx_Note p l e R s m args below meth c H locs cells slots Q (F0 m pc ls rest) "java/lang/ArrayIndexOutOfBoundsException" tx) : W p l e R s m args below meth c H locs cells slots Q (F0 m pc ls (.int i :: .ref a :: rest)) := by
  intro T hT X
  obtain ⟨t, st, q⟩ := k _ rfl T hT X
  refine ⟨t, ?_, q⟩
  have h1 := X.faloadOut hexec (by rw [hT]; exact hP q0 _ ha) ((hK.2 t0 _ ht).1 n (fun j => .float (f j))) (j := i) (by show (i < 0 ∨ (arrV _ _ _).slots.size ≤ _); rw [arrV_size]; exact Classical.byContradiction hout) (g := F0 m pc ls (.int i :: .ref a :: rest)) rfl (rest := rest) rfl (by rw [hb]; exact hdg) t
  simp only [arrV_size] at h1
  exact h1 st
theorem vx_fastZ {D : va_G} {cl : List vw_C} {ws : va_W} {tys : List (ClassId × FieldType)} {a : Nat} (hexec : p.tables.exec = Jvm.exec) (hb : c.code = cc) (hK : va_K D cl tys s) (hP : va_P D cl ws H) (q0 t0 : Nat) {cA : ClassId} {n : Nat} {f : Nat → UInt32} (ha : ws[q0]? = some (a, .inl (cA, n, .inr (.inr (.inl f))))) (ht : tys[t0]? = some (cA, .float)) {i : Int32} {x : UInt32} (hout : ¬ vp_in i n) (hdg : decode cc pc = .ok (.fastore, 1))
    (k : ∀ tx : String, tx = (toString "Index " ++ toString i ++ toString " out of bounds for length " ++ toString n : String) → vx_Note p l e R s m args below meth c H locs cells slots Q (F0 m pc ls rest) "java/lang/ArrayIndexOutOfBoundsException" tx) : W p l e R s m args below meth c H locs cells slots Q (F0 m pc ls (.float x :: .int i :: .ref a :: rest)) := by
  intro T hT X
  obtain ⟨t, st, q⟩ := k _ rfl T hT X
  refine ⟨t, ?_, q⟩
  have h1 := X.fastoreOut hexec (by rw [hT]; exact hP q0 _ ha) ((hK.2 t0 _ ht).1 n (fun j => .float (f j))) (j := i) (by show (i < 0 ∨ (arrV _ _ _).slots.size ≤ _); rw [arrV_size]; exact Classical.byContradiction hout) (g := F0 m pc ls (.float x :: .int i :: .ref a :: rest)) rfl (rest := rest) rfl (by rw [hb]; exact hdg) t
  simp only [arrV_size] at h1
  exact h1 st
theorem vx_daldZ {D : va_G} {cl : List vw_C} {ws : va_W} {tys : List (ClassId × FieldType)} {a : Nat} (hexec : p.tables.exec = Jvm.exec) (hb : c.code = cc) (hK : va_K D cl tys s) (hP : va_P D cl ws H) (q0 t0 : Nat) {cA : ClassId} {n : Nat} {f : Nat → UInt64} (ha : ws[q0]? = some (a, .inl (cA, n, .inr (.inr (.inr (.inl f)))))) (ht : tys[t0]? = some (cA, .double)) {i : Int32} (hout : ¬ vp_in i n) (hdg : decode cc pc = .ok (.daload, 1))
    (k : ∀ tx : String, tx = (toString "Index " ++ toString i ++ toString " out of bounds for length " ++ toString n : String) → vx_Note p l e R s m args below meth c H locs cells slots Q (F0 m pc ls rest) "java/lang/ArrayIndexOutOfBoundsException" tx) : W p l e R s m args below meth c H locs cells slots Q (F0 m pc ls (.int i :: .ref a :: rest)) := by
  intro T hT X
  obtain ⟨t, st, q⟩ := k _ rfl T hT X
  refine ⟨t, ?_, q⟩
  have h1 := X.daloadOut hexec (by rw [hT]; exact hP q0 _ ha) ((hK.2 t0 _ ht).1 n (fun j => .double (f j))) (j := i) (by show (i < 0 ∨ (arrV _ _ _).slots.size ≤ _); rw [arrV_size]; exact Classical.byContradiction hout) (g := F0 m pc ls (.int i :: .ref a :: rest)) rfl (rest := rest) rfl (by rw [hb]; exact hdg) t
  simp only [arrV_size] at h1
  exact h1 st
theorem vx_dastZ {D : va_G} {cl : List vw_C} {ws : va_W} {tys : List (ClassId × FieldType)} {a : Nat} (hexec : p.tables.exec = Jvm.exec) (hb : c.code = cc) (hK : va_K D cl tys s) (hP : va_P D cl ws H) (q0 t0 : Nat) {cA : ClassId} {n : Nat} {f : Nat → UInt64} (ha : ws[q0]? = some (a, .inl (cA, n, .inr (.inr (.inr (.inl f)))))) (ht : tys[t0]? = some (cA, .double)) {i : Int32} {x : UInt64} (hout : ¬ vp_in i n) (hdg : decode cc pc = .ok (.dastore, 1))
    (k : ∀ tx : String, tx = (toString "Index " ++ toString i ++ toString " out of bounds for length " ++ toString n : String) → vx_Note p l e R s m args below meth c H locs cells slots Q (F0 m pc ls rest) "java/lang/ArrayIndexOutOfBoundsException" tx) : W p l e R s m args below meth c H locs cells slots Q (F0 m pc ls (.double x :: .int i :: .ref a :: rest)) := by
  intro T hT X
  obtain ⟨t, st, q⟩ := k _ rfl T hT X
  refine ⟨t, ?_, q⟩
  have h1 := X.dastoreOut hexec (by rw [hT]; exact hP q0 _ ha) ((hK.2 t0 _ ht).1 n (fun j => .double (f j))) (j := i) (by show (i < 0 ∨ (arrV _ _ _).slots.size ≤ _); rw [arrV_size]; exact Classical.byContradiction hout) (g := F0 m pc ls (.double x :: .int i :: .ref a :: rest)) rfl (rest := rest) rfl (by rw [hb]; exact hdg) t
  simp only [arrV_size] at h1
  exact h1 st
theorem vx_arraylengthN (hexec : p.tables.exec = Jvm.exec) (hb : c.code = cc) (hdg : decode cc pc = .ok (.arraylength, 1)) (k : vx_NoteN p l e R s m args below meth c H locs cells slots Q (F0 m pc ls rest)) : W p l e R s m args below meth c H locs cells slots Q (F0 m pc ls (.null :: rest)) := by
  intro T hT X
  obtain ⟨t, st, q⟩ := k T hT X
  exact ⟨t, X.arraylengthNull hexec (g := F0 m pc ls (.null :: rest)) rfl (rest := rest) rfl (by rw [hb]; exact hdg) t st, q⟩
theorem vx_ialoadN (hexec : p.tables.exec = Jvm.exec) (hb : c.code = cc) {i : Int32} (hdg : decode cc pc = .ok (.iaload, 1)) (k : vx_NoteN p l e R s m args below meth c H locs cells slots Q (F0 m pc ls rest)) : W p l e R s m args below meth c H locs cells slots Q (F0 m pc ls (.int i :: .null :: rest)) := by
  intro T hT X
  obtain ⟨t, st, q⟩ := k T hT X
  exact ⟨t, X.ialoadNull hexec (g := F0 m pc ls (.int i :: .null :: rest)) rfl (rest := rest) rfl (by rw [hb]; exact hdg) t st, q⟩
theorem vx_laloadN (hexec : p.tables.exec = Jvm.exec) (hb : c.code = cc) {i : Int32} (hdg : decode cc pc = .ok (.laload, 1)) (k : vx_NoteN p l e R s m args below meth c H locs cells slots Q (F0 m pc ls rest)) : W p l e R s m args below meth c H locs cells slots Q (F0 m pc ls (.int i :: .null :: rest)) := by
  intro T hT X
  obtain ⟨t, st, q⟩ := k T hT X
  exact ⟨t, X.laloadNull hexec (g := F0 m pc ls (.int i :: .null :: rest)) rfl (rest := rest) rfl (by rw [hb]; exact hdg) t st, q⟩
theorem vx_faloadN (hexec : p.tables.exec = Jvm.exec) (hb : c.code = cc) {i : Int32} (hdg : decode cc pc = .ok (.faload, 1)) (k : vx_NoteN p l e R s m args below meth c H locs cells slots Q (F0 m pc ls rest)) : W p l e R s m args below meth c H locs cells slots Q (F0 m pc ls (.int i :: .null :: rest)) := by
  intro T hT X
  obtain ⟨t, st, q⟩ := k T hT X
  exact ⟨t, X.faloadNull hexec (g := F0 m pc ls (.int i :: .null :: rest)) rfl (rest := rest) rfl (by rw [hb]; exact hdg) t st, q⟩
theorem vx_daloadN (hexec : p.tables.exec = Jvm.exec) (hb : c.code = cc) {i : Int32} (hdg : decode cc pc = .ok (.daload, 1)) (k : vx_NoteN p l e R s m args below meth c H locs cells slots Q (F0 m pc ls rest)) : W p l e R s m args below meth c H locs cells slots Q (F0 m pc ls (.int i :: .null :: rest)) := by
  intro T hT X
  obtain ⟨t, st, q⟩ := k T hT X
  exact ⟨t, X.daloadNull hexec (g := F0 m pc ls (.int i :: .null :: rest)) rfl (rest := rest) rfl (by rw [hb]; exact hdg) t st, q⟩
theorem vx_aaloadN (hexec : p.tables.exec = Jvm.exec) (hb : c.code = cc) {i : Int32} (hdg : decode cc pc = .ok (.aaload, 1)) (k : vx_NoteN p l e R s m args below meth c H locs cells slots Q (F0 m pc ls rest)) : W p l e R s m args below meth c H locs cells slots Q (F0 m pc ls (.int i :: .null :: rest)) := by
  intro T hT X
  obtain ⟨t, st, q⟩ := k T hT X
  exact ⟨t, X.aaloadNull hexec (g := F0 m pc ls (.int i :: .null :: rest)) rfl (rest := rest) rfl (by rw [hb]; exact hdg) t st, q⟩
theorem vx_baloadN (hexec : p.tables.exec = Jvm.exec) (hb : c.code = cc) {i : Int32} (hdg : decode cc pc = .ok (.baload, 1)) (k : vx_NoteN p l e R s m args below meth c H locs cells slots Q (F0 m pc ls rest)) : W p l e R s m args below meth c H locs cells slots Q (F0 m pc ls (.int i :: .null :: rest)) := by
  intro T hT X
  obtain ⟨t, st, q⟩ := k T hT X
  exact ⟨t, X.baloadNull hexec (g := F0 m pc ls (.int i :: .null :: rest)) rfl (rest := rest) rfl (by rw [hb]; exact hdg) t st, q⟩
theorem vx_caloadN (hexec : p.tables.exec = Jvm.exec) (hb : c.code = cc) {i : Int32} (hdg : decode cc pc = .ok (.caload, 1)) (k : vx_NoteN p l e R s m args below meth c H locs cells slots Q (F0 m pc ls rest)) : W p l e R s m args below meth c H locs cells slots Q (F0 m pc ls (.int i :: .null :: rest)) := by
  intro T hT X
  obtain ⟨t, st, q⟩ := k T hT X
  exact ⟨t, X.caloadNull hexec (g := F0 m pc ls (.int i :: .null :: rest)) rfl (rest := rest) rfl (by rw [hb]; exact hdg) t st, q⟩
theorem vx_saloadN (hexec : p.tables.exec = Jvm.exec) (hb : c.code = cc) {i : Int32} (hdg : decode cc pc = .ok (.saload, 1)) (k : vx_NoteN p l e R s m args below meth c H locs cells slots Q (F0 m pc ls rest)) : W p l e R s m args below meth c H locs cells slots Q (F0 m pc ls (.int i :: .null :: rest)) := by
  intro T hT X
  obtain ⟨t, st, q⟩ := k T hT X
  exact ⟨t, X.saloadNull hexec (g := F0 m pc ls (.int i :: .null :: rest)) rfl (rest := rest) rfl (by rw [hb]; exact hdg) t st, q⟩
theorem vx_iastoreN (hexec : p.tables.exec = Jvm.exec) (hb : c.code = cc) {x : Int32} {i : Int32} (hdg : decode cc pc = .ok (.iastore, 1)) (k : vx_NoteN p l e R s m args below meth c H locs cells slots Q (F0 m pc ls rest)) : W p l e R s m args below meth c H locs cells slots Q (F0 m pc ls (.int x :: .int i :: .null :: rest)) := by
  intro T hT X
  obtain ⟨t, st, q⟩ := k T hT X
  exact ⟨t, X.iastoreNull hexec (g := F0 m pc ls (.int x :: .int i :: .null :: rest)) rfl (rest := rest) rfl (by rw [hb]; exact hdg) t st, q⟩
theorem vx_lastoreN (hexec : p.tables.exec = Jvm.exec) (hb : c.code = cc) {x : Int64} {i : Int32} (hdg : decode cc pc = .ok (.lastore, 1)) (k : vx_NoteN p l e R s m args below meth c H locs cells slots Q (F0 m pc ls rest)) : W p l e R s m args below meth c H locs cells slots Q (F0 m pc ls (.long x :: .int i :: .null :: rest)) := by
  intro T hT X
  obtain ⟨t, st, q⟩ := k T hT X
  exact ⟨t, X.lastoreNull hexec (g := F0 m pc ls (.long x :: .int i :: .null :: rest)) rfl (rest := rest) rfl (by rw [hb]; exact hdg) t st, q⟩
theorem vx_fastoreN (hexec : p.tables.exec = Jvm.exec) (hb : c.code = cc) {x : UInt32} {i : Int32} (hdg : decode cc pc = .ok (.fastore, 1)) (k : vx_NoteN p l e R s m args below meth c H locs cells slots Q (F0 m pc ls rest)) : W p l e R s m args below meth c H locs cells slots Q (F0 m pc ls (.float x :: .int i :: .null :: rest)) := by
  intro T hT X
  obtain ⟨t, st, q⟩ := k T hT X
  exact ⟨t, X.fastoreNull hexec (g := F0 m pc ls (.float x :: .int i :: .null :: rest)) rfl (rest := rest) rfl (by rw [hb]; exact hdg) t st, q⟩
theorem vx_dastoreN (hexec : p.tables.exec = Jvm.exec) (hb : c.code = cc) {x : UInt64} {i : Int32} (hdg : decode cc pc = .ok (.dastore, 1)) (k : vx_NoteN p l e R s m args below meth c H locs cells slots Q (F0 m pc ls rest)) : W p l e R s m args below meth c H locs cells slots Q (F0 m pc ls (.double x :: .int i :: .null :: rest)) := by
  intro T hT X
  obtain ⟨t, st, q⟩ := k T hT X
  exact ⟨t, X.dastoreNull hexec (g := F0 m pc ls (.double x :: .int i :: .null :: rest)) rfl (rest := rest) rfl (by rw [hb]; exact hdg) t st, q⟩
theorem vx_bastoreN (hexec : p.tables.exec = Jvm.exec) (hb : c.code = cc) {x : Int32} {i : Int32} (hdg : decode cc pc = .ok (.bastore, 1)) (k : vx_NoteN p l e R s m args below meth c H locs cells slots Q (F0 m pc ls rest)) : W p l e R s m args below meth c H locs cells slots Q (F0 m pc ls (.int x :: .int i :: .null :: rest)) := by
  intro T hT X
  obtain ⟨t, st, q⟩ := k T hT X
  exact ⟨t, X.bastoreNull hexec (g := F0 m pc ls (.int x :: .int i :: .null :: rest)) rfl (rest := rest) rfl (by rw [hb]; exact hdg) t st, q⟩
theorem vx_castoreN (hexec : p.tables.exec = Jvm.exec) (hb : c.code = cc) {x : Int32} {i : Int32} (hdg : decode cc pc = .ok (.castore, 1)) (k : vx_NoteN p l e R s m args below meth c H locs cells slots Q (F0 m pc ls rest)) : W p l e R s m args below meth c H locs cells slots Q (F0 m pc ls (.int x :: .int i :: .null :: rest)) := by
  intro T hT X
  obtain ⟨t, st, q⟩ := k T hT X
  exact ⟨t, X.castoreNull hexec (g := F0 m pc ls (.int x :: .int i :: .null :: rest)) rfl (rest := rest) rfl (by rw [hb]; exact hdg) t st, q⟩
theorem vx_sastoreN (hexec : p.tables.exec = Jvm.exec) (hb : c.code = cc) {x : Int32} {i : Int32} (hdg : decode cc pc = .ok (.sastore, 1)) (k : vx_NoteN p l e R s m args below meth c H locs cells slots Q (F0 m pc ls rest)) : W p l e R s m args below meth c H locs cells slots Q (F0 m pc ls (.int x :: .int i :: .null :: rest)) := by
  intro T hT X
  obtain ⟨t, st, q⟩ := k T hT X
  exact ⟨t, X.sastoreNull hexec (g := F0 m pc ls (.int x :: .int i :: .null :: rest)) rfl (rest := rest) rfl (by rw [hb]; exact hdg) t st, q⟩
theorem vx_invokeN {own C : String} {index maxL : Nat} {y : MethodName} {bytes : ByteArray} {ret : Option FieldType} (hexec : p.tables.exec = Jvm.exec) (hb : c.code = cc) (hown : s.vm.findClass own = some m.cls) (hlink : (Cond.methodLink own index y).before args s = true) (hinst : (Cond.instanceMethod y).before args s = true) (hcode : (Cond.code y bytes maxL ret).before args s = true) (hsel : (Cond.selects C y y).before args s = true)
    (hx : y.cls ≠ "java/lang/invoke/MethodHandle" ∧ y.cls ≠ "java/lang/invoke/VarHandle") {As : List Value} (hlen : (parseMethodDescriptor y.desc).map (fun d => d.parameters.length) = some As.length) (hdg : decode cc pc = .ok (.invokevirtual index, 3))
    (k : vx_NoteN p l e R s m args below meth c H locs cells slots Q (F0 m pc ls rest)) {st0 : List Value} (hst : st0 = As.reverse ++ .null :: rest) : W p l e R s m args below meth c H locs cells slots Q (F0 m pc ls st0) := by
  intro T hT X
  obtain ⟨r0, r, hn, hrm, hstR, hsigR⟩ := va_Decl.of hinst hcode
  obtain ⟨c2, r2, m2, q1, q2, q3, q4, kP, hkP, hkPi⟩ := Cond.selects_spec hsel
  cases hn.symm.trans q3
  have hl9 : As.length = r.sig.parameters.length := by
    rw [hsigR] at hlen
    exact (Option.some.inj hlen).symm
  obtain ⟨vm', X1, st1⟩ := X.invokevirtualNull hexec hown hlink hn hrm hstR hkP hkPi hx (g := F0 m pc ls st0) rfl (argsL := As) (rest := rest) hl9 hst (by rw [hb]; exact hdg)
  obtain ⟨t, st, q⟩ := k (T.setVm vm') hT X1
  exact ⟨t, st1 t st, q⟩
theorem vx_newarrayZ {atype : ArrayType} (hexec : p.tables.exec = Jvm.exec) (hb : c.code = cc) {n : Int32} (h0 : n < 0) (hdg : decode cc pc = .ok (.newarray atype, 2)) (k : ∀ tx : String, tx = toString n → vx_Note p l e R s m args below meth c H locs cells slots Q (F0 m pc ls rest) "java/lang/NegativeArraySizeException" tx) : W p l e R s m args below meth c H locs cells slots Q (F0 m pc ls (.int n :: rest)) := by
  intro T hT X
  obtain ⟨t, st, q⟩ := k _ rfl T hT X
  exact ⟨t, X.newarrayNegative hexec (g := F0 m pc ls (.int n :: rest)) rfl h0 (rest := rest) rfl (by rw [hb]; exact hdg) t st, q⟩
end
end VXM
/-! ===== END ===== -/

/-! ===== BEGIN printed: names, fields, word lists, decode rows ===== -/
def RX0 : String := "FerroDesk$Board"
def TX0 : u_T := fun k => match k with
  | 0 => ("FerroDesk$Board", "district", "I", false)
  | 1 => ("FerroDesk$Board", "charge", "I", false)
  | 2 => ("FerroDesk$Board", "shown", "LFerroDesk$Notice;", false)
  | 3 => ("FerroDesk$Board", "shiftedBy", "I", false)
  | 4 => ("FerroDesk$Board", "asleep", "Z", false)
  | 5 => ("FerroDesk$Board", "black", "I", false)
  | 6 => ("FerroDesk$Board", "wearByCell", "[I", true)
  | 7 => ("FerroDesk$Board", "greatestWear", "I", false)
  | 8 => ("FerroDesk$Board", "mostWorn", "I", false)
  | 9 => ("FerroDesk$Board", "wornOut", "I", false)
  | 10 => ("FerroDesk$Board", "changed", "[I", true)
  | _ => ("FerroDesk$Board", "timesChanged", "I", false)
def tyX0 : Nat → FieldType := fun k => match k with
  | 0 => .int
  | 1 => .int
  | 2 => .object "FerroDesk$Notice"
  | 3 => .int
  | 4 => .boolean
  | 5 => .int
  | 6 => .array .int
  | 7 => .int
  | 8 => .int
  | 9 => .int
  | 10 => .array .int
  | _ => .int
abbrev wsX00 : List Cond := u_ws RX0 TX0 12
theorem nmX0 : ∀ a, a < 12 → ∀ b, b < 12 → a ≠ b → (TX0 a).2.1 ≠ (TX0 b).2.1 := by decide +kernel
theorem tyX0_ok : ∀ k, k < 12 → parseFieldDescriptor (TX0 k).2.2.1 = some (tyX0 k) := by decide +kernel
abbrev cX0_init : ByteArray := prog_2_method_1_code
def yX0_init : MethodName := ⟨RX0, "<init>", "()V"⟩
abbrev cX0_settle : ByteArray := prog_2_method_2_code
def yX0_settle : MethodName := ⟨RX0, "settle", "(II)V"⟩
abbrev cX0_chargeBy : ByteArray := prog_2_method_3_code
def yX0_chargeBy : MethodName := ⟨RX0, "chargeBy", "(I)V"⟩
abbrev cX0_wearOf : ByteArray := prog_2_method_4_code
def yX0_wearOf : MethodName := ⟨RX0, "wearOf", "(I)I"⟩
abbrev cX0_wearOfAll : ByteArray := prog_2_method_5_code
def yX0_wearOfAll : MethodName := ⟨RX0, "wearOfAll", "()I"⟩
abbrev cX0_blackAnew : ByteArray := prog_2_method_6_code
def yX0_blackAnew : MethodName := ⟨RX0, "blackAnew", "()I"⟩
abbrev cX0_canWipe : ByteArray := prog_2_method_7_code
def yX0_canWipe : MethodName := ⟨RX0, "canWipe", "()Z"⟩
abbrev cX0_wipe : ByteArray := prog_2_method_8_code
def yX0_wipe : MethodName := ⟨RX0, "wipe", "()V"⟩
abbrev cX0_takesUp : ByteArray := prog_2_method_9_code
def yX0_takesUp : MethodName := ⟨RX0, "takesUp", "(LFerroDesk$Notice;)Z"⟩
abbrev cX0_bestShift : ByteArray := prog_2_method_10_code
def yX0_bestShift : MethodName := ⟨RX0, "bestShift", "(I)I"⟩
abbrev cX0_canTurnTo : ByteArray := prog_2_method_11_code
def yX0_canTurnTo : MethodName := ⟨RX0, "canTurnTo", "(I)Z"⟩
abbrev cX0_greatestWearBehind : ByteArray := prog_2_method_12_code
def yX0_greatestWearBehind : MethodName := ⟨RX0, "greatestWearBehind", "(I)I"⟩
abbrev cX0_change : ByteArray := prog_2_method_13_code
def yX0_change : MethodName := ⟨RX0, "change", "(I)V"⟩
abbrev cX0_wearOut : ByteArray := prog_2_method_14_code
def yX0_wearOut : MethodName := ⟨RX0, "wearOut", "(I)V"⟩
def RX1 : String := "FerroDesk$Notice"
def TX1 : u_T := fun k => match k with
  | 0 => ("FerroDesk$Notice", "number", "I", true)
  | 1 => ("FerroDesk$Notice", "readersAt", "[I", true)
  | 2 => ("FerroDesk$Notice", "rank", "I", false)
  | 3 => ("FerroDesk$Notice", "picture", "I", false)
  | 4 => ("FerroDesk$Notice", "from", "I", false)
  | 5 => ("FerroDesk$Notice", "till", "I", false)
  | 6 => ("FerroDesk$Notice", "mended", "Z", false)
  | 7 => ("FerroDesk$Notice", "takenBack", "Z", false)
  | _ => ("FerroDesk$Notice", "districts", "I", false)
def tyX1 : Nat → FieldType := fun k => match k with
  | 0 => .int
  | 1 => .array .int
  | 2 => .int
  | 3 => .int
  | 4 => .int
  | 5 => .int
  | 6 => .boolean
  | 7 => .boolean
  | _ => .int
abbrev wsX10 : List Cond := u_ws RX1 TX1 9
theorem nmX1 : ∀ a, a < 9 → ∀ b, b < 9 → a ≠ b → (TX1 a).2.1 ≠ (TX1 b).2.1 := by decide +kernel
theorem tyX1_ok : ∀ k, k < 9 → parseFieldDescriptor (TX1 k).2.2.1 = some (tyX1 k) := by decide +kernel
abbrev cX1_init : ByteArray := prog_3_method_1_code
def yX1_init : MethodName := ⟨RX1, "<init>", "(I)V"⟩
abbrev cX1_fill : ByteArray := prog_3_method_2_code
def yX1_fill : MethodName := ⟨RX1, "fill", "(IIII)V"⟩
abbrev cX1_isOver : ByteArray := prog_3_method_3_code
def yX1_isOver : MethodName := ⟨RX1, "isOver", "(I)Z"⟩
abbrev cX1_isOf : ByteArray := prog_3_method_4_code
def yX1_isOf : MethodName := ⟨RX1, "isOf", "(I)Z"⟩
abbrev cX1_putInto : ByteArray := prog_3_method_5_code
def yX1_putInto : MethodName := ⟨RX1, "putInto", "(I)V"⟩
abbrev cX1_isQueuedIn : ByteArray := prog_3_method_6_code
def yX1_isQueuedIn : MethodName := ⟨RX1, "isQueuedIn", "(II)Z"⟩
abbrev cX1_canHaveMade : ByteArray := prog_3_method_7_code
def yX1_canHaveMade : MethodName := ⟨RX1, "canHaveMade", "(I)Z"⟩
def RX2 : String := "FerroDesk$Readings"
def TX2 : u_T := fun k => match k with
  | 0 => ("FerroDesk$Readings", "noticeOf", "[I", true)
  | 1 => ("FerroDesk$Readings", "hourOf", "[I", true)
  | 2 => ("FerroDesk$Readings", "people", "[I", true)
  | _ => ("FerroDesk$Readings", "count", "I", false)
def tyX2 : Nat → FieldType := fun k => match k with
  | 0 => .array .int
  | 1 => .array .int
  | 2 => .array .int
  | _ => .int
abbrev wsX20 : List Cond := u_ws RX2 TX2 4
theorem nmX2 : ∀ a, a < 4 → ∀ b, b < 4 → a ≠ b → (TX2 a).2.1 ≠ (TX2 b).2.1 := by decide +kernel
theorem tyX2_ok : ∀ k, k < 4 → parseFieldDescriptor (TX2 k).2.2.1 = some (tyX2 k) := by decide +kernel
abbrev cX2_init : ByteArray := prog_4_method_1_code
def yX2_init : MethodName := ⟨RX2, "<init>", "()V"⟩
abbrev cX2_write : ByteArray := prog_4_method_2_code
def yX2_write : MethodName := ⟨RX2, "write", "(III)V"⟩
abbrev cX2_peopleOf : ByteArray := prog_4_method_3_code
def yX2_peopleOf : MethodName := ⟨RX2, "peopleOf", "(II)I"⟩
abbrev cX2_find : ByteArray := prog_4_method_4_code
def yX2_find : MethodName := ⟨RX2, "find", "(II)I"⟩
def RX3 : String := "FerroDesk"
def TX3 : u_T := fun k => match k with
  | 0 => ("FerroDesk", "boards", "[LFerroDesk$Board;", true)
  | 1 => ("FerroDesk", "boardCount", "I", false)
  | 2 => ("FerroDesk", "notices", "[LFerroDesk$Notice;", true)
  | 3 => ("FerroDesk", "ranked", "[LFerroDesk$Notice;", true)
  | 4 => ("FerroDesk", "noticeCount", "I", false)
  | 5 => ("FerroDesk", "readings", "LFerroDesk$Readings;", true)
  | 6 => ("FerroDesk", "sun", "I", false)
  | _ => ("FerroDesk", "hour", "I", false)
def tyX3 : Nat → FieldType := fun k => match k with
  | 0 => .array (.object "FerroDesk$Board")
  | 1 => .int
  | 2 => .array (.object "FerroDesk$Notice")
  | 3 => .array (.object "FerroDesk$Notice")
  | 4 => .int
  | 5 => .object "FerroDesk$Readings"
  | 6 => .int
  | _ => .int
abbrev wsX30 : List Cond := u_ws RX3 TX3 8
theorem nmX3 : ∀ a, a < 8 → ∀ b, b < 8 → a ≠ b → (TX3 a).2.1 ≠ (TX3 b).2.1 := by decide +kernel
theorem tyX3_ok : ∀ k, k < 8 → parseFieldDescriptor (TX3 k).2.2.1 = some (tyX3 k) := by decide +kernel
abbrev cX3_init : ByteArray := prog_1_method_1_code
def yX3_init : MethodName := ⟨RX3, "<init>", "()V"⟩
abbrev cX3_addBoard : ByteArray := prog_1_method_2_code
def yX3_addBoard : MethodName := ⟨RX3, "addBoard", "(II)I"⟩
abbrev cX3_setSun : ByteArray := prog_1_method_3_code
def yX3_setSun : MethodName := ⟨RX3, "setSun", "(I)I"⟩
abbrev cX3_charge : ByteArray := prog_1_method_4_code
def yX3_charge : MethodName := ⟨RX3, "charge", "(I)I"⟩
abbrev cX3_cell : ByteArray := prog_1_method_5_code
def yX3_cell : MethodName := ⟨RX3, "cell", "(III)I"⟩
abbrev cX3_wear : ByteArray := prog_1_method_6_code
def yX3_wear : MethodName := ⟨RX3, "wear", "(III)I"⟩
abbrev cX3_shows : ByteArray := prog_1_method_7_code
def yX3_shows : MethodName := ⟨RX3, "shows", "(I)I"⟩
abbrev cX3_shift : ByteArray := prog_1_method_8_code
def yX3_shift : MethodName := ⟨RX3, "shift", "(I)I"⟩
abbrev cX3_sleeps : ByteArray := prog_1_method_9_code
def yX3_sleeps : MethodName := ⟨RX3, "sleeps", "(I)Z"⟩
abbrev cX3_post : ByteArray := prog_1_method_10_code
def yX3_post : MethodName := ⟨RX3, "post", "(IIII)I"⟩
abbrev cX3_queue : ByteArray := prog_1_method_11_code
def yX3_queue : MethodName := ⟨RX3, "queue", "(II)Z"⟩
abbrev cX3_takeBack : ByteArray := prog_1_method_12_code
def yX3_takeBack : MethodName := ⟨RX3, "takeBack", "(II)I"⟩
abbrev cX3_mend : ByteArray := prog_1_method_13_code
def yX3_mend : MethodName := ⟨RX3, "mend", "(II)I"⟩
abbrev cX3_deny : ByteArray := prog_1_method_14_code
def yX3_deny : MethodName := ⟨RX3, "deny", "(III)I"⟩
abbrev cX3_queued : ByteArray := prog_1_method_15_code
def yX3_queued : MethodName := ⟨RX3, "queued", "(I)I"⟩
abbrev cX3_queuedAt : ByteArray := prog_1_method_16_code
def yX3_queuedAt : MethodName := ⟨RX3, "queuedAt", "(II)I"⟩
abbrev cX3_isDue : ByteArray := prog_1_method_17_code
def yX3_isDue : MethodName := ⟨RX3, "isDue", "(I)Z"⟩
abbrev cX3_pass : ByteArray := prog_1_method_18_code
def yX3_pass : MethodName := ⟨RX3, "pass", "(II)I"⟩
abbrev cX3_readers : ByteArray := prog_1_method_19_code
def yX3_readers : MethodName := ⟨RX3, "readers", "(II)I"⟩
abbrev cX3_readIn : ByteArray := prog_1_method_20_code
def yX3_readIn : MethodName := ⟨RX3, "readIn", "(II)I"⟩
abbrev cX3_suspects : ByteArray := prog_1_method_21_code
def yX3_suspects : MethodName := ⟨RX3, "suspects", "(II)I"⟩
abbrev cX3_suspectAt : ByteArray := prog_1_method_22_code
def yX3_suspectAt : MethodName := ⟨RX3, "suspectAt", "(III)I"⟩
abbrev cX3_go : ByteArray := prog_1_method_23_code
def yX3_go : MethodName := ⟨RX3, "go", "(I)I"⟩
abbrev cX3_hour : ByteArray := prog_1_method_24_code
def yX3_hour : MethodName := ⟨RX3, "hour", "()I"⟩
abbrev cX3_boards : ByteArray := prog_1_method_25_code
def yX3_boards : MethodName := ⟨RX3, "boards", "()I"⟩
abbrev cX3_notices : ByteArray := prog_1_method_26_code
def yX3_notices : MethodName := ⟨RX3, "notices", "()I"⟩
abbrev cX3_cellAnew : ByteArray := prog_1_method_27_code
def yX3_cellAnew : MethodName := ⟨RX3, "cellAnew", "(III)I"⟩
abbrev cX3_changes : ByteArray := prog_1_method_28_code
def yX3_changes : MethodName := ⟨RX3, "changes", "()J"⟩
abbrev cX3_worst : ByteArray := prog_1_method_29_code
def yX3_worst : MethodName := ⟨RX3, "worst", "(I)I"⟩
abbrev cX3_checksum : ByteArray := prog_1_method_30_code
def yX3_checksum : MethodName := ⟨RX3, "checksum", "()J"⟩
abbrev cX3_shownShare : ByteArray := prog_1_method_31_code
def yX3_shownShare : MethodName := ⟨RX3, "shownShare", "()F"⟩
abbrev cX3_meanWear : ByteArray := prog_1_method_32_code
def yX3_meanWear : MethodName := ⟨RX3, "meanWear", "()D"⟩
abbrev cX3_isSound : ByteArray := prog_1_method_33_code
def yX3_isSound : MethodName := ⟨RX3, "isSound", "()Z"⟩
abbrev cX3_boardAt : ByteArray := prog_1_method_34_code
def yX3_boardAt : MethodName := ⟨RX3, "boardAt", "(I)LFerroDesk$Board;"⟩
abbrev cX3_noticeAt : ByteArray := prog_1_method_35_code
def yX3_noticeAt : MethodName := ⟨RX3, "noticeAt", "(I)LFerroDesk$Notice;"⟩
abbrev cX3_cellAt : ByteArray := prog_1_method_36_code
def yX3_cellAt : MethodName := ⟨RX3, "cellAt", "(II)I"⟩
abbrev cX3_bitOf : ByteArray := prog_1_method_37_code
def yX3_bitOf : MethodName := ⟨RX3, "bitOf", "(II)I"⟩
abbrev cX3_checkDistrict : ByteArray := prog_1_method_38_code
def yX3_checkDistrict : MethodName := ⟨RX3, "checkDistrict", "(I)V"⟩
abbrev cX3_checkRumour : ByteArray := prog_1_method_39_code
def yX3_checkRumour : MethodName := ⟨RX3, "checkRumour", "(II)V"⟩
abbrev cX3_take : ByteArray := prog_1_method_40_code
def yX3_take : MethodName := ⟨RX3, "take", "(IIII)LFerroDesk$Notice;"⟩
abbrev cX3_queueWhereRead : ByteArray := prog_1_method_41_code
def yX3_queueWhereRead : MethodName := ⟨RX3, "queueWhereRead", "(LFerroDesk$Notice;LFerroDesk$Notice;)V"⟩
abbrev cX3_boardsThatShow : ByteArray := prog_1_method_42_code
def yX3_boardsThatShow : MethodName := ⟨RX3, "boardsThatShow", "(LFerroDesk$Notice;)I"⟩
abbrev cX3_readersIn : ByteArray := prog_1_method_43_code
def yX3_readersIn : MethodName := ⟨RX3, "readersIn", "(LFerroDesk$Notice;I)I"⟩
abbrev cX3_isSuspect : ByteArray := prog_1_method_44_code
def yX3_isSuspect : MethodName := ⟨RX3, "isSuspect", "(LFerroDesk$Notice;II)Z"⟩
abbrev cX3_suspectsAhead : ByteArray := prog_1_method_45_code
def yX3_suspectsAhead : MethodName := ⟨RX3, "suspectsAhead", "(LFerroDesk$Notice;II)I"⟩
abbrev cX3_letHourComeTo : ByteArray := prog_1_method_46_code
def yX3_letHourComeTo : MethodName := ⟨RX3, "letHourComeTo", "(LFerroDesk$Board;)V"⟩
abbrev cX3_shifted : ByteArray := prog_1_method_47_code
def yX3_shifted : MethodName := ⟨RX3, "shifted", "(II)I"⟩
def RX4 : String := "FerroDeskModel"
def TX4 : u_T := fun k => match k with
  | 0 => ("FerroDeskModel", "thrown", "I", false)
  | 1 => ("FerroDeskModel", "hour", "I", false)
  | 2 => ("FerroDeskModel", "light", "I", false)
  | 3 => ("FerroDeskModel", "boards", "I", false)
  | 4 => ("FerroDeskModel", "notices", "I", false)
  | 5 => ("FerroDeskModel", "changes", "J", false)
  | 6 => ("FerroDeskModel", "districtOf", "[I", true)
  | 7 => ("FerroDeskModel", "charge", "[I", true)
  | 8 => ("FerroDeskModel", "shown", "[I", true)
  | 9 => ("FerroDeskModel", "shift", "[I", true)
  | 10 => ("FerroDeskModel", "isAsleep", "[Z", true)
  | 11 => ("FerroDeskModel", "isBlack", "[Z", true)
  | 12 => ("FerroDeskModel", "wear", "[I", true)
  | 13 => ("FerroDeskModel", "rank", "[I", true)
  | 14 => ("FerroDeskModel", "picture", "[I", true)
  | 15 => ("FerroDeskModel", "from", "[I", true)
  | 16 => ("FerroDeskModel", "till", "[I", true)
  | 17 => ("FerroDeskModel", "isBack", "[Z", true)
  | 18 => ("FerroDeskModel", "isMended", "[Z", true)
  | 19 => ("FerroDeskModel", "isQueued", "[Z", true)
  | 20 => ("FerroDeskModel", "readAt", "[I", true)
  | _ => ("FerroDeskModel", "readIn", "[I", true)
def tyX4 : Nat → FieldType := fun k => match k with
  | 0 => .int
  | 1 => .int
  | 2 => .int
  | 3 => .int
  | 4 => .int
  | 5 => .long
  | 6 => .array .int
  | 7 => .array .int
  | 8 => .array .int
  | 9 => .array .int
  | 10 => .array .boolean
  | 11 => .array .boolean
  | 12 => .array .int
  | 13 => .array .int
  | 14 => .array .int
  | 15 => .array .int
  | 16 => .array .int
  | 17 => .array .boolean
  | 18 => .array .boolean
  | 19 => .array .boolean
  | 20 => .array .int
  | _ => .array .int
abbrev wsX40 : List Cond := u_ws RX4 TX4 22
theorem nmX4 : ∀ a, a < 22 → ∀ b, b < 22 → a ≠ b → (TX4 a).2.1 ≠ (TX4 b).2.1 := by decide +kernel
theorem tyX4_ok : ∀ k, k < 22 → parseFieldDescriptor (TX4 k).2.2.1 = some (tyX4 k) := by decide +kernel
abbrev cX4_init : ByteArray := prog_6_method_1_code
def yX4_init : MethodName := ⟨RX4, "<init>", "()V"⟩
abbrev cX4_in : ByteArray := prog_6_method_3_code
def yX4_in : MethodName := ⟨RX4, "in", "(III)Z"⟩
abbrev cX4_fails : ByteArray := prog_6_method_4_code
def yX4_fails : MethodName := ⟨RX4, "fails", "(ZI)Z"⟩
abbrev cX4_least : ByteArray := prog_6_method_5_code
def yX4_least : MethodName := ⟨RX4, "least", "(II)I"⟩
abbrev cX4_most : ByteArray := prog_6_method_6_code
def yX4_most : MethodName := ⟨RX4, "most", "(II)I"⟩
abbrev cX4_noBoard : ByteArray := prog_6_method_7_code
def yX4_noBoard : MethodName := ⟨RX4, "noBoard", "(I)Z"⟩
abbrev cX4_noNotice : ByteArray := prog_6_method_8_code
def yX4_noNotice : MethodName := ⟨RX4, "noNotice", "(I)Z"⟩
abbrev cX4_noDistrict : ByteArray := prog_6_method_9_code
def yX4_noDistrict : MethodName := ⟨RX4, "noDistrict", "(I)Z"⟩
abbrev cX4_has : ByteArray := prog_6_method_10_code
def yX4_has : MethodName := ⟨RX4, "has", "(III)Z"⟩
abbrev cX4_blacks : ByteArray := prog_6_method_11_code
def yX4_blacks : MethodName := ⟨RX4, "blacks", "(I)I"⟩
abbrev cX4_addBoard : ByteArray := prog_6_method_12_code
def yX4_addBoard : MethodName := ⟨RX4, "addBoard", "(II)I"⟩
abbrev cX4_setSun : ByteArray := prog_6_method_13_code
def yX4_setSun : MethodName := ⟨RX4, "setSun", "(I)I"⟩
abbrev cX4_charge : ByteArray := prog_6_method_14_code
def yX4_charge : MethodName := ⟨RX4, "charge", "(I)I"⟩
abbrev cX4_noCell : ByteArray := prog_6_method_15_code
def yX4_noCell : MethodName := ⟨RX4, "noCell", "(III)Z"⟩
abbrev cX4_cell : ByteArray := prog_6_method_16_code
def yX4_cell : MethodName := ⟨RX4, "cell", "(III)I"⟩
abbrev cX4_wear : ByteArray := prog_6_method_17_code
def yX4_wear : MethodName := ⟨RX4, "wear", "(III)I"⟩
abbrev cX4_shows : ByteArray := prog_6_method_18_code
def yX4_shows : MethodName := ⟨RX4, "shows", "(I)I"⟩
abbrev cX4_shift : ByteArray := prog_6_method_19_code
def yX4_shift : MethodName := ⟨RX4, "shift", "(I)I"⟩
abbrev cX4_sleeps : ByteArray := prog_6_method_20_code
def yX4_sleeps : MethodName := ⟨RX4, "sleeps", "(I)Z"⟩
abbrev cX4_add : ByteArray := prog_6_method_21_code
def yX4_add : MethodName := ⟨RX4, "add", "(IIII)I"⟩
abbrev cX4_post : ByteArray := prog_6_method_22_code
def yX4_post : MethodName := ⟨RX4, "post", "(IIII)I"⟩
abbrev cX4_queue : ByteArray := prog_6_method_23_code
def yX4_queue : MethodName := ⟨RX4, "queue", "(II)Z"⟩
abbrev cX4_takeBack : ByteArray := prog_6_method_24_code
def yX4_takeBack : MethodName := ⟨RX4, "takeBack", "(II)I"⟩
abbrev cX4_readersOf : ByteArray := prog_6_method_25_code
def yX4_readersOf : MethodName := ⟨RX4, "readersOf", "(II)I"⟩
abbrev cX4_mend : ByteArray := prog_6_method_26_code
def yX4_mend : MethodName := ⟨RX4, "mend", "(II)I"⟩
abbrev cX4_deny : ByteArray := prog_6_method_27_code
def yX4_deny : MethodName := ⟨RX4, "deny", "(III)I"⟩
abbrev cX4_isIn : ByteArray := prog_6_method_28_code
def yX4_isIn : MethodName := ⟨RX4, "isIn", "(II)Z"⟩
abbrev cX4_inQueue : ByteArray := prog_6_method_29_code
def yX4_inQueue : MethodName := ⟨RX4, "inQueue", "(II)I"⟩
abbrev cX4_manyQueued : ByteArray := prog_6_method_30_code
def yX4_manyQueued : MethodName := ⟨RX4, "manyQueued", "(I)I"⟩
abbrev cX4_queued : ByteArray := prog_6_method_31_code
def yX4_queued : MethodName := ⟨RX4, "queued", "(I)I"⟩
abbrev cX4_queuedAt : ByteArray := prog_6_method_32_code
def yX4_queuedAt : MethodName := ⟨RX4, "queuedAt", "(II)I"⟩
abbrev cX4_dueNow : ByteArray := prog_6_method_33_code
def yX4_dueNow : MethodName := ⟨RX4, "dueNow", "(I)Z"⟩
abbrev cX4_isDue : ByteArray := prog_6_method_34_code
def yX4_isDue : MethodName := ⟨RX4, "isDue", "(I)Z"⟩
abbrev cX4_pass : ByteArray := prog_6_method_35_code
def yX4_pass : MethodName := ⟨RX4, "pass", "(II)I"⟩
abbrev cX4_readers : ByteArray := prog_6_method_36_code
def yX4_readers : MethodName := ⟨RX4, "readers", "(II)I"⟩
abbrev cX4_readIn : ByteArray := prog_6_method_37_code
def yX4_readIn : MethodName := ⟨RX4, "readIn", "(II)I"⟩
abbrev cX4_canHaveMade : ByteArray := prog_6_method_38_code
def yX4_canHaveMade : MethodName := ⟨RX4, "canHaveMade", "(III)Z"⟩
abbrev cX4_manySuspects : ByteArray := prog_6_method_39_code
def yX4_manySuspects : MethodName := ⟨RX4, "manySuspects", "(II)I"⟩
abbrev cX4_suspects : ByteArray := prog_6_method_40_code
def yX4_suspects : MethodName := ⟨RX4, "suspects", "(II)I"⟩
abbrev cX4_suspectAt : ByteArray := prog_6_method_41_code
def yX4_suspectAt : MethodName := ⟨RX4, "suspectAt", "(III)I"⟩
abbrev cX4_change : ByteArray := prog_6_method_42_code
def yX4_change : MethodName := ⟨RX4, "change", "(I)V"⟩
abbrev cX4_wipe : ByteArray := prog_6_method_43_code
def yX4_wipe : MethodName := ⟨RX4, "wipe", "(I)V"⟩
abbrev cX4_differs : ByteArray := prog_6_method_44_code
def yX4_differs : MethodName := ⟨RX4, "differs", "(IIII)Z"⟩
abbrev cX4_costs : ByteArray := prog_6_method_45_code
def yX4_costs : MethodName := ⟨RX4, "costs", "(III)I"⟩
abbrev cX4_worstBehind : ByteArray := prog_6_method_46_code
def yX4_worstBehind : MethodName := ⟨RX4, "worstBehind", "(III)I"⟩
abbrev cX4_can : ByteArray := prog_6_method_47_code
def yX4_can : MethodName := ⟨RX4, "can", "(III)Z"⟩
abbrev cX4_shiftFor : ByteArray := prog_6_method_48_code
def yX4_shiftFor : MethodName := ⟨RX4, "shiftFor", "(II)I"⟩
abbrev cX4_show : ByteArray := prog_6_method_49_code
def yX4_show : MethodName := ⟨RX4, "show", "(III)V"⟩
abbrev cX4_choose : ByteArray := prog_6_method_50_code
def yX4_choose : MethodName := ⟨RX4, "choose", "(I)V"⟩
abbrev cX4_go : ByteArray := prog_6_method_51_code
def yX4_go : MethodName := ⟨RX4, "go", "(I)I"⟩
abbrev cX4_hour : ByteArray := prog_6_method_52_code
def yX4_hour : MethodName := ⟨RX4, "hour", "()I"⟩
abbrev cX4_boards : ByteArray := prog_6_method_53_code
def yX4_boards : MethodName := ⟨RX4, "boards", "()I"⟩
abbrev cX4_notices : ByteArray := prog_6_method_54_code
def yX4_notices : MethodName := ⟨RX4, "notices", "()I"⟩
abbrev cX4_cellAnew : ByteArray := prog_6_method_55_code
def yX4_cellAnew : MethodName := ⟨RX4, "cellAnew", "(III)I"⟩
abbrev cX4_changes : ByteArray := prog_6_method_56_code
def yX4_changes : MethodName := ⟨RX4, "changes", "()J"⟩
abbrev cX4_worst : ByteArray := prog_6_method_57_code
def yX4_worst : MethodName := ⟨RX4, "worst", "(I)I"⟩
abbrev cX4_checksum : ByteArray := prog_6_method_58_code
def yX4_checksum : MethodName := ⟨RX4, "checksum", "()J"⟩
abbrev cX4_shownShare : ByteArray := prog_6_method_59_code
def yX4_shownShare : MethodName := ⟨RX4, "shownShare", "()F"⟩
abbrev cX4_meanWear : ByteArray := prog_6_method_60_code
def yX4_meanWear : MethodName := ⟨RX4, "meanWear", "()D"⟩
abbrev cX4_isSound : ByteArray := prog_6_method_61_code
def yX4_isSound : MethodName := ⟨RX4, "isSound", "()Z"⟩
def RJx00060 : String := "java/lang/ArrayIndexOutOfBoundsException"
def TJx00060 : u_T := fun k => match k with
  | 0 => ("java/lang/Throwable", "backtrace", "Ljava/lang/Object;", false)
  | 1 => ("java/lang/Throwable", "detailMessage", "Ljava/lang/String;", false)
  | 2 => ("java/lang/Throwable", "cause", "Ljava/lang/Throwable;", false)
  | 3 => ("java/lang/Throwable", "stackTrace", "[Ljava/lang/StackTraceElement;", false)
  | 4 => ("java/lang/Throwable", "depth", "I", false)
  | _ => ("java/lang/Throwable", "suppressedExceptions", "Ljava/util/List;", false)
def tyJx00060 : Nat → FieldType := fun k => match k with
  | 0 => .object "java/lang/Object"
  | 1 => .object "java/lang/String"
  | 2 => .object "java/lang/Throwable"
  | 3 => .array (.object "java/lang/StackTraceElement")
  | 4 => .int
  | _ => .object "java/util/List"
abbrev wsJx000600 : List Cond := u_ws RJx00060 TJx00060 6
theorem nmJx00060 : ∀ a, a < 6 → ∀ b, b < 6 → a ≠ b → (TJx00060 a).2.1 ≠ (TJx00060 b).2.1 := by decide +kernel
theorem tyJx00060_ok : ∀ k, k < 6 → parseFieldDescriptor (TJx00060 k).2.2.1 = some (tyJx00060 k) := by decide +kernel
abbrev cJx00060_init_a7421 : ByteArray := prog_8_method_2_code
def yJx00060_init_a7421 : MethodName := ⟨RJx00060, "<init>", "(Ljava/lang/String;)V"⟩
def RJ6 : String := "java/lang/Integer"
def TJ6 : u_T := fun k => match k with
  | _ => ("", "", "", false)
def tyJ6 : Nat → FieldType := fun k => match k with
  | _ => .int
abbrev wsJ60 : List Cond := u_ws RJ6 TJ6 0
theorem nmJ6 : ∀ a, a < 0 → ∀ b, b < 0 → a ≠ b → (TJ6 a).2.1 ≠ (TJ6 b).2.1 := by decide +kernel
theorem tyJ6_ok : ∀ k, k < 0 → parseFieldDescriptor (TJ6 k).2.2.1 = some (tyJ6 k) := by decide +kernel
abbrev cJ6_bitCount_0f7a4 : ByteArray := prog_13_method_49_code
def yJ6_bitCount_0f7a4 : MethodName := ⟨RJ6, "bitCount", "(I)I"⟩
def RJ9 : String := "java/lang/Math"
def TJ9 : u_T := fun k => match k with
  | _ => ("", "", "", false)
def tyJ9 : Nat → FieldType := fun k => match k with
  | _ => .int
abbrev wsJ90 : List Cond := u_ws RJ9 TJ9 0
theorem nmJ9 : ∀ a, a < 0 → ∀ b, b < 0 → a ≠ b → (TJ9 a).2.1 ≠ (TJ9 b).2.1 := by decide +kernel
theorem tyJ9_ok : ∀ k, k < 0 → parseFieldDescriptor (TJ9 k).2.2.1 = some (tyJ9 k) := by decide +kernel
abbrev cJ9_max_7cf53 : ByteArray := prog_14_method_65_code
def yJ9_max_7cf53 : MethodName := ⟨RJ9, "max", "(II)I"⟩
abbrev cJ9_min_7cf53 : ByteArray := prog_14_method_69_code
def yJ9_min_7cf53 : MethodName := ⟨RJ9, "min", "(II)I"⟩
def RJ0 : String := "java/lang/String"
def TJ0 : u_T := fun k => match k with
  | 0 => ("java/lang/String", "value", "[B", true)
  | _ => ("java/lang/String", "coder", "B", true)
def tyJ0 : Nat → FieldType := fun k => match k with
  | 0 => .array .byte
  | _ => .byte
abbrev wsJ00 : List Cond := u_ws RJ0 TJ0 2
theorem nmJ0 : ∀ a, a < 2 → ∀ b, b < 2 → a ≠ b → (TJ0 a).2.1 ≠ (TJ0 b).2.1 := by decide +kernel
theorem tyJ0_ok : ∀ k, k < 2 → parseFieldDescriptor (TJ0 k).2.2.1 = some (tyJ0 k) := by decide +kernel
def RL : String := "FerroDeskLaw"
abbrev cL_addBoard : ByteArray := method_3_code
def yL_addBoard : MethodName := ⟨RL, "addBoard", "(LFerroDesk;II[J)I"⟩
abbrev cL_setSun : ByteArray := method_4_code
def yL_setSun : MethodName := ⟨RL, "setSun", "(LFerroDesk;I[J)I"⟩
abbrev cL_charge : ByteArray := method_5_code
def yL_charge : MethodName := ⟨RL, "charge", "(LFerroDesk;I[J)I"⟩
abbrev cL_cell : ByteArray := method_6_code
def yL_cell : MethodName := ⟨RL, "cell", "(LFerroDesk;III[J)I"⟩
abbrev cL_wear : ByteArray := method_7_code
def yL_wear : MethodName := ⟨RL, "wear", "(LFerroDesk;III[J)I"⟩
abbrev cL_shows : ByteArray := method_8_code
def yL_shows : MethodName := ⟨RL, "shows", "(LFerroDesk;I[J)I"⟩
abbrev cL_shift : ByteArray := method_9_code
def yL_shift : MethodName := ⟨RL, "shift", "(LFerroDesk;I[J)I"⟩
abbrev cL_sleeps : ByteArray := method_10_code
def yL_sleeps : MethodName := ⟨RL, "sleeps", "(LFerroDesk;I[J)I"⟩
abbrev cL_post : ByteArray := method_11_code
def yL_post : MethodName := ⟨RL, "post", "(LFerroDesk;IIII[J)I"⟩
abbrev cL_queue : ByteArray := method_12_code
def yL_queue : MethodName := ⟨RL, "queue", "(LFerroDesk;II[J)I"⟩
abbrev cL_takeBack : ByteArray := method_13_code
def yL_takeBack : MethodName := ⟨RL, "takeBack", "(LFerroDesk;II[J)I"⟩
abbrev cL_mend : ByteArray := method_14_code
def yL_mend : MethodName := ⟨RL, "mend", "(LFerroDesk;II[J)I"⟩
abbrev cL_deny : ByteArray := method_15_code
def yL_deny : MethodName := ⟨RL, "deny", "(LFerroDesk;III[J)I"⟩
abbrev cL_queued : ByteArray := method_16_code
def yL_queued : MethodName := ⟨RL, "queued", "(LFerroDesk;I[J)I"⟩
abbrev cL_queuedAt : ByteArray := method_17_code
def yL_queuedAt : MethodName := ⟨RL, "queuedAt", "(LFerroDesk;II[J)I"⟩
abbrev cL_isDue : ByteArray := method_18_code
def yL_isDue : MethodName := ⟨RL, "isDue", "(LFerroDesk;I[J)I"⟩
abbrev cL_pass : ByteArray := method_19_code
def yL_pass : MethodName := ⟨RL, "pass", "(LFerroDesk;II[J)I"⟩
abbrev cL_readers : ByteArray := method_20_code
def yL_readers : MethodName := ⟨RL, "readers", "(LFerroDesk;II[J)I"⟩
abbrev cL_readIn : ByteArray := method_21_code
def yL_readIn : MethodName := ⟨RL, "readIn", "(LFerroDesk;II[J)I"⟩
abbrev cL_suspects : ByteArray := method_22_code
def yL_suspects : MethodName := ⟨RL, "suspects", "(LFerroDesk;II[J)I"⟩
abbrev cL_suspectAt : ByteArray := method_23_code
def yL_suspectAt : MethodName := ⟨RL, "suspectAt", "(LFerroDesk;III[J)I"⟩
abbrev cL_go : ByteArray := method_24_code
def yL_go : MethodName := ⟨RL, "go", "(LFerroDesk;I[J)I"⟩
abbrev cL_cellAnew : ByteArray := method_25_code
def yL_cellAnew : MethodName := ⟨RL, "cellAnew", "(LFerroDesk;III[J)I"⟩
abbrev cL_worst : ByteArray := method_26_code
def yL_worst : MethodName := ⟨RL, "worst", "(LFerroDesk;I[J)I"⟩
abbrev cL_shownShare : ByteArray := method_27_code
def yL_shownShare : MethodName := ⟨RL, "shownShare", "(LFerroDesk;[D)I"⟩
abbrev cL_meanWear : ByteArray := method_28_code
def yL_meanWear : MethodName := ⟨RL, "meanWear", "(LFerroDesk;[D)I"⟩
abbrev cL_law : ByteArray := code
def yL_law : MethodName := ⟨RL, "law", "([I)Z"⟩
def wsX0_init : List Cond := .code yX0_init cX0_init 1 none :: ([.methodLink RX0 3 objectInit, .instanceMethod objectInit, .code objectInit ⟨#[0xb1]⟩ 1 none, .fieldLink RX0 9 "FerroDesk$Board" "district" "I", .fieldLink RX0 15 "FerroDesk$Board" "charge" "I", .fieldLink RX0 18 "FerroDesk$Board" "shown" "LFerroDesk$Notice;", .fieldLink RX0 22 "FerroDesk$Board" "shiftedBy" "I", .fieldLink RX0 25 "FerroDesk$Board" "asleep" "Z", .fieldLink RX0 29 "FerroDesk$Board" "black" "I", .arrayClass .int, .fieldLink RX0 32 "FerroDesk$Board" "wearByCell" "[I", .fieldLink RX0 36 "FerroDesk$Board" "greatestWear" "I", .fieldLink RX0 39 "FerroDesk$Board" "mostWorn" "I", .fieldLink RX0 42 "FerroDesk$Board" "wornOut" "I", .fieldLink RX0 45 "FerroDesk$Board" "changed" "[I", .fieldLink RX0 48 "FerroDesk$Board" "timesChanged" "I"] ++ wsX00)
def wsX0_settle : List Cond := .code yX0_settle cX0_settle 3 none :: ([.fieldLink RX0 9 "FerroDesk$Board" "district" "I", .fieldLink RX0 15 "FerroDesk$Board" "charge" "I"] ++ wsX00)
def wsX0_chargeBy : List Cond := .code yX0_chargeBy cX0_chargeBy 2 none :: ([.fieldLink RX0 15 "FerroDesk$Board" "charge" "I", .methodLink RX0 51 Lib.Math.min.name, .static Lib.Math.min.name, .initialized "java/lang/Math", .code Lib.Math.min.name Lib.Math.min.code 2 (some .int)] ++ wsX00)
def wsX0_wearOf : List Cond := .code yX0_wearOf cX0_wearOf 2 (some .int) :: ([.fieldLink RX0 32 "FerroDesk$Board" "wearByCell" "[I"] ++ wsX00 ++ (vx_atM "java/lang/ArrayIndexOutOfBoundsException" ["java/lang/IndexOutOfBoundsException", "java/lang/RuntimeException", "java/lang/Exception"]).filter goodWord)
def wsX0_wearOfAll : List Cond := .code yX0_wearOfAll cX0_wearOfAll 3 (some .int) :: ([.fieldLink RX0 32 "FerroDesk$Board" "wearByCell" "[I"] ++ wsX00 ++ (vx_atM "java/lang/ArrayIndexOutOfBoundsException" ["java/lang/IndexOutOfBoundsException", "java/lang/RuntimeException", "java/lang/Exception"]).filter goodWord)
def wsX0_blackAnew : List Cond := .code yX0_blackAnew cX0_blackAnew 3 (some .int) :: ([.fieldLink RX0 48 "FerroDesk$Board" "timesChanged" "I", .fieldLink RX0 45 "FerroDesk$Board" "changed" "[I"] ++ wsX00 ++ (vx_atM "java/lang/ArrayIndexOutOfBoundsException" ["java/lang/IndexOutOfBoundsException", "java/lang/RuntimeException", "java/lang/Exception"]).filter goodWord)
def wsX3_bitOf : List Cond := .code yX3_bitOf cX3_bitOf 2 (some .int) :: ([])
def wsJ6_bitCount_0f7a4 : List Cond := .code yJ6_bitCount_0f7a4 cJ6_bitCount_0f7a4 1 (some .int) :: ([.constant RJ6 265 (1431655765), .constant RJ6 266 (858993459), .constant RJ6 267 (252645135)])
def wsX0_canWipe : List Cond := .code yX0_canWipe cX0_canWipe 2 (some .boolean) :: ([.fieldLink RX0 29 "FerroDesk$Board" "black" "I", .fieldLink RX0 32 "FerroDesk$Board" "wearByCell" "[I", .fieldLink RX0 15 "FerroDesk$Board" "charge" "I", .static yX3_bitOf, .initialized RX3, .code yX3_bitOf cX3_bitOf 2 (some .int), .methodLink RX0 60 yJ6_bitCount_0f7a4, .static yJ6_bitCount_0f7a4, .initialized RJ6, .code yJ6_bitCount_0f7a4 cJ6_bitCount_0f7a4 1 (some .int), .constant RJ6 265 (1431655765), .constant RJ6 266 (858993459), .constant RJ6 267 (252645135)] ++ wsX00 ++ (vx_atM "java/lang/ArrayIndexOutOfBoundsException" ["java/lang/IndexOutOfBoundsException", "java/lang/RuntimeException", "java/lang/Exception"]).filter goodWord)
def wsX0_wearOut : List Cond := .code yX0_wearOut cX0_wearOut 4 none :: ([.fieldLink RX0 32 "FerroDesk$Board" "wearByCell" "[I", .fieldLink RX0 36 "FerroDesk$Board" "greatestWear" "I", .fieldLink RX0 39 "FerroDesk$Board" "mostWorn" "I", .fieldLink RX0 42 "FerroDesk$Board" "wornOut" "I"] ++ wsX00 ++ (vx_atM "java/lang/ArrayIndexOutOfBoundsException" ["java/lang/IndexOutOfBoundsException", "java/lang/RuntimeException", "java/lang/Exception"]).filter goodWord)
def wsX0_change : List Cond := .code yX0_change cX0_change 3 none :: ([.fieldLink RX0 15 "FerroDesk$Board" "charge" "I", .fieldLink RX0 29 "FerroDesk$Board" "black" "I", .fieldLink RX0 48 "FerroDesk$Board" "timesChanged" "I", .fieldLink RX0 45 "FerroDesk$Board" "changed" "[I", .methodLink RX0 60 yJ6_bitCount_0f7a4, .static yJ6_bitCount_0f7a4, .initialized RJ6, .code yJ6_bitCount_0f7a4 cJ6_bitCount_0f7a4 1 (some .int), .constant RJ6 265 (1431655765), .constant RJ6 266 (858993459), .constant RJ6 267 (252645135), .static yX3_bitOf, .initialized RX3, .code yX3_bitOf cX3_bitOf 2 (some .int), .methodLink RX0 88 yX0_wearOut, .instanceMethod yX0_wearOut, .selects RX0 yX0_wearOut yX0_wearOut, .initialized RX0, .code yX0_wearOut cX0_wearOut 4 none, .fieldLink RX0 32 "FerroDesk$Board" "wearByCell" "[I", .fieldLink RX0 36 "FerroDesk$Board" "greatestWear" "I", .fieldLink RX0 39 "FerroDesk$Board" "mostWorn" "I", .fieldLink RX0 42 "FerroDesk$Board" "wornOut" "I"] ++ wsX00 ++ (vx_atM "java/lang/ArrayIndexOutOfBoundsException" ["java/lang/IndexOutOfBoundsException", "java/lang/RuntimeException", "java/lang/Exception"]).filter goodWord)
def wsX0_wipe_r1 : List Cond := [Cond.fieldLink RX0 29 "FerroDesk$Board" "black" "I", Cond.fieldLink RX0 18 "FerroDesk$Board" "shown" "LFerroDesk$Notice;", Cond.fieldLink RX0 22 "FerroDesk$Board" "shiftedBy" "I", Cond.methodLink RX0 66 yX0_change, Cond.instanceMethod yX0_change, Cond.selects RX0 yX0_change yX0_change, Cond.initialized RX0, Cond.code yX0_change cX0_change 3 none, Cond.fieldLink RX0 15 "FerroDesk$Board" "charge" "I", Cond.fieldLink RX0 48 "FerroDesk$Board" "timesChanged" "I", Cond.fieldLink RX0 45 "FerroDesk$Board" "changed" "[I", Cond.methodLink RX0 60 yJ6_bitCount_0f7a4, Cond.static yJ6_bitCount_0f7a4, Cond.initialized RJ6, Cond.code yJ6_bitCount_0f7a4 cJ6_bitCount_0f7a4 1 (some .int), Cond.constant RJ6 265 (1431655765), Cond.constant RJ6 266 (858993459), Cond.constant RJ6 267 (252645135), Cond.static yX3_bitOf, Cond.initialized RX3, Cond.code yX3_bitOf cX3_bitOf 2 (some .int), Cond.methodLink RX0 88 yX0_wearOut, Cond.instanceMethod yX0_wearOut, Cond.selects RX0 yX0_wearOut yX0_wearOut]
def wsX0_wipe_r2 : List Cond := [Cond.code yX0_wearOut cX0_wearOut 4 none, Cond.fieldLink RX0 32 "FerroDesk$Board" "wearByCell" "[I", Cond.fieldLink RX0 36 "FerroDesk$Board" "greatestWear" "I", Cond.fieldLink RX0 39 "FerroDesk$Board" "mostWorn" "I", Cond.fieldLink RX0 42 "FerroDesk$Board" "wornOut" "I"]
def wsX0_wipe : List Cond := .code yX0_wipe cX0_wipe 1 none :: ((wsX0_wipe_r1 ++ wsX0_wipe_r2) ++ wsX00 ++ (vx_atM "java/lang/ArrayIndexOutOfBoundsException" ["java/lang/IndexOutOfBoundsException", "java/lang/RuntimeException", "java/lang/Exception"]).filter goodWord)
def wsX3_shifted : List Cond := .code yX3_shifted cX3_shifted 3 (some .int) :: ([.constant RX3 283 (16843009)])
def wsX0_canTurnTo : List Cond := .code yX0_canTurnTo cX0_canTurnTo 3 (some .boolean) :: ([.fieldLink RX0 29 "FerroDesk$Board" "black" "I", .fieldLink RX0 42 "FerroDesk$Board" "wornOut" "I", .fieldLink RX0 15 "FerroDesk$Board" "charge" "I", .methodLink RX0 60 yJ6_bitCount_0f7a4, .static yJ6_bitCount_0f7a4, .initialized RJ6, .code yJ6_bitCount_0f7a4 cJ6_bitCount_0f7a4 1 (some .int), .constant RJ6 265 (1431655765), .constant RJ6 266 (858993459), .constant RJ6 267 (252645135)] ++ wsX00)
def wsX0_greatestWearBehind : List Cond := .code yX0_greatestWearBehind cX0_greatestWearBehind 2 (some .int) :: ([.fieldLink RX0 39 "FerroDesk$Board" "mostWorn" "I", .fieldLink RX0 36 "FerroDesk$Board" "greatestWear" "I"] ++ wsX00)
def wsX0_bestShift_r1 : List Cond := [Cond.fieldLink RX0 29 "FerroDesk$Board" "black" "I", Cond.static yX3_shifted, Cond.initialized RX3, Cond.code yX3_shifted cX3_shifted 3 (some .int), Cond.constant RX3 283 (16843009), Cond.methodLink RX0 81 yX0_canTurnTo, Cond.instanceMethod yX0_canTurnTo, Cond.selects RX0 yX0_canTurnTo yX0_canTurnTo, Cond.initialized RX0, Cond.code yX0_canTurnTo cX0_canTurnTo 3 (some .boolean), Cond.fieldLink RX0 42 "FerroDesk$Board" "wornOut" "I", Cond.fieldLink RX0 15 "FerroDesk$Board" "charge" "I", Cond.methodLink RX0 60 yJ6_bitCount_0f7a4, Cond.static yJ6_bitCount_0f7a4, Cond.initialized RJ6, Cond.code yJ6_bitCount_0f7a4 cJ6_bitCount_0f7a4 1 (some .int), Cond.constant RJ6 265 (1431655765), Cond.constant RJ6 266 (858993459), Cond.constant RJ6 267 (252645135), Cond.methodLink RX0 85 yX0_greatestWearBehind, Cond.instanceMethod yX0_greatestWearBehind, Cond.selects RX0 yX0_greatestWearBehind yX0_greatestWearBehind, Cond.code yX0_greatestWearBehind cX0_greatestWearBehind 2 (some .int), Cond.fieldLink RX0 39 "FerroDesk$Board" "mostWorn" "I"]
def wsX0_bestShift_r2 : List Cond := [Cond.fieldLink RX0 36 "FerroDesk$Board" "greatestWear" "I"]
def wsX0_bestShift : List Cond := .code yX0_bestShift cX0_bestShift 9 (some .int) :: ((wsX0_bestShift_r1 ++ wsX0_bestShift_r2) ++ wsX00)
def wsX0_takesUp_r1 : List Cond := [Cond.fieldLink RX0 18 "FerroDesk$Board" "shown" "LFerroDesk$Notice;", Cond.fieldLink RX0 29 "FerroDesk$Board" "black" "I", Cond.fieldLink RX0 22 "FerroDesk$Board" "shiftedBy" "I", Cond.methodLink RX0 75 yX0_bestShift, Cond.instanceMethod yX0_bestShift, Cond.selects RX0 yX0_bestShift yX0_bestShift, Cond.initialized RX0, Cond.code yX0_bestShift cX0_bestShift 9 (some .int), Cond.static yX3_shifted, Cond.initialized RX3, Cond.code yX3_shifted cX3_shifted 3 (some .int), Cond.constant RX3 283 (16843009), Cond.methodLink RX0 81 yX0_canTurnTo, Cond.instanceMethod yX0_canTurnTo, Cond.selects RX0 yX0_canTurnTo yX0_canTurnTo, Cond.code yX0_canTurnTo cX0_canTurnTo 3 (some .boolean), Cond.fieldLink RX0 42 "FerroDesk$Board" "wornOut" "I", Cond.fieldLink RX0 15 "FerroDesk$Board" "charge" "I", Cond.methodLink RX0 60 yJ6_bitCount_0f7a4, Cond.static yJ6_bitCount_0f7a4, Cond.initialized RJ6, Cond.code yJ6_bitCount_0f7a4 cJ6_bitCount_0f7a4 1 (some .int), Cond.constant RJ6 265 (1431655765), Cond.constant RJ6 266 (858993459)]
def wsX0_takesUp_r2 : List Cond := [Cond.constant RJ6 267 (252645135), Cond.methodLink RX0 85 yX0_greatestWearBehind, Cond.instanceMethod yX0_greatestWearBehind, Cond.selects RX0 yX0_greatestWearBehind yX0_greatestWearBehind, Cond.code yX0_greatestWearBehind cX0_greatestWearBehind 2 (some .int), Cond.fieldLink RX0 39 "FerroDesk$Board" "mostWorn" "I", Cond.fieldLink RX0 36 "FerroDesk$Board" "greatestWear" "I", Cond.methodLink RX0 66 yX0_change, Cond.instanceMethod yX0_change, Cond.selects RX0 yX0_change yX0_change, Cond.code yX0_change cX0_change 3 none, Cond.fieldLink RX0 48 "FerroDesk$Board" "timesChanged" "I", Cond.fieldLink RX0 45 "FerroDesk$Board" "changed" "[I", Cond.static yX3_bitOf, Cond.code yX3_bitOf cX3_bitOf 2 (some .int), Cond.methodLink RX0 88 yX0_wearOut, Cond.instanceMethod yX0_wearOut, Cond.selects RX0 yX0_wearOut yX0_wearOut, Cond.code yX0_wearOut cX0_wearOut 4 none, Cond.fieldLink RX0 32 "FerroDesk$Board" "wearByCell" "[I"]
def wsX0_takesUp : List Cond := .code yX0_takesUp cX0_takesUp 3 (some .boolean) :: ((wsX0_takesUp_r1 ++ wsX0_takesUp_r2) ++ wsX00 ++ wsX10 ++ (vx_atM "java/lang/ArrayIndexOutOfBoundsException" ["java/lang/IndexOutOfBoundsException", "java/lang/RuntimeException", "java/lang/Exception"]).filter goodWord)
def wsX1_init : List Cond := .code yX1_init cX1_init 2 none :: ([.methodLink RX1 3 objectInit, .instanceMethod objectInit, .code objectInit ⟨#[0xb1]⟩ 1 none, .arrayClass .int, .fieldLink RX1 9 "FerroDesk$Notice" "readersAt" "[I", .fieldLink RX1 15 "FerroDesk$Notice" "rank" "I", .fieldLink RX1 19 "FerroDesk$Notice" "picture" "I", .fieldLink RX1 22 "FerroDesk$Notice" "from" "I", .fieldLink RX1 25 "FerroDesk$Notice" "till" "I", .fieldLink RX1 28 "FerroDesk$Notice" "mended" "Z", .fieldLink RX1 32 "FerroDesk$Notice" "takenBack" "Z", .fieldLink RX1 35 "FerroDesk$Notice" "districts" "I", .fieldLink RX1 38 "FerroDesk$Notice" "number" "I"] ++ wsX10)
def wsX1_fill : List Cond := .code yX1_fill cX1_fill 5 none :: ([.fieldLink RX1 15 "FerroDesk$Notice" "rank" "I", .fieldLink RX1 19 "FerroDesk$Notice" "picture" "I", .fieldLink RX1 22 "FerroDesk$Notice" "from" "I", .fieldLink RX1 25 "FerroDesk$Notice" "till" "I"] ++ wsX10)
def wsX1_isOver : List Cond := .code yX1_isOver cX1_isOver 2 (some .boolean) :: ([.fieldLink RX1 25 "FerroDesk$Notice" "till" "I"] ++ wsX10)
def wsX1_isOf : List Cond := .code yX1_isOf cX1_isOf 2 (some .boolean) :: ([.fieldLink RX1 22 "FerroDesk$Notice" "from" "I", .fieldLink RX1 25 "FerroDesk$Notice" "till" "I"] ++ wsX10)
def wsX1_putInto : List Cond := .code yX1_putInto cX1_putInto 2 none :: ([.fieldLink RX1 35 "FerroDesk$Notice" "districts" "I"] ++ wsX10)
def wsX1_isQueuedIn : List Cond := .code yX1_isQueuedIn cX1_isQueuedIn 3 (some .boolean) :: ([.fieldLink RX1 35 "FerroDesk$Notice" "districts" "I", .static yX3_bitOf, .initialized RX3, .code yX3_bitOf cX3_bitOf 2 (some .int), .methodLink RX1 45 yX1_isOver, .instanceMethod yX1_isOver, .selects RX1 yX1_isOver yX1_isOver, .initialized RX1, .code yX1_isOver cX1_isOver 2 (some .boolean), .fieldLink RX1 25 "FerroDesk$Notice" "till" "I"] ++ wsX10)
def wsX1_canHaveMade : List Cond := .code yX1_canHaveMade cX1_canHaveMade 3 (some .boolean) :: ([.fieldLink RX1 19 "FerroDesk$Notice" "picture" "I", .static yX3_shifted, .initialized RX3, .code yX3_shifted cX3_shifted 3 (some .int), .constant RX3 283 (16843009)] ++ wsX10)
def wsX2_init : List Cond := .code yX2_init cX2_init 1 none :: ([.methodLink RX2 3 objectInit, .instanceMethod objectInit, .code objectInit ⟨#[0xb1]⟩ 1 none, .arrayClass .int, .fieldLink RX2 9 "FerroDesk$Readings" "noticeOf" "[I", .fieldLink RX2 15 "FerroDesk$Readings" "hourOf" "[I", .fieldLink RX2 18 "FerroDesk$Readings" "people" "[I", .fieldLink RX2 21 "FerroDesk$Readings" "count" "I"] ++ wsX20)
def wsX2_find : List Cond := .code yX2_find cX2_find 4 (some .int) :: ([.fieldLink RX2 21 "FerroDesk$Readings" "count" "I", .fieldLink RX2 9 "FerroDesk$Readings" "noticeOf" "[I", .fieldLink RX2 15 "FerroDesk$Readings" "hourOf" "[I"] ++ wsX20 ++ (vx_atM "java/lang/ArrayIndexOutOfBoundsException" ["java/lang/IndexOutOfBoundsException", "java/lang/RuntimeException", "java/lang/Exception"]).filter goodWord)
def wsX2_write : List Cond := .code yX2_write cX2_write 5 none :: ([.fieldLink RX2 21 "FerroDesk$Readings" "count" "I", .fieldLink RX2 9 "FerroDesk$Readings" "noticeOf" "[I", .fieldLink RX2 15 "FerroDesk$Readings" "hourOf" "[I", .fieldLink RX2 18 "FerroDesk$Readings" "people" "[I", .methodLink RX2 25 yX2_find, .instanceMethod yX2_find, .selects RX2 yX2_find yX2_find, .initialized RX2, .code yX2_find cX2_find 4 (some .int)] ++ wsX20 ++ (vx_atM "java/lang/ArrayIndexOutOfBoundsException" ["java/lang/IndexOutOfBoundsException", "java/lang/RuntimeException", "java/lang/Exception"]).filter goodWord)
def wsX2_peopleOf : List Cond := .code yX2_peopleOf cX2_peopleOf 4 (some .int) :: ([.fieldLink RX2 18 "FerroDesk$Readings" "people" "[I", .methodLink RX2 25 yX2_find, .instanceMethod yX2_find, .selects RX2 yX2_find yX2_find, .initialized RX2, .code yX2_find cX2_find 4 (some .int), .fieldLink RX2 21 "FerroDesk$Readings" "count" "I", .fieldLink RX2 9 "FerroDesk$Readings" "noticeOf" "[I", .fieldLink RX2 15 "FerroDesk$Readings" "hourOf" "[I"] ++ wsX20 ++ (vx_atM "java/lang/ArrayIndexOutOfBoundsException" ["java/lang/IndexOutOfBoundsException", "java/lang/RuntimeException", "java/lang/Exception"]).filter goodWord)
def wsX3_init_r1 : List Cond := [Cond.methodLink RX3 3 objectInit, Cond.instanceMethod objectInit, Cond.code objectInit ⟨#[0xb1]⟩ 1 none, Cond.classLink RX3 9 RX0, Cond.fieldLink RX3 11 "FerroDesk" "boards" "[LFerroDesk$Board;", Cond.fieldLink RX3 15 "FerroDesk" "boardCount" "I", Cond.classLink RX3 19 RX1, Cond.fieldLink RX3 21 "FerroDesk" "notices" "[LFerroDesk$Notice;", Cond.fieldLink RX3 25 "FerroDesk" "ranked" "[LFerroDesk$Notice;", Cond.fieldLink RX3 28 "FerroDesk" "noticeCount" "I", Cond.classLink RX3 31 RX2, Cond.instantiable RX2 4, Cond.initialized RX2, Cond.fieldLink RX3 34 "FerroDesk" "readings" "LFerroDesk$Readings;", Cond.fieldLink RX3 38 "FerroDesk" "sun" "I", Cond.fieldLink RX3 41 "FerroDesk" "hour" "I", Cond.instantiable RX0 12, Cond.initialized RX0, Cond.instantiable RX1 9, Cond.initialized RX1, Cond.instanceMethod yX2_init, Cond.code yX2_init cX2_init 1 none, Cond.methodLink RX2 3 objectInit, Cond.arrayClass .int]
def wsX3_init_r2 : List Cond := [Cond.fieldLink RX2 9 "FerroDesk$Readings" "noticeOf" "[I", Cond.fieldLink RX2 15 "FerroDesk$Readings" "hourOf" "[I", Cond.fieldLink RX2 18 "FerroDesk$Readings" "people" "[I", Cond.fieldLink RX2 21 "FerroDesk$Readings" "count" "I", Cond.instanceMethod yX0_init, Cond.code yX0_init cX0_init 1 none, Cond.methodLink RX0 3 objectInit, Cond.fieldLink RX0 9 "FerroDesk$Board" "district" "I", Cond.fieldLink RX0 15 "FerroDesk$Board" "charge" "I", Cond.fieldLink RX0 18 "FerroDesk$Board" "shown" "LFerroDesk$Notice;", Cond.fieldLink RX0 22 "FerroDesk$Board" "shiftedBy" "I", Cond.fieldLink RX0 25 "FerroDesk$Board" "asleep" "Z", Cond.fieldLink RX0 29 "FerroDesk$Board" "black" "I", Cond.fieldLink RX0 32 "FerroDesk$Board" "wearByCell" "[I", Cond.fieldLink RX0 36 "FerroDesk$Board" "greatestWear" "I", Cond.fieldLink RX0 39 "FerroDesk$Board" "mostWorn" "I", Cond.fieldLink RX0 42 "FerroDesk$Board" "wornOut" "I", Cond.fieldLink RX0 45 "FerroDesk$Board" "changed" "[I", Cond.fieldLink RX0 48 "FerroDesk$Board" "timesChanged" "I", Cond.methodLink RX3 45 yX1_init, Cond.instanceMethod yX1_init, Cond.code yX1_init cX1_init 2 none, Cond.methodLink RX1 3 objectInit, Cond.fieldLink RX1 9 "FerroDesk$Notice" "readersAt" "[I"]
def wsX3_init_r3 : List Cond := [Cond.fieldLink RX1 15 "FerroDesk$Notice" "rank" "I", Cond.fieldLink RX1 19 "FerroDesk$Notice" "picture" "I", Cond.fieldLink RX1 22 "FerroDesk$Notice" "from" "I", Cond.fieldLink RX1 25 "FerroDesk$Notice" "till" "I", Cond.fieldLink RX1 28 "FerroDesk$Notice" "mended" "Z", Cond.fieldLink RX1 32 "FerroDesk$Notice" "takenBack" "Z", Cond.fieldLink RX1 35 "FerroDesk$Notice" "districts" "I", Cond.fieldLink RX1 38 "FerroDesk$Notice" "number" "I"]
def wsX3_init : List Cond := .code yX3_init cX3_init 3 none :: ((wsX3_init_r1 ++ (wsX3_init_r2 ++ wsX3_init_r3)) ++ wsX30 ++ wsX20 ++ wsX00 ++ wsX10)
def wsX3_checkDistrict : List Cond := .code yX3_checkDistrict cX3_checkDistrict 1 none :: ([.classLink RX3 51 "java/lang/IllegalArgumentException", .initialized "java/lang/IllegalArgumentException"] ++ (vx_atS RX3 55 "java/lang/IllegalArgumentException" ["java/lang/RuntimeException", "java/lang/Exception"]).filter goodWord)
def wsX3_addBoard : List Cond := .code yX3_addBoard cX3_addBoard 3 (some .int) :: ([.classLink RX3 51 "java/lang/IllegalArgumentException", .initialized "java/lang/IllegalArgumentException", .classLink RX3 58 "java/lang/IllegalStateException", .initialized "java/lang/IllegalStateException", .fieldLink RX3 15 "FerroDesk" "boardCount" "I", .fieldLink RX3 11 "FerroDesk" "boards" "[LFerroDesk$Board;", .methodLink RX3 48 yX3_checkDistrict, .static yX3_checkDistrict, .initialized RX3, .code yX3_checkDistrict cX3_checkDistrict 1 none, .methodLink RX3 63 yX0_settle, .instanceMethod yX0_settle, .selects RX0 yX0_settle yX0_settle, .initialized RX0, .code yX0_settle cX0_settle 3 none, .fieldLink RX0 9 "FerroDesk$Board" "district" "I", .fieldLink RX0 15 "FerroDesk$Board" "charge" "I"] ++ wsX30 ++ wsX00 ++ (vx_atS RX3 55 "java/lang/IllegalArgumentException" ["java/lang/RuntimeException", "java/lang/Exception"]).filter goodWord ++ (vx_atS RX3 62 "java/lang/IllegalStateException" ["java/lang/RuntimeException", "java/lang/Exception"]).filter goodWord)
def wsX3_setSun : List Cond := .code yX3_setSun cX3_setSun 3 (some .int) :: ([.classLink RX3 51 "java/lang/IllegalArgumentException", .initialized "java/lang/IllegalArgumentException", .fieldLink RX3 38 "FerroDesk" "sun" "I"] ++ wsX30 ++ (vx_atS RX3 55 "java/lang/IllegalArgumentException" ["java/lang/RuntimeException", "java/lang/Exception"]).filter goodWord)
def wsX3_boardAt : List Cond := .code yX3_boardAt cX3_boardAt 2 (some (.object "FerroDesk$Board")) :: ([.classLink RX3 180 "java/lang/IndexOutOfBoundsException", .initialized "java/lang/IndexOutOfBoundsException", .fieldLink RX3 15 "FerroDesk" "boardCount" "I", .fieldLink RX3 11 "FerroDesk" "boards" "[LFerroDesk$Board;"] ++ wsX30 ++ (vx_atS RX3 184 "java/lang/IndexOutOfBoundsException" ["java/lang/RuntimeException", "java/lang/Exception"]).filter goodWord)
def wsX3_charge : List Cond := .code yX3_charge cX3_charge 2 (some .int) :: ([.methodLink RX3 69 yX3_boardAt, .instanceMethod yX3_boardAt, .selects RX3 yX3_boardAt yX3_boardAt, .initialized RX3, .code yX3_boardAt cX3_boardAt 2 (some (.object "FerroDesk$Board")), .classLink RX3 180 "java/lang/IndexOutOfBoundsException", .initialized "java/lang/IndexOutOfBoundsException", .fieldLink RX3 15 "FerroDesk" "boardCount" "I", .fieldLink RX3 11 "FerroDesk" "boards" "[LFerroDesk$Board;"] ++ wsX00 ++ wsX30 ++ (vx_atS RX3 184 "java/lang/IndexOutOfBoundsException" ["java/lang/RuntimeException", "java/lang/Exception"]).filter goodWord)
def wsX3_cellAt : List Cond := .code yX3_cellAt cX3_cellAt 2 (some .int) :: ([.classLink RX3 180 "java/lang/IndexOutOfBoundsException", .initialized "java/lang/IndexOutOfBoundsException"] ++ (vx_atS RX3 184 "java/lang/IndexOutOfBoundsException" ["java/lang/RuntimeException", "java/lang/Exception"]).filter goodWord)
def wsX3_cell : List Cond := .code yX3_cell cX3_cell 5 (some .int) :: ([.methodLink RX3 69 yX3_boardAt, .instanceMethod yX3_boardAt, .selects RX3 yX3_boardAt yX3_boardAt, .initialized RX3, .code yX3_boardAt cX3_boardAt 2 (some (.object "FerroDesk$Board")), .classLink RX3 180 "java/lang/IndexOutOfBoundsException", .initialized "java/lang/IndexOutOfBoundsException", .fieldLink RX3 15 "FerroDesk" "boardCount" "I", .fieldLink RX3 11 "FerroDesk" "boards" "[LFerroDesk$Board;", .methodLink RX3 79 yX3_cellAt, .static yX3_cellAt, .code yX3_cellAt cX3_cellAt 2 (some .int), .methodLink RX3 83 yX3_bitOf, .static yX3_bitOf, .code yX3_bitOf cX3_bitOf 2 (some .int)] ++ wsX00 ++ wsX30 ++ (vx_atS RX3 184 "java/lang/IndexOutOfBoundsException" ["java/lang/RuntimeException", "java/lang/Exception"]).filter goodWord)
def wsX3_wear : List Cond := .code yX3_wear cX3_wear 5 (some .int) :: ([.methodLink RX3 69 yX3_boardAt, .instanceMethod yX3_boardAt, .selects RX3 yX3_boardAt yX3_boardAt, .initialized RX3, .code yX3_boardAt cX3_boardAt 2 (some (.object "FerroDesk$Board")), .classLink RX3 180 "java/lang/IndexOutOfBoundsException", .initialized "java/lang/IndexOutOfBoundsException", .fieldLink RX3 15 "FerroDesk" "boardCount" "I", .fieldLink RX3 11 "FerroDesk" "boards" "[LFerroDesk$Board;", .methodLink RX3 79 yX3_cellAt, .static yX3_cellAt, .code yX3_cellAt cX3_cellAt 2 (some .int), .methodLink RX3 86 yX0_wearOf, .instanceMethod yX0_wearOf, .selects RX0 yX0_wearOf yX0_wearOf, .initialized RX0, .code yX0_wearOf cX0_wearOf 2 (some .int), .fieldLink RX0 32 "FerroDesk$Board" "wearByCell" "[I"] ++ wsX30 ++ wsX00 ++ (vx_atS RX3 184 "java/lang/IndexOutOfBoundsException" ["java/lang/RuntimeException", "java/lang/Exception"]).filter goodWord ++ (vx_atM "java/lang/ArrayIndexOutOfBoundsException" ["java/lang/IndexOutOfBoundsException", "java/lang/RuntimeException", "java/lang/Exception"]).filter goodWord)
def wsX3_shows : List Cond := .code yX3_shows cX3_shows 3 (some .int) :: ([.methodLink RX3 69 yX3_boardAt, .instanceMethod yX3_boardAt, .selects RX3 yX3_boardAt yX3_boardAt, .initialized RX3, .code yX3_boardAt cX3_boardAt 2 (some (.object "FerroDesk$Board")), .classLink RX3 180 "java/lang/IndexOutOfBoundsException", .initialized "java/lang/IndexOutOfBoundsException", .fieldLink RX3 15 "FerroDesk" "boardCount" "I", .fieldLink RX3 11 "FerroDesk" "boards" "[LFerroDesk$Board;"] ++ wsX00 ++ wsX10 ++ wsX30 ++ (vx_atS RX3 184 "java/lang/IndexOutOfBoundsException" ["java/lang/RuntimeException", "java/lang/Exception"]).filter goodWord)
def wsX3_shift : List Cond := .code yX3_shift cX3_shift 2 (some .int) :: ([.methodLink RX3 69 yX3_boardAt, .instanceMethod yX3_boardAt, .selects RX3 yX3_boardAt yX3_boardAt, .initialized RX3, .code yX3_boardAt cX3_boardAt 2 (some (.object "FerroDesk$Board")), .classLink RX3 180 "java/lang/IndexOutOfBoundsException", .initialized "java/lang/IndexOutOfBoundsException", .fieldLink RX3 15 "FerroDesk" "boardCount" "I", .fieldLink RX3 11 "FerroDesk" "boards" "[LFerroDesk$Board;"] ++ wsX00 ++ wsX30 ++ (vx_atS RX3 184 "java/lang/IndexOutOfBoundsException" ["java/lang/RuntimeException", "java/lang/Exception"]).filter goodWord)
def wsX3_sleeps : List Cond := .code yX3_sleeps cX3_sleeps 2 (some .boolean) :: ([.methodLink RX3 69 yX3_boardAt, .instanceMethod yX3_boardAt, .selects RX3 yX3_boardAt yX3_boardAt, .initialized RX3, .code yX3_boardAt cX3_boardAt 2 (some (.object "FerroDesk$Board")), .classLink RX3 180 "java/lang/IndexOutOfBoundsException", .initialized "java/lang/IndexOutOfBoundsException", .fieldLink RX3 15 "FerroDesk" "boardCount" "I", .fieldLink RX3 11 "FerroDesk" "boards" "[LFerroDesk$Board;"] ++ wsX00 ++ wsX30 ++ (vx_atS RX3 184 "java/lang/IndexOutOfBoundsException" ["java/lang/RuntimeException", "java/lang/Exception"]).filter goodWord)
def wsX3_take : List Cond := .code yX3_take cX3_take 7 (some (.object "FerroDesk$Notice")) :: ([.classLink RX3 58 "java/lang/IllegalStateException", .initialized "java/lang/IllegalStateException", .fieldLink RX3 28 "FerroDesk" "noticeCount" "I", .fieldLink RX3 21 "FerroDesk" "notices" "[LFerroDesk$Notice;", .fieldLink RX3 25 "FerroDesk" "ranked" "[LFerroDesk$Notice;", .methodLink RX3 263 yX1_fill, .instanceMethod yX1_fill, .selects RX1 yX1_fill yX1_fill, .initialized RX1, .code yX1_fill cX1_fill 5 none, .fieldLink RX1 15 "FerroDesk$Notice" "rank" "I", .fieldLink RX1 19 "FerroDesk$Notice" "picture" "I", .fieldLink RX1 22 "FerroDesk$Notice" "from" "I", .fieldLink RX1 25 "FerroDesk$Notice" "till" "I"] ++ wsX30 ++ wsX10 ++ (vx_atS RX3 62 "java/lang/IllegalStateException" ["java/lang/RuntimeException", "java/lang/Exception"]).filter goodWord)
def wsX3_post : List Cond := .code yX3_post cX3_post 5 (some .int) :: ([.classLink RX3 51 "java/lang/IllegalArgumentException", .initialized "java/lang/IllegalArgumentException", .methodLink RX3 110 yX3_take, .instanceMethod yX3_take, .selects RX3 yX3_take yX3_take, .initialized RX3, .code yX3_take cX3_take 7 (some (.object "FerroDesk$Notice")), .classLink RX3 58 "java/lang/IllegalStateException", .initialized "java/lang/IllegalStateException", .fieldLink RX3 28 "FerroDesk" "noticeCount" "I", .fieldLink RX3 21 "FerroDesk" "notices" "[LFerroDesk$Notice;", .fieldLink RX3 25 "FerroDesk" "ranked" "[LFerroDesk$Notice;", .methodLink RX3 263 yX1_fill, .instanceMethod yX1_fill, .selects RX1 yX1_fill yX1_fill, .initialized RX1, .code yX1_fill cX1_fill 5 none, .fieldLink RX1 15 "FerroDesk$Notice" "rank" "I", .fieldLink RX1 19 "FerroDesk$Notice" "picture" "I", .fieldLink RX1 22 "FerroDesk$Notice" "from" "I", .fieldLink RX1 25 "FerroDesk$Notice" "till" "I"] ++ wsX10 ++ wsX30 ++ (vx_atS RX3 55 "java/lang/IllegalArgumentException" ["java/lang/RuntimeException", "java/lang/Exception"]).filter goodWord ++ (vx_atS RX3 62 "java/lang/IllegalStateException" ["java/lang/RuntimeException", "java/lang/Exception"]).filter goodWord)
def wsX3_noticeAt : List Cond := .code yX3_noticeAt cX3_noticeAt 2 (some (.object "FerroDesk$Notice")) :: ([.classLink RX3 180 "java/lang/IndexOutOfBoundsException", .initialized "java/lang/IndexOutOfBoundsException", .fieldLink RX3 28 "FerroDesk" "noticeCount" "I", .fieldLink RX3 21 "FerroDesk" "notices" "[LFerroDesk$Notice;"] ++ wsX30 ++ (vx_atS RX3 184 "java/lang/IndexOutOfBoundsException" ["java/lang/RuntimeException", "java/lang/Exception"]).filter goodWord)
def wsX3_queue_r1 : List Cond := [Cond.classLink RX3 124 "java/lang/UnsupportedOperationException", Cond.initialized "java/lang/UnsupportedOperationException", Cond.fieldLink RX3 41 "FerroDesk" "hour" "I", Cond.methodLink RX3 114 yX3_noticeAt, Cond.instanceMethod yX3_noticeAt, Cond.selects RX3 yX3_noticeAt yX3_noticeAt, Cond.initialized RX3, Cond.code yX3_noticeAt cX3_noticeAt 2 (some (.object "FerroDesk$Notice")), Cond.classLink RX3 180 "java/lang/IndexOutOfBoundsException", Cond.initialized "java/lang/IndexOutOfBoundsException", Cond.fieldLink RX3 28 "FerroDesk" "noticeCount" "I", Cond.fieldLink RX3 21 "FerroDesk" "notices" "[LFerroDesk$Notice;", Cond.methodLink RX3 48 yX3_checkDistrict, Cond.static yX3_checkDistrict, Cond.code yX3_checkDistrict cX3_checkDistrict 1 none, Cond.classLink RX3 51 "java/lang/IllegalArgumentException", Cond.initialized "java/lang/IllegalArgumentException", Cond.methodLink RX3 129 yX1_isQueuedIn, Cond.instanceMethod yX1_isQueuedIn, Cond.selects RX1 yX1_isQueuedIn yX1_isQueuedIn, Cond.initialized RX1, Cond.code yX1_isQueuedIn cX1_isQueuedIn 3 (some .boolean), Cond.fieldLink RX1 35 "FerroDesk$Notice" "districts" "I", Cond.static yX3_bitOf]
def wsX3_queue_r2 : List Cond := [Cond.code yX3_bitOf cX3_bitOf 2 (some .int), Cond.methodLink RX1 45 yX1_isOver, Cond.instanceMethod yX1_isOver, Cond.selects RX1 yX1_isOver yX1_isOver, Cond.code yX1_isOver cX1_isOver 2 (some .boolean), Cond.fieldLink RX1 25 "FerroDesk$Notice" "till" "I", Cond.methodLink RX3 133 yX1_putInto, Cond.instanceMethod yX1_putInto, Cond.selects RX1 yX1_putInto yX1_putInto, Cond.code yX1_putInto cX1_putInto 2 none]
def wsX3_queue : List Cond := .code yX3_queue cX3_queue 5 (some .boolean) :: ((wsX3_queue_r1 ++ wsX3_queue_r2) ++ wsX10 ++ wsX30 ++ (vx_atS RX3 128 "java/lang/UnsupportedOperationException" ["java/lang/RuntimeException", "java/lang/Exception"]).filter goodWord ++ (vx_atS RX3 184 "java/lang/IndexOutOfBoundsException" ["java/lang/RuntimeException", "java/lang/Exception"]).filter goodWord ++ (vx_atS RX3 55 "java/lang/IllegalArgumentException" ["java/lang/RuntimeException", "java/lang/Exception"]).filter goodWord)
def wsX3_boardsThatShow : List Cond := .code yX3_boardsThatShow cX3_boardsThatShow 4 (some .int) :: ([.fieldLink RX3 15 "FerroDesk" "boardCount" "I", .fieldLink RX3 11 "FerroDesk" "boards" "[LFerroDesk$Board;"] ++ wsX30 ++ wsX00)
def wsX3_takeBack : List Cond := .code yX3_takeBack cX3_takeBack 4 (some .int) :: ([.classLink RX3 51 "java/lang/IllegalArgumentException", .initialized "java/lang/IllegalArgumentException", .classLink RX3 124 "java/lang/UnsupportedOperationException", .initialized "java/lang/UnsupportedOperationException", .fieldLink RX3 41 "FerroDesk" "hour" "I", .methodLink RX3 114 yX3_noticeAt, .instanceMethod yX3_noticeAt, .selects RX3 yX3_noticeAt yX3_noticeAt, .initialized RX3, .code yX3_noticeAt cX3_noticeAt 2 (some (.object "FerroDesk$Notice")), .classLink RX3 180 "java/lang/IndexOutOfBoundsException", .initialized "java/lang/IndexOutOfBoundsException", .fieldLink RX3 28 "FerroDesk" "noticeCount" "I", .fieldLink RX3 21 "FerroDesk" "notices" "[LFerroDesk$Notice;", .methodLink RX3 143 yX3_boardsThatShow, .instanceMethod yX3_boardsThatShow, .selects RX3 yX3_boardsThatShow yX3_boardsThatShow, .code yX3_boardsThatShow cX3_boardsThatShow 4 (some .int), .fieldLink RX3 15 "FerroDesk" "boardCount" "I", .fieldLink RX3 11 "FerroDesk" "boards" "[LFerroDesk$Board;"] ++ wsX30 ++ wsX10 ++ wsX00 ++ (vx_atS RX3 55 "java/lang/IllegalArgumentException" ["java/lang/RuntimeException", "java/lang/Exception"]).filter goodWord ++ (vx_atS RX3 128 "java/lang/UnsupportedOperationException" ["java/lang/RuntimeException", "java/lang/Exception"]).filter goodWord ++ (vx_atS RX3 184 "java/lang/IndexOutOfBoundsException" ["java/lang/RuntimeException", "java/lang/Exception"]).filter goodWord)
def wsX3_readersIn : List Cond := .code yX3_readersIn cX3_readersIn 5 (some .int) :: ([.fieldLink RX3 15 "FerroDesk" "boardCount" "I", .fieldLink RX3 11 "FerroDesk" "boards" "[LFerroDesk$Board;"] ++ wsX30 ++ wsX00 ++ wsX10 ++ (vx_atM "java/lang/ArrayIndexOutOfBoundsException" ["java/lang/IndexOutOfBoundsException", "java/lang/RuntimeException", "java/lang/Exception"]).filter goodWord)
def wsX3_queueWhereRead_r1 : List Cond := [Cond.fieldLink RX3 41 "FerroDesk" "hour" "I", Cond.methodLink RX3 129 yX1_isQueuedIn, Cond.instanceMethod yX1_isQueuedIn, Cond.selects RX1 yX1_isQueuedIn yX1_isQueuedIn, Cond.initialized RX1, Cond.code yX1_isQueuedIn cX1_isQueuedIn 3 (some .boolean), Cond.fieldLink RX1 35 "FerroDesk$Notice" "districts" "I", Cond.static yX3_bitOf, Cond.initialized RX3, Cond.code yX3_bitOf cX3_bitOf 2 (some .int), Cond.methodLink RX1 45 yX1_isOver, Cond.instanceMethod yX1_isOver, Cond.selects RX1 yX1_isOver yX1_isOver, Cond.code yX1_isOver cX1_isOver 2 (some .boolean), Cond.fieldLink RX1 25 "FerroDesk$Notice" "till" "I", Cond.methodLink RX3 198 yX3_readersIn, Cond.instanceMethod yX3_readersIn, Cond.selects RX3 yX3_readersIn yX3_readersIn, Cond.code yX3_readersIn cX3_readersIn 5 (some .int), Cond.fieldLink RX3 15 "FerroDesk" "boardCount" "I", Cond.fieldLink RX3 11 "FerroDesk" "boards" "[LFerroDesk$Board;", Cond.methodLink RX3 133 yX1_putInto, Cond.instanceMethod yX1_putInto, Cond.selects RX1 yX1_putInto yX1_putInto]
def wsX3_queueWhereRead_r2 : List Cond := [Cond.code yX1_putInto cX1_putInto 2 none]
def wsX3_queueWhereRead : List Cond := .code yX3_queueWhereRead cX3_queueWhereRead 4 none :: ((wsX3_queueWhereRead_r1 ++ wsX3_queueWhereRead_r2) ++ wsX30 ++ wsX10 ++ wsX00 ++ (vx_atM "java/lang/ArrayIndexOutOfBoundsException" ["java/lang/IndexOutOfBoundsException", "java/lang/RuntimeException", "java/lang/Exception"]).filter goodWord)
def wsX3_mend_r1 : List Cond := [Cond.classLink RX3 51 "java/lang/IllegalArgumentException", Cond.initialized "java/lang/IllegalArgumentException", Cond.classLink RX3 124 "java/lang/UnsupportedOperationException", Cond.initialized "java/lang/UnsupportedOperationException", Cond.fieldLink RX3 41 "FerroDesk" "hour" "I", Cond.methodLink RX3 161 Lib.Math.min.name, Cond.static Lib.Math.min.name, Cond.initialized "java/lang/Math", Cond.code Lib.Math.min.name Lib.Math.min.code 2 (some .int), Cond.methodLink RX3 169 Lib.Math.max.name, Cond.static Lib.Math.max.name, Cond.code Lib.Math.max.name Lib.Math.max.code 2 (some .int), Cond.methodLink RX3 114 yX3_noticeAt, Cond.instanceMethod yX3_noticeAt, Cond.selects RX3 yX3_noticeAt yX3_noticeAt, Cond.initialized RX3, Cond.code yX3_noticeAt cX3_noticeAt 2 (some (.object "FerroDesk$Notice")), Cond.classLink RX3 180 "java/lang/IndexOutOfBoundsException", Cond.initialized "java/lang/IndexOutOfBoundsException", Cond.fieldLink RX3 28 "FerroDesk" "noticeCount" "I", Cond.fieldLink RX3 21 "FerroDesk" "notices" "[LFerroDesk$Notice;", Cond.methodLink RX3 152 yX1_isOver, Cond.instanceMethod yX1_isOver, Cond.selects RX1 yX1_isOver yX1_isOver]
def wsX3_mend_r2 : List Cond := [Cond.initialized RX1, Cond.code yX1_isOver cX1_isOver 2 (some .boolean), Cond.fieldLink RX1 25 "FerroDesk$Notice" "till" "I", Cond.methodLink RX3 110 yX3_take, Cond.instanceMethod yX3_take, Cond.selects RX3 yX3_take yX3_take, Cond.code yX3_take cX3_take 7 (some (.object "FerroDesk$Notice")), Cond.classLink RX3 58 "java/lang/IllegalStateException", Cond.initialized "java/lang/IllegalStateException", Cond.fieldLink RX3 25 "FerroDesk" "ranked" "[LFerroDesk$Notice;", Cond.methodLink RX3 263 yX1_fill, Cond.instanceMethod yX1_fill, Cond.selects RX1 yX1_fill yX1_fill, Cond.code yX1_fill cX1_fill 5 none, Cond.fieldLink RX1 15 "FerroDesk$Notice" "rank" "I", Cond.fieldLink RX1 19 "FerroDesk$Notice" "picture" "I", Cond.fieldLink RX1 22 "FerroDesk$Notice" "from" "I", Cond.methodLink RX3 172 yX3_queueWhereRead, Cond.instanceMethod yX3_queueWhereRead, Cond.selects RX3 yX3_queueWhereRead yX3_queueWhereRead, Cond.code yX3_queueWhereRead cX3_queueWhereRead 4 none, Cond.methodLink RX3 129 yX1_isQueuedIn, Cond.instanceMethod yX1_isQueuedIn, Cond.selects RX1 yX1_isQueuedIn yX1_isQueuedIn]
def wsX3_mend_r3 : List Cond := [Cond.code yX1_isQueuedIn cX1_isQueuedIn 3 (some .boolean), Cond.fieldLink RX1 35 "FerroDesk$Notice" "districts" "I", Cond.static yX3_bitOf, Cond.code yX3_bitOf cX3_bitOf 2 (some .int), Cond.methodLink RX1 45 yX1_isOver, Cond.methodLink RX3 198 yX3_readersIn, Cond.instanceMethod yX3_readersIn, Cond.selects RX3 yX3_readersIn yX3_readersIn, Cond.code yX3_readersIn cX3_readersIn 5 (some .int), Cond.fieldLink RX3 15 "FerroDesk" "boardCount" "I", Cond.fieldLink RX3 11 "FerroDesk" "boards" "[LFerroDesk$Board;", Cond.methodLink RX3 133 yX1_putInto, Cond.instanceMethod yX1_putInto, Cond.selects RX1 yX1_putInto yX1_putInto, Cond.code yX1_putInto cX1_putInto 2 none]
def wsX3_mend : List Cond := .code yX3_mend cX3_mend 6 (some .int) :: ((wsX3_mend_r1 ++ (wsX3_mend_r2 ++ wsX3_mend_r3)) ++ wsX10 ++ wsX30 ++ wsX00 ++ (vx_atS RX3 55 "java/lang/IllegalArgumentException" ["java/lang/RuntimeException", "java/lang/Exception"]).filter goodWord ++ (vx_atS RX3 128 "java/lang/UnsupportedOperationException" ["java/lang/RuntimeException", "java/lang/Exception"]).filter goodWord ++ (vx_atS RX3 184 "java/lang/IndexOutOfBoundsException" ["java/lang/RuntimeException", "java/lang/Exception"]).filter goodWord ++ (vx_atS RX3 62 "java/lang/IllegalStateException" ["java/lang/RuntimeException", "java/lang/Exception"]).filter goodWord ++ (vx_atM "java/lang/ArrayIndexOutOfBoundsException" ["java/lang/IndexOutOfBoundsException", "java/lang/RuntimeException", "java/lang/Exception"]).filter goodWord)
def wsX3_deny_r1 : List Cond := [Cond.classLink RX3 51 "java/lang/IllegalArgumentException", Cond.initialized "java/lang/IllegalArgumentException", Cond.fieldLink RX3 41 "FerroDesk" "hour" "I", Cond.methodLink RX3 48 yX3_checkDistrict, Cond.static yX3_checkDistrict, Cond.initialized RX3, Cond.code yX3_checkDistrict cX3_checkDistrict 1 none, Cond.methodLink RX3 110 yX3_take, Cond.instanceMethod yX3_take, Cond.selects RX3 yX3_take yX3_take, Cond.code yX3_take cX3_take 7 (some (.object "FerroDesk$Notice")), Cond.classLink RX3 58 "java/lang/IllegalStateException", Cond.initialized "java/lang/IllegalStateException", Cond.fieldLink RX3 28 "FerroDesk" "noticeCount" "I", Cond.fieldLink RX3 21 "FerroDesk" "notices" "[LFerroDesk$Notice;", Cond.fieldLink RX3 25 "FerroDesk" "ranked" "[LFerroDesk$Notice;", Cond.methodLink RX3 263 yX1_fill, Cond.instanceMethod yX1_fill, Cond.selects RX1 yX1_fill yX1_fill, Cond.initialized RX1, Cond.code yX1_fill cX1_fill 5 none, Cond.fieldLink RX1 15 "FerroDesk$Notice" "rank" "I", Cond.fieldLink RX1 19 "FerroDesk$Notice" "picture" "I", Cond.fieldLink RX1 22 "FerroDesk$Notice" "from" "I"]
def wsX3_deny_r2 : List Cond := [Cond.fieldLink RX1 25 "FerroDesk$Notice" "till" "I", Cond.methodLink RX3 133 yX1_putInto, Cond.instanceMethod yX1_putInto, Cond.selects RX1 yX1_putInto yX1_putInto, Cond.code yX1_putInto cX1_putInto 2 none, Cond.fieldLink RX1 35 "FerroDesk$Notice" "districts" "I"]
def wsX3_deny : List Cond := .code yX3_deny cX3_deny 5 (some .int) :: ((wsX3_deny_r1 ++ wsX3_deny_r2) ++ wsX30 ++ wsX10 ++ (vx_atS RX3 55 "java/lang/IllegalArgumentException" ["java/lang/RuntimeException", "java/lang/Exception"]).filter goodWord ++ (vx_atS RX3 62 "java/lang/IllegalStateException" ["java/lang/RuntimeException", "java/lang/Exception"]).filter goodWord)
def wsX3_queued : List Cond := .code yX3_queued cX3_queued 4 (some .int) :: ([.fieldLink RX3 28 "FerroDesk" "noticeCount" "I", .fieldLink RX3 21 "FerroDesk" "notices" "[LFerroDesk$Notice;", .fieldLink RX3 41 "FerroDesk" "hour" "I", .methodLink RX3 48 yX3_checkDistrict, .static yX3_checkDistrict, .initialized RX3, .code yX3_checkDistrict cX3_checkDistrict 1 none, .classLink RX3 51 "java/lang/IllegalArgumentException", .initialized "java/lang/IllegalArgumentException", .methodLink RX3 129 yX1_isQueuedIn, .instanceMethod yX1_isQueuedIn, .selects RX1 yX1_isQueuedIn yX1_isQueuedIn, .initialized RX1, .code yX1_isQueuedIn cX1_isQueuedIn 3 (some .boolean), .fieldLink RX1 35 "FerroDesk$Notice" "districts" "I", .static yX3_bitOf, .code yX3_bitOf cX3_bitOf 2 (some .int), .methodLink RX1 45 yX1_isOver, .instanceMethod yX1_isOver, .selects RX1 yX1_isOver yX1_isOver, .code yX1_isOver cX1_isOver 2 (some .boolean), .fieldLink RX1 25 "FerroDesk$Notice" "till" "I"] ++ wsX30 ++ wsX10 ++ (vx_atS RX3 55 "java/lang/IllegalArgumentException" ["java/lang/RuntimeException", "java/lang/Exception"]).filter goodWord)
def wsX3_queuedAt : List Cond := .code yX3_queuedAt cX3_queuedAt 6 (some .int) :: ([.classLink RX3 180 "java/lang/IndexOutOfBoundsException", .initialized "java/lang/IndexOutOfBoundsException", .fieldLink RX3 28 "FerroDesk" "noticeCount" "I", .fieldLink RX3 25 "FerroDesk" "ranked" "[LFerroDesk$Notice;", .fieldLink RX3 41 "FerroDesk" "hour" "I", .methodLink RX3 48 yX3_checkDistrict, .static yX3_checkDistrict, .initialized RX3, .code yX3_checkDistrict cX3_checkDistrict 1 none, .classLink RX3 51 "java/lang/IllegalArgumentException", .initialized "java/lang/IllegalArgumentException", .methodLink RX3 129 yX1_isQueuedIn, .instanceMethod yX1_isQueuedIn, .selects RX1 yX1_isQueuedIn yX1_isQueuedIn, .initialized RX1, .code yX1_isQueuedIn cX1_isQueuedIn 3 (some .boolean), .fieldLink RX1 35 "FerroDesk$Notice" "districts" "I", .static yX3_bitOf, .code yX3_bitOf cX3_bitOf 2 (some .int), .methodLink RX1 45 yX1_isOver, .instanceMethod yX1_isOver, .selects RX1 yX1_isOver yX1_isOver, .code yX1_isOver cX1_isOver 2 (some .boolean), .fieldLink RX1 25 "FerroDesk$Notice" "till" "I"] ++ wsX30 ++ wsX10 ++ (vx_atS RX3 184 "java/lang/IndexOutOfBoundsException" ["java/lang/RuntimeException", "java/lang/Exception"]).filter goodWord ++ (vx_atS RX3 55 "java/lang/IllegalArgumentException" ["java/lang/RuntimeException", "java/lang/Exception"]).filter goodWord)
def wsX3_isDue : List Cond := .code yX3_isDue cX3_isDue 2 (some .boolean) :: ([.fieldLink RX3 41 "FerroDesk" "hour" "I", .methodLink RX3 114 yX3_noticeAt, .instanceMethod yX3_noticeAt, .selects RX3 yX3_noticeAt yX3_noticeAt, .initialized RX3, .code yX3_noticeAt cX3_noticeAt 2 (some (.object "FerroDesk$Notice")), .classLink RX3 180 "java/lang/IndexOutOfBoundsException", .initialized "java/lang/IndexOutOfBoundsException", .fieldLink RX3 28 "FerroDesk" "noticeCount" "I", .fieldLink RX3 21 "FerroDesk" "notices" "[LFerroDesk$Notice;", .methodLink RX3 185 yX1_isOf, .instanceMethod yX1_isOf, .selects RX1 yX1_isOf yX1_isOf, .initialized RX1, .code yX1_isOf cX1_isOf 2 (some .boolean), .fieldLink RX1 22 "FerroDesk$Notice" "from" "I", .fieldLink RX1 25 "FerroDesk$Notice" "till" "I"] ++ wsX30 ++ wsX10 ++ (vx_atS RX3 184 "java/lang/IndexOutOfBoundsException" ["java/lang/RuntimeException", "java/lang/Exception"]).filter goodWord)
def wsX3_pass_r1 : List Cond := [Cond.classLink RX3 51 "java/lang/IllegalArgumentException", Cond.initialized "java/lang/IllegalArgumentException", Cond.fieldLink RX3 34 "FerroDesk" "readings" "LFerroDesk$Readings;", Cond.fieldLink RX3 41 "FerroDesk" "hour" "I", Cond.methodLink RX3 69 yX3_boardAt, Cond.instanceMethod yX3_boardAt, Cond.selects RX3 yX3_boardAt yX3_boardAt, Cond.initialized RX3, Cond.code yX3_boardAt cX3_boardAt 2 (some (.object "FerroDesk$Board")), Cond.classLink RX3 180 "java/lang/IndexOutOfBoundsException", Cond.initialized "java/lang/IndexOutOfBoundsException", Cond.fieldLink RX3 15 "FerroDesk" "boardCount" "I", Cond.fieldLink RX3 11 "FerroDesk" "boards" "[LFerroDesk$Board;", Cond.methodLink RX3 194 yX2_write, Cond.instanceMethod yX2_write, Cond.selects RX2 yX2_write yX2_write, Cond.initialized RX2, Cond.code yX2_write cX2_write 5 none, Cond.fieldLink RX2 21 "FerroDesk$Readings" "count" "I", Cond.fieldLink RX2 9 "FerroDesk$Readings" "noticeOf" "[I", Cond.fieldLink RX2 15 "FerroDesk$Readings" "hourOf" "[I", Cond.fieldLink RX2 18 "FerroDesk$Readings" "people" "[I", Cond.methodLink RX2 25 yX2_find, Cond.instanceMethod yX2_find]
def wsX3_pass_r2 : List Cond := [Cond.selects RX2 yX2_find yX2_find, Cond.code yX2_find cX2_find 4 (some .int)]
def wsX3_pass : List Cond := .code yX3_pass cX3_pass 4 (some .int) :: ((wsX3_pass_r1 ++ wsX3_pass_r2) ++ wsX00 ++ wsX10 ++ wsX30 ++ wsX20 ++ (vx_atS RX3 55 "java/lang/IllegalArgumentException" ["java/lang/RuntimeException", "java/lang/Exception"]).filter goodWord ++ (vx_atM "java/lang/ArrayIndexOutOfBoundsException" ["java/lang/IndexOutOfBoundsException", "java/lang/RuntimeException", "java/lang/Exception"]).filter goodWord ++ (vx_atS RX3 184 "java/lang/IndexOutOfBoundsException" ["java/lang/RuntimeException", "java/lang/Exception"]).filter goodWord)
def wsX3_readers : List Cond := .code yX3_readers cX3_readers 4 (some .int) :: ([.methodLink RX3 114 yX3_noticeAt, .instanceMethod yX3_noticeAt, .selects RX3 yX3_noticeAt yX3_noticeAt, .initialized RX3, .code yX3_noticeAt cX3_noticeAt 2 (some (.object "FerroDesk$Notice")), .classLink RX3 180 "java/lang/IndexOutOfBoundsException", .initialized "java/lang/IndexOutOfBoundsException", .fieldLink RX3 28 "FerroDesk" "noticeCount" "I", .fieldLink RX3 21 "FerroDesk" "notices" "[LFerroDesk$Notice;", .methodLink RX3 48 yX3_checkDistrict, .static yX3_checkDistrict, .code yX3_checkDistrict cX3_checkDistrict 1 none, .classLink RX3 51 "java/lang/IllegalArgumentException", .initialized "java/lang/IllegalArgumentException", .methodLink RX3 198 yX3_readersIn, .instanceMethod yX3_readersIn, .selects RX3 yX3_readersIn yX3_readersIn, .code yX3_readersIn cX3_readersIn 5 (some .int), .fieldLink RX3 15 "FerroDesk" "boardCount" "I", .fieldLink RX3 11 "FerroDesk" "boards" "[LFerroDesk$Board;"] ++ wsX30 ++ wsX00 ++ wsX10 ++ (vx_atS RX3 184 "java/lang/IndexOutOfBoundsException" ["java/lang/RuntimeException", "java/lang/Exception"]).filter goodWord ++ (vx_atS RX3 55 "java/lang/IllegalArgumentException" ["java/lang/RuntimeException", "java/lang/Exception"]).filter goodWord ++ (vx_atM "java/lang/ArrayIndexOutOfBoundsException" ["java/lang/IndexOutOfBoundsException", "java/lang/RuntimeException", "java/lang/Exception"]).filter goodWord)
def wsX3_readIn : List Cond := .code yX3_readIn cX3_readIn 3 (some .int) :: ([.fieldLink RX3 34 "FerroDesk" "readings" "LFerroDesk$Readings;", .methodLink RX3 114 yX3_noticeAt, .instanceMethod yX3_noticeAt, .selects RX3 yX3_noticeAt yX3_noticeAt, .initialized RX3, .code yX3_noticeAt cX3_noticeAt 2 (some (.object "FerroDesk$Notice")), .classLink RX3 180 "java/lang/IndexOutOfBoundsException", .initialized "java/lang/IndexOutOfBoundsException", .fieldLink RX3 28 "FerroDesk" "noticeCount" "I", .fieldLink RX3 21 "FerroDesk" "notices" "[LFerroDesk$Notice;", .methodLink RX3 202 yX2_peopleOf, .instanceMethod yX2_peopleOf, .selects RX2 yX2_peopleOf yX2_peopleOf, .initialized RX2, .code yX2_peopleOf cX2_peopleOf 4 (some .int), .fieldLink RX2 18 "FerroDesk$Readings" "people" "[I", .methodLink RX2 25 yX2_find, .instanceMethod yX2_find, .selects RX2 yX2_find yX2_find, .code yX2_find cX2_find 4 (some .int), .fieldLink RX2 21 "FerroDesk$Readings" "count" "I", .fieldLink RX2 9 "FerroDesk$Readings" "noticeOf" "[I", .fieldLink RX2 15 "FerroDesk$Readings" "hourOf" "[I"] ++ wsX30 ++ wsX10 ++ wsX20 ++ (vx_atS RX3 184 "java/lang/IndexOutOfBoundsException" ["java/lang/RuntimeException", "java/lang/Exception"]).filter goodWord ++ (vx_atM "java/lang/ArrayIndexOutOfBoundsException" ["java/lang/IndexOutOfBoundsException", "java/lang/RuntimeException", "java/lang/Exception"]).filter goodWord)
def wsX3_checkRumour : List Cond := .code yX3_checkRumour cX3_checkRumour 2 none :: ([.classLink RX3 51 "java/lang/IllegalArgumentException", .initialized "java/lang/IllegalArgumentException", .methodLink RX3 48 yX3_checkDistrict, .static yX3_checkDistrict, .initialized RX3, .code yX3_checkDistrict cX3_checkDistrict 1 none] ++ (vx_atS RX3 55 "java/lang/IllegalArgumentException" ["java/lang/RuntimeException", "java/lang/Exception"]).filter goodWord)
def wsX3_isSuspect : List Cond := .code yX3_isSuspect cX3_isSuspect 4 (some .boolean) :: ([.methodLink RX3 198 yX3_readersIn, .instanceMethod yX3_readersIn, .selects RX3 yX3_readersIn yX3_readersIn, .initialized RX3, .code yX3_readersIn cX3_readersIn 5 (some .int), .fieldLink RX3 15 "FerroDesk" "boardCount" "I", .fieldLink RX3 11 "FerroDesk" "boards" "[LFerroDesk$Board;", .methodLink RX3 270 yX1_canHaveMade, .instanceMethod yX1_canHaveMade, .selects RX1 yX1_canHaveMade yX1_canHaveMade, .initialized RX1, .code yX1_canHaveMade cX1_canHaveMade 3 (some .boolean), .fieldLink RX1 19 "FerroDesk$Notice" "picture" "I", .static yX3_shifted, .code yX3_shifted cX3_shifted 3 (some .int), .constant RX3 283 (16843009)] ++ wsX30 ++ wsX00 ++ wsX10 ++ (vx_atM "java/lang/ArrayIndexOutOfBoundsException" ["java/lang/IndexOutOfBoundsException", "java/lang/RuntimeException", "java/lang/Exception"]).filter goodWord)
def wsX3_suspects_r1 : List Cond := [Cond.fieldLink RX3 28 "FerroDesk" "noticeCount" "I", Cond.fieldLink RX3 21 "FerroDesk" "notices" "[LFerroDesk$Notice;", Cond.methodLink RX3 205 yX3_checkRumour, Cond.static yX3_checkRumour, Cond.initialized RX3, Cond.code yX3_checkRumour cX3_checkRumour 2 none, Cond.classLink RX3 51 "java/lang/IllegalArgumentException", Cond.initialized "java/lang/IllegalArgumentException", Cond.methodLink RX3 48 yX3_checkDistrict, Cond.static yX3_checkDistrict, Cond.code yX3_checkDistrict cX3_checkDistrict 1 none, Cond.methodLink RX3 208 yX3_isSuspect, Cond.instanceMethod yX3_isSuspect, Cond.selects RX3 yX3_isSuspect yX3_isSuspect, Cond.code yX3_isSuspect cX3_isSuspect 4 (some .boolean), Cond.methodLink RX3 198 yX3_readersIn, Cond.instanceMethod yX3_readersIn, Cond.selects RX3 yX3_readersIn yX3_readersIn, Cond.code yX3_readersIn cX3_readersIn 5 (some .int), Cond.fieldLink RX3 15 "FerroDesk" "boardCount" "I", Cond.fieldLink RX3 11 "FerroDesk" "boards" "[LFerroDesk$Board;", Cond.methodLink RX3 270 yX1_canHaveMade, Cond.instanceMethod yX1_canHaveMade, Cond.selects RX1 yX1_canHaveMade yX1_canHaveMade]
def wsX3_suspects_r2 : List Cond := [Cond.initialized RX1, Cond.code yX1_canHaveMade cX1_canHaveMade 3 (some .boolean), Cond.fieldLink RX1 19 "FerroDesk$Notice" "picture" "I", Cond.static yX3_shifted, Cond.code yX3_shifted cX3_shifted 3 (some .int), Cond.constant RX3 283 (16843009)]
def wsX3_suspects : List Cond := .code yX3_suspects cX3_suspects 5 (some .int) :: ((wsX3_suspects_r1 ++ wsX3_suspects_r2) ++ wsX30 ++ wsX00 ++ wsX10 ++ (vx_atS RX3 55 "java/lang/IllegalArgumentException" ["java/lang/RuntimeException", "java/lang/Exception"]).filter goodWord ++ (vx_atM "java/lang/ArrayIndexOutOfBoundsException" ["java/lang/IndexOutOfBoundsException", "java/lang/RuntimeException", "java/lang/Exception"]).filter goodWord)
def wsX3_suspectsAhead : List Cond := .code yX3_suspectsAhead cX3_suspectsAhead 9 (some .int) :: ([.fieldLink RX3 28 "FerroDesk" "noticeCount" "I", .fieldLink RX3 21 "FerroDesk" "notices" "[LFerroDesk$Notice;", .methodLink RX3 198 yX3_readersIn, .instanceMethod yX3_readersIn, .selects RX3 yX3_readersIn yX3_readersIn, .initialized RX3, .code yX3_readersIn cX3_readersIn 5 (some .int), .fieldLink RX3 15 "FerroDesk" "boardCount" "I", .fieldLink RX3 11 "FerroDesk" "boards" "[LFerroDesk$Board;", .methodLink RX3 208 yX3_isSuspect, .instanceMethod yX3_isSuspect, .selects RX3 yX3_isSuspect yX3_isSuspect, .code yX3_isSuspect cX3_isSuspect 4 (some .boolean), .methodLink RX3 270 yX1_canHaveMade, .instanceMethod yX1_canHaveMade, .selects RX1 yX1_canHaveMade yX1_canHaveMade, .initialized RX1, .code yX1_canHaveMade cX1_canHaveMade 3 (some .boolean), .fieldLink RX1 19 "FerroDesk$Notice" "picture" "I", .static yX3_shifted, .code yX3_shifted cX3_shifted 3 (some .int), .constant RX3 283 (16843009)] ++ wsX30 ++ wsX10 ++ wsX00 ++ (vx_atM "java/lang/ArrayIndexOutOfBoundsException" ["java/lang/IndexOutOfBoundsException", "java/lang/RuntimeException", "java/lang/Exception"]).filter goodWord)
def wsX3_suspectAt_r1 : List Cond := [Cond.classLink RX3 180 "java/lang/IndexOutOfBoundsException", Cond.initialized "java/lang/IndexOutOfBoundsException", Cond.fieldLink RX3 28 "FerroDesk" "noticeCount" "I", Cond.fieldLink RX3 21 "FerroDesk" "notices" "[LFerroDesk$Notice;", Cond.methodLink RX3 205 yX3_checkRumour, Cond.static yX3_checkRumour, Cond.initialized RX3, Cond.code yX3_checkRumour cX3_checkRumour 2 none, Cond.classLink RX3 51 "java/lang/IllegalArgumentException", Cond.initialized "java/lang/IllegalArgumentException", Cond.methodLink RX3 48 yX3_checkDistrict, Cond.static yX3_checkDistrict, Cond.code yX3_checkDistrict cX3_checkDistrict 1 none, Cond.methodLink RX3 208 yX3_isSuspect, Cond.instanceMethod yX3_isSuspect, Cond.selects RX3 yX3_isSuspect yX3_isSuspect, Cond.code yX3_isSuspect cX3_isSuspect 4 (some .boolean), Cond.methodLink RX3 198 yX3_readersIn, Cond.instanceMethod yX3_readersIn, Cond.selects RX3 yX3_readersIn yX3_readersIn, Cond.code yX3_readersIn cX3_readersIn 5 (some .int), Cond.fieldLink RX3 15 "FerroDesk" "boardCount" "I", Cond.fieldLink RX3 11 "FerroDesk" "boards" "[LFerroDesk$Board;", Cond.methodLink RX3 270 yX1_canHaveMade]
def wsX3_suspectAt_r2 : List Cond := [Cond.instanceMethod yX1_canHaveMade, Cond.selects RX1 yX1_canHaveMade yX1_canHaveMade, Cond.initialized RX1, Cond.code yX1_canHaveMade cX1_canHaveMade 3 (some .boolean), Cond.fieldLink RX1 19 "FerroDesk$Notice" "picture" "I", Cond.static yX3_shifted, Cond.code yX3_shifted cX3_shifted 3 (some .int), Cond.constant RX3 283 (16843009), Cond.methodLink RX3 212 yX3_suspectsAhead, Cond.instanceMethod yX3_suspectsAhead, Cond.selects RX3 yX3_suspectsAhead yX3_suspectsAhead, Cond.code yX3_suspectsAhead cX3_suspectsAhead 9 (some .int)]
def wsX3_suspectAt : List Cond := .code yX3_suspectAt cX3_suspectAt 6 (some .int) :: ((wsX3_suspectAt_r1 ++ wsX3_suspectAt_r2) ++ wsX30 ++ wsX00 ++ wsX10 ++ (vx_atS RX3 184 "java/lang/IndexOutOfBoundsException" ["java/lang/RuntimeException", "java/lang/Exception"]).filter goodWord ++ (vx_atS RX3 55 "java/lang/IllegalArgumentException" ["java/lang/RuntimeException", "java/lang/Exception"]).filter goodWord ++ (vx_atM "java/lang/ArrayIndexOutOfBoundsException" ["java/lang/IndexOutOfBoundsException", "java/lang/RuntimeException", "java/lang/Exception"]).filter goodWord)
def wsX3_letHourComeTo_r1 : List Cond := [Cond.fieldLink RX3 38 "FerroDesk" "sun" "I", Cond.fieldLink RX3 41 "FerroDesk" "hour" "I", Cond.fieldLink RX3 28 "FerroDesk" "noticeCount" "I", Cond.fieldLink RX3 25 "FerroDesk" "ranked" "[LFerroDesk$Notice;", Cond.methodLink RX3 273 yX0_chargeBy, Cond.instanceMethod yX0_chargeBy, Cond.selects RX0 yX0_chargeBy yX0_chargeBy, Cond.initialized RX0, Cond.code yX0_chargeBy cX0_chargeBy 2 none, Cond.fieldLink RX0 15 "FerroDesk$Board" "charge" "I", Cond.methodLink RX0 51 Lib.Math.min.name, Cond.static Lib.Math.min.name, Cond.initialized "java/lang/Math", Cond.code Lib.Math.min.name Lib.Math.min.code 2 (some .int), Cond.methodLink RX3 185 yX1_isOf, Cond.instanceMethod yX1_isOf, Cond.selects RX1 yX1_isOf yX1_isOf, Cond.initialized RX1, Cond.code yX1_isOf cX1_isOf 2 (some .boolean), Cond.fieldLink RX1 22 "FerroDesk$Notice" "from" "I", Cond.fieldLink RX1 25 "FerroDesk$Notice" "till" "I", Cond.methodLink RX3 276 yX0_wipe, Cond.instanceMethod yX0_wipe, Cond.selects RX0 yX0_wipe yX0_wipe]
def wsX3_letHourComeTo_r2 : List Cond := [Cond.code yX0_wipe cX0_wipe 1 none, Cond.fieldLink RX0 29 "FerroDesk$Board" "black" "I", Cond.fieldLink RX0 18 "FerroDesk$Board" "shown" "LFerroDesk$Notice;", Cond.fieldLink RX0 22 "FerroDesk$Board" "shiftedBy" "I", Cond.methodLink RX0 66 yX0_change, Cond.instanceMethod yX0_change, Cond.selects RX0 yX0_change yX0_change, Cond.code yX0_change cX0_change 3 none, Cond.fieldLink RX0 48 "FerroDesk$Board" "timesChanged" "I", Cond.fieldLink RX0 45 "FerroDesk$Board" "changed" "[I", Cond.methodLink RX0 60 yJ6_bitCount_0f7a4, Cond.static yJ6_bitCount_0f7a4, Cond.initialized RJ6, Cond.code yJ6_bitCount_0f7a4 cJ6_bitCount_0f7a4 1 (some .int), Cond.constant RJ6 265 (1431655765), Cond.constant RJ6 266 (858993459), Cond.constant RJ6 267 (252645135), Cond.static yX3_bitOf, Cond.initialized RX3, Cond.code yX3_bitOf cX3_bitOf 2 (some .int), Cond.methodLink RX0 88 yX0_wearOut, Cond.instanceMethod yX0_wearOut, Cond.selects RX0 yX0_wearOut yX0_wearOut, Cond.code yX0_wearOut cX0_wearOut 4 none]
def wsX3_letHourComeTo_r3 : List Cond := [Cond.fieldLink RX0 32 "FerroDesk$Board" "wearByCell" "[I", Cond.fieldLink RX0 36 "FerroDesk$Board" "greatestWear" "I", Cond.fieldLink RX0 39 "FerroDesk$Board" "mostWorn" "I", Cond.fieldLink RX0 42 "FerroDesk$Board" "wornOut" "I", Cond.methodLink RX3 129 yX1_isQueuedIn, Cond.instanceMethod yX1_isQueuedIn, Cond.selects RX1 yX1_isQueuedIn yX1_isQueuedIn, Cond.code yX1_isQueuedIn cX1_isQueuedIn 3 (some .boolean), Cond.fieldLink RX1 35 "FerroDesk$Notice" "districts" "I", Cond.methodLink RX1 45 yX1_isOver, Cond.instanceMethod yX1_isOver, Cond.selects RX1 yX1_isOver yX1_isOver, Cond.code yX1_isOver cX1_isOver 2 (some .boolean), Cond.methodLink RX3 279 yX0_takesUp, Cond.instanceMethod yX0_takesUp, Cond.selects RX0 yX0_takesUp yX0_takesUp, Cond.code yX0_takesUp cX0_takesUp 3 (some .boolean), Cond.methodLink RX0 75 yX0_bestShift, Cond.instanceMethod yX0_bestShift, Cond.selects RX0 yX0_bestShift yX0_bestShift, Cond.code yX0_bestShift cX0_bestShift 9 (some .int), Cond.static yX3_shifted, Cond.code yX3_shifted cX3_shifted 3 (some .int), Cond.constant RX3 283 (16843009)]
def wsX3_letHourComeTo_r4 : List Cond := [Cond.methodLink RX0 81 yX0_canTurnTo, Cond.instanceMethod yX0_canTurnTo, Cond.selects RX0 yX0_canTurnTo yX0_canTurnTo, Cond.code yX0_canTurnTo cX0_canTurnTo 3 (some .boolean), Cond.methodLink RX0 85 yX0_greatestWearBehind, Cond.instanceMethod yX0_greatestWearBehind, Cond.selects RX0 yX0_greatestWearBehind yX0_greatestWearBehind, Cond.code yX0_greatestWearBehind cX0_greatestWearBehind 2 (some .int)]
def wsX3_letHourComeTo : List Cond := .code yX3_letHourComeTo cX3_letHourComeTo 4 none :: ((wsX3_letHourComeTo_r1 ++ (wsX3_letHourComeTo_r2 ++ (wsX3_letHourComeTo_r3 ++ wsX3_letHourComeTo_r4))) ++ wsX30 ++ wsX00 ++ wsX10 ++ (vx_atM "java/lang/ArrayIndexOutOfBoundsException" ["java/lang/IndexOutOfBoundsException", "java/lang/RuntimeException", "java/lang/Exception"]).filter goodWord)
def wsX3_go_r1 : List Cond := [Cond.classLink RX3 51 "java/lang/IllegalArgumentException", Cond.initialized "java/lang/IllegalArgumentException", Cond.classLink RX3 58 "java/lang/IllegalStateException", Cond.initialized "java/lang/IllegalStateException", Cond.fieldLink RX3 41 "FerroDesk" "hour" "I", Cond.fieldLink RX3 15 "FerroDesk" "boardCount" "I", Cond.fieldLink RX3 11 "FerroDesk" "boards" "[LFerroDesk$Board;", Cond.methodLink RX3 222 yX3_letHourComeTo, Cond.instanceMethod yX3_letHourComeTo, Cond.selects RX3 yX3_letHourComeTo yX3_letHourComeTo, Cond.initialized RX3, Cond.code yX3_letHourComeTo cX3_letHourComeTo 4 none, Cond.fieldLink RX3 38 "FerroDesk" "sun" "I", Cond.fieldLink RX3 28 "FerroDesk" "noticeCount" "I", Cond.fieldLink RX3 25 "FerroDesk" "ranked" "[LFerroDesk$Notice;", Cond.methodLink RX3 273 yX0_chargeBy, Cond.instanceMethod yX0_chargeBy, Cond.selects RX0 yX0_chargeBy yX0_chargeBy, Cond.initialized RX0, Cond.code yX0_chargeBy cX0_chargeBy 2 none, Cond.fieldLink RX0 15 "FerroDesk$Board" "charge" "I", Cond.methodLink RX0 51 Lib.Math.min.name, Cond.static Lib.Math.min.name, Cond.initialized "java/lang/Math"]
def wsX3_go_r2 : List Cond := [Cond.code Lib.Math.min.name Lib.Math.min.code 2 (some .int), Cond.methodLink RX3 185 yX1_isOf, Cond.instanceMethod yX1_isOf, Cond.selects RX1 yX1_isOf yX1_isOf, Cond.initialized RX1, Cond.code yX1_isOf cX1_isOf 2 (some .boolean), Cond.fieldLink RX1 22 "FerroDesk$Notice" "from" "I", Cond.fieldLink RX1 25 "FerroDesk$Notice" "till" "I", Cond.methodLink RX3 276 yX0_wipe, Cond.instanceMethod yX0_wipe, Cond.selects RX0 yX0_wipe yX0_wipe, Cond.code yX0_wipe cX0_wipe 1 none, Cond.fieldLink RX0 29 "FerroDesk$Board" "black" "I", Cond.fieldLink RX0 18 "FerroDesk$Board" "shown" "LFerroDesk$Notice;", Cond.fieldLink RX0 22 "FerroDesk$Board" "shiftedBy" "I", Cond.methodLink RX0 66 yX0_change, Cond.instanceMethod yX0_change, Cond.selects RX0 yX0_change yX0_change, Cond.code yX0_change cX0_change 3 none, Cond.fieldLink RX0 48 "FerroDesk$Board" "timesChanged" "I", Cond.fieldLink RX0 45 "FerroDesk$Board" "changed" "[I", Cond.methodLink RX0 60 yJ6_bitCount_0f7a4, Cond.static yJ6_bitCount_0f7a4, Cond.initialized RJ6]
def wsX3_go_r3 : List Cond := [Cond.code yJ6_bitCount_0f7a4 cJ6_bitCount_0f7a4 1 (some .int), Cond.constant RJ6 265 (1431655765), Cond.constant RJ6 266 (858993459), Cond.constant RJ6 267 (252645135), Cond.static yX3_bitOf, Cond.code yX3_bitOf cX3_bitOf 2 (some .int), Cond.methodLink RX0 88 yX0_wearOut, Cond.instanceMethod yX0_wearOut, Cond.selects RX0 yX0_wearOut yX0_wearOut, Cond.code yX0_wearOut cX0_wearOut 4 none, Cond.fieldLink RX0 32 "FerroDesk$Board" "wearByCell" "[I", Cond.fieldLink RX0 36 "FerroDesk$Board" "greatestWear" "I", Cond.fieldLink RX0 39 "FerroDesk$Board" "mostWorn" "I", Cond.fieldLink RX0 42 "FerroDesk$Board" "wornOut" "I", Cond.methodLink RX3 129 yX1_isQueuedIn, Cond.instanceMethod yX1_isQueuedIn, Cond.selects RX1 yX1_isQueuedIn yX1_isQueuedIn, Cond.code yX1_isQueuedIn cX1_isQueuedIn 3 (some .boolean), Cond.fieldLink RX1 35 "FerroDesk$Notice" "districts" "I", Cond.methodLink RX1 45 yX1_isOver, Cond.instanceMethod yX1_isOver, Cond.selects RX1 yX1_isOver yX1_isOver, Cond.code yX1_isOver cX1_isOver 2 (some .boolean), Cond.methodLink RX3 279 yX0_takesUp]
def wsX3_go_r4 : List Cond := [Cond.instanceMethod yX0_takesUp, Cond.selects RX0 yX0_takesUp yX0_takesUp, Cond.code yX0_takesUp cX0_takesUp 3 (some .boolean), Cond.methodLink RX0 75 yX0_bestShift, Cond.instanceMethod yX0_bestShift, Cond.selects RX0 yX0_bestShift yX0_bestShift, Cond.code yX0_bestShift cX0_bestShift 9 (some .int), Cond.static yX3_shifted, Cond.code yX3_shifted cX3_shifted 3 (some .int), Cond.constant RX3 283 (16843009), Cond.methodLink RX0 81 yX0_canTurnTo, Cond.instanceMethod yX0_canTurnTo, Cond.selects RX0 yX0_canTurnTo yX0_canTurnTo, Cond.code yX0_canTurnTo cX0_canTurnTo 3 (some .boolean), Cond.methodLink RX0 85 yX0_greatestWearBehind, Cond.instanceMethod yX0_greatestWearBehind, Cond.selects RX0 yX0_greatestWearBehind yX0_greatestWearBehind, Cond.code yX0_greatestWearBehind cX0_greatestWearBehind 2 (some .int)]
def wsX3_go : List Cond := .code yX3_go cX3_go 4 (some .int) :: ((wsX3_go_r1 ++ (wsX3_go_r2 ++ (wsX3_go_r3 ++ wsX3_go_r4))) ++ wsX30 ++ wsX00 ++ wsX10 ++ (vx_atS RX3 55 "java/lang/IllegalArgumentException" ["java/lang/RuntimeException", "java/lang/Exception"]).filter goodWord ++ (vx_atS RX3 62 "java/lang/IllegalStateException" ["java/lang/RuntimeException", "java/lang/Exception"]).filter goodWord ++ (vx_atM "java/lang/ArrayIndexOutOfBoundsException" ["java/lang/IndexOutOfBoundsException", "java/lang/RuntimeException", "java/lang/Exception"]).filter goodWord)
def wsX3_hour : List Cond := .code yX3_hour cX3_hour 1 (some .int) :: ([.fieldLink RX3 41 "FerroDesk" "hour" "I"] ++ wsX30)
def wsX3_boards : List Cond := .code yX3_boards cX3_boards 1 (some .int) :: ([.fieldLink RX3 15 "FerroDesk" "boardCount" "I"] ++ wsX30)
def wsX3_notices : List Cond := .code yX3_notices cX3_notices 1 (some .int) :: ([.fieldLink RX3 28 "FerroDesk" "noticeCount" "I"] ++ wsX30)
def wsX3_cellAnew : List Cond := .code yX3_cellAnew cX3_cellAnew 5 (some .int) :: ([.methodLink RX3 69 yX3_boardAt, .instanceMethod yX3_boardAt, .selects RX3 yX3_boardAt yX3_boardAt, .initialized RX3, .code yX3_boardAt cX3_boardAt 2 (some (.object "FerroDesk$Board")), .classLink RX3 180 "java/lang/IndexOutOfBoundsException", .initialized "java/lang/IndexOutOfBoundsException", .fieldLink RX3 15 "FerroDesk" "boardCount" "I", .fieldLink RX3 11 "FerroDesk" "boards" "[LFerroDesk$Board;", .methodLink RX3 226 yX0_blackAnew, .instanceMethod yX0_blackAnew, .selects RX0 yX0_blackAnew yX0_blackAnew, .initialized RX0, .code yX0_blackAnew cX0_blackAnew 3 (some .int), .fieldLink RX0 48 "FerroDesk$Board" "timesChanged" "I", .fieldLink RX0 45 "FerroDesk$Board" "changed" "[I", .methodLink RX3 79 yX3_cellAt, .static yX3_cellAt, .code yX3_cellAt cX3_cellAt 2 (some .int), .methodLink RX3 83 yX3_bitOf, .static yX3_bitOf, .code yX3_bitOf cX3_bitOf 2 (some .int)] ++ wsX30 ++ wsX00 ++ (vx_atS RX3 184 "java/lang/IndexOutOfBoundsException" ["java/lang/RuntimeException", "java/lang/Exception"]).filter goodWord ++ (vx_atM "java/lang/ArrayIndexOutOfBoundsException" ["java/lang/IndexOutOfBoundsException", "java/lang/RuntimeException", "java/lang/Exception"]).filter goodWord)
def wsX3_changes : List Cond := .code yX3_changes cX3_changes 4 (some .long) :: ([.fieldLink RX3 15 "FerroDesk" "boardCount" "I", .fieldLink RX3 11 "FerroDesk" "boards" "[LFerroDesk$Board;", .methodLink RX3 230 yX0_wearOfAll, .instanceMethod yX0_wearOfAll, .selects RX0 yX0_wearOfAll yX0_wearOfAll, .initialized RX0, .code yX0_wearOfAll cX0_wearOfAll 3 (some .int), .fieldLink RX0 32 "FerroDesk$Board" "wearByCell" "[I"] ++ wsX30 ++ wsX00 ++ (vx_atM "java/lang/ArrayIndexOutOfBoundsException" ["java/lang/IndexOutOfBoundsException", "java/lang/RuntimeException", "java/lang/Exception"]).filter goodWord)
def wsX3_worst : List Cond := .code yX3_worst cX3_worst 2 (some .int) :: ([.methodLink RX3 69 yX3_boardAt, .instanceMethod yX3_boardAt, .selects RX3 yX3_boardAt yX3_boardAt, .initialized RX3, .code yX3_boardAt cX3_boardAt 2 (some (.object "FerroDesk$Board")), .classLink RX3 180 "java/lang/IndexOutOfBoundsException", .initialized "java/lang/IndexOutOfBoundsException", .fieldLink RX3 15 "FerroDesk" "boardCount" "I", .fieldLink RX3 11 "FerroDesk" "boards" "[LFerroDesk$Board;"] ++ wsX00 ++ wsX30 ++ (vx_atS RX3 184 "java/lang/IndexOutOfBoundsException" ["java/lang/RuntimeException", "java/lang/Exception"]).filter goodWord)
def wsX3_checksum : List Cond := .code yX3_checksum cX3_checksum 6 (some .long) :: ([.fieldLink RX3 15 "FerroDesk" "boardCount" "I", .fieldLink RX3 11 "FerroDesk" "boards" "[LFerroDesk$Board;", .constantLong RX3 236 (31), .methodLink RX3 83 yX3_bitOf, .static yX3_bitOf, .initialized RX3, .code yX3_bitOf cX3_bitOf 2 (some .int), .methodLink RX3 86 yX0_wearOf, .instanceMethod yX0_wearOf, .selects RX0 yX0_wearOf yX0_wearOf, .initialized RX0, .code yX0_wearOf cX0_wearOf 2 (some .int), .fieldLink RX0 32 "FerroDesk$Board" "wearByCell" "[I"] ++ wsX30 ++ wsX00 ++ (vx_atM "java/lang/ArrayIndexOutOfBoundsException" ["java/lang/IndexOutOfBoundsException", "java/lang/RuntimeException", "java/lang/Exception"]).filter goodWord)
def wsX3_shownShare : List Cond := .code yX3_shownShare cX3_shownShare 3 (some .float) :: ([.classLink RX3 238 "java/lang/ArithmeticException", .initialized "java/lang/ArithmeticException", .fieldLink RX3 15 "FerroDesk" "boardCount" "I", .fieldLink RX3 11 "FerroDesk" "boards" "[LFerroDesk$Board;"] ++ wsX30 ++ wsX00 ++ (vx_atS RX3 242 "java/lang/ArithmeticException" ["java/lang/RuntimeException", "java/lang/Exception"]).filter goodWord)
def wsX3_meanWear : List Cond := .code yX3_meanWear cX3_meanWear 1 (some .double) :: ([.classLink RX3 238 "java/lang/ArithmeticException", .initialized "java/lang/ArithmeticException", .fieldLink RX3 15 "FerroDesk" "boardCount" "I", .methodLink RX3 243 yX3_changes, .instanceMethod yX3_changes, .selects RX3 yX3_changes yX3_changes, .initialized RX3, .code yX3_changes cX3_changes 4 (some .long), .fieldLink RX3 11 "FerroDesk" "boards" "[LFerroDesk$Board;", .methodLink RX3 230 yX0_wearOfAll, .instanceMethod yX0_wearOfAll, .selects RX0 yX0_wearOfAll yX0_wearOfAll, .initialized RX0, .code yX0_wearOfAll cX0_wearOfAll 3 (some .int), .fieldLink RX0 32 "FerroDesk$Board" "wearByCell" "[I"] ++ wsX30 ++ wsX00 ++ (vx_atS RX3 242 "java/lang/ArithmeticException" ["java/lang/RuntimeException", "java/lang/Exception"]).filter goodWord ++ (vx_atM "java/lang/ArrayIndexOutOfBoundsException" ["java/lang/IndexOutOfBoundsException", "java/lang/RuntimeException", "java/lang/Exception"]).filter goodWord)
def wsX3_isSound_r1 : List Cond := [Cond.fieldLink RX3 15 "FerroDesk" "boardCount" "I", Cond.fieldLink RX3 11 "FerroDesk" "boards" "[LFerroDesk$Board;", Cond.fieldLink RX3 41 "FerroDesk" "hour" "I", Cond.methodLink RX3 185 yX1_isOf, Cond.instanceMethod yX1_isOf, Cond.selects RX1 yX1_isOf yX1_isOf, Cond.initialized RX1, Cond.code yX1_isOf cX1_isOf 2 (some .boolean), Cond.fieldLink RX1 22 "FerroDesk$Notice" "from" "I", Cond.fieldLink RX1 25 "FerroDesk$Notice" "till" "I", Cond.methodLink RX3 247 yX0_canWipe, Cond.instanceMethod yX0_canWipe, Cond.selects RX0 yX0_canWipe yX0_canWipe, Cond.initialized RX0, Cond.code yX0_canWipe cX0_canWipe 2 (some .boolean), Cond.fieldLink RX0 29 "FerroDesk$Board" "black" "I", Cond.fieldLink RX0 32 "FerroDesk$Board" "wearByCell" "[I", Cond.fieldLink RX0 15 "FerroDesk$Board" "charge" "I", Cond.static yX3_bitOf, Cond.initialized RX3, Cond.code yX3_bitOf cX3_bitOf 2 (some .int), Cond.methodLink RX0 60 yJ6_bitCount_0f7a4, Cond.static yJ6_bitCount_0f7a4, Cond.initialized RJ6]
def wsX3_isSound_r2 : List Cond := [Cond.code yJ6_bitCount_0f7a4 cJ6_bitCount_0f7a4 1 (some .int), Cond.constant RJ6 265 (1431655765), Cond.constant RJ6 266 (858993459), Cond.constant RJ6 267 (252645135), Cond.methodLink RX3 226 yX0_blackAnew, Cond.instanceMethod yX0_blackAnew, Cond.selects RX0 yX0_blackAnew yX0_blackAnew, Cond.code yX0_blackAnew cX0_blackAnew 3 (some .int), Cond.fieldLink RX0 48 "FerroDesk$Board" "timesChanged" "I", Cond.fieldLink RX0 45 "FerroDesk$Board" "changed" "[I"]
def wsX3_isSound : List Cond := .code yX3_isSound cX3_isSound 4 (some .boolean) :: ((wsX3_isSound_r1 ++ wsX3_isSound_r2) ++ wsX30 ++ wsX00 ++ wsX10 ++ (vx_atM "java/lang/ArrayIndexOutOfBoundsException" ["java/lang/IndexOutOfBoundsException", "java/lang/RuntimeException", "java/lang/Exception"]).filter goodWord)
def wsX4_init : List Cond := .code yX4_init cX4_init 1 none :: ([.methodLink RX4 1 objectInit, .instanceMethod objectInit, .code objectInit ⟨#[0xb1]⟩ 1 none, .fieldLink RX4 7 "FerroDeskModel" "light" "I", .arrayClass .int, .fieldLink RX4 13 "FerroDeskModel" "districtOf" "[I", .fieldLink RX4 17 "FerroDeskModel" "charge" "[I", .fieldLink RX4 20 "FerroDeskModel" "shown" "[I", .fieldLink RX4 23 "FerroDeskModel" "shift" "[I", .arrayClass .boolean, .fieldLink RX4 26 "FerroDeskModel" "isAsleep" "[Z", .fieldLink RX4 30 "FerroDeskModel" "isBlack" "[Z", .fieldLink RX4 33 "FerroDeskModel" "wear" "[I", .fieldLink RX4 36 "FerroDeskModel" "rank" "[I", .fieldLink RX4 39 "FerroDeskModel" "picture" "[I", .fieldLink RX4 42 "FerroDeskModel" "from" "[I", .fieldLink RX4 45 "FerroDeskModel" "till" "[I", .fieldLink RX4 48 "FerroDeskModel" "isBack" "[Z", .fieldLink RX4 51 "FerroDeskModel" "isMended" "[Z", .fieldLink RX4 54 "FerroDeskModel" "isQueued" "[Z", .fieldLink RX4 57 "FerroDeskModel" "readAt" "[I", .constant RX4 60 (80040), .fieldLink RX4 61 "FerroDeskModel" "readIn" "[I"] ++ wsX40)
def wsX4_in : List Cond := .code yX4_in cX4_in 3 (some .boolean) :: ([])
def wsX4_fails : List Cond := .code yX4_fails cX4_fails 3 (some .boolean) :: ([.fieldLink RX4 64 "FerroDeskModel" "thrown" "I"] ++ wsX40)
def wsX4_least : List Cond := .code yX4_least cX4_least 2 (some .int) :: ([])
def wsX4_most : List Cond := .code yX4_most cX4_most 2 (some .int) :: ([])
def wsX4_noBoard : List Cond := .code yX4_noBoard cX4_noBoard 2 (some .boolean) :: ([.fieldLink RX4 67 "FerroDeskModel" "boards" "I", .methodLink RX4 70 yX4_in, .static yX4_in, .initialized RX4, .code yX4_in cX4_in 3 (some .boolean)] ++ wsX40)
def wsX4_noNotice : List Cond := .code yX4_noNotice cX4_noNotice 2 (some .boolean) :: ([.fieldLink RX4 74 "FerroDeskModel" "notices" "I", .methodLink RX4 70 yX4_in, .static yX4_in, .initialized RX4, .code yX4_in cX4_in 3 (some .boolean)] ++ wsX40)
def wsX4_noDistrict : List Cond := .code yX4_noDistrict cX4_noDistrict 1 (some .boolean) :: ([.methodLink RX4 70 yX4_in, .static yX4_in, .initialized RX4, .code yX4_in cX4_in 3 (some .boolean)])
def wsX4_has : List Cond := .code yX4_has cX4_has 4 (some .boolean) :: ([])
def wsX4_blacks : List Cond := .code yX4_blacks cX4_blacks 3 (some .int) :: ([.methodLink RX4 77 yX4_has, .static yX4_has, .initialized RX4, .code yX4_has cX4_has 4 (some .boolean)])
def wsX4_addBoard : List Cond := .code yX4_addBoard cX4_addBoard 3 (some .int) :: ([.fieldLink RX4 64 "FerroDeskModel" "thrown" "I", .fieldLink RX4 67 "FerroDeskModel" "boards" "I", .fieldLink RX4 13 "FerroDeskModel" "districtOf" "[I", .fieldLink RX4 17 "FerroDeskModel" "charge" "[I", .fieldLink RX4 20 "FerroDeskModel" "shown" "[I", .methodLink RX4 80 yX4_noDistrict, .static yX4_noDistrict, .initialized RX4, .code yX4_noDistrict cX4_noDistrict 1 (some .boolean), .methodLink RX4 70 yX4_in, .static yX4_in, .code yX4_in cX4_in 3 (some .boolean), .methodLink RX4 84 yX4_fails, .instanceMethod yX4_fails, .selects RX4 yX4_fails yX4_fails, .code yX4_fails cX4_fails 3 (some .boolean)] ++ wsX40 ++ (vx_atM "java/lang/ArrayIndexOutOfBoundsException" ["java/lang/IndexOutOfBoundsException", "java/lang/RuntimeException", "java/lang/Exception"]).filter goodWord)
def wsX4_setSun : List Cond := .code yX4_setSun cX4_setSun 3 (some .int) :: ([.fieldLink RX4 64 "FerroDeskModel" "thrown" "I", .fieldLink RX4 7 "FerroDeskModel" "light" "I", .methodLink RX4 70 yX4_in, .static yX4_in, .initialized RX4, .code yX4_in cX4_in 3 (some .boolean), .methodLink RX4 84 yX4_fails, .instanceMethod yX4_fails, .selects RX4 yX4_fails yX4_fails, .code yX4_fails cX4_fails 3 (some .boolean)] ++ wsX40)
def wsX4_charge : List Cond := .code yX4_charge cX4_charge 2 (some .int) :: ([.fieldLink RX4 64 "FerroDeskModel" "thrown" "I", .fieldLink RX4 17 "FerroDeskModel" "charge" "[I", .methodLink RX4 88 yX4_noBoard, .instanceMethod yX4_noBoard, .selects RX4 yX4_noBoard yX4_noBoard, .initialized RX4, .code yX4_noBoard cX4_noBoard 2 (some .boolean), .fieldLink RX4 67 "FerroDeskModel" "boards" "I", .methodLink RX4 70 yX4_in, .static yX4_in, .code yX4_in cX4_in 3 (some .boolean), .methodLink RX4 84 yX4_fails, .instanceMethod yX4_fails, .selects RX4 yX4_fails yX4_fails, .code yX4_fails cX4_fails 3 (some .boolean)] ++ wsX40 ++ (vx_atM "java/lang/ArrayIndexOutOfBoundsException" ["java/lang/IndexOutOfBoundsException", "java/lang/RuntimeException", "java/lang/Exception"]).filter goodWord)
def wsX4_noCell : List Cond := .code yX4_noCell cX4_noCell 4 (some .boolean) :: ([.methodLink RX4 88 yX4_noBoard, .instanceMethod yX4_noBoard, .selects RX4 yX4_noBoard yX4_noBoard, .initialized RX4, .code yX4_noBoard cX4_noBoard 2 (some .boolean), .fieldLink RX4 67 "FerroDeskModel" "boards" "I", .methodLink RX4 70 yX4_in, .static yX4_in, .code yX4_in cX4_in 3 (some .boolean)] ++ wsX40)
def wsX4_cell : List Cond := .code yX4_cell cX4_cell 4 (some .int) :: ([.fieldLink RX4 64 "FerroDeskModel" "thrown" "I", .fieldLink RX4 30 "FerroDeskModel" "isBlack" "[Z", .methodLink RX4 91 yX4_noCell, .instanceMethod yX4_noCell, .selects RX4 yX4_noCell yX4_noCell, .initialized RX4, .code yX4_noCell cX4_noCell 4 (some .boolean), .methodLink RX4 88 yX4_noBoard, .instanceMethod yX4_noBoard, .selects RX4 yX4_noBoard yX4_noBoard, .code yX4_noBoard cX4_noBoard 2 (some .boolean), .fieldLink RX4 67 "FerroDeskModel" "boards" "I", .methodLink RX4 70 yX4_in, .static yX4_in, .code yX4_in cX4_in 3 (some .boolean), .methodLink RX4 84 yX4_fails, .instanceMethod yX4_fails, .selects RX4 yX4_fails yX4_fails, .code yX4_fails cX4_fails 3 (some .boolean)] ++ wsX40 ++ (vx_atM "java/lang/ArrayIndexOutOfBoundsException" ["java/lang/IndexOutOfBoundsException", "java/lang/RuntimeException", "java/lang/Exception"]).filter goodWord)
def wsX4_wear : List Cond := .code yX4_wear cX4_wear 4 (some .int) :: ([.fieldLink RX4 64 "FerroDeskModel" "thrown" "I", .fieldLink RX4 33 "FerroDeskModel" "wear" "[I", .methodLink RX4 91 yX4_noCell, .instanceMethod yX4_noCell, .selects RX4 yX4_noCell yX4_noCell, .initialized RX4, .code yX4_noCell cX4_noCell 4 (some .boolean), .methodLink RX4 88 yX4_noBoard, .instanceMethod yX4_noBoard, .selects RX4 yX4_noBoard yX4_noBoard, .code yX4_noBoard cX4_noBoard 2 (some .boolean), .fieldLink RX4 67 "FerroDeskModel" "boards" "I", .methodLink RX4 70 yX4_in, .static yX4_in, .code yX4_in cX4_in 3 (some .boolean), .methodLink RX4 84 yX4_fails, .instanceMethod yX4_fails, .selects RX4 yX4_fails yX4_fails, .code yX4_fails cX4_fails 3 (some .boolean)] ++ wsX40 ++ (vx_atM "java/lang/ArrayIndexOutOfBoundsException" ["java/lang/IndexOutOfBoundsException", "java/lang/RuntimeException", "java/lang/Exception"]).filter goodWord)
def wsX4_shows : List Cond := .code yX4_shows cX4_shows 2 (some .int) :: ([.fieldLink RX4 64 "FerroDeskModel" "thrown" "I", .fieldLink RX4 20 "FerroDeskModel" "shown" "[I", .methodLink RX4 88 yX4_noBoard, .instanceMethod yX4_noBoard, .selects RX4 yX4_noBoard yX4_noBoard, .initialized RX4, .code yX4_noBoard cX4_noBoard 2 (some .boolean), .fieldLink RX4 67 "FerroDeskModel" "boards" "I", .methodLink RX4 70 yX4_in, .static yX4_in, .code yX4_in cX4_in 3 (some .boolean), .methodLink RX4 84 yX4_fails, .instanceMethod yX4_fails, .selects RX4 yX4_fails yX4_fails, .code yX4_fails cX4_fails 3 (some .boolean)] ++ wsX40 ++ (vx_atM "java/lang/ArrayIndexOutOfBoundsException" ["java/lang/IndexOutOfBoundsException", "java/lang/RuntimeException", "java/lang/Exception"]).filter goodWord)
def wsX4_shift : List Cond := .code yX4_shift cX4_shift 2 (some .int) :: ([.fieldLink RX4 64 "FerroDeskModel" "thrown" "I", .fieldLink RX4 23 "FerroDeskModel" "shift" "[I", .methodLink RX4 88 yX4_noBoard, .instanceMethod yX4_noBoard, .selects RX4 yX4_noBoard yX4_noBoard, .initialized RX4, .code yX4_noBoard cX4_noBoard 2 (some .boolean), .fieldLink RX4 67 "FerroDeskModel" "boards" "I", .methodLink RX4 70 yX4_in, .static yX4_in, .code yX4_in cX4_in 3 (some .boolean), .methodLink RX4 84 yX4_fails, .instanceMethod yX4_fails, .selects RX4 yX4_fails yX4_fails, .code yX4_fails cX4_fails 3 (some .boolean)] ++ wsX40 ++ (vx_atM "java/lang/ArrayIndexOutOfBoundsException" ["java/lang/IndexOutOfBoundsException", "java/lang/RuntimeException", "java/lang/Exception"]).filter goodWord)
def wsX4_sleeps : List Cond := .code yX4_sleeps cX4_sleeps 2 (some .boolean) :: ([.fieldLink RX4 64 "FerroDeskModel" "thrown" "I", .fieldLink RX4 26 "FerroDeskModel" "isAsleep" "[Z", .methodLink RX4 88 yX4_noBoard, .instanceMethod yX4_noBoard, .selects RX4 yX4_noBoard yX4_noBoard, .initialized RX4, .code yX4_noBoard cX4_noBoard 2 (some .boolean), .fieldLink RX4 67 "FerroDeskModel" "boards" "I", .methodLink RX4 70 yX4_in, .static yX4_in, .code yX4_in cX4_in 3 (some .boolean), .methodLink RX4 84 yX4_fails, .instanceMethod yX4_fails, .selects RX4 yX4_fails yX4_fails, .code yX4_fails cX4_fails 3 (some .boolean)] ++ wsX40 ++ (vx_atM "java/lang/ArrayIndexOutOfBoundsException" ["java/lang/IndexOutOfBoundsException", "java/lang/RuntimeException", "java/lang/Exception"]).filter goodWord)
def wsX4_add : List Cond := .code yX4_add cX4_add 5 (some .int) :: ([.fieldLink RX4 36 "FerroDeskModel" "rank" "[I", .fieldLink RX4 74 "FerroDeskModel" "notices" "I", .fieldLink RX4 39 "FerroDeskModel" "picture" "[I", .fieldLink RX4 42 "FerroDeskModel" "from" "[I", .fieldLink RX4 45 "FerroDeskModel" "till" "[I"] ++ wsX40 ++ (vx_atM "java/lang/ArrayIndexOutOfBoundsException" ["java/lang/IndexOutOfBoundsException", "java/lang/RuntimeException", "java/lang/Exception"]).filter goodWord)
def wsX4_post : List Cond := .code yX4_post cX4_post 6 (some .int) :: ([.fieldLink RX4 64 "FerroDeskModel" "thrown" "I", .fieldLink RX4 74 "FerroDeskModel" "notices" "I", .methodLink RX4 70 yX4_in, .static yX4_in, .initialized RX4, .code yX4_in cX4_in 3 (some .boolean), .methodLink RX4 84 yX4_fails, .instanceMethod yX4_fails, .selects RX4 yX4_fails yX4_fails, .code yX4_fails cX4_fails 3 (some .boolean), .methodLink RX4 94 yX4_add, .instanceMethod yX4_add, .selects RX4 yX4_add yX4_add, .code yX4_add cX4_add 5 (some .int), .fieldLink RX4 36 "FerroDeskModel" "rank" "[I", .fieldLink RX4 39 "FerroDeskModel" "picture" "[I", .fieldLink RX4 42 "FerroDeskModel" "from" "[I", .fieldLink RX4 45 "FerroDeskModel" "till" "[I"] ++ wsX40 ++ (vx_atM "java/lang/ArrayIndexOutOfBoundsException" ["java/lang/IndexOutOfBoundsException", "java/lang/RuntimeException", "java/lang/Exception"]).filter goodWord)
def wsX4_queue : List Cond := .code yX4_queue cX4_queue 4 (some .boolean) :: ([.fieldLink RX4 64 "FerroDeskModel" "thrown" "I", .fieldLink RX4 48 "FerroDeskModel" "isBack" "[Z", .fieldLink RX4 51 "FerroDeskModel" "isMended" "[Z", .fieldLink RX4 54 "FerroDeskModel" "isQueued" "[Z", .methodLink RX4 98 yX4_noNotice, .instanceMethod yX4_noNotice, .selects RX4 yX4_noNotice yX4_noNotice, .initialized RX4, .code yX4_noNotice cX4_noNotice 2 (some .boolean), .fieldLink RX4 74 "FerroDeskModel" "notices" "I", .methodLink RX4 70 yX4_in, .static yX4_in, .code yX4_in cX4_in 3 (some .boolean), .methodLink RX4 84 yX4_fails, .instanceMethod yX4_fails, .selects RX4 yX4_fails yX4_fails, .code yX4_fails cX4_fails 3 (some .boolean), .methodLink RX4 80 yX4_noDistrict, .static yX4_noDistrict, .code yX4_noDistrict cX4_noDistrict 1 (some .boolean)] ++ wsX40 ++ (vx_atM "java/lang/ArrayIndexOutOfBoundsException" ["java/lang/IndexOutOfBoundsException", "java/lang/RuntimeException", "java/lang/Exception"]).filter goodWord)
def wsX4_takeBack : List Cond := .code yX4_takeBack cX4_takeBack 5 (some .int) :: ([.fieldLink RX4 64 "FerroDeskModel" "thrown" "I", .fieldLink RX4 101 "FerroDeskModel" "hour" "I", .fieldLink RX4 45 "FerroDeskModel" "till" "[I", .fieldLink RX4 51 "FerroDeskModel" "isMended" "[Z", .fieldLink RX4 48 "FerroDeskModel" "isBack" "[Z", .fieldLink RX4 67 "FerroDeskModel" "boards" "I", .fieldLink RX4 20 "FerroDeskModel" "shown" "[I", .methodLink RX4 98 yX4_noNotice, .instanceMethod yX4_noNotice, .selects RX4 yX4_noNotice yX4_noNotice, .initialized RX4, .code yX4_noNotice cX4_noNotice 2 (some .boolean), .fieldLink RX4 74 "FerroDeskModel" "notices" "I", .methodLink RX4 70 yX4_in, .static yX4_in, .code yX4_in cX4_in 3 (some .boolean), .methodLink RX4 84 yX4_fails, .instanceMethod yX4_fails, .selects RX4 yX4_fails yX4_fails, .code yX4_fails cX4_fails 3 (some .boolean)] ++ wsX40 ++ (vx_atM "java/lang/ArrayIndexOutOfBoundsException" ["java/lang/IndexOutOfBoundsException", "java/lang/RuntimeException", "java/lang/Exception"]).filter goodWord)
def wsX4_readersOf : List Cond := .code yX4_readersOf cX4_readersOf 5 (some .int) :: ([.fieldLink RX4 67 "FerroDeskModel" "boards" "I", .fieldLink RX4 13 "FerroDeskModel" "districtOf" "[I", .fieldLink RX4 57 "FerroDeskModel" "readAt" "[I"] ++ wsX40 ++ (vx_atM "java/lang/ArrayIndexOutOfBoundsException" ["java/lang/IndexOutOfBoundsException", "java/lang/RuntimeException", "java/lang/Exception"]).filter goodWord)
def wsX4_mend_r1 : List Cond := [Cond.fieldLink RX4 64 "FerroDeskModel" "thrown" "I", Cond.fieldLink RX4 39 "FerroDeskModel" "picture" "[I", Cond.fieldLink RX4 51 "FerroDeskModel" "isMended" "[Z", Cond.fieldLink RX4 101 "FerroDeskModel" "hour" "I", Cond.fieldLink RX4 45 "FerroDeskModel" "till" "[I", Cond.fieldLink RX4 74 "FerroDeskModel" "notices" "I", Cond.fieldLink RX4 36 "FerroDeskModel" "rank" "[I", Cond.fieldLink RX4 42 "FerroDeskModel" "from" "[I", Cond.fieldLink RX4 54 "FerroDeskModel" "isQueued" "[Z", Cond.methodLink RX4 98 yX4_noNotice, Cond.instanceMethod yX4_noNotice, Cond.selects RX4 yX4_noNotice yX4_noNotice, Cond.initialized RX4, Cond.code yX4_noNotice cX4_noNotice 2 (some .boolean), Cond.methodLink RX4 70 yX4_in, Cond.static yX4_in, Cond.code yX4_in cX4_in 3 (some .boolean), Cond.methodLink RX4 84 yX4_fails, Cond.instanceMethod yX4_fails, Cond.selects RX4 yX4_fails yX4_fails, Cond.code yX4_fails cX4_fails 3 (some .boolean), Cond.methodLink RX4 104 yX4_least, Cond.static yX4_least, Cond.code yX4_least cX4_least 2 (some .int)]
def wsX4_mend_r2 : List Cond := [Cond.methodLink RX4 108 yX4_most, Cond.static yX4_most, Cond.code yX4_most cX4_most 2 (some .int), Cond.methodLink RX4 94 yX4_add, Cond.instanceMethod yX4_add, Cond.selects RX4 yX4_add yX4_add, Cond.code yX4_add cX4_add 5 (some .int), Cond.methodLink RX4 111 yX4_readersOf, Cond.instanceMethod yX4_readersOf, Cond.selects RX4 yX4_readersOf yX4_readersOf, Cond.code yX4_readersOf cX4_readersOf 5 (some .int), Cond.fieldLink RX4 67 "FerroDeskModel" "boards" "I", Cond.fieldLink RX4 13 "FerroDeskModel" "districtOf" "[I", Cond.fieldLink RX4 57 "FerroDeskModel" "readAt" "[I"]
def wsX4_mend : List Cond := .code yX4_mend cX4_mend 5 (some .int) :: ((wsX4_mend_r1 ++ wsX4_mend_r2) ++ wsX40 ++ (vx_atM "java/lang/ArrayIndexOutOfBoundsException" ["java/lang/IndexOutOfBoundsException", "java/lang/RuntimeException", "java/lang/Exception"]).filter goodWord)
def wsX4_deny : List Cond := .code yX4_deny cX4_deny 6 (some .int) :: ([.fieldLink RX4 64 "FerroDeskModel" "thrown" "I", .fieldLink RX4 101 "FerroDeskModel" "hour" "I", .fieldLink RX4 74 "FerroDeskModel" "notices" "I", .fieldLink RX4 54 "FerroDeskModel" "isQueued" "[Z", .methodLink RX4 80 yX4_noDistrict, .static yX4_noDistrict, .initialized RX4, .code yX4_noDistrict cX4_noDistrict 1 (some .boolean), .methodLink RX4 70 yX4_in, .static yX4_in, .code yX4_in cX4_in 3 (some .boolean), .methodLink RX4 84 yX4_fails, .instanceMethod yX4_fails, .selects RX4 yX4_fails yX4_fails, .code yX4_fails cX4_fails 3 (some .boolean), .methodLink RX4 94 yX4_add, .instanceMethod yX4_add, .selects RX4 yX4_add yX4_add, .code yX4_add cX4_add 5 (some .int), .fieldLink RX4 36 "FerroDeskModel" "rank" "[I", .fieldLink RX4 39 "FerroDeskModel" "picture" "[I", .fieldLink RX4 42 "FerroDeskModel" "from" "[I", .fieldLink RX4 45 "FerroDeskModel" "till" "[I"] ++ wsX40 ++ (vx_atM "java/lang/ArrayIndexOutOfBoundsException" ["java/lang/IndexOutOfBoundsException", "java/lang/RuntimeException", "java/lang/Exception"]).filter goodWord)
def wsX4_isIn : List Cond := .code yX4_isIn cX4_isIn 3 (some .boolean) :: ([.fieldLink RX4 54 "FerroDeskModel" "isQueued" "[Z", .fieldLink RX4 101 "FerroDeskModel" "hour" "I", .fieldLink RX4 45 "FerroDeskModel" "till" "[I"] ++ wsX40 ++ (vx_atM "java/lang/ArrayIndexOutOfBoundsException" ["java/lang/IndexOutOfBoundsException", "java/lang/RuntimeException", "java/lang/Exception"]).filter goodWord)
def wsX4_inQueue : List Cond := .code yX4_inQueue cX4_inQueue 6 (some .int) :: ([.fieldLink RX4 74 "FerroDeskModel" "notices" "I", .fieldLink RX4 36 "FerroDeskModel" "rank" "[I", .methodLink RX4 114 yX4_isIn, .instanceMethod yX4_isIn, .selects RX4 yX4_isIn yX4_isIn, .initialized RX4, .code yX4_isIn cX4_isIn 3 (some .boolean), .fieldLink RX4 54 "FerroDeskModel" "isQueued" "[Z", .fieldLink RX4 101 "FerroDeskModel" "hour" "I", .fieldLink RX4 45 "FerroDeskModel" "till" "[I"] ++ wsX40 ++ (vx_atM "java/lang/ArrayIndexOutOfBoundsException" ["java/lang/IndexOutOfBoundsException", "java/lang/RuntimeException", "java/lang/Exception"]).filter goodWord)
def wsX4_manyQueued : List Cond := .code yX4_manyQueued cX4_manyQueued 4 (some .int) :: ([.fieldLink RX4 74 "FerroDeskModel" "notices" "I", .methodLink RX4 114 yX4_isIn, .instanceMethod yX4_isIn, .selects RX4 yX4_isIn yX4_isIn, .initialized RX4, .code yX4_isIn cX4_isIn 3 (some .boolean), .fieldLink RX4 54 "FerroDeskModel" "isQueued" "[Z", .fieldLink RX4 101 "FerroDeskModel" "hour" "I", .fieldLink RX4 45 "FerroDeskModel" "till" "[I"] ++ wsX40 ++ (vx_atM "java/lang/ArrayIndexOutOfBoundsException" ["java/lang/IndexOutOfBoundsException", "java/lang/RuntimeException", "java/lang/Exception"]).filter goodWord)
def wsX4_queued : List Cond := .code yX4_queued cX4_queued 2 (some .int) :: ([.fieldLink RX4 64 "FerroDeskModel" "thrown" "I", .methodLink RX4 80 yX4_noDistrict, .static yX4_noDistrict, .initialized RX4, .code yX4_noDistrict cX4_noDistrict 1 (some .boolean), .methodLink RX4 70 yX4_in, .static yX4_in, .code yX4_in cX4_in 3 (some .boolean), .methodLink RX4 84 yX4_fails, .instanceMethod yX4_fails, .selects RX4 yX4_fails yX4_fails, .code yX4_fails cX4_fails 3 (some .boolean), .methodLink RX4 118 yX4_manyQueued, .instanceMethod yX4_manyQueued, .selects RX4 yX4_manyQueued yX4_manyQueued, .code yX4_manyQueued cX4_manyQueued 4 (some .int), .fieldLink RX4 74 "FerroDeskModel" "notices" "I", .methodLink RX4 114 yX4_isIn, .instanceMethod yX4_isIn, .selects RX4 yX4_isIn yX4_isIn, .code yX4_isIn cX4_isIn 3 (some .boolean), .fieldLink RX4 54 "FerroDeskModel" "isQueued" "[Z", .fieldLink RX4 101 "FerroDeskModel" "hour" "I", .fieldLink RX4 45 "FerroDeskModel" "till" "[I"] ++ wsX40 ++ (vx_atM "java/lang/ArrayIndexOutOfBoundsException" ["java/lang/IndexOutOfBoundsException", "java/lang/RuntimeException", "java/lang/Exception"]).filter goodWord)
def wsX4_queuedAt_r1 : List Cond := [Cond.fieldLink RX4 64 "FerroDeskModel" "thrown" "I", Cond.methodLink RX4 80 yX4_noDistrict, Cond.static yX4_noDistrict, Cond.initialized RX4, Cond.code yX4_noDistrict cX4_noDistrict 1 (some .boolean), Cond.methodLink RX4 70 yX4_in, Cond.static yX4_in, Cond.code yX4_in cX4_in 3 (some .boolean), Cond.methodLink RX4 84 yX4_fails, Cond.instanceMethod yX4_fails, Cond.selects RX4 yX4_fails yX4_fails, Cond.code yX4_fails cX4_fails 3 (some .boolean), Cond.methodLink RX4 118 yX4_manyQueued, Cond.instanceMethod yX4_manyQueued, Cond.selects RX4 yX4_manyQueued yX4_manyQueued, Cond.code yX4_manyQueued cX4_manyQueued 4 (some .int), Cond.fieldLink RX4 74 "FerroDeskModel" "notices" "I", Cond.methodLink RX4 114 yX4_isIn, Cond.instanceMethod yX4_isIn, Cond.selects RX4 yX4_isIn yX4_isIn, Cond.code yX4_isIn cX4_isIn 3 (some .boolean), Cond.fieldLink RX4 54 "FerroDeskModel" "isQueued" "[Z", Cond.fieldLink RX4 101 "FerroDeskModel" "hour" "I", Cond.fieldLink RX4 45 "FerroDeskModel" "till" "[I"]
def wsX4_queuedAt_r2 : List Cond := [Cond.methodLink RX4 122 yX4_inQueue, Cond.instanceMethod yX4_inQueue, Cond.selects RX4 yX4_inQueue yX4_inQueue, Cond.code yX4_inQueue cX4_inQueue 6 (some .int), Cond.fieldLink RX4 36 "FerroDeskModel" "rank" "[I"]
def wsX4_queuedAt : List Cond := .code yX4_queuedAt cX4_queuedAt 3 (some .int) :: ((wsX4_queuedAt_r1 ++ wsX4_queuedAt_r2) ++ wsX40 ++ (vx_atM "java/lang/ArrayIndexOutOfBoundsException" ["java/lang/IndexOutOfBoundsException", "java/lang/RuntimeException", "java/lang/Exception"]).filter goodWord)
def wsX4_dueNow : List Cond := .code yX4_dueNow cX4_dueNow 2 (some .boolean) :: ([.fieldLink RX4 101 "FerroDeskModel" "hour" "I", .fieldLink RX4 42 "FerroDeskModel" "from" "[I", .fieldLink RX4 45 "FerroDeskModel" "till" "[I"] ++ wsX40 ++ (vx_atM "java/lang/ArrayIndexOutOfBoundsException" ["java/lang/IndexOutOfBoundsException", "java/lang/RuntimeException", "java/lang/Exception"]).filter goodWord)
def wsX4_isDue : List Cond := .code yX4_isDue cX4_isDue 2 (some .boolean) :: ([.fieldLink RX4 64 "FerroDeskModel" "thrown" "I", .methodLink RX4 98 yX4_noNotice, .instanceMethod yX4_noNotice, .selects RX4 yX4_noNotice yX4_noNotice, .initialized RX4, .code yX4_noNotice cX4_noNotice 2 (some .boolean), .fieldLink RX4 74 "FerroDeskModel" "notices" "I", .methodLink RX4 70 yX4_in, .static yX4_in, .code yX4_in cX4_in 3 (some .boolean), .methodLink RX4 84 yX4_fails, .instanceMethod yX4_fails, .selects RX4 yX4_fails yX4_fails, .code yX4_fails cX4_fails 3 (some .boolean), .methodLink RX4 125 yX4_dueNow, .instanceMethod yX4_dueNow, .selects RX4 yX4_dueNow yX4_dueNow, .code yX4_dueNow cX4_dueNow 2 (some .boolean), .fieldLink RX4 101 "FerroDeskModel" "hour" "I", .fieldLink RX4 42 "FerroDeskModel" "from" "[I", .fieldLink RX4 45 "FerroDeskModel" "till" "[I"] ++ wsX40 ++ (vx_atM "java/lang/ArrayIndexOutOfBoundsException" ["java/lang/IndexOutOfBoundsException", "java/lang/RuntimeException", "java/lang/Exception"]).filter goodWord)
def wsX4_pass : List Cond := .code yX4_pass cX4_pass 4 (some .int) :: ([.fieldLink RX4 64 "FerroDeskModel" "thrown" "I", .fieldLink RX4 20 "FerroDeskModel" "shown" "[I", .fieldLink RX4 57 "FerroDeskModel" "readAt" "[I", .fieldLink RX4 61 "FerroDeskModel" "readIn" "[I", .fieldLink RX4 101 "FerroDeskModel" "hour" "I", .methodLink RX4 88 yX4_noBoard, .instanceMethod yX4_noBoard, .selects RX4 yX4_noBoard yX4_noBoard, .initialized RX4, .code yX4_noBoard cX4_noBoard 2 (some .boolean), .fieldLink RX4 67 "FerroDeskModel" "boards" "I", .methodLink RX4 70 yX4_in, .static yX4_in, .code yX4_in cX4_in 3 (some .boolean), .methodLink RX4 84 yX4_fails, .instanceMethod yX4_fails, .selects RX4 yX4_fails yX4_fails, .code yX4_fails cX4_fails 3 (some .boolean)] ++ wsX40 ++ (vx_atM "java/lang/ArrayIndexOutOfBoundsException" ["java/lang/IndexOutOfBoundsException", "java/lang/RuntimeException", "java/lang/Exception"]).filter goodWord)
def wsX4_readers : List Cond := .code yX4_readers cX4_readers 3 (some .int) :: ([.fieldLink RX4 64 "FerroDeskModel" "thrown" "I", .methodLink RX4 98 yX4_noNotice, .instanceMethod yX4_noNotice, .selects RX4 yX4_noNotice yX4_noNotice, .initialized RX4, .code yX4_noNotice cX4_noNotice 2 (some .boolean), .fieldLink RX4 74 "FerroDeskModel" "notices" "I", .methodLink RX4 70 yX4_in, .static yX4_in, .code yX4_in cX4_in 3 (some .boolean), .methodLink RX4 84 yX4_fails, .instanceMethod yX4_fails, .selects RX4 yX4_fails yX4_fails, .code yX4_fails cX4_fails 3 (some .boolean), .methodLink RX4 80 yX4_noDistrict, .static yX4_noDistrict, .code yX4_noDistrict cX4_noDistrict 1 (some .boolean), .methodLink RX4 111 yX4_readersOf, .instanceMethod yX4_readersOf, .selects RX4 yX4_readersOf yX4_readersOf, .code yX4_readersOf cX4_readersOf 5 (some .int), .fieldLink RX4 67 "FerroDeskModel" "boards" "I", .fieldLink RX4 13 "FerroDeskModel" "districtOf" "[I", .fieldLink RX4 57 "FerroDeskModel" "readAt" "[I"] ++ wsX40 ++ (vx_atM "java/lang/ArrayIndexOutOfBoundsException" ["java/lang/IndexOutOfBoundsException", "java/lang/RuntimeException", "java/lang/Exception"]).filter goodWord)
def wsX4_readIn : List Cond := .code yX4_readIn cX4_readIn 3 (some .int) :: ([.fieldLink RX4 64 "FerroDeskModel" "thrown" "I", .fieldLink RX4 61 "FerroDeskModel" "readIn" "[I", .methodLink RX4 98 yX4_noNotice, .instanceMethod yX4_noNotice, .selects RX4 yX4_noNotice yX4_noNotice, .initialized RX4, .code yX4_noNotice cX4_noNotice 2 (some .boolean), .fieldLink RX4 74 "FerroDeskModel" "notices" "I", .methodLink RX4 70 yX4_in, .static yX4_in, .code yX4_in cX4_in 3 (some .boolean), .methodLink RX4 84 yX4_fails, .instanceMethod yX4_fails, .selects RX4 yX4_fails yX4_fails, .code yX4_fails cX4_fails 3 (some .boolean)] ++ wsX40 ++ (vx_atM "java/lang/ArrayIndexOutOfBoundsException" ["java/lang/IndexOutOfBoundsException", "java/lang/RuntimeException", "java/lang/Exception"]).filter goodWord)
def wsX4_canHaveMade : List Cond := .code yX4_canHaveMade cX4_canHaveMade 8 (some .boolean) :: ([.fieldLink RX4 39 "FerroDeskModel" "picture" "[I", .methodLink RX4 77 yX4_has, .static yX4_has, .initialized RX4, .code yX4_has cX4_has 4 (some .boolean), .methodLink RX4 111 yX4_readersOf, .instanceMethod yX4_readersOf, .selects RX4 yX4_readersOf yX4_readersOf, .code yX4_readersOf cX4_readersOf 5 (some .int), .fieldLink RX4 67 "FerroDeskModel" "boards" "I", .fieldLink RX4 13 "FerroDeskModel" "districtOf" "[I", .fieldLink RX4 57 "FerroDeskModel" "readAt" "[I"] ++ wsX40 ++ (vx_atM "java/lang/ArrayIndexOutOfBoundsException" ["java/lang/IndexOutOfBoundsException", "java/lang/RuntimeException", "java/lang/Exception"]).filter goodWord)
def wsX4_manySuspects : List Cond := .code yX4_manySuspects cX4_manySuspects 5 (some .int) :: ([.fieldLink RX4 74 "FerroDeskModel" "notices" "I", .methodLink RX4 128 yX4_canHaveMade, .instanceMethod yX4_canHaveMade, .selects RX4 yX4_canHaveMade yX4_canHaveMade, .initialized RX4, .code yX4_canHaveMade cX4_canHaveMade 8 (some .boolean), .fieldLink RX4 39 "FerroDeskModel" "picture" "[I", .methodLink RX4 77 yX4_has, .static yX4_has, .code yX4_has cX4_has 4 (some .boolean), .methodLink RX4 111 yX4_readersOf, .instanceMethod yX4_readersOf, .selects RX4 yX4_readersOf yX4_readersOf, .code yX4_readersOf cX4_readersOf 5 (some .int), .fieldLink RX4 67 "FerroDeskModel" "boards" "I", .fieldLink RX4 13 "FerroDeskModel" "districtOf" "[I", .fieldLink RX4 57 "FerroDeskModel" "readAt" "[I"] ++ wsX40 ++ (vx_atM "java/lang/ArrayIndexOutOfBoundsException" ["java/lang/IndexOutOfBoundsException", "java/lang/RuntimeException", "java/lang/Exception"]).filter goodWord)
def wsX4_suspects_r1 : List Cond := [Cond.fieldLink RX4 64 "FerroDeskModel" "thrown" "I", Cond.methodLink RX4 80 yX4_noDistrict, Cond.static yX4_noDistrict, Cond.initialized RX4, Cond.code yX4_noDistrict cX4_noDistrict 1 (some .boolean), Cond.methodLink RX4 70 yX4_in, Cond.static yX4_in, Cond.code yX4_in cX4_in 3 (some .boolean), Cond.methodLink RX4 84 yX4_fails, Cond.instanceMethod yX4_fails, Cond.selects RX4 yX4_fails yX4_fails, Cond.code yX4_fails cX4_fails 3 (some .boolean), Cond.methodLink RX4 131 yX4_manySuspects, Cond.instanceMethod yX4_manySuspects, Cond.selects RX4 yX4_manySuspects yX4_manySuspects, Cond.code yX4_manySuspects cX4_manySuspects 5 (some .int), Cond.fieldLink RX4 74 "FerroDeskModel" "notices" "I", Cond.methodLink RX4 128 yX4_canHaveMade, Cond.instanceMethod yX4_canHaveMade, Cond.selects RX4 yX4_canHaveMade yX4_canHaveMade, Cond.code yX4_canHaveMade cX4_canHaveMade 8 (some .boolean), Cond.fieldLink RX4 39 "FerroDeskModel" "picture" "[I", Cond.methodLink RX4 77 yX4_has, Cond.static yX4_has]
def wsX4_suspects_r2 : List Cond := [Cond.code yX4_has cX4_has 4 (some .boolean), Cond.methodLink RX4 111 yX4_readersOf, Cond.instanceMethod yX4_readersOf, Cond.selects RX4 yX4_readersOf yX4_readersOf, Cond.code yX4_readersOf cX4_readersOf 5 (some .int), Cond.fieldLink RX4 67 "FerroDeskModel" "boards" "I", Cond.fieldLink RX4 13 "FerroDeskModel" "districtOf" "[I", Cond.fieldLink RX4 57 "FerroDeskModel" "readAt" "[I"]
def wsX4_suspects : List Cond := .code yX4_suspects cX4_suspects 3 (some .int) :: ((wsX4_suspects_r1 ++ wsX4_suspects_r2) ++ wsX40 ++ (vx_atM "java/lang/ArrayIndexOutOfBoundsException" ["java/lang/IndexOutOfBoundsException", "java/lang/RuntimeException", "java/lang/Exception"]).filter goodWord)
def wsX4_suspectAt_r1 : List Cond := [Cond.fieldLink RX4 64 "FerroDeskModel" "thrown" "I", Cond.fieldLink RX4 74 "FerroDeskModel" "notices" "I", Cond.methodLink RX4 80 yX4_noDistrict, Cond.static yX4_noDistrict, Cond.initialized RX4, Cond.code yX4_noDistrict cX4_noDistrict 1 (some .boolean), Cond.methodLink RX4 70 yX4_in, Cond.static yX4_in, Cond.code yX4_in cX4_in 3 (some .boolean), Cond.methodLink RX4 84 yX4_fails, Cond.instanceMethod yX4_fails, Cond.selects RX4 yX4_fails yX4_fails, Cond.code yX4_fails cX4_fails 3 (some .boolean), Cond.methodLink RX4 131 yX4_manySuspects, Cond.instanceMethod yX4_manySuspects, Cond.selects RX4 yX4_manySuspects yX4_manySuspects, Cond.code yX4_manySuspects cX4_manySuspects 5 (some .int), Cond.methodLink RX4 128 yX4_canHaveMade, Cond.instanceMethod yX4_canHaveMade, Cond.selects RX4 yX4_canHaveMade yX4_canHaveMade, Cond.code yX4_canHaveMade cX4_canHaveMade 8 (some .boolean), Cond.fieldLink RX4 39 "FerroDeskModel" "picture" "[I", Cond.methodLink RX4 77 yX4_has, Cond.static yX4_has]
def wsX4_suspectAt_r2 : List Cond := [Cond.code yX4_has cX4_has 4 (some .boolean), Cond.methodLink RX4 111 yX4_readersOf, Cond.instanceMethod yX4_readersOf, Cond.selects RX4 yX4_readersOf yX4_readersOf, Cond.code yX4_readersOf cX4_readersOf 5 (some .int), Cond.fieldLink RX4 67 "FerroDeskModel" "boards" "I", Cond.fieldLink RX4 13 "FerroDeskModel" "districtOf" "[I", Cond.fieldLink RX4 57 "FerroDeskModel" "readAt" "[I"]
def wsX4_suspectAt : List Cond := .code yX4_suspectAt cX4_suspectAt 9 (some .int) :: ((wsX4_suspectAt_r1 ++ wsX4_suspectAt_r2) ++ wsX40 ++ (vx_atM "java/lang/ArrayIndexOutOfBoundsException" ["java/lang/IndexOutOfBoundsException", "java/lang/RuntimeException", "java/lang/Exception"]).filter goodWord)
def wsX4_change : List Cond := .code yX4_change cX4_change 2 none :: ([.fieldLink RX4 30 "FerroDeskModel" "isBlack" "[Z", .fieldLink RX4 33 "FerroDeskModel" "wear" "[I", .fieldLink RX4 134 "FerroDeskModel" "changes" "J"] ++ wsX40 ++ (vx_atM "java/lang/ArrayIndexOutOfBoundsException" ["java/lang/IndexOutOfBoundsException", "java/lang/RuntimeException", "java/lang/Exception"]).filter goodWord)
def wsX4_wipe : List Cond := .code yX4_wipe cX4_wipe 3 none :: ([.fieldLink RX4 30 "FerroDeskModel" "isBlack" "[Z", .fieldLink RX4 17 "FerroDeskModel" "charge" "[I", .fieldLink RX4 20 "FerroDeskModel" "shown" "[I", .fieldLink RX4 23 "FerroDeskModel" "shift" "[I", .methodLink RX4 138 yX4_change, .instanceMethod yX4_change, .selects RX4 yX4_change yX4_change, .initialized RX4, .code yX4_change cX4_change 2 none, .fieldLink RX4 33 "FerroDeskModel" "wear" "[I", .fieldLink RX4 134 "FerroDeskModel" "changes" "J"] ++ wsX40 ++ (vx_atM "java/lang/ArrayIndexOutOfBoundsException" ["java/lang/IndexOutOfBoundsException", "java/lang/RuntimeException", "java/lang/Exception"]).filter goodWord)
def wsX4_differs : List Cond := .code yX4_differs cX4_differs 5 (some .boolean) :: ([.fieldLink RX4 30 "FerroDeskModel" "isBlack" "[Z", .methodLink RX4 77 yX4_has, .static yX4_has, .initialized RX4, .code yX4_has cX4_has 4 (some .boolean)] ++ wsX40 ++ (vx_atM "java/lang/ArrayIndexOutOfBoundsException" ["java/lang/IndexOutOfBoundsException", "java/lang/RuntimeException", "java/lang/Exception"]).filter goodWord)
def wsX4_costs : List Cond := .code yX4_costs cX4_costs 6 (some .int) :: ([.methodLink RX4 142 yX4_differs, .instanceMethod yX4_differs, .selects RX4 yX4_differs yX4_differs, .initialized RX4, .code yX4_differs cX4_differs 5 (some .boolean), .fieldLink RX4 30 "FerroDeskModel" "isBlack" "[Z", .methodLink RX4 77 yX4_has, .static yX4_has, .code yX4_has cX4_has 4 (some .boolean)] ++ wsX40 ++ (vx_atM "java/lang/ArrayIndexOutOfBoundsException" ["java/lang/IndexOutOfBoundsException", "java/lang/RuntimeException", "java/lang/Exception"]).filter goodWord)
def wsX4_worstBehind : List Cond := .code yX4_worstBehind cX4_worstBehind 6 (some .int) :: ([.fieldLink RX4 33 "FerroDeskModel" "wear" "[I", .methodLink RX4 142 yX4_differs, .instanceMethod yX4_differs, .selects RX4 yX4_differs yX4_differs, .initialized RX4, .code yX4_differs cX4_differs 5 (some .boolean), .fieldLink RX4 30 "FerroDeskModel" "isBlack" "[Z", .methodLink RX4 77 yX4_has, .static yX4_has, .code yX4_has cX4_has 4 (some .boolean), .methodLink RX4 108 yX4_most, .static yX4_most, .code yX4_most cX4_most 2 (some .int)] ++ wsX40 ++ (vx_atM "java/lang/ArrayIndexOutOfBoundsException" ["java/lang/IndexOutOfBoundsException", "java/lang/RuntimeException", "java/lang/Exception"]).filter goodWord)
def wsX4_can : List Cond := .code yX4_can cX4_can 7 (some .boolean) :: ([.fieldLink RX4 17 "FerroDeskModel" "charge" "[I", .fieldLink RX4 33 "FerroDeskModel" "wear" "[I", .methodLink RX4 146 yX4_costs, .instanceMethod yX4_costs, .selects RX4 yX4_costs yX4_costs, .initialized RX4, .code yX4_costs cX4_costs 6 (some .int), .methodLink RX4 142 yX4_differs, .instanceMethod yX4_differs, .selects RX4 yX4_differs yX4_differs, .code yX4_differs cX4_differs 5 (some .boolean), .fieldLink RX4 30 "FerroDeskModel" "isBlack" "[Z", .methodLink RX4 77 yX4_has, .static yX4_has, .code yX4_has cX4_has 4 (some .boolean), .methodLink RX4 150 yX4_blacks, .static yX4_blacks, .code yX4_blacks cX4_blacks 3 (some .int)] ++ wsX40 ++ (vx_atM "java/lang/ArrayIndexOutOfBoundsException" ["java/lang/IndexOutOfBoundsException", "java/lang/RuntimeException", "java/lang/Exception"]).filter goodWord)
def wsX4_shiftFor_r1 : List Cond := [Cond.methodLink RX4 153 yX4_can, Cond.instanceMethod yX4_can, Cond.selects RX4 yX4_can yX4_can, Cond.initialized RX4, Cond.code yX4_can cX4_can 7 (some .boolean), Cond.fieldLink RX4 17 "FerroDeskModel" "charge" "[I", Cond.fieldLink RX4 33 "FerroDeskModel" "wear" "[I", Cond.methodLink RX4 146 yX4_costs, Cond.instanceMethod yX4_costs, Cond.selects RX4 yX4_costs yX4_costs, Cond.code yX4_costs cX4_costs 6 (some .int), Cond.methodLink RX4 142 yX4_differs, Cond.instanceMethod yX4_differs, Cond.selects RX4 yX4_differs yX4_differs, Cond.code yX4_differs cX4_differs 5 (some .boolean), Cond.fieldLink RX4 30 "FerroDeskModel" "isBlack" "[Z", Cond.methodLink RX4 77 yX4_has, Cond.static yX4_has, Cond.code yX4_has cX4_has 4 (some .boolean), Cond.methodLink RX4 150 yX4_blacks, Cond.static yX4_blacks, Cond.code yX4_blacks cX4_blacks 3 (some .int), Cond.methodLink RX4 156 yX4_worstBehind, Cond.instanceMethod yX4_worstBehind]
def wsX4_shiftFor_r2 : List Cond := [Cond.selects RX4 yX4_worstBehind yX4_worstBehind, Cond.code yX4_worstBehind cX4_worstBehind 6 (some .int), Cond.methodLink RX4 108 yX4_most, Cond.static yX4_most, Cond.code yX4_most cX4_most 2 (some .int)]
def wsX4_shiftFor : List Cond := .code yX4_shiftFor cX4_shiftFor 7 (some .int) :: ((wsX4_shiftFor_r1 ++ wsX4_shiftFor_r2) ++ wsX40 ++ (vx_atM "java/lang/ArrayIndexOutOfBoundsException" ["java/lang/IndexOutOfBoundsException", "java/lang/RuntimeException", "java/lang/Exception"]).filter goodWord)
def wsX4_show : List Cond := .code yX4_show cX4_show 5 none :: ([.fieldLink RX4 39 "FerroDeskModel" "picture" "[I", .fieldLink RX4 17 "FerroDeskModel" "charge" "[I", .fieldLink RX4 20 "FerroDeskModel" "shown" "[I", .fieldLink RX4 23 "FerroDeskModel" "shift" "[I", .methodLink RX4 142 yX4_differs, .instanceMethod yX4_differs, .selects RX4 yX4_differs yX4_differs, .initialized RX4, .code yX4_differs cX4_differs 5 (some .boolean), .fieldLink RX4 30 "FerroDeskModel" "isBlack" "[Z", .methodLink RX4 77 yX4_has, .static yX4_has, .code yX4_has cX4_has 4 (some .boolean), .methodLink RX4 138 yX4_change, .instanceMethod yX4_change, .selects RX4 yX4_change yX4_change, .code yX4_change cX4_change 2 none, .fieldLink RX4 33 "FerroDeskModel" "wear" "[I", .fieldLink RX4 134 "FerroDeskModel" "changes" "J"] ++ wsX40 ++ (vx_atM "java/lang/ArrayIndexOutOfBoundsException" ["java/lang/IndexOutOfBoundsException", "java/lang/RuntimeException", "java/lang/Exception"]).filter goodWord)
def wsX4_choose_r1 : List Cond := [Cond.fieldLink RX4 13 "FerroDeskModel" "districtOf" "[I", Cond.fieldLink RX4 26 "FerroDeskModel" "isAsleep" "[Z", Cond.fieldLink RX4 20 "FerroDeskModel" "shown" "[I", Cond.fieldLink RX4 39 "FerroDeskModel" "picture" "[I", Cond.methodLink RX4 118 yX4_manyQueued, Cond.instanceMethod yX4_manyQueued, Cond.selects RX4 yX4_manyQueued yX4_manyQueued, Cond.initialized RX4, Cond.code yX4_manyQueued cX4_manyQueued 4 (some .int), Cond.fieldLink RX4 74 "FerroDeskModel" "notices" "I", Cond.methodLink RX4 114 yX4_isIn, Cond.instanceMethod yX4_isIn, Cond.selects RX4 yX4_isIn yX4_isIn, Cond.code yX4_isIn cX4_isIn 3 (some .boolean), Cond.fieldLink RX4 54 "FerroDeskModel" "isQueued" "[Z", Cond.fieldLink RX4 101 "FerroDeskModel" "hour" "I", Cond.fieldLink RX4 45 "FerroDeskModel" "till" "[I", Cond.methodLink RX4 122 yX4_inQueue, Cond.instanceMethod yX4_inQueue, Cond.selects RX4 yX4_inQueue yX4_inQueue, Cond.code yX4_inQueue cX4_inQueue 6 (some .int), Cond.fieldLink RX4 36 "FerroDeskModel" "rank" "[I", Cond.methodLink RX4 125 yX4_dueNow, Cond.instanceMethod yX4_dueNow]
def wsX4_choose_r2 : List Cond := [Cond.selects RX4 yX4_dueNow yX4_dueNow, Cond.code yX4_dueNow cX4_dueNow 2 (some .boolean), Cond.fieldLink RX4 42 "FerroDeskModel" "from" "[I", Cond.methodLink RX4 159 yX4_shiftFor, Cond.instanceMethod yX4_shiftFor, Cond.selects RX4 yX4_shiftFor yX4_shiftFor, Cond.code yX4_shiftFor cX4_shiftFor 7 (some .int), Cond.methodLink RX4 153 yX4_can, Cond.instanceMethod yX4_can, Cond.selects RX4 yX4_can yX4_can, Cond.code yX4_can cX4_can 7 (some .boolean), Cond.fieldLink RX4 17 "FerroDeskModel" "charge" "[I", Cond.fieldLink RX4 33 "FerroDeskModel" "wear" "[I", Cond.methodLink RX4 146 yX4_costs, Cond.instanceMethod yX4_costs, Cond.selects RX4 yX4_costs yX4_costs, Cond.code yX4_costs cX4_costs 6 (some .int), Cond.methodLink RX4 142 yX4_differs, Cond.instanceMethod yX4_differs, Cond.selects RX4 yX4_differs yX4_differs, Cond.code yX4_differs cX4_differs 5 (some .boolean), Cond.fieldLink RX4 30 "FerroDeskModel" "isBlack" "[Z", Cond.methodLink RX4 77 yX4_has, Cond.static yX4_has]
def wsX4_choose_r3 : List Cond := [Cond.code yX4_has cX4_has 4 (some .boolean), Cond.methodLink RX4 150 yX4_blacks, Cond.static yX4_blacks, Cond.code yX4_blacks cX4_blacks 3 (some .int), Cond.methodLink RX4 156 yX4_worstBehind, Cond.instanceMethod yX4_worstBehind, Cond.selects RX4 yX4_worstBehind yX4_worstBehind, Cond.code yX4_worstBehind cX4_worstBehind 6 (some .int), Cond.methodLink RX4 108 yX4_most, Cond.static yX4_most, Cond.code yX4_most cX4_most 2 (some .int), Cond.methodLink RX4 162 yX4_show, Cond.instanceMethod yX4_show, Cond.selects RX4 yX4_show yX4_show, Cond.code yX4_show cX4_show 5 none, Cond.fieldLink RX4 23 "FerroDeskModel" "shift" "[I", Cond.methodLink RX4 138 yX4_change, Cond.instanceMethod yX4_change, Cond.selects RX4 yX4_change yX4_change, Cond.code yX4_change cX4_change 2 none, Cond.fieldLink RX4 134 "FerroDeskModel" "changes" "J", Cond.methodLink RX4 166 yX4_wipe, Cond.instanceMethod yX4_wipe, Cond.selects RX4 yX4_wipe yX4_wipe]
def wsX4_choose_r4 : List Cond := [Cond.code yX4_wipe cX4_wipe 3 none]
def wsX4_choose : List Cond := .code yX4_choose cX4_choose 7 none :: ((wsX4_choose_r1 ++ (wsX4_choose_r2 ++ (wsX4_choose_r3 ++ wsX4_choose_r4))) ++ wsX40 ++ (vx_atM "java/lang/ArrayIndexOutOfBoundsException" ["java/lang/IndexOutOfBoundsException", "java/lang/RuntimeException", "java/lang/Exception"]).filter goodWord)
def wsX4_go_r1 : List Cond := [Cond.fieldLink RX4 64 "FerroDeskModel" "thrown" "I", Cond.fieldLink RX4 101 "FerroDeskModel" "hour" "I", Cond.fieldLink RX4 67 "FerroDeskModel" "boards" "I", Cond.fieldLink RX4 17 "FerroDeskModel" "charge" "[I", Cond.fieldLink RX4 7 "FerroDeskModel" "light" "I", Cond.fieldLink RX4 20 "FerroDeskModel" "shown" "[I", Cond.fieldLink RX4 45 "FerroDeskModel" "till" "[I", Cond.methodLink RX4 70 yX4_in, Cond.static yX4_in, Cond.initialized RX4, Cond.code yX4_in cX4_in 3 (some .boolean), Cond.methodLink RX4 84 yX4_fails, Cond.instanceMethod yX4_fails, Cond.selects RX4 yX4_fails yX4_fails, Cond.code yX4_fails cX4_fails 3 (some .boolean), Cond.methodLink RX4 104 yX4_least, Cond.static yX4_least, Cond.code yX4_least cX4_least 2 (some .int), Cond.methodLink RX4 166 yX4_wipe, Cond.instanceMethod yX4_wipe, Cond.selects RX4 yX4_wipe yX4_wipe, Cond.code yX4_wipe cX4_wipe 3 none, Cond.fieldLink RX4 30 "FerroDeskModel" "isBlack" "[Z", Cond.fieldLink RX4 23 "FerroDeskModel" "shift" "[I"]
def wsX4_go_r2 : List Cond := [Cond.methodLink RX4 138 yX4_change, Cond.instanceMethod yX4_change, Cond.selects RX4 yX4_change yX4_change, Cond.code yX4_change cX4_change 2 none, Cond.fieldLink RX4 33 "FerroDeskModel" "wear" "[I", Cond.fieldLink RX4 134 "FerroDeskModel" "changes" "J", Cond.methodLink RX4 169 yX4_choose, Cond.instanceMethod yX4_choose, Cond.selects RX4 yX4_choose yX4_choose, Cond.code yX4_choose cX4_choose 7 none, Cond.fieldLink RX4 13 "FerroDeskModel" "districtOf" "[I", Cond.fieldLink RX4 26 "FerroDeskModel" "isAsleep" "[Z", Cond.fieldLink RX4 39 "FerroDeskModel" "picture" "[I", Cond.methodLink RX4 118 yX4_manyQueued, Cond.instanceMethod yX4_manyQueued, Cond.selects RX4 yX4_manyQueued yX4_manyQueued, Cond.code yX4_manyQueued cX4_manyQueued 4 (some .int), Cond.fieldLink RX4 74 "FerroDeskModel" "notices" "I", Cond.methodLink RX4 114 yX4_isIn, Cond.instanceMethod yX4_isIn, Cond.selects RX4 yX4_isIn yX4_isIn, Cond.code yX4_isIn cX4_isIn 3 (some .boolean), Cond.fieldLink RX4 54 "FerroDeskModel" "isQueued" "[Z", Cond.methodLink RX4 122 yX4_inQueue]
def wsX4_go_r3 : List Cond := [Cond.instanceMethod yX4_inQueue, Cond.selects RX4 yX4_inQueue yX4_inQueue, Cond.code yX4_inQueue cX4_inQueue 6 (some .int), Cond.fieldLink RX4 36 "FerroDeskModel" "rank" "[I", Cond.methodLink RX4 125 yX4_dueNow, Cond.instanceMethod yX4_dueNow, Cond.selects RX4 yX4_dueNow yX4_dueNow, Cond.code yX4_dueNow cX4_dueNow 2 (some .boolean), Cond.fieldLink RX4 42 "FerroDeskModel" "from" "[I", Cond.methodLink RX4 159 yX4_shiftFor, Cond.instanceMethod yX4_shiftFor, Cond.selects RX4 yX4_shiftFor yX4_shiftFor, Cond.code yX4_shiftFor cX4_shiftFor 7 (some .int), Cond.methodLink RX4 153 yX4_can, Cond.instanceMethod yX4_can, Cond.selects RX4 yX4_can yX4_can, Cond.code yX4_can cX4_can 7 (some .boolean), Cond.methodLink RX4 146 yX4_costs, Cond.instanceMethod yX4_costs, Cond.selects RX4 yX4_costs yX4_costs, Cond.code yX4_costs cX4_costs 6 (some .int), Cond.methodLink RX4 142 yX4_differs, Cond.instanceMethod yX4_differs, Cond.selects RX4 yX4_differs yX4_differs]
def wsX4_go_r4 : List Cond := [Cond.code yX4_differs cX4_differs 5 (some .boolean), Cond.methodLink RX4 77 yX4_has, Cond.static yX4_has, Cond.code yX4_has cX4_has 4 (some .boolean), Cond.methodLink RX4 150 yX4_blacks, Cond.static yX4_blacks, Cond.code yX4_blacks cX4_blacks 3 (some .int), Cond.methodLink RX4 156 yX4_worstBehind, Cond.instanceMethod yX4_worstBehind, Cond.selects RX4 yX4_worstBehind yX4_worstBehind, Cond.code yX4_worstBehind cX4_worstBehind 6 (some .int), Cond.methodLink RX4 108 yX4_most, Cond.static yX4_most, Cond.code yX4_most cX4_most 2 (some .int), Cond.methodLink RX4 162 yX4_show, Cond.instanceMethod yX4_show, Cond.selects RX4 yX4_show yX4_show, Cond.code yX4_show cX4_show 5 none]
def wsX4_go : List Cond := .code yX4_go cX4_go 4 (some .int) :: ((wsX4_go_r1 ++ (wsX4_go_r2 ++ (wsX4_go_r3 ++ wsX4_go_r4))) ++ wsX40 ++ (vx_atM "java/lang/ArrayIndexOutOfBoundsException" ["java/lang/IndexOutOfBoundsException", "java/lang/RuntimeException", "java/lang/Exception"]).filter goodWord)
def wsX4_hour : List Cond := .code yX4_hour cX4_hour 1 (some .int) :: ([.fieldLink RX4 64 "FerroDeskModel" "thrown" "I", .fieldLink RX4 101 "FerroDeskModel" "hour" "I"] ++ wsX40)
def wsX4_boards : List Cond := .code yX4_boards cX4_boards 1 (some .int) :: ([.fieldLink RX4 64 "FerroDeskModel" "thrown" "I", .fieldLink RX4 67 "FerroDeskModel" "boards" "I"] ++ wsX40)
def wsX4_notices : List Cond := .code yX4_notices cX4_notices 1 (some .int) :: ([.fieldLink RX4 64 "FerroDeskModel" "thrown" "I", .fieldLink RX4 74 "FerroDeskModel" "notices" "I"] ++ wsX40)
def wsX4_cellAnew : List Cond := .code yX4_cellAnew cX4_cellAnew 4 (some .int) :: ([.methodLink RX4 172 yX4_cell, .instanceMethod yX4_cell, .selects RX4 yX4_cell yX4_cell, .initialized RX4, .code yX4_cell cX4_cell 4 (some .int), .fieldLink RX4 64 "FerroDeskModel" "thrown" "I", .fieldLink RX4 30 "FerroDeskModel" "isBlack" "[Z", .methodLink RX4 91 yX4_noCell, .instanceMethod yX4_noCell, .selects RX4 yX4_noCell yX4_noCell, .code yX4_noCell cX4_noCell 4 (some .boolean), .methodLink RX4 88 yX4_noBoard, .instanceMethod yX4_noBoard, .selects RX4 yX4_noBoard yX4_noBoard, .code yX4_noBoard cX4_noBoard 2 (some .boolean), .fieldLink RX4 67 "FerroDeskModel" "boards" "I", .methodLink RX4 70 yX4_in, .static yX4_in, .code yX4_in cX4_in 3 (some .boolean), .methodLink RX4 84 yX4_fails, .instanceMethod yX4_fails, .selects RX4 yX4_fails yX4_fails, .code yX4_fails cX4_fails 3 (some .boolean)] ++ wsX40 ++ (vx_atM "java/lang/ArrayIndexOutOfBoundsException" ["java/lang/IndexOutOfBoundsException", "java/lang/RuntimeException", "java/lang/Exception"]).filter goodWord)
def wsX4_changes : List Cond := .code yX4_changes cX4_changes 1 (some .long) :: ([.fieldLink RX4 64 "FerroDeskModel" "thrown" "I", .fieldLink RX4 134 "FerroDeskModel" "changes" "J"] ++ wsX40)
def wsX4_worst : List Cond := .code yX4_worst cX4_worst 4 (some .int) :: ([.fieldLink RX4 64 "FerroDeskModel" "thrown" "I", .fieldLink RX4 33 "FerroDeskModel" "wear" "[I", .methodLink RX4 88 yX4_noBoard, .instanceMethod yX4_noBoard, .selects RX4 yX4_noBoard yX4_noBoard, .initialized RX4, .code yX4_noBoard cX4_noBoard 2 (some .boolean), .fieldLink RX4 67 "FerroDeskModel" "boards" "I", .methodLink RX4 70 yX4_in, .static yX4_in, .code yX4_in cX4_in 3 (some .boolean), .methodLink RX4 84 yX4_fails, .instanceMethod yX4_fails, .selects RX4 yX4_fails yX4_fails, .code yX4_fails cX4_fails 3 (some .boolean), .methodLink RX4 108 yX4_most, .static yX4_most, .code yX4_most cX4_most 2 (some .int)] ++ wsX40 ++ (vx_atM "java/lang/ArrayIndexOutOfBoundsException" ["java/lang/IndexOutOfBoundsException", "java/lang/RuntimeException", "java/lang/Exception"]).filter goodWord)
def wsX4_checksum : List Cond := .code yX4_checksum cX4_checksum 4 (some .long) :: ([.fieldLink RX4 64 "FerroDeskModel" "thrown" "I", .fieldLink RX4 67 "FerroDeskModel" "boards" "I", .constantLong RX4 175 (31), .fieldLink RX4 30 "FerroDeskModel" "isBlack" "[Z", .constantLong RX4 177 (2), .fieldLink RX4 33 "FerroDeskModel" "wear" "[I"] ++ wsX40 ++ (vx_atM "java/lang/ArrayIndexOutOfBoundsException" ["java/lang/IndexOutOfBoundsException", "java/lang/RuntimeException", "java/lang/Exception"]).filter goodWord)
def wsX4_shownShare : List Cond := .code yX4_shownShare cX4_shownShare 3 (some .float) :: ([.fieldLink RX4 64 "FerroDeskModel" "thrown" "I", .fieldLink RX4 67 "FerroDeskModel" "boards" "I", .fieldLink RX4 20 "FerroDeskModel" "shown" "[I", .methodLink RX4 84 yX4_fails, .instanceMethod yX4_fails, .selects RX4 yX4_fails yX4_fails, .initialized RX4, .code yX4_fails cX4_fails 3 (some .boolean)] ++ wsX40 ++ (vx_atM "java/lang/ArrayIndexOutOfBoundsException" ["java/lang/IndexOutOfBoundsException", "java/lang/RuntimeException", "java/lang/Exception"]).filter goodWord)
def wsX4_meanWear : List Cond := .code yX4_meanWear cX4_meanWear 3 (some .double) :: ([.fieldLink RX4 64 "FerroDeskModel" "thrown" "I", .fieldLink RX4 67 "FerroDeskModel" "boards" "I", .fieldLink RX4 33 "FerroDeskModel" "wear" "[I", .methodLink RX4 84 yX4_fails, .instanceMethod yX4_fails, .selects RX4 yX4_fails yX4_fails, .initialized RX4, .code yX4_fails cX4_fails 3 (some .boolean)] ++ wsX40 ++ (vx_atM "java/lang/ArrayIndexOutOfBoundsException" ["java/lang/IndexOutOfBoundsException", "java/lang/RuntimeException", "java/lang/Exception"]).filter goodWord)
def wsX4_isSound : List Cond := .code yX4_isSound cX4_isSound 1 (some .boolean) :: ([.fieldLink RX4 64 "FerroDeskModel" "thrown" "I"] ++ wsX40)
def wsJx00060_init_a7421 : List Cond := .code yJx00060_init_a7421 cJx00060_init_a7421 2 none :: ([])
def wsJ9_max_7cf53 : List Cond := .code yJ9_max_7cf53 cJ9_max_7cf53 2 (some .int) :: ([])
def wsJ9_min_7cf53 : List Cond := .code yJ9_min_7cf53 cJ9_min_7cf53 2 (some .int) :: ([])
def wsL_addBoard : List Cond := .codeWith yL_addBoard cL_addBoard 5 (some .int) [(0, 10, 13, 13), (0, 10, 17, 15)] :: ([.classLink RL 13 "java/lang/IllegalArgumentException", .methodLink RL 7 yX3_addBoard, .instanceMethod yX3_addBoard, .selects RX3 yX3_addBoard yX3_addBoard, .initialized RX3, .code yX3_addBoard cX3_addBoard 3 (some .int), .classLink RX3 51 "java/lang/IllegalArgumentException", .initialized "java/lang/IllegalArgumentException", .classLink RX3 58 "java/lang/IllegalStateException", .initialized "java/lang/IllegalStateException", .fieldLink RX3 15 "FerroDesk" "boardCount" "I", .fieldLink RX3 11 "FerroDesk" "boards" "[LFerroDesk$Board;", .methodLink RX3 48 yX3_checkDistrict, .static yX3_checkDistrict, .code yX3_checkDistrict cX3_checkDistrict 1 none, .methodLink RX3 63 yX0_settle, .instanceMethod yX0_settle, .selects RX0 yX0_settle yX0_settle, .initialized RX0, .code yX0_settle cX0_settle 3 none, .fieldLink RX0 9 "FerroDesk$Board" "district" "I", .fieldLink RX0 15 "FerroDesk$Board" "charge" "I"] ++ wsX30 ++ wsX00 ++ (vx_atM "java/lang/ArrayIndexOutOfBoundsException" ["java/lang/IndexOutOfBoundsException", "java/lang/RuntimeException", "java/lang/Exception"]).filter goodWord ++ (vx_atS RX3 55 "java/lang/IllegalArgumentException" ["java/lang/RuntimeException", "java/lang/Exception"]).filter goodWord ++ (vx_atS RX3 62 "java/lang/IllegalStateException" ["java/lang/RuntimeException", "java/lang/Exception"]).filter goodWord)
def wsL_setSun : List Cond := .codeWith yL_setSun cL_setSun 4 (some .int) [(0, 9, 12, 13)] :: ([.classLink RL 13 "java/lang/IllegalArgumentException", .methodLink RL 17 yX3_setSun, .instanceMethod yX3_setSun, .selects RX3 yX3_setSun yX3_setSun, .initialized RX3, .code yX3_setSun cX3_setSun 3 (some .int), .classLink RX3 51 "java/lang/IllegalArgumentException", .initialized "java/lang/IllegalArgumentException", .fieldLink RX3 38 "FerroDesk" "sun" "I"] ++ wsX30 ++ (vx_atM "java/lang/ArrayIndexOutOfBoundsException" ["java/lang/IndexOutOfBoundsException", "java/lang/RuntimeException", "java/lang/Exception"]).filter goodWord ++ (vx_atS RX3 55 "java/lang/IllegalArgumentException" ["java/lang/RuntimeException", "java/lang/Exception"]).filter goodWord)
def wsL_charge : List Cond := .codeWith yL_charge cL_charge 4 (some .int) [(0, 9, 12, 24)] :: ([.classLink RL 24 "java/lang/IndexOutOfBoundsException", .methodLink RL 21 yX3_charge, .instanceMethod yX3_charge, .selects RX3 yX3_charge yX3_charge, .initialized RX3, .code yX3_charge cX3_charge 2 (some .int), .methodLink RX3 69 yX3_boardAt, .instanceMethod yX3_boardAt, .selects RX3 yX3_boardAt yX3_boardAt, .code yX3_boardAt cX3_boardAt 2 (some (.object "FerroDesk$Board")), .classLink RX3 180 "java/lang/IndexOutOfBoundsException", .initialized "java/lang/IndexOutOfBoundsException", .fieldLink RX3 15 "FerroDesk" "boardCount" "I", .fieldLink RX3 11 "FerroDesk" "boards" "[LFerroDesk$Board;"] ++ wsX00 ++ wsX30 ++ (vx_atM "java/lang/ArrayIndexOutOfBoundsException" ["java/lang/IndexOutOfBoundsException", "java/lang/RuntimeException", "java/lang/Exception"]).filter goodWord ++ (vx_atS RX3 184 "java/lang/IndexOutOfBoundsException" ["java/lang/RuntimeException", "java/lang/Exception"]).filter goodWord)
def wsL_cell : List Cond := .codeWith yL_cell cL_cell 6 (some .int) [(0, 12, 15, 24)] :: ([.classLink RL 24 "java/lang/IndexOutOfBoundsException", .methodLink RL 26 yX3_cell, .instanceMethod yX3_cell, .selects RX3 yX3_cell yX3_cell, .initialized RX3, .code yX3_cell cX3_cell 5 (some .int), .methodLink RX3 69 yX3_boardAt, .instanceMethod yX3_boardAt, .selects RX3 yX3_boardAt yX3_boardAt, .code yX3_boardAt cX3_boardAt 2 (some (.object "FerroDesk$Board")), .classLink RX3 180 "java/lang/IndexOutOfBoundsException", .initialized "java/lang/IndexOutOfBoundsException", .fieldLink RX3 15 "FerroDesk" "boardCount" "I", .fieldLink RX3 11 "FerroDesk" "boards" "[LFerroDesk$Board;", .methodLink RX3 79 yX3_cellAt, .static yX3_cellAt, .code yX3_cellAt cX3_cellAt 2 (some .int), .methodLink RX3 83 yX3_bitOf, .static yX3_bitOf, .code yX3_bitOf cX3_bitOf 2 (some .int)] ++ wsX00 ++ wsX30 ++ (vx_atM "java/lang/ArrayIndexOutOfBoundsException" ["java/lang/IndexOutOfBoundsException", "java/lang/RuntimeException", "java/lang/Exception"]).filter goodWord ++ (vx_atS RX3 184 "java/lang/IndexOutOfBoundsException" ["java/lang/RuntimeException", "java/lang/Exception"]).filter goodWord)
def wsL_wear : List Cond := .codeWith yL_wear cL_wear 6 (some .int) [(0, 12, 15, 24)] :: ([.classLink RL 24 "java/lang/IndexOutOfBoundsException", .methodLink RL 30 yX3_wear, .instanceMethod yX3_wear, .selects RX3 yX3_wear yX3_wear, .initialized RX3, .code yX3_wear cX3_wear 5 (some .int), .methodLink RX3 69 yX3_boardAt, .instanceMethod yX3_boardAt, .selects RX3 yX3_boardAt yX3_boardAt, .code yX3_boardAt cX3_boardAt 2 (some (.object "FerroDesk$Board")), .classLink RX3 180 "java/lang/IndexOutOfBoundsException", .initialized "java/lang/IndexOutOfBoundsException", .fieldLink RX3 15 "FerroDesk" "boardCount" "I", .fieldLink RX3 11 "FerroDesk" "boards" "[LFerroDesk$Board;", .methodLink RX3 79 yX3_cellAt, .static yX3_cellAt, .code yX3_cellAt cX3_cellAt 2 (some .int), .methodLink RX3 86 yX0_wearOf, .instanceMethod yX0_wearOf, .selects RX0 yX0_wearOf yX0_wearOf, .initialized RX0, .code yX0_wearOf cX0_wearOf 2 (some .int), .fieldLink RX0 32 "FerroDesk$Board" "wearByCell" "[I"] ++ wsX30 ++ wsX00 ++ (vx_atM "java/lang/ArrayIndexOutOfBoundsException" ["java/lang/IndexOutOfBoundsException", "java/lang/RuntimeException", "java/lang/Exception"]).filter goodWord ++ (vx_atS RX3 184 "java/lang/IndexOutOfBoundsException" ["java/lang/RuntimeException", "java/lang/Exception"]).filter goodWord)
def wsL_shows : List Cond := .codeWith yL_shows cL_shows 4 (some .int) [(0, 9, 12, 24)] :: ([.classLink RL 24 "java/lang/IndexOutOfBoundsException", .methodLink RL 33 yX3_shows, .instanceMethod yX3_shows, .selects RX3 yX3_shows yX3_shows, .initialized RX3, .code yX3_shows cX3_shows 3 (some .int), .methodLink RX3 69 yX3_boardAt, .instanceMethod yX3_boardAt, .selects RX3 yX3_boardAt yX3_boardAt, .code yX3_boardAt cX3_boardAt 2 (some (.object "FerroDesk$Board")), .classLink RX3 180 "java/lang/IndexOutOfBoundsException", .initialized "java/lang/IndexOutOfBoundsException", .fieldLink RX3 15 "FerroDesk" "boardCount" "I", .fieldLink RX3 11 "FerroDesk" "boards" "[LFerroDesk$Board;"] ++ wsX00 ++ wsX10 ++ wsX30 ++ (vx_atM "java/lang/ArrayIndexOutOfBoundsException" ["java/lang/IndexOutOfBoundsException", "java/lang/RuntimeException", "java/lang/Exception"]).filter goodWord ++ (vx_atS RX3 184 "java/lang/IndexOutOfBoundsException" ["java/lang/RuntimeException", "java/lang/Exception"]).filter goodWord)
def wsL_shift : List Cond := .codeWith yL_shift cL_shift 4 (some .int) [(0, 9, 12, 24)] :: ([.classLink RL 24 "java/lang/IndexOutOfBoundsException", .methodLink RL 36 yX3_shift, .instanceMethod yX3_shift, .selects RX3 yX3_shift yX3_shift, .initialized RX3, .code yX3_shift cX3_shift 2 (some .int), .methodLink RX3 69 yX3_boardAt, .instanceMethod yX3_boardAt, .selects RX3 yX3_boardAt yX3_boardAt, .code yX3_boardAt cX3_boardAt 2 (some (.object "FerroDesk$Board")), .classLink RX3 180 "java/lang/IndexOutOfBoundsException", .initialized "java/lang/IndexOutOfBoundsException", .fieldLink RX3 15 "FerroDesk" "boardCount" "I", .fieldLink RX3 11 "FerroDesk" "boards" "[LFerroDesk$Board;"] ++ wsX00 ++ wsX30 ++ (vx_atM "java/lang/ArrayIndexOutOfBoundsException" ["java/lang/IndexOutOfBoundsException", "java/lang/RuntimeException", "java/lang/Exception"]).filter goodWord ++ (vx_atS RX3 184 "java/lang/IndexOutOfBoundsException" ["java/lang/RuntimeException", "java/lang/Exception"]).filter goodWord)
def wsL_sleeps : List Cond := .codeWith yL_sleeps cL_sleeps 4 (some .int) [(0, 16, 19, 24)] :: ([.classLink RL 24 "java/lang/IndexOutOfBoundsException", .methodLink RL 39 yX3_sleeps, .instanceMethod yX3_sleeps, .selects RX3 yX3_sleeps yX3_sleeps, .initialized RX3, .code yX3_sleeps cX3_sleeps 2 (some .boolean), .methodLink RX3 69 yX3_boardAt, .instanceMethod yX3_boardAt, .selects RX3 yX3_boardAt yX3_boardAt, .code yX3_boardAt cX3_boardAt 2 (some (.object "FerroDesk$Board")), .classLink RX3 180 "java/lang/IndexOutOfBoundsException", .initialized "java/lang/IndexOutOfBoundsException", .fieldLink RX3 15 "FerroDesk" "boardCount" "I", .fieldLink RX3 11 "FerroDesk" "boards" "[LFerroDesk$Board;"] ++ wsX00 ++ wsX30 ++ (vx_atM "java/lang/ArrayIndexOutOfBoundsException" ["java/lang/IndexOutOfBoundsException", "java/lang/RuntimeException", "java/lang/Exception"]).filter goodWord ++ (vx_atS RX3 184 "java/lang/IndexOutOfBoundsException" ["java/lang/RuntimeException", "java/lang/Exception"]).filter goodWord)
def wsL_post_r1 : List Cond := [Cond.classLink RL 13 "java/lang/IllegalArgumentException", Cond.methodLink RL 43 yX3_post, Cond.instanceMethod yX3_post, Cond.selects RX3 yX3_post yX3_post, Cond.initialized RX3, Cond.code yX3_post cX3_post 5 (some .int), Cond.classLink RX3 51 "java/lang/IllegalArgumentException", Cond.initialized "java/lang/IllegalArgumentException", Cond.methodLink RX3 110 yX3_take, Cond.instanceMethod yX3_take, Cond.selects RX3 yX3_take yX3_take, Cond.code yX3_take cX3_take 7 (some (.object "FerroDesk$Notice")), Cond.classLink RX3 58 "java/lang/IllegalStateException", Cond.initialized "java/lang/IllegalStateException", Cond.fieldLink RX3 28 "FerroDesk" "noticeCount" "I", Cond.fieldLink RX3 21 "FerroDesk" "notices" "[LFerroDesk$Notice;", Cond.fieldLink RX3 25 "FerroDesk" "ranked" "[LFerroDesk$Notice;", Cond.methodLink RX3 263 yX1_fill, Cond.instanceMethod yX1_fill, Cond.selects RX1 yX1_fill yX1_fill, Cond.initialized RX1, Cond.code yX1_fill cX1_fill 5 none, Cond.fieldLink RX1 15 "FerroDesk$Notice" "rank" "I", Cond.fieldLink RX1 19 "FerroDesk$Notice" "picture" "I"]
def wsL_post_r2 : List Cond := [Cond.fieldLink RX1 22 "FerroDesk$Notice" "from" "I", Cond.fieldLink RX1 25 "FerroDesk$Notice" "till" "I"]
def wsL_post : List Cond := .codeWith yL_post cL_post 7 (some .int) [(0, 14, 17, 13), (0, 14, 21, 15)] :: ((wsL_post_r1 ++ wsL_post_r2) ++ wsX10 ++ wsX30 ++ (vx_atM "java/lang/ArrayIndexOutOfBoundsException" ["java/lang/IndexOutOfBoundsException", "java/lang/RuntimeException", "java/lang/Exception"]).filter goodWord ++ (vx_atS RX3 55 "java/lang/IllegalArgumentException" ["java/lang/RuntimeException", "java/lang/Exception"]).filter goodWord ++ (vx_atS RX3 62 "java/lang/IllegalStateException" ["java/lang/RuntimeException", "java/lang/Exception"]).filter goodWord)
def wsL_queue_r1 : List Cond := [Cond.classLink RL 24 "java/lang/IndexOutOfBoundsException", Cond.methodLink RL 47 yX3_queue, Cond.instanceMethod yX3_queue, Cond.selects RX3 yX3_queue yX3_queue, Cond.initialized RX3, Cond.code yX3_queue cX3_queue 5 (some .boolean), Cond.classLink RX3 124 "java/lang/UnsupportedOperationException", Cond.initialized "java/lang/UnsupportedOperationException", Cond.fieldLink RX3 41 "FerroDesk" "hour" "I", Cond.methodLink RX3 114 yX3_noticeAt, Cond.instanceMethod yX3_noticeAt, Cond.selects RX3 yX3_noticeAt yX3_noticeAt, Cond.code yX3_noticeAt cX3_noticeAt 2 (some (.object "FerroDesk$Notice")), Cond.classLink RX3 180 "java/lang/IndexOutOfBoundsException", Cond.initialized "java/lang/IndexOutOfBoundsException", Cond.fieldLink RX3 28 "FerroDesk" "noticeCount" "I", Cond.fieldLink RX3 21 "FerroDesk" "notices" "[LFerroDesk$Notice;", Cond.methodLink RX3 48 yX3_checkDistrict, Cond.static yX3_checkDistrict, Cond.code yX3_checkDistrict cX3_checkDistrict 1 none, Cond.classLink RX3 51 "java/lang/IllegalArgumentException", Cond.initialized "java/lang/IllegalArgumentException", Cond.methodLink RX3 129 yX1_isQueuedIn, Cond.instanceMethod yX1_isQueuedIn]
def wsL_queue_r2 : List Cond := [Cond.selects RX1 yX1_isQueuedIn yX1_isQueuedIn, Cond.initialized RX1, Cond.code yX1_isQueuedIn cX1_isQueuedIn 3 (some .boolean), Cond.fieldLink RX1 35 "FerroDesk$Notice" "districts" "I", Cond.static yX3_bitOf, Cond.code yX3_bitOf cX3_bitOf 2 (some .int), Cond.methodLink RX1 45 yX1_isOver, Cond.instanceMethod yX1_isOver, Cond.selects RX1 yX1_isOver yX1_isOver, Cond.code yX1_isOver cX1_isOver 2 (some .boolean), Cond.fieldLink RX1 25 "FerroDesk$Notice" "till" "I", Cond.methodLink RX3 133 yX1_putInto, Cond.instanceMethod yX1_putInto, Cond.selects RX1 yX1_putInto yX1_putInto, Cond.code yX1_putInto cX1_putInto 2 none]
def wsL_queue : List Cond := .codeWith yL_queue cL_queue 5 (some .int) [(0, 17, 20, 24), (0, 17, 24, 13), (0, 17, 28, 51)] :: ((wsL_queue_r1 ++ wsL_queue_r2) ++ wsX10 ++ wsX30 ++ (vx_atM "java/lang/ArrayIndexOutOfBoundsException" ["java/lang/IndexOutOfBoundsException", "java/lang/RuntimeException", "java/lang/Exception"]).filter goodWord ++ (vx_atS RX3 128 "java/lang/UnsupportedOperationException" ["java/lang/RuntimeException", "java/lang/Exception"]).filter goodWord ++ (vx_atS RX3 184 "java/lang/IndexOutOfBoundsException" ["java/lang/RuntimeException", "java/lang/Exception"]).filter goodWord ++ (vx_atS RX3 55 "java/lang/IllegalArgumentException" ["java/lang/RuntimeException", "java/lang/Exception"]).filter goodWord)
def wsL_takeBack_r1 : List Cond := [Cond.classLink RL 24 "java/lang/IndexOutOfBoundsException", Cond.methodLink RL 53 yX3_takeBack, Cond.instanceMethod yX3_takeBack, Cond.selects RX3 yX3_takeBack yX3_takeBack, Cond.initialized RX3, Cond.code yX3_takeBack cX3_takeBack 4 (some .int), Cond.classLink RX3 51 "java/lang/IllegalArgumentException", Cond.initialized "java/lang/IllegalArgumentException", Cond.classLink RX3 124 "java/lang/UnsupportedOperationException", Cond.initialized "java/lang/UnsupportedOperationException", Cond.fieldLink RX3 41 "FerroDesk" "hour" "I", Cond.methodLink RX3 114 yX3_noticeAt, Cond.instanceMethod yX3_noticeAt, Cond.selects RX3 yX3_noticeAt yX3_noticeAt, Cond.code yX3_noticeAt cX3_noticeAt 2 (some (.object "FerroDesk$Notice")), Cond.classLink RX3 180 "java/lang/IndexOutOfBoundsException", Cond.initialized "java/lang/IndexOutOfBoundsException", Cond.fieldLink RX3 28 "FerroDesk" "noticeCount" "I", Cond.fieldLink RX3 21 "FerroDesk" "notices" "[LFerroDesk$Notice;", Cond.methodLink RX3 143 yX3_boardsThatShow, Cond.instanceMethod yX3_boardsThatShow, Cond.selects RX3 yX3_boardsThatShow yX3_boardsThatShow, Cond.code yX3_boardsThatShow cX3_boardsThatShow 4 (some .int), Cond.fieldLink RX3 15 "FerroDesk" "boardCount" "I"]
def wsL_takeBack_r2 : List Cond := [Cond.fieldLink RX3 11 "FerroDesk" "boards" "[LFerroDesk$Board;"]
def wsL_takeBack : List Cond := .codeWith yL_takeBack cL_takeBack 5 (some .int) [(0, 10, 13, 24), (0, 10, 17, 13), (0, 10, 21, 51)] :: ((wsL_takeBack_r1 ++ wsL_takeBack_r2) ++ wsX30 ++ wsX10 ++ wsX00 ++ (vx_atM "java/lang/ArrayIndexOutOfBoundsException" ["java/lang/IndexOutOfBoundsException", "java/lang/RuntimeException", "java/lang/Exception"]).filter goodWord ++ (vx_atS RX3 55 "java/lang/IllegalArgumentException" ["java/lang/RuntimeException", "java/lang/Exception"]).filter goodWord ++ (vx_atS RX3 128 "java/lang/UnsupportedOperationException" ["java/lang/RuntimeException", "java/lang/Exception"]).filter goodWord ++ (vx_atS RX3 184 "java/lang/IndexOutOfBoundsException" ["java/lang/RuntimeException", "java/lang/Exception"]).filter goodWord)
def wsL_mend_r1 : List Cond := [Cond.classLink RL 24 "java/lang/IndexOutOfBoundsException", Cond.methodLink RL 56 yX3_mend, Cond.instanceMethod yX3_mend, Cond.selects RX3 yX3_mend yX3_mend, Cond.initialized RX3, Cond.code yX3_mend cX3_mend 6 (some .int), Cond.classLink RX3 51 "java/lang/IllegalArgumentException", Cond.initialized "java/lang/IllegalArgumentException", Cond.classLink RX3 124 "java/lang/UnsupportedOperationException", Cond.initialized "java/lang/UnsupportedOperationException", Cond.fieldLink RX3 41 "FerroDesk" "hour" "I", Cond.methodLink RX3 161 Lib.Math.min.name, Cond.static Lib.Math.min.name, Cond.initialized "java/lang/Math", Cond.code Lib.Math.min.name Lib.Math.min.code 2 (some .int), Cond.methodLink RX3 169 Lib.Math.max.name, Cond.static Lib.Math.max.name, Cond.code Lib.Math.max.name Lib.Math.max.code 2 (some .int), Cond.methodLink RX3 114 yX3_noticeAt, Cond.instanceMethod yX3_noticeAt, Cond.selects RX3 yX3_noticeAt yX3_noticeAt, Cond.code yX3_noticeAt cX3_noticeAt 2 (some (.object "FerroDesk$Notice")), Cond.classLink RX3 180 "java/lang/IndexOutOfBoundsException", Cond.initialized "java/lang/IndexOutOfBoundsException"]
def wsL_mend_r2 : List Cond := [Cond.fieldLink RX3 28 "FerroDesk" "noticeCount" "I", Cond.fieldLink RX3 21 "FerroDesk" "notices" "[LFerroDesk$Notice;", Cond.methodLink RX3 152 yX1_isOver, Cond.instanceMethod yX1_isOver, Cond.selects RX1 yX1_isOver yX1_isOver, Cond.initialized RX1, Cond.code yX1_isOver cX1_isOver 2 (some .boolean), Cond.fieldLink RX1 25 "FerroDesk$Notice" "till" "I", Cond.methodLink RX3 110 yX3_take, Cond.instanceMethod yX3_take, Cond.selects RX3 yX3_take yX3_take, Cond.code yX3_take cX3_take 7 (some (.object "FerroDesk$Notice")), Cond.classLink RX3 58 "java/lang/IllegalStateException", Cond.initialized "java/lang/IllegalStateException", Cond.fieldLink RX3 25 "FerroDesk" "ranked" "[LFerroDesk$Notice;", Cond.methodLink RX3 263 yX1_fill, Cond.instanceMethod yX1_fill, Cond.selects RX1 yX1_fill yX1_fill, Cond.code yX1_fill cX1_fill 5 none, Cond.fieldLink RX1 15 "FerroDesk$Notice" "rank" "I", Cond.fieldLink RX1 19 "FerroDesk$Notice" "picture" "I", Cond.fieldLink RX1 22 "FerroDesk$Notice" "from" "I", Cond.methodLink RX3 172 yX3_queueWhereRead, Cond.instanceMethod yX3_queueWhereRead]
def wsL_mend_r3 : List Cond := [Cond.selects RX3 yX3_queueWhereRead yX3_queueWhereRead, Cond.code yX3_queueWhereRead cX3_queueWhereRead 4 none, Cond.methodLink RX3 129 yX1_isQueuedIn, Cond.instanceMethod yX1_isQueuedIn, Cond.selects RX1 yX1_isQueuedIn yX1_isQueuedIn, Cond.code yX1_isQueuedIn cX1_isQueuedIn 3 (some .boolean), Cond.fieldLink RX1 35 "FerroDesk$Notice" "districts" "I", Cond.static yX3_bitOf, Cond.code yX3_bitOf cX3_bitOf 2 (some .int), Cond.methodLink RX1 45 yX1_isOver, Cond.methodLink RX3 198 yX3_readersIn, Cond.instanceMethod yX3_readersIn, Cond.selects RX3 yX3_readersIn yX3_readersIn, Cond.code yX3_readersIn cX3_readersIn 5 (some .int), Cond.fieldLink RX3 15 "FerroDesk" "boardCount" "I", Cond.fieldLink RX3 11 "FerroDesk" "boards" "[LFerroDesk$Board;", Cond.methodLink RX3 133 yX1_putInto, Cond.instanceMethod yX1_putInto, Cond.selects RX1 yX1_putInto yX1_putInto, Cond.code yX1_putInto cX1_putInto 2 none]
def wsL_mend : List Cond := .codeWith yL_mend cL_mend 5 (some .int) [(0, 10, 13, 24), (0, 10, 17, 13), (0, 10, 21, 51), (0, 10, 25, 15)] :: ((wsL_mend_r1 ++ (wsL_mend_r2 ++ wsL_mend_r3)) ++ wsX10 ++ wsX30 ++ wsX00 ++ (vx_atM "java/lang/ArrayIndexOutOfBoundsException" ["java/lang/IndexOutOfBoundsException", "java/lang/RuntimeException", "java/lang/Exception"]).filter goodWord ++ (vx_atS RX3 55 "java/lang/IllegalArgumentException" ["java/lang/RuntimeException", "java/lang/Exception"]).filter goodWord ++ (vx_atS RX3 128 "java/lang/UnsupportedOperationException" ["java/lang/RuntimeException", "java/lang/Exception"]).filter goodWord ++ (vx_atS RX3 184 "java/lang/IndexOutOfBoundsException" ["java/lang/RuntimeException", "java/lang/Exception"]).filter goodWord ++ (vx_atS RX3 62 "java/lang/IllegalStateException" ["java/lang/RuntimeException", "java/lang/Exception"]).filter goodWord)
def wsL_deny_r1 : List Cond := [Cond.classLink RL 13 "java/lang/IllegalArgumentException", Cond.methodLink RL 59 yX3_deny, Cond.instanceMethod yX3_deny, Cond.selects RX3 yX3_deny yX3_deny, Cond.initialized RX3, Cond.code yX3_deny cX3_deny 5 (some .int), Cond.classLink RX3 51 "java/lang/IllegalArgumentException", Cond.initialized "java/lang/IllegalArgumentException", Cond.fieldLink RX3 41 "FerroDesk" "hour" "I", Cond.methodLink RX3 48 yX3_checkDistrict, Cond.static yX3_checkDistrict, Cond.code yX3_checkDistrict cX3_checkDistrict 1 none, Cond.methodLink RX3 110 yX3_take, Cond.instanceMethod yX3_take, Cond.selects RX3 yX3_take yX3_take, Cond.code yX3_take cX3_take 7 (some (.object "FerroDesk$Notice")), Cond.classLink RX3 58 "java/lang/IllegalStateException", Cond.initialized "java/lang/IllegalStateException", Cond.fieldLink RX3 28 "FerroDesk" "noticeCount" "I", Cond.fieldLink RX3 21 "FerroDesk" "notices" "[LFerroDesk$Notice;", Cond.fieldLink RX3 25 "FerroDesk" "ranked" "[LFerroDesk$Notice;", Cond.methodLink RX3 263 yX1_fill, Cond.instanceMethod yX1_fill, Cond.selects RX1 yX1_fill yX1_fill]
def wsL_deny_r2 : List Cond := [Cond.initialized RX1, Cond.code yX1_fill cX1_fill 5 none, Cond.fieldLink RX1 15 "FerroDesk$Notice" "rank" "I", Cond.fieldLink RX1 19 "FerroDesk$Notice" "picture" "I", Cond.fieldLink RX1 22 "FerroDesk$Notice" "from" "I", Cond.fieldLink RX1 25 "FerroDesk$Notice" "till" "I", Cond.methodLink RX3 133 yX1_putInto, Cond.instanceMethod yX1_putInto, Cond.selects RX1 yX1_putInto yX1_putInto, Cond.code yX1_putInto cX1_putInto 2 none, Cond.fieldLink RX1 35 "FerroDesk$Notice" "districts" "I"]
def wsL_deny : List Cond := .codeWith yL_deny cL_deny 6 (some .int) [(0, 12, 15, 13), (0, 12, 19, 15)] :: ((wsL_deny_r1 ++ wsL_deny_r2) ++ wsX30 ++ wsX10 ++ (vx_atM "java/lang/ArrayIndexOutOfBoundsException" ["java/lang/IndexOutOfBoundsException", "java/lang/RuntimeException", "java/lang/Exception"]).filter goodWord ++ (vx_atS RX3 55 "java/lang/IllegalArgumentException" ["java/lang/RuntimeException", "java/lang/Exception"]).filter goodWord ++ (vx_atS RX3 62 "java/lang/IllegalStateException" ["java/lang/RuntimeException", "java/lang/Exception"]).filter goodWord)
def wsL_queued_r1 : List Cond := [Cond.classLink RL 13 "java/lang/IllegalArgumentException", Cond.methodLink RL 62 yX3_queued, Cond.instanceMethod yX3_queued, Cond.selects RX3 yX3_queued yX3_queued, Cond.initialized RX3, Cond.code yX3_queued cX3_queued 4 (some .int), Cond.fieldLink RX3 28 "FerroDesk" "noticeCount" "I", Cond.fieldLink RX3 21 "FerroDesk" "notices" "[LFerroDesk$Notice;", Cond.fieldLink RX3 41 "FerroDesk" "hour" "I", Cond.methodLink RX3 48 yX3_checkDistrict, Cond.static yX3_checkDistrict, Cond.code yX3_checkDistrict cX3_checkDistrict 1 none, Cond.classLink RX3 51 "java/lang/IllegalArgumentException", Cond.initialized "java/lang/IllegalArgumentException", Cond.methodLink RX3 129 yX1_isQueuedIn, Cond.instanceMethod yX1_isQueuedIn, Cond.selects RX1 yX1_isQueuedIn yX1_isQueuedIn, Cond.initialized RX1, Cond.code yX1_isQueuedIn cX1_isQueuedIn 3 (some .boolean), Cond.fieldLink RX1 35 "FerroDesk$Notice" "districts" "I", Cond.static yX3_bitOf, Cond.code yX3_bitOf cX3_bitOf 2 (some .int), Cond.methodLink RX1 45 yX1_isOver, Cond.instanceMethod yX1_isOver]
def wsL_queued_r2 : List Cond := [Cond.selects RX1 yX1_isOver yX1_isOver, Cond.code yX1_isOver cX1_isOver 2 (some .boolean), Cond.fieldLink RX1 25 "FerroDesk$Notice" "till" "I"]
def wsL_queued : List Cond := .codeWith yL_queued cL_queued 4 (some .int) [(0, 9, 12, 13)] :: ((wsL_queued_r1 ++ wsL_queued_r2) ++ wsX30 ++ wsX10 ++ (vx_atM "java/lang/ArrayIndexOutOfBoundsException" ["java/lang/IndexOutOfBoundsException", "java/lang/RuntimeException", "java/lang/Exception"]).filter goodWord ++ (vx_atS RX3 55 "java/lang/IllegalArgumentException" ["java/lang/RuntimeException", "java/lang/Exception"]).filter goodWord)
def wsL_queuedAt_r1 : List Cond := [Cond.classLink RL 13 "java/lang/IllegalArgumentException", Cond.methodLink RL 65 yX3_queuedAt, Cond.instanceMethod yX3_queuedAt, Cond.selects RX3 yX3_queuedAt yX3_queuedAt, Cond.initialized RX3, Cond.code yX3_queuedAt cX3_queuedAt 6 (some .int), Cond.classLink RX3 180 "java/lang/IndexOutOfBoundsException", Cond.initialized "java/lang/IndexOutOfBoundsException", Cond.fieldLink RX3 28 "FerroDesk" "noticeCount" "I", Cond.fieldLink RX3 25 "FerroDesk" "ranked" "[LFerroDesk$Notice;", Cond.fieldLink RX3 41 "FerroDesk" "hour" "I", Cond.methodLink RX3 48 yX3_checkDistrict, Cond.static yX3_checkDistrict, Cond.code yX3_checkDistrict cX3_checkDistrict 1 none, Cond.classLink RX3 51 "java/lang/IllegalArgumentException", Cond.initialized "java/lang/IllegalArgumentException", Cond.methodLink RX3 129 yX1_isQueuedIn, Cond.instanceMethod yX1_isQueuedIn, Cond.selects RX1 yX1_isQueuedIn yX1_isQueuedIn, Cond.initialized RX1, Cond.code yX1_isQueuedIn cX1_isQueuedIn 3 (some .boolean), Cond.fieldLink RX1 35 "FerroDesk$Notice" "districts" "I", Cond.static yX3_bitOf, Cond.code yX3_bitOf cX3_bitOf 2 (some .int)]
def wsL_queuedAt_r2 : List Cond := [Cond.methodLink RX1 45 yX1_isOver, Cond.instanceMethod yX1_isOver, Cond.selects RX1 yX1_isOver yX1_isOver, Cond.code yX1_isOver cX1_isOver 2 (some .boolean), Cond.fieldLink RX1 25 "FerroDesk$Notice" "till" "I"]
def wsL_queuedAt : List Cond := .codeWith yL_queuedAt cL_queuedAt 5 (some .int) [(0, 10, 13, 13), (0, 10, 17, 24)] :: ((wsL_queuedAt_r1 ++ wsL_queuedAt_r2) ++ wsX30 ++ wsX10 ++ (vx_atM "java/lang/ArrayIndexOutOfBoundsException" ["java/lang/IndexOutOfBoundsException", "java/lang/RuntimeException", "java/lang/Exception"]).filter goodWord ++ (vx_atS RX3 184 "java/lang/IndexOutOfBoundsException" ["java/lang/RuntimeException", "java/lang/Exception"]).filter goodWord ++ (vx_atS RX3 55 "java/lang/IllegalArgumentException" ["java/lang/RuntimeException", "java/lang/Exception"]).filter goodWord)
def wsL_isDue : List Cond := .codeWith yL_isDue cL_isDue 4 (some .int) [(0, 16, 19, 24)] :: ([.classLink RL 24 "java/lang/IndexOutOfBoundsException", .methodLink RL 68 yX3_isDue, .instanceMethod yX3_isDue, .selects RX3 yX3_isDue yX3_isDue, .initialized RX3, .code yX3_isDue cX3_isDue 2 (some .boolean), .fieldLink RX3 41 "FerroDesk" "hour" "I", .methodLink RX3 114 yX3_noticeAt, .instanceMethod yX3_noticeAt, .selects RX3 yX3_noticeAt yX3_noticeAt, .code yX3_noticeAt cX3_noticeAt 2 (some (.object "FerroDesk$Notice")), .classLink RX3 180 "java/lang/IndexOutOfBoundsException", .initialized "java/lang/IndexOutOfBoundsException", .fieldLink RX3 28 "FerroDesk" "noticeCount" "I", .fieldLink RX3 21 "FerroDesk" "notices" "[LFerroDesk$Notice;", .methodLink RX3 185 yX1_isOf, .instanceMethod yX1_isOf, .selects RX1 yX1_isOf yX1_isOf, .initialized RX1, .code yX1_isOf cX1_isOf 2 (some .boolean), .fieldLink RX1 22 "FerroDesk$Notice" "from" "I", .fieldLink RX1 25 "FerroDesk$Notice" "till" "I"] ++ wsX30 ++ wsX10 ++ (vx_atM "java/lang/ArrayIndexOutOfBoundsException" ["java/lang/IndexOutOfBoundsException", "java/lang/RuntimeException", "java/lang/Exception"]).filter goodWord ++ (vx_atS RX3 184 "java/lang/IndexOutOfBoundsException" ["java/lang/RuntimeException", "java/lang/Exception"]).filter goodWord)
def wsL_pass_r1 : List Cond := [Cond.classLink RL 24 "java/lang/IndexOutOfBoundsException", Cond.methodLink RL 71 yX3_pass, Cond.instanceMethod yX3_pass, Cond.selects RX3 yX3_pass yX3_pass, Cond.initialized RX3, Cond.code yX3_pass cX3_pass 4 (some .int), Cond.classLink RX3 51 "java/lang/IllegalArgumentException", Cond.initialized "java/lang/IllegalArgumentException", Cond.fieldLink RX3 34 "FerroDesk" "readings" "LFerroDesk$Readings;", Cond.fieldLink RX3 41 "FerroDesk" "hour" "I", Cond.methodLink RX3 69 yX3_boardAt, Cond.instanceMethod yX3_boardAt, Cond.selects RX3 yX3_boardAt yX3_boardAt, Cond.code yX3_boardAt cX3_boardAt 2 (some (.object "FerroDesk$Board")), Cond.classLink RX3 180 "java/lang/IndexOutOfBoundsException", Cond.initialized "java/lang/IndexOutOfBoundsException", Cond.fieldLink RX3 15 "FerroDesk" "boardCount" "I", Cond.fieldLink RX3 11 "FerroDesk" "boards" "[LFerroDesk$Board;", Cond.methodLink RX3 194 yX2_write, Cond.instanceMethod yX2_write, Cond.selects RX2 yX2_write yX2_write, Cond.initialized RX2, Cond.code yX2_write cX2_write 5 none, Cond.fieldLink RX2 21 "FerroDesk$Readings" "count" "I"]
def wsL_pass_r2 : List Cond := [Cond.fieldLink RX2 9 "FerroDesk$Readings" "noticeOf" "[I", Cond.fieldLink RX2 15 "FerroDesk$Readings" "hourOf" "[I", Cond.fieldLink RX2 18 "FerroDesk$Readings" "people" "[I", Cond.methodLink RX2 25 yX2_find, Cond.instanceMethod yX2_find, Cond.selects RX2 yX2_find yX2_find, Cond.code yX2_find cX2_find 4 (some .int)]
def wsL_pass : List Cond := .codeWith yL_pass cL_pass 5 (some .int) [(0, 10, 13, 24), (0, 10, 17, 13)] :: ((wsL_pass_r1 ++ wsL_pass_r2) ++ wsX00 ++ wsX10 ++ wsX30 ++ wsX20 ++ (vx_atM "java/lang/ArrayIndexOutOfBoundsException" ["java/lang/IndexOutOfBoundsException", "java/lang/RuntimeException", "java/lang/Exception"]).filter goodWord ++ (vx_atS RX3 55 "java/lang/IllegalArgumentException" ["java/lang/RuntimeException", "java/lang/Exception"]).filter goodWord ++ (vx_atS RX3 184 "java/lang/IndexOutOfBoundsException" ["java/lang/RuntimeException", "java/lang/Exception"]).filter goodWord)
def wsL_readers_r1 : List Cond := [Cond.classLink RL 24 "java/lang/IndexOutOfBoundsException", Cond.methodLink RL 74 yX3_readers, Cond.instanceMethod yX3_readers, Cond.selects RX3 yX3_readers yX3_readers, Cond.initialized RX3, Cond.code yX3_readers cX3_readers 4 (some .int), Cond.methodLink RX3 114 yX3_noticeAt, Cond.instanceMethod yX3_noticeAt, Cond.selects RX3 yX3_noticeAt yX3_noticeAt, Cond.code yX3_noticeAt cX3_noticeAt 2 (some (.object "FerroDesk$Notice")), Cond.classLink RX3 180 "java/lang/IndexOutOfBoundsException", Cond.initialized "java/lang/IndexOutOfBoundsException", Cond.fieldLink RX3 28 "FerroDesk" "noticeCount" "I", Cond.fieldLink RX3 21 "FerroDesk" "notices" "[LFerroDesk$Notice;", Cond.methodLink RX3 48 yX3_checkDistrict, Cond.static yX3_checkDistrict, Cond.code yX3_checkDistrict cX3_checkDistrict 1 none, Cond.classLink RX3 51 "java/lang/IllegalArgumentException", Cond.initialized "java/lang/IllegalArgumentException", Cond.methodLink RX3 198 yX3_readersIn, Cond.instanceMethod yX3_readersIn, Cond.selects RX3 yX3_readersIn yX3_readersIn, Cond.code yX3_readersIn cX3_readersIn 5 (some .int), Cond.fieldLink RX3 15 "FerroDesk" "boardCount" "I"]
def wsL_readers_r2 : List Cond := [Cond.fieldLink RX3 11 "FerroDesk" "boards" "[LFerroDesk$Board;"]
def wsL_readers : List Cond := .codeWith yL_readers cL_readers 5 (some .int) [(0, 10, 13, 24), (0, 10, 17, 13)] :: ((wsL_readers_r1 ++ wsL_readers_r2) ++ wsX30 ++ wsX00 ++ wsX10 ++ (vx_atM "java/lang/ArrayIndexOutOfBoundsException" ["java/lang/IndexOutOfBoundsException", "java/lang/RuntimeException", "java/lang/Exception"]).filter goodWord ++ (vx_atS RX3 184 "java/lang/IndexOutOfBoundsException" ["java/lang/RuntimeException", "java/lang/Exception"]).filter goodWord ++ (vx_atS RX3 55 "java/lang/IllegalArgumentException" ["java/lang/RuntimeException", "java/lang/Exception"]).filter goodWord)
def wsL_readIn_r1 : List Cond := [Cond.classLink RL 24 "java/lang/IndexOutOfBoundsException", Cond.methodLink RL 77 yX3_readIn, Cond.instanceMethod yX3_readIn, Cond.selects RX3 yX3_readIn yX3_readIn, Cond.initialized RX3, Cond.code yX3_readIn cX3_readIn 3 (some .int), Cond.fieldLink RX3 34 "FerroDesk" "readings" "LFerroDesk$Readings;", Cond.methodLink RX3 114 yX3_noticeAt, Cond.instanceMethod yX3_noticeAt, Cond.selects RX3 yX3_noticeAt yX3_noticeAt, Cond.code yX3_noticeAt cX3_noticeAt 2 (some (.object "FerroDesk$Notice")), Cond.classLink RX3 180 "java/lang/IndexOutOfBoundsException", Cond.initialized "java/lang/IndexOutOfBoundsException", Cond.fieldLink RX3 28 "FerroDesk" "noticeCount" "I", Cond.fieldLink RX3 21 "FerroDesk" "notices" "[LFerroDesk$Notice;", Cond.methodLink RX3 202 yX2_peopleOf, Cond.instanceMethod yX2_peopleOf, Cond.selects RX2 yX2_peopleOf yX2_peopleOf, Cond.initialized RX2, Cond.code yX2_peopleOf cX2_peopleOf 4 (some .int), Cond.fieldLink RX2 18 "FerroDesk$Readings" "people" "[I", Cond.methodLink RX2 25 yX2_find, Cond.instanceMethod yX2_find, Cond.selects RX2 yX2_find yX2_find]
def wsL_readIn_r2 : List Cond := [Cond.code yX2_find cX2_find 4 (some .int), Cond.fieldLink RX2 21 "FerroDesk$Readings" "count" "I", Cond.fieldLink RX2 9 "FerroDesk$Readings" "noticeOf" "[I", Cond.fieldLink RX2 15 "FerroDesk$Readings" "hourOf" "[I"]
def wsL_readIn : List Cond := .codeWith yL_readIn cL_readIn 5 (some .int) [(0, 10, 13, 24)] :: ((wsL_readIn_r1 ++ wsL_readIn_r2) ++ wsX30 ++ wsX10 ++ wsX20 ++ (vx_atM "java/lang/ArrayIndexOutOfBoundsException" ["java/lang/IndexOutOfBoundsException", "java/lang/RuntimeException", "java/lang/Exception"]).filter goodWord ++ (vx_atS RX3 184 "java/lang/IndexOutOfBoundsException" ["java/lang/RuntimeException", "java/lang/Exception"]).filter goodWord)
def wsL_suspects_r1 : List Cond := [Cond.classLink RL 13 "java/lang/IllegalArgumentException", Cond.methodLink RL 80 yX3_suspects, Cond.instanceMethod yX3_suspects, Cond.selects RX3 yX3_suspects yX3_suspects, Cond.initialized RX3, Cond.code yX3_suspects cX3_suspects 5 (some .int), Cond.fieldLink RX3 28 "FerroDesk" "noticeCount" "I", Cond.fieldLink RX3 21 "FerroDesk" "notices" "[LFerroDesk$Notice;", Cond.methodLink RX3 205 yX3_checkRumour, Cond.static yX3_checkRumour, Cond.code yX3_checkRumour cX3_checkRumour 2 none, Cond.classLink RX3 51 "java/lang/IllegalArgumentException", Cond.initialized "java/lang/IllegalArgumentException", Cond.methodLink RX3 48 yX3_checkDistrict, Cond.static yX3_checkDistrict, Cond.code yX3_checkDistrict cX3_checkDistrict 1 none, Cond.methodLink RX3 208 yX3_isSuspect, Cond.instanceMethod yX3_isSuspect, Cond.selects RX3 yX3_isSuspect yX3_isSuspect, Cond.code yX3_isSuspect cX3_isSuspect 4 (some .boolean), Cond.methodLink RX3 198 yX3_readersIn, Cond.instanceMethod yX3_readersIn, Cond.selects RX3 yX3_readersIn yX3_readersIn, Cond.code yX3_readersIn cX3_readersIn 5 (some .int)]
def wsL_suspects_r2 : List Cond := [Cond.fieldLink RX3 15 "FerroDesk" "boardCount" "I", Cond.fieldLink RX3 11 "FerroDesk" "boards" "[LFerroDesk$Board;", Cond.methodLink RX3 270 yX1_canHaveMade, Cond.instanceMethod yX1_canHaveMade, Cond.selects RX1 yX1_canHaveMade yX1_canHaveMade, Cond.initialized RX1, Cond.code yX1_canHaveMade cX1_canHaveMade 3 (some .boolean), Cond.fieldLink RX1 19 "FerroDesk$Notice" "picture" "I", Cond.static yX3_shifted, Cond.code yX3_shifted cX3_shifted 3 (some .int), Cond.constant RX3 283 (16843009)]
def wsL_suspects : List Cond := .codeWith yL_suspects cL_suspects 5 (some .int) [(0, 10, 13, 13)] :: ((wsL_suspects_r1 ++ wsL_suspects_r2) ++ wsX30 ++ wsX00 ++ wsX10 ++ (vx_atM "java/lang/ArrayIndexOutOfBoundsException" ["java/lang/IndexOutOfBoundsException", "java/lang/RuntimeException", "java/lang/Exception"]).filter goodWord ++ (vx_atS RX3 55 "java/lang/IllegalArgumentException" ["java/lang/RuntimeException", "java/lang/Exception"]).filter goodWord)
def wsL_suspectAt_r1 : List Cond := [Cond.classLink RL 13 "java/lang/IllegalArgumentException", Cond.methodLink RL 83 yX3_suspectAt, Cond.instanceMethod yX3_suspectAt, Cond.selects RX3 yX3_suspectAt yX3_suspectAt, Cond.initialized RX3, Cond.code yX3_suspectAt cX3_suspectAt 6 (some .int), Cond.classLink RX3 180 "java/lang/IndexOutOfBoundsException", Cond.initialized "java/lang/IndexOutOfBoundsException", Cond.fieldLink RX3 28 "FerroDesk" "noticeCount" "I", Cond.fieldLink RX3 21 "FerroDesk" "notices" "[LFerroDesk$Notice;", Cond.methodLink RX3 205 yX3_checkRumour, Cond.static yX3_checkRumour, Cond.code yX3_checkRumour cX3_checkRumour 2 none, Cond.classLink RX3 51 "java/lang/IllegalArgumentException", Cond.initialized "java/lang/IllegalArgumentException", Cond.methodLink RX3 48 yX3_checkDistrict, Cond.static yX3_checkDistrict, Cond.code yX3_checkDistrict cX3_checkDistrict 1 none, Cond.methodLink RX3 208 yX3_isSuspect, Cond.instanceMethod yX3_isSuspect, Cond.selects RX3 yX3_isSuspect yX3_isSuspect, Cond.code yX3_isSuspect cX3_isSuspect 4 (some .boolean), Cond.methodLink RX3 198 yX3_readersIn, Cond.instanceMethod yX3_readersIn]
def wsL_suspectAt_r2 : List Cond := [Cond.selects RX3 yX3_readersIn yX3_readersIn, Cond.code yX3_readersIn cX3_readersIn 5 (some .int), Cond.fieldLink RX3 15 "FerroDesk" "boardCount" "I", Cond.fieldLink RX3 11 "FerroDesk" "boards" "[LFerroDesk$Board;", Cond.methodLink RX3 270 yX1_canHaveMade, Cond.instanceMethod yX1_canHaveMade, Cond.selects RX1 yX1_canHaveMade yX1_canHaveMade, Cond.initialized RX1, Cond.code yX1_canHaveMade cX1_canHaveMade 3 (some .boolean), Cond.fieldLink RX1 19 "FerroDesk$Notice" "picture" "I", Cond.static yX3_shifted, Cond.code yX3_shifted cX3_shifted 3 (some .int), Cond.constant RX3 283 (16843009), Cond.methodLink RX3 212 yX3_suspectsAhead, Cond.instanceMethod yX3_suspectsAhead, Cond.selects RX3 yX3_suspectsAhead yX3_suspectsAhead, Cond.code yX3_suspectsAhead cX3_suspectsAhead 9 (some .int)]
def wsL_suspectAt : List Cond := .codeWith yL_suspectAt cL_suspectAt 6 (some .int) [(0, 12, 15, 13), (0, 12, 19, 24)] :: ((wsL_suspectAt_r1 ++ wsL_suspectAt_r2) ++ wsX30 ++ wsX00 ++ wsX10 ++ (vx_atM "java/lang/ArrayIndexOutOfBoundsException" ["java/lang/IndexOutOfBoundsException", "java/lang/RuntimeException", "java/lang/Exception"]).filter goodWord ++ (vx_atS RX3 184 "java/lang/IndexOutOfBoundsException" ["java/lang/RuntimeException", "java/lang/Exception"]).filter goodWord ++ (vx_atS RX3 55 "java/lang/IllegalArgumentException" ["java/lang/RuntimeException", "java/lang/Exception"]).filter goodWord)
def wsL_go_r1 : List Cond := [Cond.classLink RL 13 "java/lang/IllegalArgumentException", Cond.methodLink RL 86 yX3_go, Cond.instanceMethod yX3_go, Cond.selects RX3 yX3_go yX3_go, Cond.initialized RX3, Cond.code yX3_go cX3_go 4 (some .int), Cond.classLink RX3 51 "java/lang/IllegalArgumentException", Cond.initialized "java/lang/IllegalArgumentException", Cond.classLink RX3 58 "java/lang/IllegalStateException", Cond.initialized "java/lang/IllegalStateException", Cond.fieldLink RX3 41 "FerroDesk" "hour" "I", Cond.fieldLink RX3 15 "FerroDesk" "boardCount" "I", Cond.fieldLink RX3 11 "FerroDesk" "boards" "[LFerroDesk$Board;", Cond.methodLink RX3 222 yX3_letHourComeTo, Cond.instanceMethod yX3_letHourComeTo, Cond.selects RX3 yX3_letHourComeTo yX3_letHourComeTo, Cond.code yX3_letHourComeTo cX3_letHourComeTo 4 none, Cond.fieldLink RX3 38 "FerroDesk" "sun" "I", Cond.fieldLink RX3 28 "FerroDesk" "noticeCount" "I", Cond.fieldLink RX3 25 "FerroDesk" "ranked" "[LFerroDesk$Notice;", Cond.methodLink RX3 273 yX0_chargeBy, Cond.instanceMethod yX0_chargeBy, Cond.selects RX0 yX0_chargeBy yX0_chargeBy, Cond.initialized RX0]
def wsL_go_r2 : List Cond := [Cond.code yX0_chargeBy cX0_chargeBy 2 none, Cond.fieldLink RX0 15 "FerroDesk$Board" "charge" "I", Cond.methodLink RX0 51 Lib.Math.min.name, Cond.static Lib.Math.min.name, Cond.initialized "java/lang/Math", Cond.code Lib.Math.min.name Lib.Math.min.code 2 (some .int), Cond.methodLink RX3 185 yX1_isOf, Cond.instanceMethod yX1_isOf, Cond.selects RX1 yX1_isOf yX1_isOf, Cond.initialized RX1, Cond.code yX1_isOf cX1_isOf 2 (some .boolean), Cond.fieldLink RX1 22 "FerroDesk$Notice" "from" "I", Cond.fieldLink RX1 25 "FerroDesk$Notice" "till" "I", Cond.methodLink RX3 276 yX0_wipe, Cond.instanceMethod yX0_wipe, Cond.selects RX0 yX0_wipe yX0_wipe, Cond.code yX0_wipe cX0_wipe 1 none, Cond.fieldLink RX0 29 "FerroDesk$Board" "black" "I", Cond.fieldLink RX0 18 "FerroDesk$Board" "shown" "LFerroDesk$Notice;", Cond.fieldLink RX0 22 "FerroDesk$Board" "shiftedBy" "I", Cond.methodLink RX0 66 yX0_change, Cond.instanceMethod yX0_change, Cond.selects RX0 yX0_change yX0_change, Cond.code yX0_change cX0_change 3 none]
def wsL_go_r3 : List Cond := [Cond.fieldLink RX0 48 "FerroDesk$Board" "timesChanged" "I", Cond.fieldLink RX0 45 "FerroDesk$Board" "changed" "[I", Cond.methodLink RX0 60 yJ6_bitCount_0f7a4, Cond.static yJ6_bitCount_0f7a4, Cond.initialized RJ6, Cond.code yJ6_bitCount_0f7a4 cJ6_bitCount_0f7a4 1 (some .int), Cond.constant RJ6 265 (1431655765), Cond.constant RJ6 266 (858993459), Cond.constant RJ6 267 (252645135), Cond.static yX3_bitOf, Cond.code yX3_bitOf cX3_bitOf 2 (some .int), Cond.methodLink RX0 88 yX0_wearOut, Cond.instanceMethod yX0_wearOut, Cond.selects RX0 yX0_wearOut yX0_wearOut, Cond.code yX0_wearOut cX0_wearOut 4 none, Cond.fieldLink RX0 32 "FerroDesk$Board" "wearByCell" "[I", Cond.fieldLink RX0 36 "FerroDesk$Board" "greatestWear" "I", Cond.fieldLink RX0 39 "FerroDesk$Board" "mostWorn" "I", Cond.fieldLink RX0 42 "FerroDesk$Board" "wornOut" "I", Cond.methodLink RX3 129 yX1_isQueuedIn, Cond.instanceMethod yX1_isQueuedIn, Cond.selects RX1 yX1_isQueuedIn yX1_isQueuedIn, Cond.code yX1_isQueuedIn cX1_isQueuedIn 3 (some .boolean), Cond.fieldLink RX1 35 "FerroDesk$Notice" "districts" "I"]
def wsL_go_r4 : List Cond := [Cond.methodLink RX1 45 yX1_isOver, Cond.instanceMethod yX1_isOver, Cond.selects RX1 yX1_isOver yX1_isOver, Cond.code yX1_isOver cX1_isOver 2 (some .boolean), Cond.methodLink RX3 279 yX0_takesUp, Cond.instanceMethod yX0_takesUp, Cond.selects RX0 yX0_takesUp yX0_takesUp, Cond.code yX0_takesUp cX0_takesUp 3 (some .boolean), Cond.methodLink RX0 75 yX0_bestShift, Cond.instanceMethod yX0_bestShift, Cond.selects RX0 yX0_bestShift yX0_bestShift, Cond.code yX0_bestShift cX0_bestShift 9 (some .int), Cond.static yX3_shifted, Cond.code yX3_shifted cX3_shifted 3 (some .int), Cond.constant RX3 283 (16843009), Cond.methodLink RX0 81 yX0_canTurnTo, Cond.instanceMethod yX0_canTurnTo, Cond.selects RX0 yX0_canTurnTo yX0_canTurnTo, Cond.code yX0_canTurnTo cX0_canTurnTo 3 (some .boolean), Cond.methodLink RX0 85 yX0_greatestWearBehind, Cond.instanceMethod yX0_greatestWearBehind, Cond.selects RX0 yX0_greatestWearBehind yX0_greatestWearBehind, Cond.code yX0_greatestWearBehind cX0_greatestWearBehind 2 (some .int)]
def wsL_go : List Cond := .codeWith yL_go cL_go 4 (some .int) [(0, 9, 12, 13), (0, 9, 15, 15)] :: ((wsL_go_r1 ++ (wsL_go_r2 ++ (wsL_go_r3 ++ wsL_go_r4))) ++ wsX30 ++ wsX00 ++ wsX10 ++ (vx_atM "java/lang/ArrayIndexOutOfBoundsException" ["java/lang/IndexOutOfBoundsException", "java/lang/RuntimeException", "java/lang/Exception"]).filter goodWord ++ (vx_atS RX3 55 "java/lang/IllegalArgumentException" ["java/lang/RuntimeException", "java/lang/Exception"]).filter goodWord ++ (vx_atS RX3 62 "java/lang/IllegalStateException" ["java/lang/RuntimeException", "java/lang/Exception"]).filter goodWord)
def wsL_cellAnew_r1 : List Cond := [Cond.classLink RL 24 "java/lang/IndexOutOfBoundsException", Cond.methodLink RL 89 yX3_cellAnew, Cond.instanceMethod yX3_cellAnew, Cond.selects RX3 yX3_cellAnew yX3_cellAnew, Cond.initialized RX3, Cond.code yX3_cellAnew cX3_cellAnew 5 (some .int), Cond.methodLink RX3 69 yX3_boardAt, Cond.instanceMethod yX3_boardAt, Cond.selects RX3 yX3_boardAt yX3_boardAt, Cond.code yX3_boardAt cX3_boardAt 2 (some (.object "FerroDesk$Board")), Cond.classLink RX3 180 "java/lang/IndexOutOfBoundsException", Cond.initialized "java/lang/IndexOutOfBoundsException", Cond.fieldLink RX3 15 "FerroDesk" "boardCount" "I", Cond.fieldLink RX3 11 "FerroDesk" "boards" "[LFerroDesk$Board;", Cond.methodLink RX3 226 yX0_blackAnew, Cond.instanceMethod yX0_blackAnew, Cond.selects RX0 yX0_blackAnew yX0_blackAnew, Cond.initialized RX0, Cond.code yX0_blackAnew cX0_blackAnew 3 (some .int), Cond.fieldLink RX0 48 "FerroDesk$Board" "timesChanged" "I", Cond.fieldLink RX0 45 "FerroDesk$Board" "changed" "[I", Cond.methodLink RX3 79 yX3_cellAt, Cond.static yX3_cellAt, Cond.code yX3_cellAt cX3_cellAt 2 (some .int)]
def wsL_cellAnew_r2 : List Cond := [Cond.methodLink RX3 83 yX3_bitOf, Cond.static yX3_bitOf, Cond.code yX3_bitOf cX3_bitOf 2 (some .int)]
def wsL_cellAnew : List Cond := .codeWith yL_cellAnew cL_cellAnew 6 (some .int) [(0, 12, 15, 24)] :: ((wsL_cellAnew_r1 ++ wsL_cellAnew_r2) ++ wsX30 ++ wsX00 ++ (vx_atM "java/lang/ArrayIndexOutOfBoundsException" ["java/lang/IndexOutOfBoundsException", "java/lang/RuntimeException", "java/lang/Exception"]).filter goodWord ++ (vx_atS RX3 184 "java/lang/IndexOutOfBoundsException" ["java/lang/RuntimeException", "java/lang/Exception"]).filter goodWord)
def wsL_worst : List Cond := .codeWith yL_worst cL_worst 4 (some .int) [(0, 9, 12, 24)] :: ([.classLink RL 24 "java/lang/IndexOutOfBoundsException", .methodLink RL 92 yX3_worst, .instanceMethod yX3_worst, .selects RX3 yX3_worst yX3_worst, .initialized RX3, .code yX3_worst cX3_worst 2 (some .int), .methodLink RX3 69 yX3_boardAt, .instanceMethod yX3_boardAt, .selects RX3 yX3_boardAt yX3_boardAt, .code yX3_boardAt cX3_boardAt 2 (some (.object "FerroDesk$Board")), .classLink RX3 180 "java/lang/IndexOutOfBoundsException", .initialized "java/lang/IndexOutOfBoundsException", .fieldLink RX3 15 "FerroDesk" "boardCount" "I", .fieldLink RX3 11 "FerroDesk" "boards" "[LFerroDesk$Board;"] ++ wsX00 ++ wsX30 ++ (vx_atM "java/lang/ArrayIndexOutOfBoundsException" ["java/lang/IndexOutOfBoundsException", "java/lang/RuntimeException", "java/lang/Exception"]).filter goodWord ++ (vx_atS RX3 184 "java/lang/IndexOutOfBoundsException" ["java/lang/RuntimeException", "java/lang/Exception"]).filter goodWord)
def wsL_shownShare : List Cond := .codeWith yL_shownShare cL_shownShare 3 (some .int) [(0, 8, 11, 99)] :: ([.classLink RL 99 "java/lang/ArithmeticException", .methodLink RL 95 yX3_shownShare, .instanceMethod yX3_shownShare, .selects RX3 yX3_shownShare yX3_shownShare, .initialized RX3, .code yX3_shownShare cX3_shownShare 3 (some .float), .classLink RX3 238 "java/lang/ArithmeticException", .initialized "java/lang/ArithmeticException", .fieldLink RX3 15 "FerroDesk" "boardCount" "I", .fieldLink RX3 11 "FerroDesk" "boards" "[LFerroDesk$Board;"] ++ wsX30 ++ wsX00 ++ (vx_atM "java/lang/ArrayIndexOutOfBoundsException" ["java/lang/IndexOutOfBoundsException", "java/lang/RuntimeException", "java/lang/Exception"]).filter goodWord ++ (vx_atS RX3 242 "java/lang/ArithmeticException" ["java/lang/RuntimeException", "java/lang/Exception"]).filter goodWord)
def wsL_meanWear : List Cond := .codeWith yL_meanWear cL_meanWear 3 (some .int) [(0, 7, 10, 99)] :: ([.classLink RL 99 "java/lang/ArithmeticException", .methodLink RL 101 yX3_meanWear, .instanceMethod yX3_meanWear, .selects RX3 yX3_meanWear yX3_meanWear, .initialized RX3, .code yX3_meanWear cX3_meanWear 1 (some .double), .classLink RX3 238 "java/lang/ArithmeticException", .initialized "java/lang/ArithmeticException", .fieldLink RX3 15 "FerroDesk" "boardCount" "I", .methodLink RX3 243 yX3_changes, .instanceMethod yX3_changes, .selects RX3 yX3_changes yX3_changes, .code yX3_changes cX3_changes 4 (some .long), .fieldLink RX3 11 "FerroDesk" "boards" "[LFerroDesk$Board;", .methodLink RX3 230 yX0_wearOfAll, .instanceMethod yX0_wearOfAll, .selects RX0 yX0_wearOfAll yX0_wearOfAll, .initialized RX0, .code yX0_wearOfAll cX0_wearOfAll 3 (some .int), .fieldLink RX0 32 "FerroDesk$Board" "wearByCell" "[I"] ++ wsX30 ++ wsX00 ++ (vx_atM "java/lang/ArrayIndexOutOfBoundsException" ["java/lang/IndexOutOfBoundsException", "java/lang/RuntimeException", "java/lang/Exception"]).filter goodWord ++ (vx_atS RX3 242 "java/lang/ArithmeticException" ["java/lang/RuntimeException", "java/lang/Exception"]).filter goodWord)
def wsL_law0_r1 : List Cond := [Cond.classLink RL 8 RX3, Cond.instantiable RX3 8, Cond.initialized RX3, Cond.classLink RL 106 RX4, Cond.instantiable RX4 22, Cond.initialized RX4, Cond.arrayClass .long, Cond.arrayClass .double, Cond.methodLink RL 105 yX3_init, Cond.instanceMethod yX3_init, Cond.code yX3_init cX3_init 3 none, Cond.methodLink RX3 3 objectInit, Cond.instanceMethod objectInit, Cond.code objectInit ⟨#[0xb1]⟩ 1 none, Cond.classLink RX3 9 RX0, Cond.fieldLink RX3 11 "FerroDesk" "boards" "[LFerroDesk$Board;", Cond.fieldLink RX3 15 "FerroDesk" "boardCount" "I", Cond.classLink RX3 19 RX1, Cond.fieldLink RX3 21 "FerroDesk" "notices" "[LFerroDesk$Notice;", Cond.fieldLink RX3 25 "FerroDesk" "ranked" "[LFerroDesk$Notice;", Cond.fieldLink RX3 28 "FerroDesk" "noticeCount" "I", Cond.classLink RX3 31 RX2, Cond.instantiable RX2 4, Cond.initialized RX2]
def wsL_law0_r2 : List Cond := [Cond.fieldLink RX3 34 "FerroDesk" "readings" "LFerroDesk$Readings;", Cond.fieldLink RX3 38 "FerroDesk" "sun" "I", Cond.fieldLink RX3 41 "FerroDesk" "hour" "I", Cond.instantiable RX0 12, Cond.initialized RX0, Cond.instantiable RX1 9, Cond.initialized RX1, Cond.instanceMethod yX2_init, Cond.code yX2_init cX2_init 1 none, Cond.methodLink RX2 3 objectInit, Cond.arrayClass .int, Cond.fieldLink RX2 9 "FerroDesk$Readings" "noticeOf" "[I", Cond.fieldLink RX2 15 "FerroDesk$Readings" "hourOf" "[I", Cond.fieldLink RX2 18 "FerroDesk$Readings" "people" "[I", Cond.fieldLink RX2 21 "FerroDesk$Readings" "count" "I", Cond.instanceMethod yX0_init, Cond.code yX0_init cX0_init 1 none, Cond.methodLink RX0 3 objectInit, Cond.fieldLink RX0 9 "FerroDesk$Board" "district" "I", Cond.fieldLink RX0 15 "FerroDesk$Board" "charge" "I", Cond.fieldLink RX0 18 "FerroDesk$Board" "shown" "LFerroDesk$Notice;", Cond.fieldLink RX0 22 "FerroDesk$Board" "shiftedBy" "I", Cond.fieldLink RX0 25 "FerroDesk$Board" "asleep" "Z", Cond.fieldLink RX0 29 "FerroDesk$Board" "black" "I"]
def wsL_law0_r3 : List Cond := [Cond.fieldLink RX0 32 "FerroDesk$Board" "wearByCell" "[I", Cond.fieldLink RX0 36 "FerroDesk$Board" "greatestWear" "I", Cond.fieldLink RX0 39 "FerroDesk$Board" "mostWorn" "I", Cond.fieldLink RX0 42 "FerroDesk$Board" "wornOut" "I", Cond.fieldLink RX0 45 "FerroDesk$Board" "changed" "[I", Cond.fieldLink RX0 48 "FerroDesk$Board" "timesChanged" "I", Cond.methodLink RX3 45 yX1_init, Cond.instanceMethod yX1_init, Cond.code yX1_init cX1_init 2 none, Cond.methodLink RX1 3 objectInit, Cond.fieldLink RX1 9 "FerroDesk$Notice" "readersAt" "[I", Cond.fieldLink RX1 15 "FerroDesk$Notice" "rank" "I", Cond.fieldLink RX1 19 "FerroDesk$Notice" "picture" "I", Cond.fieldLink RX1 22 "FerroDesk$Notice" "from" "I", Cond.fieldLink RX1 25 "FerroDesk$Notice" "till" "I", Cond.fieldLink RX1 28 "FerroDesk$Notice" "mended" "Z", Cond.fieldLink RX1 32 "FerroDesk$Notice" "takenBack" "Z", Cond.fieldLink RX1 35 "FerroDesk$Notice" "districts" "I", Cond.fieldLink RX1 38 "FerroDesk$Notice" "number" "I", Cond.methodLink RL 108 yX4_init, Cond.instanceMethod yX4_init, Cond.code yX4_init cX4_init 1 none, Cond.methodLink RX4 1 objectInit, Cond.fieldLink RX4 7 "FerroDeskModel" "light" "I"]
def wsL_law0_r4 : List Cond := [Cond.fieldLink RX4 13 "FerroDeskModel" "districtOf" "[I", Cond.fieldLink RX4 17 "FerroDeskModel" "charge" "[I", Cond.fieldLink RX4 20 "FerroDeskModel" "shown" "[I", Cond.fieldLink RX4 23 "FerroDeskModel" "shift" "[I", Cond.arrayClass .boolean, Cond.fieldLink RX4 26 "FerroDeskModel" "isAsleep" "[Z", Cond.fieldLink RX4 30 "FerroDeskModel" "isBlack" "[Z", Cond.fieldLink RX4 33 "FerroDeskModel" "wear" "[I", Cond.fieldLink RX4 36 "FerroDeskModel" "rank" "[I", Cond.fieldLink RX4 39 "FerroDeskModel" "picture" "[I", Cond.fieldLink RX4 42 "FerroDeskModel" "from" "[I", Cond.fieldLink RX4 45 "FerroDeskModel" "till" "[I", Cond.fieldLink RX4 48 "FerroDeskModel" "isBack" "[Z", Cond.fieldLink RX4 51 "FerroDeskModel" "isMended" "[Z", Cond.fieldLink RX4 54 "FerroDeskModel" "isQueued" "[Z", Cond.fieldLink RX4 57 "FerroDeskModel" "readAt" "[I", Cond.constant RX4 60 (80040), Cond.fieldLink RX4 61 "FerroDeskModel" "readIn" "[I", Cond.methodLink RL 109 yL_addBoard, Cond.static yL_addBoard, Cond.initialized RL, Cond.codeWith yL_addBoard cL_addBoard 5 (some .int) [(0, 10, 13, 13), (0, 10, 17, 15)], Cond.classLink RL 13 "java/lang/IllegalArgumentException", Cond.methodLink RL 7 yX3_addBoard]
def wsL_law0_r5 : List Cond := [Cond.instanceMethod yX3_addBoard, Cond.selects RX3 yX3_addBoard yX3_addBoard, Cond.code yX3_addBoard cX3_addBoard 3 (some .int), Cond.classLink RX3 51 "java/lang/IllegalArgumentException", Cond.initialized "java/lang/IllegalArgumentException", Cond.classLink RX3 58 "java/lang/IllegalStateException", Cond.initialized "java/lang/IllegalStateException", Cond.methodLink RX3 48 yX3_checkDistrict, Cond.static yX3_checkDistrict, Cond.code yX3_checkDistrict cX3_checkDistrict 1 none, Cond.methodLink RX3 63 yX0_settle, Cond.instanceMethod yX0_settle, Cond.selects RX0 yX0_settle yX0_settle, Cond.code yX0_settle cX0_settle 3 none, Cond.methodLink RL 114 yX4_addBoard, Cond.instanceMethod yX4_addBoard, Cond.selects RX4 yX4_addBoard yX4_addBoard, Cond.code yX4_addBoard cX4_addBoard 3 (some .int), Cond.fieldLink RX4 64 "FerroDeskModel" "thrown" "I", Cond.fieldLink RX4 67 "FerroDeskModel" "boards" "I", Cond.methodLink RX4 80 yX4_noDistrict, Cond.static yX4_noDistrict, Cond.code yX4_noDistrict cX4_noDistrict 1 (some .boolean), Cond.methodLink RX4 70 yX4_in]
def wsL_law0_r6 : List Cond := [Cond.static yX4_in, Cond.code yX4_in cX4_in 3 (some .boolean), Cond.methodLink RX4 84 yX4_fails, Cond.instanceMethod yX4_fails, Cond.selects RX4 yX4_fails yX4_fails, Cond.code yX4_fails cX4_fails 3 (some .boolean), Cond.methodLink RL 115 yL_setSun, Cond.static yL_setSun, Cond.codeWith yL_setSun cL_setSun 4 (some .int) [(0, 9, 12, 13)], Cond.methodLink RL 17 yX3_setSun, Cond.instanceMethod yX3_setSun, Cond.selects RX3 yX3_setSun yX3_setSun, Cond.code yX3_setSun cX3_setSun 3 (some .int), Cond.methodLink RL 118 yX4_setSun, Cond.instanceMethod yX4_setSun, Cond.selects RX4 yX4_setSun yX4_setSun, Cond.code yX4_setSun cX4_setSun 3 (some .int), Cond.methodLink RL 119 yL_charge, Cond.static yL_charge, Cond.codeWith yL_charge cL_charge 4 (some .int) [(0, 9, 12, 24)], Cond.classLink RL 24 "java/lang/IndexOutOfBoundsException", Cond.methodLink RL 21 yX3_charge, Cond.instanceMethod yX3_charge, Cond.selects RX3 yX3_charge yX3_charge]
def wsL_law0_r7 : List Cond := [Cond.code yX3_charge cX3_charge 2 (some .int), Cond.methodLink RX3 69 yX3_boardAt, Cond.instanceMethod yX3_boardAt, Cond.selects RX3 yX3_boardAt yX3_boardAt, Cond.code yX3_boardAt cX3_boardAt 2 (some (.object "FerroDesk$Board")), Cond.classLink RX3 180 "java/lang/IndexOutOfBoundsException", Cond.initialized "java/lang/IndexOutOfBoundsException", Cond.methodLink RL 121 yX4_charge, Cond.instanceMethod yX4_charge, Cond.selects RX4 yX4_charge yX4_charge, Cond.code yX4_charge cX4_charge 2 (some .int), Cond.methodLink RX4 88 yX4_noBoard, Cond.instanceMethod yX4_noBoard, Cond.selects RX4 yX4_noBoard yX4_noBoard, Cond.code yX4_noBoard cX4_noBoard 2 (some .boolean), Cond.methodLink RL 122 yL_cell, Cond.static yL_cell, Cond.codeWith yL_cell cL_cell 6 (some .int) [(0, 12, 15, 24)], Cond.methodLink RL 26 yX3_cell, Cond.instanceMethod yX3_cell, Cond.selects RX3 yX3_cell yX3_cell, Cond.code yX3_cell cX3_cell 5 (some .int), Cond.methodLink RX3 79 yX3_cellAt, Cond.static yX3_cellAt]
def wsL_law0_r8 : List Cond := [Cond.code yX3_cellAt cX3_cellAt 2 (some .int), Cond.methodLink RX3 83 yX3_bitOf, Cond.static yX3_bitOf, Cond.code yX3_bitOf cX3_bitOf 2 (some .int), Cond.methodLink RL 125 yX4_cell, Cond.instanceMethod yX4_cell, Cond.selects RX4 yX4_cell yX4_cell, Cond.code yX4_cell cX4_cell 4 (some .int), Cond.methodLink RX4 91 yX4_noCell, Cond.instanceMethod yX4_noCell, Cond.selects RX4 yX4_noCell yX4_noCell, Cond.code yX4_noCell cX4_noCell 4 (some .boolean), Cond.methodLink RL 126 yL_wear, Cond.static yL_wear, Cond.codeWith yL_wear cL_wear 6 (some .int) [(0, 12, 15, 24)], Cond.methodLink RL 30 yX3_wear, Cond.instanceMethod yX3_wear, Cond.selects RX3 yX3_wear yX3_wear, Cond.code yX3_wear cX3_wear 5 (some .int), Cond.methodLink RX3 86 yX0_wearOf, Cond.instanceMethod yX0_wearOf, Cond.selects RX0 yX0_wearOf yX0_wearOf, Cond.code yX0_wearOf cX0_wearOf 2 (some .int), Cond.methodLink RL 128 yX4_wear]
def wsL_law0_r9 : List Cond := [Cond.instanceMethod yX4_wear, Cond.selects RX4 yX4_wear yX4_wear, Cond.code yX4_wear cX4_wear 4 (some .int), Cond.methodLink RL 129 yL_shows, Cond.static yL_shows, Cond.codeWith yL_shows cL_shows 4 (some .int) [(0, 9, 12, 24)], Cond.methodLink RL 33 yX3_shows, Cond.instanceMethod yX3_shows, Cond.selects RX3 yX3_shows yX3_shows, Cond.code yX3_shows cX3_shows 3 (some .int), Cond.methodLink RL 131 yX4_shows, Cond.instanceMethod yX4_shows, Cond.selects RX4 yX4_shows yX4_shows, Cond.code yX4_shows cX4_shows 2 (some .int), Cond.methodLink RL 132 yL_shift, Cond.static yL_shift, Cond.codeWith yL_shift cL_shift 4 (some .int) [(0, 9, 12, 24)], Cond.methodLink RL 36 yX3_shift, Cond.instanceMethod yX3_shift, Cond.selects RX3 yX3_shift yX3_shift, Cond.code yX3_shift cX3_shift 2 (some .int), Cond.methodLink RL 134 yX4_shift, Cond.instanceMethod yX4_shift, Cond.selects RX4 yX4_shift yX4_shift]
def wsL_law0_r10 : List Cond := [Cond.code yX4_shift cX4_shift 2 (some .int), Cond.methodLink RL 135 yL_sleeps, Cond.static yL_sleeps, Cond.codeWith yL_sleeps cL_sleeps 4 (some .int) [(0, 16, 19, 24)], Cond.methodLink RL 39 yX3_sleeps, Cond.instanceMethod yX3_sleeps, Cond.selects RX3 yX3_sleeps yX3_sleeps, Cond.code yX3_sleeps cX3_sleeps 2 (some .boolean), Cond.methodLink RL 137 yX4_sleeps, Cond.instanceMethod yX4_sleeps, Cond.selects RX4 yX4_sleeps yX4_sleeps, Cond.code yX4_sleeps cX4_sleeps 2 (some .boolean), Cond.methodLink RL 138 yL_post, Cond.static yL_post, Cond.codeWith yL_post cL_post 7 (some .int) [(0, 14, 17, 13), (0, 14, 21, 15)], Cond.methodLink RL 43 yX3_post, Cond.instanceMethod yX3_post, Cond.selects RX3 yX3_post yX3_post, Cond.code yX3_post cX3_post 5 (some .int), Cond.methodLink RX3 110 yX3_take, Cond.instanceMethod yX3_take, Cond.selects RX3 yX3_take yX3_take, Cond.code yX3_take cX3_take 7 (some (.object "FerroDesk$Notice")), Cond.methodLink RX3 263 yX1_fill]
def wsL_law0_r11 : List Cond := [Cond.instanceMethod yX1_fill, Cond.selects RX1 yX1_fill yX1_fill, Cond.code yX1_fill cX1_fill 5 none, Cond.methodLink RL 141 yX4_post, Cond.instanceMethod yX4_post, Cond.selects RX4 yX4_post yX4_post, Cond.code yX4_post cX4_post 6 (some .int), Cond.fieldLink RX4 74 "FerroDeskModel" "notices" "I", Cond.methodLink RX4 94 yX4_add, Cond.instanceMethod yX4_add, Cond.selects RX4 yX4_add yX4_add, Cond.code yX4_add cX4_add 5 (some .int), Cond.methodLink RL 142 yL_queue, Cond.static yL_queue, Cond.codeWith yL_queue cL_queue 5 (some .int) [(0, 17, 20, 24), (0, 17, 24, 13), (0, 17, 28, 51)], Cond.methodLink RL 47 yX3_queue, Cond.instanceMethod yX3_queue, Cond.selects RX3 yX3_queue yX3_queue, Cond.code yX3_queue cX3_queue 5 (some .boolean), Cond.classLink RX3 124 "java/lang/UnsupportedOperationException", Cond.initialized "java/lang/UnsupportedOperationException", Cond.methodLink RX3 114 yX3_noticeAt, Cond.instanceMethod yX3_noticeAt, Cond.selects RX3 yX3_noticeAt yX3_noticeAt]
def wsL_law0_r12 : List Cond := [Cond.code yX3_noticeAt cX3_noticeAt 2 (some (.object "FerroDesk$Notice")), Cond.methodLink RX3 129 yX1_isQueuedIn, Cond.instanceMethod yX1_isQueuedIn, Cond.selects RX1 yX1_isQueuedIn yX1_isQueuedIn, Cond.code yX1_isQueuedIn cX1_isQueuedIn 3 (some .boolean), Cond.methodLink RX1 45 yX1_isOver, Cond.instanceMethod yX1_isOver, Cond.selects RX1 yX1_isOver yX1_isOver, Cond.code yX1_isOver cX1_isOver 2 (some .boolean), Cond.methodLink RX3 133 yX1_putInto, Cond.instanceMethod yX1_putInto, Cond.selects RX1 yX1_putInto yX1_putInto, Cond.code yX1_putInto cX1_putInto 2 none, Cond.methodLink RL 144 yX4_queue, Cond.instanceMethod yX4_queue, Cond.selects RX4 yX4_queue yX4_queue, Cond.code yX4_queue cX4_queue 4 (some .boolean), Cond.methodLink RX4 98 yX4_noNotice, Cond.instanceMethod yX4_noNotice, Cond.selects RX4 yX4_noNotice yX4_noNotice, Cond.code yX4_noNotice cX4_noNotice 2 (some .boolean), Cond.methodLink RL 145 yL_takeBack, Cond.static yL_takeBack, Cond.codeWith yL_takeBack cL_takeBack 5 (some .int) [(0, 10, 13, 24), (0, 10, 17, 13), (0, 10, 21, 51)]]
def wsL_law0_r13 : List Cond := [Cond.methodLink RL 53 yX3_takeBack, Cond.instanceMethod yX3_takeBack, Cond.selects RX3 yX3_takeBack yX3_takeBack, Cond.code yX3_takeBack cX3_takeBack 4 (some .int), Cond.methodLink RX3 143 yX3_boardsThatShow, Cond.instanceMethod yX3_boardsThatShow, Cond.selects RX3 yX3_boardsThatShow yX3_boardsThatShow, Cond.code yX3_boardsThatShow cX3_boardsThatShow 4 (some .int), Cond.methodLink RL 147 yX4_takeBack, Cond.instanceMethod yX4_takeBack, Cond.selects RX4 yX4_takeBack yX4_takeBack, Cond.code yX4_takeBack cX4_takeBack 5 (some .int), Cond.fieldLink RX4 101 "FerroDeskModel" "hour" "I", Cond.methodLink RL 148 yL_mend, Cond.static yL_mend, Cond.codeWith yL_mend cL_mend 5 (some .int) [(0, 10, 13, 24), (0, 10, 17, 13), (0, 10, 21, 51), (0, 10, 25, 15)], Cond.methodLink RL 56 yX3_mend, Cond.instanceMethod yX3_mend, Cond.selects RX3 yX3_mend yX3_mend, Cond.code yX3_mend cX3_mend 6 (some .int), Cond.methodLink RX3 161 Lib.Math.min.name, Cond.static Lib.Math.min.name, Cond.initialized "java/lang/Math", Cond.code Lib.Math.min.name Lib.Math.min.code 2 (some .int)]
def wsL_law0_r14 : List Cond := [Cond.methodLink RX3 169 Lib.Math.max.name, Cond.static Lib.Math.max.name, Cond.code Lib.Math.max.name Lib.Math.max.code 2 (some .int), Cond.methodLink RX3 152 yX1_isOver, Cond.methodLink RX3 172 yX3_queueWhereRead, Cond.instanceMethod yX3_queueWhereRead, Cond.selects RX3 yX3_queueWhereRead yX3_queueWhereRead, Cond.code yX3_queueWhereRead cX3_queueWhereRead 4 none, Cond.methodLink RX3 198 yX3_readersIn, Cond.instanceMethod yX3_readersIn, Cond.selects RX3 yX3_readersIn yX3_readersIn, Cond.code yX3_readersIn cX3_readersIn 5 (some .int), Cond.methodLink RL 150 yX4_mend, Cond.instanceMethod yX4_mend, Cond.selects RX4 yX4_mend yX4_mend, Cond.code yX4_mend cX4_mend 5 (some .int), Cond.methodLink RX4 104 yX4_least, Cond.static yX4_least, Cond.code yX4_least cX4_least 2 (some .int), Cond.methodLink RX4 108 yX4_most, Cond.static yX4_most, Cond.code yX4_most cX4_most 2 (some .int), Cond.methodLink RX4 111 yX4_readersOf, Cond.instanceMethod yX4_readersOf]
def wsL_law0_r15 : List Cond := [Cond.selects RX4 yX4_readersOf yX4_readersOf, Cond.code yX4_readersOf cX4_readersOf 5 (some .int), Cond.methodLink RL 151 yL_deny, Cond.static yL_deny, Cond.codeWith yL_deny cL_deny 6 (some .int) [(0, 12, 15, 13), (0, 12, 19, 15)], Cond.methodLink RL 59 yX3_deny, Cond.instanceMethod yX3_deny, Cond.selects RX3 yX3_deny yX3_deny, Cond.code yX3_deny cX3_deny 5 (some .int), Cond.methodLink RL 153 yX4_deny, Cond.instanceMethod yX4_deny, Cond.selects RX4 yX4_deny yX4_deny, Cond.code yX4_deny cX4_deny 6 (some .int), Cond.methodLink RL 154 yL_queued, Cond.static yL_queued, Cond.codeWith yL_queued cL_queued 4 (some .int) [(0, 9, 12, 13)], Cond.methodLink RL 62 yX3_queued, Cond.instanceMethod yX3_queued, Cond.selects RX3 yX3_queued yX3_queued, Cond.code yX3_queued cX3_queued 4 (some .int), Cond.methodLink RL 156 yX4_queued, Cond.instanceMethod yX4_queued, Cond.selects RX4 yX4_queued yX4_queued, Cond.code yX4_queued cX4_queued 2 (some .int)]
def wsL_law0_r16 : List Cond := [Cond.methodLink RX4 118 yX4_manyQueued, Cond.instanceMethod yX4_manyQueued, Cond.selects RX4 yX4_manyQueued yX4_manyQueued, Cond.code yX4_manyQueued cX4_manyQueued 4 (some .int), Cond.methodLink RX4 114 yX4_isIn, Cond.instanceMethod yX4_isIn, Cond.selects RX4 yX4_isIn yX4_isIn, Cond.code yX4_isIn cX4_isIn 3 (some .boolean), Cond.methodLink RL 157 yL_queuedAt, Cond.static yL_queuedAt, Cond.codeWith yL_queuedAt cL_queuedAt 5 (some .int) [(0, 10, 13, 13), (0, 10, 17, 24)], Cond.methodLink RL 65 yX3_queuedAt, Cond.instanceMethod yX3_queuedAt, Cond.selects RX3 yX3_queuedAt yX3_queuedAt, Cond.code yX3_queuedAt cX3_queuedAt 6 (some .int), Cond.methodLink RL 159 yX4_queuedAt, Cond.instanceMethod yX4_queuedAt, Cond.selects RX4 yX4_queuedAt yX4_queuedAt, Cond.code yX4_queuedAt cX4_queuedAt 3 (some .int), Cond.methodLink RX4 122 yX4_inQueue, Cond.instanceMethod yX4_inQueue, Cond.selects RX4 yX4_inQueue yX4_inQueue, Cond.code yX4_inQueue cX4_inQueue 6 (some .int), Cond.methodLink RL 160 yL_isDue]
def wsL_law0_r17 : List Cond := [Cond.static yL_isDue, Cond.codeWith yL_isDue cL_isDue 4 (some .int) [(0, 16, 19, 24)], Cond.methodLink RL 68 yX3_isDue, Cond.instanceMethod yX3_isDue, Cond.selects RX3 yX3_isDue yX3_isDue, Cond.code yX3_isDue cX3_isDue 2 (some .boolean), Cond.methodLink RX3 185 yX1_isOf, Cond.instanceMethod yX1_isOf, Cond.selects RX1 yX1_isOf yX1_isOf, Cond.code yX1_isOf cX1_isOf 2 (some .boolean), Cond.methodLink RL 162 yX4_isDue, Cond.instanceMethod yX4_isDue, Cond.selects RX4 yX4_isDue yX4_isDue, Cond.code yX4_isDue cX4_isDue 2 (some .boolean), Cond.methodLink RX4 125 yX4_dueNow, Cond.instanceMethod yX4_dueNow, Cond.selects RX4 yX4_dueNow yX4_dueNow, Cond.code yX4_dueNow cX4_dueNow 2 (some .boolean), Cond.methodLink RL 163 yL_pass, Cond.static yL_pass, Cond.codeWith yL_pass cL_pass 5 (some .int) [(0, 10, 13, 24), (0, 10, 17, 13)], Cond.methodLink RL 71 yX3_pass, Cond.instanceMethod yX3_pass, Cond.selects RX3 yX3_pass yX3_pass]
def wsL_law0_r18 : List Cond := [Cond.code yX3_pass cX3_pass 4 (some .int), Cond.methodLink RX3 194 yX2_write, Cond.instanceMethod yX2_write, Cond.selects RX2 yX2_write yX2_write, Cond.code yX2_write cX2_write 5 none, Cond.methodLink RX2 25 yX2_find, Cond.instanceMethod yX2_find, Cond.selects RX2 yX2_find yX2_find, Cond.code yX2_find cX2_find 4 (some .int), Cond.methodLink RL 165 yX4_pass, Cond.instanceMethod yX4_pass, Cond.selects RX4 yX4_pass yX4_pass, Cond.code yX4_pass cX4_pass 4 (some .int), Cond.methodLink RL 166 yL_readers, Cond.static yL_readers, Cond.codeWith yL_readers cL_readers 5 (some .int) [(0, 10, 13, 24), (0, 10, 17, 13)], Cond.methodLink RL 74 yX3_readers, Cond.instanceMethod yX3_readers, Cond.selects RX3 yX3_readers yX3_readers, Cond.code yX3_readers cX3_readers 4 (some .int), Cond.methodLink RL 168 yX4_readers, Cond.instanceMethod yX4_readers, Cond.selects RX4 yX4_readers yX4_readers, Cond.code yX4_readers cX4_readers 3 (some .int)]
def wsL_law0_r19 : List Cond := [Cond.methodLink RL 169 yL_readIn, Cond.static yL_readIn, Cond.codeWith yL_readIn cL_readIn 5 (some .int) [(0, 10, 13, 24)], Cond.methodLink RL 77 yX3_readIn, Cond.instanceMethod yX3_readIn, Cond.selects RX3 yX3_readIn yX3_readIn, Cond.code yX3_readIn cX3_readIn 3 (some .int), Cond.methodLink RX3 202 yX2_peopleOf, Cond.instanceMethod yX2_peopleOf, Cond.selects RX2 yX2_peopleOf yX2_peopleOf, Cond.code yX2_peopleOf cX2_peopleOf 4 (some .int), Cond.methodLink RL 171 yX4_readIn, Cond.instanceMethod yX4_readIn, Cond.selects RX4 yX4_readIn yX4_readIn, Cond.code yX4_readIn cX4_readIn 3 (some .int), Cond.methodLink RL 172 yL_suspects, Cond.static yL_suspects, Cond.codeWith yL_suspects cL_suspects 5 (some .int) [(0, 10, 13, 13)], Cond.methodLink RL 80 yX3_suspects, Cond.instanceMethod yX3_suspects, Cond.selects RX3 yX3_suspects yX3_suspects, Cond.code yX3_suspects cX3_suspects 5 (some .int), Cond.methodLink RX3 205 yX3_checkRumour, Cond.static yX3_checkRumour]
def wsL_law0_r20 : List Cond := [Cond.code yX3_checkRumour cX3_checkRumour 2 none, Cond.methodLink RX3 208 yX3_isSuspect, Cond.instanceMethod yX3_isSuspect, Cond.selects RX3 yX3_isSuspect yX3_isSuspect, Cond.code yX3_isSuspect cX3_isSuspect 4 (some .boolean), Cond.methodLink RX3 270 yX1_canHaveMade, Cond.instanceMethod yX1_canHaveMade, Cond.selects RX1 yX1_canHaveMade yX1_canHaveMade, Cond.code yX1_canHaveMade cX1_canHaveMade 3 (some .boolean), Cond.static yX3_shifted, Cond.code yX3_shifted cX3_shifted 3 (some .int), Cond.constant RX3 283 (16843009), Cond.methodLink RL 174 yX4_suspects, Cond.instanceMethod yX4_suspects, Cond.selects RX4 yX4_suspects yX4_suspects, Cond.code yX4_suspects cX4_suspects 3 (some .int), Cond.methodLink RX4 131 yX4_manySuspects, Cond.instanceMethod yX4_manySuspects, Cond.selects RX4 yX4_manySuspects yX4_manySuspects, Cond.code yX4_manySuspects cX4_manySuspects 5 (some .int), Cond.methodLink RX4 128 yX4_canHaveMade, Cond.instanceMethod yX4_canHaveMade, Cond.selects RX4 yX4_canHaveMade yX4_canHaveMade, Cond.code yX4_canHaveMade cX4_canHaveMade 8 (some .boolean)]
def wsL_law0_r21 : List Cond := [Cond.methodLink RX4 77 yX4_has, Cond.static yX4_has, Cond.code yX4_has cX4_has 4 (some .boolean), Cond.methodLink RL 175 yL_suspectAt, Cond.static yL_suspectAt, Cond.codeWith yL_suspectAt cL_suspectAt 6 (some .int) [(0, 12, 15, 13), (0, 12, 19, 24)], Cond.methodLink RL 83 yX3_suspectAt, Cond.instanceMethod yX3_suspectAt, Cond.selects RX3 yX3_suspectAt yX3_suspectAt, Cond.code yX3_suspectAt cX3_suspectAt 6 (some .int), Cond.methodLink RX3 212 yX3_suspectsAhead, Cond.instanceMethod yX3_suspectsAhead, Cond.selects RX3 yX3_suspectsAhead yX3_suspectsAhead, Cond.code yX3_suspectsAhead cX3_suspectsAhead 9 (some .int), Cond.methodLink RL 177 yX4_suspectAt, Cond.instanceMethod yX4_suspectAt, Cond.selects RX4 yX4_suspectAt yX4_suspectAt, Cond.code yX4_suspectAt cX4_suspectAt 9 (some .int), Cond.methodLink RL 178 yL_go, Cond.static yL_go, Cond.codeWith yL_go cL_go 4 (some .int) [(0, 9, 12, 13), (0, 9, 15, 15)], Cond.methodLink RL 86 yX3_go, Cond.instanceMethod yX3_go, Cond.selects RX3 yX3_go yX3_go]
def wsL_law0_r22 : List Cond := [Cond.code yX3_go cX3_go 4 (some .int), Cond.methodLink RX3 222 yX3_letHourComeTo, Cond.instanceMethod yX3_letHourComeTo, Cond.selects RX3 yX3_letHourComeTo yX3_letHourComeTo, Cond.code yX3_letHourComeTo cX3_letHourComeTo 4 none, Cond.methodLink RX3 273 yX0_chargeBy, Cond.instanceMethod yX0_chargeBy, Cond.selects RX0 yX0_chargeBy yX0_chargeBy, Cond.code yX0_chargeBy cX0_chargeBy 2 none, Cond.methodLink RX0 51 Lib.Math.min.name, Cond.methodLink RX3 276 yX0_wipe, Cond.instanceMethod yX0_wipe, Cond.selects RX0 yX0_wipe yX0_wipe, Cond.code yX0_wipe cX0_wipe 1 none, Cond.methodLink RX0 66 yX0_change, Cond.instanceMethod yX0_change, Cond.selects RX0 yX0_change yX0_change, Cond.code yX0_change cX0_change 3 none, Cond.methodLink RX0 60 yJ6_bitCount_0f7a4, Cond.static yJ6_bitCount_0f7a4, Cond.initialized RJ6, Cond.code yJ6_bitCount_0f7a4 cJ6_bitCount_0f7a4 1 (some .int), Cond.constant RJ6 265 (1431655765), Cond.constant RJ6 266 (858993459)]
def wsL_law0_r23 : List Cond := [Cond.constant RJ6 267 (252645135), Cond.methodLink RX0 88 yX0_wearOut, Cond.instanceMethod yX0_wearOut, Cond.selects RX0 yX0_wearOut yX0_wearOut, Cond.code yX0_wearOut cX0_wearOut 4 none, Cond.methodLink RX3 279 yX0_takesUp, Cond.instanceMethod yX0_takesUp, Cond.selects RX0 yX0_takesUp yX0_takesUp, Cond.code yX0_takesUp cX0_takesUp 3 (some .boolean), Cond.methodLink RX0 75 yX0_bestShift, Cond.instanceMethod yX0_bestShift, Cond.selects RX0 yX0_bestShift yX0_bestShift, Cond.code yX0_bestShift cX0_bestShift 9 (some .int), Cond.methodLink RX0 81 yX0_canTurnTo, Cond.instanceMethod yX0_canTurnTo, Cond.selects RX0 yX0_canTurnTo yX0_canTurnTo, Cond.code yX0_canTurnTo cX0_canTurnTo 3 (some .boolean), Cond.methodLink RX0 85 yX0_greatestWearBehind, Cond.instanceMethod yX0_greatestWearBehind, Cond.selects RX0 yX0_greatestWearBehind yX0_greatestWearBehind, Cond.code yX0_greatestWearBehind cX0_greatestWearBehind 2 (some .int), Cond.methodLink RL 180 yX4_go, Cond.instanceMethod yX4_go, Cond.selects RX4 yX4_go yX4_go]
def wsL_law0_r24 : List Cond := [Cond.code yX4_go cX4_go 4 (some .int), Cond.methodLink RX4 166 yX4_wipe, Cond.instanceMethod yX4_wipe, Cond.selects RX4 yX4_wipe yX4_wipe, Cond.code yX4_wipe cX4_wipe 3 none, Cond.methodLink RX4 138 yX4_change, Cond.instanceMethod yX4_change, Cond.selects RX4 yX4_change yX4_change, Cond.code yX4_change cX4_change 2 none, Cond.fieldLink RX4 134 "FerroDeskModel" "changes" "J", Cond.methodLink RX4 169 yX4_choose, Cond.instanceMethod yX4_choose, Cond.selects RX4 yX4_choose yX4_choose, Cond.code yX4_choose cX4_choose 7 none, Cond.methodLink RX4 159 yX4_shiftFor, Cond.instanceMethod yX4_shiftFor, Cond.selects RX4 yX4_shiftFor yX4_shiftFor, Cond.code yX4_shiftFor cX4_shiftFor 7 (some .int), Cond.methodLink RX4 153 yX4_can, Cond.instanceMethod yX4_can, Cond.selects RX4 yX4_can yX4_can, Cond.code yX4_can cX4_can 7 (some .boolean), Cond.methodLink RX4 146 yX4_costs, Cond.instanceMethod yX4_costs]
def wsL_law0_r25 : List Cond := [Cond.selects RX4 yX4_costs yX4_costs, Cond.code yX4_costs cX4_costs 6 (some .int), Cond.methodLink RX4 142 yX4_differs, Cond.instanceMethod yX4_differs, Cond.selects RX4 yX4_differs yX4_differs, Cond.code yX4_differs cX4_differs 5 (some .boolean), Cond.methodLink RX4 150 yX4_blacks, Cond.static yX4_blacks, Cond.code yX4_blacks cX4_blacks 3 (some .int), Cond.methodLink RX4 156 yX4_worstBehind, Cond.instanceMethod yX4_worstBehind, Cond.selects RX4 yX4_worstBehind yX4_worstBehind, Cond.code yX4_worstBehind cX4_worstBehind 6 (some .int), Cond.methodLink RX4 162 yX4_show, Cond.instanceMethod yX4_show, Cond.selects RX4 yX4_show yX4_show, Cond.code yX4_show cX4_show 5 none, Cond.methodLink RL 181 yX3_hour, Cond.instanceMethod yX3_hour, Cond.selects RX3 yX3_hour yX3_hour, Cond.code yX3_hour cX3_hour 1 (some .int), Cond.methodLink RL 185 yX4_hour, Cond.instanceMethod yX4_hour, Cond.selects RX4 yX4_hour yX4_hour]
def wsL_law0_r26 : List Cond := [Cond.code yX4_hour cX4_hour 1 (some .int), Cond.methodLink RL 186 yX3_boards, Cond.instanceMethod yX3_boards, Cond.selects RX3 yX3_boards yX3_boards, Cond.code yX3_boards cX3_boards 1 (some .int), Cond.methodLink RL 189 yX4_boards, Cond.instanceMethod yX4_boards, Cond.selects RX4 yX4_boards yX4_boards, Cond.code yX4_boards cX4_boards 1 (some .int), Cond.methodLink RL 190 yX3_notices, Cond.instanceMethod yX3_notices, Cond.selects RX3 yX3_notices yX3_notices, Cond.code yX3_notices cX3_notices 1 (some .int), Cond.methodLink RL 193 yX4_notices, Cond.instanceMethod yX4_notices, Cond.selects RX4 yX4_notices yX4_notices, Cond.code yX4_notices cX4_notices 1 (some .int), Cond.methodLink RL 194 yL_cellAnew, Cond.static yL_cellAnew, Cond.codeWith yL_cellAnew cL_cellAnew 6 (some .int) [(0, 12, 15, 24)], Cond.methodLink RL 89 yX3_cellAnew, Cond.instanceMethod yX3_cellAnew, Cond.selects RX3 yX3_cellAnew yX3_cellAnew, Cond.code yX3_cellAnew cX3_cellAnew 5 (some .int)]
def wsL_law0_r27 : List Cond := [Cond.methodLink RX3 226 yX0_blackAnew, Cond.instanceMethod yX0_blackAnew, Cond.selects RX0 yX0_blackAnew yX0_blackAnew, Cond.code yX0_blackAnew cX0_blackAnew 3 (some .int), Cond.methodLink RL 196 yX4_cellAnew, Cond.instanceMethod yX4_cellAnew, Cond.selects RX4 yX4_cellAnew yX4_cellAnew, Cond.code yX4_cellAnew cX4_cellAnew 4 (some .int), Cond.methodLink RX4 172 yX4_cell, Cond.methodLink RL 197 yX3_changes, Cond.instanceMethod yX3_changes, Cond.selects RX3 yX3_changes yX3_changes, Cond.code yX3_changes cX3_changes 4 (some .long), Cond.methodLink RX3 230 yX0_wearOfAll, Cond.instanceMethod yX0_wearOfAll, Cond.selects RX0 yX0_wearOfAll yX0_wearOfAll, Cond.code yX0_wearOfAll cX0_wearOfAll 3 (some .int), Cond.methodLink RL 201 yX4_changes, Cond.instanceMethod yX4_changes, Cond.selects RX4 yX4_changes yX4_changes, Cond.code yX4_changes cX4_changes 1 (some .long), Cond.methodLink RL 202 yL_worst, Cond.static yL_worst, Cond.codeWith yL_worst cL_worst 4 (some .int) [(0, 9, 12, 24)]]
def wsL_law0_r28 : List Cond := [Cond.methodLink RL 92 yX3_worst, Cond.instanceMethod yX3_worst, Cond.selects RX3 yX3_worst yX3_worst, Cond.code yX3_worst cX3_worst 2 (some .int), Cond.methodLink RL 204 yX4_worst, Cond.instanceMethod yX4_worst, Cond.selects RX4 yX4_worst yX4_worst, Cond.code yX4_worst cX4_worst 4 (some .int), Cond.methodLink RL 205 yX3_checksum, Cond.instanceMethod yX3_checksum, Cond.selects RX3 yX3_checksum yX3_checksum, Cond.code yX3_checksum cX3_checksum 6 (some .long), Cond.constantLong RX3 236 (31), Cond.methodLink RL 208 yX4_checksum, Cond.instanceMethod yX4_checksum, Cond.selects RX4 yX4_checksum yX4_checksum, Cond.code yX4_checksum cX4_checksum 4 (some .long), Cond.constantLong RX4 175 (31), Cond.constantLong RX4 177 (2), Cond.methodLink RL 209 yL_shownShare, Cond.static yL_shownShare, Cond.codeWith yL_shownShare cL_shownShare 3 (some .int) [(0, 8, 11, 99)], Cond.classLink RL 99 "java/lang/ArithmeticException", Cond.methodLink RL 95 yX3_shownShare]
def wsL_law0_r29 : List Cond := [Cond.instanceMethod yX3_shownShare, Cond.selects RX3 yX3_shownShare yX3_shownShare, Cond.code yX3_shownShare cX3_shownShare 3 (some .float), Cond.classLink RX3 238 "java/lang/ArithmeticException", Cond.initialized "java/lang/ArithmeticException", Cond.methodLink RL 212 yX4_shownShare, Cond.instanceMethod yX4_shownShare, Cond.selects RX4 yX4_shownShare yX4_shownShare, Cond.code yX4_shownShare cX4_shownShare 3 (some .float), Cond.methodLink RL 213 yL_meanWear, Cond.static yL_meanWear, Cond.codeWith yL_meanWear cL_meanWear 3 (some .int) [(0, 7, 10, 99)], Cond.methodLink RL 101 yX3_meanWear, Cond.instanceMethod yX3_meanWear, Cond.selects RX3 yX3_meanWear yX3_meanWear, Cond.code yX3_meanWear cX3_meanWear 1 (some .double), Cond.methodLink RX3 243 yX3_changes, Cond.methodLink RL 215 yX4_meanWear, Cond.instanceMethod yX4_meanWear, Cond.selects RX4 yX4_meanWear yX4_meanWear, Cond.code yX4_meanWear cX4_meanWear 3 (some .double), Cond.methodLink RL 216 yX3_isSound, Cond.instanceMethod yX3_isSound, Cond.selects RX3 yX3_isSound yX3_isSound]
def wsL_law0_r30 : List Cond := [Cond.code yX3_isSound cX3_isSound 4 (some .boolean), Cond.methodLink RX3 247 yX0_canWipe, Cond.instanceMethod yX0_canWipe, Cond.selects RX0 yX0_canWipe yX0_canWipe, Cond.code yX0_canWipe cX0_canWipe 2 (some .boolean), Cond.methodLink RL 220 yX4_isSound, Cond.instanceMethod yX4_isSound, Cond.selects RX4 yX4_isSound yX4_isSound, Cond.code yX4_isSound cX4_isSound 1 (some .boolean)]
def wsL_law : List Cond := wsL_law0_r1 ++ (wsL_law0_r2 ++ (wsL_law0_r3 ++ (wsL_law0_r4 ++ (wsL_law0_r5 ++ (wsL_law0_r6 ++ (wsL_law0_r7 ++ (wsL_law0_r8 ++ (wsL_law0_r9 ++ (wsL_law0_r10 ++ (wsL_law0_r11 ++ (wsL_law0_r12 ++ (wsL_law0_r13 ++ (wsL_law0_r14 ++ (wsL_law0_r15 ++ (wsL_law0_r16 ++ (wsL_law0_r17 ++ (wsL_law0_r18 ++ (wsL_law0_r19 ++ (wsL_law0_r20 ++ (wsL_law0_r21 ++ (wsL_law0_r22 ++ (wsL_law0_r23 ++ (wsL_law0_r24 ++ (wsL_law0_r25 ++ (wsL_law0_r26 ++ (wsL_law0_r27 ++ (wsL_law0_r28 ++ (wsL_law0_r29 ++ (wsL_law0_r30 ++ (wsX30 ++ (wsX40 ++ (wsX20 ++ (wsX00 ++ (wsX10 ++ ((vx_atM "java/lang/ArrayIndexOutOfBoundsException" ["java/lang/IndexOutOfBoundsException", "java/lang/RuntimeException", "java/lang/Exception"]).filter goodWord ++ ((vx_atS RX3 55 "java/lang/IllegalArgumentException" ["java/lang/RuntimeException", "java/lang/Exception"]).filter goodWord ++ ((vx_atS RX3 62 "java/lang/IllegalStateException" ["java/lang/RuntimeException", "java/lang/Exception"]).filter goodWord ++ ((vx_atS RX3 184 "java/lang/IndexOutOfBoundsException" ["java/lang/RuntimeException", "java/lang/Exception"]).filter goodWord ++ ((vx_atS RX3 128 "java/lang/UnsupportedOperationException" ["java/lang/RuntimeException", "java/lang/Exception"]).filter goodWord ++ ((vx_atS RX3 242 "java/lang/ArithmeticException" ["java/lang/RuntimeException", "java/lang/Exception"]).filter goodWord))))))))))))))))))))))))))))))))))))))))
