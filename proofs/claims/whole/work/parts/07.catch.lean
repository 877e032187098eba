/-! CATCH: a call that returns or throws; a handler of the caller's own -/
section GXc
variable {Q : Handler → Pre} {E : CtlPost} {e : Env} {d : Bool} {acts : List Action} {s : State} {f : JFrame} {a : Addr}
theorem gx_go1 {x : ExceptionTableEntry} {t : List ExceptionTableEntry} {c : ClassId} {cell : Cell} {vm1 : Vm} (hx : covers x f.pc = true) (h0 : x.catchType ≠ 0) (hg : (Jvm.resolveClass f.method.cls x.catchType).Gives e.toSetting s.vm (.ok c) vm1) (hcell : s.heap[a]? = some cell) (hobj : ∀ k, cell.vm ≠ .statics k)
    (hk : ∃ k, vm1.classes[cell.cls]? = some k) (hc : ∃ k, vm1.classes[c]? = some k) (hz : vm1.classes.size ≤ s.vm.classes.size) :
    wp (findHandler.go f a (x :: t)) Q E e d acts s ↔ if vm1.assignable cell.cls c = true then Q (.found x.handlerPc) d acts (s.setVm vm1) else wp (findHandler.go f a t) Q E e d acts (s.setVm vm1) := by
  simp only [covers] at hx
  obtain ⟨ha, ht⟩ := hg.op (op := VmOp.resolveClass f.method.cls x.catchType) rfl
  obtain ⟨k1, hk1⟩ := hk
  obtain ⟨k2, hk2⟩ := hc
  have hla := VmOp.lands_eq (op := VmOp.resolveClass f.method.cls x.catchType) (e := e) (s := s) ht hz
  cases hfit : vm1.assignable cell.cls c <;> simp [findHandler.go, hx, h0, ha, hla, hcell, hobj, hk1, hk2, hfit, VmOp.dirties, VmOp.acts]
/-- the search leads to a handler, and warms the tables -/
def gx_Fd (e : Env) (s : State) (f : JFrame) (a : Addr) (pc : Nat) (vm1 : Vm) : Prop := ∀ (Q : Handler → Pre) (E : CtlPost) (d : Bool) (acts : List Action), wp (findHandler f a) Q E e d acts s ↔ Q (.found pc) d acts (s.setVm vm1)
theorem gx_step {r : List Frame} {pc : Nat} {vm1 : Vm} (hf : gx_Fd e s f a pc vm1) : (stepThrowing e s a (.java f :: r)).Is ((s.setVm vm1).setFrames (.java { f with pc := pc, stack := [.ref a] } :: r)) [] := by
  simp only [stepThrowing, searchFrame, vmDo]
  generalize hr : Sem.go _ e false [] s = res
  obtain ⟨as, rfl, ha⟩ := Sem.eq_ok_of hr (a := Handler.found pc) (s' := s.setVm vm1) (acts' := []) (by simp [hf _ _ _ _])
  exact ⟨rfl, ha⟩
end GXc
section GXd
variable {p : Program} {l : Launch} {e : Env} {R : Room} {s : State} {m : MethodId} {args : Array Value} {below : List Frame} {meth : Method} {c : Code} {T : State} {locs : List Loc} {cells slots : Nat}
theorem gx_caught (X : Stand p l e R s m args below meth c T locs cells slots) {q : Addr} {g : JFrame} (hg : g.method = m) {pc : Nat} {vm1 : Vm} (hW : s.WarmedH vm1) (hf : gx_Fd e ((T.setTop g).pushFrame (.throwing q)) g q pc vm1) {target : State}
    (hrest : Steps p.tables e below ((T.setVm vm1).setTop { g with pc := pc, stack := [.ref q] }) target) : Steps p.tables e below ((T.setTop g).pushFrame (.throwing q)) target := by
  have h : At T g.method c below := by rw [hg]; exact X.here
  obtain ⟨hgo, hw⟩ := h.throwing q
  refine Steps.head hgo hw ?_
  rw [stepThread_throwing (frames_entered h.top _), (gx_step (s := (T.setTop g).pushFrame (.throwing q)) hf).1]
  obtain ⟨g₀, hg0⟩ := Option.isSome_iff_exists.mp h.top
  obtain ⟨r, hr⟩ := State.topJava?_eq_some.mp hg0
  have hr' : (T.setVm vm1).frames = .java g₀ :: r := hr
  rw [State.setTop_of_frames _ hr'] at hrest
  have e1 : (((T.setTop g).pushFrame (.throwing q)).setVm vm1).setFrames (.java { g with pc := pc, stack := [.ref q] } :: T.frames.tail) = (T.setVm vm1).setFrames (.java { g with pc := pc, stack := [.ref q] } :: r) := by
    rw [State.pushFrame, State.setTop_of_frames _ hr, State.setFrames_setFrames, hr]
    show (((T.setFrames _).setVm vm1)).setFrames _ = _
    rw [show (T.setFrames (.throwing q :: (T.setFrames (.java g :: r)).frames)).setVm vm1 = (T.setVm vm1).setFrames (.throwing q :: (T.setFrames (.java g :: r)).frames) from rfl, State.setFrames_setFrames]
    rfl
  rw [e1]
  exact hrest
/-- the handlers of a table of one or two rows, each with a class -/
theorem gx_find1 (X : Stand p l e R s m args below meth c T locs cells slots) {own n1 E : String} {q : Addr} {g : JFrame} (hg : g.method = m) (hown : s.vm.findClass own = some m.cls) {x : ExceptionTableEntry} {suf : List ExceptionTableEntry} (htab : c.exceptionTable.toList = x :: suf) (hx : covers x g.pc = true) (h0 : x.catchType ≠ 0)
    (hl : (Cond.classLink own x.catchType n1).before args s = true) {ce : Cell} (hcell : T.heap[q]? = some ce) (hv : ce.vm = .none) (hcl : s.vm.findClass E = some ce.cls) (hcast : (Cond.castable E n1).before args s = true) :
    ∃ vm1, s.WarmedH vm1 ∧ gx_Fd e ((T.setTop g).pushFrame (.throwing q)) g q x.handlerPc vm1 := by
  subst hg
  have hpl : e.platform.magicAccessors = ({} : Platform).magicAccessors := by rw [X.admits.platform]
  obtain ⟨c3, c4, hc3, hc4, hasg⟩ := Cond.castable_spec hcast
  cases Option.some.inj (hc3.symm.trans hcl)
  obtain ⟨c5, hc5, hcl5⟩ := Cond.classLink_spec hown hl e.platform hpl
  cases Option.some.inj (hc4.symm.trans hc5)
  obtain ⟨hg1, hw1, -⟩ := State.classEntry (e := e) X.warmed hcl5
  obtain ⟨k1, hk1⟩ := Vm.classAt_of_findClass hcl
  obtain ⟨k2, hk2⟩ := Vm.classAt_of_findClass hc4
  obtain ⟨k1', hk1', -⟩ := hw1.alike.2.2 _ _ hk1
  obtain ⟨k2', hk2', -⟩ := hw1.alike.2.2 _ _ hk2
  refine ⟨_, hw1, fun Q E9 d acts => ?_⟩
  rw [W.findHandler_eq (s := (T.setTop g).pushFrame (.throwing q)) X.method' X.code, htab, gx_go1 (s := (T.setTop g).pushFrame (.throwing q)) (cell := ce) hx h0 hg1 hcell (fun k h => by rw [hv] at h; cases h) ⟨k1', hk1'⟩ ⟨k2', hk2'⟩ (Nat.le_of_eq (Vm.size_noted ..)), if_pos (by rw [hw1.alike.assignable]; exact hasg)]
theorem gx_find2 (X : Stand p l e R s m args below meth c T locs cells slots) {own n1 n2 E : String} {q : Addr} {g : JFrame} (hg : g.method = m) (hown : s.vm.findClass own = some m.cls) {x y : ExceptionTableEntry} {suf : List ExceptionTableEntry} (htab : c.exceptionTable.toList = x :: y :: suf) (hx : covers x g.pc = true) (h0 : x.catchType ≠ 0) (hy : covers y g.pc = true) (hy0 : y.catchType ≠ 0)
    (hl : (Cond.classLink own x.catchType n1).before args s = true) (hl2 : (Cond.classLink own y.catchType n2).before args s = true) {ce : Cell} (hcell : T.heap[q]? = some ce) (hv : ce.vm = .none) (hcl : s.vm.findClass E = some ce.cls) (hno : va_Nc E n1 s) (hcast : (Cond.castable E n2).before args s = true) :
    ∃ vm1, s.WarmedH vm1 ∧ gx_Fd e ((T.setTop g).pushFrame (.throwing q)) g q y.handlerPc vm1 := by
  subst hg
  have hpl : e.platform.magicAccessors = ({} : Platform).magicAccessors := by rw [X.admits.platform]
  obtain ⟨c3, c4, hc3, hc4, hasg⟩ := Cond.castable_spec hcast
  cases Option.some.inj (hc3.symm.trans hcl)
  obtain ⟨c5, hc5, hcl5⟩ := Cond.classLink_spec hown hl2 e.platform hpl
  cases Option.some.inj (hc4.symm.trans hc5)
  obtain ⟨c6, hc6, hcl6⟩ := Cond.classLink_spec hown hl e.platform hpl
  obtain ⟨a8, b8, g1, g2, g3⟩ := hno
  cases Option.some.inj (g1.symm.trans hcl)
  cases Option.some.inj (g2.symm.trans hc6)
  obtain ⟨hg1, hw1, -⟩ := State.classEntry (e := e) X.warmed hcl6
  obtain ⟨hg2, hw2, -⟩ := State.classEntry (e := e) hw1 hcl5
  obtain ⟨k1, hk1⟩ := Vm.classAt_of_findClass hcl
  obtain ⟨k2, hk2⟩ := Vm.classAt_of_findClass hc4
  obtain ⟨k3, hk3⟩ := Vm.classAt_of_findClass hc6
  obtain ⟨k1', hk1', -⟩ := hw1.alike.2.2 _ _ hk1
  obtain ⟨k3', hk3', -⟩ := hw1.alike.2.2 _ _ hk3
  obtain ⟨k1'', hk1'', -⟩ := hw2.alike.2.2 _ _ hk1
  obtain ⟨k2'', hk2'', -⟩ := hw2.alike.2.2 _ _ hk2
  refine ⟨_, hw2, fun Q E9 d acts => ?_⟩
  rw [W.findHandler_eq (s := (T.setTop g).pushFrame (.throwing q)) X.method' X.code, htab, gx_go1 (s := (T.setTop g).pushFrame (.throwing q)) (cell := ce) hx h0 hg1 hcell (fun k h => by rw [hv] at h; cases h) ⟨k1', hk1'⟩ ⟨k3', hk3'⟩ (Nat.le_of_eq (Vm.size_noted ..)), if_neg (by rw [hw1.alike.assignable, g3]; decide)]
  rw [gx_go1 (s := ((T.setTop g).pushFrame (.throwing q)).setVm (T.vm.noted g.method.cls x.catchType (.cls c6))) (cell := ce) hy hy0 hg2 hcell (fun k h => by rw [hv] at h; cases h) ⟨k1'', hk1''⟩ ⟨k2'', hk2''⟩ (Nat.le_of_eq (Vm.size_noted ..)), if_pos (by rw [hw2.alike.assignable]; exact hasg)]
  rfl
variable {y : MethodName} {bytes : ByteArray} {maxL : Nat} {ret : Option FieldType} {rm : Room} {Pc : Array Value → State → Prop} {Qc : Array Value → State → Outcome → State → Prop} {XC : String → Prop} {mc ms : Nat} {free : Addr → Prop}
/-- a callee that returns or throws, at the point of the call -/
theorem gx_xback (X : Stand p l e R s m args below meth c T locs cells slots) (hM : gx_XM l y [.code y bytes maxL ret] rm Pc Qc XC mc ms free) (hblind : FrameBlind Pc) (hrc : rm.cells = mc) (hrs : rm.slots = ms) (hfr : rm.frames + 1 ≤ R.frames) (hlo : 8 + (maxL + 11) + rm.locals ≤ R.locals)
    (hcode : ∀ a', (Cond.code y bytes maxL ret).before a' T = true) (hini : ∀ a', (Cond.initialized y.cls).before a' T = true) {g : JFrame} {mk : MethodId} {a : Array Value} (hg : g.method = m) (hsize : g.locals.size = c.maxLocals) {ig : Instr} (hdg : decode c.code g.pc = .ok (ig, 3)) (hW8 : 2 * g.monitorRoom + (g.stack.map fun v => v.category).sum ≤ 8) (hn : T.methodNamed? y = some mk) (hp : Pc a T) (hc : cells + mc ≤ R.cells) (hs : slots + ms ≤ R.slots) :
    (∃ (v : Option Value) (T' t : State) (L : List Loc), Stand p l e R s m args below meth c T' (locs ++ L) (cells + mc) (slots + ms) ∧ (∀ q ∈ L, free q.base) ∧ T'.heap = t.heap ∧ T'.vm = t.vm ∧ Qc a (T.calling g mk a) (.returned v) t ∧ Steps p.tables e below (doInvoke e (T.setTop g) [] mk a).1 (T'.setTop { g with pc := g.pc + 3, stack := v.toList ++ g.stack }))
    ∨ (∃ (q : Addr) (E : String) (ce : Cell) (T' : State), XC E ∧ Stand p l e R s m args below meth c T' locs (cells + 1) (slots + 6) ∧ T.sameButNew (T'.setVm T.vm) [] 1 6 ∧ T'.heap[q]? = some ce ∧ ce.vm = .none ∧ T.vm.findClass E = some ce.cls ∧ Steps p.tables e below (doInvoke e (T.setTop g) [] mk a).1 ((T'.setTop g).pushFrame (.throwing q))) := by
  obtain ⟨methY, cY, hmY, hcY, -, hlY, -⟩ := Cond.code_spec hn (hcode a)
  obtain ⟨kY, hkY, -⟩ := className_of_methodNamed hn
  have hinitY : kY.init = .initialized := Cond.initialized_spec (findClass_of_methodNamed hn) hkY (hini a)
  have h : At T g.method c below := by rw [hg]; exact X.here
  have happ : (headSpec [.code y bytes maxL ret] rm).appliesLoose y e.platform (T.calling g mk a) = true :=
    Spec.appliesLoose_calling (g := g) h hdg hn hkY hinitY
      (X.room_calling (g := g) (R' := rm) hsize hmY hcY hfr (by rw [hlY]; omega) (by rw [hrc]; exact hc) (by rw [hrs]; exact hs)) (atoms_intro fun w hw => by rw [List.mem_singleton] at hw; subst hw; exact hcode a)
  obtain ⟨mid, hmid⟩ := h.above
  have hfr2 : (T.setTop g).frames = (.java g :: mid) ++ below := by rw [State.frames_setTop' g h.top, hmid]; rfl
  obtain ⟨o, s₂, hsteps, -, hend, hq⟩ := Steps.callFree hM p X.admits X.cas X.clock (acts := []) hfr2 happ (hblind a T g mk hp) trivial
  have hq' : gx_XQ Qc XC mc ms free a (T.calling g mk a) o s₂ := hq
  rw [State.frames_setTop' g h.top] at hend
  rcases hq' with ⟨hQ, L, hfe, hL⟩ | ⟨q, E, ce, rfl, hXC, hce, hcv, hcl, hW2, hsame⟩
  · refine Or.inl ?_
    obtain ⟨⟨v, rfl⟩, hW₂, e2, q2, q3, q4, q5, q6⟩ := id hfe
    have e3 : s₂ = ({ (T.calling g mk a).setFrames s₂.frames with heap := s₂.heap, slotsUsed := s₂.slotsUsed } : State).setVm s₂.vm := by
      have : s₂ = ({ s₂ with vm := (T.calling g mk a).vm } : State).setVm s₂.vm := rfl
      rw [e2] at this
      exact this
    obtain ⟨c₂, i₂, len₂, hc₂, hd₂, hf₂⟩ := hend
    have hW' : T.WarmedH s₂.vm := hW₂
    have hcc : c₂ = c := by
      have h1 : s₂.code? g.method = T.code? g.method := by
        rw [State.code?_eq, State.code?_eq, hW'.alike.method?]
      exact Option.some.inj (hc₂.symm.trans (h1.trans h.code))
    subst hcc
    have hlen : len₂ = 3 := by rw [hdg] at hd₂; cases hd₂; rfl
    subst hlen
    obtain ⟨g₀, hg0⟩ := Option.isSome_iff_exists.mp h.top
    obtain ⟨r, hr⟩ := State.topJava?_eq_some.mp hg0
    have hs₂ : s₂ = (({ T with heap := s₂.heap, slotsUsed := s₂.slotsUsed } : State).setVm s₂.vm).setTop { g with pc := g.pc + 3, stack := v.toList ++ g.stack } := by
      have hr' : (({ T with heap := s₂.heap, slotsUsed := s₂.slotsUsed } : State).setVm s₂.vm).frames = .java g₀ :: r := hr
      refine e3.trans ?_
      rw [hf₂, State.calling_eq h.top, State.setFrames_setFrames, State.setTop_of_frames _ hr', hr]
      rfl
    have hsame : T.sameButNew ({ T with heap := s₂.heap, slotsUsed := s₂.slotsUsed } : State) L mc ms := by
      refine ⟨?_, q2, q3, q4, q5, q6⟩
      obtain ⟨t, ht, -⟩ := State.frames_cons hr
      show ({ T with heap := s₂.heap, slotsUsed := s₂.slotsUsed } : State) = { T.setFrames T.frames with heap := s₂.heap, slotsUsed := s₂.slotsUsed }
      rw [State.setFrames_self ht]
    subst hg
    refine ⟨v, (({ T with heap := s₂.heap, slotsUsed := s₂.slotsUsed } : State).setVm s₂.vm), s₂, L,
      ⟨X.admits, X.cas, X.clock, X.frames, X.room, X.hears, X.method, X.code, (X.here.setHeapUsed s₂.heap s₂.slotsUsed).setVm hW'.alike, X.tail, State.WarmedH.trans X.warmed hW', X.limits, X.bytes, X.same.trans (hsame.setVm s.vm)⟩, hL, rfl, rfl, hQ, ?_⟩
    rw [← hs₂]
    exact hsteps
  · refine Or.inr ?_
    have hfr3 : T.frames.tail = below := X.tail
    rw [hfr3] at hend
    obtain ⟨T', Y, hWT, hsm, ht⟩ := X.outOfThrown hg (mk := mk) (a := a) hend hW2 hsame
    rw [List.append_nil] at Y
    refine ⟨q, E, ce, T', hXC, Y, hsm, ?_, hcv, hcl, ?_⟩
    · rw [ht] at hce
      simpa [State.pushFrame, State.setFrames, State.setTop, State.modifyTopJava] using hce
    · rw [← ht]
      exact hsteps
end GXd
