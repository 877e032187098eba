/-! THE CLAIM OUT OF ONE WALK OF THE LAW'S BODY. Your part is whole_start (and what it stands on); all else here is the same for every law, but numbers. -/
def R_law : String := "PortBillsLaw"
def lw_P (b : Addr) (xs : List Int32) (args : Array Value) (s : State) : Prop := args = #[.ref b] ∧ s.IntsAt b xs ∧ xs.length ≤ 2560 ∧ (Jvm.Cond.and given_1 narrow_1).before args s = true
def lw_Q (_ : Array Value) (s : State) (o : Outcome) (t : State) : Prop := o = .returned (some (.int 1)) ∧ Framed s o t [] 601024 7293034
def lw_Z (below : List Frame) (a : Array Value) (s : State) : State → Prop := fun t => ∃ o, t.status = .running ∧ Ended t below o ∧ lw_Q a s o t
/-- the law's own end, with 1 on the stack, nothing written that was there before, its room as the claim has it -/
theorem lw_ret {p : Program} {l : Launch} {e : Env} {s : State} {m : MethodId} {below : List Frame} {meth : Method} {c : Code} {b : Nat} (hx : p.tables.exec = Jvm.exec) (hb : c.code = code) (hr : meth.sig.returnType = ret) (hlocks : meth.locks = false) {pc : Nat} {H : Heap} {ls : Array Slot} (hdg : decode code pc = .ok (.ireturn, 1)) : W p l e room_1 s m #[Value.ref b] below meth c H [] 601024 7293034 (lw_Z below #[Value.ref b] s) (F0 m pc ls [.int 1]) := by
  intro T hT X
  obtain ⟨fs, hret, hrun, hended, hW, hframe⟩ := X.leave (v := some (.int 1)) (hlocks := hlocks) (fun h => by rw [hr] at h; cases h)
  have hmeth' : T.vm.method? m = some meth := X.method'
  refine ⟨T.setFrames fs, ?_, .returned (some (.int 1)), hrun, hended, rfl, ⟨_, rfl⟩, hW, hframe⟩
  jvm_step X.here [X.here.top, hx, hb, hdg, hmeth', hr, ret, narrow_b1]
  (try refine ⟨rfl, ?_⟩); (try refine ⟨rfl, ?_⟩)
  first | (intro acts; rw [hret _ acts rfl rfl rfl]) | rw [hret _ _ rfl rfl rfl]
  exact Steps.refl _
/-- what holds at the law's entry: the machine, the code, the tables' words (any of lw_tbl by 'hts w (by decide +kernel)'), the script of L ints xs at the cell b, what the Statement gives of the start (any of its parts by flat_of_before) -/
def lw_At (p : Program) (s : State) (m : MethodId) (meth : Method) (c : Code) (b L : Nat) (xs : Nat → Int32) : Prop :=
  p.tables.exec = Jvm.exec ∧ c.code = code ∧ meth.sig.returnType = ret ∧ c.maxLocals = 8 ∧ s.vm.findClass R_law = some m.cls ∧ (∀ w ∈ lw_tbl, w.before #[Value.ref b] s = true) ∧ va_X b L xs s s.heap ∧ b < s.heap.size ∧ meth.locks = false ∧ (Jvm.Cond.and given_1 narrow_1).before #[Value.ref b] s = true
/-! THE LAW, call by call -/
theorem gx_Vrf {s : State} : gx_V s s := ⟨State.WarmedH.refl _, Nat.le_refl _, fun _ _ => rfl⟩
theorem lw_in {L t : Nat} (k : Nat) (h : 5 * t + k < L) (hL : L < 2 ^ 31) : vp_in (nI (5 * t) + nI k) L := by
  rw [nI_add]
  exact vp_in_nI h hL
theorem lw_rc {n : Nat} (h : n ≤ 601024) : n ≤ room_1.cells := h
theorem lw_rs {n : Nat} (h : n ≤ 7293034) : n ≤ room_1.slots := h
theorem lw_cmp (x : Int64) : lg_cmp x x = 0 := (lg_cmp_eq x x).mpr rfl
theorem lw_a1 {D : va_G} {cl : List vw_C} {k : Nat × va_E} {w1 w2 : va_W} {H : Heap} (h : va_P D cl (w1 ++ k :: w2) H) : va_P D cl ((w1 ++ [k]) ++ w2) H := by rw [List.append_assoc]; exact h
theorem lw_a2 {D : va_G} {cl : List vw_C} {k : Nat × va_E} {w1 w2 : va_W} {H : Heap} (h : va_P D cl ((w1 ++ [k]) ++ w2) H) : va_P D cl (w1 ++ k :: w2) H := by rw [List.append_assoc] at h; exact h
theorem lw_d1 {A : Nat → Prop} {k : Nat × va_E} {w1 w2 : va_W} (h : va_D A (w1 ++ k :: w2)) : va_D A ((w1 ++ [k]) ++ w2) := by rw [List.append_assoc]; exact h
theorem lw_d2 {A : Nat → Prop} {k : Nat × va_E} {w1 w2 : va_W} (h : va_D A ((w1 ++ [k]) ++ w2)) : va_D A (w1 ++ k :: w2) := by rw [List.append_assoc] at h; exact h
section LWS
variable {p : Program} {l : Launch} {e : Env} {R : Room} {s : State} {m : MethodId} {args : Array Value} {below : List Frame} {meth : Method} {c : Code} {H H0 : Heap} {locs : List Loc} {cells slots pc : Nat} {Q : State → Prop} {cc : ByteArray} {A : Nat → Prop} {ls : Array Slot} {rest : List Value}
theorem lw_sld (hexec : p.tables.exec = Jvm.exec) (hb : c.code = cc) {b L : Nat} {xs : Nat → Int32} (hX : va_X b L xs s H0) (hbl : b < H0.size) (hbA : ¬ A b) (hS : va_S A H0 H locs) {i v : Int32} (hin : vp_in i L) (hv : xs i.toNatClampNeg = v) (hdg : decode cc pc = .ok (.iaload, 1))
    (kk : W p l e R s m args below meth c H locs cells slots Q (F0 m (pc + 1) ls (.int v :: rest))) : W p l e R s m args below meth c H locs cells slots Q (F0 m pc ls (.int i :: .ref b :: rest)) := by
  subst hv
  exact va_sld hexec hb hX hbl hbA hS hin hdg kk
end LWS
