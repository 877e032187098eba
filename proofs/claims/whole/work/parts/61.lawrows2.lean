/-! ROWS FOR THE LAW, second part -/
section GXq
variable {p : Program} {l : Launch} {e : Env} {R : Room} {s : State} {m : MethodId} {args : Array Value} {below : List Frame} {meth : Method} {c : Code} {H : Heap} {locs : List Loc} {cells slots : Nat} {Q : State → Prop}
variable {cc : ByteArray} {pc : Nat} {ls : Array Slot} {rest st0 : List Value} {D : va_G} {cl : List vw_C} {A : Nat → Prop} {wr wc : va_W} {s0 : State}
variable {y : MethodName} {bytes : ByteArray} {maxL nL mc ms n index : Nat} {ret : Option FieldType} {rm : Room} {XC : String → Prop} {Ts : List Cond} {own C : String} {b : Addr} {As : List Value}
theorem gx_thr (hP : va_P D cl (wr ++ wc) H) (hS : va_S A s.heap H locs) {H1 : Heap} (h1 : H.size ≤ H1.size) (h2 : ∀ k : Nat, k < H.size → H1[k]? = H[k]?) : va_P D cl (wr ++ wc) H1 ∧ va_S A s.heap H1 locs :=
  ⟨fun k q h => (hP k q h).kept (h2 q.1 (hP k q h).lt), Nat.le_trans hS.1 h1, fun q a1 a2 => (h2 q (Nat.lt_of_lt_of_le a1 hS.1)).trans (hS.2.1 q a1 a2), hS.2.2⟩
theorem gx_xmi {post : Int32 → va_W → Prop} (S : CallFix p m c cc nL s args Ts own) (hM : gx_XM l y [.code y bytes maxL ret] rm (gx_P s0 D cl wc H.size (.ref b :: As)) (va_Qi post (gx_B D cl wc H.size) (va_A wc H.size)) XC mc ms (va_A wc H.size)) (cw : CallW R s args own C index y bytes maxL ret [.code y bytes maxL ret] rm mc ms n) (hV : gx_V s0 s) (hP : va_P D cl (wr ++ wc) H) (hD : va_D A (wr ++ wc)) (hS : va_S A s.heap H locs) (hA : ∀ q, s.heap.size ≤ q → A q) (hA0 : ∀ q, A q → s0.heap.size ≤ q) (hr : ∃ cell : Cell, H[b]? = some cell ∧ cell.vm.isStatics = false ∧ s.vm.findClass C = some cell.cls)
    (hn : As.length = n) (hsize : ls.size = nL) (hst : st0 = As.reverse ++ .ref b :: rest) (hW : (rest.map fun v => v.category).sum ≤ 8) (hdg : decode cc pc = .ok (.invokevirtual index, 3)) (hf : cells + mc ≤ R.cells ∧ slots + ms ≤ R.slots)
    (kk : ∀ (r : Int32) (w1 : va_W) (H1 : Heap) (locs1 : List Loc), post r w1 → va_P D cl (wr ++ w1) H1 → va_D A (wr ++ w1) → va_S A s.heap H1 locs1 → W p l e R s m args below meth c H1 locs1 (cells + mc) (slots + ms) Q (F0 m (pc + 3) ls (.int r :: rest)))
    (kt : ∀ (q : Addr) (E : String) (ce : Cell) (H1 : Heap), XC E → va_P D cl (wr ++ wc) H1 → va_S A s.heap H1 locs → H1[q]? = some ce → ce.vm = .none → s.vm.findClass E = some ce.cls → gx_TW p l e R s m args below meth c H1 locs (cells + 1) (slots + 6) Q (F0 m pc ls rest) q) : W p l e R s m args below meth c H locs cells slots Q (F0 m pc ls st0) := by
  subst hst
  intro T hT X
  rcases gx_xrun (g := F0 m pc ls (As.reverse ++ .ref b :: rest)) S hM cw (gx_preV hV (gx_right hP) (gx_rightD hD) hS hA0 hr) rfl hn hsize rfl (lv_room hW) hdg hf T hT X with ⟨v, st₀, t, T', L, h0, Y, hL, e1, e2, ⟨⟨r, u, hv, hp, hb⟩, hz, hk⟩, st⟩ | ⟨q, E, ce, T', hXC, Y, h1, h2, hce, hcv, hcl, st⟩
  · cases hv
    rw [h0] at hz hk
    have hall := gx_all (gx_rightD hD) hS hA
    obtain ⟨j1, j2⟩ := gx_join (H1 := T'.heap) hP hD (fun q a b => by rw [e1]; exact hk q a b) hall (by rw [e1]; exact hb.1) hb.2
    obtain ⟨t2, a1, b1⟩ := kk r u T'.heap (locs ++ L) hp j1 j2 ⟨Nat.le_trans hS.1 (by rw [e1]; exact hz), fun q a b => by rw [e1, hk q (Nat.lt_of_lt_of_le a hS.1) (fun z => b (hall q z))]; exact hS.2.1 q a b, fun q hq => by
      rcases List.mem_append.mp hq with h | h
      · exact hS.2.2 q h
      · exact hall _ (hL q h)⟩ T' rfl Y
    exact ⟨t2, st t2 a1, b1⟩
  · obtain ⟨k1, k2⟩ := gx_thr hP hS h1 h2
    obtain ⟨t2, a1, b1⟩ := kt q E ce T'.heap hXC k1 k2 hce hcv hcl T' rfl Y
    exact ⟨t2, st t2 a1, b1⟩
theorem gx_xml {post : Int64 → va_W → Prop} (S : CallFix p m c cc nL s args Ts own) (hM : gx_XM l y [.code y bytes maxL ret] rm (gx_P s0 D cl wc H.size (.ref b :: As)) (va_Ql post (gx_B D cl wc H.size) (va_A wc H.size)) XC mc ms (va_A wc H.size)) (cw : CallW R s args own C index y bytes maxL ret [.code y bytes maxL ret] rm mc ms n) (hV : gx_V s0 s) (hP : va_P D cl (wr ++ wc) H) (hD : va_D A (wr ++ wc)) (hS : va_S A s.heap H locs) (hA : ∀ q, s.heap.size ≤ q → A q) (hA0 : ∀ q, A q → s0.heap.size ≤ q) (hr : ∃ cell : Cell, H[b]? = some cell ∧ cell.vm.isStatics = false ∧ s.vm.findClass C = some cell.cls)
    (hn : As.length = n) (hsize : ls.size = nL) (hst : st0 = As.reverse ++ .ref b :: rest) (hW : (rest.map fun v => v.category).sum ≤ 8) (hdg : decode cc pc = .ok (.invokevirtual index, 3)) (hf : cells + mc ≤ R.cells ∧ slots + ms ≤ R.slots)
    (kk : ∀ (r : Int64) (w1 : va_W) (H1 : Heap) (locs1 : List Loc), post r w1 → va_P D cl (wr ++ w1) H1 → va_D A (wr ++ w1) → va_S A s.heap H1 locs1 → W p l e R s m args below meth c H1 locs1 (cells + mc) (slots + ms) Q (F0 m (pc + 3) ls (.long r :: rest)))
    (kt : ∀ (q : Addr) (E : String) (ce : Cell) (H1 : Heap), XC E → va_P D cl (wr ++ wc) H1 → va_S A s.heap H1 locs → H1[q]? = some ce → ce.vm = .none → s.vm.findClass E = some ce.cls → gx_TW p l e R s m args below meth c H1 locs (cells + 1) (slots + 6) Q (F0 m pc ls rest) q) : W p l e R s m args below meth c H locs cells slots Q (F0 m pc ls st0) := by
  subst hst
  intro T hT X
  rcases gx_xrun (g := F0 m pc ls (As.reverse ++ .ref b :: rest)) S hM cw (gx_preV hV (gx_right hP) (gx_rightD hD) hS hA0 hr) rfl hn hsize rfl (lv_room hW) hdg hf T hT X with ⟨v, st₀, t, T', L, h0, Y, hL, e1, e2, ⟨⟨r, u, hv, hp, hb⟩, hz, hk⟩, st⟩ | ⟨q, E, ce, T', hXC, Y, h1, h2, hce, hcv, hcl, st⟩
  · cases hv
    rw [h0] at hz hk
    have hall := gx_all (gx_rightD hD) hS hA
    obtain ⟨j1, j2⟩ := gx_join (H1 := T'.heap) hP hD (fun q a b => by rw [e1]; exact hk q a b) hall (by rw [e1]; exact hb.1) hb.2
    obtain ⟨t2, a1, b1⟩ := kk r u T'.heap (locs ++ L) hp j1 j2 ⟨Nat.le_trans hS.1 (by rw [e1]; exact hz), fun q a b => by rw [e1, hk q (Nat.lt_of_lt_of_le a hS.1) (fun z => b (hall q z))]; exact hS.2.1 q a b, fun q hq => by
      rcases List.mem_append.mp hq with h | h
      · exact hS.2.2 q h
      · exact hall _ (hL q h)⟩ T' rfl Y
    exact ⟨t2, st t2 a1, b1⟩
  · obtain ⟨k1, k2⟩ := gx_thr hP hS h1 h2
    obtain ⟨t2, a1, b1⟩ := kt q E ce T'.heap hXC k1 k2 hce hcv hcl T' rfl Y
    exact ⟨t2, st t2 a1, b1⟩
theorem gx_xri {post : Int32 → Prop} (S : CallFix p m c cc nL s args Ts own) (hM : gx_XM l y [.code y bytes maxL ret] rm (gx_P s0 D cl wc H.size (.ref b :: As)) (gx_Ri post) XC mc ms (fun _ => False)) (cw : CallW R s args own C index y bytes maxL ret [.code y bytes maxL ret] rm mc ms n) (hV : gx_V s0 s) (hP : va_P D cl (wr ++ wc) H) (hD : va_D A (wr ++ wc)) (hS : va_S A s.heap H locs) (hA0 : ∀ q, A q → s0.heap.size ≤ q) (hr : ∃ cell : Cell, H[b]? = some cell ∧ cell.vm.isStatics = false ∧ s.vm.findClass C = some cell.cls)
    (hn : As.length = n) (hsize : ls.size = nL) (hst : st0 = As.reverse ++ .ref b :: rest) (hW : (rest.map fun v => v.category).sum ≤ 8) (hdg : decode cc pc = .ok (.invokevirtual index, 3)) (hf : cells + mc ≤ R.cells ∧ slots + ms ≤ R.slots)
    (kk : ∀ (r : Int32), post r → W p l e R s m args below meth c H locs (cells + mc) (slots + ms) Q (F0 m (pc + 3) ls (.int r :: rest)))
    (kt : ∀ (q : Addr) (E : String) (ce : Cell) (H1 : Heap), XC E → va_P D cl (wr ++ wc) H1 → va_S A s.heap H1 locs → H1[q]? = some ce → ce.vm = .none → s.vm.findClass E = some ce.cls → gx_TW p l e R s m args below meth c H1 locs (cells + 1) (slots + 6) Q (F0 m pc ls rest) q) : W p l e R s m args below meth c H locs cells slots Q (F0 m pc ls st0) := by
  subst hst
  intro T hT X
  rcases gx_xrun (g := F0 m pc ls (As.reverse ++ .ref b :: rest)) S hM cw (gx_preV hV (gx_right hP) (gx_rightD hD) hS hA0 hr) rfl hn hsize rfl (lv_room hW) hdg hf T hT X with ⟨v, st₀, t, T', L, h0, Y, hL, e1, e2, ⟨r, hv, hp, hh⟩, st⟩ | ⟨q, E, ce, T', hXC, Y, h1, h2, hce, hcv, hcl, st⟩
  · cases hv
    obtain ⟨t2, a1, b1⟩ := kk r hp T' (by rw [e1, hh, h0]) (Stand.forget Y (fun q h => (hL q h).elim))
    exact ⟨t2, st t2 a1, b1⟩
  · obtain ⟨k1, k2⟩ := gx_thr hP hS h1 h2
    obtain ⟨t2, a1, b1⟩ := kt q E ce T'.heap hXC k1 k2 hce hcv hcl T' rfl Y
    exact ⟨t2, st t2 a1, b1⟩
theorem gx_xrl {post : Int64 → Prop} (S : CallFix p m c cc nL s args Ts own) (hM : gx_XM l y [.code y bytes maxL ret] rm (gx_P s0 D cl wc H.size (.ref b :: As)) (gx_Rl post) XC mc ms (fun _ => False)) (cw : CallW R s args own C index y bytes maxL ret [.code y bytes maxL ret] rm mc ms n) (hV : gx_V s0 s) (hP : va_P D cl (wr ++ wc) H) (hD : va_D A (wr ++ wc)) (hS : va_S A s.heap H locs) (hA0 : ∀ q, A q → s0.heap.size ≤ q) (hr : ∃ cell : Cell, H[b]? = some cell ∧ cell.vm.isStatics = false ∧ s.vm.findClass C = some cell.cls)
    (hn : As.length = n) (hsize : ls.size = nL) (hst : st0 = As.reverse ++ .ref b :: rest) (hW : (rest.map fun v => v.category).sum ≤ 8) (hdg : decode cc pc = .ok (.invokevirtual index, 3)) (hf : cells + mc ≤ R.cells ∧ slots + ms ≤ R.slots)
    (kk : ∀ (r : Int64), post r → W p l e R s m args below meth c H locs (cells + mc) (slots + ms) Q (F0 m (pc + 3) ls (.long r :: rest)))
    (kt : ∀ (q : Addr) (E : String) (ce : Cell) (H1 : Heap), XC E → va_P D cl (wr ++ wc) H1 → va_S A s.heap H1 locs → H1[q]? = some ce → ce.vm = .none → s.vm.findClass E = some ce.cls → gx_TW p l e R s m args below meth c H1 locs (cells + 1) (slots + 6) Q (F0 m pc ls rest) q) : W p l e R s m args below meth c H locs cells slots Q (F0 m pc ls st0) := by
  subst hst
  intro T hT X
  rcases gx_xrun (g := F0 m pc ls (As.reverse ++ .ref b :: rest)) S hM cw (gx_preV hV (gx_right hP) (gx_rightD hD) hS hA0 hr) rfl hn hsize rfl (lv_room hW) hdg hf T hT X with ⟨v, st₀, t, T', L, h0, Y, hL, e1, e2, ⟨r, hv, hp, hh⟩, st⟩ | ⟨q, E, ce, T', hXC, Y, h1, h2, hce, hcv, hcl, st⟩
  · cases hv
    obtain ⟨t2, a1, b1⟩ := kk r hp T' (by rw [e1, hh, h0]) (Stand.forget Y (fun q h => (hL q h).elim))
    exact ⟨t2, st t2 a1, b1⟩
  · obtain ⟨k1, k2⟩ := gx_thr hP hS h1 h2
    obtain ⟨t2, a1, b1⟩ := kt q E ce T'.heap hXC k1 k2 hce hcv hcl T' rfl Y
    exact ⟨t2, st t2 a1, b1⟩
/-- the words of a static call of a method with handlers -/
theorem gx_csw {hh : List (Nat × Nat × Nat × Nat)} (hcode : (Cond.codeWith y bytes maxL ret hh).before args s = true) (hini : (Cond.initialized y.cls).before args s = true) (hl : (Cond.methodLink own index y).before args s = true) (hst : (Cond.static y).before args s = true)
    (hd : y.cls ≠ "java/lang/invoke/MethodHandle" ∧ y.cls ≠ "java/lang/invoke/VarHandle" ∧ (parseMethodDescriptor y.desc).map (fun d => d.parameters.length) = some n) (hR : rm.frames + 1 ≤ R.frames ∧ 8 + (maxL + 11) + rm.locals ≤ R.locals) :
    vx_CSW R s args own index y bytes maxL ret hh [.codeWith y bytes maxL ret hh] rm rm.cells rm.slots n := by
  refine ⟨⟨rfl, rfl, hR.1, hR.2, fun w hw a' U hW => ?_, List.mem_cons_self⟩, hcode, hini, ⟨hd.1, hd.2.1⟩, fun sig h => ?_, hl, hst⟩
  · rw [List.mem_singleton] at hw
    subst hw
    exact word_at hW (Or.inl rfl) hcode
  · have h2 := hd.2.2
    rw [h] at h2
    exact (Option.some.inj h2).symm
end GXq
/-- a contract's walk, of a method with handlers -/
theorem gx_hmet {l : Launch} {y : MethodName} {rm : Room} {s0 : State} {D : va_G} {cl : List vw_C} {ws : va_W} {sz : Nat} {av : List Value} {Qc : Array Value → State → Outcome → State → Prop} {mc ms : Nat} {free : Addr → Prop} {cc : ByteArray} {maxL : Nat} {ret : Option FieldType} {hh : List (Nat × Nat × Nat × Nat)} (hy : plainName y.cls = true) (hav : (lg_sl av).length ≤ maxL)
    (body : ∀ (p : Program) (e : Env) (s : State) (m : MethodId) (below : List Frame) (meth : Method) (c : Code) (ls : Array Slot), p.tables.exec = Jvm.exec → c.code = cc → meth.sig.returnType = ret → c.maxLocals = maxL → s.vm.findClass y.cls = some m.cls → meth.locks = false → c.exceptionTable.toList = tableOf hh → s.heap.size = sz → gx_V s0 s → va_P D cl ws s.heap → va_D (va_A ws sz) ws → va_S (va_A ws sz) s.heap s.heap [] → (∀ q, s.heap.size ≤ q → va_A ws sz q) → (∀ q, va_A ws sz q → s0.heap.size ≤ q) → lv_has ls maxL (lv_args 0 av) →
      W p l e rm s m av.toArray below meth c s.heap [] 0 0 (MQ below Qc av.toArray s mc ms free) (F0 m 0 ls [])) : Met l y [.codeWith y cc maxL ret hh] rm (gx_P s0 D cl ws sz av) Qc mc ms free := by
  refine va_MetW (cc := cc) (maxL := maxL) (ret := ret) (hh := hh) hy rfl ?_
  intro p e s m args below meth c s₁ B hml hv
  obtain ⟨rfl, hsz, hP, hD0, hV⟩ := hv
  have hl := lv_entry av (n := maxL) hav
  have htab := vx_table (x := y) B (atoms_spec (ws := [.codeWith y cc maxL ret hh]) B.pre _ List.mem_cons_self)
  rw [lg_entry_eq]
  exact body p e s m below meth c _ B.exec B.bytes B.returns hml (findClass_of_methodNamed B.named) B.notSynchronized htab hsz hV hP hD0.self va_S.rf (fun q h => Or.inr (hsz ▸ h)) (fun q h => by
    rcases h with ⟨k, e9, h⟩ | h
    · exact hD0.2 k _ h
    · exact Nat.le_trans hV.2.1 (hsz ▸ h)) hl
theorem fx_nc {l : Launch} {s0 s : State} {D : va_G} {cI cC cJ cII cO cZ : ClassId} (F : FX l s0 D cI cC cJ cII cO cZ) (hV : gx_V s0 s) {E T : String} (h : (Cond.not (.castable E T)) ∈ flatC (Jvm.Cond.and given_1 narrow_1)) : va_Nc E T s := by
  obtain ⟨-, ⟨a0, h1, h2⟩, -⟩ := F
  exact va_Nc.moved hV.1.alike (va_Nc.of (flat_of_before _ h2 _ h))
