section
/-! BASE: contracts over any world ws whose cells lie behind a fixed early state s0; calls that take the whole world, or its right half -/
/-- a state behind s0: its tables are warmer, what was there at s0 is as it was -/
def gx_V (s0 U : State) : Prop := s0.WarmedH U.vm ∧ s0.heap.size ≤ U.heap.size ∧ ∀ q : Nat, q < s0.heap.size → U.heap[q]? = s0.heap[q]?
def gx_A0 (s0 : State) : Nat → Prop := fun q => s0.heap.size ≤ q
def gx_P (s0 : State) (D : va_G) (cl : List vw_C) (ws : va_W) (sz : Nat) (av : List Value) : Array Value → State → Prop := va_Pc av (fun U => U.heap.size = sz ∧ va_P D cl ws U.heap ∧ va_D (gx_A0 s0) ws ∧ gx_V s0 U)
def gx_B (D : va_G) (cl : List vw_C) (ws : va_W) (sz : Nat) (w1 : va_W) (t : State) : Prop := va_P D cl w1 t.heap ∧ va_D (va_A ws sz) w1
def gx_Bq (D : va_G) (cl : List vw_C) (ws : va_W) (sz : Nat) (u : va_W × Nat) (a : Nat) (t : State) : Prop := a = u.2 ∧ va_P D cl u.1 t.heap ∧ va_D (va_A ws sz) u.1
theorem gx_all {A : Nat → Prop} {ws : va_W} {H0 H : Heap} {locs : List Loc} (hD : va_D A ws) (hS : va_S A H0 H locs) (hA : ∀ q, H0.size ≤ q → A q) : ∀ q, va_A ws H.size q → A q := by
  intro q h
  rcases h with ⟨k, e, h⟩ | h
  · exact hD.2 k (q, e) h
  · exact hA q (Nat.le_trans hS.1 h)
theorem gx_nil {args : Array Value} {s : State} : ∀ w ∈ ([] : List Cond), w.before args s = true := fun _ h => nomatch h
theorem gx_join {A0 : Nat → Prop} {D : va_G} {cl : List vw_C} {wr wc w1 : va_W} {H H1 : Heap} (hP : va_P D cl (wr ++ wc) H) (hD : va_D A0 (wr ++ wc)) (hk : ∀ q : Nat, q < H.size → ¬ va_A wc H.size q → H1[q]? = H[q]?) (hF : ∀ q, va_A wc H.size q → A0 q) (hP1 : va_P D cl w1 H1) (hD1 : va_D (va_A wc H.size) w1) : va_P D cl (wr ++ w1) H1 ∧ va_D A0 (wr ++ w1) := by
  have hl : ∀ (k : Nat) (q : Nat × va_E), wr[k]? = some q → (wr ++ wc)[k]? = some q := fun k q h => by
    rw [List.getElem?_append_left (List.getElem?_eq_some_iff.mp h).1]; exact h
  have hr : ∀ (k : Nat) (q : Nat × va_E), wc[k]? = some q → (wr ++ wc)[wr.length + k]? = some q := fun k q h => by
    rw [List.getElem?_append_right (Nat.le_add_right _ _), Nat.add_sub_cancel_left]; exact h
  have ap : ∀ (k : Nat) (q : Nat × va_E), wr[k]? = some q → q.1 < H.size ∧ ¬ va_A wc H.size q.1 := by
    intro k q h
    have hlt := (hP k q (hl k q h)).lt
    refine ⟨hlt, fun z => ?_⟩
    rcases z with ⟨j, e, z⟩ | z
    · have h1 := hD.1 k (wr.length + j) q (q.1, e) (hl k q h) (hr j _ z) rfl
      have h2 := (List.getElem?_eq_some_iff.mp h).1
      omega
    · omega
  have hDr : va_D A0 wr := ⟨fun i j p q h1 h2 h3 => hD.1 i j p q (hl i p h1) (hl j q h2) h3, fun k q h => hD.2 k q (hl k q h)⟩
  refine ⟨va_P.app (fun k q h => ?_) hP1, va_D.app hDr (hD1.weaken (fun k q _ h => hF q.1 h)) (fun i j x y hx hy hxy => ?_)⟩
  · obtain ⟨g1, g2⟩ := ap k q h
    exact (hP k q (hl k q h)).kept (hk q.1 g1 g2)
  · exact (ap i x hx).2 (by rw [hxy]; exact hD1.2 j y hy)
theorem gx_left {D : va_G} {cl : List vw_C} {w1 w2 : va_W} {H : Heap} (h : va_P D cl (w1 ++ w2) H) : va_P D cl w1 H := fun k q hk => h k q (by
  rw [List.getElem?_append_left (List.getElem?_eq_some_iff.mp hk).1]; exact hk)
theorem gx_right {D : va_G} {cl : List vw_C} {w1 w2 : va_W} {H : Heap} (h : va_P D cl (w1 ++ w2) H) : va_P D cl w2 H := fun k q hk => h (w1.length + k) q (by
  rw [List.getElem?_append_right (Nat.le_add_right _ _), Nat.add_sub_cancel_left]; exact hk)
theorem gx_leftD {A : Nat → Prop} {w1 w2 : va_W} (h : va_D A (w1 ++ w2)) : va_D A w1 := by
  have e : ∀ (k : Nat) (q : Nat × va_E), w1[k]? = some q → (w1 ++ w2)[k]? = some q := fun k q hk => by
    rw [List.getElem?_append_left (List.getElem?_eq_some_iff.mp hk).1]; exact hk
  exact ⟨fun i j p q h1 h2 h3 => h.1 i j p q (e i p h1) (e j q h2) h3, fun k q hk => h.2 k q (e k q hk)⟩
theorem gx_rightD {A : Nat → Prop} {w1 w2 : va_W} (h : va_D A (w1 ++ w2)) : va_D A w2 := by
  have e : ∀ (k : Nat) (q : Nat × va_E), w2[k]? = some q → (w1 ++ w2)[w1.length + k]? = some q := fun k q hk => by
    rw [List.getElem?_append_right (Nat.le_add_right _ _), Nat.add_sub_cancel_left]; exact hk
  exact ⟨fun i j p q h1 h2 h3 => by have := h.1 _ _ p q (e i p h1) (e j q h2) h3; omega, fun k q hk => h.2 _ q (e k q hk)⟩
section GXb
variable {p : Program} {l : Launch} {e : Env} {R : Room} {s : State} {m : MethodId} {args : Array Value} {below : List Frame} {meth : Method} {c : Code} {H : Heap} {locs : List Loc} {cells slots : Nat} {Q : State → Prop}
variable {cc : ByteArray} {pc : Nat} {ls : Array Slot} {rest st0 : List Value} {D : va_G} {cl : List vw_C} {A : Nat → Prop} {ws wr : va_W} {H0 : Heap} {mc ms : Nat} {a : Array Value} {s0 : State}
/-- what a call asks of the world -/
theorem gx_preS {av : List Value} (hV : gx_V s0 s) (hP : va_P D cl ws H) (hD : va_D A ws) (hS : va_S A s.heap H locs) (hA0 : ∀ q, A q → s0.heap.size ≤ q) : PreS s H (gx_P s0 D cl ws H.size av) av := by
  refine ⟨fun a U g mk h => h, fun U hU hW => ⟨rfl, by rw [hU], by rw [hU]; exact hP, hD.weaken (fun _ q _ h => hA0 q.1 h), State.WarmedH.trans hV.1 hW, ?_, ?_⟩⟩
  · rw [hU]; exact Nat.le_trans hV.2.1 hS.1
  · intro q hq
    rw [hU, hS.2.1 q (Nat.lt_of_lt_of_le hq hV.2.1) (fun h => Nat.not_le.mpr hq (hA0 q h))]
    exact hV.2.2 q hq
theorem gx_preV {As : List Value} {b : Nat} {C : String} (hV : gx_V s0 s) (hP : va_P D cl ws H) (hD : va_D A ws) (hS : va_S A s.heap H locs) (hA0 : ∀ q, A q → s0.heap.size ≤ q) (hr : ∃ cell : Cell, H[b]? = some cell ∧ cell.vm.isStatics = false ∧ s.vm.findClass C = some cell.cls) : PreV s H C b (gx_P s0 D cl ws H.size (.ref b :: As)) As := by
  have h := gx_preS (av := .ref b :: As) hV hP hD hS hA0
  exact ⟨h.1, hr, h.2⟩
theorem gx_cb {own : String} {index maxL n : Nat} {y : MethodName} {bytes : ByteArray} {ret : Option FieldType} {rm : Room} (hcode : (Cond.code y bytes maxL ret).before args s = true) (hini : (Cond.initialized y.cls).before args s = true) (hl : (Cond.methodLink own index y).before args s = true)
    (hd : y.cls ≠ "java/lang/invoke/MethodHandle" ∧ y.cls ≠ "java/lang/invoke/VarHandle" ∧ (parseMethodDescriptor y.desc).map (fun d => d.parameters.length) = some n) (hR : rm.frames + 1 ≤ R.frames ∧ 8 + (maxL + 11) + rm.locals ≤ R.locals) :
    CallB R s args own index y bytes maxL ret [.code y bytes maxL ret] rm rm.cells rm.slots n := by
  refine ⟨rfl, rfl, hR.1, hR.2, fun w hw a' U hW => ?_, List.mem_cons_self, hcode, hini, ⟨hd.1, hd.2.1⟩, fun sig h => ?_, hl⟩
  · rw [List.mem_singleton] at hw
    subst hw
    exact word_at hW (Or.inl rfl) hcode
  · have h2 := hd.2.2
    rw [h] at h2
    exact (Option.some.inj h2).symm
theorem gx_cn {own host : String} {index maxL n : Nat} {y : MethodName} {bytes : ByteArray} {ret : Option FieldType} {rm : Room} (hcode : (Cond.code y bytes maxL ret).before args s = true) (hini : (Cond.initialized y.cls).before args s = true) (hl : va_Nw (.methodLinkNest own index y host) s)
    (hd : y.cls ≠ "java/lang/invoke/MethodHandle" ∧ y.cls ≠ "java/lang/invoke/VarHandle" ∧ (parseMethodDescriptor y.desc).map (fun d => d.parameters.length) = some n) (hR : rm.frames + 1 ≤ R.frames ∧ 8 + (maxL + 11) + rm.locals ≤ R.locals) :
    va_CN R s args own index y host bytes maxL ret [.code y bytes maxL ret] rm rm.cells rm.slots n :=
  va_cnB (Ts := [.code y bytes maxL ret]) (ws' := []) n (fun w hw => by rw [List.mem_singleton] at hw; subst hw; exact hcode) (fun w hw => ⟨hw, by rw [List.mem_singleton] at hw; subst hw; exact Or.inl rfl⟩) rfl rfl rfl hl hini hd hR
/-- behind a call that took the whole world -/
theorem gx_calli {post : Int32 → va_W → Prop} (hr : va_Run p l e R s m args below meth c H locs cells slots mc ms (F0 m pc ls st0) rest (va_Qi post (gx_B D cl ws H.size) (va_A ws H.size) a) (va_A ws H.size)) (hD : va_D A ws) (hS : va_S A H0 H locs) (hA : ∀ q, H0.size ≤ q → A q)
    (kk : ∀ (r : Int32) (w1 : va_W) (H1 : Heap) (locs1 : List Loc), post r w1 → va_P D cl w1 H1 → va_D A w1 → va_S A H0 H1 locs1 → W p l e R s m args below meth c H1 locs1 (cells + mc) (slots + ms) Q (F0 m (pc + 3) ls (.int r :: rest))) : W p l e R s m args below meth c H locs cells slots Q (F0 m pc ls st0) :=
  va_calli hr hS (fun q _ h => gx_all hD hS hA q h) (gx_all hD hS hA) (fun r u t H1 locs1 ht hvm hp hB hz hk hS1 => kk r u H1 locs1 hp (by rw [← ht]; exact hB.1) (hB.2.weaken (fun k q _ h => gx_all hD hS hA q.1 h)) hS1)
theorem gx_calll {post : Int64 → va_W → Prop} (hr : va_Run p l e R s m args below meth c H locs cells slots mc ms (F0 m pc ls st0) rest (va_Ql post (gx_B D cl ws H.size) (va_A ws H.size) a) (va_A ws H.size)) (hD : va_D A ws) (hS : va_S A H0 H locs) (hA : ∀ q, H0.size ≤ q → A q)
    (kk : ∀ (r : Int64) (w1 : va_W) (H1 : Heap) (locs1 : List Loc), post r w1 → va_P D cl w1 H1 → va_D A w1 → va_S A H0 H1 locs1 → W p l e R s m args below meth c H1 locs1 (cells + mc) (slots + ms) Q (F0 m (pc + 3) ls (.long r :: rest))) : W p l e R s m args below meth c H locs cells slots Q (F0 m pc ls st0) :=
  va_calll hr hS (fun q _ h => gx_all hD hS hA q h) (gx_all hD hS hA) (fun r u t H1 locs1 ht hvm hp hB hz hk hS1 => kk r u H1 locs1 hp (by rw [← ht]; exact hB.1) (hB.2.weaken (fun k q _ h => gx_all hD hS hA q.1 h)) hS1)
theorem gx_callv {post : va_W → Prop} (hr : va_Run p l e R s m args below meth c H locs cells slots mc ms (F0 m pc ls st0) rest (va_Qv post (gx_B D cl ws H.size) (va_A ws H.size) a) (va_A ws H.size)) (hD : va_D A ws) (hS : va_S A H0 H locs) (hA : ∀ q, H0.size ≤ q → A q)
    (kk : ∀ (w1 : va_W) (H1 : Heap) (locs1 : List Loc), post w1 → va_P D cl w1 H1 → va_D A w1 → va_S A H0 H1 locs1 → W p l e R s m args below meth c H1 locs1 (cells + mc) (slots + ms) Q (F0 m (pc + 3) ls rest)) : W p l e R s m args below meth c H locs cells slots Q (F0 m pc ls st0) :=
  va_callv hr hS (fun q _ h => gx_all hD hS hA q h) (gx_all hD hS hA) (fun u t H1 locs1 ht hvm hp hB hz hk hS1 => kk u H1 locs1 hp (by rw [← ht]; exact hB.1) (hB.2.weaken (fun k q _ h => gx_all hD hS hA q.1 h)) hS1)
theorem gx_callr {post : va_W × Nat → Prop} (hr : va_Run p l e R s m args below meth c H locs cells slots mc ms (F0 m pc ls st0) rest (va_Qr post (gx_Bq D cl ws H.size) (va_A ws H.size) a) (va_A ws H.size)) (hD : va_D A ws) (hS : va_S A H0 H locs) (hA : ∀ q, H0.size ≤ q → A q)
    (kk : ∀ (ra : Nat) (w1 : va_W) (H1 : Heap) (locs1 : List Loc), post (w1, ra) → va_P D cl w1 H1 → va_D A w1 → va_S A H0 H1 locs1 → W p l e R s m args below meth c H1 locs1 (cells + mc) (slots + ms) Q (F0 m (pc + 3) ls (.ref ra :: rest))) : W p l e R s m args below meth c H locs cells slots Q (F0 m pc ls st0) :=
  va_callr hr hS (fun q _ h => gx_all hD hS hA q h) (gx_all hD hS hA) (fun u ra t H1 locs1 ht hvm hp hB hz hk hS1 => by
    obtain ⟨w1, a1⟩ := u
    obtain ⟨e1, e2, e3⟩ := hB
    dsimp only at e1 e2 e3
    subst e1
    exact kk ra w1 H1 locs1 hp (by rw [← ht]; exact e2) (e3.weaken (fun k q _ h => gx_all hD hS hA q.1 h)) hS1)
/-- ends -/
theorem gx_iret {post : Int32 → va_W → Prop} {w1 : va_W} {sz : Nat} {v : Int32} {ty : FieldType} (hexec : p.tables.exec = Jvm.exec) (hb : c.code = cc) (hr : meth.sig.returnType = some ty) (hlocks : meth.locks = false) (hn : narrow ty (.int v) = .int v) (hS : va_S (va_A ws sz) s.heap H locs) (hP : va_P D cl w1 H) (hD : va_D (va_A ws sz) w1) (hc : cells ≤ mc) (hs : slots ≤ ms) (hdg : decode cc pc = .ok (.ireturn, 1)) (hp : post v w1) :
    W p l e R s m args below meth c H locs cells slots (MQ below (va_Qi post (gx_B D cl ws sz) (va_A ws sz)) args s mc ms (va_A ws sz)) (F0 m pc ls [.int v]) :=
  W.widen hc hs (W.zret hexec hb hr hn (fun t ht hW => ⟨⟨v, w1, rfl, hp, by rw [ht]; exact hP, hD⟩, hS.F ht⟩) hS.2.2 hdg hlocks)
theorem gx_lret {post : Int64 → va_W → Prop} {w1 : va_W} {sz : Nat} {v : Int64} (hexec : p.tables.exec = Jvm.exec) (hb : c.code = cc) (hr : meth.sig.returnType = some .long) (hlocks : meth.locks = false) (hS : va_S (va_A ws sz) s.heap H locs) (hP : va_P D cl w1 H) (hD : va_D (va_A ws sz) w1) (hc : cells ≤ mc) (hs : slots ≤ ms) (hdg : decode cc pc = .ok (.lreturn, 1)) (hp : post v w1) :
    W p l e R s m args below meth c H locs cells slots (MQ below (va_Ql post (gx_B D cl ws sz) (va_A ws sz)) args s mc ms (va_A ws sz)) (F0 m pc ls [.long v]) :=
  W.widen hc hs (W.lret hexec hb hr (fun t ht hW => ⟨⟨v, w1, rfl, hp, by rw [ht]; exact hP, hD⟩, hS.F ht⟩) hS.2.2 hdg hlocks)
theorem gx_vret {post : va_W → Prop} {w1 : va_W} {sz : Nat} (hexec : p.tables.exec = Jvm.exec) (hb : c.code = cc) (hr : meth.sig.returnType = none) (hlocks : meth.locks = false) (hS : va_S (va_A ws sz) s.heap H locs) (hP : va_P D cl w1 H) (hD : va_D (va_A ws sz) w1) (hc : cells ≤ mc) (hs : slots ≤ ms) (hdg : decode cc pc = .ok (.return_, 1)) (hp : post w1) :
    W p l e R s m args below meth c H locs cells slots (MQ below (va_Qv post (gx_B D cl ws sz) (va_A ws sz)) args s mc ms (va_A ws sz)) (F0 m pc ls []) :=
  W.widen hc hs (W.vret hexec hb hr (fun t ht hW => ⟨⟨w1, rfl, hp, by rw [ht]; exact hP, hD⟩, hS.F ht⟩) hS.2.2 hdg hlocks)
theorem gx_aret {post : va_W × Nat → Prop} {w1 : va_W} {sz ra : Nat} {rt : FieldType} (hexec : p.tables.exec = Jvm.exec) (hb : c.code = cc) (hr : meth.sig.returnType = some rt) (hrt : (∃ n, rt = .object n) ∨ ∃ t, rt = .array t) (hlocks : meth.locks = false) (hS : va_S (va_A ws sz) s.heap H locs) (hP : va_P D cl w1 H) (hD : va_D (va_A ws sz) w1) (hc : cells ≤ mc) (hs : slots ≤ ms) (hdg : decode cc pc = .ok (.areturn, 1)) (hp : post (w1, ra)) :
    W p l e R s m args below meth c H locs cells slots (MQ below (va_Qr post (gx_Bq D cl ws sz) (va_A ws sz)) args s mc ms (va_A ws sz)) (F0 m pc ls [.ref ra]) :=
  W.widen hc hs (W.aret hexec hb hr hrt (Or.inr ⟨ra, rfl⟩) (fun t ht hW => ⟨⟨(w1, ra), ra, rfl, hp, rfl, by rw [ht]; exact hP, hD⟩, hS.F ht⟩) hS.2.2 hdg hlocks)
theorem gx_mono {Q' : State → Prop} {g : JFrame} (h : ∀ t, Q t → Q' t) (k : W p l e R s m args below meth c H locs cells slots Q g) : W p l e R s m args below meth c H locs cells slots Q' g := fun T hT X => by
  obtain ⟨t, a1, b1⟩ := k T hT X
  exact ⟨t, a1, h t b1⟩
/-- an array of arrays is read -/
theorem gx_aald {tys : List (ClassId × FieldType)} {ty : FieldType} {b : Nat} (hexec : p.tables.exec = Jvm.exec) (hb : c.code = cc) (hK : va_K D cl tys s) (hP : va_P D cl ws H) (q0 t0 : Nat) {cA : ClassId} {n : Nat} {f : Nat → Option Nat} (ha : ws[q0]? = some (b, .inl (cA, n, .inr (.inr (.inr (.inr f)))))) (ht : tys[t0]? = some (cA, ty)) (href : ty.isReference = true) {i : Int32} {v : Nat} (hin : vp_in i n) (hv : f i.toNatClampNeg = some v) (hdg : decode cc pc = .ok (.aaload, 1))
    (kk : W p l e R s m args below meth c H locs cells slots Q (F0 m (pc + 1) ls (.ref v :: rest))) : W p l e R s m args below meth c H locs cells slots Q (F0 m pc ls (.int i :: .ref b :: rest)) := by
  have hc : H[b]? = some (vp_cell cA (n, .inr (.inr (.inr (.inr f))))) := hP q0 _ ha
  rw [vp_cell_q] at hc
  have hlt : i.toNatClampNeg < n := by
    unfold vp_in at hin
    omega
  refine W.aald hexec hb hc ((hK.2 t0 _ ht).1 n _) href (fun h => by cases h) ?_ ?_ rfl rfl hdg kk
  all_goals first
    | (rw [arrV_size]; exact hin)
    | (rw [arrV_read cA _ hlt, hv]; rfl)
end GXb
/-- a contract's walk -/
theorem gx_met {l : Launch} {y : MethodName} {rm : Room} {s0 : State} {D : va_G} {cl : List vw_C} {ws : va_W} {sz : Nat} {av : List Value} {Qc : Array Value → State → Outcome → State → Prop} {mc ms : Nat} {free : Addr → Prop} {cc : ByteArray} {maxL : Nat} {ret : Option FieldType} (hy : plainName y.cls = true) (hav : (lg_sl av).length ≤ maxL)
    (body : ∀ (p : Program) (e : Env) (s : State) (m : MethodId) (below : List Frame) (meth : Method) (c : Code) (ls : Array Slot), p.tables.exec = Jvm.exec → c.code = cc → meth.sig.returnType = ret → c.maxLocals = maxL → s.vm.findClass y.cls = some m.cls → meth.locks = false → meth.name = y.name → s.heap.size = sz → gx_V s0 s → va_P D cl ws s.heap → va_D (va_A ws sz) ws → va_S (va_A ws sz) s.heap s.heap [] → (∀ q, s.heap.size ≤ q → va_A ws sz q) → (∀ q, va_A ws sz q → s0.heap.size ≤ q) → lv_has ls maxL (lv_args 0 av) →
      W p l e rm s m av.toArray below meth c s.heap [] 0 0 (MQ below Qc av.toArray s mc ms free) (F0 m 0 ls [])) : Met l y [.code y cc maxL ret] rm (gx_P s0 D cl ws sz av) Qc mc ms free := by
  refine Met.ofW (cc := cc) (maxL := maxL) (ret := ret) hy rfl ?_
  intro p e s m args below meth c s₁ B hml hv
  obtain ⟨rfl, hsz, hP, hD0, hV⟩ := hv
  have hl := lv_entry av (n := maxL) hav
  rw [lg_entry_eq]
  exact body p e s m below meth c _ B.exec B.bytes B.returns hml (findClass_of_methodNamed B.named) B.notSynchronized (name_of_methodNamed B.named B.method).1 hsz hV hP hD0.self va_S.rf (fun q h => Or.inr (hsz ▸ h)) (fun q h => by
    rcases h with ⟨k, e9, h⟩ | h
    · exact hD0.2 k _ h
    · exact Nat.le_trans hV.2.1 (hsz ▸ h)) hl
end
section
/-! GRID: new int[n][k]: the outer array, and behind it its n rows of zeros -/
def gx_oc (c : ClassId) (N h i : Nat) : Cell := arrV c N (fun j => va_rf (if j < i then some (h + 1 + j) else none))
def gx_ic (c : ClassId) (K : Nat) : Cell := arrV c K (fun _ => .int 0)
def gx_gr (T : State) (c ci : ClassId) (N K : Nat) : Nat → State
  | 0 => T.pushCell (gx_oc c N T.heap.size 0)
  | i + 1 => ((gx_gr T c ci N K i).pushCell (gx_ic ci K)).setCell T.heap.size (gx_oc c N T.heap.size (i + 1))
theorem gx_oc_put (c : ClassId) (N h i : Nat) : (gx_oc c N h i).setSlot i (.ref (h + 1 + i)) = gx_oc c N h (i + 1) := by
  unfold gx_oc
  rw [arrV_store]
  refine congrArg (arrV c N) (funext fun j => ?_)
  unfold updV
  by_cases e : j = i
  · subst e
    simp [va_rf]
  · have h1 : (j < i + 1) = (j < i) := propext ⟨fun h => by omega, fun h => by omega⟩
    simp [e, h1]
theorem gx_oc_0 (c : ClassId) (N h : Nat) : ({ cls := c, slots := Array.replicate N .null, vm := .none } : Cell) = gx_oc c N h 0 := by
  rw [arrV_new]
  exact congrArg (arrV c N) (funext fun j => by simp [va_rf])
theorem gx_ic_0 (c : ClassId) (K : Nat) : ({ cls := c, slots := Array.replicate K (.int 0), vm := .none } : Cell) = gx_ic c K := arrV_new c K (.int 0)
theorem gx_oc_sz (c : ClassId) (N h i : Nat) : (gx_oc c N h i).slots.size = N := arrV_size _ _ _
theorem gx_ic_sz (c : ClassId) (K : Nat) : (gx_ic c K).slots.size = K := arrV_size _ _ _
theorem gx_gr_f (T : State) (c ci : ClassId) (N K : Nat) : ∀ i : Nat, (gx_gr T c ci N K i).heap.size = T.heap.size + 1 + i ∧ (gx_gr T c ci N K i).heap[T.heap.size]? = some (gx_oc c N T.heap.size i) ∧ (gx_gr T c ci N K i).vm = T.vm ∧ (gx_gr T c ci N K i).slotsUsed = T.slotsUsed + N + i * K
    ∧ (∀ a : Nat, a < T.heap.size → (gx_gr T c ci N K i).heap[a]? = T.heap[a]?) ∧ (∀ j : Nat, j < i → (gx_gr T c ci N K i).heap[T.heap.size + 1 + j]? = some (gx_ic ci K)) ∧ (∀ f : JFrame, gx_gr (T.setTop f) c ci N K i = (gx_gr T c ci N K i).setTop f)
  | 0 => ⟨by simp [gx_gr], by simp [gx_gr], rfl, by simp [gx_gr, gx_oc_sz], fun a h => State.heap_pushCell_of_lt _ _ h, fun j h => absurd h (Nat.not_lt_zero j), fun f => rfl⟩
  | i + 1 => by
    obtain ⟨h1, h2, h3, h4, h5, h6, h7⟩ := gx_gr_f T c ci N K i
    have hl : T.heap.size < ((gx_gr T c ci N K i).pushCell (gx_ic ci K)).heap.size := by rw [size_pushCell, h1]; omega
    refine ⟨?_, ?_, ?_, ?_, ?_, ?_, ?_⟩
    · show (((gx_gr T c ci N K i).pushCell (gx_ic ci K)).setCell T.heap.size (gx_oc c N T.heap.size (i + 1))).heap.size = _
      rw [size_setCell, size_pushCell, h1]; omega
    · exact heapAt_setCell_self _ hl
    · exact h3
    · show (gx_gr T c ci N K i).slotsUsed + (gx_ic ci K).slots.size = _
      rw [h4, gx_ic_sz, Nat.succ_mul]; omega
    · intro a ha
      show (((gx_gr T c ci N K i).pushCell (gx_ic ci K)).setCell T.heap.size (gx_oc c N T.heap.size (i + 1))).heap[a]? = _
      rw [heapAt_setCell_ne _ (Nat.ne_of_gt ha), State.heap_pushCell_of_lt _ _ (show a < (gx_gr T c ci N K i).heap.size by rw [h1]; omega)]
      exact h5 a ha
    · intro j hj
      show (((gx_gr T c ci N K i).pushCell (gx_ic ci K)).setCell T.heap.size (gx_oc c N T.heap.size (i + 1))).heap[T.heap.size + 1 + j]? = _
      rw [heapAt_setCell_ne _ (show T.heap.size ≠ T.heap.size + 1 + j by omega)]
      rcases Nat.lt_or_ge j i with g | g
      · rw [State.heap_pushCell_of_lt _ _ (show T.heap.size + 1 + j < (gx_gr T c ci N K i).heap.size by rw [h1]; omega)]
        exact h6 j g
      · rw [show T.heap.size + 1 + j = (gx_gr T c ci N K i).heap.size by rw [h1]; omega]
        exact State.heap_pushCell_size _ _
    · intro f
      show ((gx_gr (T.setTop f) c ci N K i).pushCell (gx_ic ci K)).setCell T.heap.size (gx_oc c N T.heap.size (i + 1)) = _
      rw [h7 f]
      rfl
section GXm
variable {E : CtlPost} {e : Env} {d : Bool} {acts : List Action} {s : State}
theorem gx_make1 {ci cp : ClassId} {ki : Class} {k : Int32} {K : Nat} (hk : s.vm.classes[ci]? = some ki) (hkind : ki.kind = .array cp .int) (h0 : ¬ k < 0) (hK : k.toNatClampNeg = K) (hl : ¬ K > e.platform.arrayLengthLimit) (hh : ¬ K * componentBytes .int > e.platform.maxHeapBytes) (h1 : s.heap.size < e.platform.maxCells) (h2 : s.slotsUsed + K ≤ e.platform.maxSlots)
    {Q : Addr → Pre} (hq : ∀ acts', Q s.heap.size d acts' (s.pushCell (gx_ic ci K))) : wp (multianewarray.make ci [k]) Q E e d acts s := by
  rw [multianewarray.make]
  simp only [wp_bind', W.ite, h0, if_false, wp_pure', W.theClass, hk, hkind, Option.some.injEq, exists_eq_left', hK]
  exact W.newArray_of hk hkind hl hh h1 h2 rfl (fun acts' => by
    have := hq acts'
    rw [← gx_ic_0] at this
    exact this)
theorem gx_make2 {c ci cp : ClassId} {kc ki : Class} {n k : Int32} {N K : Nat} (hkc : s.vm.classes[c]? = some kc) (hkindc : kc.kind = .array ci (.array .int)) (hki : s.vm.classes[ci]? = some ki) (hkindi : ki.kind = .array cp .int) (hn0 : ¬ n < 0) (hN : n.toNatClampNeg = N) (hk0 : ¬ k < 0) (hK : k.toNatClampNeg = K)
    (hl1 : ¬ N > e.platform.arrayLengthLimit) (hh1 : ¬ N * componentBytes (.array .int) > e.platform.maxHeapBytes) (hl2 : ¬ K > e.platform.arrayLengthLimit) (hh2 : ¬ K * componentBytes .int > e.platform.maxHeapBytes) (h1 : s.heap.size + 1 + N ≤ e.platform.maxCells) (h2 : s.slotsUsed + N + N * K ≤ e.platform.maxSlots)
    {Q : Addr → Pre} (hq : ∀ d' acts', Q s.heap.size d' acts' (gx_gr s c ci N K N)) : wp (multianewarray.make c [n, k]) Q E e d acts s := by
  have hb : ([k].find? (· < 0)) = none := by simp [hk0]
  rw [multianewarray.make]
  simp only [wp_bind', W.ite, hn0, if_false, wp_pure', W.theClass, hkc, hkindc, Option.some.injEq, exists_eq_left', hN]
  refine W.newArray_of hkc hkindc hl1 hh1 (by omega) (by have := Nat.zero_le (N * K); omega) rfl (fun acts' => ?_)
  rw [gx_oc_0 c N s.heap.size]
  simp only [hb]
  rw [ite_self, wp_bind', Std.Legacy.Range.forIn_eq_forIn_range']
  have hsz : ([:N] : Std.Legacy.Range).size = N := by simp [Std.Legacy.Range.size]
  rw [hsz]
  show wp (forIn (List.range' 0 N 1) PUnit.unit _) _ E e d acts' _
  refine wp_forIn_inv (fun l u => ∃ i : Nat, i + l.length = N ∧ l = List.range' i l.length ∧ u = gx_gr s c ci N K i) _ _ ⟨0, by simp, by simp, rfl⟩ ?_ ?_
  · rintro x l u d1 a1 Q1 ⟨i, hi, hl, rfl⟩ next
    rw [List.length_cons] at hi hl
    rw [List.range'_succ] at hl
    obtain ⟨rfl, hl⟩ := List.cons.inj hl
    obtain ⟨f1, f2, f3, f4, -⟩ := gx_gr_f s c ci N K x
    have hmul : x * K + K ≤ N * K := by
      have := Nat.mul_le_mul_right K (show x + 1 ≤ N by omega)
      rw [Nat.succ_mul] at this
      exact this
    simp only [wp_bind']
    refine gx_make1 (by rw [f3]; exact hki) hkindi hk0 hK hl2 hh2 (by rw [f1]; omega) (by rw [f4]; omega) (fun acts2 => ?_)
    simp only [wp_bind', W.writeLoc, wp_pure']
    refine ⟨gx_oc c N s.heap.size x, by rw [State.heap_pushCell_of_lt _ _ (show s.heap.size < (gx_gr s c ci N K x).heap.size by rw [f1]; omega)]; exact f2, (by intro h; cases h), by rw [gx_oc_sz]; omega, ?_, next _ _ _ ⟨x + 1, by omega, hl, ?_⟩⟩
    · have hfit : fits (FieldType.array .int) (.ref (gx_gr s c ci N K x).heap.size) = true := rfl
      simp [State.fitsSlot, State.slotType?, gx_oc, arrV, f3, hkc, hkindc, hfit]
    · rw [f1, gx_oc_put]
      rfl
  · rintro u d1 a1 ⟨i, hi, -, rfl⟩
    rw [List.length_nil] at hi
    have hi : i = N := by omega
    subst hi
    simp only [wp_pure']
    exact hq _ _
end GXm
section GXn
variable {p : Program} {l : Launch} {e : Env} {R : Room} {s : State} {m : MethodId} {args : Array Value} {below : List Frame} {meth : Method} {c : Code} {H : Heap} {locs : List Loc} {cells slots : Nat} {Q : State → Prop}
theorem gx_gr_st {T : State} (X : Stand p l e R s m args below meth c T locs cells slots) (cA ci : ClassId) (N K : Nat) : ∀ i : Nat, ∃ L : List Loc, (∀ x ∈ L, x.base = T.heap.size) ∧ Stand p l e R s m args below meth c (gx_gr T cA ci N K i) (locs ++ L) (cells + 1 + i) (slots + N + i * K)
  | 0 => ⟨[], fun _ h => (by cases h), by
      have h := X.pushed (gx_oc cA N T.heap.size 0)
      rw [gx_oc_sz] at h
      simpa [gx_gr] using h⟩
  | i + 1 => by
    obtain ⟨L, hL, Y⟩ := gx_gr_st X cA ci N K i
    obtain ⟨f1, f2, -⟩ := gx_gr_f T cA ci N K i
    have hc : ((gx_gr T cA ci N K i).pushCell (gx_ic ci K)).heap[T.heap.size]? = some (gx_oc cA N T.heap.size i) := by rw [State.heap_pushCell_of_lt _ _ (show T.heap.size < (gx_gr T cA ci N K i).heap.size by rw [f1]; omega)]; exact f2
    have h := (Y.pushed (gx_ic ci K)).stored hc i (.ref (T.heap.size + 1 + i))
    rw [gx_ic_sz, gx_oc_put] at h
    refine ⟨L ++ [⟨T.heap.size, i⟩], ?_, ?_⟩
    · intro x hx
      rcases List.mem_append.mp hx with q | q
      · exact hL x q
      · rw [List.mem_singleton] at q; rw [q]
    · rw [show slots + N + (i + 1) * K = slots + N + i * K + K by rw [Nat.succ_mul]; omega, ← List.append_assoc]
      exact h
variable {cc : ByteArray} {pc : Nat} {ls : Array Slot} {rest : List Value} {D : va_G} {cl : List vw_C} {A : Nat → Prop} {ws : va_W} {H0 : Heap}
theorem gx_mna (hexec : p.tables.exec = Jvm.exec) (hb : c.code = cc) {own : String} {index : Nat} {cI cII : ClassId} (hown : s.vm.findClass own = some m.cls) (hclink : (Cond.classLink own index "[[I").before args s = true) (hover : (Cond.arrayOver (.array .int)).before args s = true) (harr : (Cond.arrayClass .int).before args s = true) (hcI : s.vm.findClass "[I" = some cI) (hcII : s.vm.findClass "[[I" = some cII)
    (hP : va_P D cl ws H) (hD : va_D A ws) (hS : va_S A H0 H locs) (hA : ∀ q, H0.size ≤ q → A q) {n k : Int32} {N K : Nat} (hn0 : ¬ n < 0) (hN : n.toNatClampNeg = N) (hk0 : ¬ k < 0) (hK : k.toNatClampNeg = K) (hN9 : N ≤ 1000) (hK9 : K ≤ 1000) (hcells : cells + (1 + N) ≤ R.cells) (hslots : slots + (N + N * K) ≤ R.slots) (hdg : decode cc pc = .ok (.multianewarray index 2, 4))
    (kk : ∀ (h : Nat) (H1 : Heap) (locs1 : List Loc), va_P D cl (ws ++ ((h, .inl (cII, N, .inr (.inr (.inr (.inr (fun j => if j < N then some (h + 1 + j) else none)))))) :: (List.range N).map (fun j => (h + 1 + j, .inl (cI, K, .inl (fun _ => 0)))))) H1 → va_D A (ws ++ ((h, .inl (cII, N, .inr (.inr (.inr (.inr (fun j => if j < N then some (h + 1 + j) else none)))))) :: (List.range N).map (fun j => (h + 1 + j, .inl (cI, K, .inl (fun _ => 0)))))) → va_S A H0 H1 locs1 →
      W p l e R s m args below meth c H1 locs1 (cells + 1 + N) (slots + N + N * K) Q (F0 m (pc + 4) ls (.ref h :: rest))) : W p l e R s m args below meth c H locs cells slots Q (F0 m pc ls (.int k :: .int n :: rest)) := by
  intro T hT X
  have hpl : e.platform.magicAccessors = ({} : Platform).magicAccessors := by rw [X.admits.platform]
  obtain ⟨ci, cA, kA, hci, -, hkA, hkindA, hnameA⟩ := arrayOverA_spec hover
  obtain ⟨ci', kI, cp, hci', hkI, hkindI⟩ := Cond.arrayClass_spec harr
  have e1 : ci' = ci := Option.some.inj (hci'.symm.trans hci)
  subst e1
  have e2 : cI = ci' := Option.some.inj (hcI.symm.trans hci')
  subst e2
  have e3 : cII = cA := Option.some.inj (hcII.symm.trans hnameA)
  subst e3
  obtain ⟨c0, hfc0, hcl⟩ := Cond.classLink_spec hown hclink e.platform hpl
  cases hcII.symm.trans hfc0
  obtain ⟨hg₁, hwarm₁, hready₁⟩ := State.classEntry (e := e) X.warmed hcl
  generalize T.vm.noted m.cls index (.cls cII) = vm₁ at hg₁ hwarm₁ hready₁
  obtain ⟨kA₁, hkA₁, heA⟩ := hwarm₁.alike.2.2 _ _ hkA
  obtain ⟨kI₁, hkI₁, heI⟩ := hwarm₁.alike.2.2 _ _ hkI
  have hkindA₁ : kA₁.kind = .array cI (.array .int) := by rw [heA]; exact hkindA
  have hkindI₁ : kI₁.kind = .array cp .int := by rw [heI]; exact hkindI
  have X₁ := X.noted hwarm₁
  obtain ⟨hr1, hr2⟩ := X.roomAbove hcells hslots
  obtain ⟨L, hL, Y⟩ := gx_gr_st X₁ cII cI N K N
  obtain ⟨f1, f2, f3, f4, f5, f6, f7⟩ := gx_gr_f (T.setVm vm₁) cII cI N K N
  have hl1 : ¬ N > e.platform.arrayLengthLimit := by rw [Launch.admits_arrayLengthLimit X.admits]; omega
  have hh1 : ¬ N * componentBytes (.array .int) > e.platform.maxHeapBytes := by
    rw [Launch.admits_maxHeapBytes X.admits]; show ¬ N * 4 > 536870912; omega
  have hl2 : ¬ K > e.platform.arrayLengthLimit := by rw [Launch.admits_arrayLengthLimit X.admits]; omega
  have hh2 : ¬ K * componentBytes .int > e.platform.maxHeapBytes := by
    rw [Launch.admits_maxHeapBytes X.admits]; show ¬ K * 4 > 536870912; omega
  have hh : (T.setVm vm₁).heap = H := hT
  rw [hh] at f1 f2 f5 f6
  have hlt : ∀ (i : Nat) (q : Nat × va_E), ws[i]? = some q → q.1 < H.size := fun i q h => (hP i q h).lt
  generalize hGe : gx_gr (T.setVm vm₁) cII cI N K N = G at f1 f2 f3 f4 f5 f6 Y
  have row : ∀ (i : Nat) (q : Nat × va_E), ((H.size, .inl (cII, N, .inr (.inr (.inr (.inr (fun j => if j < N then some (H.size + 1 + j) else none)))))) :: (List.range N).map (fun j => (H.size + 1 + j, (.inl (cI, K, .inl (fun _ => 0)) : va_E))))[i]? = some q → q.1 = H.size + i ∧ va_at D cl q G.heap := by
    intro i q hq
    match i, hq with
    | 0, hq =>
      cases hq
      exact ⟨rfl, by show G.heap[H.size]? = _; rw [f2]; rfl⟩
    | i + 1, hq =>
      rw [List.getElem?_cons_succ, List.getElem?_map] at hq
      rcases Nat.lt_or_ge i N with hi | hi
      · rw [List.getElem?_range hi] at hq
        cases hq
        exact ⟨by show H.size + 1 + i = _; omega, by show G.heap[H.size + 1 + i]? = _; rw [f6 i hi]; rfl⟩
      · rw [List.getElem?_eq_none (by simpa using hi)] at hq
        cases hq
  obtain ⟨t, a1, b1⟩ := kk H.size G.heap (locs ++ L) (va_P.app (hP.kept (fun i q h => f5 q.1 (hlt i q h))) (fun i q h => (row i q h).2))
    (va_D.app hD ⟨fun i j x y hx hy hxy => by have := (row i x hx).1; have := (row j y hy).1; omega, fun i q h => by rw [(row i q h).1]; exact hA _ (Nat.le_trans hS.1 (Nat.le_add_right _ _))⟩ (fun i j x y hx hy hxy => by have := hlt i x hx; have := (row j y hy).1; omega))
    ⟨Nat.le_trans hS.1 (by rw [f1]; omega), fun q g1 g2 => by rw [f5 q (Nat.lt_of_lt_of_le g1 hS.1)]; exact hS.2.1 q g1 g2, fun x hx => by
      rcases List.mem_append.mp hx with h | h
      · exact hS.2.2 x h
      · rw [hL x h, hh]; exact hA _ hS.1⟩ G rfl Y
  refine ⟨t, ?_, b1⟩
  subst hb
  have hX := X.here
  jvm_step hX [hexec, hdg]
  simp only [multianewarray.sem, wp_bind', W.resolveClassAt_links (State.method?_setTop (F0 m pc ls (.int k :: .int n :: rest)) X.here.top) hg₁]
  rw [W.popN, if_neg (by decide)]
  refine ⟨F0 m pc ls (.int k :: .int n :: rest), State.topJava?_setTop' (s := T.setVm vm₁) _ X.here.top, [.int n, .int k], rest, rfl, rfl, ?_⟩
  simp only [List.mapM_cons, List.mapM_nil, wp_bind', wp_pure']
  refine gx_make2 (kc := kA₁) (ki := kI₁) (ci := cI) (cp := cp) hkA₁ hkindA₁ hkI₁ hkindI₁ hn0 hN hk0 hK hl1 hh1 hl2 hh2 (by show T.heap.size + 1 + _ ≤ _; omega) (by show T.slotsUsed + _ + _ ≤ _; omega) (fun d' acts' => ?_)
  have eS : ((T.setTop (F0 m pc ls (.int k :: .int n :: rest))).setVm vm₁).setTop { F0 m pc ls (.int k :: .int n :: rest) with stack := rest } = (T.setVm vm₁).setTop { F0 m pc ls (.int k :: .int n :: rest) with stack := rest } := by
    show ((T.setVm vm₁).setTop _).setTop _ = _
    rw [State.setTop_setTop]
  rw [eS, f7, hGe]
  simp only [wp_bind', W.mark, W.pushRef, State.topJava?_setTop' _ Y.here.top, Option.some.injEq, exists_eq_left', State.setTop_setTop, State.heap_setTop]
  intro acts2
  simp [jvm, Y.here.top]
  have hTs : T.heap.size = H.size := by rw [hT]
  rw [hTs]
  exact a1
end GXn
end
section
/-! THROW: methods that only read (the heap stays), and methods that may throw while nothing is written yet -/
/-- a contract that only reads: the answer, the heap as it was -/
def gx_Ri (post : Int32 → Prop) : Array Value → State → Outcome → State → Prop := fun _ st o t => ∃ r : Int32, o = .returned (some (.int r)) ∧ post r ∧ t.heap = st.heap
def gx_Rl (post : Int64 → Prop) : Array Value → State → Outcome → State → Prop := fun _ st o t => ∃ r : Int64, o = .returned (some (.long r)) ∧ post r ∧ t.heap = st.heap
def gx_Rr (post : Nat → Prop) : Array Value → State → Outcome → State → Prop := fun _ st o t => ∃ r : Nat, o = .returned (some (.ref r)) ∧ post r ∧ t.heap = st.heap
section GXr
variable {p : Program} {l : Launch} {e : Env} {R : Room} {s : State} {m : MethodId} {args : Array Value} {below : List Frame} {meth : Method} {c : Code} {H : Heap} {locs : List Loc} {cells slots : Nat} {Q : State → Prop}
variable {cc : ByteArray} {pc : Nat} {ls : Array Slot} {rest st0 : List Value} {a : Array Value}
theorem gx_readi {post : Int32 → Prop} (hr : va_Run p l e R s m args below meth c H locs cells slots 0 0 (F0 m pc ls st0) rest (gx_Ri post a) (fun _ => False))
    (kk : ∀ r : Int32, post r → W p l e R s m args below meth c H locs cells slots Q (F0 m (pc + 3) ls (.int r :: rest))) : W p l e R s m args below meth c H locs cells slots Q (F0 m pc ls st0) := by
  intro T hT X
  obtain ⟨v, st₀, t, T', L, h0, X', hL, e1, e2, ⟨r, hv, hp, hh⟩, st⟩ := hr T hT X
  cases hv
  obtain ⟨t2, a1, b1⟩ := kk r hp T' (by rw [e1, hh, h0]) (Stand.forget X' (fun q h => (hL q h).elim))
  exact ⟨t2, st t2 a1, b1⟩
theorem gx_readl {post : Int64 → Prop} (hr : va_Run p l e R s m args below meth c H locs cells slots 0 0 (F0 m pc ls st0) rest (gx_Rl post a) (fun _ => False))
    (kk : ∀ r : Int64, post r → W p l e R s m args below meth c H locs cells slots Q (F0 m (pc + 3) ls (.long r :: rest))) : W p l e R s m args below meth c H locs cells slots Q (F0 m pc ls st0) := by
  intro T hT X
  obtain ⟨v, st₀, t, T', L, h0, X', hL, e1, e2, ⟨r, hv, hp, hh⟩, st⟩ := hr T hT X
  cases hv
  obtain ⟨t2, a1, b1⟩ := kk r hp T' (by rw [e1, hh, h0]) (Stand.forget X' (fun q h => (hL q h).elim))
  exact ⟨t2, st t2 a1, b1⟩
theorem gx_readr {post : Nat → Prop} (hr : va_Run p l e R s m args below meth c H locs cells slots 0 0 (F0 m pc ls st0) rest (gx_Rr post a) (fun _ => False))
    (kk : ∀ r : Nat, post r → W p l e R s m args below meth c H locs cells slots Q (F0 m (pc + 3) ls (.ref r :: rest))) : W p l e R s m args below meth c H locs cells slots Q (F0 m pc ls st0) := by
  intro T hT X
  obtain ⟨v, st₀, t, T', L, h0, X', hL, e1, e2, ⟨r, hv, hp, hh⟩, st⟩ := hr T hT X
  cases hv
  obtain ⟨t2, a1, b1⟩ := kk r hp T' (by rw [e1, hh, h0]) (Stand.forget X' (fun q h => (hL q h).elim))
  exact ⟨t2, st t2 a1, b1⟩
theorem gx_ireti {mc ms : Nat} {post : Int32 → Prop} {v : Int32} {ty : FieldType} (hexec : p.tables.exec = Jvm.exec) (hb : c.code = cc) (hr : meth.sig.returnType = some ty) (hlocks : meth.locks = false) (hn : narrow ty (.int v) = .int v) (hdg : decode cc pc = .ok (.ireturn, 1)) (hp : post v) :
    W p l e R s m args below meth c s.heap [] 0 0 (MQ below (gx_Ri post) args s mc ms (fun _ => False)) (F0 m pc ls [.int v]) :=
  W.widen (Nat.zero_le mc) (Nat.zero_le ms) (W.zret hexec hb hr hn (fun t ht hW => ⟨v, rfl, hp, ht⟩) (fun _ h => nomatch h) hdg hlocks)
theorem gx_iretl {mc ms : Nat} {post : Int64 → Prop} {v : Int64} (hexec : p.tables.exec = Jvm.exec) (hb : c.code = cc) (hr : meth.sig.returnType = some .long) (hlocks : meth.locks = false) (hdg : decode cc pc = .ok (.lreturn, 1)) (hp : post v) :
    W p l e R s m args below meth c s.heap [] 0 0 (MQ below (gx_Rl post) args s mc ms (fun _ => False)) (F0 m pc ls [.long v]) :=
  W.widen (Nat.zero_le mc) (Nat.zero_le ms) (W.lret hexec hb hr (fun t ht hW => ⟨v, rfl, hp, ht⟩) (fun _ h => nomatch h) hdg hlocks)
theorem gx_iretr {mc ms : Nat} {post : Nat → Prop} {v : Nat} {rt : FieldType} (hexec : p.tables.exec = Jvm.exec) (hb : c.code = cc) (hr : meth.sig.returnType = some rt) (hrt : (∃ n, rt = .object n) ∨ ∃ t, rt = .array t) (hlocks : meth.locks = false) (hdg : decode cc pc = .ok (.areturn, 1)) (hp : post v) :
    W p l e R s m args below meth c s.heap [] 0 0 (MQ below (gx_Rr post) args s mc ms (fun _ => False)) (F0 m pc ls [.ref v]) :=
  W.widen (Nat.zero_le mc) (Nat.zero_le ms) (W.aret hexec hb hr hrt (Or.inr ⟨v, rfl⟩) (fun t ht hW => ⟨v, rfl, hp, ht⟩) (fun _ h => nomatch h) hdg hlocks)
end GXr
/-- thrown, with nothing written: one object of six fields is new -/
def gx_X (XC : String → Prop) (st : State) (o : Outcome) (t : State) : Prop := ∃ (q : Addr) (E : String) (ce : Cell), o = .threw q ∧ XC E ∧ t.heap[q]? = some ce ∧ ce.vm = .none ∧ st.vm.findClass E = some ce.cls ∧ st.WarmedH t.vm ∧ st.sameButNew ({ t with vm := st.vm } : State) [] 1 6
def gx_XQ (Qc : Array Value → State → Outcome → State → Prop) (XC : String → Prop) (mc ms : Nat) (free : Addr → Prop) : Array Value → State → Outcome → State → Prop := fun a st o t => (Qc a st o t ∧ ∃ L, FrameEnd st o t L mc ms ∧ ∀ q ∈ L, free q.base) ∨ gx_X XC st o t
def gx_XM (l : Launch) (y : MethodName) (ts : List Cond) (rm : Room) (Pc : Array Value → State → Prop) (Qc : Array Value → State → Outcome → State → Prop) (XC : String → Prop) (mc ms : Nat) (free : Addr → Prop) : Prop :=
  MetFree l y (headSpec ts rm) Pc (fun _ _ _ _ _ => True) (gx_XQ Qc XC mc ms free)
def gx_MX (below : List Frame) (Qc : Array Value → State → Outcome → State → Prop) (XC : String → Prop) (a : Array Value) (s : State) (mc ms : Nat) (free : Addr → Prop) : State → Prop := fun t => ∃ o, t.status = .running ∧ Ended t below o ∧ gx_XQ Qc XC mc ms free a s o t
/-- of a state that only has new cells: what was there is as it was -/
theorem gx_same {s U : State} {k n : Nat} (h : s.sameButNew ({ U with vm := s.vm } : State) [] k n) : s.heap.size ≤ U.heap.size ∧ ∀ q : Nat, q < s.heap.size → U.heap[q]? = s.heap[q]? := by
  obtain ⟨-, h2, -, -, -, h6⟩ := h
  refine ⟨h2, fun q hq => ?_⟩
  obtain ⟨x, e1, e2, e3, e4⟩ := h6 q _ (Array.getElem?_eq_getElem hq)
  have hs : x.slots = (s.heap[q]).slots := Array.ext_getElem? fun i => e4 i (fun hm => nomatch hm)
  have h9 : x = s.heap[q] := by
    rw [hs] at e2
    exact e2
  have e5 : U.heap[q]? = some x := e1
  rw [e5, h9, Array.getElem?_eq_getElem hq]
section GXx
variable {p : Program} {l : Launch} {e : Env} {R : Room} {s : State} {m : MethodId} {args : Array Value} {below : List Frame} {meth : Method} {c : Code} {H : Heap} {locs : List Loc} {cells slots : Nat} {Q : State → Prop}
variable {cc : ByteArray} {pc : Nat} {ls : Array Slot} {rest : List Value} {Qc : Array Value → State → Outcome → State → Prop} {XC : String → Prop} {mc ms : Nat} {free : Addr → Prop}
theorem gx_mx {g : JFrame} (k : W p l e R s m args below meth c H locs cells slots (MQ below Qc args s mc ms free) g) : W p l e R s m args below meth c H locs cells slots (gx_MX below Qc XC args s mc ms free) g :=
  gx_mono (fun t ⟨o, h1, h2, h3, h4⟩ => ⟨o, h1, h2, Or.inl ⟨h3, h4⟩⟩) k
/-- throw new E("text") -/
theorem gx_throw (hexec : p.tables.exec = Jvm.exec) (hb : c.code = cc) (hl : l.stackTraces = false) {own cls text : String} {names : List String} {ik is ic sa : Nat} (hown : s.vm.findClass own = some m.cls) (hcls : Bundle.fit cls = true) (hnames : ∀ n ∈ names, Bundle.fit n = true)
    (hk : (Cond.classLink own ik cls).before args s = true) (hini : (Cond.initialized cls).before args s = true) (hstr : vk_R own is text sa s) (hat : ∀ w ∈ Bundle.ownAtoms own ic cls names, w.before args s = true) (hsize : ls.size = c.maxLocals)
    (d0 : decode cc pc = .ok (.new ik, 3)) (d3 : decode cc (pc + 3) = .ok (.dup, 1)) (d4 : decode cc (pc + 4) = .ok (.ldc is, 2)) (d6 : decode cc (pc + 6) = .ok (.invokespecial ic, 3)) (d9 : decode cc (pc + 9) = .ok (.athrow, 1))
    (hex : c.exceptionTable.isEmpty = true) (hRf : names.length + 3 < R.frames) (hRl : (rest.map fun v => v.category).sum + (13 * (names.length + 1) + 43) ≤ R.locals) (hRc : 1 ≤ R.cells) (hRs : 6 ≤ R.slots) (hlocks : meth.locks = false) (hX : XC cls) :
    W p l e R s m args below meth c s.heap [] 0 0 (gx_MX below Qc XC args s mc ms free) (F0 m pc ls rest) := by
  intro T hT X
  have htr : e.platform.stackTraces = false := (show e.platform.stackTraces = l.stackTraces by rw [X.admits.platform]).trans hl
  have hins : (Cond.instantiable cls 6).before args s = true := hat _ (by simp [Bundle.ownAtoms])
  obtain ⟨vm₁, cX, kX, hfX, hkX, -, -, X₁, st1⟩ := X.newCold hexec (own := own) (C := cls) (index := ik) (n := 6) hown hk hins hini (g := F0 m pc ls rest) rfl (by rw [hb]; exact d0) (by omega) (by omega)
  generalize hT1 : (T.setVm vm₁).pushCell { cls := cX, slots := kX.instanceTypes.map defaultValue, vm := .none } = T1 at X₁ st1
  have hcellA : T1.heap[T.heap.size]? = some (freshCell cX kX) := by rw [← hT1]; exact State.heap_pushCell_size _ _
  have hcat : (Value.ref T.heap.size).category = 1 := rfl
  have d3' : decode c.code (pc + 3) = .ok (.dup, 1) := by rw [hb]; exact d3
  have d4' : decode c.code (pc + 4) = .ok (.ldc is, 2) := by rw [hb]; exact d4
  obtain ⟨U, hsteps, hrun, hend, hW, hsame, ce, hce, hO⟩ := X₁.ctorThrowS hexec htr (own := own) (cls := cls) (names := names) (ic := ic) hown hcls hnames hat (fun x hx => nomatch hx) hfX hkX hcellA (by rw [hT]; exact Nat.le_refl _) (msg := .ref sa) rfl
    (g := { method := m, pc := pc + 6, locals := ls, stack := .ref sa :: .ref T.heap.size :: .ref T.heap.size :: rest, locked := none }) rfl hsize rfl rfl (rest := rest) rfl
    (by rw [hb]; exact d6) (by rw [hb]; exact d9) (covers_of_empty hex _) hRf (by simp only [List.map_cons, List.sum_cons, hcat]; show 2 * 0 + _ + _ ≤ _; omega) hlocks
  refine ⟨U, ?_, .threw T.heap.size, hrun, hend, Or.inr ⟨T.heap.size, cls, ce, rfl, hX, hce, hO.vm, hO.cls, hW, ?_⟩⟩
  · refine st1 _ ?_
    show Steps p.tables e below (T1.setTop { method := m, pc := pc + 3, locals := ls, stack := .ref T.heap.size :: rest, locked := none }) _
    jvm_step X₁.here [X₁.here.top, hexec, d3', Value.category]
    exact X₁.ldcString hexec (own := own) (text := text) (index := is) (a := sa) hown hstr.1 hstr.2
      (g := { method := m, pc := pc + 4, locals := ls, stack := .ref T.heap.size :: .ref T.heap.size :: rest, locked := none }) rfl d4' _ hsteps
  · exact hsame
end GXx
theorem gx_xmet {l : Launch} {y : MethodName} {rm : Room} {s0 : State} {D : va_G} {cl : List vw_C} {ws : va_W} {sz : Nat} {av : List Value} {Qc : Array Value → State → Outcome → State → Prop} {XC : String → Prop} {mc ms : Nat} {free : Addr → Prop} {cc : ByteArray} {maxL : Nat} {ret : Option FieldType} (hy : plainName y.cls = true) (hav : (lg_sl av).length ≤ maxL)
    (body : ∀ (p : Program) (e : Env) (s : State) (m : MethodId) (below : List Frame) (meth : Method) (c : Code) (ls : Array Slot), p.tables.exec = Jvm.exec → c.code = cc → meth.sig.returnType = ret → c.maxLocals = maxL → s.vm.findClass y.cls = some m.cls → meth.locks = false → c.exceptionTable.isEmpty = true → s.heap.size = sz → gx_V s0 s → va_P D cl ws s.heap → va_D (va_A ws sz) ws → va_S (va_A ws sz) s.heap s.heap [] → (∀ q, s.heap.size ≤ q → va_A ws sz q) → (∀ q, va_A ws sz q → s0.heap.size ≤ q) → lv_has ls maxL (lv_args 0 av) →
      W p l e rm s m av.toArray below meth c s.heap [] 0 0 (gx_MX below Qc XC av.toArray s mc ms free) (F0 m 0 ls [])) : gx_XM l y [.code y cc maxL ret] rm (gx_P s0 D cl ws sz av) Qc XC mc ms free := by
  refine MetFree.of_bodyS (code := cc) (maxLocals := maxL) (ret := ret) hy ?_ ?_
  · intro args s m h hn
    obtain ⟨meth, c, h1, h2, h3, h4, h5, h6, -, -⟩ := Cond.code_spec hn (atoms_spec (ws := [.code y cc maxL ret]) h _ List.mem_cons_self)
    exact ⟨meth, c, h1, h2, h3, h4, h5, h6⟩
  · intro p e s m args below meth c s₁ B hml hv _
    obtain ⟨rfl, hsz, hP, hD0, hV⟩ := hv
    have hl := lv_entry av (n := maxL) hav
    have hh0 : s₁.heap = s.heap := by rw [B.state]; rfl
    have hex := B.noHandlers (atoms_spec (ws := [.code y cc maxL ret]) B.pre _ List.mem_cons_self)
    have K := body p e s m below meth c _ B.exec B.bytes B.returns hml (findClass_of_methodNamed B.named) B.notSynchronized hex hsz hV hP hD0.self va_S.rf (fun q h => Or.inr (hsz ▸ h)) (fun q h => by
      rcases h with ⟨k, e9, h⟩ | h
      · exact hD0.2 k _ h
      · exact Nat.le_trans hV.2.1 (hsz ▸ h)) hl
    rw [lg_entry_eq]
    obtain ⟨t, a1, o, b1, b2, b3⟩ := K s₁ hh0 (Stand.of_body B)
    exact ⟨t, o, a1, b1, b2, b3⟩
end
section
/-! ROWS: arrays read and written at a place that is a number -/
section GXy
variable {p : Program} {l : Launch} {e : Env} {R : Room} {s : State} {m : MethodId} {args : Array Value} {below : List Frame} {meth : Method} {c : Code} {H : Heap} {locs : List Loc} {cells slots : Nat} {Q : State → Prop}
variable {cc : ByteArray} {pc : Nat} {ls : Array Slot} {rest : List Value} {D : va_G} {cl : List vw_C} {A : Nat → Prop} {a : Nat} {tys : List (ClassId × FieldType)} {ws : va_W} {H0 : Heap}
theorem gx_il (hexec : p.tables.exec = Jvm.exec) (hb : c.code = cc) (hK : va_K D cl tys s) (hP : va_P D cl ws H) (q0 t0 : Nat) {cA : ClassId} {n : Nat} {f : Nat → Int32} (ha : ws[q0]? = some (a, .inl (cA, n, .inl f))) (ht : tys[t0]? = some (cA, .int)) {i : Int32} (j : Nat) (hi : i = nI j) (hj : j < n) (hn : n < 2 ^ 31) (hdg : decode cc pc = .ok (.iaload, 1))
    (kk : W p l e R s m args below meth c H locs cells slots Q (F0 m (pc + 1) ls (.int (f j) :: rest))) : W p l e R s m args below meth c H locs cells slots Q (F0 m pc ls (.int i :: .ref a :: rest)) := by
  subst hi
  refine va_iald hexec hb hK hP q0 t0 ha ht (vp_in_nI hj hn) hdg ?_
  rw [nI_clamp (by omega)]
  exact kk
theorem gx_cl (hexec : p.tables.exec = Jvm.exec) (hb : c.code = cc) (hK : va_K D cl tys s) (hP : va_P D cl ws H) (q0 t0 : Nat) {cA : ClassId} {n : Nat} {f : Nat → Int32} (ha : ws[q0]? = some (a, .inl (cA, n, .inl f))) (ht : tys[t0]? = some (cA, .char)) {i : Int32} (j : Nat) (hi : i = nI j) (hj : j < n) (hn : n < 2 ^ 31) (hdg : decode cc pc = .ok (.caload, 1))
    (kk : W p l e R s m args below meth c H locs cells slots Q (F0 m (pc + 1) ls (.int (f j) :: rest))) : W p l e R s m args below meth c H locs cells slots Q (F0 m pc ls (.int i :: .ref a :: rest)) := by
  subst hi
  refine va_cald hexec hb hK hP q0 t0 ha ht (vp_in_nI hj hn) hdg ?_
  rw [nI_clamp (by omega)]
  exact kk
theorem gx_ll (hexec : p.tables.exec = Jvm.exec) (hb : c.code = cc) (hK : va_K D cl tys s) (hP : va_P D cl ws H) (q0 t0 : Nat) {cA : ClassId} {n : Nat} {f : Nat → Int64} (ha : ws[q0]? = some (a, .inl (cA, n, .inr (.inl f)))) (ht : tys[t0]? = some (cA, .long)) {i : Int32} (j : Nat) (hi : i = nI j) (hj : j < n) (hn : n < 2 ^ 31) (hdg : decode cc pc = .ok (.laload, 1))
    (kk : W p l e R s m args below meth c H locs cells slots Q (F0 m (pc + 1) ls (.long (f j) :: rest))) : W p l e R s m args below meth c H locs cells slots Q (F0 m pc ls (.int i :: .ref a :: rest)) := by
  subst hi
  refine va_lald hexec hb hK hP q0 t0 ha ht (vp_in_nI hj hn) hdg ?_
  rw [nI_clamp (by omega)]
  exact kk
theorem gx_al (hexec : p.tables.exec = Jvm.exec) (hb : c.code = cc) (hK : va_K D cl tys s) (hP : va_P D cl ws H) (q0 t0 : Nat) {cA : ClassId} {ty : FieldType} {n : Nat} {f : Nat → Option Nat} (ha : ws[q0]? = some (a, .inl (cA, n, .inr (.inr (.inr (.inr f)))))) (ht : tys[t0]? = some (cA, ty)) (href : ty.isReference = true) {i : Int32} (j : Nat) {v : Nat} (hi : i = nI j) (hj : j < n) (hn : n < 2 ^ 31) (hv : f j = some v) (hdg : decode cc pc = .ok (.aaload, 1))
    (kk : W p l e R s m args below meth c H locs cells slots Q (F0 m (pc + 1) ls (.ref v :: rest))) : W p l e R s m args below meth c H locs cells slots Q (F0 m pc ls (.int i :: .ref a :: rest)) := by
  subst hi
  exact gx_aald hexec hb hK hP q0 t0 ha ht href (vp_in_nI hj hn) (by rw [nI_clamp (by omega)]; exact hv) hdg kk
theorem gx_is (hexec : p.tables.exec = Jvm.exec) (hb : c.code = cc) (hK : va_K D cl tys s) (hP : va_P D cl ws H) (hD : va_D A ws) (hS : va_S A H0 H locs) (q0 t0 : Nat) {cA : ClassId} {n : Nat} {f : Nat → Int32} (ha : ws[q0]? = some (a, .inl (cA, n, .inl f))) (ht : tys[t0]? = some (cA, .int)) {i : Int32} {x : Int32} (j : Nat) (hi : i = nI j) (hj : j < n) (hn : n < 2 ^ 31) (hdg : decode cc pc = .ok (.iastore, 1))
    (kk : ∀ (H1 : Heap) (locs1 : List Loc), va_P D cl (ws.set q0 (a, .inl (cA, n, .inl (upd f j x)))) H1 → va_D A (ws.set q0 (a, .inl (cA, n, .inl (upd f j x)))) → va_S A H0 H1 locs1 → W p l e R s m args below meth c H1 locs1 cells slots Q (F0 m (pc + 1) ls rest)) : W p l e R s m args below meth c H locs cells slots Q (F0 m pc ls (.int x :: .int i :: .ref a :: rest)) := by
  subst hi
  refine va_iast hexec hb hK hP hD hS q0 t0 ha ht (vp_in_nI hj hn) hdg ?_
  rw [nI_clamp (by omega)]
  exact kk
theorem gx_cs (hexec : p.tables.exec = Jvm.exec) (hb : c.code = cc) (hK : va_K D cl tys s) (hP : va_P D cl ws H) (hD : va_D A ws) (hS : va_S A H0 H locs) (q0 t0 : Nat) {cA : ClassId} {n : Nat} {f : Nat → Int32} (ha : ws[q0]? = some (a, .inl (cA, n, .inl f))) (ht : tys[t0]? = some (cA, .char)) {i : Int32} {x : Int32} (j : Nat) (hi : i = nI j) (hj : j < n) (hn : n < 2 ^ 31) (hx9 : vp_nar .char x = x) (hdg : decode cc pc = .ok (.castore, 1))
    (kk : ∀ (H1 : Heap) (locs1 : List Loc), va_P D cl (ws.set q0 (a, .inl (cA, n, .inl (upd f j x)))) H1 → va_D A (ws.set q0 (a, .inl (cA, n, .inl (upd f j x)))) → va_S A H0 H1 locs1 → W p l e R s m args below meth c H1 locs1 cells slots Q (F0 m (pc + 1) ls rest)) : W p l e R s m args below meth c H locs cells slots Q (F0 m pc ls (.int x :: .int i :: .ref a :: rest)) := by
  subst hi
  refine va_cast hexec hb hK hP hD hS q0 t0 ha ht (vp_in_nI hj hn) hdg ?_
  rw [nI_clamp (by omega), hx9]
  exact kk
theorem gx_ls (hexec : p.tables.exec = Jvm.exec) (hb : c.code = cc) (hK : va_K D cl tys s) (hP : va_P D cl ws H) (hD : va_D A ws) (hS : va_S A H0 H locs) (q0 t0 : Nat) {cA : ClassId} {n : Nat} {f : Nat → Int64} (ha : ws[q0]? = some (a, .inl (cA, n, .inr (.inl f)))) (ht : tys[t0]? = some (cA, .long)) {i : Int32} {x : Int64} (j : Nat) (hi : i = nI j) (hj : j < n) (hn : n < 2 ^ 31) (hdg : decode cc pc = .ok (.lastore, 1))
    (kk : ∀ (H1 : Heap) (locs1 : List Loc), va_P D cl (ws.set q0 (a, .inl (cA, n, .inr (.inl (vp_updL f j x))))) H1 → va_D A (ws.set q0 (a, .inl (cA, n, .inr (.inl (vp_updL f j x))))) → va_S A H0 H1 locs1 → W p l e R s m args below meth c H1 locs1 cells slots Q (F0 m (pc + 1) ls rest)) : W p l e R s m args below meth c H locs cells slots Q (F0 m pc ls (.long x :: .int i :: .ref a :: rest)) := by
  subst hi
  refine va_last hexec hb hK hP hD hS q0 t0 ha ht (vp_in_nI hj hn) hdg ?_
  rw [nI_clamp (by omega)]
  exact kk
end GXy
theorem gx_rng {x : Int32} {n : Nat} (hn : n < 2 ^ 31) (h0 : ¬ x < 0) (h1 : ¬ nI n ≤ x) : ∃ j : Nat, j < n ∧ x = nI j := by
  rcases pk_ix x hn with h | h | h
  · exact absurd h h0
  · exact absurd h h1
  · exact h
end
section
/-! CATCH: a call that returns or throws; a handler of the caller's own -/
section GXc
variable {Q : Handler → Pre} {E : CtlPost} {e : Env} {d : Bool} {acts : List Action} {s : State} {f : JFrame} {a : Addr}
theorem gx_go1 {x : ExceptionTableEntry} {t : List ExceptionTableEntry} {c : ClassId} {cell : Cell} {vm1 : Vm} (hx : covers x f.pc = true) (h0 : x.catchType ≠ 0) (hg : (Jvm.resolveClass f.method.cls x.catchType).Gives e.toSetting s.vm (.ok c) vm1) (hcell : s.heap[a]? = some cell) (hobj : ∀ k, cell.vm ≠ .statics k)
    (hk : ∃ k, vm1.classes[cell.cls]? = some k) (hc : ∃ k, vm1.classes[c]? = some k) (hz : vm1.classes.size ≤ s.vm.classes.size) :
    wp (findHandler.go f a (x :: t)) Q E e d acts s ↔ if vm1.assignable cell.cls c = true then Q (.found x.handlerPc) d acts (s.setVm vm1) else wp (findHandler.go f a t) Q E e d acts (s.setVm vm1) := by
  simp only [covers] at hx
  obtain ⟨ha, ht⟩ := hg.op (op := VmOp.resolveClass f.method.cls x.catchType) rfl
  obtain ⟨k1, hk1⟩ := hk
  obtain ⟨k2, hk2⟩ := hc
  have hla := VmOp.lands_eq (op := VmOp.resolveClass f.method.cls x.catchType) (e := e) (s := s) ht hz
  cases hfit : vm1.assignable cell.cls c <;> simp [findHandler.go, hx, h0, ha, hla, hcell, hobj, hk1, hk2, hfit, VmOp.dirties, VmOp.acts]
/-- the search leads to a handler, and warms the tables -/
def gx_Fd (e : Env) (s : State) (f : JFrame) (a : Addr) (pc : Nat) (vm1 : Vm) : Prop := ∀ (Q : Handler → Pre) (E : CtlPost) (d : Bool) (acts : List Action), wp (findHandler f a) Q E e d acts s ↔ Q (.found pc) d acts (s.setVm vm1)
theorem gx_step {r : List Frame} {pc : Nat} {vm1 : Vm} (hf : gx_Fd e s f a pc vm1) : (stepThrowing e s a (.java f :: r)).Is ((s.setVm vm1).setFrames (.java { f with pc := pc, stack := [.ref a] } :: r)) [] := by
  simp only [stepThrowing, searchFrame, vmDo]
  generalize hr : Sem.go _ e false [] s = res
  obtain ⟨as, rfl, ha⟩ := Sem.eq_ok_of hr (a := Handler.found pc) (s' := s.setVm vm1) (acts' := []) (by simp [hf _ _ _ _])
  exact ⟨rfl, ha⟩
end GXc
section GXd
variable {p : Program} {l : Launch} {e : Env} {R : Room} {s : State} {m : MethodId} {args : Array Value} {below : List Frame} {meth : Method} {c : Code} {T : State} {locs : List Loc} {cells slots : Nat}
theorem gx_caught (X : Stand p l e R s m args below meth c T locs cells slots) {q : Addr} {g : JFrame} (hg : g.method = m) {pc : Nat} {vm1 : Vm} (hW : s.WarmedH vm1) (hf : gx_Fd e ((T.setTop g).pushFrame (.throwing q)) g q pc vm1) {target : State}
    (hrest : Steps p.tables e below ((T.setVm vm1).setTop { g with pc := pc, stack := [.ref q] }) target) : Steps p.tables e below ((T.setTop g).pushFrame (.throwing q)) target := by
  have h : At T g.method c below := by rw [hg]; exact X.here
  obtain ⟨hgo, hw⟩ := h.throwing q
  refine Steps.head hgo hw ?_
  rw [stepThread_throwing (frames_entered h.top _), (gx_step (s := (T.setTop g).pushFrame (.throwing q)) hf).1]
  obtain ⟨g₀, hg0⟩ := Option.isSome_iff_exists.mp h.top
  obtain ⟨r, hr⟩ := State.topJava?_eq_some.mp hg0
  have hr' : (T.setVm vm1).frames = .java g₀ :: r := hr
  rw [State.setTop_of_frames _ hr'] at hrest
  have e1 : (((T.setTop g).pushFrame (.throwing q)).setVm vm1).setFrames (.java { g with pc := pc, stack := [.ref q] } :: T.frames.tail) = (T.setVm vm1).setFrames (.java { g with pc := pc, stack := [.ref q] } :: r) := by
    rw [State.pushFrame, State.setTop_of_frames _ hr, State.setFrames_setFrames, hr]
    show (((T.setFrames _).setVm vm1)).setFrames _ = _
    rw [show (T.setFrames (.throwing q :: (T.setFrames (.java g :: r)).frames)).setVm vm1 = (T.setVm vm1).setFrames (.throwing q :: (T.setFrames (.java g :: r)).frames) from rfl, State.setFrames_setFrames]
    rfl
  rw [e1]
  exact hrest
/-- the handlers of a table of one or two rows, each with a class -/
theorem gx_find1 (X : Stand p l e R s m args below meth c T locs cells slots) {own n1 E : String} {q : Addr} {g : JFrame} (hg : g.method = m) (hown : s.vm.findClass own = some m.cls) {x : ExceptionTableEntry} {suf : List ExceptionTableEntry} (htab : c.exceptionTable.toList = x :: suf) (hx : covers x g.pc = true) (h0 : x.catchType ≠ 0)
    (hl : (Cond.classLink own x.catchType n1).before args s = true) {ce : Cell} (hcell : T.heap[q]? = some ce) (hv : ce.vm = .none) (hcl : s.vm.findClass E = some ce.cls) (hcast : (Cond.castable E n1).before args s = true) :
    ∃ vm1, s.WarmedH vm1 ∧ gx_Fd e ((T.setTop g).pushFrame (.throwing q)) g q x.handlerPc vm1 := by
  subst hg
  have hpl : e.platform.magicAccessors = ({} : Platform).magicAccessors := by rw [X.admits.platform]
  obtain ⟨c3, c4, hc3, hc4, hasg⟩ := Cond.castable_spec hcast
  cases Option.some.inj (hc3.symm.trans hcl)
  obtain ⟨c5, hc5, hcl5⟩ := Cond.classLink_spec hown hl e.platform hpl
  cases Option.some.inj (hc4.symm.trans hc5)
  obtain ⟨hg1, hw1, -⟩ := State.classEntry (e := e) X.warmed hcl5
  obtain ⟨k1, hk1⟩ := Vm.classAt_of_findClass hcl
  obtain ⟨k2, hk2⟩ := Vm.classAt_of_findClass hc4
  obtain ⟨k1', hk1', -⟩ := hw1.alike.2.2 _ _ hk1
  obtain ⟨k2', hk2', -⟩ := hw1.alike.2.2 _ _ hk2
  refine ⟨_, hw1, fun Q E9 d acts => ?_⟩
  rw [W.findHandler_eq (s := (T.setTop g).pushFrame (.throwing q)) X.method' X.code, htab, gx_go1 (s := (T.setTop g).pushFrame (.throwing q)) (cell := ce) hx h0 hg1 hcell (fun k h => by rw [hv] at h; cases h) ⟨k1', hk1'⟩ ⟨k2', hk2'⟩ (Nat.le_of_eq (Vm.size_noted ..)), if_pos (by rw [hw1.alike.assignable]; exact hasg)]
theorem gx_find2 (X : Stand p l e R s m args below meth c T locs cells slots) {own n1 n2 E : String} {q : Addr} {g : JFrame} (hg : g.method = m) (hown : s.vm.findClass own = some m.cls) {x y : ExceptionTableEntry} {suf : List ExceptionTableEntry} (htab : c.exceptionTable.toList = x :: y :: suf) (hx : covers x g.pc = true) (h0 : x.catchType ≠ 0) (hy : covers y g.pc = true) (hy0 : y.catchType ≠ 0)
    (hl : (Cond.classLink own x.catchType n1).before args s = true) (hl2 : (Cond.classLink own y.catchType n2).before args s = true) {ce : Cell} (hcell : T.heap[q]? = some ce) (hv : ce.vm = .none) (hcl : s.vm.findClass E = some ce.cls) (hno : va_Nc E n1 s) (hcast : (Cond.castable E n2).before args s = true) :
    ∃ vm1, s.WarmedH vm1 ∧ gx_Fd e ((T.setTop g).pushFrame (.throwing q)) g q y.handlerPc vm1 := by
  subst hg
  have hpl : e.platform.magicAccessors = ({} : Platform).magicAccessors := by rw [X.admits.platform]
  obtain ⟨c3, c4, hc3, hc4, hasg⟩ := Cond.castable_spec hcast
  cases Option.some.inj (hc3.symm.trans hcl)
  obtain ⟨c5, hc5, hcl5⟩ := Cond.classLink_spec hown hl2 e.platform hpl
  cases Option.some.inj (hc4.symm.trans hc5)
  obtain ⟨c6, hc6, hcl6⟩ := Cond.classLink_spec hown hl e.platform hpl
  obtain ⟨a8, b8, g1, g2, g3⟩ := hno
  cases Option.some.inj (g1.symm.trans hcl)
  cases Option.some.inj (g2.symm.trans hc6)
  obtain ⟨hg1, hw1, -⟩ := State.classEntry (e := e) X.warmed hcl6
  obtain ⟨hg2, hw2, -⟩ := State.classEntry (e := e) hw1 hcl5
  obtain ⟨k1, hk1⟩ := Vm.classAt_of_findClass hcl
  obtain ⟨k2, hk2⟩ := Vm.classAt_of_findClass hc4
  obtain ⟨k3, hk3⟩ := Vm.classAt_of_findClass hc6
  obtain ⟨k1', hk1', -⟩ := hw1.alike.2.2 _ _ hk1
  obtain ⟨k3', hk3', -⟩ := hw1.alike.2.2 _ _ hk3
  obtain ⟨k1'', hk1'', -⟩ := hw2.alike.2.2 _ _ hk1
  obtain ⟨k2'', hk2'', -⟩ := hw2.alike.2.2 _ _ hk2
  refine ⟨_, hw2, fun Q E9 d acts => ?_⟩
  rw [W.findHandler_eq (s := (T.setTop g).pushFrame (.throwing q)) X.method' X.code, htab, gx_go1 (s := (T.setTop g).pushFrame (.throwing q)) (cell := ce) hx h0 hg1 hcell (fun k h => by rw [hv] at h; cases h) ⟨k1', hk1'⟩ ⟨k3', hk3'⟩ (Nat.le_of_eq (Vm.size_noted ..)), if_neg (by rw [hw1.alike.assignable, g3]; decide)]
  rw [gx_go1 (s := ((T.setTop g).pushFrame (.throwing q)).setVm (T.vm.noted g.method.cls x.catchType (.cls c6))) (cell := ce) hy hy0 hg2 hcell (fun k h => by rw [hv] at h; cases h) ⟨k1'', hk1''⟩ ⟨k2'', hk2''⟩ (Nat.le_of_eq (Vm.size_noted ..)), if_pos (by rw [hw2.alike.assignable]; exact hasg)]
  rfl
variable {y : MethodName} {bytes : ByteArray} {maxL : Nat} {ret : Option FieldType} {rm : Room} {Pc : Array Value → State → Prop} {Qc : Array Value → State → Outcome → State → Prop} {XC : String → Prop} {mc ms : Nat} {free : Addr → Prop}
/-- a callee that returns or throws, at the point of the call -/
theorem gx_xback (X : Stand p l e R s m args below meth c T locs cells slots) (hM : gx_XM l y [.code y bytes maxL ret] rm Pc Qc XC mc ms free) (hblind : FrameBlind Pc) (hrc : rm.cells = mc) (hrs : rm.slots = ms) (hfr : rm.frames + 1 ≤ R.frames) (hlo : 8 + (maxL + 11) + rm.locals ≤ R.locals)
    (hcode : ∀ a', (Cond.code y bytes maxL ret).before a' T = true) (hini : ∀ a', (Cond.initialized y.cls).before a' T = true) {g : JFrame} {mk : MethodId} {a : Array Value} (hg : g.method = m) (hsize : g.locals.size = c.maxLocals) {ig : Instr} (hdg : decode c.code g.pc = .ok (ig, 3)) (hW8 : 2 * g.monitorRoom + (g.stack.map fun v => v.category).sum ≤ 8) (hn : T.methodNamed? y = some mk) (hp : Pc a T) (hc : cells + mc ≤ R.cells) (hs : slots + ms ≤ R.slots) :
    (∃ (v : Option Value) (T' t : State) (L : List Loc), Stand p l e R s m args below meth c T' (locs ++ L) (cells + mc) (slots + ms) ∧ (∀ q ∈ L, free q.base) ∧ T'.heap = t.heap ∧ T'.vm = t.vm ∧ Qc a (T.calling g mk a) (.returned v) t ∧ Steps p.tables e below (doInvoke e (T.setTop g) [] mk a).1 (T'.setTop { g with pc := g.pc + 3, stack := v.toList ++ g.stack }))
    ∨ (∃ (q : Addr) (E : String) (ce : Cell) (T' : State), XC E ∧ Stand p l e R s m args below meth c T' locs (cells + 1) (slots + 6) ∧ T.sameButNew (T'.setVm T.vm) [] 1 6 ∧ T'.heap[q]? = some ce ∧ ce.vm = .none ∧ T.vm.findClass E = some ce.cls ∧ Steps p.tables e below (doInvoke e (T.setTop g) [] mk a).1 ((T'.setTop g).pushFrame (.throwing q))) := by
  obtain ⟨methY, cY, hmY, hcY, -, hlY, -⟩ := Cond.code_spec hn (hcode a)
  obtain ⟨kY, hkY, -⟩ := className_of_methodNamed hn
  have hinitY : kY.init = .initialized := Cond.initialized_spec (findClass_of_methodNamed hn) hkY (hini a)
  have h : At T g.method c below := by rw [hg]; exact X.here
  have happ : (headSpec [.code y bytes maxL ret] rm).appliesLoose y e.platform (T.calling g mk a) = true :=
    Spec.appliesLoose_calling (g := g) h hdg hn hkY hinitY
      (X.room_calling (g := g) (R' := rm) hsize hmY hcY hfr (by rw [hlY]; omega) (by rw [hrc]; exact hc) (by rw [hrs]; exact hs)) (atoms_intro fun w hw => by rw [List.mem_singleton] at hw; subst hw; exact hcode a)
  obtain ⟨mid, hmid⟩ := h.above
  have hfr2 : (T.setTop g).frames = (.java g :: mid) ++ below := by rw [State.frames_setTop' g h.top, hmid]; rfl
  obtain ⟨o, s₂, hsteps, -, hend, hq⟩ := Steps.callFree hM p X.admits X.cas X.clock (acts := []) hfr2 happ (hblind a T g mk hp) trivial
  have hq' : gx_XQ Qc XC mc ms free a (T.calling g mk a) o s₂ := hq
  rw [State.frames_setTop' g h.top] at hend
  rcases hq' with ⟨hQ, L, hfe, hL⟩ | ⟨q, E, ce, rfl, hXC, hce, hcv, hcl, hW2, hsame⟩
  · refine Or.inl ?_
    obtain ⟨⟨v, rfl⟩, hW₂, e2, q2, q3, q4, q5, q6⟩ := id hfe
    have e3 : s₂ = ({ (T.calling g mk a).setFrames s₂.frames with heap := s₂.heap, slotsUsed := s₂.slotsUsed } : State).setVm s₂.vm := by
      have : s₂ = ({ s₂ with vm := (T.calling g mk a).vm } : State).setVm s₂.vm := rfl
      rw [e2] at this
      exact this
    obtain ⟨c₂, i₂, len₂, hc₂, hd₂, hf₂⟩ := hend
    have hW' : T.WarmedH s₂.vm := hW₂
    have hcc : c₂ = c := by
      have h1 : s₂.code? g.method = T.code? g.method := by
        rw [State.code?_eq, State.code?_eq, hW'.alike.method?]
      exact Option.some.inj (hc₂.symm.trans (h1.trans h.code))
    subst hcc
    have hlen : len₂ = 3 := by rw [hdg] at hd₂; cases hd₂; rfl
    subst hlen
    obtain ⟨g₀, hg0⟩ := Option.isSome_iff_exists.mp h.top
    obtain ⟨r, hr⟩ := State.topJava?_eq_some.mp hg0
    have hs₂ : s₂ = (({ T with heap := s₂.heap, slotsUsed := s₂.slotsUsed } : State).setVm s₂.vm).setTop { g with pc := g.pc + 3, stack := v.toList ++ g.stack } := by
      have hr' : (({ T with heap := s₂.heap, slotsUsed := s₂.slotsUsed } : State).setVm s₂.vm).frames = .java g₀ :: r := hr
      refine e3.trans ?_
      rw [hf₂, State.calling_eq h.top, State.setFrames_setFrames, State.setTop_of_frames _ hr', hr]
      rfl
    have hsame : T.sameButNew ({ T with heap := s₂.heap, slotsUsed := s₂.slotsUsed } : State) L mc ms := by
      refine ⟨?_, q2, q3, q4, q5, q6⟩
      obtain ⟨t, ht, -⟩ := State.frames_cons hr
      show ({ T with heap := s₂.heap, slotsUsed := s₂.slotsUsed } : State) = { T.setFrames T.frames with heap := s₂.heap, slotsUsed := s₂.slotsUsed }
      rw [State.setFrames_self ht]
    subst hg
    refine ⟨v, (({ T with heap := s₂.heap, slotsUsed := s₂.slotsUsed } : State).setVm s₂.vm), s₂, L,
      ⟨X.admits, X.cas, X.clock, X.frames, X.room, X.hears, X.method, X.code, (X.here.setHeapUsed s₂.heap s₂.slotsUsed).setVm hW'.alike, X.tail, State.WarmedH.trans X.warmed hW', X.limits, X.bytes, X.same.trans (hsame.setVm s.vm)⟩, hL, rfl, rfl, hQ, ?_⟩
    rw [← hs₂]
    exact hsteps
  · refine Or.inr ?_
    have hfr3 : T.frames.tail = below := X.tail
    rw [hfr3] at hend
    obtain ⟨T', Y, hWT, hsm, ht⟩ := X.outOfThrown hg (mk := mk) (a := a) hend hW2 hsame
    rw [List.append_nil] at Y
    refine ⟨q, E, ce, T', hXC, Y, hsm, ?_, hcv, hcl, ?_⟩
    · rw [ht] at hce
      simpa [State.pushFrame, State.setFrames, State.setTop, State.modifyTopJava] using hce
    · rw [← ht]
      exact hsteps
end GXd
end
section
/-! FRAMED: calls that take the right half of the world; calls that may throw, caught by the caller -/
theorem gx_swap {D : va_G} {cl : List vw_C} {w1 w2 : va_W} {H : Heap} (h : va_P D cl (w1 ++ w2) H) : va_P D cl (w2 ++ w1) H := va_P.app (gx_right h) (gx_left h)
theorem gx_swapD {A : Nat → Prop} {w1 w2 : va_W} (h : va_D A (w1 ++ w2)) : va_D A (w2 ++ w1) := by
  refine va_D.app (gx_rightD h) (gx_leftD h) (fun i j p q hp hq hpq => ?_)
  have h1 : (w1 ++ w2)[w1.length + i]? = some p := by rw [List.getElem?_append_right (Nat.le_add_right _ _), Nat.add_sub_cancel_left]; exact hp
  have h2 : (w1 ++ w2)[j]? = some q := by rw [List.getElem?_append_left (List.getElem?_eq_some_iff.mp hq).1]; exact hq
  have h3 := h.1 _ _ p q h1 h2 hpq
  have h4 := (List.getElem?_eq_some_iff.mp hq).1
  omega
section GXf
variable {p : Program} {l : Launch} {e : Env} {R : Room} {s : State} {m : MethodId} {args : Array Value} {below : List Frame} {meth : Method} {c : Code} {H : Heap} {locs : List Loc} {cells slots : Nat} {Q : State → Prop}
variable {cc : ByteArray} {pc : Nat} {ls : Array Slot} {rest st0 : List Value} {D : va_G} {cl : List vw_C} {A : Nat → Prop} {wr wc : va_W} {H0 : Heap} {mc ms : Nat} {a : Array Value} {s0 : State}
theorem gx_fcalli {post : Int32 → va_W → Prop} (hr : va_Run p l e R s m args below meth c H locs cells slots mc ms (F0 m pc ls st0) rest (va_Qi post (gx_B D cl wc H.size) (va_A wc H.size) a) (va_A wc H.size)) (hP : va_P D cl (wr ++ wc) H) (hD : va_D A (wr ++ wc)) (hS : va_S A H0 H locs) (hA : ∀ q, H0.size ≤ q → A q)
    (kk : ∀ (r : Int32) (w1 : va_W) (H1 : Heap) (locs1 : List Loc), post r w1 → va_P D cl (wr ++ w1) H1 → va_D A (wr ++ w1) → va_S A H0 H1 locs1 → W p l e R s m args below meth c H1 locs1 (cells + mc) (slots + ms) Q (F0 m (pc + 3) ls (.int r :: rest))) : W p l e R s m args below meth c H locs cells slots Q (F0 m pc ls st0) :=
  va_calli hr hS (fun q _ h => gx_all (gx_rightD hD) hS hA q h) (gx_all (gx_rightD hD) hS hA) (fun r u t H1 locs1 ht hvm hp hB hz hk hS1 => by
    obtain ⟨j1, j2⟩ := gx_join hP hD hk (gx_all (gx_rightD hD) hS hA) (by rw [← ht]; exact hB.1) hB.2
    exact kk r u H1 locs1 hp j1 j2 hS1)
theorem gx_fcalll {post : Int64 → va_W → Prop} (hr : va_Run p l e R s m args below meth c H locs cells slots mc ms (F0 m pc ls st0) rest (va_Ql post (gx_B D cl wc H.size) (va_A wc H.size) a) (va_A wc H.size)) (hP : va_P D cl (wr ++ wc) H) (hD : va_D A (wr ++ wc)) (hS : va_S A H0 H locs) (hA : ∀ q, H0.size ≤ q → A q)
    (kk : ∀ (r : Int64) (w1 : va_W) (H1 : Heap) (locs1 : List Loc), post r w1 → va_P D cl (wr ++ w1) H1 → va_D A (wr ++ w1) → va_S A H0 H1 locs1 → W p l e R s m args below meth c H1 locs1 (cells + mc) (slots + ms) Q (F0 m (pc + 3) ls (.long r :: rest))) : W p l e R s m args below meth c H locs cells slots Q (F0 m pc ls st0) :=
  va_calll hr hS (fun q _ h => gx_all (gx_rightD hD) hS hA q h) (gx_all (gx_rightD hD) hS hA) (fun r u t H1 locs1 ht hvm hp hB hz hk hS1 => by
    obtain ⟨j1, j2⟩ := gx_join hP hD hk (gx_all (gx_rightD hD) hS hA) (by rw [← ht]; exact hB.1) hB.2
    exact kk r u H1 locs1 hp j1 j2 hS1)
theorem gx_fcallv {post : va_W → Prop} (hr : va_Run p l e R s m args below meth c H locs cells slots mc ms (F0 m pc ls st0) rest (va_Qv post (gx_B D cl wc H.size) (va_A wc H.size) a) (va_A wc H.size)) (hP : va_P D cl (wr ++ wc) H) (hD : va_D A (wr ++ wc)) (hS : va_S A H0 H locs) (hA : ∀ q, H0.size ≤ q → A q)
    (kk : ∀ (w1 : va_W) (H1 : Heap) (locs1 : List Loc), post w1 → va_P D cl (wr ++ w1) H1 → va_D A (wr ++ w1) → va_S A H0 H1 locs1 → W p l e R s m args below meth c H1 locs1 (cells + mc) (slots + ms) Q (F0 m (pc + 3) ls rest)) : W p l e R s m args below meth c H locs cells slots Q (F0 m pc ls st0) :=
  va_callv hr hS (fun q _ h => gx_all (gx_rightD hD) hS hA q h) (gx_all (gx_rightD hD) hS hA) (fun u t H1 locs1 ht hvm hp hB hz hk hS1 => by
    obtain ⟨j1, j2⟩ := gx_join hP hD hk (gx_all (gx_rightD hD) hS hA) (by rw [← ht]; exact hB.1) hB.2
    exact kk u H1 locs1 hp j1 j2 hS1)
end GXf
end
