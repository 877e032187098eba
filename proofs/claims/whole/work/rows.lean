section
/-! BASE: contracts over any world ws whose cells lie behind a fixed early state s0; calls that take the whole world, or its right half -/
/-- a state behind s0: its tables are warmer, what was there at s0 is as it was -/
def gx_V (s0 U : State) : Prop := s0.WarmedH U.vm ∧ s0.heap.size ≤ U.heap.size ∧ ∀ q : Nat, q < s0.heap.size → U.heap[q]? = s0.heap[q]?
def gx_A0 (s0 : State) : Nat → Prop := fun q => s0.heap.size ≤ q
def gx_P (s0 : State) (D : va_G) (cl : List vw_C) (ws : va_W) (sz : Nat) (av : List Value) : Array Value → State → Prop := va_Pc av (fun U => U.heap.size = sz ∧ va_P D cl ws U.heap ∧ va_D (gx_A0 s0) ws ∧ gx_V s0 U)
def gx_B (D : va_G) (cl : List vw_C) (ws : va_W) (sz : Nat) (w1 : va_W) (t : State) : Prop := va_P D cl w1 t.heap ∧ va_D (va_A ws sz) w1
def gx_Bq (D : va_G) (cl : List vw_C) (ws : va_W) (sz : Nat) (u : va_W × Nat) (a : Nat) (t : State) : Prop := a = u.2 ∧ va_P D cl u.1 t.heap ∧ va_D (va_A ws sz) u.1
theorem gx_all {A : Nat → Prop} {ws : va_W} {H0 H : Heap} {locs : List Loc} (hD : va_D A ws) (hS : va_S A H0 H locs) (hA : ∀ q, H0.size ≤ q → A q) : ∀ q, va_A ws H.size q → A q := by
  intro q h
  rcases h with ⟨k, e, h⟩ | h
  · exact hD.2 k (q, e) h
  · exact hA q (Nat.le_trans hS.1 h)
theorem gx_nil {args : Array Value} {s : State} : ∀ w ∈ ([] : List Cond), w.before args s = true := fun _ h => nomatch h
theorem gx_join {A0 : Nat → Prop} {D : va_G} {cl : List vw_C} {wr wc w1 : va_W} {H H1 : Heap} (hP : va_P D cl (wr ++ wc) H) (hD : va_D A0 (wr ++ wc)) (hk : ∀ q : Nat, q < H.size → ¬ va_A wc H.size q → H1[q]? = H[q]?) (hF : ∀ q, va_A wc H.size q → A0 q) (hP1 : va_P D cl w1 H1) (hD1 : va_D (va_A wc H.size) w1) : va_P D cl (wr ++ w1) H1 ∧ va_D A0 (wr ++ w1) := by
  have hl : ∀ (k : Nat) (q : Nat × va_E), wr[k]? = some q → (wr ++ wc)[k]? = some q := fun k q h => by
    rw [List.getElem?_append_left (List.getElem?_eq_some_iff.mp h).1]; exact h
  have hr : ∀ (k : Nat) (q : Nat × va_E), wc[k]? = some q → (wr ++ wc)[wr.length + k]? = some q := fun k q h => by
    rw [List.getElem?_append_right (Nat.le_add_right _ _), Nat.add_sub_cancel_left]; exact h
  have ap : ∀ (k : Nat) (q : Nat × va_E), wr[k]? = some q → q.1 < H.size ∧ ¬ va_A wc H.size q.1 := by
    intro k q h
    have hlt := (hP k q (hl k q h)).lt
    refine ⟨hlt, fun z => ?_⟩
    rcases z with ⟨j, e, z⟩ | z
    · have h1 := hD.1 k (wr.length + j) q (q.1, e) (hl k q h) (hr j _ z) rfl
      have h2 := (List.getElem?_eq_some_iff.mp h).1
      omega
    · omega
  have hDr : va_D A0 wr := ⟨fun i j p q h1 h2 h3 => hD.1 i j p q (hl i p h1) (hl j q h2) h3, fun k q h => hD.2 k q (hl k q h)⟩
  refine ⟨va_P.app (fun k q h => ?_) hP1, va_D.app hDr (hD1.weaken (fun k q _ h => hF q.1 h)) (fun i j x y hx hy hxy => ?_)⟩
  · obtain ⟨g1, g2⟩ := ap k q h
    exact (hP k q (hl k q h)).kept (hk q.1 g1 g2)
  · exact (ap i x hx).2 (by rw [hxy]; exact hD1.2 j y hy)
theorem gx_left {D : va_G} {cl : List vw_C} {w1 w2 : va_W} {H : Heap} (h : va_P D cl (w1 ++ w2) H) : va_P D cl w1 H := fun k q hk => h k q (by
  rw [List.getElem?_append_left (List.getElem?_eq_some_iff.mp hk).1]; exact hk)
theorem gx_right {D : va_G} {cl : List vw_C} {w1 w2 : va_W} {H : Heap} (h : va_P D cl (w1 ++ w2) H) : va_P D cl w2 H := fun k q hk => h (w1.length + k) q (by
  rw [List.getElem?_append_right (Nat.le_add_right _ _), Nat.add_sub_cancel_left]; exact hk)
theorem gx_leftD {A : Nat → Prop} {w1 w2 : va_W} (h : va_D A (w1 ++ w2)) : va_D A w1 := by
  have e : ∀ (k : Nat) (q : Nat × va_E), w1[k]? = some q → (w1 ++ w2)[k]? = some q := fun k q hk => by
    rw [List.getElem?_append_left (List.getElem?_eq_some_iff.mp hk).1]; exact hk
  exact ⟨fun i j p q h1 h2 h3 => h.1 i j p q (e i p h1) (e j q h2) h3, fun k q hk => h.2 k q (e k q hk)⟩
theorem gx_rightD {A : Nat → Prop} {w1 w2 : va_W} (h : va_D A (w1 ++ w2)) : va_D A w2 := by
  have e : ∀ (k : Nat) (q : Nat × va_E), w2[k]? = some q → (w1 ++ w2)[w1.length + k]? = some q := fun k q hk => by
    rw [List.getElem?_append_right (Nat.le_add_right _ _), Nat.add_sub_cancel_left]; exact hk
  exact ⟨fun i j p q h1 h2 h3 => by have := h.1 _ _ p q (e i p h1) (e j q h2) h3; omega, fun k q hk => h.2 _ q (e k q hk)⟩
section GXb
variable {p : Program} {l : Launch} {e : Env} {R : Room} {s : State} {m : MethodId} {args : Array Value} {below : List Frame} {meth : Method} {c : Code} {H : Heap} {locs : List Loc} {cells slots : Nat} {Q : State → Prop}
variable {cc : ByteArray} {pc : Nat} {ls : Array Slot} {rest st0 : List Value} {D : va_G} {cl : List vw_C} {A : Nat → Prop} {ws wr : va_W} {H0 : Heap} {mc ms : Nat} {a : Array Value} {s0 : State}
/-- what a call asks of the world -/
theorem gx_preS {av : List Value} (hV : gx_V s0 s) (hP : va_P D cl ws H) (hD : va_D A ws) (hS : va_S A s.heap H locs) (hA0 : ∀ q, A q → s0.heap.size ≤ q) : PreS s H (gx_P s0 D cl ws H.size av) av := by
  refine ⟨fun a U g mk h => h, fun U hU hW => ⟨rfl, by rw [hU], by rw [hU]; exact hP, hD.weaken (fun _ q _ h => hA0 q.1 h), State.WarmedH.trans hV.1 hW, ?_, ?_⟩⟩
  · rw [hU]; exact Nat.le_trans hV.2.1 hS.1
  · intro q hq
    rw [hU, hS.2.1 q (Nat.lt_of_lt_of_le hq hV.2.1) (fun h => Nat.not_le.mpr hq (hA0 q h))]
    exact hV.2.2 q hq
theorem gx_preV {As : List Value} {b : Nat} {C : String} (hV : gx_V s0 s) (hP : va_P D cl ws H) (hD : va_D A ws) (hS : va_S A s.heap H locs) (hA0 : ∀ q, A q → s0.heap.size ≤ q) (hr : ∃ cell : Cell, H[b]? = some cell ∧ cell.vm.isStatics = false ∧ s.vm.findClass C = some cell.cls) : PreV s H C b (gx_P s0 D cl ws H.size (.ref b :: As)) As := by
  have h := gx_preS (av := .ref b :: As) hV hP hD hS hA0
  exact ⟨h.1, hr, h.2⟩
theorem gx_cb {own : String} {index maxL n : Nat} {y : MethodName} {bytes : ByteArray} {ret : Option FieldType} {rm : Room} (hcode : (Cond.code y bytes maxL ret).before args s = true) (hini : (Cond.initialized y.cls).before args s = true) (hl : (Cond.methodLink own index y).before args s = true)
    (hd : y.cls ≠ "java/lang/invoke/MethodHandle" ∧ y.cls ≠ "java/lang/invoke/VarHandle" ∧ (parseMethodDescriptor y.desc).map (fun d => d.parameters.length) = some n) (hR : rm.frames + 1 ≤ R.frames ∧ 8 + (maxL + 11) + rm.locals ≤ R.locals) :
    CallB R s args own index y bytes maxL ret [.code y bytes maxL ret] rm rm.cells rm.slots n := by
  refine ⟨rfl, rfl, hR.1, hR.2, fun w hw a' U hW => ?_, List.mem_cons_self, hcode, hini, ⟨hd.1, hd.2.1⟩, fun sig h => ?_, hl⟩
  · rw [List.mem_singleton] at hw
    subst hw
    exact word_at hW (Or.inl rfl) hcode
  · have h2 := hd.2.2
    rw [h] at h2
    exact (Option.some.inj h2).symm
theorem gx_cn {own host : String} {index maxL n : Nat} {y : MethodName} {bytes : ByteArray} {ret : Option FieldType} {rm : Room} (hcode : (Cond.code y bytes maxL ret).before args s = true) (hini : (Cond.initialized y.cls).before args s = true) (hl : va_Nw (.methodLinkNest own index y host) s)
    (hd : y.cls ≠ "java/lang/invoke/MethodHandle" ∧ y.cls ≠ "java/lang/invoke/VarHandle" ∧ (parseMethodDescriptor y.desc).map (fun d => d.parameters.length) = some n) (hR : rm.frames + 1 ≤ R.frames ∧ 8 + (maxL + 11) + rm.locals ≤ R.locals) :
    va_CN R s args own index y host bytes maxL ret [.code y bytes maxL ret] rm rm.cells rm.slots n :=
  va_cnB (Ts := [.code y bytes maxL ret]) (ws' := []) n (fun w hw => by rw [List.mem_singleton] at hw; subst hw; exact hcode) (fun w hw => ⟨hw, by rw [List.mem_singleton] at hw; subst hw; exact Or.inl rfl⟩) rfl rfl rfl hl hini hd hR
/-- behind a call that took the whole world -/
theorem gx_calli {post : Int32 → va_W → Prop} (hr : va_Run p l e R s m args below meth c H locs cells slots mc ms (F0 m pc ls st0) rest (va_Qi post (gx_B D cl ws H.size) (va_A ws H.size) a) (va_A ws H.size)) (hD : va_D A ws) (hS : va_S A H0 H locs) (hA : ∀ q, H0.size ≤ q → A q)
    (kk : ∀ (r : Int32) (w1 : va_W) (H1 : Heap) (locs1 : List Loc), post r w1 → va_P D cl w1 H1 → va_D A w1 → va_S A H0 H1 locs1 → W p l e R s m args below meth c H1 locs1 (cells + mc) (slots + ms) Q (F0 m (pc + 3) ls (.int r :: rest))) : W p l e R s m args below meth c H locs cells slots Q (F0 m pc ls st0) :=
  va_calli hr hS (fun q _ h => gx_all hD hS hA q h) (gx_all hD hS hA) (fun r u t H1 locs1 ht hvm hp hB hz hk hS1 => kk r u H1 locs1 hp (by rw [← ht]; exact hB.1) (hB.2.weaken (fun k q _ h => gx_all hD hS hA q.1 h)) hS1)
theorem gx_calll {post : Int64 → va_W → Prop} (hr : va_Run p l e R s m args below meth c H locs cells slots mc ms (F0 m pc ls st0) rest (va_Ql post (gx_B D cl ws H.size) (va_A ws H.size) a) (va_A ws H.size)) (hD : va_D A ws) (hS : va_S A H0 H locs) (hA : ∀ q, H0.size ≤ q → A q)
    (kk : ∀ (r : Int64) (w1 : va_W) (H1 : Heap) (locs1 : List Loc), post r w1 → va_P D cl w1 H1 → va_D A w1 → va_S A H0 H1 locs1 → W p l e R s m args below meth c H1 locs1 (cells + mc) (slots + ms) Q (F0 m (pc + 3) ls (.long r :: rest))) : W p l e R s m args below meth c H locs cells slots Q (F0 m pc ls st0) :=
  va_calll hr hS (fun q _ h => gx_all hD hS hA q h) (gx_all hD hS hA) (fun r u t H1 locs1 ht hvm hp hB hz hk hS1 => kk r u H1 locs1 hp (by rw [← ht]; exact hB.1) (hB.2.weaken (fun k q _ h => gx_all hD hS hA q.1 h)) hS1)
theorem gx_callv {post : va_W → Prop} (hr : va_Run p l e R s m args below meth c H locs cells slots mc ms (F0 m pc ls st0) rest (va_Qv post (gx_B D cl ws H.size) (va_A ws H.size) a) (va_A ws H.size)) (hD : va_D A ws) (hS : va_S A H0 H locs) (hA : ∀ q, H0.size ≤ q → A q)
    (kk : ∀ (w1 : va_W) (H1 : Heap) (locs1 : List Loc), post w1 → va_P D cl w1 H1 → va_D A w1 → va_S A H0 H1 locs1 → W p l e R s m args below meth c H1 locs1 (cells + mc) (slots + ms) Q (F0 m (pc + 3) ls rest)) : W p l e R s m args below meth c H locs cells slots Q (F0 m pc ls st0) :=
  va_callv hr hS (fun q _ h => gx_all hD hS hA q h) (gx_all hD hS hA) (fun u t H1 locs1 ht hvm hp hB hz hk hS1 => kk u H1 locs1 hp (by rw [← ht]; exact hB.1) (hB.2.weaken (fun k q _ h => gx_all hD hS hA q.1 h)) hS1)
theorem gx_callr {post : va_W × Nat → Prop} (hr : va_Run p l e R s m args below meth c H locs cells slots mc ms (F0 m pc ls st0) rest (va_Qr post (gx_Bq D cl ws H.size) (va_A ws H.size) a) (va_A ws H.size)) (hD : va_D A ws) (hS : va_S A H0 H locs) (hA : ∀ q, H0.size ≤ q → A q)
    (kk : ∀ (ra : Nat) (w1 : va_W) (H1 : Heap) (locs1 : List Loc), post (w1, ra) → va_P D cl w1 H1 → va_D A w1 → va_S A H0 H1 locs1 → W p l e R s m args below meth c H1 locs1 (cells + mc) (slots + ms) Q (F0 m (pc + 3) ls (.ref ra :: rest))) : W p l e R s m args below meth c H locs cells slots Q (F0 m pc ls st0) :=
  va_callr hr hS (fun q _ h => gx_all hD hS hA q h) (gx_all hD hS hA) (fun u ra t H1 locs1 ht hvm hp hB hz hk hS1 => by
    obtain ⟨w1, a1⟩ := u
    obtain ⟨e1, e2, e3⟩ := hB
    dsimp only at e1 e2 e3
    subst e1
    exact kk ra w1 H1 locs1 hp (by rw [← ht]; exact e2) (e3.weaken (fun k q _ h => gx_all hD hS hA q.1 h)) hS1)
/-- ends -/
theorem gx_iret {post : Int32 → va_W → Prop} {w1 : va_W} {sz : Nat} {v : Int32} {ty : FieldType} (hexec : p.tables.exec = Jvm.exec) (hb : c.code = cc) (hr : meth.sig.returnType = some ty) (hlocks : meth.locks = false) (hn : narrow ty (.int v) = .int v) (hS : va_S (va_A ws sz) s.heap H locs) (hP : va_P D cl w1 H) (hD : va_D (va_A ws sz) w1) (hc : cells ≤ mc) (hs : slots ≤ ms) (hdg : decode cc pc = .ok (.ireturn, 1)) (hp : post v w1) :
    W p l e R s m args below meth c H locs cells slots (MQ below (va_Qi post (gx_B D cl ws sz) (va_A ws sz)) args s mc ms (va_A ws sz)) (F0 m pc ls [.int v]) :=
  W.widen hc hs (W.zret hexec hb hr hn (fun t ht hW => ⟨⟨v, w1, rfl, hp, by rw [ht]; exact hP, hD⟩, hS.F ht⟩) hS.2.2 hdg hlocks)
theorem gx_lret {post : Int64 → va_W → Prop} {w1 : va_W} {sz : Nat} {v : Int64} (hexec : p.tables.exec = Jvm.exec) (hb : c.code = cc) (hr : meth.sig.returnType = some .long) (hlocks : meth.locks = false) (hS : va_S (va_A ws sz) s.heap H locs) (hP : va_P D cl w1 H) (hD : va_D (va_A ws sz) w1) (hc : cells ≤ mc) (hs : slots ≤ ms) (hdg : decode cc pc = .ok (.lreturn, 1)) (hp : post v w1) :
    W p l e R s m args below meth c H locs cells slots (MQ below (va_Ql post (gx_B D cl ws sz) (va_A ws sz)) args s mc ms (va_A ws sz)) (F0 m pc ls [.long v]) :=
  W.widen hc hs (W.lret hexec hb hr (fun t ht hW => ⟨⟨v, w1, rfl, hp, by rw [ht]; exact hP, hD⟩, hS.F ht⟩) hS.2.2 hdg hlocks)
theorem gx_vret {post : va_W → Prop} {w1 : va_W} {sz : Nat} (hexec : p.tables.exec = Jvm.exec) (hb : c.code = cc) (hr : meth.sig.returnType = none) (hlocks : meth.locks = false) (hS : va_S (va_A ws sz) s.heap H locs) (hP : va_P D cl w1 H) (hD : va_D (va_A ws sz) w1) (hc : cells ≤ mc) (hs : slots ≤ ms) (hdg : decode cc pc = .ok (.return_, 1)) (hp : post w1) :
    W p l e R s m args below meth c H locs cells slots (MQ below (va_Qv post (gx_B D cl ws sz) (va_A ws sz)) args s mc ms (va_A ws sz)) (F0 m pc ls []) :=
  W.widen hc hs (W.vret hexec hb hr (fun t ht hW => ⟨⟨w1, rfl, hp, by rw [ht]; exact hP, hD⟩, hS.F ht⟩) hS.2.2 hdg hlocks)
theorem gx_aret {post : va_W × Nat → Prop} {w1 : va_W} {sz ra : Nat} {rt : FieldType} (hexec : p.tables.exec = Jvm.exec) (hb : c.code = cc) (hr : meth.sig.returnType = some rt) (hrt : (∃ n, rt = .object n) ∨ ∃ t, rt = .array t) (hlocks : meth.locks = false) (hS : va_S (va_A ws sz) s.heap H locs) (hP : va_P D cl w1 H) (hD : va_D (va_A ws sz) w1) (hc : cells ≤ mc) (hs : slots ≤ ms) (hdg : decode cc pc = .ok (.areturn, 1)) (hp : post (w1, ra)) :
    W p l e R s m args below meth c H locs cells slots (MQ below (va_Qr post (gx_Bq D cl ws sz) (va_A ws sz)) args s mc ms (va_A ws sz)) (F0 m pc ls [.ref ra]) :=
  W.widen hc hs (W.aret hexec hb hr hrt (Or.inr ⟨ra, rfl⟩) (fun t ht hW => ⟨⟨(w1, ra), ra, rfl, hp, rfl, by rw [ht]; exact hP, hD⟩, hS.F ht⟩) hS.2.2 hdg hlocks)
theorem gx_mono {Q' : State → Prop} {g : JFrame} (h : ∀ t, Q t → Q' t) (k : W p l e R s m args below meth c H locs cells slots Q g) : W p l e R s m args below meth c H locs cells slots Q' g := fun T hT X => by
  obtain ⟨t, a1, b1⟩ := k T hT X
  exact ⟨t, a1, h t b1⟩
/-- an array of arrays is read -/
theorem gx_aald {tys : List (ClassId × FieldType)} {ty : FieldType} {b : Nat} (hexec : p.tables.exec = Jvm.exec) (hb : c.code = cc) (hK : va_K D cl tys s) (hP : va_P D cl ws H) (q0 t0 : Nat) {cA : ClassId} {n : Nat} {f : Nat → Option Nat} (ha : ws[q0]? = some (b, .inl (cA, n, .inr (.inr (.inr (.inr f)))))) (ht : tys[t0]? = some (cA, ty)) (href : ty.isReference = true) {i : Int32} {v : Nat} (hin : vp_in i n) (hv : f i.toNatClampNeg = some v) (hdg : decode cc pc = .ok (.aaload, 1))
    (kk : W p l e R s m args below meth c H locs cells slots Q (F0 m (pc + 1) ls (.ref v :: rest))) : W p l e R s m args below meth c H locs cells slots Q (F0 m pc ls (.int i :: .ref b :: rest)) := by
  have hc : H[b]? = some (vp_cell cA (n, .inr (.inr (.inr (.inr f))))) := hP q0 _ ha
  rw [vp_cell_q] at hc
  have hlt : i.toNatClampNeg < n := by
    unfold vp_in at hin
    omega
  refine W.aald hexec hb hc ((hK.2 t0 _ ht).1 n _) href (fun h => by cases h) ?_ ?_ rfl rfl hdg kk
  all_goals first
    | (rw [arrV_size]; exact hin)
    | (rw [arrV_read cA _ hlt, hv]; rfl)
end GXb
/-- a contract's walk -/
theorem gx_met {l : Launch} {y : MethodName} {rm : Room} {s0 : State} {D : va_G} {cl : List vw_C} {ws : va_W} {sz : Nat} {av : List Value} {Qc : Array Value → State → Outcome → State → Prop} {mc ms : Nat} {free : Addr → Prop} {cc : ByteArray} {maxL : Nat} {ret : Option FieldType} (hy : plainName y.cls = true) (hav : (lg_sl av).length ≤ maxL)
    (body : ∀ (p : Program) (e : Env) (s : State) (m : MethodId) (below : List Frame) (meth : Method) (c : Code) (ls : Array Slot), p.tables.exec = Jvm.exec → c.code = cc → meth.sig.returnType = ret → c.maxLocals = maxL → s.vm.findClass y.cls = some m.cls → meth.locks = false → meth.name = y.name → s.heap.size = sz → gx_V s0 s → va_P D cl ws s.heap → va_D (va_A ws sz) ws → va_S (va_A ws sz) s.heap s.heap [] → (∀ q, s.heap.size ≤ q → va_A ws sz q) → (∀ q, va_A ws sz q → s0.heap.size ≤ q) → lv_has ls maxL (lv_args 0 av) →
      W p l e rm s m av.toArray below meth c s.heap [] 0 0 (MQ below Qc av.toArray s mc ms free) (F0 m 0 ls [])) : Met l y [.code y cc maxL ret] rm (gx_P s0 D cl ws sz av) Qc mc ms free := by
  refine Met.ofW (cc := cc) (maxL := maxL) (ret := ret) hy rfl ?_
  intro p e s m args below meth c s₁ B hml hv
  obtain ⟨rfl, hsz, hP, hD0, hV⟩ := hv
  have hl := lv_entry av (n := maxL) hav
  rw [lg_entry_eq]
  exact body p e s m below meth c _ B.exec B.bytes B.returns hml (findClass_of_methodNamed B.named) B.notSynchronized (name_of_methodNamed B.named B.method).1 hsz hV hP hD0.self va_S.rf (fun q h => Or.inr (hsz ▸ h)) (fun q h => by
    rcases h with ⟨k, e9, h⟩ | h
    · exact hD0.2 k _ h
    · exact Nat.le_trans hV.2.1 (hsz ▸ h)) hl
end
section
/-! GRID: new int[n][k]: the outer array, and behind it its n rows of zeros -/
def gx_oc (c : ClassId) (N h i : Nat) : Cell := arrV c N (fun j => va_rf (if j < i then some (h + 1 + j) else none))
def gx_ic (c : ClassId) (K : Nat) : Cell := arrV c K (fun _ => .int 0)
def gx_gr (T : State) (c ci : ClassId) (N K : Nat) : Nat → State
  | 0 => T.pushCell (gx_oc c N T.heap.size 0)
  | i + 1 => ((gx_gr T c ci N K i).pushCell (gx_ic ci K)).setCell T.heap.size (gx_oc c N T.heap.size (i + 1))
theorem gx_oc_put (c : ClassId) (N h i : Nat) : (gx_oc c N h i).setSlot i (.ref (h + 1 + i)) = gx_oc c N h (i + 1) := by
  unfold gx_oc
  rw [arrV_store]
  refine congrArg (arrV c N) (funext fun j => ?_)
  unfold updV
  by_cases e : j = i
  · subst e
    simp [va_rf]
  · have h1 : (j < i + 1) = (j < i) := propext ⟨fun h => by omega, fun h => by omega⟩
    simp [e, h1]
theorem gx_oc_0 (c : ClassId) (N h : Nat) : ({ cls := c, slots := Array.replicate N .null, vm := .none } : Cell) = gx_oc c N h 0 := by
  rw [arrV_new]
  exact congrArg (arrV c N) (funext fun j => by simp [va_rf])
theorem gx_ic_0 (c : ClassId) (K : Nat) : ({ cls := c, slots := Array.replicate K (.int 0), vm := .none } : Cell) = gx_ic c K := arrV_new c K (.int 0)
theorem gx_oc_sz (c : ClassId) (N h i : Nat) : (gx_oc c N h i).slots.size = N := arrV_size _ _ _
theorem gx_ic_sz (c : ClassId) (K : Nat) : (gx_ic c K).slots.size = K := arrV_size _ _ _
theorem gx_gr_f (T : State) (c ci : ClassId) (N K : Nat) : ∀ i : Nat, (gx_gr T c ci N K i).heap.size = T.heap.size + 1 + i ∧ (gx_gr T c ci N K i).heap[T.heap.size]? = some (gx_oc c N T.heap.size i) ∧ (gx_gr T c ci N K i).vm = T.vm ∧ (gx_gr T c ci N K i).slotsUsed = T.slotsUsed + N + i * K
    ∧ (∀ a : Nat, a < T.heap.size → (gx_gr T c ci N K i).heap[a]? = T.heap[a]?) ∧ (∀ j : Nat, j < i → (gx_gr T c ci N K i).heap[T.heap.size + 1 + j]? = some (gx_ic ci K)) ∧ (∀ f : JFrame, gx_gr (T.setTop f) c ci N K i = (gx_gr T c ci N K i).setTop f)
  | 0 => ⟨by simp [gx_gr], by simp [gx_gr], rfl, by simp [gx_gr, gx_oc_sz], fun a h => State.heap_pushCell_of_lt _ _ h, fun j h => absurd h (Nat.not_lt_zero j), fun f => rfl⟩
  | i + 1 => by
    obtain ⟨h1, h2, h3, h4, h5, h6, h7⟩ := gx_gr_f T c ci N K i
    have hl : T.heap.size < ((gx_gr T c ci N K i).pushCell (gx_ic ci K)).heap.size := by rw [size_pushCell, h1]; omega
    refine ⟨?_, ?_, ?_, ?_, ?_, ?_, ?_⟩
    · show (((gx_gr T c ci N K i).pushCell (gx_ic ci K)).setCell T.heap.size (gx_oc c N T.heap.size (i + 1))).heap.size = _
      rw [size_setCell, size_pushCell, h1]; omega
    · exact heapAt_setCell_self _ hl
    · exact h3
    · show (gx_gr T c ci N K i).slotsUsed + (gx_ic ci K).slots.size = _
      rw [h4, gx_ic_sz, Nat.succ_mul]; omega
    · intro a ha
      show (((gx_gr T c ci N K i).pushCell (gx_ic ci K)).setCell T.heap.size (gx_oc c N T.heap.size (i + 1))).heap[a]? = _
      rw [heapAt_setCell_ne _ (Nat.ne_of_gt ha), State.heap_pushCell_of_lt _ _ (show a < (gx_gr T c ci N K i).heap.size by rw [h1]; omega)]
      exact h5 a ha
    · intro j hj
      show (((gx_gr T c ci N K i).pushCell (gx_ic ci K)).setCell T.heap.size (gx_oc c N T.heap.size (i + 1))).heap[T.heap.size + 1 + j]? = _
      rw [heapAt_setCell_ne _ (show T.heap.size ≠ T.heap.size + 1 + j by omega)]
      rcases Nat.lt_or_ge j i with g | g
      · rw [State.heap_pushCell_of_lt _ _ (show T.heap.size + 1 + j < (gx_gr T c ci N K i).heap.size by rw [h1]; omega)]
        exact h6 j g
      · rw [show T.heap.size + 1 + j = (gx_gr T c ci N K i).heap.size by rw [h1]; omega]
        exact State.heap_pushCell_size _ _
    · intro f
      show ((gx_gr (T.setTop f) c ci N K i).pushCell (gx_ic ci K)).setCell T.heap.size (gx_oc c N T.heap.size (i + 1)) = _
      rw [h7 f]
      rfl
section GXm
variable {E : CtlPost} {e : Env} {d : Bool} {acts : List Action} {s : State}
theorem gx_make1 {ci cp : ClassId} {ki : Class} {k : Int32} {K : Nat} (hk : s.vm.classes[ci]? = some ki) (hkind : ki.kind = .array cp .int) (h0 : ¬ k < 0) (hK : k.toNatClampNeg = K) (hl : ¬ K > e.platform.arrayLengthLimit) (hh : ¬ K * componentBytes .int > e.platform.maxHeapBytes) (h1 : s.heap.size < e.platform.maxCells) (h2 : s.slotsUsed + K ≤ e.platform.maxSlots)
    {Q : Addr → Pre} (hq : ∀ acts', Q s.heap.size d acts' (s.pushCell (gx_ic ci K))) : wp (multianewarray.make ci [k]) Q E e d acts s := by
  rw [multianewarray.make]
  simp only [wp_bind', W.ite, h0, if_false, wp_pure', W.theClass, hk, hkind, Option.some.injEq, exists_eq_left', hK]
  exact W.newArray_of hk hkind hl hh h1 h2 rfl (fun acts' => by
    have := hq acts'
    rw [← gx_ic_0] at this
    exact this)
theorem gx_make2 {c ci cp : ClassId} {kc ki : Class} {n k : Int32} {N K : Nat} (hkc : s.vm.classes[c]? = some kc) (hkindc : kc.kind = .array ci (.array .int)) (hki : s.vm.classes[ci]? = some ki) (hkindi : ki.kind = .array cp .int) (hn0 : ¬ n < 0) (hN : n.toNatClampNeg = N) (hk0 : ¬ k < 0) (hK : k.toNatClampNeg = K)
    (hl1 : ¬ N > e.platform.arrayLengthLimit) (hh1 : ¬ N * componentBytes (.array .int) > e.platform.maxHeapBytes) (hl2 : ¬ K > e.platform.arrayLengthLimit) (hh2 : ¬ K * componentBytes .int > e.platform.maxHeapBytes) (h1 : s.heap.size + 1 + N ≤ e.platform.maxCells) (h2 : s.slotsUsed + N + N * K ≤ e.platform.maxSlots)
    {Q : Addr → Pre} (hq : ∀ d' acts', Q s.heap.size d' acts' (gx_gr s c ci N K N)) : wp (multianewarray.make c [n, k]) Q E e d acts s := by
  have hb : ([k].find? (· < 0)) = none := by simp [hk0]
  rw [multianewarray.make]
  simp only [wp_bind', W.ite, hn0, if_false, wp_pure', W.theClass, hkc, hkindc, Option.some.injEq, exists_eq_left', hN]
  refine W.newArray_of hkc hkindc hl1 hh1 (by omega) (by have := Nat.zero_le (N * K); omega) rfl (fun acts' => ?_)
  rw [gx_oc_0 c N s.heap.size]
  simp only [hb]
  rw [ite_self, wp_bind', Std.Legacy.Range.forIn_eq_forIn_range']
  have hsz : ([:N] : Std.Legacy.Range).size = N := by simp [Std.Legacy.Range.size]
  rw [hsz]
  show wp (forIn (List.range' 0 N 1) PUnit.unit _) _ E e d acts' _
  refine wp_forIn_inv (fun l u => ∃ i : Nat, i + l.length = N ∧ l = List.range' i l.length ∧ u = gx_gr s c ci N K i) _ _ ⟨0, by simp, by simp, rfl⟩ ?_ ?_
  · rintro x l u d1 a1 Q1 ⟨i, hi, hl, rfl⟩ next
    rw [List.length_cons] at hi hl
    rw [List.range'_succ] at hl
    obtain ⟨rfl, hl⟩ := List.cons.inj hl
    obtain ⟨f1, f2, f3, f4, -⟩ := gx_gr_f s c ci N K x
    have hmul : x * K + K ≤ N * K := by
      have := Nat.mul_le_mul_right K (show x + 1 ≤ N by omega)
      rw [Nat.succ_mul] at this
      exact this
    simp only [wp_bind']
    refine gx_make1 (by rw [f3]; exact hki) hkindi hk0 hK hl2 hh2 (by rw [f1]; omega) (by rw [f4]; omega) (fun acts2 => ?_)
    simp only [wp_bind', W.writeLoc, wp_pure']
    refine ⟨gx_oc c N s.heap.size x, by rw [State.heap_pushCell_of_lt _ _ (show s.heap.size < (gx_gr s c ci N K x).heap.size by rw [f1]; omega)]; exact f2, (by intro h; cases h), by rw [gx_oc_sz]; omega, ?_, next _ _ _ ⟨x + 1, by omega, hl, ?_⟩⟩
    · have hfit : fits (FieldType.array .int) (.ref (gx_gr s c ci N K x).heap.size) = true := rfl
      simp [State.fitsSlot, State.slotType?, gx_oc, arrV, f3, hkc, hkindc, hfit]
    · rw [f1, gx_oc_put]
      rfl
  · rintro u d1 a1 ⟨i, hi, -, rfl⟩
    rw [List.length_nil] at hi
    have hi : i = N := by omega
    subst hi
    simp only [wp_pure']
    exact hq _ _
end GXm
section GXn
variable {p : Program} {l : Launch} {e : Env} {R : Room} {s : State} {m : MethodId} {args : Array Value} {below : List Frame} {meth : Method} {c : Code} {H : Heap} {locs : List Loc} {cells slots : Nat} {Q : State → Prop}
theorem gx_gr_st {T : State} (X : Stand p l e R s m args below meth c T locs cells slots) (cA ci : ClassId) (N K : Nat) : ∀ i : Nat, ∃ L : List Loc, (∀ x ∈ L, x.base = T.heap.size) ∧ Stand p l e R s m args below meth c (gx_gr T cA ci N K i) (locs ++ L) (cells + 1 + i) (slots + N + i * K)
  | 0 => ⟨[], fun _ h => (by cases h), by
      have h := X.pushed (gx_oc cA N T.heap.size 0)
      rw [gx_oc_sz] at h
      simpa [gx_gr] using h⟩
  | i + 1 => by
    obtain ⟨L, hL, Y⟩ := gx_gr_st X cA ci N K i
    obtain ⟨f1, f2, -⟩ := gx_gr_f T cA ci N K i
    have hc : ((gx_gr T cA ci N K i).pushCell (gx_ic ci K)).heap[T.heap.size]? = some (gx_oc cA N T.heap.size i) := by rw [State.heap_pushCell_of_lt _ _ (show T.heap.size < (gx_gr T cA ci N K i).heap.size by rw [f1]; omega)]; exact f2
    have h := (Y.pushed (gx_ic ci K)).stored hc i (.ref (T.heap.size + 1 + i))
    rw [gx_ic_sz, gx_oc_put] at h
    refine ⟨L ++ [⟨T.heap.size, i⟩], ?_, ?_⟩
    · intro x hx
      rcases List.mem_append.mp hx with q | q
      · exact hL x q
      · rw [List.mem_singleton] at q; rw [q]
    · rw [show slots + N + (i + 1) * K = slots + N + i * K + K by rw [Nat.succ_mul]; omega, ← List.append_assoc]
      exact h
variable {cc : ByteArray} {pc : Nat} {ls : Array Slot} {rest : List Value} {D : va_G} {cl : List vw_C} {A : Nat → Prop} {ws : va_W} {H0 : Heap}
theorem gx_mna (hexec : p.tables.exec = Jvm.exec) (hb : c.code = cc) {own : String} {index : Nat} {cI cII : ClassId} (hown : s.vm.findClass own = some m.cls) (hclink : (Cond.classLink own index "[[I").before args s = true) (hover : (Cond.arrayOver (.array .int)).before args s = true) (harr : (Cond.arrayClass .int).before args s = true) (hcI : s.vm.findClass "[I" = some cI) (hcII : s.vm.findClass "[[I" = some cII)
    (hP : va_P D cl ws H) (hD : va_D A ws) (hS : va_S A H0 H locs) (hA : ∀ q, H0.size ≤ q → A q) {n k : Int32} {N K : Nat} (hn0 : ¬ n < 0) (hN : n.toNatClampNeg = N) (hk0 : ¬ k < 0) (hK : k.toNatClampNeg = K) (hN9 : N ≤ 1000) (hK9 : K ≤ 1000) (hcells : cells + (1 + N) ≤ R.cells) (hslots : slots + (N + N * K) ≤ R.slots) (hdg : decode cc pc = .ok (.multianewarray index 2, 4))
    (kk : ∀ (h : Nat) (H1 : Heap) (locs1 : List Loc), va_P D cl (ws ++ ((h, .inl (cII, N, .inr (.inr (.inr (.inr (fun j => if j < N then some (h + 1 + j) else none)))))) :: (List.range N).map (fun j => (h + 1 + j, .inl (cI, K, .inl (fun _ => 0)))))) H1 → va_D A (ws ++ ((h, .inl (cII, N, .inr (.inr (.inr (.inr (fun j => if j < N then some (h + 1 + j) else none)))))) :: (List.range N).map (fun j => (h + 1 + j, .inl (cI, K, .inl (fun _ => 0)))))) → va_S A H0 H1 locs1 →
      W p l e R s m args below meth c H1 locs1 (cells + 1 + N) (slots + N + N * K) Q (F0 m (pc + 4) ls (.ref h :: rest))) : W p l e R s m args below meth c H locs cells slots Q (F0 m pc ls (.int k :: .int n :: rest)) := by
  intro T hT X
  have hpl : e.platform.magicAccessors = ({} : Platform).magicAccessors := by rw [X.admits.platform]
  obtain ⟨ci, cA, kA, hci, -, hkA, hkindA, hnameA⟩ := arrayOverA_spec hover
  obtain ⟨ci', kI, cp, hci', hkI, hkindI⟩ := Cond.arrayClass_spec harr
  have e1 : ci' = ci := Option.some.inj (hci'.symm.trans hci)
  subst e1
  have e2 : cI = ci' := Option.some.inj (hcI.symm.trans hci')
  subst e2
  have e3 : cII = cA := Option.some.inj (hcII.symm.trans hnameA)
  subst e3
  obtain ⟨c0, hfc0, hcl⟩ := Cond.classLink_spec hown hclink e.platform hpl
  cases hcII.symm.trans hfc0
  obtain ⟨hg₁, hwarm₁, hready₁⟩ := State.classEntry (e := e) X.warmed hcl
  generalize T.vm.noted m.cls index (.cls cII) = vm₁ at hg₁ hwarm₁ hready₁
  obtain ⟨kA₁, hkA₁, heA⟩ := hwarm₁.alike.2.2 _ _ hkA
  obtain ⟨kI₁, hkI₁, heI⟩ := hwarm₁.alike.2.2 _ _ hkI
  have hkindA₁ : kA₁.kind = .array cI (.array .int) := by rw [heA]; exact hkindA
  have hkindI₁ : kI₁.kind = .array cp .int := by rw [heI]; exact hkindI
  have X₁ := X.noted hwarm₁
  obtain ⟨hr1, hr2⟩ := X.roomAbove hcells hslots
  obtain ⟨L, hL, Y⟩ := gx_gr_st X₁ cII cI N K N
  obtain ⟨f1, f2, f3, f4, f5, f6, f7⟩ := gx_gr_f (T.setVm vm₁) cII cI N K N
  have hl1 : ¬ N > e.platform.arrayLengthLimit := by rw [Launch.admits_arrayLengthLimit X.admits]; omega
  have hh1 : ¬ N * componentBytes (.array .int) > e.platform.maxHeapBytes := by
    rw [Launch.admits_maxHeapBytes X.admits]; show ¬ N * 4 > 536870912; omega
  have hl2 : ¬ K > e.platform.arrayLengthLimit := by rw [Launch.admits_arrayLengthLimit X.admits]; omega
  have hh2 : ¬ K * componentBytes .int > e.platform.maxHeapBytes := by
    rw [Launch.admits_maxHeapBytes X.admits]; show ¬ K * 4 > 536870912; omega
  have hh : (T.setVm vm₁).heap = H := hT
  rw [hh] at f1 f2 f5 f6
  have hlt : ∀ (i : Nat) (q : Nat × va_E), ws[i]? = some q → q.1 < H.size := fun i q h => (hP i q h).lt
  generalize hGe : gx_gr (T.setVm vm₁) cII cI N K N = G at f1 f2 f3 f4 f5 f6 Y
  have row : ∀ (i : Nat) (q : Nat × va_E), ((H.size, .inl (cII, N, .inr (.inr (.inr (.inr (fun j => if j < N then some (H.size + 1 + j) else none)))))) :: (List.range N).map (fun j => (H.size + 1 + j, (.inl (cI, K, .inl (fun _ => 0)) : va_E))))[i]? = some q → q.1 = H.size + i ∧ va_at D cl q G.heap := by
    intro i q hq
    match i, hq with
    | 0, hq =>
      cases hq
      exact ⟨rfl, by show G.heap[H.size]? = _; rw [f2]; rfl⟩
    | i + 1, hq =>
      rw [List.getElem?_cons_succ, List.getElem?_map] at hq
      rcases Nat.lt_or_ge i N with hi | hi
      · rw [List.getElem?_range hi] at hq
        cases hq
        exact ⟨by show H.size + 1 + i = _; omega, by show G.heap[H.size + 1 + i]? = _; rw [f6 i hi]; rfl⟩
      · rw [List.getElem?_eq_none (by simpa using hi)] at hq
        cases hq
  obtain ⟨t, a1, b1⟩ := kk H.size G.heap (locs ++ L) (va_P.app (hP.kept (fun i q h => f5 q.1 (hlt i q h))) (fun i q h => (row i q h).2))
    (va_D.app hD ⟨fun i j x y hx hy hxy => by have := (row i x hx).1; have := (row j y hy).1; omega, fun i q h => by rw [(row i q h).1]; exact hA _ (Nat.le_trans hS.1 (Nat.le_add_right _ _))⟩ (fun i j x y hx hy hxy => by have := hlt i x hx; have := (row j y hy).1; omega))
    ⟨Nat.le_trans hS.1 (by rw [f1]; omega), fun q g1 g2 => by rw [f5 q (Nat.lt_of_lt_of_le g1 hS.1)]; exact hS.2.1 q g1 g2, fun x hx => by
      rcases List.mem_append.mp hx with h | h
      · exact hS.2.2 x h
      · rw [hL x h, hh]; exact hA _ hS.1⟩ G rfl Y
  refine ⟨t, ?_, b1⟩
  subst hb
  have hX := X.here
  jvm_step hX [hexec, hdg]
  simp only [multianewarray.sem, wp_bind', W.resolveClassAt_links (State.method?_setTop (F0 m pc ls (.int k :: .int n :: rest)) X.here.top) hg₁]
  rw [W.popN, if_neg (by decide)]
  refine ⟨F0 m pc ls (.int k :: .int n :: rest), State.topJava?_setTop' (s := T.setVm vm₁) _ X.here.top, [.int n, .int k], rest, rfl, rfl, ?_⟩
  simp only [List.mapM_cons, List.mapM_nil, wp_bind', wp_pure']
  refine gx_make2 (kc := kA₁) (ki := kI₁) (ci := cI) (cp := cp) hkA₁ hkindA₁ hkI₁ hkindI₁ hn0 hN hk0 hK hl1 hh1 hl2 hh2 (by show T.heap.size + 1 + _ ≤ _; omega) (by show T.slotsUsed + _ + _ ≤ _; omega) (fun d' acts' => ?_)
  have eS : ((T.setTop (F0 m pc ls (.int k :: .int n :: rest))).setVm vm₁).setTop { F0 m pc ls (.int k :: .int n :: rest) with stack := rest } = (T.setVm vm₁).setTop { F0 m pc ls (.int k :: .int n :: rest) with stack := rest } := by
    show ((T.setVm vm₁).setTop _).setTop _ = _
    rw [State.setTop_setTop]
  rw [eS, f7, hGe]
  simp only [wp_bind', W.mark, W.pushRef, State.topJava?_setTop' _ Y.here.top, Option.some.injEq, exists_eq_left', State.setTop_setTop, State.heap_setTop]
  intro acts2
  simp [jvm, Y.here.top]
  have hTs : T.heap.size = H.size := by rw [hT]
  rw [hTs]
  exact a1
end GXn
end
section
/-! THROW: methods that only read (the heap stays), and methods that may throw while nothing is written yet -/
/-- a contract that only reads: the answer, the heap as it was -/
def gx_Ri (post : Int32 → Prop) : Array Value → State → Outcome → State → Prop := fun _ st o t => ∃ r : Int32, o = .returned (some (.int r)) ∧ post r ∧ t.heap = st.heap
def gx_Rl (post : Int64 → Prop) : Array Value → State → Outcome → State → Prop := fun _ st o t => ∃ r : Int64, o = .returned (some (.long r)) ∧ post r ∧ t.heap = st.heap
def gx_Rr (post : Nat → Prop) : Array Value → State → Outcome → State → Prop := fun _ st o t => ∃ r : Nat, o = .returned (some (.ref r)) ∧ post r ∧ t.heap = st.heap
section GXr
variable {p : Program} {l : Launch} {e : Env} {R : Room} {s : State} {m : MethodId} {args : Array Value} {below : List Frame} {meth : Method} {c : Code} {H : Heap} {locs : List Loc} {cells slots : Nat} {Q : State → Prop}
variable {cc : ByteArray} {pc : Nat} {ls : Array Slot} {rest st0 : List Value} {a : Array Value}
theorem gx_readi {post : Int32 → Prop} (hr : va_Run p l e R s m args below meth c H locs cells slots 0 0 (F0 m pc ls st0) rest (gx_Ri post a) (fun _ => False))
    (kk : ∀ r : Int32, post r → W p l e R s m args below meth c H locs cells slots Q (F0 m (pc + 3) ls (.int r :: rest))) : W p l e R s m args below meth c H locs cells slots Q (F0 m pc ls st0) := by
  intro T hT X
  obtain ⟨v, st₀, t, T', L, h0, X', hL, e1, e2, ⟨r, hv, hp, hh⟩, st⟩ := hr T hT X
  cases hv
  obtain ⟨t2, a1, b1⟩ := kk r hp T' (by rw [e1, hh, h0]) (Stand.forget X' (fun q h => (hL q h).elim))
  exact ⟨t2, st t2 a1, b1⟩
theorem gx_readl {post : Int64 → Prop} (hr : va_Run p l e R s m args below meth c H locs cells slots 0 0 (F0 m pc ls st0) rest (gx_Rl post a) (fun _ => False))
    (kk : ∀ r : Int64, post r → W p l e R s m args below meth c H locs cells slots Q (F0 m (pc + 3) ls (.long r :: rest))) : W p l e R s m args below meth c H locs cells slots Q (F0 m pc ls st0) := by
  intro T hT X
  obtain ⟨v, st₀, t, T', L, h0, X', hL, e1, e2, ⟨r, hv, hp, hh⟩, st⟩ := hr T hT X
  cases hv
  obtain ⟨t2, a1, b1⟩ := kk r hp T' (by rw [e1, hh, h0]) (Stand.forget X' (fun q h => (hL q h).elim))
  exact ⟨t2, st t2 a1, b1⟩
theorem gx_readr {post : Nat → Prop} (hr : va_Run p l e R s m args below meth c H locs cells slots 0 0 (F0 m pc ls st0) rest (gx_Rr post a) (fun _ => False))
    (kk : ∀ r : Nat, post r → W p l e R s m args below meth c H locs cells slots Q (F0 m (pc + 3) ls (.ref r :: rest))) : W p l e R s m args below meth c H locs cells slots Q (F0 m pc ls st0) := by
  intro T hT X
  obtain ⟨v, st₀, t, T', L, h0, X', hL, e1, e2, ⟨r, hv, hp, hh⟩, st⟩ := hr T hT X
  cases hv
  obtain ⟨t2, a1, b1⟩ := kk r hp T' (by rw [e1, hh, h0]) (Stand.forget X' (fun q h => (hL q h).elim))
  exact ⟨t2, st t2 a1, b1⟩
theorem gx_ireti {mc ms : Nat} {post : Int32 → Prop} {v : Int32} {ty : FieldType} (hexec : p.tables.exec = Jvm.exec) (hb : c.code = cc) (hr : meth.sig.returnType = some ty) (hlocks : meth.locks = false) (hn : narrow ty (.int v) = .int v) (hdg : decode cc pc = .ok (.ireturn, 1)) (hp : post v) :
    W p l e R s m args below meth c s.heap [] 0 0 (MQ below (gx_Ri post) args s mc ms (fun _ => False)) (F0 m pc ls [.int v]) :=
  W.widen (Nat.zero_le mc) (Nat.zero_le ms) (W.zret hexec hb hr hn (fun t ht hW => ⟨v, rfl, hp, ht⟩) (fun _ h => nomatch h) hdg hlocks)
theorem gx_iretl {mc ms : Nat} {post : Int64 → Prop} {v : Int64} (hexec : p.tables.exec = Jvm.exec) (hb : c.code = cc) (hr : meth.sig.returnType = some .long) (hlocks : meth.locks = false) (hdg : decode cc pc = .ok (.lreturn, 1)) (hp : post v) :
    W p l e R s m args below meth c s.heap [] 0 0 (MQ below (gx_Rl post) args s mc ms (fun _ => False)) (F0 m pc ls [.long v]) :=
  W.widen (Nat.zero_le mc) (Nat.zero_le ms) (W.lret hexec hb hr (fun t ht hW => ⟨v, rfl, hp, ht⟩) (fun _ h => nomatch h) hdg hlocks)
theorem gx_iretr {mc ms : Nat} {post : Nat → Prop} {v : Nat} {rt : FieldType} (hexec : p.tables.exec = Jvm.exec) (hb : c.code = cc) (hr : meth.sig.returnType = some rt) (hrt : (∃ n, rt = .object n) ∨ ∃ t, rt = .array t) (hlocks : meth.locks = false) (hdg : decode cc pc = .ok (.areturn, 1)) (hp : post v) :
    W p l e R s m args below meth c s.heap [] 0 0 (MQ below (gx_Rr post) args s mc ms (fun _ => False)) (F0 m pc ls [.ref v]) :=
  W.widen (Nat.zero_le mc) (Nat.zero_le ms) (W.aret hexec hb hr hrt (Or.inr ⟨v, rfl⟩) (fun t ht hW => ⟨v, rfl, hp, ht⟩) (fun _ h => nomatch h) hdg hlocks)
end GXr
/-- thrown, with nothing written: one object of six fields is new -/
def gx_X (XC : String → Prop) (st : State) (o : Outcome) (t : State) : Prop := ∃ (q : Addr) (E : String) (ce : Cell), o = .threw q ∧ XC E ∧ t.heap[q]? = some ce ∧ ce.vm = .none ∧ st.vm.findClass E = some ce.cls ∧ st.WarmedH t.vm ∧ st.sameButNew ({ t with vm := st.vm } : State) [] 1 6
def gx_XQ (Qc : Array Value → State → Outcome → State → Prop) (XC : String → Prop) (mc ms : Nat) (free : Addr → Prop) : Array Value → State → Outcome → State → Prop := fun a st o t => (Qc a st o t ∧ ∃ L, FrameEnd st o t L mc ms ∧ ∀ q ∈ L, free q.base) ∨ gx_X XC st o t
def gx_XM (l : Launch) (y : MethodName) (ts : List Cond) (rm : Room) (Pc : Array Value → State → Prop) (Qc : Array Value → State → Outcome → State → Prop) (XC : String → Prop) (mc ms : Nat) (free : Addr → Prop) : Prop :=
  MetFree l y (headSpec ts rm) Pc (fun _ _ _ _ _ => True) (gx_XQ Qc XC mc ms free)
def gx_MX (below : List Frame) (Qc : Array Value → State → Outcome → State → Prop) (XC : String → Prop) (a : Array Value) (s : State) (mc ms : Nat) (free : Addr → Prop) : State → Prop := fun t => ∃ o, t.status = .running ∧ Ended t below o ∧ gx_XQ Qc XC mc ms free a s o t
/-- of a state that only has new cells: what was there is as it was -/
theorem gx_same {s U : State} {k n : Nat} (h : s.sameButNew ({ U with vm := s.vm } : State) [] k n) : s.heap.size ≤ U.heap.size ∧ ∀ q : Nat, q < s.heap.size → U.heap[q]? = s.heap[q]? := by
  obtain ⟨-, h2, -, -, -, h6⟩ := h
  refine ⟨h2, fun q hq => ?_⟩
  obtain ⟨x, e1, e2, e3, e4⟩ := h6 q _ (Array.getElem?_eq_getElem hq)
  have hs : x.slots = (s.heap[q]).slots := Array.ext_getElem? fun i => e4 i (fun hm => nomatch hm)
  have h9 : x = s.heap[q] := by
    rw [hs] at e2
    exact e2
  have e5 : U.heap[q]? = some x := e1
  rw [e5, h9, Array.getElem?_eq_getElem hq]
section GXx
variable {p : Program} {l : Launch} {e : Env} {R : Room} {s : State} {m : MethodId} {args : Array Value} {below : List Frame} {meth : Method} {c : Code} {H : Heap} {locs : List Loc} {cells slots : Nat} {Q : State → Prop}
variable {cc : ByteArray} {pc : Nat} {ls : Array Slot} {rest : List Value} {Qc : Array Value → State → Outcome → State → Prop} {XC : String → Prop} {mc ms : Nat} {free : Addr → Prop}
theorem gx_mx {g : JFrame} (k : W p l e R s m args below meth c H locs cells slots (MQ below Qc args s mc ms free) g) : W p l e R s m args below meth c H locs cells slots (gx_MX below Qc XC args s mc ms free) g :=
  gx_mono (fun t ⟨o, h1, h2, h3, h4⟩ => ⟨o, h1, h2, Or.inl ⟨h3, h4⟩⟩) k
/-- throw new E("text") -/
theorem gx_throw (hexec : p.tables.exec = Jvm.exec) (hb : c.code = cc) (hl : l.stackTraces = false) {own cls text : String} {names : List String} {ik is ic sa : Nat} (hown : s.vm.findClass own = some m.cls) (hcls : Bundle.fit cls = true) (hnames : ∀ n ∈ names, Bundle.fit n = true)
    (hk : (Cond.classLink own ik cls).before args s = true) (hini : (Cond.initialized cls).before args s = true) (hstr : vk_R own is text sa s) (hat : ∀ w ∈ Bundle.ownAtoms own ic cls names, w.before args s = true) (hsize : ls.size = c.maxLocals)
    (d0 : decode cc pc = .ok (.new ik, 3)) (d3 : decode cc (pc + 3) = .ok (.dup, 1)) (d4 : decode cc (pc + 4) = .ok (.ldc is, 2)) (d6 : decode cc (pc + 6) = .ok (.invokespecial ic, 3)) (d9 : decode cc (pc + 9) = .ok (.athrow, 1))
    (hex : c.exceptionTable.isEmpty = true) (hRf : names.length + 3 < R.frames) (hRl : (rest.map fun v => v.category).sum + (13 * (names.length + 1) + 43) ≤ R.locals) (hRc : 1 ≤ R.cells) (hRs : 6 ≤ R.slots) (hlocks : meth.locks = false) (hX : XC cls) :
    W p l e R s m args below meth c s.heap [] 0 0 (gx_MX below Qc XC args s mc ms free) (F0 m pc ls rest) := by
  intro T hT X
  have htr : e.platform.stackTraces = false := (show e.platform.stackTraces = l.stackTraces by rw [X.admits.platform]).trans hl
  have hins : (Cond.instantiable cls 6).before args s = true := hat _ (by simp [Bundle.ownAtoms])
  obtain ⟨vm₁, cX, kX, hfX, hkX, -, -, X₁, st1⟩ := X.newCold hexec (own := own) (C := cls) (index := ik) (n := 6) hown hk hins hini (g := F0 m pc ls rest) rfl (by rw [hb]; exact d0) (by omega) (by omega)
  generalize hT1 : (T.setVm vm₁).pushCell { cls := cX, slots := kX.instanceTypes.map defaultValue, vm := .none } = T1 at X₁ st1
  have hcellA : T1.heap[T.heap.size]? = some (freshCell cX kX) := by rw [← hT1]; exact State.heap_pushCell_size _ _
  have hcat : (Value.ref T.heap.size).category = 1 := rfl
  have d3' : decode c.code (pc + 3) = .ok (.dup, 1) := by rw [hb]; exact d3
  have d4' : decode c.code (pc + 4) = .ok (.ldc is, 2) := by rw [hb]; exact d4
  obtain ⟨U, hsteps, hrun, hend, hW, hsame, ce, hce, hO⟩ := X₁.ctorThrowS hexec htr (own := own) (cls := cls) (names := names) (ic := ic) hown hcls hnames hat (fun x hx => nomatch hx) hfX hkX hcellA (by rw [hT]; exact Nat.le_refl _) (msg := .ref sa) rfl
    (g := { method := m, pc := pc + 6, locals := ls, stack := .ref sa :: .ref T.heap.size :: .ref T.heap.size :: rest, locked := none }) rfl hsize rfl rfl (rest := rest) rfl
    (by rw [hb]; exact d6) (by rw [hb]; exact d9) (covers_of_empty hex _) hRf (by simp only [List.map_cons, List.sum_cons, hcat]; show 2 * 0 + _ + _ ≤ _; omega) hlocks
  refine ⟨U, ?_, .threw T.heap.size, hrun, hend, Or.inr ⟨T.heap.size, cls, ce, rfl, hX, hce, hO.vm, hO.cls, hW, ?_⟩⟩
  · refine st1 _ ?_
    show Steps p.tables e below (T1.setTop { method := m, pc := pc + 3, locals := ls, stack := .ref T.heap.size :: rest, locked := none }) _
    jvm_step X₁.here [X₁.here.top, hexec, d3', Value.category]
    exact X₁.ldcString hexec (own := own) (text := text) (index := is) (a := sa) hown hstr.1 hstr.2
      (g := { method := m, pc := pc + 4, locals := ls, stack := .ref T.heap.size :: .ref T.heap.size :: rest, locked := none }) rfl d4' _ hsteps
  · exact hsame
end GXx
theorem gx_xmet {l : Launch} {y : MethodName} {rm : Room} {s0 : State} {D : va_G} {cl : List vw_C} {ws : va_W} {sz : Nat} {av : List Value} {Qc : Array Value → State → Outcome → State → Prop} {XC : String → Prop} {mc ms : Nat} {free : Addr → Prop} {cc : ByteArray} {maxL : Nat} {ret : Option FieldType} (hy : plainName y.cls = true) (hav : (lg_sl av).length ≤ maxL)
    (body : ∀ (p : Program) (e : Env) (s : State) (m : MethodId) (below : List Frame) (meth : Method) (c : Code) (ls : Array Slot), p.tables.exec = Jvm.exec → c.code = cc → meth.sig.returnType = ret → c.maxLocals = maxL → s.vm.findClass y.cls = some m.cls → meth.locks = false → c.exceptionTable.isEmpty = true → s.heap.size = sz → gx_V s0 s → va_P D cl ws s.heap → va_D (va_A ws sz) ws → va_S (va_A ws sz) s.heap s.heap [] → (∀ q, s.heap.size ≤ q → va_A ws sz q) → (∀ q, va_A ws sz q → s0.heap.size ≤ q) → lv_has ls maxL (lv_args 0 av) →
      W p l e rm s m av.toArray below meth c s.heap [] 0 0 (gx_MX below Qc XC av.toArray s mc ms free) (F0 m 0 ls [])) : gx_XM l y [.code y cc maxL ret] rm (gx_P s0 D cl ws sz av) Qc XC mc ms free := by
  refine MetFree.of_bodyS (code := cc) (maxLocals := maxL) (ret := ret) hy ?_ ?_
  · intro args s m h hn
    obtain ⟨meth, c, h1, h2, h3, h4, h5, h6, -, -⟩ := Cond.code_spec hn (atoms_spec (ws := [.code y cc maxL ret]) h _ List.mem_cons_self)
    exact ⟨meth, c, h1, h2, h3, h4, h5, h6⟩
  · intro p e s m args below meth c s₁ B hml hv _
    obtain ⟨rfl, hsz, hP, hD0, hV⟩ := hv
    have hl := lv_entry av (n := maxL) hav
    have hh0 : s₁.heap = s.heap := by rw [B.state]; rfl
    have hex := B.noHandlers (atoms_spec (ws := [.code y cc maxL ret]) B.pre _ List.mem_cons_self)
    have K := body p e s m below meth c _ B.exec B.bytes B.returns hml (findClass_of_methodNamed B.named) B.notSynchronized hex hsz hV hP hD0.self va_S.rf (fun q h => Or.inr (hsz ▸ h)) (fun q h => by
      rcases h with ⟨k, e9, h⟩ | h
      · exact hD0.2 k _ h
      · exact Nat.le_trans hV.2.1 (hsz ▸ h)) hl
    rw [lg_entry_eq]
    obtain ⟨t, a1, o, b1, b2, b3⟩ := K s₁ hh0 (Stand.of_body B)
    exact ⟨t, o, a1, b1, b2, b3⟩
end
section
/-! ROWS: arrays read and written at a place that is a number -/
section GXy
variable {p : Program} {l : Launch} {e : Env} {R : Room} {s : State} {m : MethodId} {args : Array Value} {below : List Frame} {meth : Method} {c : Code} {H : Heap} {locs : List Loc} {cells slots : Nat} {Q : State → Prop}
variable {cc : ByteArray} {pc : Nat} {ls : Array Slot} {rest : List Value} {D : va_G} {cl : List vw_C} {A : Nat → Prop} {a : Nat} {tys : List (ClassId × FieldType)} {ws : va_W} {H0 : Heap}
theorem gx_il (hexec : p.tables.exec = Jvm.exec) (hb : c.code = cc) (hK : va_K D cl tys s) (hP : va_P D cl ws H) (q0 t0 : Nat) {cA : ClassId} {n : Nat} {f : Nat → Int32} (ha : ws[q0]? = some (a, .inl (cA, n, .inl f))) (ht : tys[t0]? = some (cA, .int)) {i : Int32} (j : Nat) (hi : i = nI j) (hj : j < n) (hn : n < 2 ^ 31) (hdg : decode cc pc = .ok (.iaload, 1))
    (kk : W p l e R s m args below meth c H locs cells slots Q (F0 m (pc + 1) ls (.int (f j) :: rest))) : W p l e R s m args below meth c H locs cells slots Q (F0 m pc ls (.int i :: .ref a :: rest)) := by
  subst hi
  refine va_iald hexec hb hK hP q0 t0 ha ht (vp_in_nI hj hn) hdg ?_
  rw [nI_clamp (by omega)]
  exact kk
theorem gx_cl (hexec : p.tables.exec = Jvm.exec) (hb : c.code = cc) (hK : va_K D cl tys s) (hP : va_P D cl ws H) (q0 t0 : Nat) {cA : ClassId} {n : Nat} {f : Nat → Int32} (ha : ws[q0]? = some (a, .inl (cA, n, .inl f))) (ht : tys[t0]? = some (cA, .char)) {i : Int32} (j : Nat) (hi : i = nI j) (hj : j < n) (hn : n < 2 ^ 31) (hdg : decode cc pc = .ok (.caload, 1))
    (kk : W p l e R s m args below meth c H locs cells slots Q (F0 m (pc + 1) ls (.int (f j) :: rest))) : W p l e R s m args below meth c H locs cells slots Q (F0 m pc ls (.int i :: .ref a :: rest)) := by
  subst hi
  refine va_cald hexec hb hK hP q0 t0 ha ht (vp_in_nI hj hn) hdg ?_
  rw [nI_clamp (by omega)]
  exact kk
theorem gx_ll (hexec : p.tables.exec = Jvm.exec) (hb : c.code = cc) (hK : va_K D cl tys s) (hP : va_P D cl ws H) (q0 t0 : Nat) {cA : ClassId} {n : Nat} {f : Nat → Int64} (ha : ws[q0]? = some (a, .inl (cA, n, .inr (.inl f)))) (ht : tys[t0]? = some (cA, .long)) {i : Int32} (j : Nat) (hi : i = nI j) (hj : j < n) (hn : n < 2 ^ 31) (hdg : decode cc pc = .ok (.laload, 1))
    (kk : W p l e R s m args below meth c H locs cells slots Q (F0 m (pc + 1) ls (.long (f j) :: rest))) : W p l e R s m args below meth c H locs cells slots Q (F0 m pc ls (.int i :: .ref a :: rest)) := by
  subst hi
  refine va_lald hexec hb hK hP q0 t0 ha ht (vp_in_nI hj hn) hdg ?_
  rw [nI_clamp (by omega)]
  exact kk
theorem gx_al (hexec : p.tables.exec = Jvm.exec) (hb : c.code = cc) (hK : va_K D cl tys s) (hP : va_P D cl ws H) (q0 t0 : Nat) {cA : ClassId} {ty : FieldType} {n : Nat} {f : Nat → Option Nat} (ha : ws[q0]? = some (a, .inl (cA, n, .inr (.inr (.inr (.inr f)))))) (ht : tys[t0]? = some (cA, ty)) (href : ty.isReference = true) {i : Int32} (j : Nat) {v : Nat} (hi : i = nI j) (hj : j < n) (hn : n < 2 ^ 31) (hv : f j = some v) (hdg : decode cc pc = .ok (.aaload, 1))
    (kk : W p l e R s m args below meth c H locs cells slots Q (F0 m (pc + 1) ls (.ref v :: rest))) : W p l e R s m args below meth c H locs cells slots Q (F0 m pc ls (.int i :: .ref a :: rest)) := by
  subst hi
  exact gx_aald hexec hb hK hP q0 t0 ha ht href (vp_in_nI hj hn) (by rw [nI_clamp (by omega)]; exact hv) hdg kk
theorem gx_is (hexec : p.tables.exec = Jvm.exec) (hb : c.code = cc) (hK : va_K D cl tys s) (hP : va_P D cl ws H) (hD : va_D A ws) (hS : va_S A H0 H locs) (q0 t0 : Nat) {cA : ClassId} {n : Nat} {f : Nat → Int32} (ha : ws[q0]? = some (a, .inl (cA, n, .inl f))) (ht : tys[t0]? = some (cA, .int)) {i : Int32} {x : Int32} (j : Nat) (hi : i = nI j) (hj : j < n) (hn : n < 2 ^ 31) (hdg : decode cc pc = .ok (.iastore, 1))
    (kk : ∀ (H1 : Heap) (locs1 : List Loc), va_P D cl (ws.set q0 (a, .inl (cA, n, .inl (upd f j x)))) H1 → va_D A (ws.set q0 (a, .inl (cA, n, .inl (upd f j x)))) → va_S A H0 H1 locs1 → W p l e R s m args below meth c H1 locs1 cells slots Q (F0 m (pc + 1) ls rest)) : W p l e R s m args below meth c H locs cells slots Q (F0 m pc ls (.int x :: .int i :: .ref a :: rest)) := by
  subst hi
  refine va_iast hexec hb hK hP hD hS q0 t0 ha ht (vp_in_nI hj hn) hdg ?_
  rw [nI_clamp (by omega)]
  exact kk
theorem gx_cs (hexec : p.tables.exec = Jvm.exec) (hb : c.code = cc) (hK : va_K D cl tys s) (hP : va_P D cl ws H) (hD : va_D A ws) (hS : va_S A H0 H locs) (q0 t0 : Nat) {cA : ClassId} {n : Nat} {f : Nat → Int32} (ha : ws[q0]? = some (a, .inl (cA, n, .inl f))) (ht : tys[t0]? = some (cA, .char)) {i : Int32} {x : Int32} (j : Nat) (hi : i = nI j) (hj : j < n) (hn : n < 2 ^ 31) (hx9 : vp_nar .char x = x) (hdg : decode cc pc = .ok (.castore, 1))
    (kk : ∀ (H1 : Heap) (locs1 : List Loc), va_P D cl (ws.set q0 (a, .inl (cA, n, .inl (upd f j x)))) H1 → va_D A (ws.set q0 (a, .inl (cA, n, .inl (upd f j x)))) → va_S A H0 H1 locs1 → W p l e R s m args below meth c H1 locs1 cells slots Q (F0 m (pc + 1) ls rest)) : W p l e R s m args below meth c H locs cells slots Q (F0 m pc ls (.int x :: .int i :: .ref a :: rest)) := by
  subst hi
  refine va_cast hexec hb hK hP hD hS q0 t0 ha ht (vp_in_nI hj hn) hdg ?_
  rw [nI_clamp (by omega), hx9]
  exact kk
theorem gx_ls (hexec : p.tables.exec = Jvm.exec) (hb : c.code = cc) (hK : va_K D cl tys s) (hP : va_P D cl ws H) (hD : va_D A ws) (hS : va_S A H0 H locs) (q0 t0 : Nat) {cA : ClassId} {n : Nat} {f : Nat → Int64} (ha : ws[q0]? = some (a, .inl (cA, n, .inr (.inl f)))) (ht : tys[t0]? = some (cA, .long)) {i : Int32} {x : Int64} (j : Nat) (hi : i = nI j) (hj : j < n) (hn : n < 2 ^ 31) (hdg : decode cc pc = .ok (.lastore, 1))
    (kk : ∀ (H1 : Heap) (locs1 : List Loc), va_P D cl (ws.set q0 (a, .inl (cA, n, .inr (.inl (vp_updL f j x))))) H1 → va_D A (ws.set q0 (a, .inl (cA, n, .inr (.inl (vp_updL f j x))))) → va_S A H0 H1 locs1 → W p l e R s m args below meth c H1 locs1 cells slots Q (F0 m (pc + 1) ls rest)) : W p l e R s m args below meth c H locs cells slots Q (F0 m pc ls (.long x :: .int i :: .ref a :: rest)) := by
  subst hi
  refine va_last hexec hb hK hP hD hS q0 t0 ha ht (vp_in_nI hj hn) hdg ?_
  rw [nI_clamp (by omega)]
  exact kk
end GXy
theorem gx_rng {x : Int32} {n : Nat} (hn : n < 2 ^ 31) (h0 : ¬ x < 0) (h1 : ¬ nI n ≤ x) : ∃ j : Nat, j < n ∧ x = nI j := by
  rcases pk_ix x hn with h | h | h
  · exact absurd h h0
  · exact absurd h h1
  · exact h
end
section
/-! CATCH: a call that returns or throws; a handler of the caller's own -/
section GXc
variable {Q : Handler → Pre} {E : CtlPost} {e : Env} {d : Bool} {acts : List Action} {s : State} {f : JFrame} {a : Addr}
theorem gx_go1 {x : ExceptionTableEntry} {t : List ExceptionTableEntry} {c : ClassId} {cell : Cell} {vm1 : Vm} (hx : covers x f.pc = true) (h0 : x.catchType ≠ 0) (hg : (Jvm.resolveClass f.method.cls x.catchType).Gives e.toSetting s.vm (.ok c) vm1) (hcell : s.heap[a]? = some cell) (hobj : ∀ k, cell.vm ≠ .statics k)
    (hk : ∃ k, vm1.classes[cell.cls]? = some k) (hc : ∃ k, vm1.classes[c]? = some k) (hz : vm1.classes.size ≤ s.vm.classes.size) :
    wp (findHandler.go f a (x :: t)) Q E e d acts s ↔ if vm1.assignable cell.cls c = true then Q (.found x.handlerPc) d acts (s.setVm vm1) else wp (findHandler.go f a t) Q E e d acts (s.setVm vm1) := by
  simp only [covers] at hx
  obtain ⟨ha, ht⟩ := hg.op (op := VmOp.resolveClass f.method.cls x.catchType) rfl
  obtain ⟨k1, hk1⟩ := hk
  obtain ⟨k2, hk2⟩ := hc
  have hla := VmOp.lands_eq (op := VmOp.resolveClass f.method.cls x.catchType) (e := e) (s := s) ht hz
  cases hfit : vm1.assignable cell.cls c <;> simp [findHandler.go, hx, h0, ha, hla, hcell, hobj, hk1, hk2, hfit, VmOp.dirties, VmOp.acts]
/-- the search leads to a handler, and warms the tables -/
def gx_Fd (e : Env) (s : State) (f : JFrame) (a : Addr) (pc : Nat) (vm1 : Vm) : Prop := ∀ (Q : Handler → Pre) (E : CtlPost) (d : Bool) (acts : List Action), wp (findHandler f a) Q E e d acts s ↔ Q (.found pc) d acts (s.setVm vm1)
theorem gx_step {r : List Frame} {pc : Nat} {vm1 : Vm} (hf : gx_Fd e s f a pc vm1) : (stepThrowing e s a (.java f :: r)).Is ((s.setVm vm1).setFrames (.java { f with pc := pc, stack := [.ref a] } :: r)) [] := by
  simp only [stepThrowing, searchFrame, vmDo]
  generalize hr : Sem.go _ e false [] s = res
  obtain ⟨as, rfl, ha⟩ := Sem.eq_ok_of hr (a := Handler.found pc) (s' := s.setVm vm1) (acts' := []) (by simp [hf _ _ _ _])
  exact ⟨rfl, ha⟩
end GXc
section GXd
variable {p : Program} {l : Launch} {e : Env} {R : Room} {s : State} {m : MethodId} {args : Array Value} {below : List Frame} {meth : Method} {c : Code} {T : State} {locs : List Loc} {cells slots : Nat}
theorem gx_caught (X : Stand p l e R s m args below meth c T locs cells slots) {q : Addr} {g : JFrame} (hg : g.method = m) {pc : Nat} {vm1 : Vm} (hW : s.WarmedH vm1) (hf : gx_Fd e ((T.setTop g).pushFrame (.throwing q)) g q pc vm1) {target : State}
    (hrest : Steps p.tables e below ((T.setVm vm1).setTop { g with pc := pc, stack := [.ref q] }) target) : Steps p.tables e below ((T.setTop g).pushFrame (.throwing q)) target := by
  have h : At T g.method c below := by rw [hg]; exact X.here
  obtain ⟨hgo, hw⟩ := h.throwing q
  refine Steps.head hgo hw ?_
  rw [stepThread_throwing (frames_entered h.top _), (gx_step (s := (T.setTop g).pushFrame (.throwing q)) hf).1]
  obtain ⟨g₀, hg0⟩ := Option.isSome_iff_exists.mp h.top
  obtain ⟨r, hr⟩ := State.topJava?_eq_some.mp hg0
  have hr' : (T.setVm vm1).frames = .java g₀ :: r := hr
  rw [State.setTop_of_frames _ hr'] at hrest
  have e1 : (((T.setTop g).pushFrame (.throwing q)).setVm vm1).setFrames (.java { g with pc := pc, stack := [.ref q] } :: T.frames.tail) = (T.setVm vm1).setFrames (.java { g with pc := pc, stack := [.ref q] } :: r) := by
    rw [State.pushFrame, State.setTop_of_frames _ hr, State.setFrames_setFrames, hr]
    show (((T.setFrames _).setVm vm1)).setFrames _ = _
    rw [show (T.setFrames (.throwing q :: (T.setFrames (.java g :: r)).frames)).setVm vm1 = (T.setVm vm1).setFrames (.throwing q :: (T.setFrames (.java g :: r)).frames) from rfl, State.setFrames_setFrames]
    rfl
  rw [e1]
  exact hrest
/-- the handlers of a table of one or two rows, each with a class -/
theorem gx_find1 (X : Stand p l e R s m args below meth c T locs cells slots) {own n1 E : String} {q : Addr} {g : JFrame} (hg : g.method = m) (hown : s.vm.findClass own = some m.cls) {x : ExceptionTableEntry} {suf : List ExceptionTableEntry} (htab : c.exceptionTable.toList = x :: suf) (hx : covers x g.pc = true) (h0 : x.catchType ≠ 0)
    (hl : (Cond.classLink own x.catchType n1).before args s = true) {ce : Cell} (hcell : T.heap[q]? = some ce) (hv : ce.vm = .none) (hcl : s.vm.findClass E = some ce.cls) (hcast : (Cond.castable E n1).before args s = true) :
    ∃ vm1, s.WarmedH vm1 ∧ gx_Fd e ((T.setTop g).pushFrame (.throwing q)) g q x.handlerPc vm1 := by
  subst hg
  have hpl : e.platform.magicAccessors = ({} : Platform).magicAccessors := by rw [X.admits.platform]
  obtain ⟨c3, c4, hc3, hc4, hasg⟩ := Cond.castable_spec hcast
  cases Option.some.inj (hc3.symm.trans hcl)
  obtain ⟨c5, hc5, hcl5⟩ := Cond.classLink_spec hown hl e.platform hpl
  cases Option.some.inj (hc4.symm.trans hc5)
  obtain ⟨hg1, hw1, -⟩ := State.classEntry (e := e) X.warmed hcl5
  obtain ⟨k1, hk1⟩ := Vm.classAt_of_findClass hcl
  obtain ⟨k2, hk2⟩ := Vm.classAt_of_findClass hc4
  obtain ⟨k1', hk1', -⟩ := hw1.alike.2.2 _ _ hk1
  obtain ⟨k2', hk2', -⟩ := hw1.alike.2.2 _ _ hk2
  refine ⟨_, hw1, fun Q E9 d acts => ?_⟩
  rw [W.findHandler_eq (s := (T.setTop g).pushFrame (.throwing q)) X.method' X.code, htab, gx_go1 (s := (T.setTop g).pushFrame (.throwing q)) (cell := ce) hx h0 hg1 hcell (fun k h => by rw [hv] at h; cases h) ⟨k1', hk1'⟩ ⟨k2', hk2'⟩ (Nat.le_of_eq (Vm.size_noted ..)), if_pos (by rw [hw1.alike.assignable]; exact hasg)]
theorem gx_find2 (X : Stand p l e R s m args below meth c T locs cells slots) {own n1 n2 E : String} {q : Addr} {g : JFrame} (hg : g.method = m) (hown : s.vm.findClass own = some m.cls) {x y : ExceptionTableEntry} {suf : List ExceptionTableEntry} (htab : c.exceptionTable.toList = x :: y :: suf) (hx : covers x g.pc = true) (h0 : x.catchType ≠ 0) (hy : covers y g.pc = true) (hy0 : y.catchType ≠ 0)
    (hl : (Cond.classLink own x.catchType n1).before args s = true) (hl2 : (Cond.classLink own y.catchType n2).before args s = true) {ce : Cell} (hcell : T.heap[q]? = some ce) (hv : ce.vm = .none) (hcl : s.vm.findClass E = some ce.cls) (hno : va_Nc E n1 s) (hcast : (Cond.castable E n2).before args s = true) :
    ∃ vm1, s.WarmedH vm1 ∧ gx_Fd e ((T.setTop g).pushFrame (.throwing q)) g q y.handlerPc vm1 := by
  subst hg
  have hpl : e.platform.magicAccessors = ({} : Platform).magicAccessors := by rw [X.admits.platform]
  obtain ⟨c3, c4, hc3, hc4, hasg⟩ := Cond.castable_spec hcast
  cases Option.some.inj (hc3.symm.trans hcl)
  obtain ⟨c5, hc5, hcl5⟩ := Cond.classLink_spec hown hl2 e.platform hpl
  cases Option.some.inj (hc4.symm.trans hc5)
  obtain ⟨c6, hc6, hcl6⟩ := Cond.classLink_spec hown hl e.platform hpl
  obtain ⟨a8, b8, g1, g2, g3⟩ := hno
  cases Option.some.inj (g1.symm.trans hcl)
  cases Option.some.inj (g2.symm.trans hc6)
  obtain ⟨hg1, hw1, -⟩ := State.classEntry (e := e) X.warmed hcl6
  obtain ⟨hg2, hw2, -⟩ := State.classEntry (e := e) hw1 hcl5
  obtain ⟨k1, hk1⟩ := Vm.classAt_of_findClass hcl
  obtain ⟨k2, hk2⟩ := Vm.classAt_of_findClass hc4
  obtain ⟨k3, hk3⟩ := Vm.classAt_of_findClass hc6
  obtain ⟨k1', hk1', -⟩ := hw1.alike.2.2 _ _ hk1
  obtain ⟨k3', hk3', -⟩ := hw1.alike.2.2 _ _ hk3
  obtain ⟨k1'', hk1'', -⟩ := hw2.alike.2.2 _ _ hk1
  obtain ⟨k2'', hk2'', -⟩ := hw2.alike.2.2 _ _ hk2
  refine ⟨_, hw2, fun Q E9 d acts => ?_⟩
  rw [W.findHandler_eq (s := (T.setTop g).pushFrame (.throwing q)) X.method' X.code, htab, gx_go1 (s := (T.setTop g).pushFrame (.throwing q)) (cell := ce) hx h0 hg1 hcell (fun k h => by rw [hv] at h; cases h) ⟨k1', hk1'⟩ ⟨k3', hk3'⟩ (Nat.le_of_eq (Vm.size_noted ..)), if_neg (by rw [hw1.alike.assignable, g3]; decide)]
  rw [gx_go1 (s := ((T.setTop g).pushFrame (.throwing q)).setVm (T.vm.noted g.method.cls x.catchType (.cls c6))) (cell := ce) hy hy0 hg2 hcell (fun k h => by rw [hv] at h; cases h) ⟨k1'', hk1''⟩ ⟨k2'', hk2''⟩ (Nat.le_of_eq (Vm.size_noted ..)), if_pos (by rw [hw2.alike.assignable]; exact hasg)]
  rfl
variable {y : MethodName} {bytes : ByteArray} {maxL : Nat} {ret : Option FieldType} {rm : Room} {Pc : Array Value → State → Prop} {Qc : Array Value → State → Outcome → State → Prop} {XC : String → Prop} {mc ms : Nat} {free : Addr → Prop}
/-- a callee that returns or throws, at the point of the call -/
theorem gx_xback (X : Stand p l e R s m args below meth c T locs cells slots) (hM : gx_XM l y [.code y bytes maxL ret] rm Pc Qc XC mc ms free) (hblind : FrameBlind Pc) (hrc : rm.cells = mc) (hrs : rm.slots = ms) (hfr : rm.frames + 1 ≤ R.frames) (hlo : 8 + (maxL + 11) + rm.locals ≤ R.locals)
    (hcode : ∀ a', (Cond.code y bytes maxL ret).before a' T = true) (hini : ∀ a', (Cond.initialized y.cls).before a' T = true) {g : JFrame} {mk : MethodId} {a : Array Value} (hg : g.method = m) (hsize : g.locals.size = c.maxLocals) {ig : Instr} (hdg : decode c.code g.pc = .ok (ig, 3)) (hW8 : 2 * g.monitorRoom + (g.stack.map fun v => v.category).sum ≤ 8) (hn : T.methodNamed? y = some mk) (hp : Pc a T) (hc : cells + mc ≤ R.cells) (hs : slots + ms ≤ R.slots) :
    (∃ (v : Option Value) (T' t : State) (L : List Loc), Stand p l e R s m args below meth c T' (locs ++ L) (cells + mc) (slots + ms) ∧ (∀ q ∈ L, free q.base) ∧ T'.heap = t.heap ∧ T'.vm = t.vm ∧ Qc a (T.calling g mk a) (.returned v) t ∧ Steps p.tables e below (doInvoke e (T.setTop g) [] mk a).1 (T'.setTop { g with pc := g.pc + 3, stack := v.toList ++ g.stack }))
    ∨ (∃ (q : Addr) (E : String) (ce : Cell) (T' : State), XC E ∧ Stand p l e R s m args below meth c T' locs (cells + 1) (slots + 6) ∧ T.sameButNew (T'.setVm T.vm) [] 1 6 ∧ T'.heap[q]? = some ce ∧ ce.vm = .none ∧ T.vm.findClass E = some ce.cls ∧ Steps p.tables e below (doInvoke e (T.setTop g) [] mk a).1 ((T'.setTop g).pushFrame (.throwing q))) := by
  obtain ⟨methY, cY, hmY, hcY, -, hlY, -⟩ := Cond.code_spec hn (hcode a)
  obtain ⟨kY, hkY, -⟩ := className_of_methodNamed hn
  have hinitY : kY.init = .initialized := Cond.initialized_spec (findClass_of_methodNamed hn) hkY (hini a)
  have h : At T g.method c below := by rw [hg]; exact X.here
  have happ : (headSpec [.code y bytes maxL ret] rm).appliesLoose y e.platform (T.calling g mk a) = true :=
    Spec.appliesLoose_calling (g := g) h hdg hn hkY hinitY
      (X.room_calling (g := g) (R' := rm) hsize hmY hcY hfr (by rw [hlY]; omega) (by rw [hrc]; exact hc) (by rw [hrs]; exact hs)) (atoms_intro fun w hw => by rw [List.mem_singleton] at hw; subst hw; exact hcode a)
  obtain ⟨mid, hmid⟩ := h.above
  have hfr2 : (T.setTop g).frames = (.java g :: mid) ++ below := by rw [State.frames_setTop' g h.top, hmid]; rfl
  obtain ⟨o, s₂, hsteps, -, hend, hq⟩ := Steps.callFree hM p X.admits X.cas X.clock (acts := []) hfr2 happ (hblind a T g mk hp) trivial
  have hq' : gx_XQ Qc XC mc ms free a (T.calling g mk a) o s₂ := hq
  rw [State.frames_setTop' g h.top] at hend
  rcases hq' with ⟨hQ, L, hfe, hL⟩ | ⟨q, E, ce, rfl, hXC, hce, hcv, hcl, hW2, hsame⟩
  · refine Or.inl ?_
    obtain ⟨⟨v, rfl⟩, hW₂, e2, q2, q3, q4, q5, q6⟩ := id hfe
    have e3 : s₂ = ({ (T.calling g mk a).setFrames s₂.frames with heap := s₂.heap, slotsUsed := s₂.slotsUsed } : State).setVm s₂.vm := by
      have : s₂ = ({ s₂ with vm := (T.calling g mk a).vm } : State).setVm s₂.vm := rfl
      rw [e2] at this
      exact this
    obtain ⟨c₂, i₂, len₂, hc₂, hd₂, hf₂⟩ := hend
    have hW' : T.WarmedH s₂.vm := hW₂
    have hcc : c₂ = c := by
      have h1 : s₂.code? g.method = T.code? g.method := by
        rw [State.code?_eq, State.code?_eq, hW'.alike.method?]
      exact Option.some.inj (hc₂.symm.trans (h1.trans h.code))
    subst hcc
    have hlen : len₂ = 3 := by rw [hdg] at hd₂; cases hd₂; rfl
    subst hlen
    obtain ⟨g₀, hg0⟩ := Option.isSome_iff_exists.mp h.top
    obtain ⟨r, hr⟩ := State.topJava?_eq_some.mp hg0
    have hs₂ : s₂ = (({ T with heap := s₂.heap, slotsUsed := s₂.slotsUsed } : State).setVm s₂.vm).setTop { g with pc := g.pc + 3, stack := v.toList ++ g.stack } := by
      have hr' : (({ T with heap := s₂.heap, slotsUsed := s₂.slotsUsed } : State).setVm s₂.vm).frames = .java g₀ :: r := hr
      refine e3.trans ?_
      rw [hf₂, State.calling_eq h.top, State.setFrames_setFrames, State.setTop_of_frames _ hr', hr]
      rfl
    have hsame : T.sameButNew ({ T with heap := s₂.heap, slotsUsed := s₂.slotsUsed } : State) L mc ms := by
      refine ⟨?_, q2, q3, q4, q5, q6⟩
      obtain ⟨t, ht, -⟩ := State.frames_cons hr
      show ({ T with heap := s₂.heap, slotsUsed := s₂.slotsUsed } : State) = { T.setFrames T.frames with heap := s₂.heap, slotsUsed := s₂.slotsUsed }
      rw [State.setFrames_self ht]
    subst hg
    refine ⟨v, (({ T with heap := s₂.heap, slotsUsed := s₂.slotsUsed } : State).setVm s₂.vm), s₂, L,
      ⟨X.admits, X.cas, X.clock, X.frames, X.room, X.hears, X.method, X.code, (X.here.setHeapUsed s₂.heap s₂.slotsUsed).setVm hW'.alike, X.tail, State.WarmedH.trans X.warmed hW', X.limits, X.bytes, X.same.trans (hsame.setVm s.vm)⟩, hL, rfl, rfl, hQ, ?_⟩
    rw [← hs₂]
    exact hsteps
  · refine Or.inr ?_
    have hfr3 : T.frames.tail = below := X.tail
    rw [hfr3] at hend
    obtain ⟨T', Y, hWT, hsm, ht⟩ := X.outOfThrown hg (mk := mk) (a := a) hend hW2 hsame
    rw [List.append_nil] at Y
    refine ⟨q, E, ce, T', hXC, Y, hsm, ?_, hcv, hcl, ?_⟩
    · rw [ht] at hce
      simpa [State.pushFrame, State.setFrames, State.setTop, State.modifyTopJava] using hce
    · rw [← ht]
      exact hsteps
end GXd
end
section
/-! FRAMED: calls that take the right half of the world; calls that may throw, caught by the caller -/
theorem gx_swap {D : va_G} {cl : List vw_C} {w1 w2 : va_W} {H : Heap} (h : va_P D cl (w1 ++ w2) H) : va_P D cl (w2 ++ w1) H := va_P.app (gx_right h) (gx_left h)
theorem gx_swapD {A : Nat → Prop} {w1 w2 : va_W} (h : va_D A (w1 ++ w2)) : va_D A (w2 ++ w1) := by
  refine va_D.app (gx_rightD h) (gx_leftD h) (fun i j p q hp hq hpq => ?_)
  have h1 : (w1 ++ w2)[w1.length + i]? = some p := by rw [List.getElem?_append_right (Nat.le_add_right _ _), Nat.add_sub_cancel_left]; exact hp
  have h2 : (w1 ++ w2)[j]? = some q := by rw [List.getElem?_append_left (List.getElem?_eq_some_iff.mp hq).1]; exact hq
  have h3 := h.1 _ _ p q h1 h2 hpq
  have h4 := (List.getElem?_eq_some_iff.mp hq).1
  omega
section GXf
variable {p : Program} {l : Launch} {e : Env} {R : Room} {s : State} {m : MethodId} {args : Array Value} {below : List Frame} {meth : Method} {c : Code} {H : Heap} {locs : List Loc} {cells slots : Nat} {Q : State → Prop}
variable {cc : ByteArray} {pc : Nat} {ls : Array Slot} {rest st0 : List Value} {D : va_G} {cl : List vw_C} {A : Nat → Prop} {wr wc : va_W} {H0 : Heap} {mc ms : Nat} {a : Array Value} {s0 : State}
theorem gx_fcalli {post : Int32 → va_W → Prop} (hr : va_Run p l e R s m args below meth c H locs cells slots mc ms (F0 m pc ls st0) rest (va_Qi post (gx_B D cl wc H.size) (va_A wc H.size) a) (va_A wc H.size)) (hP : va_P D cl (wr ++ wc) H) (hD : va_D A (wr ++ wc)) (hS : va_S A H0 H locs) (hA : ∀ q, H0.size ≤ q → A q)
    (kk : ∀ (r : Int32) (w1 : va_W) (H1 : Heap) (locs1 : List Loc), post r w1 → va_P D cl (wr ++ w1) H1 → va_D A (wr ++ w1) → va_S A H0 H1 locs1 → W p l e R s m args below meth c H1 locs1 (cells + mc) (slots + ms) Q (F0 m (pc + 3) ls (.int r :: rest))) : W p l e R s m args below meth c H locs cells slots Q (F0 m pc ls st0) :=
  va_calli hr hS (fun q _ h => gx_all (gx_rightD hD) hS hA q h) (gx_all (gx_rightD hD) hS hA) (fun r u t H1 locs1 ht hvm hp hB hz hk hS1 => by
    obtain ⟨j1, j2⟩ := gx_join hP hD hk (gx_all (gx_rightD hD) hS hA) (by rw [← ht]; exact hB.1) hB.2
    exact kk r u H1 locs1 hp j1 j2 hS1)
theorem gx_fcalll {post : Int64 → va_W → Prop} (hr : va_Run p l e R s m args below meth c H locs cells slots mc ms (F0 m pc ls st0) rest (va_Ql post (gx_B D cl wc H.size) (va_A wc H.size) a) (va_A wc H.size)) (hP : va_P D cl (wr ++ wc) H) (hD : va_D A (wr ++ wc)) (hS : va_S A H0 H locs) (hA : ∀ q, H0.size ≤ q → A q)
    (kk : ∀ (r : Int64) (w1 : va_W) (H1 : Heap) (locs1 : List Loc), post r w1 → va_P D cl (wr ++ w1) H1 → va_D A (wr ++ w1) → va_S A H0 H1 locs1 → W p l e R s m args below meth c H1 locs1 (cells + mc) (slots + ms) Q (F0 m (pc + 3) ls (.long r :: rest))) : W p l e R s m args below meth c H locs cells slots Q (F0 m pc ls st0) :=
  va_calll hr hS (fun q _ h => gx_all (gx_rightD hD) hS hA q h) (gx_all (gx_rightD hD) hS hA) (fun r u t H1 locs1 ht hvm hp hB hz hk hS1 => by
    obtain ⟨j1, j2⟩ := gx_join hP hD hk (gx_all (gx_rightD hD) hS hA) (by rw [← ht]; exact hB.1) hB.2
    exact kk r u H1 locs1 hp j1 j2 hS1)
theorem gx_fcallv {post : va_W → Prop} (hr : va_Run p l e R s m args below meth c H locs cells slots mc ms (F0 m pc ls st0) rest (va_Qv post (gx_B D cl wc H.size) (va_A wc H.size) a) (va_A wc H.size)) (hP : va_P D cl (wr ++ wc) H) (hD : va_D A (wr ++ wc)) (hS : va_S A H0 H locs) (hA : ∀ q, H0.size ≤ q → A q)
    (kk : ∀ (w1 : va_W) (H1 : Heap) (locs1 : List Loc), post w1 → va_P D cl (wr ++ w1) H1 → va_D A (wr ++ w1) → va_S A H0 H1 locs1 → W p l e R s m args below meth c H1 locs1 (cells + mc) (slots + ms) Q (F0 m (pc + 3) ls rest)) : W p l e R s m args below meth c H locs cells slots Q (F0 m pc ls st0) :=
  va_callv hr hS (fun q _ h => gx_all (gx_rightD hD) hS hA q h) (gx_all (gx_rightD hD) hS hA) (fun u t H1 locs1 ht hvm hp hB hz hk hS1 => by
    obtain ⟨j1, j2⟩ := gx_join hP hD hk (gx_all (gx_rightD hD) hS hA) (by rw [← ht]; exact hB.1) hB.2
    exact kk u H1 locs1 hp j1 j2 hS1)
end GXf
end
section
-- ===== PART A: goes FIRST, ahead of the names: the tables' words, and 'selects' of the private methods out of them =====
/-- a private method of a class that the tables say can be made, by its rows of tables_1 -/
def lw_okq (q : MethodName × Nat) : Prop := (q.1.cls ≠ "java/lang/invoke/MethodHandle" ∧ q.1.cls ≠ "java/lang/invoke/VarHandle") ∧ Cond.instantiable q.1.cls q.2 ∈ tables_1 ∧ Cond.privateMethod q.1 ∈ tables_1 ∧ Cond.instanceMethod q.1 ∈ tables_1
theorem lw_p0 : lw_okq (⟨"PortBills$TariffText", "takes", "(I)Z"⟩, 5) := ⟨⟨by decide +kernel, by decide +kernel⟩, List.mem_of_getElem? (i := 30) (by decide +kernel), List.mem_of_getElem? (i := 128) (by decide +kernel), List.mem_of_getElem? (i := 129) (by decide +kernel)⟩
theorem lw_p1 : lw_okq (⟨"PortBills$TariffText", "readRows", "()I"⟩, 5) := ⟨⟨by decide +kernel, by decide +kernel⟩, List.mem_of_getElem? (i := 30) (by decide +kernel), List.mem_of_getElem? (i := 136) (by decide +kernel), List.mem_of_getElem? (i := 137) (by decide +kernel)⟩
theorem lw_p2 : lw_okq (⟨"PortBills$TariffText", "readRow", "()Z"⟩, 5) := ⟨⟨by decide +kernel, by decide +kernel⟩, List.mem_of_getElem? (i := 30) (by decide +kernel), List.mem_of_getElem? (i := 140) (by decide +kernel), List.mem_of_getElem? (i := 141) (by decide +kernel)⟩
theorem lw_p3 : lw_okq (⟨"PortBills$TariffText", "next", "()C"⟩, 5) := ⟨⟨by decide +kernel, by decide +kernel⟩, List.mem_of_getElem? (i := 30) (by decide +kernel), List.mem_of_getElem? (i := 144) (by decide +kernel), List.mem_of_getElem? (i := 145) (by decide +kernel)⟩
theorem lw_p4 : lw_okq (⟨"PortBills$TariffText", "readNumber", "([III)Z"⟩, 5) := ⟨⟨by decide +kernel, by decide +kernel⟩, List.mem_of_getElem? (i := 30) (by decide +kernel), List.mem_of_getElem? (i := 151) (by decide +kernel), List.mem_of_getElem? (i := 152) (by decide +kernel)⟩
theorem lw_p5 : lw_okq (⟨"PortBills$TariffText", "passes", "(C)Z"⟩, 5) := ⟨⟨by decide +kernel, by decide +kernel⟩, List.mem_of_getElem? (i := 30) (by decide +kernel), List.mem_of_getElem? (i := 158) (by decide +kernel), List.mem_of_getElem? (i := 159) (by decide +kernel)⟩
theorem lw_p6 : lw_okq (⟨"PortBills", "takeOverTariffs", "()V"⟩, 11) := ⟨⟨by decide +kernel, by decide +kernel⟩, List.mem_of_getElem? (i := 22) (by decide +kernel), List.mem_of_getElem? (i := 162) (by decide +kernel), List.mem_of_getElem? (i := 163) (by decide +kernel)⟩
theorem lw_p7 : lw_okq (⟨"PortBills$TariffText", "clear", "()V"⟩, 5) := ⟨⟨by decide +kernel, by decide +kernel⟩, List.mem_of_getElem? (i := 30) (by decide +kernel), List.mem_of_getElem? (i := 169) (by decide +kernel), List.mem_of_getElem? (i := 170) (by decide +kernel)⟩
theorem lw_p8 : lw_okq (⟨"PortBills", "linesOf", "(I)I"⟩, 11) := ⟨⟨by decide +kernel, by decide +kernel⟩, List.mem_of_getElem? (i := 22) (by decide +kernel), List.mem_of_getElem? (i := 185) (by decide +kernel), List.mem_of_getElem? (i := 186) (by decide +kernel)⟩
theorem lw_p9 : lw_okq (⟨"java/lang/Throwable", "fillInStackTrace", "(I)Ljava/lang/Throwable;"⟩, 6) := ⟨⟨by decide +kernel, by decide +kernel⟩, List.mem_of_getElem? (i := 255) (by decide +kernel), List.mem_of_getElem? (i := 253) (by decide +kernel), List.mem_of_getElem? (i := 254) (by decide +kernel)⟩
theorem lw_p10 : lw_okq (⟨"PortBills", "hasTariff", "(I)Z"⟩, 11) := ⟨⟨by decide +kernel, by decide +kernel⟩, List.mem_of_getElem? (i := 22) (by decide +kernel), List.mem_of_getElem? (i := 285) (by decide +kernel), List.mem_of_getElem? (i := 286) (by decide +kernel)⟩
theorem lw_p11 : lw_okq (⟨"PortBills", "kindsThatWait", "(I)I"⟩, 11) := ⟨⟨by decide +kernel, by decide +kernel⟩, List.mem_of_getElem? (i := 22) (by decide +kernel), List.mem_of_getElem? (i := 331) (by decide +kernel), List.mem_of_getElem? (i := 332) (by decide +kernel)⟩
theorem lw_p12 : lw_okq (⟨"PortBills", "billedLine", "(II)LPortBills$Line;"⟩, 11) := ⟨⟨by decide +kernel, by decide +kernel⟩, List.mem_of_getElem? (i := 22) (by decide +kernel), List.mem_of_getElem? (i := 336) (by decide +kernel), List.mem_of_getElem? (i := 337) (by decide +kernel)⟩
theorem lw_p13 : lw_okq (⟨"PortBills", "centsFor", "(III)J"⟩, 11) := ⟨⟨by decide +kernel, by decide +kernel⟩, List.mem_of_getElem? (i := 22) (by decide +kernel), List.mem_of_getElem? (i := 344) (by decide +kernel), List.mem_of_getElem? (i := 345) (by decide +kernel)⟩
theorem lw_p14 : lw_okq (⟨"java/util/ArrayList", "add", "(Ljava/lang/Object;[Ljava/lang/Object;I)V"⟩, 3) := ⟨⟨by decide +kernel, by decide +kernel⟩, List.mem_of_getElem? (i := 60) (by decide +kernel), List.mem_of_getElem? (i := 397) (by decide +kernel), List.mem_of_getElem? (i := 398) (by decide +kernel)⟩
theorem lw_p15 : lw_okq (⟨"java/util/ArrayList", "grow", "()[Ljava/lang/Object;"⟩, 3) := ⟨⟨by decide +kernel, by decide +kernel⟩, List.mem_of_getElem? (i := 60) (by decide +kernel), List.mem_of_getElem? (i := 401) (by decide +kernel), List.mem_of_getElem? (i := 402) (by decide +kernel)⟩
def lw_privs_1 : List (MethodName × Nat) := [(⟨"PortBills$TariffText", "takes", "(I)Z"⟩, 5), (⟨"PortBills$TariffText", "readRows", "()I"⟩, 5), (⟨"PortBills$TariffText", "readRow", "()Z"⟩, 5), (⟨"PortBills$TariffText", "next", "()C"⟩, 5), (⟨"PortBills$TariffText", "readNumber", "([III)Z"⟩, 5), (⟨"PortBills$TariffText", "passes", "(C)Z"⟩, 5), (⟨"PortBills", "takeOverTariffs", "()V"⟩, 11), (⟨"PortBills$TariffText", "clear", "()V"⟩, 5), (⟨"PortBills", "linesOf", "(I)I"⟩, 11), (⟨"java/lang/Throwable", "fillInStackTrace", "(I)Ljava/lang/Throwable;"⟩, 6), (⟨"PortBills", "hasTariff", "(I)Z"⟩, 11), (⟨"PortBills", "kindsThatWait", "(I)I"⟩, 11), (⟨"PortBills", "billedLine", "(II)LPortBills$Line;"⟩, 11), (⟨"PortBills", "centsFor", "(III)J"⟩, 11), (⟨"java/util/ArrayList", "add", "(Ljava/lang/Object;[Ljava/lang/Object;I)V"⟩, 3), (⟨"java/util/ArrayList", "grow", "()[Ljava/lang/Object;"⟩, 3)]
theorem lw_r1 : ∀ q ∈ lw_privs_1, lw_okq q := List.forall_mem_cons.mpr ⟨lw_p0, List.forall_mem_cons.mpr ⟨lw_p1, List.forall_mem_cons.mpr ⟨lw_p2, List.forall_mem_cons.mpr ⟨lw_p3, List.forall_mem_cons.mpr ⟨lw_p4, List.forall_mem_cons.mpr ⟨lw_p5, List.forall_mem_cons.mpr ⟨lw_p6, List.forall_mem_cons.mpr ⟨lw_p7, List.forall_mem_cons.mpr ⟨lw_p8, List.forall_mem_cons.mpr ⟨lw_p9, List.forall_mem_cons.mpr ⟨lw_p10, List.forall_mem_cons.mpr ⟨lw_p11, List.forall_mem_cons.mpr ⟨lw_p12, List.forall_mem_cons.mpr ⟨lw_p13, List.forall_mem_cons.mpr ⟨lw_p14, List.forall_mem_cons.mpr ⟨lw_p15, fun _ h => absurd h List.not_mem_nil⟩⟩⟩⟩⟩⟩⟩⟩⟩⟩⟩⟩⟩⟩⟩⟩
theorem lw_p16 : lw_okq (⟨"java/util/ArrayList", "grow", "(I)[Ljava/lang/Object;"⟩, 3) := ⟨⟨by decide +kernel, by decide +kernel⟩, List.mem_of_getElem? (i := 60) (by decide +kernel), List.mem_of_getElem? (i := 405) (by decide +kernel), List.mem_of_getElem? (i := 406) (by decide +kernel)⟩
theorem lw_p17 : lw_okq (⟨"PortBills", "forgetEvents", "(I)V"⟩, 11) := ⟨⟨by decide +kernel, by decide +kernel⟩, List.mem_of_getElem? (i := 22) (by decide +kernel), List.mem_of_getElem? (i := 445) (by decide +kernel), List.mem_of_getElem? (i := 446) (by decide +kernel)⟩
theorem lw_p18 : lw_okq (⟨"PortBills", "isLine", "(I)Z"⟩, 11) := ⟨⟨by decide +kernel, by decide +kernel⟩, List.mem_of_getElem? (i := 22) (by decide +kernel), List.mem_of_getElem? (i := 456) (by decide +kernel), List.mem_of_getElem? (i := 457) (by decide +kernel)⟩
theorem lw_p19 : lw_okq (⟨"PortBills$Line", "isCorrection", "()Z"⟩, 9) := ⟨⟨by decide +kernel, by decide +kernel⟩, List.mem_of_getElem? (i := 342) (by decide +kernel), List.mem_of_getElem? (i := 463) (by decide +kernel), List.mem_of_getElem? (i := 464) (by decide +kernel)⟩
theorem lw_p20 : lw_okq (⟨"PortBills", "owedNow", "(I)J"⟩, 11) := ⟨⟨by decide +kernel, by decide +kernel⟩, List.mem_of_getElem? (i := 22) (by decide +kernel), List.mem_of_getElem? (i := 483) (by decide +kernel), List.mem_of_getElem? (i := 484) (by decide +kernel)⟩
theorem lw_p21 : lw_okq (⟨"PortBills$Line", "part", "(I)J"⟩, 9) := ⟨⟨by decide +kernel, by decide +kernel⟩, List.mem_of_getElem? (i := 342) (by decide +kernel), List.mem_of_getElem? (i := 547) (by decide +kernel), List.mem_of_getElem? (i := 548) (by decide +kernel)⟩
theorem lw_p22 : lw_okq (⟨"PortBillsModel", "fails", "(I)I"⟩, 23) := ⟨⟨by decide +kernel, by decide +kernel⟩, List.mem_of_getElem? (i := 551) (by decide +kernel), List.mem_of_getElem? (i := 660) (by decide +kernel), List.mem_of_getElem? (i := 661) (by decide +kernel)⟩
theorem lw_p23 : lw_okq (⟨"PortBillsModel", "unitsOf", "(II)I"⟩, 23) := ⟨⟨by decide +kernel, by decide +kernel⟩, List.mem_of_getElem? (i := 551) (by decide +kernel), List.mem_of_getElem? (i := 684) (by decide +kernel), List.mem_of_getElem? (i := 685) (by decide +kernel)⟩
theorem lw_p24 : lw_okq (⟨"PortBillsModel", "billKind", "(II)V"⟩, 23) := ⟨⟨by decide +kernel, by decide +kernel⟩, List.mem_of_getElem? (i := 551) (by decide +kernel), List.mem_of_getElem? (i := 688) (by decide +kernel), List.mem_of_getElem? (i := 689) (by decide +kernel)⟩
theorem lw_p25 : lw_okq (⟨"PortBillsModel", "newLine", "(IIIIJI)V"⟩, 23) := ⟨⟨by decide +kernel, by decide +kernel⟩, List.mem_of_getElem? (i := 551) (by decide +kernel), List.mem_of_getElem? (i := 693) (by decide +kernel), List.mem_of_getElem? (i := 694) (by decide +kernel)⟩
theorem lw_p26 : lw_okq (⟨"PortBillsModel", "takeEvents", "(I)V"⟩, 23) := ⟨⟨by decide +kernel, by decide +kernel⟩, List.mem_of_getElem? (i := 551) (by decide +kernel), List.mem_of_getElem? (i := 697) (by decide +kernel), List.mem_of_getElem? (i := 698) (by decide +kernel)⟩
theorem lw_p27 : lw_okq (⟨"PortBillsModel", "isLine", "(I)Z"⟩, 23) := ⟨⟨by decide +kernel, by decide +kernel⟩, List.mem_of_getElem? (i := 551) (by decide +kernel), List.mem_of_getElem? (i := 705) (by decide +kernel), List.mem_of_getElem? (i := 706) (by decide +kernel)⟩
theorem lw_p28 : lw_okq (⟨"PortBillsModel", "whole", "(I)J"⟩, 23) := ⟨⟨by decide +kernel, by decide +kernel⟩, List.mem_of_getElem? (i := 551) (by decide +kernel), List.mem_of_getElem? (i := 710) (by decide +kernel), List.mem_of_getElem? (i := 711) (by decide +kernel)⟩
theorem lw_p29 : lw_okq (⟨"PortBillsModel", "left", "(I)J"⟩, 23) := ⟨⟨by decide +kernel, by decide +kernel⟩, List.mem_of_getElem? (i := 551) (by decide +kernel), List.mem_of_getElem? (i := 722) (by decide +kernel), List.mem_of_getElem? (i := 723) (by decide +kernel)⟩
theorem lw_p30 : lw_okq (⟨"PortBillsModel", "isOut", "(I)Z"⟩, 23) := ⟨⟨by decide +kernel, by decide +kernel⟩, List.mem_of_getElem? (i := 551) (by decide +kernel), List.mem_of_getElem? (i := 726) (by decide +kernel), List.mem_of_getElem? (i := 727) (by decide +kernel)⟩
def lw_privs_2 : List (MethodName × Nat) := [(⟨"java/util/ArrayList", "grow", "(I)[Ljava/lang/Object;"⟩, 3), (⟨"PortBills", "forgetEvents", "(I)V"⟩, 11), (⟨"PortBills", "isLine", "(I)Z"⟩, 11), (⟨"PortBills$Line", "isCorrection", "()Z"⟩, 9), (⟨"PortBills", "owedNow", "(I)J"⟩, 11), (⟨"PortBills$Line", "part", "(I)J"⟩, 9), (⟨"PortBillsModel", "fails", "(I)I"⟩, 23), (⟨"PortBillsModel", "unitsOf", "(II)I"⟩, 23), (⟨"PortBillsModel", "billKind", "(II)V"⟩, 23), (⟨"PortBillsModel", "newLine", "(IIIIJI)V"⟩, 23), (⟨"PortBillsModel", "takeEvents", "(I)V"⟩, 23), (⟨"PortBillsModel", "isLine", "(I)Z"⟩, 23), (⟨"PortBillsModel", "whole", "(I)J"⟩, 23), (⟨"PortBillsModel", "left", "(I)J"⟩, 23), (⟨"PortBillsModel", "isOut", "(I)Z"⟩, 23)]
theorem lw_r2 : ∀ q ∈ lw_privs_2, lw_okq q := List.forall_mem_cons.mpr ⟨lw_p16, List.forall_mem_cons.mpr ⟨lw_p17, List.forall_mem_cons.mpr ⟨lw_p18, List.forall_mem_cons.mpr ⟨lw_p19, List.forall_mem_cons.mpr ⟨lw_p20, List.forall_mem_cons.mpr ⟨lw_p21, List.forall_mem_cons.mpr ⟨lw_p22, List.forall_mem_cons.mpr ⟨lw_p23, List.forall_mem_cons.mpr ⟨lw_p24, List.forall_mem_cons.mpr ⟨lw_p25, List.forall_mem_cons.mpr ⟨lw_p26, List.forall_mem_cons.mpr ⟨lw_p27, List.forall_mem_cons.mpr ⟨lw_p28, List.forall_mem_cons.mpr ⟨lw_p29, List.forall_mem_cons.mpr ⟨lw_p30, fun _ h => absurd h List.not_mem_nil⟩⟩⟩⟩⟩⟩⟩⟩⟩⟩⟩⟩⟩⟩⟩
def lw_privs : List (MethodName × Nat) := lw_privs_1 ++ (lw_privs_2)
def lw_tbl : List Cond := k2_sels lw_privs ++ tables_1
theorem lw_privs_ok : ∀ q ∈ lw_privs, lw_okq q := by
  show ∀ q ∈ lw_privs_1 ++ (lw_privs_2), lw_okq q
  exact List.forall_mem_append.mpr ⟨lw_r1, lw_r2⟩

def R_PB : String := "PortBills"
def F_PB : u_T := fun k => match k with
  | 0 => ("PortBills", "text", "LPortBills$TariffText;", true)
  | 1 => ("PortBills", "tariffs", "[[I", true)
  | 2 => ("PortBills", "kindsWithTariff", "I", false)
  | 3 => ("PortBills", "waitingUnits", "[[I", true)
  | 4 => ("PortBills", "waitingEvents", "[I", true)
  | 5 => ("PortBills", "waitingInAll", "I", false)
  | 6 => ("PortBills", "discounts", "[[I", true)
  | 7 => ("PortBills", "kept", "[[I", true)
  | 8 => ("PortBills", "keptOf", "[[I", true)
  | 9 => ("PortBills", "lines", "Ljava/util/ArrayList;", true)
  | _ => ("PortBills", "paid", "[J", true)
def t_PB : Nat → FieldType := fun k => match k with
  | 0 => .object "PortBills$TariffText"
  | 1 => .array (.array .int)
  | 2 => .int
  | 3 => .array (.array .int)
  | 4 => .array .int
  | 5 => .int
  | 6 => .array (.array .int)
  | 7 => .array (.array .int)
  | 8 => .array (.array .int)
  | 9 => .object "java/util/ArrayList"
  | _ => .array .long
theorem n_PB : ∀ a, a < 11 → ∀ b, b < 11 → a ≠ b → (F_PB a).2.1 ≠ (F_PB b).2.1 := by decide +kernel
theorem t_PB_ok : ∀ k, k < 11 → parseFieldDescriptor (F_PB k).2.2.1 = some (t_PB k) := by decide +kernel
def R_TT : String := "PortBills$TariffText"
def F_TT : u_T := fun k => match k with
  | 0 => ("PortBills$TariffText", "signs", "[C", true)
  | 1 => ("PortBills$TariffText", "length", "I", false)
  | 2 => ("PortBills$TariffText", "at", "I", false)
  | 3 => ("PortBills$TariffText", "rows", "[[I", true)
  | _ => ("PortBills$TariffText", "kinds", "I", false)
def t_TT : Nat → FieldType := fun k => match k with
  | 0 => .array .char
  | 1 => .int
  | 2 => .int
  | 3 => .array (.array .int)
  | _ => .int
theorem n_TT : ∀ a, a < 5 → ∀ b, b < 5 → a ≠ b → (F_TT a).2.1 ≠ (F_TT b).2.1 := by decide +kernel
theorem t_TT_ok : ∀ k, k < 5 → parseFieldDescriptor (F_TT k).2.2.1 = some (t_TT k) := by decide +kernel
def R_LN : String := "PortBills$Line"
def F_LN : u_T := fun k => match k with
  | 0 => ("PortBills$Line", "call", "I", true)
  | 1 => ("PortBills$Line", "kind", "I", true)
  | 2 => ("PortBills$Line", "units", "I", true)
  | 3 => ("PortBills$Line", "charged", "I", true)
  | 4 => ("PortBills$Line", "cents", "J", true)
  | 5 => ("PortBills$Line", "corrects", "I", true)
  | 6 => ("PortBills$Line", "byFallback", "Z", true)
  | 7 => ("PortBills$Line", "disputed", "Z", false)
  | _ => ("PortBills$Line", "corrected", "J", false)
def t_LN : Nat → FieldType := fun k => match k with
  | 0 => .int
  | 1 => .int
  | 2 => .int
  | 3 => .int
  | 4 => .long
  | 5 => .int
  | 6 => .boolean
  | 7 => .boolean
  | _ => .long
theorem n_LN : ∀ a, a < 9 → ∀ b, b < 9 → a ≠ b → (F_LN a).2.1 ≠ (F_LN b).2.1 := by decide +kernel
theorem t_LN_ok : ∀ k, k < 9 → parseFieldDescriptor (F_LN k).2.2.1 = some (t_LN k) := by decide +kernel
def R_AL : String := "java/util/ArrayList"
def F_AL : u_T := fun k => match k with
  | 0 => ("java/util/AbstractList", "modCount", "I", false)
  | 1 => ("java/util/ArrayList", "elementData", "[Ljava/lang/Object;", false)
  | _ => ("java/util/ArrayList", "size", "I", false)
def t_AL : Nat → FieldType := fun k => match k with
  | 0 => .int
  | 1 => .array (.object "java/lang/Object")
  | _ => .int
theorem n_AL : ∀ a, a < 3 → ∀ b, b < 3 → a ≠ b → (F_AL a).2.1 ≠ (F_AL b).2.1 := by decide +kernel
theorem t_AL_ok : ∀ k, k < 3 → parseFieldDescriptor (F_AL k).2.2.1 = some (t_AL k) := by decide +kernel
def R_MD : String := "PortBillsModel"
def F_MD : u_T := fun k => match k with
  | 0 => ("PortBillsModel", "thrown", "I", false)
  | 1 => ("PortBillsModel", "text", "[I", true)
  | 2 => ("PortBillsModel", "signs", "I", false)
  | 3 => ("PortBillsModel", "tariffs", "I", false)
  | 4 => ("PortBillsModel", "told", "[I", true)
  | 5 => ("PortBillsModel", "newTariffs", "I", false)
  | 6 => ("PortBillsModel", "waiting", "I", false)
  | 7 => ("PortBillsModel", "eventCall", "[I", true)
  | 8 => ("PortBillsModel", "eventKind", "[I", true)
  | 9 => ("PortBillsModel", "eventUnits", "[I", true)
  | 10 => ("PortBillsModel", "discounts", "[I", true)
  | 11 => ("PortBillsModel", "discountUp", "[I", true)
  | 12 => ("PortBillsModel", "discountDown", "[I", true)
  | 13 => ("PortBillsModel", "lines", "I", false)
  | 14 => ("PortBillsModel", "lineCall", "[I", true)
  | 15 => ("PortBillsModel", "lineKind", "[I", true)
  | 16 => ("PortBillsModel", "lineUnits", "[I", true)
  | 17 => ("PortBillsModel", "lineCharged", "[I", true)
  | 18 => ("PortBillsModel", "lineCents", "[J", true)
  | 19 => ("PortBillsModel", "corrects", "[I", true)
  | 20 => ("PortBillsModel", "isDisputed", "[Z", true)
  | 21 => ("PortBillsModel", "isFallback", "[Z", true)
  | _ => ("PortBillsModel", "paid", "[J", true)
def t_MD : Nat → FieldType := fun k => match k with
  | 0 => .int
  | 1 => .array .int
  | 2 => .int
  | 3 => .int
  | 4 => .array .int
  | 5 => .int
  | 6 => .int
  | 7 => .array .int
  | 8 => .array .int
  | 9 => .array .int
  | 10 => .array .int
  | 11 => .array .int
  | 12 => .array .int
  | 13 => .int
  | 14 => .array .int
  | 15 => .array .int
  | 16 => .array .int
  | 17 => .array .int
  | 18 => .array .long
  | 19 => .array .int
  | 20 => .array .boolean
  | 21 => .array .boolean
  | _ => .array .long
theorem n_MD : ∀ a, a < 23 → ∀ b, b < 23 → a ≠ b → (F_MD a).2.1 ≠ (F_MD b).2.1 := by decide +kernel
theorem t_MD_ok : ∀ k, k < 23 → parseFieldDescriptor (F_MD k).2.2.1 = some (t_MD k) := by decide +kernel
def classes : List vw_C := [(R_PB, F_PB, 11), (R_TT, F_TT, 5), (R_LN, F_LN, 9), (R_AL, F_AL, 3), (R_MD, F_MD, 23)]
abbrev iPB : Nat := 0
abbrev iTT : Nat := 1
abbrev iLN : Nat := 2
abbrev iAL : Nat := 3
abbrev iMD : Nat := 4
abbrev b_PB_init : ByteArray := prog_1_method_1_code
abbrev y_PB_init : MethodName := ⟨"PortBills", "<init>", "()V"⟩
abbrev b_PB_sign : ByteArray := prog_1_method_2_code
abbrev y_PB_sign : MethodName := ⟨"PortBills", "sign", "(I)Z"⟩
abbrev b_PB_read : ByteArray := prog_1_method_3_code
abbrev y_PB_read : MethodName := ⟨"PortBills", "read", "()I"⟩
abbrev b_PB_tariff : ByteArray := prog_1_method_4_code
abbrev y_PB_tariff : MethodName := ⟨"PortBills", "tariff", "(II)I"⟩
abbrev b_PB_event : ByteArray := prog_1_method_5_code
abbrev y_PB_event : MethodName := ⟨"PortBills", "event", "(III)I"⟩
abbrev b_PB_discount : ByteArray := prog_1_method_6_code
abbrev y_PB_discount : MethodName := ⟨"PortBills", "discount", "(IIII)Z"⟩
abbrev b_PB_bill : ByteArray := prog_1_method_7_code
abbrev y_PB_bill : MethodName := ⟨"PortBills", "bill", "(I)I"⟩
abbrev b_PB_correct : ByteArray := prog_1_method_8_code
abbrev y_PB_correct : MethodName := ⟨"PortBills", "correct", "(IJ)I"⟩
abbrev b_PB_dispute : ByteArray := prog_1_method_9_code
abbrev y_PB_dispute : MethodName := ⟨"PortBills", "dispute", "(IZ)I"⟩
abbrev b_PB_pay : ByteArray := prog_1_method_10_code
abbrev y_PB_pay : MethodName := ⟨"PortBills", "pay", "(IJ)J"⟩
abbrev b_PB_unpaid : ByteArray := prog_1_method_11_code
abbrev y_PB_unpaid : MethodName := ⟨"PortBills", "unpaid", "(I)J"⟩
abbrev b_PB_share : ByteArray := prog_1_method_12_code
abbrev y_PB_share : MethodName := ⟨"PortBills", "share", "(JII)J"⟩
abbrev b_PB_line : ByteArray := prog_1_method_13_code
abbrev y_PB_line : MethodName := ⟨"PortBills", "line", "(II)J"⟩
abbrev b_PB_count : ByteArray := prog_1_method_14_code
abbrev y_PB_count : MethodName := ⟨"PortBills", "count", "(I)I"⟩
abbrev b_PB_isCall : ByteArray := prog_1_method_15_code
abbrev y_PB_isCall : MethodName := ⟨"PortBills", "isCall", "(I)Z"⟩
abbrev b_PB_isKind : ByteArray := prog_1_method_16_code
abbrev y_PB_isKind : MethodName := ⟨"PortBills", "isKind", "(I)Z"⟩
abbrev b_PB_isKey : ByteArray := prog_1_method_17_code
abbrev y_PB_isKey : MethodName := ⟨"PortBills", "isKey", "(I)Z"⟩
abbrev b_PB_isLine : ByteArray := prog_1_method_18_code
abbrev y_PB_isLine : MethodName := ⟨"PortBills", "isLine", "(I)Z"⟩
abbrev b_PB_hasTariff : ByteArray := prog_1_method_19_code
abbrev y_PB_hasTariff : MethodName := ⟨"PortBills", "hasTariff", "(I)Z"⟩
abbrev b_PB_takeOverTariffs : ByteArray := prog_1_method_20_code
abbrev y_PB_takeOverTariffs : MethodName := ⟨"PortBills", "takeOverTariffs", "()V"⟩
abbrev b_PB_kindsThatWait : ByteArray := prog_1_method_21_code
abbrev y_PB_kindsThatWait : MethodName := ⟨"PortBills", "kindsThatWait", "(I)I"⟩
abbrev b_PB_forgetEvents : ByteArray := prog_1_method_22_code
abbrev y_PB_forgetEvents : MethodName := ⟨"PortBills", "forgetEvents", "(I)V"⟩
abbrev b_PB_billedLine : ByteArray := prog_1_method_23_code
abbrev y_PB_billedLine : MethodName := ⟨"PortBills", "billedLine", "(II)LPortBills$Line;"⟩
abbrev b_PB_centsFor : ByteArray := prog_1_method_24_code
abbrev y_PB_centsFor : MethodName := ⟨"PortBills", "centsFor", "(III)J"⟩
abbrev b_PB_owedNow : ByteArray := prog_1_method_25_code
abbrev y_PB_owedNow : MethodName := ⟨"PortBills", "owedNow", "(I)J"⟩
abbrev b_PB_linesOf : ByteArray := prog_1_method_26_code
abbrev y_PB_linesOf : MethodName := ⟨"PortBills", "linesOf", "(I)I"⟩
abbrev b_PB_begunUnits : ByteArray := prog_1_method_27_code
abbrev y_PB_begunUnits : MethodName := ⟨"PortBills", "begunUnits", "(II)I"⟩
abbrev b_PB_roundedHalfUp : ByteArray := prog_1_method_28_code
abbrev y_PB_roundedHalfUp : MethodName := ⟨"PortBills", "roundedHalfUp", "(JJ)J"⟩
abbrev b_PB_quotient : ByteArray := prog_1_method_29_code
abbrev y_PB_quotient : MethodName := ⟨"PortBills", "quotient", "(JJ)J"⟩
abbrev b_MD_init : ByteArray := prog_5_method_1_code
abbrev y_MD_init : MethodName := ⟨"PortBillsModel", "<init>", "()V"⟩
abbrev b_MD_thrown : ByteArray := prog_5_method_2_code
abbrev y_MD_thrown : MethodName := ⟨"PortBillsModel", "thrown", "()I"⟩
abbrev b_MD_fails : ByteArray := prog_5_method_3_code
abbrev y_MD_fails : MethodName := ⟨"PortBillsModel", "fails", "(I)I"⟩
abbrev b_MD_in : ByteArray := prog_5_method_4_code
abbrev y_MD_in : MethodName := ⟨"PortBillsModel", "in", "(JJJ)Z"⟩
abbrev b_MD_isCall : ByteArray := prog_5_method_5_code
abbrev y_MD_isCall : MethodName := ⟨"PortBillsModel", "isCall", "(I)Z"⟩
abbrev b_MD_isKind : ByteArray := prog_5_method_6_code
abbrev y_MD_isKind : MethodName := ⟨"PortBillsModel", "isKind", "(I)Z"⟩
abbrev b_MD_unitOf : ByteArray := prog_5_method_7_code
abbrev y_MD_unitOf : MethodName := ⟨"PortBillsModel", "unitOf", "(I)I"⟩
abbrev b_MD_sign : ByteArray := prog_5_method_8_code
abbrev y_MD_sign : MethodName := ⟨"PortBillsModel", "sign", "(I)Z"⟩
abbrev b_MD_begins : ByteArray := prog_5_method_9_code
abbrev y_MD_begins : MethodName := ⟨"PortBillsModel", "begins", "(I)I"⟩
abbrev b_MD_read : ByteArray := prog_5_method_10_code
abbrev y_MD_read : MethodName := ⟨"PortBillsModel", "read", "()I"⟩
abbrev b_MD_tariff : ByteArray := prog_5_method_11_code
abbrev y_MD_tariff : MethodName := ⟨"PortBillsModel", "tariff", "(II)I"⟩
abbrev b_MD_event : ByteArray := prog_5_method_12_code
abbrev y_MD_event : MethodName := ⟨"PortBillsModel", "event", "(III)I"⟩
abbrev b_MD_discount : ByteArray := prog_5_method_13_code
abbrev y_MD_discount : MethodName := ⟨"PortBillsModel", "discount", "(IIII)Z"⟩
abbrev b_MD_unitsOf : ByteArray := prog_5_method_14_code
abbrev y_MD_unitsOf : MethodName := ⟨"PortBillsModel", "unitsOf", "(II)I"⟩
abbrev b_MD_newLine : ByteArray := prog_5_method_15_code
abbrev y_MD_newLine : MethodName := ⟨"PortBillsModel", "newLine", "(IIIIJI)V"⟩
abbrev b_MD_billKind : ByteArray := prog_5_method_16_code
abbrev y_MD_billKind : MethodName := ⟨"PortBillsModel", "billKind", "(II)V"⟩
abbrev b_MD_takeEvents : ByteArray := prog_5_method_17_code
abbrev y_MD_takeEvents : MethodName := ⟨"PortBillsModel", "takeEvents", "(I)V"⟩
abbrev b_MD_bill : ByteArray := prog_5_method_18_code
abbrev y_MD_bill : MethodName := ⟨"PortBillsModel", "bill", "(I)I"⟩
abbrev b_MD_isLine : ByteArray := prog_5_method_19_code
abbrev y_MD_isLine : MethodName := ⟨"PortBillsModel", "isLine", "(I)Z"⟩
abbrev b_MD_whole : ByteArray := prog_5_method_20_code
abbrev y_MD_whole : MethodName := ⟨"PortBillsModel", "whole", "(I)J"⟩
abbrev b_MD_correct : ByteArray := prog_5_method_21_code
abbrev y_MD_correct : MethodName := ⟨"PortBillsModel", "correct", "(IJ)I"⟩
abbrev b_MD_dispute : ByteArray := prog_5_method_22_code
abbrev y_MD_dispute : MethodName := ⟨"PortBillsModel", "dispute", "(IZ)I"⟩
abbrev b_MD_isOut : ByteArray := prog_5_method_23_code
abbrev y_MD_isOut : MethodName := ⟨"PortBillsModel", "isOut", "(I)Z"⟩
abbrev b_MD_left : ByteArray := prog_5_method_24_code
abbrev y_MD_left : MethodName := ⟨"PortBillsModel", "left", "(I)J"⟩
abbrev b_MD_pay : ByteArray := prog_5_method_25_code
abbrev y_MD_pay : MethodName := ⟨"PortBillsModel", "pay", "(IJ)J"⟩
abbrev b_MD_unpaid : ByteArray := prog_5_method_26_code
abbrev y_MD_unpaid : MethodName := ⟨"PortBillsModel", "unpaid", "(I)J"⟩
abbrev b_MD_share : ByteArray := prog_5_method_27_code
abbrev y_MD_share : MethodName := ⟨"PortBillsModel", "share", "(JII)J"⟩
abbrev b_MD_line : ByteArray := prog_5_method_28_code
abbrev y_MD_line : MethodName := ⟨"PortBillsModel", "line", "(II)J"⟩
abbrev b_MD_count : ByteArray := prog_5_method_29_code
abbrev y_MD_count : MethodName := ⟨"PortBillsModel", "count", "(I)I"⟩
abbrev b_LN_init : ByteArray := prog_2_method_1_code
abbrev y_LN_init : MethodName := ⟨"PortBills$Line", "<init>", "(IIIIJIZ)V"⟩
abbrev b_LN_isCorrection : ByteArray := prog_2_method_2_code
abbrev y_LN_isCorrection : MethodName := ⟨"PortBills$Line", "isCorrection", "()Z"⟩
abbrev b_LN_part : ByteArray := prog_2_method_3_code
abbrev y_LN_part : MethodName := ⟨"PortBills$Line", "part", "(I)J"⟩
abbrev b_TT_init : ByteArray := prog_3_method_1_code
abbrev y_TT_init : MethodName := ⟨"PortBills$TariffText", "<init>", "()V"⟩
abbrev b_TT_takes : ByteArray := prog_3_method_2_code
abbrev y_TT_takes : MethodName := ⟨"PortBills$TariffText", "takes", "(I)Z"⟩
abbrev b_TT_clear : ByteArray := prog_3_method_3_code
abbrev y_TT_clear : MethodName := ⟨"PortBills$TariffText", "clear", "()V"⟩
abbrev b_TT_readRows : ByteArray := prog_3_method_4_code
abbrev y_TT_readRows : MethodName := ⟨"PortBills$TariffText", "readRows", "()I"⟩
abbrev b_TT_readRow : ByteArray := prog_3_method_5_code
abbrev y_TT_readRow : MethodName := ⟨"PortBills$TariffText", "readRow", "()Z"⟩
abbrev b_TT_readNumber : ByteArray := prog_3_method_6_code
abbrev y_TT_readNumber : MethodName := ⟨"PortBills$TariffText", "readNumber", "([III)Z"⟩
abbrev b_TT_passes : ByteArray := prog_3_method_7_code
abbrev y_TT_passes : MethodName := ⟨"PortBills$TariffText", "passes", "(C)Z"⟩
abbrev b_TT_next : ByteArray := prog_3_method_8_code
abbrev y_TT_next : MethodName := ⟨"PortBills$TariffText", "next", "()C"⟩
abbrev b_TT_isDigit : ByteArray := prog_3_method_9_code
abbrev y_TT_isDigit : MethodName := ⟨"PortBills$TariffText", "isDigit", "(C)Z"⟩
abbrev b_LW_tariff : ByteArray := method_3_code
abbrev y_LW_tariff : MethodName := ⟨"PortBillsLaw", "tariff", "(LPortBills;II[J)I"⟩
abbrev b_LW_event : ByteArray := method_4_code
abbrev y_LW_event : MethodName := ⟨"PortBillsLaw", "event", "(LPortBills;III[J)I"⟩
abbrev b_LW_bill : ByteArray := method_5_code
abbrev y_LW_bill : MethodName := ⟨"PortBillsLaw", "bill", "(LPortBills;I[J)I"⟩
abbrev b_LW_correct : ByteArray := method_6_code
abbrev y_LW_correct : MethodName := ⟨"PortBillsLaw", "correct", "(LPortBills;IJ[J)I"⟩
abbrev b_LW_dispute : ByteArray := method_7_code
abbrev y_LW_dispute : MethodName := ⟨"PortBillsLaw", "dispute", "(LPortBills;IZ[J)I"⟩
abbrev b_LW_pay : ByteArray := method_8_code
abbrev y_LW_pay : MethodName := ⟨"PortBillsLaw", "pay", "(LPortBills;IJ[J)I"⟩
abbrev b_LW_unpaid : ByteArray := method_9_code
abbrev y_LW_unpaid : MethodName := ⟨"PortBillsLaw", "unpaid", "(LPortBills;I[J)I"⟩
abbrev b_LW_share : ByteArray := method_10_code
abbrev y_LW_share : MethodName := ⟨"PortBillsLaw", "share", "(LPortBills;JII[J)I"⟩
abbrev b_LW_line : ByteArray := method_11_code
abbrev y_LW_line : MethodName := ⟨"PortBillsLaw", "line", "(LPortBills;II[J)I"⟩
abbrev b_LW_law : ByteArray := code
abbrev y_LW_law : MethodName := ⟨"PortBillsLaw", "law", "([I)Z"⟩
abbrev b_AC_init : ByteArray := prog_19_method_1_code
abbrev y_AC_init : MethodName := ⟨"java/util/AbstractCollection", "<init>", "()V"⟩
abbrev b_AB_init : ByteArray := prog_20_method_1_code
abbrev y_AB_init : MethodName := ⟨"java/util/AbstractList", "<init>", "()V"⟩
abbrev b_AL_init : ByteArray := prog_21_method_2_code
abbrev y_AL_init : MethodName := ⟨"java/util/ArrayList", "<init>", "()V"⟩
abbrev b_AL_add : ByteArray := prog_21_method_25_code
abbrev y_AL_add : MethodName := ⟨"java/util/ArrayList", "add", "(Ljava/lang/Object;)Z"⟩
abbrev b_AL_add2 : ByteArray := prog_21_method_24_code
abbrev y_AL_add2 : MethodName := ⟨"java/util/ArrayList", "add", "(Ljava/lang/Object;[Ljava/lang/Object;I)V"⟩
abbrev b_AL_elementData : ByteArray := prog_21_method_18_code
abbrev y_AL_elementData : MethodName := ⟨"java/util/ArrayList", "elementData", "(I)Ljava/lang/Object;"⟩
abbrev b_AL_get : ByteArray := prog_21_method_20_code
abbrev y_AL_get : MethodName := ⟨"java/util/ArrayList", "get", "(I)Ljava/lang/Object;"⟩
abbrev b_AL_grow : ByteArray := prog_21_method_7_code
abbrev y_AL_grow : MethodName := ⟨"java/util/ArrayList", "grow", "()[Ljava/lang/Object;"⟩
abbrev b_AL_grow2 : ByteArray := prog_21_method_6_code
abbrev y_AL_grow2 : MethodName := ⟨"java/util/ArrayList", "grow", "(I)[Ljava/lang/Object;"⟩
abbrev b_AL_size : ByteArray := prog_21_method_8_code
abbrev y_AL_size : MethodName := ⟨"java/util/ArrayList", "size", "()I"⟩
abbrev b_AR_copyOf : ByteArray := prog_22_method_119_code
abbrev y_AR_copyOf : MethodName := ⟨"java/util/Arrays", "copyOf", "([Ljava/lang/Object;I)[Ljava/lang/Object;"⟩
abbrev b_AR_copyOf2 : ByteArray := prog_22_method_120_code
abbrev y_AR_copyOf2 : MethodName := ⟨"java/util/Arrays", "copyOf", "([Ljava/lang/Object;ILjava/lang/Class;)[Ljava/lang/Object;"⟩
abbrev b_AR_fill : ByteArray := prog_22_method_103_code
abbrev y_AR_fill : MethodName := ⟨"java/util/Arrays", "fill", "([II)V"⟩
abbrev b_OB_checkIndex : ByteArray := prog_25_method_17_code
abbrev y_OB_checkIndex : MethodName := ⟨"java/util/Objects", "checkIndex", "(II)I"⟩
abbrev b_AS_hugeLength : ByteArray := prog_28_method_28_code
abbrev y_AS_hugeLength : MethodName := ⟨"jdk/internal/util/ArraysSupport", "hugeLength", "(II)I"⟩
abbrev b_AS_newLength : ByteArray := prog_28_method_27_code
abbrev y_AS_newLength : MethodName := ⟨"jdk/internal/util/ArraysSupport", "newLength", "(III)I"⟩
abbrev b_PC_checkIndex : ByteArray := prog_29_method_11_code
abbrev y_PC_checkIndex : MethodName := ⟨"jdk/internal/util/Preconditions", "checkIndex", "(IILjava/util/function/BiFunction;)I"⟩
/-- a word of the tables that stays -/
def gw (w : Cond) : Prop := w ∈ lw_tbl ∧ goodWord w = true
/-- a nest mate's word -/
def gn_is : Cond → Bool
  | .fieldLinkNest .. => true
  | .methodLinkNest .. => true
  | _ => false
def gn (w : Cond) : Prop := w ∈ lw_tbl ∧ gn_is w = true
theorem tw_1 {w : Cond} (h : w ∈ tables_1_1) : w ∈ lw_tbl := List.mem_append.mpr (Or.inr (List.mem_append.mpr (Or.inl h)))
theorem tw_2 {w : Cond} (h : w ∈ tables_1_2) : w ∈ lw_tbl := List.mem_append.mpr (Or.inr (List.mem_append.mpr (Or.inr (List.mem_append.mpr (Or.inl h)))))
theorem tw_3 {w : Cond} (h : w ∈ tables_1_3) : w ∈ lw_tbl := List.mem_append.mpr (Or.inr (List.mem_append.mpr (Or.inr (List.mem_append.mpr (Or.inr (List.mem_append.mpr (Or.inl h)))))))
theorem tw_4 {w : Cond} (h : w ∈ tables_1_4) : w ∈ lw_tbl := List.mem_append.mpr (Or.inr (List.mem_append.mpr (Or.inr (List.mem_append.mpr (Or.inr (List.mem_append.mpr (Or.inr h)))))))
theorem tw_s (i : Nat) {w : Cond} {q : MethodName × Nat} (h : lw_privs[i]? = some q) (hq : Cond.selects q.1.cls q.1 q.1 = w) : w ∈ lw_tbl := List.mem_append.mpr (Or.inl (List.mem_map.mpr ⟨q, List.mem_of_getElem? h, hq⟩))
end
section
theorem k_0 : gw (.initialized "PortBillsLaw") := ⟨tw_1 (List.mem_of_getElem? (i := 0) (by decide +kernel)), rfl⟩
theorem k_1 : gw (.initialized "PortBills") := ⟨tw_1 (List.mem_of_getElem? (i := 1) (by decide +kernel)), rfl⟩
theorem k_2 : gw (.initialized "PortBills$TariffText") := ⟨tw_1 (List.mem_of_getElem? (i := 2) (by decide +kernel)), rfl⟩
theorem k_3 : gw (.initialized "java/util/AbstractCollection") := ⟨tw_1 (List.mem_of_getElem? (i := 3) (by decide +kernel)), rfl⟩
theorem k_4 : gw (.initialized "java/util/AbstractList") := ⟨tw_1 (List.mem_of_getElem? (i := 4) (by decide +kernel)), rfl⟩
theorem k_5 : gw (.initialized "java/util/ArrayList") := ⟨tw_1 (List.mem_of_getElem? (i := 5) (by decide +kernel)), rfl⟩
theorem k_6 : gw (.initialized "java/util/Arrays") := ⟨tw_1 (List.mem_of_getElem? (i := 6) (by decide +kernel)), rfl⟩
theorem k_7 : gw (.initialized "PortBillsModel") := ⟨tw_1 (List.mem_of_getElem? (i := 7) (by decide +kernel)), rfl⟩
theorem k_8 : gw (.initialized "java/lang/System") := ⟨tw_1 (List.mem_of_getElem? (i := 8) (by decide +kernel)), rfl⟩
theorem k_9 : gw (.initialized "java/lang/Throwable") := ⟨tw_1 (List.mem_of_getElem? (i := 9) (by decide +kernel)), rfl⟩
theorem k_10 : gw (.initialized "java/lang/Exception") := ⟨tw_1 (List.mem_of_getElem? (i := 10) (by decide +kernel)), rfl⟩
theorem k_11 : gw (.initialized "java/lang/RuntimeException") := ⟨tw_1 (List.mem_of_getElem? (i := 11) (by decide +kernel)), rfl⟩
theorem k_12 : gw (.initialized "java/lang/IllegalArgumentException") := ⟨tw_1 (List.mem_of_getElem? (i := 12) (by decide +kernel)), rfl⟩
theorem k_13 : gw (.initialized "java/lang/IllegalStateException") := ⟨tw_1 (List.mem_of_getElem? (i := 13) (by decide +kernel)), rfl⟩
theorem k_14 : gw (.initialized "java/lang/Math") := ⟨tw_1 (List.mem_of_getElem? (i := 14) (by decide +kernel)), rfl⟩
theorem k_15 : gw (.initialized "PortBills$Line") := ⟨tw_1 (List.mem_of_getElem? (i := 15) (by decide +kernel)), rfl⟩
theorem k_16 : gw (.initialized "jdk/internal/util/ArraysSupport") := ⟨tw_1 (List.mem_of_getElem? (i := 16) (by decide +kernel)), rfl⟩
theorem k_17 : gw (.initialized "java/util/Objects") := ⟨tw_1 (List.mem_of_getElem? (i := 17) (by decide +kernel)), rfl⟩
theorem k_18 : gw (.initialized "jdk/internal/util/Preconditions") := ⟨tw_1 (List.mem_of_getElem? (i := 18) (by decide +kernel)), rfl⟩
theorem k_19 : gw (.initialized "java/lang/ArithmeticException") := ⟨tw_1 (List.mem_of_getElem? (i := 19) (by decide +kernel)), rfl⟩
theorem k_20 : gw (.initialized "java/lang/IndexOutOfBoundsException") := ⟨tw_1 (List.mem_of_getElem? (i := 20) (by decide +kernel)), rfl⟩
theorem k_21 : gw (.classLink "PortBillsLaw" 8 "PortBills") := ⟨tw_1 (List.mem_of_getElem? (i := 21) (by decide +kernel)), rfl⟩
theorem k_22 : gw (.instantiable "PortBills" 11) := ⟨tw_1 (List.mem_of_getElem? (i := 22) (by decide +kernel)), rfl⟩
theorem k_23 : gw (.methodLink "PortBillsLaw" 53 y_PB_init) := ⟨tw_1 (List.mem_of_getElem? (i := 23) (by decide +kernel)), rfl⟩
theorem k_24 : gw (.instanceMethod y_PB_init) := ⟨tw_1 (List.mem_of_getElem? (i := 24) (by decide +kernel)), rfl⟩
theorem k_25 : gw (.code y_PB_init b_PB_init 2 none) := ⟨tw_1 (List.mem_of_getElem? (i := 25) (by decide +kernel)), rfl⟩
theorem k_26 : gw (.methodLink "PortBills" 1 ⟨"java/lang/Object", "<init>", "()V"⟩) := ⟨tw_1 (List.mem_of_getElem? (i := 26) (by decide +kernel)), rfl⟩
theorem k_27 : gw (.instanceMethod ⟨"java/lang/Object", "<init>", "()V"⟩) := ⟨tw_1 (List.mem_of_getElem? (i := 27) (by decide +kernel)), rfl⟩
theorem k_28 : gw (.code ⟨"java/lang/Object", "<init>", "()V"⟩ object_method_1_code 1 none) := ⟨tw_1 (List.mem_of_getElem? (i := 28) (by decide +kernel)), rfl⟩
theorem k_29 : gw (.classLink "PortBills" 7 "PortBills$TariffText") := ⟨tw_1 (List.mem_of_getElem? (i := 29) (by decide +kernel)), rfl⟩
theorem k_30 : gw (.instantiable "PortBills$TariffText" 5) := ⟨tw_1 (List.mem_of_getElem? (i := 30) (by decide +kernel)), rfl⟩
theorem kn_31 : gn (.methodLinkNest "PortBills" 9 y_TT_init "PortBills") := ⟨tw_1 (List.mem_of_getElem? (i := 31) (by decide +kernel)), rfl⟩
theorem k_32 : gw (.instanceMethod y_TT_init) := ⟨tw_1 (List.mem_of_getElem? (i := 32) (by decide +kernel)), rfl⟩
theorem k_33 : gw (.code y_TT_init b_TT_init 1 none) := ⟨tw_1 (List.mem_of_getElem? (i := 33) (by decide +kernel)), rfl⟩
theorem k_34 : gw (.methodLink "PortBills$TariffText" 3 ⟨"java/lang/Object", "<init>", "()V"⟩) := ⟨tw_1 (List.mem_of_getElem? (i := 34) (by decide +kernel)), rfl⟩
theorem k_35 : gw (.classLink "PortBills$TariffText" 15 "[[I") := ⟨tw_1 (List.mem_of_getElem? (i := 35) (by decide +kernel)), rfl⟩
theorem kt_36 : (.arrayOver (.array .int) : Cond) ∈ lw_tbl := tw_1 (List.mem_of_getElem? (i := 36) (by decide +kernel))
theorem k_37 : gw (.fieldLink "PortBills$TariffText" 11 "PortBills$TariffText" "signs" "[C") := ⟨tw_1 (List.mem_of_getElem? (i := 37) (by decide +kernel)), rfl⟩
theorem k_38 : gw (.fieldLink "PortBills$TariffText" 20 "PortBills$TariffText" "length" "I") := ⟨tw_1 (List.mem_of_getElem? (i := 38) (by decide +kernel)), rfl⟩
theorem kn_39 : gn (.fieldLinkNest "PortBills" 198 "PortBills$TariffText" "length" "I" "PortBills") := ⟨tw_1 (List.mem_of_getElem? (i := 39) (by decide +kernel)), rfl⟩
theorem k_40 : gw (.fieldLink "PortBills$TariffText" 24 "PortBills$TariffText" "at" "I") := ⟨tw_1 (List.mem_of_getElem? (i := 40) (by decide +kernel)), rfl⟩
theorem k_41 : gw (.fieldLink "PortBills$TariffText" 17 "PortBills$TariffText" "rows" "[[I") := ⟨tw_1 (List.mem_of_getElem? (i := 41) (by decide +kernel)), rfl⟩
theorem kn_42 : gn (.fieldLinkNest "PortBills" 208 "PortBills$TariffText" "rows" "[[I" "PortBills") := ⟨tw_1 (List.mem_of_getElem? (i := 42) (by decide +kernel)), rfl⟩
theorem k_43 : gw (.fieldLink "PortBills$TariffText" 27 "PortBills$TariffText" "kinds" "I") := ⟨tw_1 (List.mem_of_getElem? (i := 43) (by decide +kernel)), rfl⟩
theorem kn_44 : gn (.fieldLinkNest "PortBills" 205 "PortBills$TariffText" "kinds" "I" "PortBills") := ⟨tw_1 (List.mem_of_getElem? (i := 44) (by decide +kernel)), rfl⟩
theorem k_45 : gw (.laysFinal "PortBills$TariffText" "PortBills$TariffText" "signs" "[C") := ⟨tw_1 (List.mem_of_getElem? (i := 45) (by decide +kernel)), rfl⟩
theorem k_46 : gw (.soleField "PortBills$TariffText" "signs") := ⟨tw_1 (List.mem_of_getElem? (i := 46) (by decide +kernel)), rfl⟩
theorem k_47 : gw (.lays "PortBills$TariffText" "PortBills$TariffText" "length" "I") := ⟨tw_1 (List.mem_of_getElem? (i := 47) (by decide +kernel)), rfl⟩
theorem k_48 : gw (.soleField "PortBills$TariffText" "length") := ⟨tw_1 (List.mem_of_getElem? (i := 48) (by decide +kernel)), rfl⟩
theorem k_49 : gw (.lays "PortBills$TariffText" "PortBills$TariffText" "at" "I") := ⟨tw_1 (List.mem_of_getElem? (i := 49) (by decide +kernel)), rfl⟩
theorem k_50 : gw (.soleField "PortBills$TariffText" "at") := ⟨tw_1 (List.mem_of_getElem? (i := 50) (by decide +kernel)), rfl⟩
theorem k_51 : gw (.laysFinal "PortBills$TariffText" "PortBills$TariffText" "rows" "[[I") := ⟨tw_1 (List.mem_of_getElem? (i := 51) (by decide +kernel)), rfl⟩
theorem k_52 : gw (.soleField "PortBills$TariffText" "rows") := ⟨tw_1 (List.mem_of_getElem? (i := 52) (by decide +kernel)), rfl⟩
theorem k_53 : gw (.lays "PortBills$TariffText" "PortBills$TariffText" "kinds" "I") := ⟨tw_1 (List.mem_of_getElem? (i := 53) (by decide +kernel)), rfl⟩
theorem k_54 : gw (.soleField "PortBills$TariffText" "kinds") := ⟨tw_1 (List.mem_of_getElem? (i := 54) (by decide +kernel)), rfl⟩
theorem k_55 : gw (.superclass "PortBills$TariffText" "java/lang/Object") := ⟨tw_1 (List.mem_of_getElem? (i := 55) (by decide +kernel)), rfl⟩
theorem k_56 : gw (.arrayClass .char) := ⟨tw_1 (List.mem_of_getElem? (i := 56) (by decide +kernel)), rfl⟩
theorem k_57 : gw (.arrayClass .int) := ⟨tw_1 (List.mem_of_getElem? (i := 57) (by decide +kernel)), rfl⟩
theorem k_58 : gw (.classLink "PortBills" 16 "[[I") := ⟨tw_1 (List.mem_of_getElem? (i := 58) (by decide +kernel)), rfl⟩
theorem k_59 : gw (.classLink "PortBills" 37 "java/util/ArrayList") := ⟨tw_1 (List.mem_of_getElem? (i := 59) (by decide +kernel)), rfl⟩
theorem k_60 : gw (.instantiable "java/util/ArrayList" 3) := ⟨tw_1 (List.mem_of_getElem? (i := 60) (by decide +kernel)), rfl⟩
theorem k_61 : gw (.methodLink "PortBills" 39 y_AL_init) := ⟨tw_1 (List.mem_of_getElem? (i := 61) (by decide +kernel)), rfl⟩
theorem k_62 : gw (.instanceMethod y_AL_init) := ⟨tw_1 (List.mem_of_getElem? (i := 62) (by decide +kernel)), rfl⟩
theorem k_63 : gw (.code y_AL_init b_AL_init 1 none) := ⟨tw_1 (List.mem_of_getElem? (i := 63) (by decide +kernel)), rfl⟩
theorem k_64 : gw (.methodLink "java/util/ArrayList" 1 y_AB_init) := ⟨tw_1 (List.mem_of_getElem? (i := 64) (by decide +kernel)), rfl⟩
theorem k_65 : gw (.instanceMethod y_AB_init) := ⟨tw_1 (List.mem_of_getElem? (i := 65) (by decide +kernel)), rfl⟩
theorem k_66 : gw (.code y_AB_init b_AB_init 1 none) := ⟨tw_1 (List.mem_of_getElem? (i := 66) (by decide +kernel)), rfl⟩
theorem k_67 : gw (.methodLink "java/util/AbstractList" 1 y_AC_init) := ⟨tw_1 (List.mem_of_getElem? (i := 67) (by decide +kernel)), rfl⟩
theorem k_68 : gw (.instanceMethod y_AC_init) := ⟨tw_1 (List.mem_of_getElem? (i := 68) (by decide +kernel)), rfl⟩
theorem k_69 : gw (.code y_AC_init b_AC_init 1 none) := ⟨tw_1 (List.mem_of_getElem? (i := 69) (by decide +kernel)), rfl⟩
theorem k_70 : gw (.methodLink "java/util/AbstractCollection" 1 ⟨"java/lang/Object", "<init>", "()V"⟩) := ⟨tw_1 (List.mem_of_getElem? (i := 70) (by decide +kernel)), rfl⟩
theorem k_71 : gw (.fieldLink "java/util/ArrayList" 39 "java/util/ArrayList" "DEFAULTCAPACITY_EMPTY_ELEMENTDATA" "[Ljava/lang/Object;") := ⟨tw_1 (List.mem_of_getElem? (i := 71) (by decide +kernel)), rfl⟩
theorem kt_72 : (.laysStatic "java/util/ArrayList" "DEFAULTCAPACITY_EMPTY_ELEMENTDATA" "[Ljava/lang/Object;" : Cond) ∈ lw_tbl := tw_1 (List.mem_of_getElem? (i := 72) (by decide +kernel))
theorem k_73 : gw (.fieldLink "java/util/ArrayList" 9 "java/util/ArrayList" "elementData" "[Ljava/lang/Object;") := ⟨tw_1 (List.mem_of_getElem? (i := 73) (by decide +kernel)), rfl⟩
theorem k_74 : gw (.fieldLink "java/util/ArrayList" 48 "java/util/ArrayList" "size" "I") := ⟨tw_1 (List.mem_of_getElem? (i := 74) (by decide +kernel)), rfl⟩
theorem k_75 : gw (.fieldLink "java/util/AbstractList" 7 "java/util/AbstractList" "modCount" "I") := ⟨tw_1 (List.mem_of_getElem? (i := 75) (by decide +kernel)), rfl⟩
theorem k_76 : gw (.fieldLink "java/util/ArrayList" 63 "java/util/ArrayList" "modCount" "I") := ⟨tw_1 (List.mem_of_getElem? (i := 76) (by decide +kernel)), rfl⟩
theorem k_77 : gw (.sameField "java/util/ArrayList" "java/util/AbstractList" "modCount" "I") := ⟨tw_1 (List.mem_of_getElem? (i := 77) (by decide +kernel)), rfl⟩
theorem k_78 : gw (.lays "java/util/ArrayList" "java/util/ArrayList" "elementData" "[Ljava/lang/Object;") := ⟨tw_1 (List.mem_of_getElem? (i := 78) (by decide +kernel)), rfl⟩
theorem k_79 : gw (.soleField "java/util/ArrayList" "elementData") := ⟨tw_1 (List.mem_of_getElem? (i := 79) (by decide +kernel)), rfl⟩
theorem k_80 : gw (.lays "java/util/ArrayList" "java/util/ArrayList" "size" "I") := ⟨tw_1 (List.mem_of_getElem? (i := 80) (by decide +kernel)), rfl⟩
theorem k_81 : gw (.soleField "java/util/ArrayList" "size") := ⟨tw_1 (List.mem_of_getElem? (i := 81) (by decide +kernel)), rfl⟩
theorem k_82 : gw (.lays "java/util/ArrayList" "java/util/AbstractList" "modCount" "I") := ⟨tw_1 (List.mem_of_getElem? (i := 82) (by decide +kernel)), rfl⟩
theorem k_83 : gw (.soleField "java/util/AbstractList" "modCount") := ⟨tw_1 (List.mem_of_getElem? (i := 83) (by decide +kernel)), rfl⟩
theorem k_84 : gw (.superclass "java/util/ArrayList" "java/util/AbstractList") := ⟨tw_1 (List.mem_of_getElem? (i := 84) (by decide +kernel)), rfl⟩
theorem k_85 : gw (.methodLink "PortBills" 48 y_AR_fill) := ⟨tw_1 (List.mem_of_getElem? (i := 85) (by decide +kernel)), rfl⟩
theorem k_86 : gw (.static y_AR_fill) := ⟨tw_1 (List.mem_of_getElem? (i := 86) (by decide +kernel)), rfl⟩
theorem k_87 : gw (.code y_AR_fill b_AR_fill 4 none) := ⟨tw_1 (List.mem_of_getElem? (i := 87) (by decide +kernel)), rfl⟩
theorem k_88 : gw (.fieldLink "PortBills" 10 "PortBills" "text" "LPortBills$TariffText;") := ⟨tw_1 (List.mem_of_getElem? (i := 88) (by decide +kernel)), rfl⟩
theorem k_89 : gw (.fieldLink "PortBills" 18 "PortBills" "tariffs" "[[I") := ⟨tw_1 (List.mem_of_getElem? (i := 89) (by decide +kernel)), rfl⟩
theorem k_90 : gw (.fieldLink "PortBills" 201 "PortBills" "kindsWithTariff" "I") := ⟨tw_1 (List.mem_of_getElem? (i := 90) (by decide +kernel)), rfl⟩
theorem k_91 : gw (.fieldLink "PortBills" 21 "PortBills" "waitingUnits" "[[I") := ⟨tw_1 (List.mem_of_getElem? (i := 91) (by decide +kernel)), rfl⟩
theorem k_92 : gw (.fieldLink "PortBills" 24 "PortBills" "waitingEvents" "[I") := ⟨tw_1 (List.mem_of_getElem? (i := 92) (by decide +kernel)), rfl⟩
theorem k_93 : gw (.fieldLink "PortBills" 87 "PortBills" "waitingInAll" "I") := ⟨tw_1 (List.mem_of_getElem? (i := 93) (by decide +kernel)), rfl⟩
theorem k_94 : gw (.fieldLink "PortBills" 28 "PortBills" "discounts" "[[I") := ⟨tw_1 (List.mem_of_getElem? (i := 94) (by decide +kernel)), rfl⟩
theorem k_95 : gw (.fieldLink "PortBills" 31 "PortBills" "kept" "[[I") := ⟨tw_1 (List.mem_of_getElem? (i := 95) (by decide +kernel)), rfl⟩
theorem k_96 : gw (.fieldLink "PortBills" 34 "PortBills" "keptOf" "[[I") := ⟨tw_1 (List.mem_of_getElem? (i := 96) (by decide +kernel)), rfl⟩
theorem k_97 : gw (.fieldLink "PortBills" 40 "PortBills" "lines" "Ljava/util/ArrayList;") := ⟨tw_1 (List.mem_of_getElem? (i := 97) (by decide +kernel)), rfl⟩
theorem k_98 : gw (.fieldLink "PortBills" 44 "PortBills" "paid" "[J") := ⟨tw_1 (List.mem_of_getElem? (i := 98) (by decide +kernel)), rfl⟩
theorem k_99 : gw (.laysFinal "PortBills" "PortBills" "text" "LPortBills$TariffText;") := ⟨tw_1 (List.mem_of_getElem? (i := 99) (by decide +kernel)), rfl⟩
theorem k_100 : gw (.soleField "PortBills" "text") := ⟨tw_1 (List.mem_of_getElem? (i := 100) (by decide +kernel)), rfl⟩
theorem k_101 : gw (.laysFinal "PortBills" "PortBills" "tariffs" "[[I") := ⟨tw_1 (List.mem_of_getElem? (i := 101) (by decide +kernel)), rfl⟩
theorem k_102 : gw (.soleField "PortBills" "tariffs") := ⟨tw_1 (List.mem_of_getElem? (i := 102) (by decide +kernel)), rfl⟩
theorem k_103 : gw (.lays "PortBills" "PortBills" "kindsWithTariff" "I") := ⟨tw_1 (List.mem_of_getElem? (i := 103) (by decide +kernel)), rfl⟩
theorem k_104 : gw (.soleField "PortBills" "kindsWithTariff") := ⟨tw_1 (List.mem_of_getElem? (i := 104) (by decide +kernel)), rfl⟩
theorem k_105 : gw (.laysFinal "PortBills" "PortBills" "waitingUnits" "[[I") := ⟨tw_1 (List.mem_of_getElem? (i := 105) (by decide +kernel)), rfl⟩
theorem k_106 : gw (.soleField "PortBills" "waitingUnits") := ⟨tw_1 (List.mem_of_getElem? (i := 106) (by decide +kernel)), rfl⟩
theorem k_107 : gw (.laysFinal "PortBills" "PortBills" "waitingEvents" "[I") := ⟨tw_1 (List.mem_of_getElem? (i := 107) (by decide +kernel)), rfl⟩
theorem k_108 : gw (.soleField "PortBills" "waitingEvents") := ⟨tw_1 (List.mem_of_getElem? (i := 108) (by decide +kernel)), rfl⟩
theorem k_109 : gw (.lays "PortBills" "PortBills" "waitingInAll" "I") := ⟨tw_1 (List.mem_of_getElem? (i := 109) (by decide +kernel)), rfl⟩
theorem k_110 : gw (.soleField "PortBills" "waitingInAll") := ⟨tw_1 (List.mem_of_getElem? (i := 110) (by decide +kernel)), rfl⟩
theorem k_111 : gw (.laysFinal "PortBills" "PortBills" "discounts" "[[I") := ⟨tw_1 (List.mem_of_getElem? (i := 111) (by decide +kernel)), rfl⟩
theorem k_112 : gw (.soleField "PortBills" "discounts") := ⟨tw_1 (List.mem_of_getElem? (i := 112) (by decide +kernel)), rfl⟩
theorem k_113 : gw (.laysFinal "PortBills" "PortBills" "kept" "[[I") := ⟨tw_1 (List.mem_of_getElem? (i := 113) (by decide +kernel)), rfl⟩
theorem k_114 : gw (.soleField "PortBills" "kept") := ⟨tw_1 (List.mem_of_getElem? (i := 114) (by decide +kernel)), rfl⟩
theorem k_115 : gw (.laysFinal "PortBills" "PortBills" "keptOf" "[[I") := ⟨tw_1 (List.mem_of_getElem? (i := 115) (by decide +kernel)), rfl⟩
theorem k_116 : gw (.soleField "PortBills" "keptOf") := ⟨tw_1 (List.mem_of_getElem? (i := 116) (by decide +kernel)), rfl⟩
theorem k_117 : gw (.laysFinal "PortBills" "PortBills" "lines" "Ljava/util/ArrayList;") := ⟨tw_1 (List.mem_of_getElem? (i := 117) (by decide +kernel)), rfl⟩
theorem k_118 : gw (.soleField "PortBills" "lines") := ⟨tw_1 (List.mem_of_getElem? (i := 118) (by decide +kernel)), rfl⟩
theorem k_119 : gw (.laysFinal "PortBills" "PortBills" "paid" "[J") := ⟨tw_1 (List.mem_of_getElem? (i := 119) (by decide +kernel)), rfl⟩
theorem k_120 : gw (.soleField "PortBills" "paid") := ⟨tw_1 (List.mem_of_getElem? (i := 120) (by decide +kernel)), rfl⟩
theorem k_121 : gw (.superclass "PortBills" "java/lang/Object") := ⟨tw_1 (List.mem_of_getElem? (i := 121) (by decide +kernel)), rfl⟩
theorem k_122 : gw (.arrayClass .long) := ⟨tw_1 (List.mem_of_getElem? (i := 122) (by decide +kernel)), rfl⟩
theorem k_123 : gw (.methodLink "PortBillsLaw" 57 y_PB_sign) := ⟨tw_1 (List.mem_of_getElem? (i := 123) (by decide +kernel)), rfl⟩
theorem k_124 : gw (.instanceMethod y_PB_sign) := ⟨tw_1 (List.mem_of_getElem? (i := 124) (by decide +kernel)), rfl⟩
theorem k_125 : gw (.selects "PortBills" y_PB_sign y_PB_sign) := ⟨tw_1 (List.mem_of_getElem? (i := 125) (by decide +kernel)), rfl⟩
theorem k_126 : gw (.code y_PB_sign b_PB_sign 2 (some .boolean)) := ⟨tw_1 (List.mem_of_getElem? (i := 126) (by decide +kernel)), rfl⟩
theorem kn_127 : gn (.methodLinkNest "PortBills" 54 y_TT_takes "PortBills") := ⟨tw_1 (List.mem_of_getElem? (i := 127) (by decide +kernel)), rfl⟩
theorem kt_128 : (.privateMethod y_TT_takes : Cond) ∈ lw_tbl := tw_1 (List.mem_of_getElem? (i := 128) (by decide +kernel))
theorem k_129 : gw (.instanceMethod y_TT_takes) := ⟨tw_1 (List.mem_of_getElem? (i := 129) (by decide +kernel)), rfl⟩
theorem k_130 : gw (.code y_TT_takes b_TT_takes 2 (some .boolean)) := ⟨tw_1 (List.mem_of_getElem? (i := 130) (by decide +kernel)), rfl⟩
theorem k_131 : gw (.methodLink "PortBillsLaw" 62 y_PB_read) := ⟨tw_1 (List.mem_of_getElem? (i := 131) (by decide +kernel)), rfl⟩
theorem k_132 : gw (.instanceMethod y_PB_read) := ⟨tw_1 (List.mem_of_getElem? (i := 132) (by decide +kernel)), rfl⟩
theorem k_133 : gw (.selects "PortBills" y_PB_read y_PB_read) := ⟨tw_1 (List.mem_of_getElem? (i := 133) (by decide +kernel)), rfl⟩
theorem k_134 : gw (.code y_PB_read b_PB_read 2 (some .int)) := ⟨tw_1 (List.mem_of_getElem? (i := 134) (by decide +kernel)), rfl⟩
theorem kn_135 : gn (.methodLinkNest "PortBills" 58 y_TT_readRows "PortBills") := ⟨tw_1 (List.mem_of_getElem? (i := 135) (by decide +kernel)), rfl⟩
theorem kt_136 : (.privateMethod y_TT_readRows : Cond) ∈ lw_tbl := tw_1 (List.mem_of_getElem? (i := 136) (by decide +kernel))
theorem k_137 : gw (.instanceMethod y_TT_readRows) := ⟨tw_1 (List.mem_of_getElem? (i := 137) (by decide +kernel)), rfl⟩
theorem k_138 : gw (.code y_TT_readRows b_TT_readRows 2 (some .int)) := ⟨tw_1 (List.mem_of_getElem? (i := 138) (by decide +kernel)), rfl⟩
theorem k_139 : gw (.methodLink "PortBills$TariffText" 30 y_TT_readRow) := ⟨tw_1 (List.mem_of_getElem? (i := 139) (by decide +kernel)), rfl⟩
theorem kt_140 : (.privateMethod y_TT_readRow : Cond) ∈ lw_tbl := tw_1 (List.mem_of_getElem? (i := 140) (by decide +kernel))
theorem k_141 : gw (.instanceMethod y_TT_readRow) := ⟨tw_1 (List.mem_of_getElem? (i := 141) (by decide +kernel)), rfl⟩
theorem k_142 : gw (.code y_TT_readRow b_TT_readRow 3 (some .boolean)) := ⟨tw_1 (List.mem_of_getElem? (i := 142) (by decide +kernel)), rfl⟩
theorem k_143 : gw (.methodLink "PortBills$TariffText" 34 y_TT_next) := ⟨tw_1 (List.mem_of_getElem? (i := 143) (by decide +kernel)), rfl⟩
theorem kt_144 : (.privateMethod y_TT_next : Cond) ∈ lw_tbl := tw_1 (List.mem_of_getElem? (i := 144) (by decide +kernel))
theorem k_145 : gw (.instanceMethod y_TT_next) := ⟨tw_1 (List.mem_of_getElem? (i := 145) (by decide +kernel)), rfl⟩
theorem k_146 : gw (.code y_TT_next b_TT_next 1 (some .char)) := ⟨tw_1 (List.mem_of_getElem? (i := 146) (by decide +kernel)), rfl⟩
theorem kn_147 : gn (.methodLinkNest "PortBills$TariffText" 38 y_PB_isKind "PortBills") := ⟨tw_1 (List.mem_of_getElem? (i := 147) (by decide +kernel)), rfl⟩
theorem k_148 : gw (.static y_PB_isKind) := ⟨tw_1 (List.mem_of_getElem? (i := 148) (by decide +kernel)), rfl⟩
theorem k_149 : gw (.code y_PB_isKind b_PB_isKind 1 (some .boolean)) := ⟨tw_1 (List.mem_of_getElem? (i := 149) (by decide +kernel)), rfl⟩
theorem k_150 : gw (.methodLink "PortBills$TariffText" 42 y_TT_readNumber) := ⟨tw_1 (List.mem_of_getElem? (i := 150) (by decide +kernel)), rfl⟩
theorem kt_151 : (.privateMethod y_TT_readNumber : Cond) ∈ lw_tbl := tw_1 (List.mem_of_getElem? (i := 151) (by decide +kernel))
theorem k_152 : gw (.instanceMethod y_TT_readNumber) := ⟨tw_1 (List.mem_of_getElem? (i := 152) (by decide +kernel)), rfl⟩
theorem k_153 : gw (.code y_TT_readNumber b_TT_readNumber 6 (some .boolean)) := ⟨tw_1 (List.mem_of_getElem? (i := 153) (by decide +kernel)), rfl⟩
theorem k_154 : gw (.methodLink "PortBills$TariffText" 50 y_TT_isDigit) := ⟨tw_1 (List.mem_of_getElem? (i := 154) (by decide +kernel)), rfl⟩
theorem k_155 : gw (.static y_TT_isDigit) := ⟨tw_1 (List.mem_of_getElem? (i := 155) (by decide +kernel)), rfl⟩
theorem k_156 : gw (.code y_TT_isDigit b_TT_isDigit 1 (some .boolean)) := ⟨tw_1 (List.mem_of_getElem? (i := 156) (by decide +kernel)), rfl⟩
theorem k_157 : gw (.methodLink "PortBills$TariffText" 46 y_TT_passes) := ⟨tw_1 (List.mem_of_getElem? (i := 157) (by decide +kernel)), rfl⟩
theorem kt_158 : (.privateMethod y_TT_passes : Cond) ∈ lw_tbl := tw_1 (List.mem_of_getElem? (i := 158) (by decide +kernel))
theorem k_159 : gw (.instanceMethod y_TT_passes) := ⟨tw_1 (List.mem_of_getElem? (i := 159) (by decide +kernel)), rfl⟩
theorem k_160 : gw (.code y_TT_passes b_TT_passes 2 (some .boolean)) := ⟨tw_1 (List.mem_of_getElem? (i := 160) (by decide +kernel)), rfl⟩
theorem k_161 : gw (.methodLink "PortBills" 62 y_PB_takeOverTariffs) := ⟨tw_1 (List.mem_of_getElem? (i := 161) (by decide +kernel)), rfl⟩
theorem kt_162 : (.privateMethod y_PB_takeOverTariffs : Cond) ∈ lw_tbl := tw_1 (List.mem_of_getElem? (i := 162) (by decide +kernel))
theorem k_163 : gw (.instanceMethod y_PB_takeOverTariffs) := ⟨tw_1 (List.mem_of_getElem? (i := 163) (by decide +kernel)), rfl⟩
theorem k_164 : gw (.code y_PB_takeOverTariffs b_PB_takeOverTariffs 2 none) := ⟨tw_1 (List.mem_of_getElem? (i := 164) (by decide +kernel)), rfl⟩
theorem k_165 : gw (.methodLink "PortBills" 211 ⟨"java/lang/System", "arraycopy", "(Ljava/lang/Object;ILjava/lang/Object;II)V"⟩) := ⟨tw_1 (List.mem_of_getElem? (i := 165) (by decide +kernel)), rfl⟩
theorem k_166 : gw (.static ⟨"java/lang/System", "arraycopy", "(Ljava/lang/Object;ILjava/lang/Object;II)V"⟩) := ⟨tw_1 (List.mem_of_getElem? (i := 166) (by decide +kernel)), rfl⟩
theorem k_167 : gw (.native ⟨"java/lang/System", "arraycopy", "(Ljava/lang/Object;ILjava/lang/Object;II)V"⟩) := ⟨tw_1 (List.mem_of_getElem? (i := 167) (by decide +kernel)), rfl⟩
theorem kn_168 : gn (.methodLinkNest "PortBills" 65 y_TT_clear "PortBills") := ⟨tw_1 (List.mem_of_getElem? (i := 168) (by decide +kernel)), rfl⟩
theorem kt_169 : (.privateMethod y_TT_clear : Cond) ∈ lw_tbl := tw_1 (List.mem_of_getElem? (i := 169) (by decide +kernel))
theorem k_170 : gw (.instanceMethod y_TT_clear) := ⟨tw_1 (List.mem_of_getElem? (i := 170) (by decide +kernel)), rfl⟩
theorem k_171 : gw (.code y_TT_clear b_TT_clear 1 none) := ⟨tw_1 (List.mem_of_getElem? (i := 171) (by decide +kernel)), rfl⟩
theorem k_172 : gw (.methodLink "PortBillsLaw" 80 y_PB_discount) := ⟨tw_1 (List.mem_of_getElem? (i := 172) (by decide +kernel)), rfl⟩
theorem k_173 : gw (.instanceMethod y_PB_discount) := ⟨tw_1 (List.mem_of_getElem? (i := 173) (by decide +kernel)), rfl⟩
theorem k_174 : gw (.selects "PortBills" y_PB_discount y_PB_discount) := ⟨tw_1 (List.mem_of_getElem? (i := 174) (by decide +kernel)), rfl⟩
theorem k_175 : gw (.code y_PB_discount b_PB_discount 5 (some .boolean)) := ⟨tw_1 (List.mem_of_getElem? (i := 175) (by decide +kernel)), rfl⟩
theorem k_176 : gw (.methodLink "PortBills" 81 y_PB_isCall) := ⟨tw_1 (List.mem_of_getElem? (i := 176) (by decide +kernel)), rfl⟩
theorem k_177 : gw (.static y_PB_isCall) := ⟨tw_1 (List.mem_of_getElem? (i := 177) (by decide +kernel)), rfl⟩
theorem k_178 : gw (.code y_PB_isCall b_PB_isCall 1 (some .boolean)) := ⟨tw_1 (List.mem_of_getElem? (i := 178) (by decide +kernel)), rfl⟩
theorem k_179 : gw (.methodLink "PortBills" 68 y_PB_isKind) := ⟨tw_1 (List.mem_of_getElem? (i := 179) (by decide +kernel)), rfl⟩
theorem k_180 : gw (.methodLink "PortBillsLaw" 112 y_PB_count) := ⟨tw_1 (List.mem_of_getElem? (i := 180) (by decide +kernel)), rfl⟩
theorem k_181 : gw (.instanceMethod y_PB_count) := ⟨tw_1 (List.mem_of_getElem? (i := 181) (by decide +kernel)), rfl⟩
theorem k_182 : gw (.selects "PortBills" y_PB_count y_PB_count) := ⟨tw_1 (List.mem_of_getElem? (i := 182) (by decide +kernel)), rfl⟩
theorem k_183 : gw (.code y_PB_count b_PB_count 2 (some .int)) := ⟨tw_1 (List.mem_of_getElem? (i := 183) (by decide +kernel)), rfl⟩
theorem k_184 : gw (.methodLink "PortBills" 195 y_PB_linesOf) := ⟨tw_1 (List.mem_of_getElem? (i := 184) (by decide +kernel)), rfl⟩
theorem kt_185 : (.privateMethod y_PB_linesOf : Cond) ∈ lw_tbl := tw_1 (List.mem_of_getElem? (i := 185) (by decide +kernel))
theorem k_186 : gw (.instanceMethod y_PB_linesOf) := ⟨tw_1 (List.mem_of_getElem? (i := 186) (by decide +kernel)), rfl⟩
theorem k_187 : gw (.code y_PB_linesOf b_PB_linesOf 4 (some .int)) := ⟨tw_1 (List.mem_of_getElem? (i := 187) (by decide +kernel)), rfl⟩
theorem k_188 : gw (.methodLink "PortBills" 109 y_AL_size) := ⟨tw_1 (List.mem_of_getElem? (i := 188) (by decide +kernel)), rfl⟩
theorem k_189 : gw (.instanceMethod y_AL_size) := ⟨tw_1 (List.mem_of_getElem? (i := 189) (by decide +kernel)), rfl⟩
theorem k_190 : gw (.selects "java/util/ArrayList" y_AL_size y_AL_size) := ⟨tw_1 (List.mem_of_getElem? (i := 190) (by decide +kernel)), rfl⟩
theorem k_191 : gw (.code y_AL_size b_AL_size 1 (some .int)) := ⟨tw_1 (List.mem_of_getElem? (i := 191) (by decide +kernel)), rfl⟩
theorem k_192 : gw (.methodLink "PortBills" 135 y_AL_get) := ⟨tw_1 (List.mem_of_getElem? (i := 192) (by decide +kernel)), rfl⟩
theorem k_193 : gw (.instanceMethod y_AL_get) := ⟨tw_1 (List.mem_of_getElem? (i := 193) (by decide +kernel)), rfl⟩
theorem k_194 : gw (.selects "java/util/ArrayList" y_AL_get y_AL_get) := ⟨tw_1 (List.mem_of_getElem? (i := 194) (by decide +kernel)), rfl⟩
theorem k_195 : gw (.code y_AL_get b_AL_get 2 (some (.object "java/lang/Object"))) := ⟨tw_1 (List.mem_of_getElem? (i := 195) (by decide +kernel)), rfl⟩
theorem k_196 : gw (.methodLink "java/util/ArrayList" 118 y_OB_checkIndex) := ⟨tw_1 (List.mem_of_getElem? (i := 196) (by decide +kernel)), rfl⟩
theorem k_197 : gw (.static y_OB_checkIndex) := ⟨tw_1 (List.mem_of_getElem? (i := 197) (by decide +kernel)), rfl⟩
theorem k_198 : gw (.code y_OB_checkIndex b_OB_checkIndex 2 (some .int)) := ⟨tw_1 (List.mem_of_getElem? (i := 198) (by decide +kernel)), rfl⟩
theorem k_199 : gw (.methodLink "java/util/Objects" 105 y_PC_checkIndex) := ⟨tw_1 (List.mem_of_getElem? (i := 199) (by decide +kernel)), rfl⟩
theorem k_200 : gw (.static y_PC_checkIndex) := ⟨tw_1 (List.mem_of_getElem? (i := 200) (by decide +kernel)), rfl⟩
theorem k_201 : gw (.code y_PC_checkIndex b_PC_checkIndex 3 (some .int)) := ⟨tw_1 (List.mem_of_getElem? (i := 201) (by decide +kernel)), rfl⟩
theorem k_202 : gw (.methodLink "java/util/ArrayList" 123 y_AL_elementData) := ⟨tw_1 (List.mem_of_getElem? (i := 202) (by decide +kernel)), rfl⟩
theorem k_203 : gw (.instanceMethod y_AL_elementData) := ⟨tw_1 (List.mem_of_getElem? (i := 203) (by decide +kernel)), rfl⟩
theorem k_204 : gw (.selects "java/util/ArrayList" y_AL_elementData y_AL_elementData) := ⟨tw_1 (List.mem_of_getElem? (i := 204) (by decide +kernel)), rfl⟩
theorem k_205 : gw (.code y_AL_elementData b_AL_elementData 2 (some (.object "java/lang/Object"))) := ⟨tw_1 (List.mem_of_getElem? (i := 205) (by decide +kernel)), rfl⟩
theorem k_206 : gw (.classLink "PortBills" 139 "PortBills$Line") := ⟨tw_1 (List.mem_of_getElem? (i := 206) (by decide +kernel)), rfl⟩
theorem k_207 : gw (.methodLink "PortBillsLaw" 67 y_LW_tariff) := ⟨tw_1 (List.mem_of_getElem? (i := 207) (by decide +kernel)), rfl⟩
theorem k_208 : gw (.static y_LW_tariff) := ⟨tw_1 (List.mem_of_getElem? (i := 208) (by decide +kernel)), rfl⟩
theorem k_209 : gw (.codeWith y_LW_tariff b_LW_tariff 5 (some .int) [(0, 10, 13, 13)]) := ⟨tw_1 (List.mem_of_getElem? (i := 209) (by decide +kernel)), rfl⟩
theorem k_210 : gw (.classLink "PortBillsLaw" 13 "java/lang/IllegalArgumentException") := ⟨tw_1 (List.mem_of_getElem? (i := 210) (by decide +kernel)), rfl⟩
theorem k_211 : gw (.methodLink "PortBillsLaw" 7 y_PB_tariff) := ⟨tw_1 (List.mem_of_getElem? (i := 211) (by decide +kernel)), rfl⟩
theorem k_212 : gw (.instanceMethod y_PB_tariff) := ⟨tw_1 (List.mem_of_getElem? (i := 212) (by decide +kernel)), rfl⟩
theorem k_213 : gw (.selects "PortBills" y_PB_tariff y_PB_tariff) := ⟨tw_1 (List.mem_of_getElem? (i := 213) (by decide +kernel)), rfl⟩
theorem k_214 : gw (.code y_PB_tariff b_PB_tariff 3 (some .int)) := ⟨tw_1 (List.mem_of_getElem? (i := 214) (by decide +kernel)), rfl⟩
theorem k_215 : gw (.classLink "PortBills" 71 "java/lang/IllegalArgumentException") := ⟨tw_1 (List.mem_of_getElem? (i := 215) (by decide +kernel)), rfl⟩
theorem k_216 : gw (.instantiable "java/lang/IllegalArgumentException" 6) := ⟨tw_1 (List.mem_of_getElem? (i := 216) (by decide +kernel)), rfl⟩
theorem kt_217 : (.castable "java/lang/IllegalArgumentException" "java/lang/IllegalArgumentException" : Cond) ∈ lw_tbl := tw_1 (List.mem_of_getElem? (i := 217) (by decide +kernel))
theorem kt_218 : (.declares ⟨"java/lang/RuntimeException", "<init>", "()V"⟩ : Cond) ∈ lw_tbl := tw_1 (List.mem_of_getElem? (i := 218) (by decide +kernel))
theorem kt_219 : (.declares ⟨"java/lang/RuntimeException", "<init>", "(Ljava/lang/String;)V"⟩ : Cond) ∈ lw_tbl := tw_1 (List.mem_of_getElem? (i := 219) (by decide +kernel))
theorem kt_220 : (.declares ⟨"java/lang/Exception", "<init>", "()V"⟩ : Cond) ∈ lw_tbl := tw_1 (List.mem_of_getElem? (i := 220) (by decide +kernel))
theorem kt_221 : (.declares ⟨"java/lang/Exception", "<init>", "(Ljava/lang/String;)V"⟩ : Cond) ∈ lw_tbl := tw_1 (List.mem_of_getElem? (i := 221) (by decide +kernel))
theorem kt_222 : (.declares ⟨"java/lang/Throwable", "<init>", "()V"⟩ : Cond) ∈ lw_tbl := tw_1 (List.mem_of_getElem? (i := 222) (by decide +kernel))
theorem kt_223 : (.declares ⟨"java/lang/Throwable", "<init>", "(Ljava/lang/String;)V"⟩ : Cond) ∈ lw_tbl := tw_1 (List.mem_of_getElem? (i := 223) (by decide +kernel))
theorem k_224 : gw (.selects "java/lang/IllegalArgumentException" ⟨"java/lang/Throwable", "fillInStackTrace", "(I)Ljava/lang/Throwable;"⟩ ⟨"java/lang/Throwable", "fillInStackTrace", "(I)Ljava/lang/Throwable;"⟩) := ⟨tw_1 (List.mem_of_getElem? (i := 224) (by decide +kernel)), rfl⟩
theorem k_225 : gw (.selects "java/lang/IllegalArgumentException" ⟨"java/lang/Throwable", "fillInStackTrace", "()Ljava/lang/Throwable;"⟩ ⟨"java/lang/Throwable", "fillInStackTrace", "()Ljava/lang/Throwable;"⟩) := ⟨tw_1 (List.mem_of_getElem? (i := 225) (by decide +kernel)), rfl⟩
theorem k_226 : gw (.lays "java/lang/IllegalArgumentException" "java/lang/Throwable" "cause" "Ljava/lang/Throwable;") := ⟨tw_1 (List.mem_of_getElem? (i := 226) (by decide +kernel)), rfl⟩
theorem k_227 : gw (.lays "java/lang/Throwable" "java/lang/Throwable" "cause" "Ljava/lang/Throwable;") := ⟨tw_1 (List.mem_of_getElem? (i := 227) (by decide +kernel)), rfl⟩
theorem k_228 : gw (.lays "java/lang/IllegalArgumentException" "java/lang/Throwable" "stackTrace" "[Ljava/lang/StackTraceElement;") := ⟨tw_1 (List.mem_of_getElem? (i := 228) (by decide +kernel)), rfl⟩
theorem k_229 : gw (.lays "java/lang/Throwable" "java/lang/Throwable" "stackTrace" "[Ljava/lang/StackTraceElement;") := ⟨tw_1 (List.mem_of_getElem? (i := 229) (by decide +kernel)), rfl⟩
theorem k_230 : gw (.lays "java/lang/IllegalArgumentException" "java/lang/Throwable" "suppressedExceptions" "Ljava/util/List;") := ⟨tw_1 (List.mem_of_getElem? (i := 230) (by decide +kernel)), rfl⟩
theorem k_231 : gw (.lays "java/lang/Throwable" "java/lang/Throwable" "suppressedExceptions" "Ljava/util/List;") := ⟨tw_1 (List.mem_of_getElem? (i := 231) (by decide +kernel)), rfl⟩
theorem k_232 : gw (.lays "java/lang/IllegalArgumentException" "java/lang/Throwable" "detailMessage" "Ljava/lang/String;") := ⟨tw_1 (List.mem_of_getElem? (i := 232) (by decide +kernel)), rfl⟩
theorem k_233 : gw (.lays "java/lang/Throwable" "java/lang/Throwable" "detailMessage" "Ljava/lang/String;") := ⟨tw_1 (List.mem_of_getElem? (i := 233) (by decide +kernel)), rfl⟩
theorem k_234 : gw (.lays "java/lang/IllegalArgumentException" "java/lang/Throwable" "backtrace" "Ljava/lang/Object;") := ⟨tw_1 (List.mem_of_getElem? (i := 234) (by decide +kernel)), rfl⟩
theorem k_235 : gw (.lays "java/lang/Throwable" "java/lang/Throwable" "backtrace" "Ljava/lang/Object;") := ⟨tw_1 (List.mem_of_getElem? (i := 235) (by decide +kernel)), rfl⟩
theorem k_236 : gw (.fieldLink "java/lang/Throwable" 198 "java/lang/Throwable" "backtrace" "Ljava/lang/Object;") := ⟨tw_1 (List.mem_of_getElem? (i := 236) (by decide +kernel)), rfl⟩
theorem k_237 : gw (.superclass "java/lang/Throwable" "java/lang/Object") := ⟨tw_1 (List.mem_of_getElem? (i := 237) (by decide +kernel)), rfl⟩
theorem k_238 : gw (.instanceMethod ⟨"java/lang/Throwable", "<init>", "()V"⟩) := ⟨tw_1 (List.mem_of_getElem? (i := 238) (by decide +kernel)), rfl⟩
theorem k_239 : gw (.code ⟨"java/lang/Throwable", "<init>", "()V"⟩ prog_18_method_1_code 1 none) := ⟨tw_1 (List.mem_of_getElem? (i := 239) (by decide +kernel)), rfl⟩
theorem k_240 : gw (.methodLink "java/lang/Throwable" 1 ⟨"java/lang/Object", "<init>", "()V"⟩) := ⟨tw_2 (List.mem_of_getElem? (i := 0) (by decide +kernel)), rfl⟩
theorem k_241 : gw (.fieldLink "java/lang/Throwable" 13 "java/lang/Throwable" "UNASSIGNED_STACK" "[Ljava/lang/StackTraceElement;") := ⟨tw_2 (List.mem_of_getElem? (i := 1) (by decide +kernel)), rfl⟩
theorem kt_242 : (.laysStatic "java/lang/Throwable" "UNASSIGNED_STACK" "[Ljava/lang/StackTraceElement;" : Cond) ∈ lw_tbl := tw_2 (List.mem_of_getElem? (i := 2) (by decide +kernel))
theorem k_243 : gw (.fieldLink "java/lang/Throwable" 20 "java/lang/Throwable" "SUPPRESSED_SENTINEL" "Ljava/util/List;") := ⟨tw_2 (List.mem_of_getElem? (i := 3) (by decide +kernel)), rfl⟩
theorem kt_244 : (.laysStatic "java/lang/Throwable" "SUPPRESSED_SENTINEL" "Ljava/util/List;" : Cond) ∈ lw_tbl := tw_2 (List.mem_of_getElem? (i := 4) (by decide +kernel))
theorem k_245 : gw (.methodLink "java/lang/Throwable" 27 ⟨"java/lang/Throwable", "fillInStackTrace", "()Ljava/lang/Throwable;"⟩) := ⟨tw_2 (List.mem_of_getElem? (i := 5) (by decide +kernel)), rfl⟩
theorem k_246 : gw (.instanceMethod ⟨"java/lang/Throwable", "fillInStackTrace", "()Ljava/lang/Throwable;"⟩) := ⟨tw_2 (List.mem_of_getElem? (i := 6) (by decide +kernel)), rfl⟩
theorem k_247 : gw (.sameMethod "java/lang/Throwable" "java/lang/Throwable" "fillInStackTrace" "()Ljava/lang/Throwable;") := ⟨tw_2 (List.mem_of_getElem? (i := 7) (by decide +kernel)), rfl⟩
theorem k_248 : gw (.selects "java/lang/ArithmeticException" ⟨"java/lang/Throwable", "fillInStackTrace", "()Ljava/lang/Throwable;"⟩ ⟨"java/lang/Throwable", "fillInStackTrace", "()Ljava/lang/Throwable;"⟩) := ⟨tw_2 (List.mem_of_getElem? (i := 8) (by decide +kernel)), rfl⟩
theorem k_249 : gw (.selects "java/lang/IllegalStateException" ⟨"java/lang/Throwable", "fillInStackTrace", "()Ljava/lang/Throwable;"⟩ ⟨"java/lang/Throwable", "fillInStackTrace", "()Ljava/lang/Throwable;"⟩) := ⟨tw_2 (List.mem_of_getElem? (i := 9) (by decide +kernel)), rfl⟩
theorem k_250 : gw (.selects "java/lang/IndexOutOfBoundsException" ⟨"java/lang/Throwable", "fillInStackTrace", "()Ljava/lang/Throwable;"⟩ ⟨"java/lang/Throwable", "fillInStackTrace", "()Ljava/lang/Throwable;"⟩) := ⟨tw_2 (List.mem_of_getElem? (i := 10) (by decide +kernel)), rfl⟩
theorem k_251 : gw (.codeSync ⟨"java/lang/Throwable", "fillInStackTrace", "()Ljava/lang/Throwable;"⟩ prog_18_method_18_code 1 (some (.object "java/lang/Throwable"))) := ⟨tw_2 (List.mem_of_getElem? (i := 11) (by decide +kernel)), rfl⟩
theorem k_252 : gw (.methodLink "java/lang/Throwable" 202 ⟨"java/lang/Throwable", "fillInStackTrace", "(I)Ljava/lang/Throwable;"⟩) := ⟨tw_2 (List.mem_of_getElem? (i := 12) (by decide +kernel)), rfl⟩
theorem kt_253 : (.privateMethod ⟨"java/lang/Throwable", "fillInStackTrace", "(I)Ljava/lang/Throwable;"⟩ : Cond) ∈ lw_tbl := tw_2 (List.mem_of_getElem? (i := 13) (by decide +kernel))
theorem k_254 : gw (.instanceMethod ⟨"java/lang/Throwable", "fillInStackTrace", "(I)Ljava/lang/Throwable;"⟩) := ⟨tw_2 (List.mem_of_getElem? (i := 14) (by decide +kernel)), rfl⟩
theorem k_255 : gw (.instantiable "java/lang/Throwable" 6) := ⟨tw_2 (List.mem_of_getElem? (i := 15) (by decide +kernel)), rfl⟩
theorem k_256 : gw (.native ⟨"java/lang/Throwable", "fillInStackTrace", "(I)Ljava/lang/Throwable;"⟩) := ⟨tw_2 (List.mem_of_getElem? (i := 16) (by decide +kernel)), rfl⟩
theorem kt_257 : (.stringRef "PortBills" 73 "no such kind or what" : Cond) ∈ lw_tbl := tw_2 (List.mem_of_getElem? (i := 17) (by decide +kernel))
theorem k_258 : gw (.methodLink "PortBills" 75 ⟨"java/lang/IllegalArgumentException", "<init>", "(Ljava/lang/String;)V"⟩) := ⟨tw_2 (List.mem_of_getElem? (i := 18) (by decide +kernel)), rfl⟩
theorem k_259 : gw (.instanceMethod ⟨"java/lang/IllegalArgumentException", "<init>", "(Ljava/lang/String;)V"⟩) := ⟨tw_2 (List.mem_of_getElem? (i := 19) (by decide +kernel)), rfl⟩
theorem k_260 : gw (.code ⟨"java/lang/IllegalArgumentException", "<init>", "(Ljava/lang/String;)V"⟩ prog_10_method_2_code 2 none) := ⟨tw_2 (List.mem_of_getElem? (i := 20) (by decide +kernel)), rfl⟩
theorem k_261 : gw (.methodLink "java/lang/IllegalArgumentException" 7 ⟨"java/lang/RuntimeException", "<init>", "(Ljava/lang/String;)V"⟩) := ⟨tw_2 (List.mem_of_getElem? (i := 21) (by decide +kernel)), rfl⟩
theorem k_262 : gw (.instanceMethod ⟨"java/lang/RuntimeException", "<init>", "(Ljava/lang/String;)V"⟩) := ⟨tw_2 (List.mem_of_getElem? (i := 22) (by decide +kernel)), rfl⟩
theorem k_263 : gw (.code ⟨"java/lang/RuntimeException", "<init>", "(Ljava/lang/String;)V"⟩ prog_15_method_2_code 2 none) := ⟨tw_2 (List.mem_of_getElem? (i := 23) (by decide +kernel)), rfl⟩
theorem k_264 : gw (.methodLink "java/lang/RuntimeException" 7 ⟨"java/lang/Exception", "<init>", "(Ljava/lang/String;)V"⟩) := ⟨tw_2 (List.mem_of_getElem? (i := 24) (by decide +kernel)), rfl⟩
theorem k_265 : gw (.instanceMethod ⟨"java/lang/Exception", "<init>", "(Ljava/lang/String;)V"⟩) := ⟨tw_2 (List.mem_of_getElem? (i := 25) (by decide +kernel)), rfl⟩
theorem k_266 : gw (.code ⟨"java/lang/Exception", "<init>", "(Ljava/lang/String;)V"⟩ prog_9_method_2_code 2 none) := ⟨tw_2 (List.mem_of_getElem? (i := 26) (by decide +kernel)), rfl⟩
theorem k_267 : gw (.methodLink "java/lang/Exception" 7 ⟨"java/lang/Throwable", "<init>", "(Ljava/lang/String;)V"⟩) := ⟨tw_2 (List.mem_of_getElem? (i := 27) (by decide +kernel)), rfl⟩
theorem k_268 : gw (.instanceMethod ⟨"java/lang/Throwable", "<init>", "(Ljava/lang/String;)V"⟩) := ⟨tw_2 (List.mem_of_getElem? (i := 28) (by decide +kernel)), rfl⟩
theorem k_269 : gw (.code ⟨"java/lang/Throwable", "<init>", "(Ljava/lang/String;)V"⟩ prog_18_method_2_code 2 none) := ⟨tw_2 (List.mem_of_getElem? (i := 29) (by decide +kernel)), rfl⟩
theorem k_271 : gw (.fieldLink "java/lang/Throwable" 31 "java/lang/Throwable" "detailMessage" "Ljava/lang/String;") := ⟨tw_2 (List.mem_of_getElem? (i := 31) (by decide +kernel)), rfl⟩
theorem k_272 : gw (.fieldLink "java/lang/Throwable" 7 "java/lang/Throwable" "cause" "Ljava/lang/Throwable;") := ⟨tw_2 (List.mem_of_getElem? (i := 32) (by decide +kernel)), rfl⟩
theorem k_273 : gw (.fieldLink "java/lang/Throwable" 17 "java/lang/Throwable" "stackTrace" "[Ljava/lang/StackTraceElement;") := ⟨tw_2 (List.mem_of_getElem? (i := 33) (by decide +kernel)), rfl⟩
theorem k_274 : gw (.fieldLink "java/lang/Throwable" 24 "java/lang/Throwable" "suppressedExceptions" "Ljava/util/List;") := ⟨tw_2 (List.mem_of_getElem? (i := 34) (by decide +kernel)), rfl⟩
theorem k_275 : gw (.soleField "java/lang/Throwable" "backtrace") := ⟨tw_2 (List.mem_of_getElem? (i := 35) (by decide +kernel)), rfl⟩
theorem k_276 : gw (.soleField "java/lang/Throwable" "detailMessage") := ⟨tw_2 (List.mem_of_getElem? (i := 36) (by decide +kernel)), rfl⟩
theorem k_277 : gw (.soleField "java/lang/Throwable" "cause") := ⟨tw_2 (List.mem_of_getElem? (i := 37) (by decide +kernel)), rfl⟩
theorem k_278 : gw (.soleField "java/lang/Throwable" "stackTrace") := ⟨tw_2 (List.mem_of_getElem? (i := 38) (by decide +kernel)), rfl⟩
theorem k_279 : gw (.lays "java/lang/IllegalArgumentException" "java/lang/Throwable" "depth" "I") := ⟨tw_2 (List.mem_of_getElem? (i := 39) (by decide +kernel)), rfl⟩
theorem k_280 : gw (.soleField "java/lang/Throwable" "depth") := ⟨tw_2 (List.mem_of_getElem? (i := 40) (by decide +kernel)), rfl⟩
theorem k_281 : gw (.soleField "java/lang/Throwable" "suppressedExceptions") := ⟨tw_2 (List.mem_of_getElem? (i := 41) (by decide +kernel)), rfl⟩
theorem k_282 : gw (.superclass "java/lang/IllegalArgumentException" "java/lang/RuntimeException") := ⟨tw_2 (List.mem_of_getElem? (i := 42) (by decide +kernel)), rfl⟩
theorem k_283 : gw (.arrayClass .byte) := ⟨tw_2 (List.mem_of_getElem? (i := 43) (by decide +kernel)), rfl⟩
theorem k_284 : gw (.methodLink "PortBills" 78 y_PB_hasTariff) := ⟨tw_2 (List.mem_of_getElem? (i := 44) (by decide +kernel)), rfl⟩
theorem kt_285 : (.privateMethod y_PB_hasTariff : Cond) ∈ lw_tbl := tw_2 (List.mem_of_getElem? (i := 45) (by decide +kernel))
theorem k_286 : gw (.instanceMethod y_PB_hasTariff) := ⟨tw_2 (List.mem_of_getElem? (i := 46) (by decide +kernel)), rfl⟩
theorem k_287 : gw (.code y_PB_hasTariff b_PB_hasTariff 2 (some .boolean)) := ⟨tw_2 (List.mem_of_getElem? (i := 47) (by decide +kernel)), rfl⟩
theorem k_288 : gw (.methodLink "PortBillsLaw" 76 y_LW_event) := ⟨tw_2 (List.mem_of_getElem? (i := 48) (by decide +kernel)), rfl⟩
theorem k_289 : gw (.static y_LW_event) := ⟨tw_2 (List.mem_of_getElem? (i := 49) (by decide +kernel)), rfl⟩
theorem k_290 : gw (.codeWith y_LW_event b_LW_event 6 (some .int) [(0, 12, 15, 13), (0, 12, 19, 19)]) := ⟨tw_2 (List.mem_of_getElem? (i := 50) (by decide +kernel)), rfl⟩
theorem k_291 : gw (.classLink "PortBillsLaw" 19 "java/lang/IllegalStateException") := ⟨tw_2 (List.mem_of_getElem? (i := 51) (by decide +kernel)), rfl⟩
theorem k_292 : gw (.methodLink "PortBillsLaw" 15 y_PB_event) := ⟨tw_2 (List.mem_of_getElem? (i := 52) (by decide +kernel)), rfl⟩
theorem k_293 : gw (.instanceMethod y_PB_event) := ⟨tw_2 (List.mem_of_getElem? (i := 53) (by decide +kernel)), rfl⟩
theorem k_294 : gw (.selects "PortBills" y_PB_event y_PB_event) := ⟨tw_2 (List.mem_of_getElem? (i := 54) (by decide +kernel)), rfl⟩
theorem k_295 : gw (.code y_PB_event b_PB_event 5 (some .int)) := ⟨tw_2 (List.mem_of_getElem? (i := 55) (by decide +kernel)), rfl⟩
theorem k_296 : gw (.constant "PortBills" 84 50000) := ⟨tw_2 (List.mem_of_getElem? (i := 56) (by decide +kernel)), rfl⟩
theorem kt_297 : (.stringRef "PortBills" 85 "no such call, kind or amount" : Cond) ∈ lw_tbl := tw_2 (List.mem_of_getElem? (i := 57) (by decide +kernel))
theorem k_298 : gw (.classLink "PortBills" 91 "java/lang/IllegalStateException") := ⟨tw_2 (List.mem_of_getElem? (i := 58) (by decide +kernel)), rfl⟩
theorem k_299 : gw (.instantiable "java/lang/IllegalStateException" 6) := ⟨tw_2 (List.mem_of_getElem? (i := 59) (by decide +kernel)), rfl⟩
theorem kt_300 : (.castable "java/lang/IllegalStateException" "java/lang/IllegalStateException" : Cond) ∈ lw_tbl := tw_2 (List.mem_of_getElem? (i := 60) (by decide +kernel))
theorem k_301 : gw (.selects "java/lang/IllegalStateException" ⟨"java/lang/Throwable", "fillInStackTrace", "(I)Ljava/lang/Throwable;"⟩ ⟨"java/lang/Throwable", "fillInStackTrace", "(I)Ljava/lang/Throwable;"⟩) := ⟨tw_2 (List.mem_of_getElem? (i := 61) (by decide +kernel)), rfl⟩
theorem k_302 : gw (.lays "java/lang/IllegalStateException" "java/lang/Throwable" "cause" "Ljava/lang/Throwable;") := ⟨tw_2 (List.mem_of_getElem? (i := 62) (by decide +kernel)), rfl⟩
theorem k_303 : gw (.lays "java/lang/IllegalStateException" "java/lang/Throwable" "stackTrace" "[Ljava/lang/StackTraceElement;") := ⟨tw_2 (List.mem_of_getElem? (i := 63) (by decide +kernel)), rfl⟩
theorem k_304 : gw (.lays "java/lang/IllegalStateException" "java/lang/Throwable" "suppressedExceptions" "Ljava/util/List;") := ⟨tw_2 (List.mem_of_getElem? (i := 64) (by decide +kernel)), rfl⟩
theorem k_305 : gw (.lays "java/lang/IllegalStateException" "java/lang/Throwable" "detailMessage" "Ljava/lang/String;") := ⟨tw_2 (List.mem_of_getElem? (i := 65) (by decide +kernel)), rfl⟩
theorem k_306 : gw (.lays "java/lang/IllegalStateException" "java/lang/Throwable" "backtrace" "Ljava/lang/Object;") := ⟨tw_2 (List.mem_of_getElem? (i := 66) (by decide +kernel)), rfl⟩
theorem kt_307 : (.stringRef "PortBills" 93 "too many events wait" : Cond) ∈ lw_tbl := tw_2 (List.mem_of_getElem? (i := 67) (by decide +kernel))
theorem k_308 : gw (.methodLink "PortBills" 95 ⟨"java/lang/IllegalStateException", "<init>", "(Ljava/lang/String;)V"⟩) := ⟨tw_2 (List.mem_of_getElem? (i := 68) (by decide +kernel)), rfl⟩
theorem k_309 : gw (.instanceMethod ⟨"java/lang/IllegalStateException", "<init>", "(Ljava/lang/String;)V"⟩) := ⟨tw_2 (List.mem_of_getElem? (i := 69) (by decide +kernel)), rfl⟩
theorem k_310 : gw (.code ⟨"java/lang/IllegalStateException", "<init>", "(Ljava/lang/String;)V"⟩ prog_11_method_2_code 2 none) := ⟨tw_2 (List.mem_of_getElem? (i := 70) (by decide +kernel)), rfl⟩
theorem k_311 : gw (.methodLink "java/lang/IllegalStateException" 7 ⟨"java/lang/RuntimeException", "<init>", "(Ljava/lang/String;)V"⟩) := ⟨tw_2 (List.mem_of_getElem? (i := 71) (by decide +kernel)), rfl⟩
theorem k_312 : gw (.lays "java/lang/IllegalStateException" "java/lang/Throwable" "depth" "I") := ⟨tw_2 (List.mem_of_getElem? (i := 72) (by decide +kernel)), rfl⟩
theorem k_313 : gw (.superclass "java/lang/IllegalStateException" "java/lang/RuntimeException") := ⟨tw_2 (List.mem_of_getElem? (i := 73) (by decide +kernel)), rfl⟩
theorem k_314 : gw (.fieldLink "PortBills" 96 "PortBills" "UNIT" "[I") := ⟨tw_2 (List.mem_of_getElem? (i := 74) (by decide +kernel)), rfl⟩
theorem kt_315 : (.laysStatic "PortBills" "UNIT" "[I" : Cond) ∈ lw_tbl := tw_2 (List.mem_of_getElem? (i := 75) (by decide +kernel))
theorem k_316 : gw (.methodLink "PortBills" 99 y_PB_begunUnits) := ⟨tw_2 (List.mem_of_getElem? (i := 76) (by decide +kernel)), rfl⟩
theorem k_317 : gw (.static y_PB_begunUnits) := ⟨tw_2 (List.mem_of_getElem? (i := 77) (by decide +kernel)), rfl⟩
theorem k_318 : gw (.code y_PB_begunUnits b_PB_begunUnits 2 (some .int)) := ⟨tw_2 (List.mem_of_getElem? (i := 78) (by decide +kernel)), rfl⟩
theorem k_319 : gw (.methodLink "PortBills" 183 y_PB_quotient) := ⟨tw_2 (List.mem_of_getElem? (i := 79) (by decide +kernel)), rfl⟩
theorem k_320 : gw (.static y_PB_quotient) := ⟨tw_2 (List.mem_of_getElem? (i := 80) (by decide +kernel)), rfl⟩
theorem k_321 : gw (.code y_PB_quotient b_PB_quotient 4 (some .long)) := ⟨tw_2 (List.mem_of_getElem? (i := 81) (by decide +kernel)), rfl⟩
theorem k_322 : gw (.methodLink "PortBillsLaw" 85 y_LW_bill) := ⟨tw_2 (List.mem_of_getElem? (i := 82) (by decide +kernel)), rfl⟩
theorem k_323 : gw (.static y_LW_bill) := ⟨tw_2 (List.mem_of_getElem? (i := 83) (by decide +kernel)), rfl⟩
theorem k_324 : gw (.codeWith y_LW_bill b_LW_bill 4 (some .int) [(0, 9, 12, 13), (0, 9, 15, 19)]) := ⟨tw_2 (List.mem_of_getElem? (i := 84) (by decide +kernel)), rfl⟩
theorem k_325 : gw (.methodLink "PortBillsLaw" 21 y_PB_bill) := ⟨tw_2 (List.mem_of_getElem? (i := 85) (by decide +kernel)), rfl⟩
theorem k_326 : gw (.instanceMethod y_PB_bill) := ⟨tw_2 (List.mem_of_getElem? (i := 86) (by decide +kernel)), rfl⟩
theorem k_327 : gw (.selects "PortBills" y_PB_bill y_PB_bill) := ⟨tw_2 (List.mem_of_getElem? (i := 87) (by decide +kernel)), rfl⟩
theorem k_328 : gw (.code y_PB_bill b_PB_bill 4 (some .int)) := ⟨tw_2 (List.mem_of_getElem? (i := 88) (by decide +kernel)), rfl⟩
theorem kt_329 : (.stringRef "PortBills" 103 "no such call" : Cond) ∈ lw_tbl := tw_2 (List.mem_of_getElem? (i := 89) (by decide +kernel))
theorem k_330 : gw (.methodLink "PortBills" 105 y_PB_kindsThatWait) := ⟨tw_2 (List.mem_of_getElem? (i := 90) (by decide +kernel)), rfl⟩
theorem kt_331 : (.privateMethod y_PB_kindsThatWait : Cond) ∈ lw_tbl := tw_2 (List.mem_of_getElem? (i := 91) (by decide +kernel))
theorem k_332 : gw (.instanceMethod y_PB_kindsThatWait) := ⟨tw_2 (List.mem_of_getElem? (i := 92) (by decide +kernel)), rfl⟩
theorem k_333 : gw (.code y_PB_kindsThatWait b_PB_kindsThatWait 4 (some .int)) := ⟨tw_2 (List.mem_of_getElem? (i := 93) (by decide +kernel)), rfl⟩
theorem kt_334 : (.stringRef "PortBills" 112 "no room for the lines" : Cond) ∈ lw_tbl := tw_2 (List.mem_of_getElem? (i := 94) (by decide +kernel))
theorem k_335 : gw (.methodLink "PortBills" 114 y_PB_billedLine) := ⟨tw_2 (List.mem_of_getElem? (i := 95) (by decide +kernel)), rfl⟩
theorem kt_336 : (.privateMethod y_PB_billedLine : Cond) ∈ lw_tbl := tw_2 (List.mem_of_getElem? (i := 96) (by decide +kernel))
theorem k_337 : gw (.instanceMethod y_PB_billedLine) := ⟨tw_2 (List.mem_of_getElem? (i := 97) (by decide +kernel)), rfl⟩
theorem k_338 : gw (.code y_PB_billedLine b_PB_billedLine 5 (some (.object "PortBills$Line"))) := ⟨tw_2 (List.mem_of_getElem? (i := 98) (by decide +kernel)), rfl⟩
theorem k_339 : gw (.methodLink "PortBills" 217 ⟨"java/lang/Math", "max", "(II)I"⟩) := ⟨tw_2 (List.mem_of_getElem? (i := 99) (by decide +kernel)), rfl⟩
theorem k_340 : gw (.static ⟨"java/lang/Math", "max", "(II)I"⟩) := ⟨tw_2 (List.mem_of_getElem? (i := 100) (by decide +kernel)), rfl⟩
theorem k_341 : gw (.code ⟨"java/lang/Math", "max", "(II)I"⟩ prog_14_method_65_code 2 (some .int)) := ⟨tw_2 (List.mem_of_getElem? (i := 101) (by decide +kernel)), rfl⟩
theorem k_342 : gw (.instantiable "PortBills$Line" 9) := ⟨tw_2 (List.mem_of_getElem? (i := 102) (by decide +kernel)), rfl⟩
theorem k_343 : gw (.methodLink "PortBills" 222 y_PB_centsFor) := ⟨tw_2 (List.mem_of_getElem? (i := 103) (by decide +kernel)), rfl⟩
theorem kt_344 : (.privateMethod y_PB_centsFor : Cond) ∈ lw_tbl := tw_2 (List.mem_of_getElem? (i := 104) (by decide +kernel))
theorem k_345 : gw (.instanceMethod y_PB_centsFor) := ⟨tw_2 (List.mem_of_getElem? (i := 105) (by decide +kernel)), rfl⟩
theorem k_346 : gw (.code y_PB_centsFor b_PB_centsFor 8 (some .long)) := ⟨tw_2 (List.mem_of_getElem? (i := 106) (by decide +kernel)), rfl⟩
theorem k_347 : gw (.methodLink "PortBills" 226 y_PB_roundedHalfUp) := ⟨tw_2 (List.mem_of_getElem? (i := 107) (by decide +kernel)), rfl⟩
theorem k_348 : gw (.static y_PB_roundedHalfUp) := ⟨tw_2 (List.mem_of_getElem? (i := 108) (by decide +kernel)), rfl⟩
theorem k_349 : gw (.code y_PB_roundedHalfUp b_PB_roundedHalfUp 8 (some .long)) := ⟨tw_2 (List.mem_of_getElem? (i := 109) (by decide +kernel)), rfl⟩
theorem k_350 : gw (.constantLong "PortBills" 234 2) := ⟨tw_2 (List.mem_of_getElem? (i := 110) (by decide +kernel)), rfl⟩
theorem k_351 : gw (.methodLink "PortBills" 229 ⟨"java/lang/Math", "max", "(JJ)J"⟩) := ⟨tw_2 (List.mem_of_getElem? (i := 111) (by decide +kernel)), rfl⟩
theorem k_352 : gw (.static ⟨"java/lang/Math", "max", "(JJ)J"⟩) := ⟨tw_2 (List.mem_of_getElem? (i := 112) (by decide +kernel)), rfl⟩
theorem k_353 : gw (.code ⟨"java/lang/Math", "max", "(JJ)J"⟩ prog_14_method_66_code 4 (some .long)) := ⟨tw_2 (List.mem_of_getElem? (i := 113) (by decide +kernel)), rfl⟩
theorem kn_354 : gn (.methodLinkNest "PortBills" 155 y_LN_init "PortBills") := ⟨tw_2 (List.mem_of_getElem? (i := 114) (by decide +kernel)), rfl⟩
theorem k_355 : gw (.instanceMethod y_LN_init) := ⟨tw_2 (List.mem_of_getElem? (i := 115) (by decide +kernel)), rfl⟩
theorem k_356 : gw (.code y_LN_init b_LN_init 9 none) := ⟨tw_2 (List.mem_of_getElem? (i := 116) (by decide +kernel)), rfl⟩
theorem k_357 : gw (.methodLink "PortBills$Line" 3 ⟨"java/lang/Object", "<init>", "()V"⟩) := ⟨tw_2 (List.mem_of_getElem? (i := 117) (by decide +kernel)), rfl⟩
theorem k_358 : gw (.fieldLink "PortBills$Line" 9 "PortBills$Line" "call" "I") := ⟨tw_2 (List.mem_of_getElem? (i := 118) (by decide +kernel)), rfl⟩
theorem kn_359 : gn (.fieldLinkNest "PortBills" 149 "PortBills$Line" "call" "I" "PortBills") := ⟨tw_2 (List.mem_of_getElem? (i := 119) (by decide +kernel)), rfl⟩
theorem k_360 : gw (.fieldLink "PortBills$Line" 15 "PortBills$Line" "kind" "I") := ⟨tw_2 (List.mem_of_getElem? (i := 120) (by decide +kernel)), rfl⟩
theorem kn_361 : gn (.fieldLinkNest "PortBills" 152 "PortBills$Line" "kind" "I" "PortBills") := ⟨tw_2 (List.mem_of_getElem? (i := 121) (by decide +kernel)), rfl⟩
theorem k_362 : gw (.fieldLink "PortBills$Line" 18 "PortBills$Line" "units" "I") := ⟨tw_2 (List.mem_of_getElem? (i := 122) (by decide +kernel)), rfl⟩
theorem k_363 : gw (.fieldLink "PortBills$Line" 21 "PortBills$Line" "charged" "I") := ⟨tw_2 (List.mem_of_getElem? (i := 123) (by decide +kernel)), rfl⟩
theorem k_364 : gw (.fieldLink "PortBills$Line" 24 "PortBills$Line" "cents" "J") := ⟨tw_2 (List.mem_of_getElem? (i := 124) (by decide +kernel)), rfl⟩
theorem kn_365 : gn (.fieldLinkNest "PortBills" 231 "PortBills$Line" "cents" "J" "PortBills") := ⟨tw_2 (List.mem_of_getElem? (i := 125) (by decide +kernel)), rfl⟩
theorem k_366 : gw (.fieldLink "PortBills$Line" 28 "PortBills$Line" "corrects" "I") := ⟨tw_2 (List.mem_of_getElem? (i := 126) (by decide +kernel)), rfl⟩
theorem kn_367 : gn (.fieldLinkNest "PortBills" 164 "PortBills$Line" "corrects" "I" "PortBills") := ⟨tw_2 (List.mem_of_getElem? (i := 127) (by decide +kernel)), rfl⟩
theorem k_368 : gw (.fieldLink "PortBills$Line" 31 "PortBills$Line" "byFallback" "Z") := ⟨tw_2 (List.mem_of_getElem? (i := 128) (by decide +kernel)), rfl⟩
theorem k_369 : gw (.fieldLink "PortBills$Line" 38 "PortBills$Line" "disputed" "Z") := ⟨tw_2 (List.mem_of_getElem? (i := 129) (by decide +kernel)), rfl⟩
theorem kn_370 : gn (.fieldLinkNest "PortBills" 158 "PortBills$Line" "disputed" "Z" "PortBills") := ⟨tw_2 (List.mem_of_getElem? (i := 130) (by decide +kernel)), rfl⟩
theorem k_371 : gw (.fieldLink "PortBills$Line" 35 "PortBills$Line" "corrected" "J") := ⟨tw_2 (List.mem_of_getElem? (i := 131) (by decide +kernel)), rfl⟩
theorem kn_372 : gn (.fieldLinkNest "PortBills" 145 "PortBills$Line" "corrected" "J" "PortBills") := ⟨tw_2 (List.mem_of_getElem? (i := 132) (by decide +kernel)), rfl⟩
theorem k_373 : gw (.laysFinal "PortBills$Line" "PortBills$Line" "call" "I") := ⟨tw_2 (List.mem_of_getElem? (i := 133) (by decide +kernel)), rfl⟩
theorem k_374 : gw (.soleField "PortBills$Line" "call") := ⟨tw_2 (List.mem_of_getElem? (i := 134) (by decide +kernel)), rfl⟩
theorem k_375 : gw (.laysFinal "PortBills$Line" "PortBills$Line" "kind" "I") := ⟨tw_2 (List.mem_of_getElem? (i := 135) (by decide +kernel)), rfl⟩
theorem k_376 : gw (.soleField "PortBills$Line" "kind") := ⟨tw_2 (List.mem_of_getElem? (i := 136) (by decide +kernel)), rfl⟩
theorem k_377 : gw (.laysFinal "PortBills$Line" "PortBills$Line" "units" "I") := ⟨tw_2 (List.mem_of_getElem? (i := 137) (by decide +kernel)), rfl⟩
theorem k_378 : gw (.soleField "PortBills$Line" "units") := ⟨tw_2 (List.mem_of_getElem? (i := 138) (by decide +kernel)), rfl⟩
theorem k_379 : gw (.laysFinal "PortBills$Line" "PortBills$Line" "charged" "I") := ⟨tw_2 (List.mem_of_getElem? (i := 139) (by decide +kernel)), rfl⟩
theorem k_380 : gw (.soleField "PortBills$Line" "charged") := ⟨tw_2 (List.mem_of_getElem? (i := 140) (by decide +kernel)), rfl⟩
theorem k_381 : gw (.laysFinal "PortBills$Line" "PortBills$Line" "cents" "J") := ⟨tw_2 (List.mem_of_getElem? (i := 141) (by decide +kernel)), rfl⟩
theorem k_382 : gw (.soleField "PortBills$Line" "cents") := ⟨tw_2 (List.mem_of_getElem? (i := 142) (by decide +kernel)), rfl⟩
theorem k_383 : gw (.laysFinal "PortBills$Line" "PortBills$Line" "corrects" "I") := ⟨tw_2 (List.mem_of_getElem? (i := 143) (by decide +kernel)), rfl⟩
theorem k_384 : gw (.soleField "PortBills$Line" "corrects") := ⟨tw_2 (List.mem_of_getElem? (i := 144) (by decide +kernel)), rfl⟩
theorem k_385 : gw (.laysFinal "PortBills$Line" "PortBills$Line" "byFallback" "Z") := ⟨tw_2 (List.mem_of_getElem? (i := 145) (by decide +kernel)), rfl⟩
theorem k_386 : gw (.soleField "PortBills$Line" "byFallback") := ⟨tw_2 (List.mem_of_getElem? (i := 146) (by decide +kernel)), rfl⟩
theorem k_387 : gw (.lays "PortBills$Line" "PortBills$Line" "disputed" "Z") := ⟨tw_2 (List.mem_of_getElem? (i := 147) (by decide +kernel)), rfl⟩
theorem k_388 : gw (.soleField "PortBills$Line" "disputed") := ⟨tw_2 (List.mem_of_getElem? (i := 148) (by decide +kernel)), rfl⟩
theorem k_389 : gw (.lays "PortBills$Line" "PortBills$Line" "corrected" "J") := ⟨tw_2 (List.mem_of_getElem? (i := 149) (by decide +kernel)), rfl⟩
theorem k_390 : gw (.soleField "PortBills$Line" "corrected") := ⟨tw_2 (List.mem_of_getElem? (i := 150) (by decide +kernel)), rfl⟩
theorem k_391 : gw (.superclass "PortBills$Line" "java/lang/Object") := ⟨tw_2 (List.mem_of_getElem? (i := 151) (by decide +kernel)), rfl⟩
theorem k_392 : gw (.methodLink "PortBills" 118 y_AL_add) := ⟨tw_2 (List.mem_of_getElem? (i := 152) (by decide +kernel)), rfl⟩
theorem k_393 : gw (.instanceMethod y_AL_add) := ⟨tw_2 (List.mem_of_getElem? (i := 153) (by decide +kernel)), rfl⟩
theorem k_394 : gw (.selects "java/util/ArrayList" y_AL_add y_AL_add) := ⟨tw_2 (List.mem_of_getElem? (i := 154) (by decide +kernel)), rfl⟩
theorem k_395 : gw (.code y_AL_add b_AL_add 2 (some .boolean)) := ⟨tw_2 (List.mem_of_getElem? (i := 155) (by decide +kernel)), rfl⟩
theorem k_396 : gw (.methodLink "java/util/ArrayList" 131 y_AL_add2) := ⟨tw_2 (List.mem_of_getElem? (i := 156) (by decide +kernel)), rfl⟩
theorem kt_397 : (.privateMethod y_AL_add2 : Cond) ∈ lw_tbl := tw_2 (List.mem_of_getElem? (i := 157) (by decide +kernel))
theorem k_398 : gw (.instanceMethod y_AL_add2) := ⟨tw_2 (List.mem_of_getElem? (i := 158) (by decide +kernel)), rfl⟩
theorem k_399 : gw (.code y_AL_add2 b_AL_add2 4 none) := ⟨tw_2 (List.mem_of_getElem? (i := 159) (by decide +kernel)), rfl⟩
theorem k_400 : gw (.methodLink "java/util/ArrayList" 129 y_AL_grow) := ⟨tw_2 (List.mem_of_getElem? (i := 160) (by decide +kernel)), rfl⟩
theorem kt_401 : (.privateMethod y_AL_grow : Cond) ∈ lw_tbl := tw_2 (List.mem_of_getElem? (i := 161) (by decide +kernel))
theorem k_402 : gw (.instanceMethod y_AL_grow) := ⟨tw_2 (List.mem_of_getElem? (i := 162) (by decide +kernel)), rfl⟩
theorem k_403 : gw (.code y_AL_grow b_AL_grow 1 (some (.array (.object "java/lang/Object")))) := ⟨tw_2 (List.mem_of_getElem? (i := 163) (by decide +kernel)), rfl⟩
theorem k_404 : gw (.methodLink "java/util/ArrayList" 69 y_AL_grow2) := ⟨tw_2 (List.mem_of_getElem? (i := 164) (by decide +kernel)), rfl⟩
theorem kt_405 : (.privateMethod y_AL_grow2 : Cond) ∈ lw_tbl := tw_2 (List.mem_of_getElem? (i := 165) (by decide +kernel))
theorem k_406 : gw (.instanceMethod y_AL_grow2) := ⟨tw_2 (List.mem_of_getElem? (i := 166) (by decide +kernel)), rfl⟩
theorem k_407 : gw (.code y_AL_grow2 b_AL_grow2 4 (some (.array (.object "java/lang/Object")))) := ⟨tw_2 (List.mem_of_getElem? (i := 167) (by decide +kernel)), rfl⟩
theorem k_408 : gw (.methodLink "java/util/ArrayList" 73 y_AS_newLength) := ⟨tw_2 (List.mem_of_getElem? (i := 168) (by decide +kernel)), rfl⟩
theorem k_409 : gw (.static y_AS_newLength) := ⟨tw_2 (List.mem_of_getElem? (i := 169) (by decide +kernel)), rfl⟩
theorem k_410 : gw (.code y_AS_newLength b_AS_newLength 4 (some .int)) := ⟨tw_2 (List.mem_of_getElem? (i := 170) (by decide +kernel)), rfl⟩
theorem k_411 : gw (.methodLink "jdk/internal/util/ArraysSupport" 194 ⟨"java/lang/Math", "max", "(II)I"⟩) := ⟨tw_2 (List.mem_of_getElem? (i := 171) (by decide +kernel)), rfl⟩
theorem k_412 : gw (.constant "jdk/internal/util/ArraysSupport" 200 2147483639) := ⟨tw_2 (List.mem_of_getElem? (i := 172) (by decide +kernel)), rfl⟩
theorem k_413 : gw (.methodLink "jdk/internal/util/ArraysSupport" 201 y_AS_hugeLength) := ⟨tw_2 (List.mem_of_getElem? (i := 173) (by decide +kernel)), rfl⟩
theorem k_414 : gw (.static y_AS_hugeLength) := ⟨tw_2 (List.mem_of_getElem? (i := 174) (by decide +kernel)), rfl⟩
theorem k_415 : gw (.code y_AS_hugeLength b_AS_hugeLength 3 (some .int)) := ⟨tw_2 (List.mem_of_getElem? (i := 175) (by decide +kernel)), rfl⟩
theorem k_416 : gw (.methodLink "java/util/ArrayList" 66 y_AR_copyOf) := ⟨tw_2 (List.mem_of_getElem? (i := 176) (by decide +kernel)), rfl⟩
theorem k_417 : gw (.static y_AR_copyOf) := ⟨tw_2 (List.mem_of_getElem? (i := 177) (by decide +kernel)), rfl⟩
theorem k_418 : gw (.code y_AR_copyOf b_AR_copyOf 2 (some (.array (.object "java/lang/Object")))) := ⟨tw_2 (List.mem_of_getElem? (i := 178) (by decide +kernel)), rfl⟩
theorem k_419 : gw (.methodLink "java/util/Arrays" 86 ⟨"java/lang/Object", "getClass", "()Ljava/lang/Class;"⟩) := ⟨tw_2 (List.mem_of_getElem? (i := 179) (by decide +kernel)), rfl⟩
theorem k_420 : gw (.instanceMethod ⟨"java/lang/Object", "getClass", "()Ljava/lang/Class;"⟩) := ⟨tw_2 (List.mem_of_getElem? (i := 180) (by decide +kernel)), rfl⟩
theorem k_421 : gw (.sameMethod "java/lang/Object" "java/lang/Object" "getClass" "()Ljava/lang/Class;") := ⟨tw_2 (List.mem_of_getElem? (i := 181) (by decide +kernel)), rfl⟩
theorem k_422 : gw (.selects "PortBills" ⟨"java/lang/Object", "getClass", "()Ljava/lang/Class;"⟩ ⟨"java/lang/Object", "getClass", "()Ljava/lang/Class;"⟩) := ⟨tw_2 (List.mem_of_getElem? (i := 182) (by decide +kernel)), rfl⟩
theorem k_423 : gw (.selects "PortBills$Line" ⟨"java/lang/Object", "getClass", "()Ljava/lang/Class;"⟩ ⟨"java/lang/Object", "getClass", "()Ljava/lang/Class;"⟩) := ⟨tw_2 (List.mem_of_getElem? (i := 183) (by decide +kernel)), rfl⟩
theorem k_424 : gw (.selects "PortBills$TariffText" ⟨"java/lang/Object", "getClass", "()Ljava/lang/Class;"⟩ ⟨"java/lang/Object", "getClass", "()Ljava/lang/Class;"⟩) := ⟨tw_2 (List.mem_of_getElem? (i := 184) (by decide +kernel)), rfl⟩
theorem k_425 : gw (.selects "PortBillsModel" ⟨"java/lang/Object", "getClass", "()Ljava/lang/Class;"⟩ ⟨"java/lang/Object", "getClass", "()Ljava/lang/Class;"⟩) := ⟨tw_2 (List.mem_of_getElem? (i := 185) (by decide +kernel)), rfl⟩
theorem k_426 : gw (.selects "java/lang/ArithmeticException" ⟨"java/lang/Object", "getClass", "()Ljava/lang/Class;"⟩ ⟨"java/lang/Object", "getClass", "()Ljava/lang/Class;"⟩) := ⟨tw_2 (List.mem_of_getElem? (i := 186) (by decide +kernel)), rfl⟩
theorem k_427 : gw (.selects "java/lang/IllegalArgumentException" ⟨"java/lang/Object", "getClass", "()Ljava/lang/Class;"⟩ ⟨"java/lang/Object", "getClass", "()Ljava/lang/Class;"⟩) := ⟨tw_2 (List.mem_of_getElem? (i := 187) (by decide +kernel)), rfl⟩
theorem k_428 : gw (.selects "java/lang/IllegalStateException" ⟨"java/lang/Object", "getClass", "()Ljava/lang/Class;"⟩ ⟨"java/lang/Object", "getClass", "()Ljava/lang/Class;"⟩) := ⟨tw_2 (List.mem_of_getElem? (i := 188) (by decide +kernel)), rfl⟩
theorem k_429 : gw (.selects "java/lang/IndexOutOfBoundsException" ⟨"java/lang/Object", "getClass", "()Ljava/lang/Class;"⟩ ⟨"java/lang/Object", "getClass", "()Ljava/lang/Class;"⟩) := ⟨tw_2 (List.mem_of_getElem? (i := 189) (by decide +kernel)), rfl⟩
theorem k_430 : gw (.selects "java/util/ArrayList" ⟨"java/lang/Object", "getClass", "()Ljava/lang/Class;"⟩ ⟨"java/lang/Object", "getClass", "()Ljava/lang/Class;"⟩) := ⟨tw_2 (List.mem_of_getElem? (i := 190) (by decide +kernel)), rfl⟩
theorem k_431 : gw (.native ⟨"java/lang/Object", "getClass", "()Ljava/lang/Class;"⟩) := ⟨tw_2 (List.mem_of_getElem? (i := 191) (by decide +kernel)), rfl⟩
theorem k_432 : gw (.methodLink "java/util/Arrays" 300 y_AR_copyOf2) := ⟨tw_2 (List.mem_of_getElem? (i := 192) (by decide +kernel)), rfl⟩
theorem k_433 : gw (.static y_AR_copyOf2) := ⟨tw_2 (List.mem_of_getElem? (i := 193) (by decide +kernel)), rfl⟩
theorem k_434 : gw (.code y_AR_copyOf2 b_AR_copyOf2 4 (some (.array (.object "java/lang/Object")))) := ⟨tw_2 (List.mem_of_getElem? (i := 194) (by decide +kernel)), rfl⟩
theorem k_435 : gw (.classLink "java/util/Arrays" 110 "[Ljava/lang/Object;") := ⟨tw_2 (List.mem_of_getElem? (i := 195) (by decide +kernel)), rfl⟩
theorem kt_436 : (.arrayOver (.object "java/lang/Object") : Cond) ∈ lw_tbl := tw_2 (List.mem_of_getElem? (i := 196) (by decide +kernel))
theorem k_437 : gw (.classLink "java/util/Arrays" 2 "java/lang/Object") := ⟨tw_2 (List.mem_of_getElem? (i := 197) (by decide +kernel)), rfl⟩
theorem k_438 : gw (.methodLink "java/util/Arrays" 304 ⟨"java/lang/Math", "min", "(II)I"⟩) := ⟨tw_2 (List.mem_of_getElem? (i := 198) (by decide +kernel)), rfl⟩
theorem k_439 : gw (.static ⟨"java/lang/Math", "min", "(II)I"⟩) := ⟨tw_2 (List.mem_of_getElem? (i := 199) (by decide +kernel)), rfl⟩
theorem k_440 : gw (.code ⟨"java/lang/Math", "min", "(II)I"⟩ prog_14_method_69_code 2 (some .int)) := ⟨tw_2 (List.mem_of_getElem? (i := 200) (by decide +kernel)), rfl⟩
theorem k_441 : gw (.methodLink "java/util/Arrays" 150 ⟨"java/lang/System", "arraycopy", "(Ljava/lang/Object;ILjava/lang/Object;II)V"⟩) := ⟨tw_2 (List.mem_of_getElem? (i := 201) (by decide +kernel)), rfl⟩
theorem k_442 : gw (.methodLink "java/util/ArrayList" 79 ⟨"java/lang/Math", "max", "(II)I"⟩) := ⟨tw_2 (List.mem_of_getElem? (i := 202) (by decide +kernel)), rfl⟩
theorem k_443 : gw (.classLink "java/util/ArrayList" 7 "java/lang/Object") := ⟨tw_2 (List.mem_of_getElem? (i := 203) (by decide +kernel)), rfl⟩
theorem k_444 : gw (.methodLink "PortBills" 122 y_PB_forgetEvents) := ⟨tw_2 (List.mem_of_getElem? (i := 204) (by decide +kernel)), rfl⟩
theorem kt_445 : (.privateMethod y_PB_forgetEvents : Cond) ∈ lw_tbl := tw_2 (List.mem_of_getElem? (i := 205) (by decide +kernel))
theorem k_446 : gw (.instanceMethod y_PB_forgetEvents) := ⟨tw_2 (List.mem_of_getElem? (i := 206) (by decide +kernel)), rfl⟩
theorem k_447 : gw (.code y_PB_forgetEvents b_PB_forgetEvents 2 none) := ⟨tw_2 (List.mem_of_getElem? (i := 207) (by decide +kernel)), rfl⟩
theorem k_448 : gw (.methodLink "PortBillsLaw" 91 y_LW_correct) := ⟨tw_2 (List.mem_of_getElem? (i := 208) (by decide +kernel)), rfl⟩
theorem k_449 : gw (.static y_LW_correct) := ⟨tw_2 (List.mem_of_getElem? (i := 209) (by decide +kernel)), rfl⟩
theorem k_450 : gw (.codeWith y_LW_correct b_LW_correct 6 (some .int) [(0, 11, 14, 13), (0, 11, 18, 19)]) := ⟨tw_2 (List.mem_of_getElem? (i := 210) (by decide +kernel)), rfl⟩
theorem k_451 : gw (.methodLink "PortBillsLaw" 25 y_PB_correct) := ⟨tw_2 (List.mem_of_getElem? (i := 211) (by decide +kernel)), rfl⟩
theorem k_452 : gw (.instanceMethod y_PB_correct) := ⟨tw_2 (List.mem_of_getElem? (i := 212) (by decide +kernel)), rfl⟩
theorem k_453 : gw (.selects "PortBills" y_PB_correct y_PB_correct) := ⟨tw_2 (List.mem_of_getElem? (i := 213) (by decide +kernel)), rfl⟩
theorem k_454 : gw (.code y_PB_correct b_PB_correct 6 (some .int)) := ⟨tw_2 (List.mem_of_getElem? (i := 214) (by decide +kernel)), rfl⟩
theorem k_455 : gw (.methodLink "PortBills" 126 y_PB_isLine) := ⟨tw_2 (List.mem_of_getElem? (i := 215) (by decide +kernel)), rfl⟩
theorem kt_456 : (.privateMethod y_PB_isLine : Cond) ∈ lw_tbl := tw_2 (List.mem_of_getElem? (i := 216) (by decide +kernel))
theorem k_457 : gw (.instanceMethod y_PB_isLine) := ⟨tw_2 (List.mem_of_getElem? (i := 217) (by decide +kernel)), rfl⟩
theorem k_458 : gw (.code y_PB_isLine b_PB_isLine 2 (some .boolean)) := ⟨tw_2 (List.mem_of_getElem? (i := 218) (by decide +kernel)), rfl⟩
theorem k_459 : gw (.constantLong "PortBills" 129 1000000000000) := ⟨tw_2 (List.mem_of_getElem? (i := 219) (by decide +kernel)), rfl⟩
theorem kt_460 : (.stringRef "PortBills" 131 "no such line or cents" : Cond) ∈ lw_tbl := tw_2 (List.mem_of_getElem? (i := 220) (by decide +kernel))
theorem kt_461 : (.stringRef "PortBills" 133 "no room for the line" : Cond) ∈ lw_tbl := tw_2 (List.mem_of_getElem? (i := 221) (by decide +kernel))
theorem kn_462 : gn (.methodLinkNest "PortBills" 141 y_LN_isCorrection "PortBills") := ⟨tw_2 (List.mem_of_getElem? (i := 222) (by decide +kernel)), rfl⟩
theorem kt_463 : (.privateMethod y_LN_isCorrection : Cond) ∈ lw_tbl := tw_2 (List.mem_of_getElem? (i := 223) (by decide +kernel))
theorem k_464 : gw (.instanceMethod y_LN_isCorrection) := ⟨tw_2 (List.mem_of_getElem? (i := 224) (by decide +kernel)), rfl⟩
theorem k_465 : gw (.code y_LN_isCorrection b_LN_isCorrection 1 (some .boolean)) := ⟨tw_2 (List.mem_of_getElem? (i := 225) (by decide +kernel)), rfl⟩
theorem k_466 : gw (.methodLink "PortBillsLaw" 95 y_LW_dispute) := ⟨tw_2 (List.mem_of_getElem? (i := 226) (by decide +kernel)), rfl⟩
theorem k_467 : gw (.static y_LW_dispute) := ⟨tw_2 (List.mem_of_getElem? (i := 227) (by decide +kernel)), rfl⟩
theorem k_468 : gw (.codeWith y_LW_dispute b_LW_dispute 5 (some .int) [(0, 10, 13, 13)]) := ⟨tw_2 (List.mem_of_getElem? (i := 228) (by decide +kernel)), rfl⟩
theorem k_469 : gw (.methodLink "PortBillsLaw" 29 y_PB_dispute) := ⟨tw_2 (List.mem_of_getElem? (i := 229) (by decide +kernel)), rfl⟩
theorem k_470 : gw (.instanceMethod y_PB_dispute) := ⟨tw_2 (List.mem_of_getElem? (i := 230) (by decide +kernel)), rfl⟩
theorem k_471 : gw (.selects "PortBills" y_PB_dispute y_PB_dispute) := ⟨tw_2 (List.mem_of_getElem? (i := 231) (by decide +kernel)), rfl⟩
theorem k_472 : gw (.code y_PB_dispute b_PB_dispute 6 (some .int)) := ⟨tw_2 (List.mem_of_getElem? (i := 232) (by decide +kernel)), rfl⟩
theorem kt_473 : (.stringRef "PortBills" 162 "no such line" : Cond) ∈ lw_tbl := tw_2 (List.mem_of_getElem? (i := 233) (by decide +kernel))
theorem k_474 : gw (.methodLink "PortBillsLaw" 99 y_LW_pay) := ⟨tw_2 (List.mem_of_getElem? (i := 234) (by decide +kernel)), rfl⟩
theorem k_475 : gw (.static y_LW_pay) := ⟨tw_2 (List.mem_of_getElem? (i := 235) (by decide +kernel)), rfl⟩
theorem k_476 : gw (.codeWith y_LW_pay b_LW_pay 6 (some .int) [(0, 10, 13, 13)]) := ⟨tw_2 (List.mem_of_getElem? (i := 236) (by decide +kernel)), rfl⟩
theorem k_477 : gw (.methodLink "PortBillsLaw" 33 y_PB_pay) := ⟨tw_2 (List.mem_of_getElem? (i := 237) (by decide +kernel)), rfl⟩
theorem k_478 : gw (.instanceMethod y_PB_pay) := ⟨tw_2 (List.mem_of_getElem? (i := 238) (by decide +kernel)), rfl⟩
theorem k_479 : gw (.selects "PortBills" y_PB_pay y_PB_pay) := ⟨tw_2 (List.mem_of_getElem? (i := 239) (by decide +kernel)), rfl⟩
theorem k_480 : gw (.code y_PB_pay b_PB_pay 4 (some .long)) := ⟨tw_3 (List.mem_of_getElem? (i := 0) (by decide +kernel)), rfl⟩
theorem kt_481 : (.stringRef "PortBills" 167 "no such call or cents" : Cond) ∈ lw_tbl := tw_3 (List.mem_of_getElem? (i := 1) (by decide +kernel))
theorem k_482 : gw (.methodLink "PortBills" 169 y_PB_owedNow) := ⟨tw_3 (List.mem_of_getElem? (i := 2) (by decide +kernel)), rfl⟩
theorem kt_483 : (.privateMethod y_PB_owedNow : Cond) ∈ lw_tbl := tw_3 (List.mem_of_getElem? (i := 3) (by decide +kernel))
theorem k_484 : gw (.instanceMethod y_PB_owedNow) := ⟨tw_3 (List.mem_of_getElem? (i := 4) (by decide +kernel)), rfl⟩
theorem k_485 : gw (.code y_PB_owedNow b_PB_owedNow 6 (some .long)) := ⟨tw_3 (List.mem_of_getElem? (i := 5) (by decide +kernel)), rfl⟩
theorem k_486 : gw (.methodLink "PortBillsLaw" 102 y_LW_unpaid) := ⟨tw_3 (List.mem_of_getElem? (i := 6) (by decide +kernel)), rfl⟩
theorem k_487 : gw (.static y_LW_unpaid) := ⟨tw_3 (List.mem_of_getElem? (i := 7) (by decide +kernel)), rfl⟩
theorem k_488 : gw (.codeWith y_LW_unpaid b_LW_unpaid 4 (some .int) [(0, 8, 11, 13)]) := ⟨tw_3 (List.mem_of_getElem? (i := 8) (by decide +kernel)), rfl⟩
theorem k_489 : gw (.methodLink "PortBillsLaw" 37 y_PB_unpaid) := ⟨tw_3 (List.mem_of_getElem? (i := 9) (by decide +kernel)), rfl⟩
theorem k_490 : gw (.instanceMethod y_PB_unpaid) := ⟨tw_3 (List.mem_of_getElem? (i := 10) (by decide +kernel)), rfl⟩
theorem k_491 : gw (.selects "PortBills" y_PB_unpaid y_PB_unpaid) := ⟨tw_3 (List.mem_of_getElem? (i := 11) (by decide +kernel)), rfl⟩
theorem k_492 : gw (.code y_PB_unpaid b_PB_unpaid 2 (some .long)) := ⟨tw_3 (List.mem_of_getElem? (i := 12) (by decide +kernel)), rfl⟩
theorem k_493 : gw (.methodLink "PortBillsLaw" 105 y_LW_share) := ⟨tw_3 (List.mem_of_getElem? (i := 13) (by decide +kernel)), rfl⟩
theorem k_494 : gw (.static y_LW_share) := ⟨tw_3 (List.mem_of_getElem? (i := 14) (by decide +kernel)), rfl⟩
theorem k_495 : gw (.codeWith y_LW_share b_LW_share 7 (some .int) [(0, 12, 15, 13), (0, 12, 19, 45)]) := ⟨tw_3 (List.mem_of_getElem? (i := 15) (by decide +kernel)), rfl⟩
theorem k_496 : gw (.classLink "PortBillsLaw" 45 "java/lang/ArithmeticException") := ⟨tw_3 (List.mem_of_getElem? (i := 16) (by decide +kernel)), rfl⟩
theorem k_497 : gw (.methodLink "PortBillsLaw" 41 y_PB_share) := ⟨tw_3 (List.mem_of_getElem? (i := 17) (by decide +kernel)), rfl⟩
theorem k_498 : gw (.instanceMethod y_PB_share) := ⟨tw_3 (List.mem_of_getElem? (i := 18) (by decide +kernel)), rfl⟩
theorem k_499 : gw (.selects "PortBills" y_PB_share y_PB_share) := ⟨tw_3 (List.mem_of_getElem? (i := 19) (by decide +kernel)), rfl⟩
theorem k_500 : gw (.code y_PB_share b_PB_share 5 (some .long)) := ⟨tw_3 (List.mem_of_getElem? (i := 20) (by decide +kernel)), rfl⟩
theorem k_501 : gw (.methodLink "PortBills" 173 y_PB_isKey) := ⟨tw_3 (List.mem_of_getElem? (i := 21) (by decide +kernel)), rfl⟩
theorem k_502 : gw (.static y_PB_isKey) := ⟨tw_3 (List.mem_of_getElem? (i := 22) (by decide +kernel)), rfl⟩
theorem k_503 : gw (.code y_PB_isKey b_PB_isKey 1 (some .boolean)) := ⟨tw_3 (List.mem_of_getElem? (i := 23) (by decide +kernel)), rfl⟩
theorem k_504 : gw (.constant "PortBills" 204 1000000) := ⟨tw_3 (List.mem_of_getElem? (i := 24) (by decide +kernel)), rfl⟩
theorem kt_505 : (.stringRef "PortBills" 176 "no such cents or keys" : Cond) ∈ lw_tbl := tw_3 (List.mem_of_getElem? (i := 25) (by decide +kernel))
theorem k_506 : gw (.classLink "PortBills" 178 "java/lang/ArithmeticException") := ⟨tw_3 (List.mem_of_getElem? (i := 26) (by decide +kernel)), rfl⟩
theorem k_507 : gw (.instantiable "java/lang/ArithmeticException" 6) := ⟨tw_3 (List.mem_of_getElem? (i := 27) (by decide +kernel)), rfl⟩
theorem kt_508 : (.castable "java/lang/ArithmeticException" "java/lang/ArithmeticException" : Cond) ∈ lw_tbl := tw_3 (List.mem_of_getElem? (i := 28) (by decide +kernel))
theorem k_509 : gw (.selects "java/lang/ArithmeticException" ⟨"java/lang/Throwable", "fillInStackTrace", "(I)Ljava/lang/Throwable;"⟩ ⟨"java/lang/Throwable", "fillInStackTrace", "(I)Ljava/lang/Throwable;"⟩) := ⟨tw_3 (List.mem_of_getElem? (i := 29) (by decide +kernel)), rfl⟩
theorem k_510 : gw (.lays "java/lang/ArithmeticException" "java/lang/Throwable" "cause" "Ljava/lang/Throwable;") := ⟨tw_3 (List.mem_of_getElem? (i := 30) (by decide +kernel)), rfl⟩
theorem k_511 : gw (.lays "java/lang/ArithmeticException" "java/lang/Throwable" "stackTrace" "[Ljava/lang/StackTraceElement;") := ⟨tw_3 (List.mem_of_getElem? (i := 31) (by decide +kernel)), rfl⟩
theorem k_512 : gw (.lays "java/lang/ArithmeticException" "java/lang/Throwable" "suppressedExceptions" "Ljava/util/List;") := ⟨tw_3 (List.mem_of_getElem? (i := 32) (by decide +kernel)), rfl⟩
theorem k_513 : gw (.lays "java/lang/ArithmeticException" "java/lang/Throwable" "detailMessage" "Ljava/lang/String;") := ⟨tw_3 (List.mem_of_getElem? (i := 33) (by decide +kernel)), rfl⟩
theorem k_514 : gw (.lays "java/lang/ArithmeticException" "java/lang/Throwable" "backtrace" "Ljava/lang/Object;") := ⟨tw_3 (List.mem_of_getElem? (i := 34) (by decide +kernel)), rfl⟩
theorem kt_515 : (.stringRef "PortBills" 180 "no keys at all" : Cond) ∈ lw_tbl := tw_3 (List.mem_of_getElem? (i := 35) (by decide +kernel))
theorem k_516 : gw (.methodLink "PortBills" 182 ⟨"java/lang/ArithmeticException", "<init>", "(Ljava/lang/String;)V"⟩) := ⟨tw_3 (List.mem_of_getElem? (i := 36) (by decide +kernel)), rfl⟩
theorem k_517 : gw (.instanceMethod ⟨"java/lang/ArithmeticException", "<init>", "(Ljava/lang/String;)V"⟩) := ⟨tw_3 (List.mem_of_getElem? (i := 37) (by decide +kernel)), rfl⟩
theorem k_518 : gw (.code ⟨"java/lang/ArithmeticException", "<init>", "(Ljava/lang/String;)V"⟩ prog_7_method_2_code 2 none) := ⟨tw_3 (List.mem_of_getElem? (i := 38) (by decide +kernel)), rfl⟩
theorem k_519 : gw (.methodLink "java/lang/ArithmeticException" 7 ⟨"java/lang/RuntimeException", "<init>", "(Ljava/lang/String;)V"⟩) := ⟨tw_3 (List.mem_of_getElem? (i := 39) (by decide +kernel)), rfl⟩
theorem k_520 : gw (.lays "java/lang/ArithmeticException" "java/lang/Throwable" "depth" "I") := ⟨tw_3 (List.mem_of_getElem? (i := 40) (by decide +kernel)), rfl⟩
theorem k_521 : gw (.superclass "java/lang/ArithmeticException" "java/lang/RuntimeException") := ⟨tw_3 (List.mem_of_getElem? (i := 41) (by decide +kernel)), rfl⟩
theorem k_522 : gw (.methodLink "PortBillsLaw" 109 y_LW_line) := ⟨tw_3 (List.mem_of_getElem? (i := 42) (by decide +kernel)), rfl⟩
theorem k_523 : gw (.static y_LW_line) := ⟨tw_3 (List.mem_of_getElem? (i := 43) (by decide +kernel)), rfl⟩
theorem k_524 : gw (.codeWith y_LW_line b_LW_line 5 (some .int) [(0, 9, 12, 51)]) := ⟨tw_3 (List.mem_of_getElem? (i := 44) (by decide +kernel)), rfl⟩
theorem k_525 : gw (.classLink "PortBillsLaw" 51 "java/lang/IndexOutOfBoundsException") := ⟨tw_3 (List.mem_of_getElem? (i := 45) (by decide +kernel)), rfl⟩
theorem k_526 : gw (.methodLink "PortBillsLaw" 47 y_PB_line) := ⟨tw_3 (List.mem_of_getElem? (i := 46) (by decide +kernel)), rfl⟩
theorem k_527 : gw (.instanceMethod y_PB_line) := ⟨tw_3 (List.mem_of_getElem? (i := 47) (by decide +kernel)), rfl⟩
theorem k_528 : gw (.selects "PortBills" y_PB_line y_PB_line) := ⟨tw_3 (List.mem_of_getElem? (i := 48) (by decide +kernel)), rfl⟩
theorem k_529 : gw (.code y_PB_line b_PB_line 3 (some .long)) := ⟨tw_3 (List.mem_of_getElem? (i := 49) (by decide +kernel)), rfl⟩
theorem k_530 : gw (.classLink "PortBills" 187 "java/lang/IndexOutOfBoundsException") := ⟨tw_3 (List.mem_of_getElem? (i := 50) (by decide +kernel)), rfl⟩
theorem k_531 : gw (.instantiable "java/lang/IndexOutOfBoundsException" 6) := ⟨tw_3 (List.mem_of_getElem? (i := 51) (by decide +kernel)), rfl⟩
theorem kt_532 : (.castable "java/lang/IndexOutOfBoundsException" "java/lang/IndexOutOfBoundsException" : Cond) ∈ lw_tbl := tw_3 (List.mem_of_getElem? (i := 52) (by decide +kernel))
theorem k_533 : gw (.selects "java/lang/IndexOutOfBoundsException" ⟨"java/lang/Throwable", "fillInStackTrace", "(I)Ljava/lang/Throwable;"⟩ ⟨"java/lang/Throwable", "fillInStackTrace", "(I)Ljava/lang/Throwable;"⟩) := ⟨tw_3 (List.mem_of_getElem? (i := 53) (by decide +kernel)), rfl⟩
theorem k_534 : gw (.lays "java/lang/IndexOutOfBoundsException" "java/lang/Throwable" "cause" "Ljava/lang/Throwable;") := ⟨tw_3 (List.mem_of_getElem? (i := 54) (by decide +kernel)), rfl⟩
theorem k_535 : gw (.lays "java/lang/IndexOutOfBoundsException" "java/lang/Throwable" "stackTrace" "[Ljava/lang/StackTraceElement;") := ⟨tw_3 (List.mem_of_getElem? (i := 55) (by decide +kernel)), rfl⟩
theorem k_536 : gw (.lays "java/lang/IndexOutOfBoundsException" "java/lang/Throwable" "suppressedExceptions" "Ljava/util/List;") := ⟨tw_3 (List.mem_of_getElem? (i := 56) (by decide +kernel)), rfl⟩
theorem k_537 : gw (.lays "java/lang/IndexOutOfBoundsException" "java/lang/Throwable" "detailMessage" "Ljava/lang/String;") := ⟨tw_3 (List.mem_of_getElem? (i := 57) (by decide +kernel)), rfl⟩
theorem k_538 : gw (.lays "java/lang/IndexOutOfBoundsException" "java/lang/Throwable" "backtrace" "Ljava/lang/Object;") := ⟨tw_3 (List.mem_of_getElem? (i := 58) (by decide +kernel)), rfl⟩
theorem kt_539 : (.stringRef "PortBills" 189 "no such line or what" : Cond) ∈ lw_tbl := tw_3 (List.mem_of_getElem? (i := 59) (by decide +kernel))
theorem k_540 : gw (.methodLink "PortBills" 191 ⟨"java/lang/IndexOutOfBoundsException", "<init>", "(Ljava/lang/String;)V"⟩) := ⟨tw_3 (List.mem_of_getElem? (i := 60) (by decide +kernel)), rfl⟩
theorem k_541 : gw (.instanceMethod ⟨"java/lang/IndexOutOfBoundsException", "<init>", "(Ljava/lang/String;)V"⟩) := ⟨tw_3 (List.mem_of_getElem? (i := 61) (by decide +kernel)), rfl⟩
theorem k_542 : gw (.code ⟨"java/lang/IndexOutOfBoundsException", "<init>", "(Ljava/lang/String;)V"⟩ prog_12_method_2_code 2 none) := ⟨tw_3 (List.mem_of_getElem? (i := 62) (by decide +kernel)), rfl⟩
theorem k_543 : gw (.methodLink "java/lang/IndexOutOfBoundsException" 7 ⟨"java/lang/RuntimeException", "<init>", "(Ljava/lang/String;)V"⟩) := ⟨tw_3 (List.mem_of_getElem? (i := 63) (by decide +kernel)), rfl⟩
theorem k_544 : gw (.lays "java/lang/IndexOutOfBoundsException" "java/lang/Throwable" "depth" "I") := ⟨tw_3 (List.mem_of_getElem? (i := 64) (by decide +kernel)), rfl⟩
theorem k_545 : gw (.superclass "java/lang/IndexOutOfBoundsException" "java/lang/RuntimeException") := ⟨tw_3 (List.mem_of_getElem? (i := 65) (by decide +kernel)), rfl⟩
theorem kn_546 : gn (.methodLinkNest "PortBills" 192 y_LN_part "PortBills") := ⟨tw_3 (List.mem_of_getElem? (i := 66) (by decide +kernel)), rfl⟩
theorem kt_547 : (.privateMethod y_LN_part : Cond) ∈ lw_tbl := tw_3 (List.mem_of_getElem? (i := 67) (by decide +kernel))
theorem k_548 : gw (.instanceMethod y_LN_part) := ⟨tw_3 (List.mem_of_getElem? (i := 68) (by decide +kernel)), rfl⟩
theorem k_549 : gw (.code y_LN_part b_LN_part 2 (some .long)) := ⟨tw_3 (List.mem_of_getElem? (i := 69) (by decide +kernel)), rfl⟩
theorem k_550 : gw (.classLink "PortBillsLaw" 54 "PortBillsModel") := ⟨tw_3 (List.mem_of_getElem? (i := 70) (by decide +kernel)), rfl⟩
theorem k_551 : gw (.instantiable "PortBillsModel" 23) := ⟨tw_3 (List.mem_of_getElem? (i := 71) (by decide +kernel)), rfl⟩
theorem k_552 : gw (.methodLink "PortBillsLaw" 56 y_MD_init) := ⟨tw_3 (List.mem_of_getElem? (i := 72) (by decide +kernel)), rfl⟩
theorem k_553 : gw (.instanceMethod y_MD_init) := ⟨tw_3 (List.mem_of_getElem? (i := 73) (by decide +kernel)), rfl⟩
theorem k_554 : gw (.code y_MD_init b_MD_init 1 none) := ⟨tw_3 (List.mem_of_getElem? (i := 74) (by decide +kernel)), rfl⟩
theorem k_555 : gw (.methodLink "PortBillsModel" 1 ⟨"java/lang/Object", "<init>", "()V"⟩) := ⟨tw_3 (List.mem_of_getElem? (i := 75) (by decide +kernel)), rfl⟩
theorem k_556 : gw (.fieldLink "PortBillsModel" 63 "PortBillsModel" "thrown" "I") := ⟨tw_3 (List.mem_of_getElem? (i := 76) (by decide +kernel)), rfl⟩
theorem k_557 : gw (.fieldLink "PortBillsModel" 7 "PortBillsModel" "text" "[I") := ⟨tw_3 (List.mem_of_getElem? (i := 77) (by decide +kernel)), rfl⟩
theorem k_558 : gw (.fieldLink "PortBillsModel" 75 "PortBillsModel" "signs" "I") := ⟨tw_3 (List.mem_of_getElem? (i := 78) (by decide +kernel)), rfl⟩
theorem k_559 : gw (.fieldLink "PortBillsModel" 78 "PortBillsModel" "tariffs" "I") := ⟨tw_3 (List.mem_of_getElem? (i := 79) (by decide +kernel)), rfl⟩
theorem k_560 : gw (.fieldLink "PortBillsModel" 13 "PortBillsModel" "told" "[I") := ⟨tw_3 (List.mem_of_getElem? (i := 80) (by decide +kernel)), rfl⟩
theorem k_561 : gw (.fieldLink "PortBillsModel" 81 "PortBillsModel" "newTariffs" "I") := ⟨tw_3 (List.mem_of_getElem? (i := 81) (by decide +kernel)), rfl⟩
theorem k_562 : gw (.fieldLink "PortBillsModel" 110 "PortBillsModel" "waiting" "I") := ⟨tw_3 (List.mem_of_getElem? (i := 82) (by decide +kernel)), rfl⟩
theorem k_563 : gw (.fieldLink "PortBillsModel" 16 "PortBillsModel" "eventCall" "[I") := ⟨tw_3 (List.mem_of_getElem? (i := 83) (by decide +kernel)), rfl⟩
theorem k_564 : gw (.fieldLink "PortBillsModel" 19 "PortBillsModel" "eventKind" "[I") := ⟨tw_3 (List.mem_of_getElem? (i := 84) (by decide +kernel)), rfl⟩
theorem k_565 : gw (.fieldLink "PortBillsModel" 22 "PortBillsModel" "eventUnits" "[I") := ⟨tw_3 (List.mem_of_getElem? (i := 85) (by decide +kernel)), rfl⟩
theorem k_566 : gw (.fieldLink "PortBillsModel" 25 "PortBillsModel" "discounts" "[I") := ⟨tw_3 (List.mem_of_getElem? (i := 86) (by decide +kernel)), rfl⟩
theorem k_567 : gw (.fieldLink "PortBillsModel" 28 "PortBillsModel" "discountUp" "[I") := ⟨tw_3 (List.mem_of_getElem? (i := 87) (by decide +kernel)), rfl⟩
theorem k_568 : gw (.fieldLink "PortBillsModel" 31 "PortBillsModel" "discountDown" "[I") := ⟨tw_3 (List.mem_of_getElem? (i := 88) (by decide +kernel)), rfl⟩
theorem k_569 : gw (.fieldLink "PortBillsModel" 118 "PortBillsModel" "lines" "I") := ⟨tw_3 (List.mem_of_getElem? (i := 89) (by decide +kernel)), rfl⟩
theorem k_570 : gw (.fieldLink "PortBillsModel" 34 "PortBillsModel" "lineCall" "[I") := ⟨tw_3 (List.mem_of_getElem? (i := 90) (by decide +kernel)), rfl⟩
theorem k_571 : gw (.fieldLink "PortBillsModel" 37 "PortBillsModel" "lineKind" "[I") := ⟨tw_3 (List.mem_of_getElem? (i := 91) (by decide +kernel)), rfl⟩
theorem k_572 : gw (.fieldLink "PortBillsModel" 40 "PortBillsModel" "lineUnits" "[I") := ⟨tw_3 (List.mem_of_getElem? (i := 92) (by decide +kernel)), rfl⟩
theorem k_573 : gw (.fieldLink "PortBillsModel" 43 "PortBillsModel" "lineCharged" "[I") := ⟨tw_3 (List.mem_of_getElem? (i := 93) (by decide +kernel)), rfl⟩
theorem k_574 : gw (.fieldLink "PortBillsModel" 46 "PortBillsModel" "lineCents" "[J") := ⟨tw_3 (List.mem_of_getElem? (i := 94) (by decide +kernel)), rfl⟩
theorem k_575 : gw (.fieldLink "PortBillsModel" 50 "PortBillsModel" "corrects" "[I") := ⟨tw_3 (List.mem_of_getElem? (i := 95) (by decide +kernel)), rfl⟩
theorem k_576 : gw (.fieldLink "PortBillsModel" 53 "PortBillsModel" "isDisputed" "[Z") := ⟨tw_3 (List.mem_of_getElem? (i := 96) (by decide +kernel)), rfl⟩
theorem k_577 : gw (.fieldLink "PortBillsModel" 57 "PortBillsModel" "isFallback" "[Z") := ⟨tw_3 (List.mem_of_getElem? (i := 97) (by decide +kernel)), rfl⟩
theorem k_578 : gw (.fieldLink "PortBillsModel" 60 "PortBillsModel" "paid" "[J") := ⟨tw_3 (List.mem_of_getElem? (i := 98) (by decide +kernel)), rfl⟩
theorem k_579 : gw (.lays "PortBillsModel" "PortBillsModel" "thrown" "I") := ⟨tw_3 (List.mem_of_getElem? (i := 99) (by decide +kernel)), rfl⟩
theorem k_580 : gw (.soleField "PortBillsModel" "thrown") := ⟨tw_3 (List.mem_of_getElem? (i := 100) (by decide +kernel)), rfl⟩
theorem k_581 : gw (.laysFinal "PortBillsModel" "PortBillsModel" "text" "[I") := ⟨tw_3 (List.mem_of_getElem? (i := 101) (by decide +kernel)), rfl⟩
theorem k_582 : gw (.soleField "PortBillsModel" "text") := ⟨tw_3 (List.mem_of_getElem? (i := 102) (by decide +kernel)), rfl⟩
theorem k_583 : gw (.lays "PortBillsModel" "PortBillsModel" "signs" "I") := ⟨tw_3 (List.mem_of_getElem? (i := 103) (by decide +kernel)), rfl⟩
theorem k_584 : gw (.soleField "PortBillsModel" "signs") := ⟨tw_3 (List.mem_of_getElem? (i := 104) (by decide +kernel)), rfl⟩
theorem k_585 : gw (.lays "PortBillsModel" "PortBillsModel" "tariffs" "I") := ⟨tw_3 (List.mem_of_getElem? (i := 105) (by decide +kernel)), rfl⟩
theorem k_586 : gw (.soleField "PortBillsModel" "tariffs") := ⟨tw_3 (List.mem_of_getElem? (i := 106) (by decide +kernel)), rfl⟩
theorem k_587 : gw (.laysFinal "PortBillsModel" "PortBillsModel" "told" "[I") := ⟨tw_3 (List.mem_of_getElem? (i := 107) (by decide +kernel)), rfl⟩
theorem k_588 : gw (.soleField "PortBillsModel" "told") := ⟨tw_3 (List.mem_of_getElem? (i := 108) (by decide +kernel)), rfl⟩
theorem k_589 : gw (.lays "PortBillsModel" "PortBillsModel" "newTariffs" "I") := ⟨tw_3 (List.mem_of_getElem? (i := 109) (by decide +kernel)), rfl⟩
theorem k_590 : gw (.soleField "PortBillsModel" "newTariffs") := ⟨tw_3 (List.mem_of_getElem? (i := 110) (by decide +kernel)), rfl⟩
theorem k_591 : gw (.lays "PortBillsModel" "PortBillsModel" "waiting" "I") := ⟨tw_3 (List.mem_of_getElem? (i := 111) (by decide +kernel)), rfl⟩
theorem k_592 : gw (.soleField "PortBillsModel" "waiting") := ⟨tw_3 (List.mem_of_getElem? (i := 112) (by decide +kernel)), rfl⟩
theorem k_593 : gw (.laysFinal "PortBillsModel" "PortBillsModel" "eventCall" "[I") := ⟨tw_3 (List.mem_of_getElem? (i := 113) (by decide +kernel)), rfl⟩
theorem k_594 : gw (.soleField "PortBillsModel" "eventCall") := ⟨tw_3 (List.mem_of_getElem? (i := 114) (by decide +kernel)), rfl⟩
theorem k_595 : gw (.laysFinal "PortBillsModel" "PortBillsModel" "eventKind" "[I") := ⟨tw_3 (List.mem_of_getElem? (i := 115) (by decide +kernel)), rfl⟩
theorem k_596 : gw (.soleField "PortBillsModel" "eventKind") := ⟨tw_3 (List.mem_of_getElem? (i := 116) (by decide +kernel)), rfl⟩
theorem k_597 : gw (.laysFinal "PortBillsModel" "PortBillsModel" "eventUnits" "[I") := ⟨tw_3 (List.mem_of_getElem? (i := 117) (by decide +kernel)), rfl⟩
theorem k_598 : gw (.soleField "PortBillsModel" "eventUnits") := ⟨tw_3 (List.mem_of_getElem? (i := 118) (by decide +kernel)), rfl⟩
theorem k_599 : gw (.laysFinal "PortBillsModel" "PortBillsModel" "discounts" "[I") := ⟨tw_3 (List.mem_of_getElem? (i := 119) (by decide +kernel)), rfl⟩
theorem k_600 : gw (.soleField "PortBillsModel" "discounts") := ⟨tw_3 (List.mem_of_getElem? (i := 120) (by decide +kernel)), rfl⟩
theorem k_601 : gw (.laysFinal "PortBillsModel" "PortBillsModel" "discountUp" "[I") := ⟨tw_3 (List.mem_of_getElem? (i := 121) (by decide +kernel)), rfl⟩
theorem k_602 : gw (.soleField "PortBillsModel" "discountUp") := ⟨tw_3 (List.mem_of_getElem? (i := 122) (by decide +kernel)), rfl⟩
theorem k_603 : gw (.laysFinal "PortBillsModel" "PortBillsModel" "discountDown" "[I") := ⟨tw_3 (List.mem_of_getElem? (i := 123) (by decide +kernel)), rfl⟩
theorem k_604 : gw (.soleField "PortBillsModel" "discountDown") := ⟨tw_3 (List.mem_of_getElem? (i := 124) (by decide +kernel)), rfl⟩
theorem k_605 : gw (.lays "PortBillsModel" "PortBillsModel" "lines" "I") := ⟨tw_3 (List.mem_of_getElem? (i := 125) (by decide +kernel)), rfl⟩
theorem k_606 : gw (.soleField "PortBillsModel" "lines") := ⟨tw_3 (List.mem_of_getElem? (i := 126) (by decide +kernel)), rfl⟩
theorem k_607 : gw (.laysFinal "PortBillsModel" "PortBillsModel" "lineCall" "[I") := ⟨tw_3 (List.mem_of_getElem? (i := 127) (by decide +kernel)), rfl⟩
theorem k_608 : gw (.soleField "PortBillsModel" "lineCall") := ⟨tw_3 (List.mem_of_getElem? (i := 128) (by decide +kernel)), rfl⟩
theorem k_609 : gw (.laysFinal "PortBillsModel" "PortBillsModel" "lineKind" "[I") := ⟨tw_3 (List.mem_of_getElem? (i := 129) (by decide +kernel)), rfl⟩
theorem k_610 : gw (.soleField "PortBillsModel" "lineKind") := ⟨tw_3 (List.mem_of_getElem? (i := 130) (by decide +kernel)), rfl⟩
theorem k_611 : gw (.laysFinal "PortBillsModel" "PortBillsModel" "lineUnits" "[I") := ⟨tw_3 (List.mem_of_getElem? (i := 131) (by decide +kernel)), rfl⟩
theorem k_612 : gw (.soleField "PortBillsModel" "lineUnits") := ⟨tw_3 (List.mem_of_getElem? (i := 132) (by decide +kernel)), rfl⟩
theorem k_613 : gw (.laysFinal "PortBillsModel" "PortBillsModel" "lineCharged" "[I") := ⟨tw_3 (List.mem_of_getElem? (i := 133) (by decide +kernel)), rfl⟩
theorem k_614 : gw (.soleField "PortBillsModel" "lineCharged") := ⟨tw_3 (List.mem_of_getElem? (i := 134) (by decide +kernel)), rfl⟩
theorem k_615 : gw (.laysFinal "PortBillsModel" "PortBillsModel" "lineCents" "[J") := ⟨tw_3 (List.mem_of_getElem? (i := 135) (by decide +kernel)), rfl⟩
theorem k_616 : gw (.soleField "PortBillsModel" "lineCents") := ⟨tw_3 (List.mem_of_getElem? (i := 136) (by decide +kernel)), rfl⟩
theorem k_617 : gw (.laysFinal "PortBillsModel" "PortBillsModel" "corrects" "[I") := ⟨tw_3 (List.mem_of_getElem? (i := 137) (by decide +kernel)), rfl⟩
theorem k_618 : gw (.soleField "PortBillsModel" "corrects") := ⟨tw_3 (List.mem_of_getElem? (i := 138) (by decide +kernel)), rfl⟩
theorem k_619 : gw (.laysFinal "PortBillsModel" "PortBillsModel" "isDisputed" "[Z") := ⟨tw_3 (List.mem_of_getElem? (i := 139) (by decide +kernel)), rfl⟩
theorem k_620 : gw (.soleField "PortBillsModel" "isDisputed") := ⟨tw_3 (List.mem_of_getElem? (i := 140) (by decide +kernel)), rfl⟩
theorem k_621 : gw (.laysFinal "PortBillsModel" "PortBillsModel" "isFallback" "[Z") := ⟨tw_3 (List.mem_of_getElem? (i := 141) (by decide +kernel)), rfl⟩
theorem k_622 : gw (.soleField "PortBillsModel" "isFallback") := ⟨tw_3 (List.mem_of_getElem? (i := 142) (by decide +kernel)), rfl⟩
theorem k_623 : gw (.laysFinal "PortBillsModel" "PortBillsModel" "paid" "[J") := ⟨tw_3 (List.mem_of_getElem? (i := 143) (by decide +kernel)), rfl⟩
theorem k_624 : gw (.soleField "PortBillsModel" "paid") := ⟨tw_3 (List.mem_of_getElem? (i := 144) (by decide +kernel)), rfl⟩
theorem k_625 : gw (.superclass "PortBillsModel" "java/lang/Object") := ⟨tw_3 (List.mem_of_getElem? (i := 145) (by decide +kernel)), rfl⟩
theorem k_626 : gw (.arrayClass .boolean) := ⟨tw_3 (List.mem_of_getElem? (i := 146) (by decide +kernel)), rfl⟩
theorem k_627 : gw (.methodLink "PortBillsLaw" 73 y_MD_thrown) := ⟨tw_3 (List.mem_of_getElem? (i := 147) (by decide +kernel)), rfl⟩
theorem k_628 : gw (.instanceMethod y_MD_thrown) := ⟨tw_3 (List.mem_of_getElem? (i := 148) (by decide +kernel)), rfl⟩
theorem k_629 : gw (.selects "PortBillsModel" y_MD_thrown y_MD_thrown) := ⟨tw_3 (List.mem_of_getElem? (i := 149) (by decide +kernel)), rfl⟩
theorem k_630 : gw (.code y_MD_thrown b_MD_thrown 1 (some .int)) := ⟨tw_3 (List.mem_of_getElem? (i := 150) (by decide +kernel)), rfl⟩
theorem k_631 : gw (.methodLink "PortBillsLaw" 61 y_MD_sign) := ⟨tw_3 (List.mem_of_getElem? (i := 151) (by decide +kernel)), rfl⟩
theorem k_632 : gw (.instanceMethod y_MD_sign) := ⟨tw_3 (List.mem_of_getElem? (i := 152) (by decide +kernel)), rfl⟩
theorem k_633 : gw (.selects "PortBillsModel" y_MD_sign y_MD_sign) := ⟨tw_3 (List.mem_of_getElem? (i := 153) (by decide +kernel)), rfl⟩
theorem k_634 : gw (.code y_MD_sign b_MD_sign 2 (some .boolean)) := ⟨tw_3 (List.mem_of_getElem? (i := 154) (by decide +kernel)), rfl⟩
theorem k_635 : gw (.constantLong "PortBillsModel" 67 33) := ⟨tw_3 (List.mem_of_getElem? (i := 155) (by decide +kernel)), rfl⟩
theorem k_636 : gw (.constantLong "PortBillsModel" 69 126) := ⟨tw_3 (List.mem_of_getElem? (i := 156) (by decide +kernel)), rfl⟩
theorem k_637 : gw (.methodLink "PortBillsModel" 71 y_MD_in) := ⟨tw_3 (List.mem_of_getElem? (i := 157) (by decide +kernel)), rfl⟩
theorem k_638 : gw (.static y_MD_in) := ⟨tw_3 (List.mem_of_getElem? (i := 158) (by decide +kernel)), rfl⟩
theorem k_639 : gw (.code y_MD_in b_MD_in 6 (some .boolean)) := ⟨tw_3 (List.mem_of_getElem? (i := 159) (by decide +kernel)), rfl⟩
theorem k_640 : gw (.methodLink "PortBillsLaw" 66 y_MD_read) := ⟨tw_3 (List.mem_of_getElem? (i := 160) (by decide +kernel)), rfl⟩
theorem k_641 : gw (.instanceMethod y_MD_read) := ⟨tw_3 (List.mem_of_getElem? (i := 161) (by decide +kernel)), rfl⟩
theorem k_642 : gw (.selects "PortBillsModel" y_MD_read y_MD_read) := ⟨tw_3 (List.mem_of_getElem? (i := 162) (by decide +kernel)), rfl⟩
theorem k_643 : gw (.code y_MD_read b_MD_read 12 (some .int)) := ⟨tw_3 (List.mem_of_getElem? (i := 163) (by decide +kernel)), rfl⟩
theorem k_644 : gw (.constantLong "PortBillsModel" 84 48) := ⟨tw_3 (List.mem_of_getElem? (i := 164) (by decide +kernel)), rfl⟩
theorem k_645 : gw (.constantLong "PortBillsModel" 86 57) := ⟨tw_3 (List.mem_of_getElem? (i := 165) (by decide +kernel)), rfl⟩
theorem k_646 : gw (.constantLong "PortBillsModel" 88 65) := ⟨tw_3 (List.mem_of_getElem? (i := 166) (by decide +kernel)), rfl⟩
theorem k_647 : gw (.constantLong "PortBillsModel" 90 70) := ⟨tw_3 (List.mem_of_getElem? (i := 167) (by decide +kernel)), rfl⟩
theorem k_648 : gw (.methodLink "PortBillsModel" 92 y_MD_begins) := ⟨tw_3 (List.mem_of_getElem? (i := 168) (by decide +kernel)), rfl⟩
theorem k_649 : gw (.static y_MD_begins) := ⟨tw_3 (List.mem_of_getElem? (i := 169) (by decide +kernel)), rfl⟩
theorem k_650 : gw (.code y_MD_begins b_MD_begins 1 (some .int)) := ⟨tw_3 (List.mem_of_getElem? (i := 170) (by decide +kernel)), rfl⟩
theorem k_651 : gw (.methodLink "PortBillsLaw" 72 y_MD_tariff) := ⟨tw_3 (List.mem_of_getElem? (i := 171) (by decide +kernel)), rfl⟩
theorem k_652 : gw (.instanceMethod y_MD_tariff) := ⟨tw_3 (List.mem_of_getElem? (i := 172) (by decide +kernel)), rfl⟩
theorem k_653 : gw (.selects "PortBillsModel" y_MD_tariff y_MD_tariff) := ⟨tw_3 (List.mem_of_getElem? (i := 173) (by decide +kernel)), rfl⟩
theorem k_654 : gw (.code y_MD_tariff b_MD_tariff 3 (some .int)) := ⟨tw_3 (List.mem_of_getElem? (i := 174) (by decide +kernel)), rfl⟩
theorem k_655 : gw (.methodLink "PortBillsModel" 96 y_MD_isKind) := ⟨tw_3 (List.mem_of_getElem? (i := 175) (by decide +kernel)), rfl⟩
theorem k_656 : gw (.static y_MD_isKind) := ⟨tw_3 (List.mem_of_getElem? (i := 176) (by decide +kernel)), rfl⟩
theorem k_657 : gw (.code y_MD_isKind b_MD_isKind 1 (some .boolean)) := ⟨tw_3 (List.mem_of_getElem? (i := 177) (by decide +kernel)), rfl⟩
theorem k_658 : gw (.constantLong "PortBillsModel" 100 3) := ⟨tw_3 (List.mem_of_getElem? (i := 178) (by decide +kernel)), rfl⟩
theorem k_659 : gw (.methodLink "PortBillsModel" 102 y_MD_fails) := ⟨tw_3 (List.mem_of_getElem? (i := 179) (by decide +kernel)), rfl⟩
theorem kt_660 : (.privateMethod y_MD_fails : Cond) ∈ lw_tbl := tw_3 (List.mem_of_getElem? (i := 180) (by decide +kernel))
theorem k_661 : gw (.instanceMethod y_MD_fails) := ⟨tw_3 (List.mem_of_getElem? (i := 181) (by decide +kernel)), rfl⟩
theorem k_662 : gw (.code y_MD_fails b_MD_fails 2 (some .int)) := ⟨tw_3 (List.mem_of_getElem? (i := 182) (by decide +kernel)), rfl⟩
theorem k_663 : gw (.methodLink "PortBillsLaw" 79 y_MD_event) := ⟨tw_3 (List.mem_of_getElem? (i := 183) (by decide +kernel)), rfl⟩
theorem k_664 : gw (.instanceMethod y_MD_event) := ⟨tw_3 (List.mem_of_getElem? (i := 184) (by decide +kernel)), rfl⟩
theorem k_665 : gw (.selects "PortBillsModel" y_MD_event y_MD_event) := ⟨tw_3 (List.mem_of_getElem? (i := 185) (by decide +kernel)), rfl⟩
theorem k_666 : gw (.code y_MD_event b_MD_event 4 (some .int)) := ⟨tw_3 (List.mem_of_getElem? (i := 186) (by decide +kernel)), rfl⟩
theorem k_667 : gw (.methodLink "PortBillsModel" 105 y_MD_isCall) := ⟨tw_3 (List.mem_of_getElem? (i := 187) (by decide +kernel)), rfl⟩
theorem k_668 : gw (.static y_MD_isCall) := ⟨tw_3 (List.mem_of_getElem? (i := 188) (by decide +kernel)), rfl⟩
theorem k_669 : gw (.code y_MD_isCall b_MD_isCall 1 (some .boolean)) := ⟨tw_3 (List.mem_of_getElem? (i := 189) (by decide +kernel)), rfl⟩
theorem k_670 : gw (.constantLong "PortBillsModel" 108 50000) := ⟨tw_3 (List.mem_of_getElem? (i := 190) (by decide +kernel)), rfl⟩
theorem k_671 : gw (.methodLink "PortBillsModel" 113 y_MD_unitOf) := ⟨tw_3 (List.mem_of_getElem? (i := 191) (by decide +kernel)), rfl⟩
theorem k_672 : gw (.static y_MD_unitOf) := ⟨tw_3 (List.mem_of_getElem? (i := 192) (by decide +kernel)), rfl⟩
theorem k_673 : gw (.code y_MD_unitOf b_MD_unitOf 1 (some .int)) := ⟨tw_3 (List.mem_of_getElem? (i := 193) (by decide +kernel)), rfl⟩
theorem k_674 : gw (.methodLink "PortBillsLaw" 84 y_MD_discount) := ⟨tw_3 (List.mem_of_getElem? (i := 194) (by decide +kernel)), rfl⟩
theorem k_675 : gw (.instanceMethod y_MD_discount) := ⟨tw_3 (List.mem_of_getElem? (i := 195) (by decide +kernel)), rfl⟩
theorem k_676 : gw (.selects "PortBillsModel" y_MD_discount y_MD_discount) := ⟨tw_3 (List.mem_of_getElem? (i := 196) (by decide +kernel)), rfl⟩
theorem k_677 : gw (.code y_MD_discount b_MD_discount 6 (some .boolean)) := ⟨tw_3 (List.mem_of_getElem? (i := 197) (by decide +kernel)), rfl⟩
theorem k_678 : gw (.constantLong "PortBillsModel" 116 100) := ⟨tw_3 (List.mem_of_getElem? (i := 198) (by decide +kernel)), rfl⟩
theorem k_679 : gw (.methodLink "PortBillsLaw" 88 y_MD_bill) := ⟨tw_3 (List.mem_of_getElem? (i := 199) (by decide +kernel)), rfl⟩
theorem k_680 : gw (.instanceMethod y_MD_bill) := ⟨tw_3 (List.mem_of_getElem? (i := 200) (by decide +kernel)), rfl⟩
theorem k_681 : gw (.selects "PortBillsModel" y_MD_bill y_MD_bill) := ⟨tw_3 (List.mem_of_getElem? (i := 201) (by decide +kernel)), rfl⟩
theorem k_682 : gw (.code y_MD_bill b_MD_bill 4 (some .int)) := ⟨tw_3 (List.mem_of_getElem? (i := 202) (by decide +kernel)), rfl⟩
theorem k_683 : gw (.methodLink "PortBillsModel" 121 y_MD_unitsOf) := ⟨tw_3 (List.mem_of_getElem? (i := 203) (by decide +kernel)), rfl⟩
theorem kt_684 : (.privateMethod y_MD_unitsOf : Cond) ∈ lw_tbl := tw_3 (List.mem_of_getElem? (i := 204) (by decide +kernel))
theorem k_685 : gw (.instanceMethod y_MD_unitsOf) := ⟨tw_3 (List.mem_of_getElem? (i := 205) (by decide +kernel)), rfl⟩
theorem k_686 : gw (.code y_MD_unitsOf b_MD_unitsOf 5 (some .int)) := ⟨tw_3 (List.mem_of_getElem? (i := 206) (by decide +kernel)), rfl⟩
theorem k_687 : gw (.methodLink "PortBillsModel" 131 y_MD_billKind) := ⟨tw_3 (List.mem_of_getElem? (i := 207) (by decide +kernel)), rfl⟩
theorem kt_688 : (.privateMethod y_MD_billKind : Cond) ∈ lw_tbl := tw_3 (List.mem_of_getElem? (i := 208) (by decide +kernel))
theorem k_689 : gw (.instanceMethod y_MD_billKind) := ⟨tw_3 (List.mem_of_getElem? (i := 209) (by decide +kernel)), rfl⟩
theorem k_690 : gw (.code y_MD_billKind b_MD_billKind 16 none) := ⟨tw_3 (List.mem_of_getElem? (i := 210) (by decide +kernel)), rfl⟩
theorem k_691 : gw (.constantLong "PortBillsModel" 125 2) := ⟨tw_3 (List.mem_of_getElem? (i := 211) (by decide +kernel)), rfl⟩
theorem k_692 : gw (.methodLink "PortBillsModel" 127 y_MD_newLine) := ⟨tw_3 (List.mem_of_getElem? (i := 212) (by decide +kernel)), rfl⟩
theorem kt_693 : (.privateMethod y_MD_newLine : Cond) ∈ lw_tbl := tw_3 (List.mem_of_getElem? (i := 213) (by decide +kernel))
theorem k_694 : gw (.instanceMethod y_MD_newLine) := ⟨tw_3 (List.mem_of_getElem? (i := 214) (by decide +kernel)), rfl⟩
theorem k_695 : gw (.code y_MD_newLine b_MD_newLine 8 none) := ⟨tw_3 (List.mem_of_getElem? (i := 215) (by decide +kernel)), rfl⟩
theorem k_696 : gw (.methodLink "PortBillsModel" 135 y_MD_takeEvents) := ⟨tw_3 (List.mem_of_getElem? (i := 216) (by decide +kernel)), rfl⟩
theorem kt_697 : (.privateMethod y_MD_takeEvents : Cond) ∈ lw_tbl := tw_3 (List.mem_of_getElem? (i := 217) (by decide +kernel))
theorem k_698 : gw (.instanceMethod y_MD_takeEvents) := ⟨tw_3 (List.mem_of_getElem? (i := 218) (by decide +kernel)), rfl⟩
theorem k_699 : gw (.code y_MD_takeEvents b_MD_takeEvents 4 none) := ⟨tw_3 (List.mem_of_getElem? (i := 219) (by decide +kernel)), rfl⟩
theorem k_700 : gw (.methodLink "PortBillsLaw" 94 y_MD_correct) := ⟨tw_3 (List.mem_of_getElem? (i := 220) (by decide +kernel)), rfl⟩
theorem k_701 : gw (.instanceMethod y_MD_correct) := ⟨tw_3 (List.mem_of_getElem? (i := 221) (by decide +kernel)), rfl⟩
theorem k_702 : gw (.selects "PortBillsModel" y_MD_correct y_MD_correct) := ⟨tw_3 (List.mem_of_getElem? (i := 222) (by decide +kernel)), rfl⟩
theorem k_703 : gw (.code y_MD_correct b_MD_correct 4 (some .int)) := ⟨tw_3 (List.mem_of_getElem? (i := 223) (by decide +kernel)), rfl⟩
theorem k_704 : gw (.methodLink "PortBillsModel" 139 y_MD_isLine) := ⟨tw_3 (List.mem_of_getElem? (i := 224) (by decide +kernel)), rfl⟩
theorem kt_705 : (.privateMethod y_MD_isLine : Cond) ∈ lw_tbl := tw_3 (List.mem_of_getElem? (i := 225) (by decide +kernel))
theorem k_706 : gw (.instanceMethod y_MD_isLine) := ⟨tw_3 (List.mem_of_getElem? (i := 226) (by decide +kernel)), rfl⟩
theorem k_707 : gw (.code y_MD_isLine b_MD_isLine 2 (some .boolean)) := ⟨tw_3 (List.mem_of_getElem? (i := 227) (by decide +kernel)), rfl⟩
theorem k_708 : gw (.constantLong "PortBillsModel" 142 1000000000000) := ⟨tw_3 (List.mem_of_getElem? (i := 228) (by decide +kernel)), rfl⟩
theorem k_709 : gw (.methodLink "PortBillsModel" 144 y_MD_whole) := ⟨tw_3 (List.mem_of_getElem? (i := 229) (by decide +kernel)), rfl⟩
theorem kt_710 : (.privateMethod y_MD_whole : Cond) ∈ lw_tbl := tw_3 (List.mem_of_getElem? (i := 230) (by decide +kernel))
theorem k_711 : gw (.instanceMethod y_MD_whole) := ⟨tw_3 (List.mem_of_getElem? (i := 231) (by decide +kernel)), rfl⟩
theorem k_712 : gw (.code y_MD_whole b_MD_whole 5 (some .long)) := ⟨tw_3 (List.mem_of_getElem? (i := 232) (by decide +kernel)), rfl⟩
theorem k_713 : gw (.methodLink "PortBillsLaw" 98 y_MD_dispute) := ⟨tw_3 (List.mem_of_getElem? (i := 233) (by decide +kernel)), rfl⟩
theorem k_714 : gw (.instanceMethod y_MD_dispute) := ⟨tw_3 (List.mem_of_getElem? (i := 234) (by decide +kernel)), rfl⟩
theorem k_715 : gw (.selects "PortBillsModel" y_MD_dispute y_MD_dispute) := ⟨tw_3 (List.mem_of_getElem? (i := 235) (by decide +kernel)), rfl⟩
theorem k_716 : gw (.code y_MD_dispute b_MD_dispute 3 (some .int)) := ⟨tw_3 (List.mem_of_getElem? (i := 236) (by decide +kernel)), rfl⟩
theorem k_717 : gw (.methodLink "PortBillsLaw" 101 y_MD_pay) := ⟨tw_3 (List.mem_of_getElem? (i := 237) (by decide +kernel)), rfl⟩
theorem k_718 : gw (.instanceMethod y_MD_pay) := ⟨tw_3 (List.mem_of_getElem? (i := 238) (by decide +kernel)), rfl⟩
theorem k_719 : gw (.selects "PortBillsModel" y_MD_pay y_MD_pay) := ⟨tw_3 (List.mem_of_getElem? (i := 239) (by decide +kernel)), rfl⟩
theorem k_720 : gw (.code y_MD_pay b_MD_pay 4 (some .long)) := ⟨tw_4 (List.mem_of_getElem? (i := 0) (by decide +kernel)), rfl⟩
theorem k_721 : gw (.methodLink "PortBillsModel" 151 y_MD_left) := ⟨tw_4 (List.mem_of_getElem? (i := 1) (by decide +kernel)), rfl⟩
theorem kt_722 : (.privateMethod y_MD_left : Cond) ∈ lw_tbl := tw_4 (List.mem_of_getElem? (i := 2) (by decide +kernel))
theorem k_723 : gw (.instanceMethod y_MD_left) := ⟨tw_4 (List.mem_of_getElem? (i := 3) (by decide +kernel)), rfl⟩
theorem k_724 : gw (.code y_MD_left b_MD_left 5 (some .long)) := ⟨tw_4 (List.mem_of_getElem? (i := 4) (by decide +kernel)), rfl⟩
theorem k_725 : gw (.methodLink "PortBillsModel" 148 y_MD_isOut) := ⟨tw_4 (List.mem_of_getElem? (i := 5) (by decide +kernel)), rfl⟩
theorem kt_726 : (.privateMethod y_MD_isOut : Cond) ∈ lw_tbl := tw_4 (List.mem_of_getElem? (i := 6) (by decide +kernel))
theorem k_727 : gw (.instanceMethod y_MD_isOut) := ⟨tw_4 (List.mem_of_getElem? (i := 7) (by decide +kernel)), rfl⟩
theorem k_728 : gw (.code y_MD_isOut b_MD_isOut 2 (some .boolean)) := ⟨tw_4 (List.mem_of_getElem? (i := 8) (by decide +kernel)), rfl⟩
theorem k_729 : gw (.methodLink "PortBillsLaw" 104 y_MD_unpaid) := ⟨tw_4 (List.mem_of_getElem? (i := 9) (by decide +kernel)), rfl⟩
theorem k_730 : gw (.instanceMethod y_MD_unpaid) := ⟨tw_4 (List.mem_of_getElem? (i := 10) (by decide +kernel)), rfl⟩
theorem k_731 : gw (.selects "PortBillsModel" y_MD_unpaid y_MD_unpaid) := ⟨tw_4 (List.mem_of_getElem? (i := 11) (by decide +kernel)), rfl⟩
theorem k_732 : gw (.code y_MD_unpaid b_MD_unpaid 2 (some .long)) := ⟨tw_4 (List.mem_of_getElem? (i := 12) (by decide +kernel)), rfl⟩
theorem k_733 : gw (.methodLink "PortBillsLaw" 108 y_MD_share) := ⟨tw_4 (List.mem_of_getElem? (i := 13) (by decide +kernel)), rfl⟩
theorem k_734 : gw (.instanceMethod y_MD_share) := ⟨tw_4 (List.mem_of_getElem? (i := 14) (by decide +kernel)), rfl⟩
theorem k_735 : gw (.selects "PortBillsModel" y_MD_share y_MD_share) := ⟨tw_4 (List.mem_of_getElem? (i := 15) (by decide +kernel)), rfl⟩
theorem k_736 : gw (.code y_MD_share b_MD_share 5 (some .long)) := ⟨tw_4 (List.mem_of_getElem? (i := 16) (by decide +kernel)), rfl⟩
theorem k_737 : gw (.constantLong "PortBillsModel" 154 1000000) := ⟨tw_4 (List.mem_of_getElem? (i := 17) (by decide +kernel)), rfl⟩
theorem k_738 : gw (.methodLink "PortBillsLaw" 111 y_MD_line) := ⟨tw_4 (List.mem_of_getElem? (i := 18) (by decide +kernel)), rfl⟩
theorem k_739 : gw (.instanceMethod y_MD_line) := ⟨tw_4 (List.mem_of_getElem? (i := 19) (by decide +kernel)), rfl⟩
theorem k_740 : gw (.selects "PortBillsModel" y_MD_line y_MD_line) := ⟨tw_4 (List.mem_of_getElem? (i := 20) (by decide +kernel)), rfl⟩
theorem k_741 : gw (.code y_MD_line b_MD_line 3 (some .long)) := ⟨tw_4 (List.mem_of_getElem? (i := 21) (by decide +kernel)), rfl⟩
theorem k_742 : gw (.methodLink "PortBillsLaw" 115 y_MD_count) := ⟨tw_4 (List.mem_of_getElem? (i := 22) (by decide +kernel)), rfl⟩
theorem k_743 : gw (.instanceMethod y_MD_count) := ⟨tw_4 (List.mem_of_getElem? (i := 23) (by decide +kernel)), rfl⟩
theorem k_744 : gw (.selects "PortBillsModel" y_MD_count y_MD_count) := ⟨tw_4 (List.mem_of_getElem? (i := 24) (by decide +kernel)), rfl⟩
theorem k_745 : gw (.code y_MD_count b_MD_count 4 (some .int)) := ⟨tw_4 (List.mem_of_getElem? (i := 25) (by decide +kernel)), rfl⟩
theorem k_746 : gw (.constantLong "PortBillsLaw" 89 4294967295) := ⟨tw_4 (List.mem_of_getElem? (i := 26) (by decide +kernel)), rfl⟩
theorem k_747 : gw (.sameMethod "java/lang/Throwable" "java/lang/Throwable" "fillInStackTrace" "(I)Ljava/lang/Throwable;") := ⟨tw_4 (List.mem_of_getElem? (i := 27) (by decide +kernel)), rfl⟩
theorem kt_748 : (.castable "PortBills$Line" "PortBills$Line" : Cond) ∈ lw_tbl := tw_4 (List.mem_of_getElem? (i := 28) (by decide +kernel))
theorem k_749 : gw (.sameMethod "[Ljava/lang/Object;" "java/lang/Object" "getClass" "()Ljava/lang/Class;") := ⟨tw_4 (List.mem_of_getElem? (i := 29) (by decide +kernel)), rfl⟩
theorem k_750 : gw (.selects "[Ljava/lang/Object;" ⟨"java/lang/Object", "getClass", "()Ljava/lang/Class;"⟩ ⟨"java/lang/Object", "getClass", "()Ljava/lang/Class;"⟩) := ⟨tw_4 (List.mem_of_getElem? (i := 30) (by decide +kernel)), rfl⟩
theorem kt_751 : (.declares ⟨"java/lang/Object", "getClass", "()Ljava/lang/Class;"⟩ : Cond) ∈ lw_tbl := tw_4 (List.mem_of_getElem? (i := 31) (by decide +kernel))
theorem kt_752 : (.castable "PortBills" "java/lang/Object" : Cond) ∈ lw_tbl := tw_4 (List.mem_of_getElem? (i := 32) (by decide +kernel))
theorem kt_753 : (.castable "PortBills$TariffText" "java/lang/Object" : Cond) ∈ lw_tbl := tw_4 (List.mem_of_getElem? (i := 33) (by decide +kernel))
theorem kt_754 : (.castable "PortBillsModel" "java/lang/Object" : Cond) ∈ lw_tbl := tw_4 (List.mem_of_getElem? (i := 34) (by decide +kernel))
theorem kt_755 : (.castable "PortBills$Line" "java/lang/Object" : Cond) ∈ lw_tbl := tw_4 (List.mem_of_getElem? (i := 35) (by decide +kernel))
theorem kt_756 : (.castable "java/lang/String" "java/lang/Object" : Cond) ∈ lw_tbl := tw_4 (List.mem_of_getElem? (i := 36) (by decide +kernel))
theorem ks_0 : gw (.selects "PortBills$TariffText" y_TT_takes y_TT_takes) := ⟨tw_s 0 (q := (y_TT_takes, 5)) (by decide +kernel) rfl, rfl⟩
theorem ks_1 : gw (.selects "PortBills$TariffText" y_TT_readRows y_TT_readRows) := ⟨tw_s 1 (q := (y_TT_readRows, 5)) (by decide +kernel) rfl, rfl⟩
theorem ks_2 : gw (.selects "PortBills$TariffText" y_TT_readRow y_TT_readRow) := ⟨tw_s 2 (q := (y_TT_readRow, 5)) (by decide +kernel) rfl, rfl⟩
theorem ks_3 : gw (.selects "PortBills$TariffText" y_TT_next y_TT_next) := ⟨tw_s 3 (q := (y_TT_next, 5)) (by decide +kernel) rfl, rfl⟩
theorem ks_4 : gw (.selects "PortBills$TariffText" y_TT_readNumber y_TT_readNumber) := ⟨tw_s 4 (q := (y_TT_readNumber, 5)) (by decide +kernel) rfl, rfl⟩
theorem ks_5 : gw (.selects "PortBills$TariffText" y_TT_passes y_TT_passes) := ⟨tw_s 5 (q := (y_TT_passes, 5)) (by decide +kernel) rfl, rfl⟩
theorem ks_6 : gw (.selects "PortBills" y_PB_takeOverTariffs y_PB_takeOverTariffs) := ⟨tw_s 6 (q := (y_PB_takeOverTariffs, 11)) (by decide +kernel) rfl, rfl⟩
theorem ks_7 : gw (.selects "PortBills$TariffText" y_TT_clear y_TT_clear) := ⟨tw_s 7 (q := (y_TT_clear, 5)) (by decide +kernel) rfl, rfl⟩
theorem ks_8 : gw (.selects "PortBills" y_PB_linesOf y_PB_linesOf) := ⟨tw_s 8 (q := (y_PB_linesOf, 11)) (by decide +kernel) rfl, rfl⟩
theorem ks_9 : gw (.selects "java/lang/Throwable" ⟨"java/lang/Throwable", "fillInStackTrace", "(I)Ljava/lang/Throwable;"⟩ ⟨"java/lang/Throwable", "fillInStackTrace", "(I)Ljava/lang/Throwable;"⟩) := ⟨tw_s 9 (q := (⟨"java/lang/Throwable", "fillInStackTrace", "(I)Ljava/lang/Throwable;"⟩, 6)) (by decide +kernel) rfl, rfl⟩
theorem ks_10 : gw (.selects "PortBills" y_PB_hasTariff y_PB_hasTariff) := ⟨tw_s 10 (q := (y_PB_hasTariff, 11)) (by decide +kernel) rfl, rfl⟩
theorem ks_11 : gw (.selects "PortBills" y_PB_kindsThatWait y_PB_kindsThatWait) := ⟨tw_s 11 (q := (y_PB_kindsThatWait, 11)) (by decide +kernel) rfl, rfl⟩
theorem ks_12 : gw (.selects "PortBills" y_PB_billedLine y_PB_billedLine) := ⟨tw_s 12 (q := (y_PB_billedLine, 11)) (by decide +kernel) rfl, rfl⟩
theorem ks_13 : gw (.selects "PortBills" y_PB_centsFor y_PB_centsFor) := ⟨tw_s 13 (q := (y_PB_centsFor, 11)) (by decide +kernel) rfl, rfl⟩
theorem ks_14 : gw (.selects "java/util/ArrayList" y_AL_add2 y_AL_add2) := ⟨tw_s 14 (q := (y_AL_add2, 3)) (by decide +kernel) rfl, rfl⟩
theorem ks_15 : gw (.selects "java/util/ArrayList" y_AL_grow y_AL_grow) := ⟨tw_s 15 (q := (y_AL_grow, 3)) (by decide +kernel) rfl, rfl⟩
theorem ks_16 : gw (.selects "java/util/ArrayList" y_AL_grow2 y_AL_grow2) := ⟨tw_s 16 (q := (y_AL_grow2, 3)) (by decide +kernel) rfl, rfl⟩
theorem ks_17 : gw (.selects "PortBills" y_PB_forgetEvents y_PB_forgetEvents) := ⟨tw_s 17 (q := (y_PB_forgetEvents, 11)) (by decide +kernel) rfl, rfl⟩
theorem ks_18 : gw (.selects "PortBills" y_PB_isLine y_PB_isLine) := ⟨tw_s 18 (q := (y_PB_isLine, 11)) (by decide +kernel) rfl, rfl⟩
theorem ks_19 : gw (.selects "PortBills$Line" y_LN_isCorrection y_LN_isCorrection) := ⟨tw_s 19 (q := (y_LN_isCorrection, 9)) (by decide +kernel) rfl, rfl⟩
theorem ks_20 : gw (.selects "PortBills" y_PB_owedNow y_PB_owedNow) := ⟨tw_s 20 (q := (y_PB_owedNow, 11)) (by decide +kernel) rfl, rfl⟩
theorem ks_21 : gw (.selects "PortBills$Line" y_LN_part y_LN_part) := ⟨tw_s 21 (q := (y_LN_part, 9)) (by decide +kernel) rfl, rfl⟩
theorem ks_22 : gw (.selects "PortBillsModel" y_MD_fails y_MD_fails) := ⟨tw_s 22 (q := (y_MD_fails, 23)) (by decide +kernel) rfl, rfl⟩
theorem ks_23 : gw (.selects "PortBillsModel" y_MD_unitsOf y_MD_unitsOf) := ⟨tw_s 23 (q := (y_MD_unitsOf, 23)) (by decide +kernel) rfl, rfl⟩
theorem ks_24 : gw (.selects "PortBillsModel" y_MD_billKind y_MD_billKind) := ⟨tw_s 24 (q := (y_MD_billKind, 23)) (by decide +kernel) rfl, rfl⟩
theorem ks_25 : gw (.selects "PortBillsModel" y_MD_newLine y_MD_newLine) := ⟨tw_s 25 (q := (y_MD_newLine, 23)) (by decide +kernel) rfl, rfl⟩
theorem ks_26 : gw (.selects "PortBillsModel" y_MD_takeEvents y_MD_takeEvents) := ⟨tw_s 26 (q := (y_MD_takeEvents, 23)) (by decide +kernel) rfl, rfl⟩
theorem ks_27 : gw (.selects "PortBillsModel" y_MD_isLine y_MD_isLine) := ⟨tw_s 27 (q := (y_MD_isLine, 23)) (by decide +kernel) rfl, rfl⟩
theorem ks_28 : gw (.selects "PortBillsModel" y_MD_whole y_MD_whole) := ⟨tw_s 28 (q := (y_MD_whole, 23)) (by decide +kernel) rfl, rfl⟩
theorem ks_29 : gw (.selects "PortBillsModel" y_MD_left y_MD_left) := ⟨tw_s 29 (q := (y_MD_left, 23)) (by decide +kernel) rfl, rfl⟩
theorem ks_30 : gw (.selects "PortBillsModel" y_MD_isOut y_MD_isOut) := ⟨tw_s 30 (q := (y_MD_isOut, 23)) (by decide +kernel) rfl, rfl⟩
theorem nd_PB_init : y_PB_init.cls ≠ "java/lang/invoke/MethodHandle" ∧ y_PB_init.cls ≠ "java/lang/invoke/VarHandle" ∧ (parseMethodDescriptor y_PB_init.desc).map (fun d => d.parameters.length) = some 0 := ⟨by decide +kernel, by decide +kernel, by decide +kernel⟩
theorem nd_PB_sign : y_PB_sign.cls ≠ "java/lang/invoke/MethodHandle" ∧ y_PB_sign.cls ≠ "java/lang/invoke/VarHandle" ∧ (parseMethodDescriptor y_PB_sign.desc).map (fun d => d.parameters.length) = some 1 := ⟨by decide +kernel, by decide +kernel, by decide +kernel⟩
theorem nd_PB_read : y_PB_read.cls ≠ "java/lang/invoke/MethodHandle" ∧ y_PB_read.cls ≠ "java/lang/invoke/VarHandle" ∧ (parseMethodDescriptor y_PB_read.desc).map (fun d => d.parameters.length) = some 0 := ⟨by decide +kernel, by decide +kernel, by decide +kernel⟩
theorem nd_PB_tariff : y_PB_tariff.cls ≠ "java/lang/invoke/MethodHandle" ∧ y_PB_tariff.cls ≠ "java/lang/invoke/VarHandle" ∧ (parseMethodDescriptor y_PB_tariff.desc).map (fun d => d.parameters.length) = some 2 := ⟨by decide +kernel, by decide +kernel, by decide +kernel⟩
theorem nd_PB_event : y_PB_event.cls ≠ "java/lang/invoke/MethodHandle" ∧ y_PB_event.cls ≠ "java/lang/invoke/VarHandle" ∧ (parseMethodDescriptor y_PB_event.desc).map (fun d => d.parameters.length) = some 3 := ⟨by decide +kernel, by decide +kernel, by decide +kernel⟩
theorem nd_PB_discount : y_PB_discount.cls ≠ "java/lang/invoke/MethodHandle" ∧ y_PB_discount.cls ≠ "java/lang/invoke/VarHandle" ∧ (parseMethodDescriptor y_PB_discount.desc).map (fun d => d.parameters.length) = some 4 := ⟨by decide +kernel, by decide +kernel, by decide +kernel⟩
theorem nd_PB_bill : y_PB_bill.cls ≠ "java/lang/invoke/MethodHandle" ∧ y_PB_bill.cls ≠ "java/lang/invoke/VarHandle" ∧ (parseMethodDescriptor y_PB_bill.desc).map (fun d => d.parameters.length) = some 1 := ⟨by decide +kernel, by decide +kernel, by decide +kernel⟩
theorem nd_PB_correct : y_PB_correct.cls ≠ "java/lang/invoke/MethodHandle" ∧ y_PB_correct.cls ≠ "java/lang/invoke/VarHandle" ∧ (parseMethodDescriptor y_PB_correct.desc).map (fun d => d.parameters.length) = some 2 := ⟨by decide +kernel, by decide +kernel, by decide +kernel⟩
theorem nd_PB_dispute : y_PB_dispute.cls ≠ "java/lang/invoke/MethodHandle" ∧ y_PB_dispute.cls ≠ "java/lang/invoke/VarHandle" ∧ (parseMethodDescriptor y_PB_dispute.desc).map (fun d => d.parameters.length) = some 2 := ⟨by decide +kernel, by decide +kernel, by decide +kernel⟩
theorem nd_PB_pay : y_PB_pay.cls ≠ "java/lang/invoke/MethodHandle" ∧ y_PB_pay.cls ≠ "java/lang/invoke/VarHandle" ∧ (parseMethodDescriptor y_PB_pay.desc).map (fun d => d.parameters.length) = some 2 := ⟨by decide +kernel, by decide +kernel, by decide +kernel⟩
theorem nd_PB_unpaid : y_PB_unpaid.cls ≠ "java/lang/invoke/MethodHandle" ∧ y_PB_unpaid.cls ≠ "java/lang/invoke/VarHandle" ∧ (parseMethodDescriptor y_PB_unpaid.desc).map (fun d => d.parameters.length) = some 1 := ⟨by decide +kernel, by decide +kernel, by decide +kernel⟩
theorem nd_PB_share : y_PB_share.cls ≠ "java/lang/invoke/MethodHandle" ∧ y_PB_share.cls ≠ "java/lang/invoke/VarHandle" ∧ (parseMethodDescriptor y_PB_share.desc).map (fun d => d.parameters.length) = some 3 := ⟨by decide +kernel, by decide +kernel, by decide +kernel⟩
theorem nd_PB_line : y_PB_line.cls ≠ "java/lang/invoke/MethodHandle" ∧ y_PB_line.cls ≠ "java/lang/invoke/VarHandle" ∧ (parseMethodDescriptor y_PB_line.desc).map (fun d => d.parameters.length) = some 2 := ⟨by decide +kernel, by decide +kernel, by decide +kernel⟩
theorem nd_PB_count : y_PB_count.cls ≠ "java/lang/invoke/MethodHandle" ∧ y_PB_count.cls ≠ "java/lang/invoke/VarHandle" ∧ (parseMethodDescriptor y_PB_count.desc).map (fun d => d.parameters.length) = some 1 := ⟨by decide +kernel, by decide +kernel, by decide +kernel⟩
theorem nd_PB_isCall : y_PB_isCall.cls ≠ "java/lang/invoke/MethodHandle" ∧ y_PB_isCall.cls ≠ "java/lang/invoke/VarHandle" ∧ (parseMethodDescriptor y_PB_isCall.desc).map (fun d => d.parameters.length) = some 1 := ⟨by decide +kernel, by decide +kernel, by decide +kernel⟩
theorem nd_PB_isKind : y_PB_isKind.cls ≠ "java/lang/invoke/MethodHandle" ∧ y_PB_isKind.cls ≠ "java/lang/invoke/VarHandle" ∧ (parseMethodDescriptor y_PB_isKind.desc).map (fun d => d.parameters.length) = some 1 := ⟨by decide +kernel, by decide +kernel, by decide +kernel⟩
theorem nd_PB_isKey : y_PB_isKey.cls ≠ "java/lang/invoke/MethodHandle" ∧ y_PB_isKey.cls ≠ "java/lang/invoke/VarHandle" ∧ (parseMethodDescriptor y_PB_isKey.desc).map (fun d => d.parameters.length) = some 1 := ⟨by decide +kernel, by decide +kernel, by decide +kernel⟩
theorem nd_PB_isLine : y_PB_isLine.cls ≠ "java/lang/invoke/MethodHandle" ∧ y_PB_isLine.cls ≠ "java/lang/invoke/VarHandle" ∧ (parseMethodDescriptor y_PB_isLine.desc).map (fun d => d.parameters.length) = some 1 := ⟨by decide +kernel, by decide +kernel, by decide +kernel⟩
theorem nd_PB_hasTariff : y_PB_hasTariff.cls ≠ "java/lang/invoke/MethodHandle" ∧ y_PB_hasTariff.cls ≠ "java/lang/invoke/VarHandle" ∧ (parseMethodDescriptor y_PB_hasTariff.desc).map (fun d => d.parameters.length) = some 1 := ⟨by decide +kernel, by decide +kernel, by decide +kernel⟩
theorem nd_PB_takeOverTariffs : y_PB_takeOverTariffs.cls ≠ "java/lang/invoke/MethodHandle" ∧ y_PB_takeOverTariffs.cls ≠ "java/lang/invoke/VarHandle" ∧ (parseMethodDescriptor y_PB_takeOverTariffs.desc).map (fun d => d.parameters.length) = some 0 := ⟨by decide +kernel, by decide +kernel, by decide +kernel⟩
theorem nd_PB_kindsThatWait : y_PB_kindsThatWait.cls ≠ "java/lang/invoke/MethodHandle" ∧ y_PB_kindsThatWait.cls ≠ "java/lang/invoke/VarHandle" ∧ (parseMethodDescriptor y_PB_kindsThatWait.desc).map (fun d => d.parameters.length) = some 1 := ⟨by decide +kernel, by decide +kernel, by decide +kernel⟩
theorem nd_PB_forgetEvents : y_PB_forgetEvents.cls ≠ "java/lang/invoke/MethodHandle" ∧ y_PB_forgetEvents.cls ≠ "java/lang/invoke/VarHandle" ∧ (parseMethodDescriptor y_PB_forgetEvents.desc).map (fun d => d.parameters.length) = some 1 := ⟨by decide +kernel, by decide +kernel, by decide +kernel⟩
theorem nd_PB_billedLine : y_PB_billedLine.cls ≠ "java/lang/invoke/MethodHandle" ∧ y_PB_billedLine.cls ≠ "java/lang/invoke/VarHandle" ∧ (parseMethodDescriptor y_PB_billedLine.desc).map (fun d => d.parameters.length) = some 2 := ⟨by decide +kernel, by decide +kernel, by decide +kernel⟩
theorem nd_PB_centsFor : y_PB_centsFor.cls ≠ "java/lang/invoke/MethodHandle" ∧ y_PB_centsFor.cls ≠ "java/lang/invoke/VarHandle" ∧ (parseMethodDescriptor y_PB_centsFor.desc).map (fun d => d.parameters.length) = some 3 := ⟨by decide +kernel, by decide +kernel, by decide +kernel⟩
theorem nd_PB_owedNow : y_PB_owedNow.cls ≠ "java/lang/invoke/MethodHandle" ∧ y_PB_owedNow.cls ≠ "java/lang/invoke/VarHandle" ∧ (parseMethodDescriptor y_PB_owedNow.desc).map (fun d => d.parameters.length) = some 1 := ⟨by decide +kernel, by decide +kernel, by decide +kernel⟩
theorem nd_PB_linesOf : y_PB_linesOf.cls ≠ "java/lang/invoke/MethodHandle" ∧ y_PB_linesOf.cls ≠ "java/lang/invoke/VarHandle" ∧ (parseMethodDescriptor y_PB_linesOf.desc).map (fun d => d.parameters.length) = some 1 := ⟨by decide +kernel, by decide +kernel, by decide +kernel⟩
theorem nd_PB_begunUnits : y_PB_begunUnits.cls ≠ "java/lang/invoke/MethodHandle" ∧ y_PB_begunUnits.cls ≠ "java/lang/invoke/VarHandle" ∧ (parseMethodDescriptor y_PB_begunUnits.desc).map (fun d => d.parameters.length) = some 2 := ⟨by decide +kernel, by decide +kernel, by decide +kernel⟩
theorem nd_PB_roundedHalfUp : y_PB_roundedHalfUp.cls ≠ "java/lang/invoke/MethodHandle" ∧ y_PB_roundedHalfUp.cls ≠ "java/lang/invoke/VarHandle" ∧ (parseMethodDescriptor y_PB_roundedHalfUp.desc).map (fun d => d.parameters.length) = some 2 := ⟨by decide +kernel, by decide +kernel, by decide +kernel⟩
theorem nd_PB_quotient : y_PB_quotient.cls ≠ "java/lang/invoke/MethodHandle" ∧ y_PB_quotient.cls ≠ "java/lang/invoke/VarHandle" ∧ (parseMethodDescriptor y_PB_quotient.desc).map (fun d => d.parameters.length) = some 2 := ⟨by decide +kernel, by decide +kernel, by decide +kernel⟩
theorem nd_MD_init : y_MD_init.cls ≠ "java/lang/invoke/MethodHandle" ∧ y_MD_init.cls ≠ "java/lang/invoke/VarHandle" ∧ (parseMethodDescriptor y_MD_init.desc).map (fun d => d.parameters.length) = some 0 := ⟨by decide +kernel, by decide +kernel, by decide +kernel⟩
theorem nd_MD_thrown : y_MD_thrown.cls ≠ "java/lang/invoke/MethodHandle" ∧ y_MD_thrown.cls ≠ "java/lang/invoke/VarHandle" ∧ (parseMethodDescriptor y_MD_thrown.desc).map (fun d => d.parameters.length) = some 0 := ⟨by decide +kernel, by decide +kernel, by decide +kernel⟩
theorem nd_MD_fails : y_MD_fails.cls ≠ "java/lang/invoke/MethodHandle" ∧ y_MD_fails.cls ≠ "java/lang/invoke/VarHandle" ∧ (parseMethodDescriptor y_MD_fails.desc).map (fun d => d.parameters.length) = some 1 := ⟨by decide +kernel, by decide +kernel, by decide +kernel⟩
theorem nd_MD_in : y_MD_in.cls ≠ "java/lang/invoke/MethodHandle" ∧ y_MD_in.cls ≠ "java/lang/invoke/VarHandle" ∧ (parseMethodDescriptor y_MD_in.desc).map (fun d => d.parameters.length) = some 3 := ⟨by decide +kernel, by decide +kernel, by decide +kernel⟩
theorem nd_MD_isCall : y_MD_isCall.cls ≠ "java/lang/invoke/MethodHandle" ∧ y_MD_isCall.cls ≠ "java/lang/invoke/VarHandle" ∧ (parseMethodDescriptor y_MD_isCall.desc).map (fun d => d.parameters.length) = some 1 := ⟨by decide +kernel, by decide +kernel, by decide +kernel⟩
theorem nd_MD_isKind : y_MD_isKind.cls ≠ "java/lang/invoke/MethodHandle" ∧ y_MD_isKind.cls ≠ "java/lang/invoke/VarHandle" ∧ (parseMethodDescriptor y_MD_isKind.desc).map (fun d => d.parameters.length) = some 1 := ⟨by decide +kernel, by decide +kernel, by decide +kernel⟩
theorem nd_MD_unitOf : y_MD_unitOf.cls ≠ "java/lang/invoke/MethodHandle" ∧ y_MD_unitOf.cls ≠ "java/lang/invoke/VarHandle" ∧ (parseMethodDescriptor y_MD_unitOf.desc).map (fun d => d.parameters.length) = some 1 := ⟨by decide +kernel, by decide +kernel, by decide +kernel⟩
theorem nd_MD_sign : y_MD_sign.cls ≠ "java/lang/invoke/MethodHandle" ∧ y_MD_sign.cls ≠ "java/lang/invoke/VarHandle" ∧ (parseMethodDescriptor y_MD_sign.desc).map (fun d => d.parameters.length) = some 1 := ⟨by decide +kernel, by decide +kernel, by decide +kernel⟩
theorem nd_MD_begins : y_MD_begins.cls ≠ "java/lang/invoke/MethodHandle" ∧ y_MD_begins.cls ≠ "java/lang/invoke/VarHandle" ∧ (parseMethodDescriptor y_MD_begins.desc).map (fun d => d.parameters.length) = some 1 := ⟨by decide +kernel, by decide +kernel, by decide +kernel⟩
theorem nd_MD_read : y_MD_read.cls ≠ "java/lang/invoke/MethodHandle" ∧ y_MD_read.cls ≠ "java/lang/invoke/VarHandle" ∧ (parseMethodDescriptor y_MD_read.desc).map (fun d => d.parameters.length) = some 0 := ⟨by decide +kernel, by decide +kernel, by decide +kernel⟩
theorem nd_MD_tariff : y_MD_tariff.cls ≠ "java/lang/invoke/MethodHandle" ∧ y_MD_tariff.cls ≠ "java/lang/invoke/VarHandle" ∧ (parseMethodDescriptor y_MD_tariff.desc).map (fun d => d.parameters.length) = some 2 := ⟨by decide +kernel, by decide +kernel, by decide +kernel⟩
theorem nd_MD_event : y_MD_event.cls ≠ "java/lang/invoke/MethodHandle" ∧ y_MD_event.cls ≠ "java/lang/invoke/VarHandle" ∧ (parseMethodDescriptor y_MD_event.desc).map (fun d => d.parameters.length) = some 3 := ⟨by decide +kernel, by decide +kernel, by decide +kernel⟩
theorem nd_MD_discount : y_MD_discount.cls ≠ "java/lang/invoke/MethodHandle" ∧ y_MD_discount.cls ≠ "java/lang/invoke/VarHandle" ∧ (parseMethodDescriptor y_MD_discount.desc).map (fun d => d.parameters.length) = some 4 := ⟨by decide +kernel, by decide +kernel, by decide +kernel⟩
theorem nd_MD_unitsOf : y_MD_unitsOf.cls ≠ "java/lang/invoke/MethodHandle" ∧ y_MD_unitsOf.cls ≠ "java/lang/invoke/VarHandle" ∧ (parseMethodDescriptor y_MD_unitsOf.desc).map (fun d => d.parameters.length) = some 2 := ⟨by decide +kernel, by decide +kernel, by decide +kernel⟩
theorem nd_MD_newLine : y_MD_newLine.cls ≠ "java/lang/invoke/MethodHandle" ∧ y_MD_newLine.cls ≠ "java/lang/invoke/VarHandle" ∧ (parseMethodDescriptor y_MD_newLine.desc).map (fun d => d.parameters.length) = some 6 := ⟨by decide +kernel, by decide +kernel, by decide +kernel⟩
theorem nd_MD_billKind : y_MD_billKind.cls ≠ "java/lang/invoke/MethodHandle" ∧ y_MD_billKind.cls ≠ "java/lang/invoke/VarHandle" ∧ (parseMethodDescriptor y_MD_billKind.desc).map (fun d => d.parameters.length) = some 2 := ⟨by decide +kernel, by decide +kernel, by decide +kernel⟩
theorem nd_MD_takeEvents : y_MD_takeEvents.cls ≠ "java/lang/invoke/MethodHandle" ∧ y_MD_takeEvents.cls ≠ "java/lang/invoke/VarHandle" ∧ (parseMethodDescriptor y_MD_takeEvents.desc).map (fun d => d.parameters.length) = some 1 := ⟨by decide +kernel, by decide +kernel, by decide +kernel⟩
theorem nd_MD_bill : y_MD_bill.cls ≠ "java/lang/invoke/MethodHandle" ∧ y_MD_bill.cls ≠ "java/lang/invoke/VarHandle" ∧ (parseMethodDescriptor y_MD_bill.desc).map (fun d => d.parameters.length) = some 1 := ⟨by decide +kernel, by decide +kernel, by decide +kernel⟩
theorem nd_MD_isLine : y_MD_isLine.cls ≠ "java/lang/invoke/MethodHandle" ∧ y_MD_isLine.cls ≠ "java/lang/invoke/VarHandle" ∧ (parseMethodDescriptor y_MD_isLine.desc).map (fun d => d.parameters.length) = some 1 := ⟨by decide +kernel, by decide +kernel, by decide +kernel⟩
theorem nd_MD_whole : y_MD_whole.cls ≠ "java/lang/invoke/MethodHandle" ∧ y_MD_whole.cls ≠ "java/lang/invoke/VarHandle" ∧ (parseMethodDescriptor y_MD_whole.desc).map (fun d => d.parameters.length) = some 1 := ⟨by decide +kernel, by decide +kernel, by decide +kernel⟩
theorem nd_MD_correct : y_MD_correct.cls ≠ "java/lang/invoke/MethodHandle" ∧ y_MD_correct.cls ≠ "java/lang/invoke/VarHandle" ∧ (parseMethodDescriptor y_MD_correct.desc).map (fun d => d.parameters.length) = some 2 := ⟨by decide +kernel, by decide +kernel, by decide +kernel⟩
theorem nd_MD_dispute : y_MD_dispute.cls ≠ "java/lang/invoke/MethodHandle" ∧ y_MD_dispute.cls ≠ "java/lang/invoke/VarHandle" ∧ (parseMethodDescriptor y_MD_dispute.desc).map (fun d => d.parameters.length) = some 2 := ⟨by decide +kernel, by decide +kernel, by decide +kernel⟩
theorem nd_MD_isOut : y_MD_isOut.cls ≠ "java/lang/invoke/MethodHandle" ∧ y_MD_isOut.cls ≠ "java/lang/invoke/VarHandle" ∧ (parseMethodDescriptor y_MD_isOut.desc).map (fun d => d.parameters.length) = some 1 := ⟨by decide +kernel, by decide +kernel, by decide +kernel⟩
theorem nd_MD_left : y_MD_left.cls ≠ "java/lang/invoke/MethodHandle" ∧ y_MD_left.cls ≠ "java/lang/invoke/VarHandle" ∧ (parseMethodDescriptor y_MD_left.desc).map (fun d => d.parameters.length) = some 1 := ⟨by decide +kernel, by decide +kernel, by decide +kernel⟩
theorem nd_MD_pay : y_MD_pay.cls ≠ "java/lang/invoke/MethodHandle" ∧ y_MD_pay.cls ≠ "java/lang/invoke/VarHandle" ∧ (parseMethodDescriptor y_MD_pay.desc).map (fun d => d.parameters.length) = some 2 := ⟨by decide +kernel, by decide +kernel, by decide +kernel⟩
theorem nd_MD_unpaid : y_MD_unpaid.cls ≠ "java/lang/invoke/MethodHandle" ∧ y_MD_unpaid.cls ≠ "java/lang/invoke/VarHandle" ∧ (parseMethodDescriptor y_MD_unpaid.desc).map (fun d => d.parameters.length) = some 1 := ⟨by decide +kernel, by decide +kernel, by decide +kernel⟩
theorem nd_MD_share : y_MD_share.cls ≠ "java/lang/invoke/MethodHandle" ∧ y_MD_share.cls ≠ "java/lang/invoke/VarHandle" ∧ (parseMethodDescriptor y_MD_share.desc).map (fun d => d.parameters.length) = some 3 := ⟨by decide +kernel, by decide +kernel, by decide +kernel⟩
theorem nd_MD_line : y_MD_line.cls ≠ "java/lang/invoke/MethodHandle" ∧ y_MD_line.cls ≠ "java/lang/invoke/VarHandle" ∧ (parseMethodDescriptor y_MD_line.desc).map (fun d => d.parameters.length) = some 2 := ⟨by decide +kernel, by decide +kernel, by decide +kernel⟩
theorem nd_MD_count : y_MD_count.cls ≠ "java/lang/invoke/MethodHandle" ∧ y_MD_count.cls ≠ "java/lang/invoke/VarHandle" ∧ (parseMethodDescriptor y_MD_count.desc).map (fun d => d.parameters.length) = some 1 := ⟨by decide +kernel, by decide +kernel, by decide +kernel⟩
theorem nd_LN_init : y_LN_init.cls ≠ "java/lang/invoke/MethodHandle" ∧ y_LN_init.cls ≠ "java/lang/invoke/VarHandle" ∧ (parseMethodDescriptor y_LN_init.desc).map (fun d => d.parameters.length) = some 7 := ⟨by decide +kernel, by decide +kernel, by decide +kernel⟩
theorem nd_LN_isCorrection : y_LN_isCorrection.cls ≠ "java/lang/invoke/MethodHandle" ∧ y_LN_isCorrection.cls ≠ "java/lang/invoke/VarHandle" ∧ (parseMethodDescriptor y_LN_isCorrection.desc).map (fun d => d.parameters.length) = some 0 := ⟨by decide +kernel, by decide +kernel, by decide +kernel⟩
theorem nd_LN_part : y_LN_part.cls ≠ "java/lang/invoke/MethodHandle" ∧ y_LN_part.cls ≠ "java/lang/invoke/VarHandle" ∧ (parseMethodDescriptor y_LN_part.desc).map (fun d => d.parameters.length) = some 1 := ⟨by decide +kernel, by decide +kernel, by decide +kernel⟩
theorem nd_TT_init : y_TT_init.cls ≠ "java/lang/invoke/MethodHandle" ∧ y_TT_init.cls ≠ "java/lang/invoke/VarHandle" ∧ (parseMethodDescriptor y_TT_init.desc).map (fun d => d.parameters.length) = some 0 := ⟨by decide +kernel, by decide +kernel, by decide +kernel⟩
theorem nd_TT_takes : y_TT_takes.cls ≠ "java/lang/invoke/MethodHandle" ∧ y_TT_takes.cls ≠ "java/lang/invoke/VarHandle" ∧ (parseMethodDescriptor y_TT_takes.desc).map (fun d => d.parameters.length) = some 1 := ⟨by decide +kernel, by decide +kernel, by decide +kernel⟩
theorem nd_TT_clear : y_TT_clear.cls ≠ "java/lang/invoke/MethodHandle" ∧ y_TT_clear.cls ≠ "java/lang/invoke/VarHandle" ∧ (parseMethodDescriptor y_TT_clear.desc).map (fun d => d.parameters.length) = some 0 := ⟨by decide +kernel, by decide +kernel, by decide +kernel⟩
theorem nd_TT_readRows : y_TT_readRows.cls ≠ "java/lang/invoke/MethodHandle" ∧ y_TT_readRows.cls ≠ "java/lang/invoke/VarHandle" ∧ (parseMethodDescriptor y_TT_readRows.desc).map (fun d => d.parameters.length) = some 0 := ⟨by decide +kernel, by decide +kernel, by decide +kernel⟩
theorem nd_TT_readRow : y_TT_readRow.cls ≠ "java/lang/invoke/MethodHandle" ∧ y_TT_readRow.cls ≠ "java/lang/invoke/VarHandle" ∧ (parseMethodDescriptor y_TT_readRow.desc).map (fun d => d.parameters.length) = some 0 := ⟨by decide +kernel, by decide +kernel, by decide +kernel⟩
theorem nd_TT_readNumber : y_TT_readNumber.cls ≠ "java/lang/invoke/MethodHandle" ∧ y_TT_readNumber.cls ≠ "java/lang/invoke/VarHandle" ∧ (parseMethodDescriptor y_TT_readNumber.desc).map (fun d => d.parameters.length) = some 3 := ⟨by decide +kernel, by decide +kernel, by decide +kernel⟩
theorem nd_TT_passes : y_TT_passes.cls ≠ "java/lang/invoke/MethodHandle" ∧ y_TT_passes.cls ≠ "java/lang/invoke/VarHandle" ∧ (parseMethodDescriptor y_TT_passes.desc).map (fun d => d.parameters.length) = some 1 := ⟨by decide +kernel, by decide +kernel, by decide +kernel⟩
theorem nd_TT_next : y_TT_next.cls ≠ "java/lang/invoke/MethodHandle" ∧ y_TT_next.cls ≠ "java/lang/invoke/VarHandle" ∧ (parseMethodDescriptor y_TT_next.desc).map (fun d => d.parameters.length) = some 0 := ⟨by decide +kernel, by decide +kernel, by decide +kernel⟩
theorem nd_TT_isDigit : y_TT_isDigit.cls ≠ "java/lang/invoke/MethodHandle" ∧ y_TT_isDigit.cls ≠ "java/lang/invoke/VarHandle" ∧ (parseMethodDescriptor y_TT_isDigit.desc).map (fun d => d.parameters.length) = some 1 := ⟨by decide +kernel, by decide +kernel, by decide +kernel⟩
theorem nd_LW_tariff : y_LW_tariff.cls ≠ "java/lang/invoke/MethodHandle" ∧ y_LW_tariff.cls ≠ "java/lang/invoke/VarHandle" ∧ (parseMethodDescriptor y_LW_tariff.desc).map (fun d => d.parameters.length) = some 4 := ⟨by decide +kernel, by decide +kernel, by decide +kernel⟩
theorem nd_LW_event : y_LW_event.cls ≠ "java/lang/invoke/MethodHandle" ∧ y_LW_event.cls ≠ "java/lang/invoke/VarHandle" ∧ (parseMethodDescriptor y_LW_event.desc).map (fun d => d.parameters.length) = some 5 := ⟨by decide +kernel, by decide +kernel, by decide +kernel⟩
theorem nd_LW_bill : y_LW_bill.cls ≠ "java/lang/invoke/MethodHandle" ∧ y_LW_bill.cls ≠ "java/lang/invoke/VarHandle" ∧ (parseMethodDescriptor y_LW_bill.desc).map (fun d => d.parameters.length) = some 3 := ⟨by decide +kernel, by decide +kernel, by decide +kernel⟩
theorem nd_LW_correct : y_LW_correct.cls ≠ "java/lang/invoke/MethodHandle" ∧ y_LW_correct.cls ≠ "java/lang/invoke/VarHandle" ∧ (parseMethodDescriptor y_LW_correct.desc).map (fun d => d.parameters.length) = some 4 := ⟨by decide +kernel, by decide +kernel, by decide +kernel⟩
theorem nd_LW_dispute : y_LW_dispute.cls ≠ "java/lang/invoke/MethodHandle" ∧ y_LW_dispute.cls ≠ "java/lang/invoke/VarHandle" ∧ (parseMethodDescriptor y_LW_dispute.desc).map (fun d => d.parameters.length) = some 4 := ⟨by decide +kernel, by decide +kernel, by decide +kernel⟩
theorem nd_LW_pay : y_LW_pay.cls ≠ "java/lang/invoke/MethodHandle" ∧ y_LW_pay.cls ≠ "java/lang/invoke/VarHandle" ∧ (parseMethodDescriptor y_LW_pay.desc).map (fun d => d.parameters.length) = some 4 := ⟨by decide +kernel, by decide +kernel, by decide +kernel⟩
theorem nd_LW_unpaid : y_LW_unpaid.cls ≠ "java/lang/invoke/MethodHandle" ∧ y_LW_unpaid.cls ≠ "java/lang/invoke/VarHandle" ∧ (parseMethodDescriptor y_LW_unpaid.desc).map (fun d => d.parameters.length) = some 3 := ⟨by decide +kernel, by decide +kernel, by decide +kernel⟩
theorem nd_LW_share : y_LW_share.cls ≠ "java/lang/invoke/MethodHandle" ∧ y_LW_share.cls ≠ "java/lang/invoke/VarHandle" ∧ (parseMethodDescriptor y_LW_share.desc).map (fun d => d.parameters.length) = some 5 := ⟨by decide +kernel, by decide +kernel, by decide +kernel⟩
theorem nd_LW_line : y_LW_line.cls ≠ "java/lang/invoke/MethodHandle" ∧ y_LW_line.cls ≠ "java/lang/invoke/VarHandle" ∧ (parseMethodDescriptor y_LW_line.desc).map (fun d => d.parameters.length) = some 4 := ⟨by decide +kernel, by decide +kernel, by decide +kernel⟩
theorem nd_LW_law : y_LW_law.cls ≠ "java/lang/invoke/MethodHandle" ∧ y_LW_law.cls ≠ "java/lang/invoke/VarHandle" ∧ (parseMethodDescriptor y_LW_law.desc).map (fun d => d.parameters.length) = some 1 := ⟨by decide +kernel, by decide +kernel, by decide +kernel⟩
theorem nd_AC_init : y_AC_init.cls ≠ "java/lang/invoke/MethodHandle" ∧ y_AC_init.cls ≠ "java/lang/invoke/VarHandle" ∧ (parseMethodDescriptor y_AC_init.desc).map (fun d => d.parameters.length) = some 0 := ⟨by decide +kernel, by decide +kernel, by decide +kernel⟩
theorem nd_AB_init : y_AB_init.cls ≠ "java/lang/invoke/MethodHandle" ∧ y_AB_init.cls ≠ "java/lang/invoke/VarHandle" ∧ (parseMethodDescriptor y_AB_init.desc).map (fun d => d.parameters.length) = some 0 := ⟨by decide +kernel, by decide +kernel, by decide +kernel⟩
theorem nd_AL_init : y_AL_init.cls ≠ "java/lang/invoke/MethodHandle" ∧ y_AL_init.cls ≠ "java/lang/invoke/VarHandle" ∧ (parseMethodDescriptor y_AL_init.desc).map (fun d => d.parameters.length) = some 0 := ⟨by decide +kernel, by decide +kernel, by decide +kernel⟩
theorem nd_AL_add : y_AL_add.cls ≠ "java/lang/invoke/MethodHandle" ∧ y_AL_add.cls ≠ "java/lang/invoke/VarHandle" ∧ (parseMethodDescriptor y_AL_add.desc).map (fun d => d.parameters.length) = some 1 := ⟨by decide +kernel, by decide +kernel, by decide +kernel⟩
theorem nd_AL_add2 : y_AL_add2.cls ≠ "java/lang/invoke/MethodHandle" ∧ y_AL_add2.cls ≠ "java/lang/invoke/VarHandle" ∧ (parseMethodDescriptor y_AL_add2.desc).map (fun d => d.parameters.length) = some 3 := ⟨by decide +kernel, by decide +kernel, by decide +kernel⟩
theorem nd_AL_elementData : y_AL_elementData.cls ≠ "java/lang/invoke/MethodHandle" ∧ y_AL_elementData.cls ≠ "java/lang/invoke/VarHandle" ∧ (parseMethodDescriptor y_AL_elementData.desc).map (fun d => d.parameters.length) = some 1 := ⟨by decide +kernel, by decide +kernel, by decide +kernel⟩
theorem nd_AL_get : y_AL_get.cls ≠ "java/lang/invoke/MethodHandle" ∧ y_AL_get.cls ≠ "java/lang/invoke/VarHandle" ∧ (parseMethodDescriptor y_AL_get.desc).map (fun d => d.parameters.length) = some 1 := ⟨by decide +kernel, by decide +kernel, by decide +kernel⟩
theorem nd_AL_grow : y_AL_grow.cls ≠ "java/lang/invoke/MethodHandle" ∧ y_AL_grow.cls ≠ "java/lang/invoke/VarHandle" ∧ (parseMethodDescriptor y_AL_grow.desc).map (fun d => d.parameters.length) = some 0 := ⟨by decide +kernel, by decide +kernel, by decide +kernel⟩
theorem nd_AL_grow2 : y_AL_grow2.cls ≠ "java/lang/invoke/MethodHandle" ∧ y_AL_grow2.cls ≠ "java/lang/invoke/VarHandle" ∧ (parseMethodDescriptor y_AL_grow2.desc).map (fun d => d.parameters.length) = some 1 := ⟨by decide +kernel, by decide +kernel, by decide +kernel⟩
theorem nd_AL_size : y_AL_size.cls ≠ "java/lang/invoke/MethodHandle" ∧ y_AL_size.cls ≠ "java/lang/invoke/VarHandle" ∧ (parseMethodDescriptor y_AL_size.desc).map (fun d => d.parameters.length) = some 0 := ⟨by decide +kernel, by decide +kernel, by decide +kernel⟩
theorem nd_AR_copyOf : y_AR_copyOf.cls ≠ "java/lang/invoke/MethodHandle" ∧ y_AR_copyOf.cls ≠ "java/lang/invoke/VarHandle" ∧ (parseMethodDescriptor y_AR_copyOf.desc).map (fun d => d.parameters.length) = some 2 := ⟨by decide +kernel, by decide +kernel, by decide +kernel⟩
theorem nd_AR_copyOf2 : y_AR_copyOf2.cls ≠ "java/lang/invoke/MethodHandle" ∧ y_AR_copyOf2.cls ≠ "java/lang/invoke/VarHandle" ∧ (parseMethodDescriptor y_AR_copyOf2.desc).map (fun d => d.parameters.length) = some 3 := ⟨by decide +kernel, by decide +kernel, by decide +kernel⟩
theorem nd_AR_fill : y_AR_fill.cls ≠ "java/lang/invoke/MethodHandle" ∧ y_AR_fill.cls ≠ "java/lang/invoke/VarHandle" ∧ (parseMethodDescriptor y_AR_fill.desc).map (fun d => d.parameters.length) = some 2 := ⟨by decide +kernel, by decide +kernel, by decide +kernel⟩
theorem nd_OB_checkIndex : y_OB_checkIndex.cls ≠ "java/lang/invoke/MethodHandle" ∧ y_OB_checkIndex.cls ≠ "java/lang/invoke/VarHandle" ∧ (parseMethodDescriptor y_OB_checkIndex.desc).map (fun d => d.parameters.length) = some 2 := ⟨by decide +kernel, by decide +kernel, by decide +kernel⟩
theorem nd_AS_hugeLength : y_AS_hugeLength.cls ≠ "java/lang/invoke/MethodHandle" ∧ y_AS_hugeLength.cls ≠ "java/lang/invoke/VarHandle" ∧ (parseMethodDescriptor y_AS_hugeLength.desc).map (fun d => d.parameters.length) = some 2 := ⟨by decide +kernel, by decide +kernel, by decide +kernel⟩
theorem nd_AS_newLength : y_AS_newLength.cls ≠ "java/lang/invoke/MethodHandle" ∧ y_AS_newLength.cls ≠ "java/lang/invoke/VarHandle" ∧ (parseMethodDescriptor y_AS_newLength.desc).map (fun d => d.parameters.length) = some 3 := ⟨by decide +kernel, by decide +kernel, by decide +kernel⟩
theorem nd_PC_checkIndex : y_PC_checkIndex.cls ≠ "java/lang/invoke/MethodHandle" ∧ y_PC_checkIndex.cls ≠ "java/lang/invoke/VarHandle" ∧ (parseMethodDescriptor y_PC_checkIndex.desc).map (fun d => d.parameters.length) = some 3 := ⟨by decide +kernel, by decide +kernel, by decide +kernel⟩
theorem fl0_PB : ∀ w ∈ u_ws R_PB F_PB 11, gw w := by
  have h : (u_ws R_PB F_PB 11).all (fun w => decide (w ∈ lw_tbl) && goodWord w) = true := by decide +kernel
  intro w hw
  have := List.all_eq_true.mp h w hw
  simp only [Bool.and_eq_true, decide_eq_true_eq] at this
  exact this
theorem fl_PB {args : Array Value} {s : State} (hg : ∀ w, gw w → w.before args s = true) : ∀ w ∈ u_ws R_PB F_PB 11, w.before args s = true := fun w hw => hg w (fl0_PB w hw)
theorem fl0_TT : ∀ w ∈ u_ws R_TT F_TT 5, gw w := by
  have h : (u_ws R_TT F_TT 5).all (fun w => decide (w ∈ lw_tbl) && goodWord w) = true := by decide +kernel
  intro w hw
  have := List.all_eq_true.mp h w hw
  simp only [Bool.and_eq_true, decide_eq_true_eq] at this
  exact this
theorem fl_TT {args : Array Value} {s : State} (hg : ∀ w, gw w → w.before args s = true) : ∀ w ∈ u_ws R_TT F_TT 5, w.before args s = true := fun w hw => hg w (fl0_TT w hw)
theorem fl0_LN : ∀ w ∈ u_ws R_LN F_LN 9, gw w := by
  have h : (u_ws R_LN F_LN 9).all (fun w => decide (w ∈ lw_tbl) && goodWord w) = true := by decide +kernel
  intro w hw
  have := List.all_eq_true.mp h w hw
  simp only [Bool.and_eq_true, decide_eq_true_eq] at this
  exact this
theorem fl_LN {args : Array Value} {s : State} (hg : ∀ w, gw w → w.before args s = true) : ∀ w ∈ u_ws R_LN F_LN 9, w.before args s = true := fun w hw => hg w (fl0_LN w hw)
theorem fl0_AL : ∀ w ∈ u_ws R_AL F_AL 3, gw w := by
  have h : (u_ws R_AL F_AL 3).all (fun w => decide (w ∈ lw_tbl) && goodWord w) = true := by decide +kernel
  intro w hw
  have := List.all_eq_true.mp h w hw
  simp only [Bool.and_eq_true, decide_eq_true_eq] at this
  exact this
theorem fl_AL {args : Array Value} {s : State} (hg : ∀ w, gw w → w.before args s = true) : ∀ w ∈ u_ws R_AL F_AL 3, w.before args s = true := fun w hw => hg w (fl0_AL w hw)
theorem fl0_MD : ∀ w ∈ u_ws R_MD F_MD 23, gw w := by
  have h : (u_ws R_MD F_MD 23).all (fun w => decide (w ∈ lw_tbl) && goodWord w) = true := by decide +kernel
  intro w hw
  have := List.all_eq_true.mp h w hw
  simp only [Bool.and_eq_true, decide_eq_true_eq] at this
  exact this
theorem fl_MD {args : Array Value} {s : State} (hg : ∀ w, gw w → w.before args s = true) : ∀ w ∈ u_ws R_MD F_MD 23, w.before args s = true := fun w hw => hg w (fl0_MD w hw)
end
section
theorem d_PB_init_0 : decode b_PB_init 0 = .ok (.aload_n 0, 1) := by decide +kernel
theorem d_PB_init_1 : decode b_PB_init 1 = .ok (.invokespecial 1, 3) := by decide +kernel
theorem d_PB_init_4 : decode b_PB_init 4 = .ok (.aload_n 0, 1) := by decide +kernel
theorem d_PB_init_5 : decode b_PB_init 5 = .ok (.new 7, 3) := by decide +kernel
theorem d_PB_init_8 : decode b_PB_init 8 = .ok (.dup, 1) := by decide +kernel
theorem d_PB_init_9 : decode b_PB_init 9 = .ok (.invokespecial 9, 3) := by decide +kernel
theorem d_PB_init_12 : decode b_PB_init 12 = .ok (.putfield 10, 3) := by decide +kernel
theorem d_PB_init_15 : decode b_PB_init 15 = .ok (.aload_n 0, 1) := by decide +kernel
theorem d_PB_init_16 : decode b_PB_init 16 = .ok (.bipush 6, 2) := by decide +kernel
theorem d_PB_init_18 : decode b_PB_init 18 = .ok (.iconst 4, 1) := by decide +kernel
theorem d_PB_init_19 : decode b_PB_init 19 = .ok (.multianewarray 16 2, 4) := by decide +kernel
theorem d_PB_init_23 : decode b_PB_init 23 = .ok (.putfield 18, 3) := by decide +kernel
theorem d_PB_init_26 : decode b_PB_init 26 = .ok (.aload_n 0, 1) := by decide +kernel
theorem d_PB_init_27 : decode b_PB_init 27 = .ok (.bipush 10, 2) := by decide +kernel
theorem d_PB_init_29 : decode b_PB_init 29 = .ok (.bipush 6, 2) := by decide +kernel
theorem d_PB_init_31 : decode b_PB_init 31 = .ok (.multianewarray 16 2, 4) := by decide +kernel
theorem d_PB_init_35 : decode b_PB_init 35 = .ok (.putfield 21, 3) := by decide +kernel
theorem d_PB_init_38 : decode b_PB_init 38 = .ok (.aload_n 0, 1) := by decide +kernel
theorem d_PB_init_39 : decode b_PB_init 39 = .ok (.bipush 10, 2) := by decide +kernel
theorem d_PB_init_41 : decode b_PB_init 41 = .ok (.newarray .int, 2) := by decide +kernel
theorem d_PB_init_43 : decode b_PB_init 43 = .ok (.putfield 24, 3) := by decide +kernel
theorem d_PB_init_46 : decode b_PB_init 46 = .ok (.aload_n 0, 1) := by decide +kernel
theorem d_PB_init_47 : decode b_PB_init 47 = .ok (.bipush 10, 2) := by decide +kernel
theorem d_PB_init_49 : decode b_PB_init 49 = .ok (.bipush 6, 2) := by decide +kernel
theorem d_PB_init_51 : decode b_PB_init 51 = .ok (.multianewarray 16 2, 4) := by decide +kernel
theorem d_PB_init_55 : decode b_PB_init 55 = .ok (.putfield 28, 3) := by decide +kernel
theorem d_PB_init_58 : decode b_PB_init 58 = .ok (.aload_n 0, 1) := by decide +kernel
theorem d_PB_init_59 : decode b_PB_init 59 = .ok (.bipush 10, 2) := by decide +kernel
theorem d_PB_init_61 : decode b_PB_init 61 = .ok (.bipush 6, 2) := by decide +kernel
theorem d_PB_init_63 : decode b_PB_init 63 = .ok (.multianewarray 16 2, 4) := by decide +kernel
theorem d_PB_init_67 : decode b_PB_init 67 = .ok (.putfield 31, 3) := by decide +kernel
theorem d_PB_init_70 : decode b_PB_init 70 = .ok (.aload_n 0, 1) := by decide +kernel
theorem d_PB_init_71 : decode b_PB_init 71 = .ok (.bipush 10, 2) := by decide +kernel
theorem d_PB_init_73 : decode b_PB_init 73 = .ok (.bipush 6, 2) := by decide +kernel
theorem d_PB_init_75 : decode b_PB_init 75 = .ok (.multianewarray 16 2, 4) := by decide +kernel
theorem d_PB_init_79 : decode b_PB_init 79 = .ok (.putfield 34, 3) := by decide +kernel
theorem d_PB_init_82 : decode b_PB_init 82 = .ok (.aload_n 0, 1) := by decide +kernel
theorem d_PB_init_83 : decode b_PB_init 83 = .ok (.new 37, 3) := by decide +kernel
theorem d_PB_init_86 : decode b_PB_init 86 = .ok (.dup, 1) := by decide +kernel
theorem d_PB_init_87 : decode b_PB_init 87 = .ok (.invokespecial 39, 3) := by decide +kernel
theorem d_PB_init_90 : decode b_PB_init 90 = .ok (.putfield 40, 3) := by decide +kernel
theorem d_PB_init_93 : decode b_PB_init 93 = .ok (.aload_n 0, 1) := by decide +kernel
theorem d_PB_init_94 : decode b_PB_init 94 = .ok (.bipush 10, 2) := by decide +kernel
theorem d_PB_init_96 : decode b_PB_init 96 = .ok (.newarray .long, 2) := by decide +kernel
theorem d_PB_init_98 : decode b_PB_init 98 = .ok (.putfield 44, 3) := by decide +kernel
theorem d_PB_init_101 : decode b_PB_init 101 = .ok (.iconst 0, 1) := by decide +kernel
theorem d_PB_init_102 : decode b_PB_init 102 = .ok (.istore_n 1, 1) := by decide +kernel
theorem d_PB_init_103 : decode b_PB_init 103 = .ok (.iload_n 1, 1) := by decide +kernel
theorem d_PB_init_104 : decode b_PB_init 104 = .ok (.bipush 6, 2) := by decide +kernel
theorem d_PB_init_106 : decode b_PB_init 106 = .ok (.if_icmp .ge 28, 3) := by decide +kernel
theorem d_PB_init_109 : decode b_PB_init 109 = .ok (.aload_n 0, 1) := by decide +kernel
theorem d_PB_init_110 : decode b_PB_init 110 = .ok (.getfield 18, 3) := by decide +kernel
theorem d_PB_init_113 : decode b_PB_init 113 = .ok (.iload_n 1, 1) := by decide +kernel
theorem d_PB_init_114 : decode b_PB_init 114 = .ok (.aaload, 1) := by decide +kernel
theorem d_PB_init_115 : decode b_PB_init 115 = .ok (.iconst 0, 1) := by decide +kernel
theorem d_PB_init_116 : decode b_PB_init 116 = .ok (.bipush 7, 2) := by decide +kernel
theorem d_PB_init_118 : decode b_PB_init 118 = .ok (.iastore, 1) := by decide +kernel
theorem d_PB_init_119 : decode b_PB_init 119 = .ok (.aload_n 0, 1) := by decide +kernel
theorem d_PB_init_120 : decode b_PB_init 120 = .ok (.getfield 18, 3) := by decide +kernel
theorem d_PB_init_123 : decode b_PB_init 123 = .ok (.iload_n 1, 1) := by decide +kernel
theorem d_PB_init_124 : decode b_PB_init 124 = .ok (.aaload, 1) := by decide +kernel
theorem d_PB_init_125 : decode b_PB_init 125 = .ok (.iconst 1, 1) := by decide +kernel
theorem d_PB_init_126 : decode b_PB_init 126 = .ok (.iconst 1, 1) := by decide +kernel
theorem d_PB_init_127 : decode b_PB_init 127 = .ok (.iastore, 1) := by decide +kernel
theorem d_PB_init_128 : decode b_PB_init 128 = .ok (.iinc 1 1, 3) := by decide +kernel
theorem d_PB_init_131 : decode b_PB_init 131 = .ok (.goto (-28), 3) := by decide +kernel
theorem d_PB_init_134 : decode b_PB_init 134 = .ok (.iconst 0, 1) := by decide +kernel
theorem d_PB_init_135 : decode b_PB_init 135 = .ok (.istore_n 1, 1) := by decide +kernel
theorem d_PB_init_136 : decode b_PB_init 136 = .ok (.iload_n 1, 1) := by decide +kernel
theorem d_PB_init_137 : decode b_PB_init 137 = .ok (.bipush 10, 2) := by decide +kernel
theorem d_PB_init_139 : decode b_PB_init 139 = .ok (.if_icmp .ge 29, 3) := by decide +kernel
theorem d_PB_init_142 : decode b_PB_init 142 = .ok (.aload_n 0, 1) := by decide +kernel
theorem d_PB_init_143 : decode b_PB_init 143 = .ok (.getfield 31, 3) := by decide +kernel
theorem d_PB_init_146 : decode b_PB_init 146 = .ok (.iload_n 1, 1) := by decide +kernel
theorem d_PB_init_147 : decode b_PB_init 147 = .ok (.aaload, 1) := by decide +kernel
theorem d_PB_init_148 : decode b_PB_init 148 = .ok (.iconst 1, 1) := by decide +kernel
theorem d_PB_init_149 : decode b_PB_init 149 = .ok (.invokestatic 48, 3) := by decide +kernel
theorem d_PB_init_152 : decode b_PB_init 152 = .ok (.aload_n 0, 1) := by decide +kernel
theorem d_PB_init_153 : decode b_PB_init 153 = .ok (.getfield 34, 3) := by decide +kernel
theorem d_PB_init_156 : decode b_PB_init 156 = .ok (.iload_n 1, 1) := by decide +kernel
theorem d_PB_init_157 : decode b_PB_init 157 = .ok (.aaload, 1) := by decide +kernel
theorem d_PB_init_158 : decode b_PB_init 158 = .ok (.iconst 1, 1) := by decide +kernel
theorem d_PB_init_159 : decode b_PB_init 159 = .ok (.invokestatic 48, 3) := by decide +kernel
theorem d_PB_init_162 : decode b_PB_init 162 = .ok (.iinc 1 1, 3) := by decide +kernel
theorem d_PB_init_165 : decode b_PB_init 165 = .ok (.goto (-29), 3) := by decide +kernel
theorem d_PB_init_168 : decode b_PB_init 168 = .ok (.return_, 1) := by decide +kernel
theorem d_PB_sign_0 : decode b_PB_sign 0 = .ok (.aload_n 0, 1) := by decide +kernel
theorem d_PB_sign_1 : decode b_PB_sign 1 = .ok (.getfield 10, 3) := by decide +kernel
theorem d_PB_sign_4 : decode b_PB_sign 4 = .ok (.iload_n 1, 1) := by decide +kernel
theorem d_PB_sign_5 : decode b_PB_sign 5 = .ok (.invokevirtual 54, 3) := by decide +kernel
theorem d_PB_sign_8 : decode b_PB_sign 8 = .ok (.ireturn, 1) := by decide +kernel
theorem d_PB_read_0 : decode b_PB_read 0 = .ok (.aload_n 0, 1) := by decide +kernel
theorem d_PB_read_1 : decode b_PB_read 1 = .ok (.getfield 10, 3) := by decide +kernel
theorem d_PB_read_4 : decode b_PB_read 4 = .ok (.invokevirtual 58, 3) := by decide +kernel
theorem d_PB_read_7 : decode b_PB_read 7 = .ok (.istore_n 1, 1) := by decide +kernel
theorem d_PB_read_8 : decode b_PB_read 8 = .ok (.iload_n 1, 1) := by decide +kernel
theorem d_PB_read_9 : decode b_PB_read 9 = .ok (.ifCond .le 7, 3) := by decide +kernel
theorem d_PB_read_12 : decode b_PB_read 12 = .ok (.aload_n 0, 1) := by decide +kernel
theorem d_PB_read_13 : decode b_PB_read 13 = .ok (.invokevirtual 62, 3) := by decide +kernel
theorem d_PB_read_16 : decode b_PB_read 16 = .ok (.aload_n 0, 1) := by decide +kernel
theorem d_PB_read_17 : decode b_PB_read 17 = .ok (.getfield 10, 3) := by decide +kernel
theorem d_PB_read_20 : decode b_PB_read 20 = .ok (.invokevirtual 65, 3) := by decide +kernel
theorem d_PB_read_23 : decode b_PB_read 23 = .ok (.iload_n 1, 1) := by decide +kernel
theorem d_PB_read_24 : decode b_PB_read 24 = .ok (.ireturn, 1) := by decide +kernel
theorem d_PB_tariff_0 : decode b_PB_tariff 0 = .ok (.iload_n 1, 1) := by decide +kernel
theorem d_PB_tariff_1 : decode b_PB_tariff 1 = .ok (.invokestatic 68, 3) := by decide +kernel
theorem d_PB_tariff_4 : decode b_PB_tariff 4 = .ok (.ifCond .eq 12, 3) := by decide +kernel
theorem d_PB_tariff_7 : decode b_PB_tariff 7 = .ok (.iload_n 2, 1) := by decide +kernel
theorem d_PB_tariff_8 : decode b_PB_tariff 8 = .ok (.ifCond .lt 8, 3) := by decide +kernel
theorem d_PB_tariff_11 : decode b_PB_tariff 11 = .ok (.iload_n 2, 1) := by decide +kernel
theorem d_PB_tariff_12 : decode b_PB_tariff 12 = .ok (.iconst 4, 1) := by decide +kernel
theorem d_PB_tariff_13 : decode b_PB_tariff 13 = .ok (.if_icmp .lt 13, 3) := by decide +kernel
theorem d_PB_tariff_16 : decode b_PB_tariff 16 = .ok (.new 71, 3) := by decide +kernel
theorem d_PB_tariff_19 : decode b_PB_tariff 19 = .ok (.dup, 1) := by decide +kernel
theorem d_PB_tariff_20 : decode b_PB_tariff 20 = .ok (.ldc 73, 2) := by decide +kernel
theorem d_PB_tariff_22 : decode b_PB_tariff 22 = .ok (.invokespecial 75, 3) := by decide +kernel
theorem d_PB_tariff_25 : decode b_PB_tariff 25 = .ok (.athrow, 1) := by decide +kernel
theorem d_PB_tariff_26 : decode b_PB_tariff 26 = .ok (.aload_n 0, 1) := by decide +kernel
theorem d_PB_tariff_27 : decode b_PB_tariff 27 = .ok (.iload_n 1, 1) := by decide +kernel
theorem d_PB_tariff_28 : decode b_PB_tariff 28 = .ok (.invokevirtual 78, 3) := by decide +kernel
theorem d_PB_tariff_31 : decode b_PB_tariff 31 = .ok (.ifCond .eq 14, 3) := by decide +kernel
theorem d_PB_tariff_34 : decode b_PB_tariff 34 = .ok (.aload_n 0, 1) := by decide +kernel
theorem d_PB_tariff_35 : decode b_PB_tariff 35 = .ok (.getfield 18, 3) := by decide +kernel
theorem d_PB_tariff_38 : decode b_PB_tariff 38 = .ok (.iload_n 1, 1) := by decide +kernel
theorem d_PB_tariff_39 : decode b_PB_tariff 39 = .ok (.aaload, 1) := by decide +kernel
theorem d_PB_tariff_40 : decode b_PB_tariff 40 = .ok (.iload_n 2, 1) := by decide +kernel
theorem d_PB_tariff_41 : decode b_PB_tariff 41 = .ok (.iaload, 1) := by decide +kernel
theorem d_PB_tariff_42 : decode b_PB_tariff 42 = .ok (.goto 4, 3) := by decide +kernel
theorem d_PB_tariff_45 : decode b_PB_tariff 45 = .ok (.iconst (-1), 1) := by decide +kernel
theorem d_PB_tariff_46 : decode b_PB_tariff 46 = .ok (.ireturn, 1) := by decide +kernel
theorem d_PB_event_0 : decode b_PB_event 0 = .ok (.iload_n 1, 1) := by decide +kernel
theorem d_PB_event_1 : decode b_PB_event 1 = .ok (.invokestatic 81, 3) := by decide +kernel
theorem d_PB_event_4 : decode b_PB_event 4 = .ok (.ifCond .eq 21, 3) := by decide +kernel
theorem d_PB_event_7 : decode b_PB_event 7 = .ok (.iload_n 2, 1) := by decide +kernel
theorem d_PB_event_8 : decode b_PB_event 8 = .ok (.invokestatic 68, 3) := by decide +kernel
theorem d_PB_event_11 : decode b_PB_event 11 = .ok (.ifCond .eq 14, 3) := by decide +kernel
theorem d_PB_event_14 : decode b_PB_event 14 = .ok (.iload_n 3, 1) := by decide +kernel
theorem d_PB_event_15 : decode b_PB_event 15 = .ok (.iconst 1, 1) := by decide +kernel
theorem d_PB_event_16 : decode b_PB_event 16 = .ok (.if_icmp .lt 9, 3) := by decide +kernel
theorem d_PB_event_19 : decode b_PB_event 19 = .ok (.iload_n 3, 1) := by decide +kernel
theorem d_PB_event_20 : decode b_PB_event 20 = .ok (.ldc 84, 2) := by decide +kernel
theorem d_PB_event_22 : decode b_PB_event 22 = .ok (.if_icmp .le 13, 3) := by decide +kernel
theorem d_PB_event_25 : decode b_PB_event 25 = .ok (.new 71, 3) := by decide +kernel
theorem d_PB_event_28 : decode b_PB_event 28 = .ok (.dup, 1) := by decide +kernel
theorem d_PB_event_29 : decode b_PB_event 29 = .ok (.ldc 85, 2) := by decide +kernel
theorem d_PB_event_31 : decode b_PB_event 31 = .ok (.invokespecial 75, 3) := by decide +kernel
theorem d_PB_event_34 : decode b_PB_event 34 = .ok (.athrow, 1) := by decide +kernel
theorem d_PB_event_35 : decode b_PB_event 35 = .ok (.aload_n 0, 1) := by decide +kernel
theorem d_PB_event_36 : decode b_PB_event 36 = .ok (.getfield 87, 3) := by decide +kernel
theorem d_PB_event_39 : decode b_PB_event 39 = .ok (.bipush 100, 2) := by decide +kernel
theorem d_PB_event_41 : decode b_PB_event 41 = .ok (.if_icmp .lt 13, 3) := by decide +kernel
theorem d_PB_event_44 : decode b_PB_event 44 = .ok (.new 91, 3) := by decide +kernel
theorem d_PB_event_47 : decode b_PB_event 47 = .ok (.dup, 1) := by decide +kernel
theorem d_PB_event_48 : decode b_PB_event 48 = .ok (.ldc 93, 2) := by decide +kernel
theorem d_PB_event_50 : decode b_PB_event 50 = .ok (.invokespecial 95, 3) := by decide +kernel
theorem d_PB_event_53 : decode b_PB_event 53 = .ok (.athrow, 1) := by decide +kernel
theorem d_PB_event_54 : decode b_PB_event 54 = .ok (.iload_n 3, 1) := by decide +kernel
theorem d_PB_event_55 : decode b_PB_event 55 = .ok (.getstatic 96, 3) := by decide +kernel
theorem d_PB_event_58 : decode b_PB_event 58 = .ok (.iload_n 2, 1) := by decide +kernel
theorem d_PB_event_59 : decode b_PB_event 59 = .ok (.iaload, 1) := by decide +kernel
theorem d_PB_event_60 : decode b_PB_event 60 = .ok (.invokestatic 99, 3) := by decide +kernel
theorem d_PB_event_63 : decode b_PB_event 63 = .ok (.istore 4, 2) := by decide +kernel
theorem d_PB_event_65 : decode b_PB_event 65 = .ok (.aload_n 0, 1) := by decide +kernel
theorem d_PB_event_66 : decode b_PB_event 66 = .ok (.getfield 21, 3) := by decide +kernel
theorem d_PB_event_69 : decode b_PB_event 69 = .ok (.iload_n 1, 1) := by decide +kernel
theorem d_PB_event_70 : decode b_PB_event 70 = .ok (.aaload, 1) := by decide +kernel
theorem d_PB_event_71 : decode b_PB_event 71 = .ok (.iload_n 2, 1) := by decide +kernel
theorem d_PB_event_72 : decode b_PB_event 72 = .ok (.dup2, 1) := by decide +kernel
theorem d_PB_event_73 : decode b_PB_event 73 = .ok (.iaload, 1) := by decide +kernel
theorem d_PB_event_74 : decode b_PB_event 74 = .ok (.iload 4, 2) := by decide +kernel
theorem d_PB_event_76 : decode b_PB_event 76 = .ok (.iadd, 1) := by decide +kernel
theorem d_PB_event_77 : decode b_PB_event 77 = .ok (.iastore, 1) := by decide +kernel
theorem d_PB_event_78 : decode b_PB_event 78 = .ok (.aload_n 0, 1) := by decide +kernel
theorem d_PB_event_79 : decode b_PB_event 79 = .ok (.getfield 24, 3) := by decide +kernel
theorem d_PB_event_82 : decode b_PB_event 82 = .ok (.iload_n 1, 1) := by decide +kernel
theorem d_PB_event_83 : decode b_PB_event 83 = .ok (.dup2, 1) := by decide +kernel
theorem d_PB_event_84 : decode b_PB_event 84 = .ok (.iaload, 1) := by decide +kernel
theorem d_PB_event_85 : decode b_PB_event 85 = .ok (.iconst 1, 1) := by decide +kernel
theorem d_PB_event_86 : decode b_PB_event 86 = .ok (.iadd, 1) := by decide +kernel
theorem d_PB_event_87 : decode b_PB_event 87 = .ok (.iastore, 1) := by decide +kernel
theorem d_PB_event_88 : decode b_PB_event 88 = .ok (.aload_n 0, 1) := by decide +kernel
theorem d_PB_event_89 : decode b_PB_event 89 = .ok (.dup, 1) := by decide +kernel
theorem d_PB_event_90 : decode b_PB_event 90 = .ok (.getfield 87, 3) := by decide +kernel
theorem d_PB_event_93 : decode b_PB_event 93 = .ok (.iconst 1, 1) := by decide +kernel
theorem d_PB_event_94 : decode b_PB_event 94 = .ok (.iadd, 1) := by decide +kernel
theorem d_PB_event_95 : decode b_PB_event 95 = .ok (.putfield 87, 3) := by decide +kernel
theorem d_PB_event_98 : decode b_PB_event 98 = .ok (.iload 4, 2) := by decide +kernel
theorem d_PB_event_100 : decode b_PB_event 100 = .ok (.ireturn, 1) := by decide +kernel
theorem d_PB_discount_0 : decode b_PB_discount 0 = .ok (.iload_n 1, 1) := by decide +kernel
theorem d_PB_discount_1 : decode b_PB_discount 1 = .ok (.invokestatic 81, 3) := by decide +kernel
theorem d_PB_discount_4 : decode b_PB_discount 4 = .ok (.ifCond .eq 33, 3) := by decide +kernel
theorem d_PB_discount_7 : decode b_PB_discount 7 = .ok (.iload_n 2, 1) := by decide +kernel
theorem d_PB_discount_8 : decode b_PB_discount 8 = .ok (.invokestatic 68, 3) := by decide +kernel
theorem d_PB_discount_11 : decode b_PB_discount 11 = .ok (.ifCond .eq 26, 3) := by decide +kernel
theorem d_PB_discount_14 : decode b_PB_discount 14 = .ok (.iload 4, 2) := by decide +kernel
theorem d_PB_discount_16 : decode b_PB_discount 16 = .ok (.iconst 1, 1) := by decide +kernel
theorem d_PB_discount_17 : decode b_PB_discount 17 = .ok (.if_icmp .lt 20, 3) := by decide +kernel
theorem d_PB_discount_20 : decode b_PB_discount 20 = .ok (.iload 4, 2) := by decide +kernel
theorem d_PB_discount_22 : decode b_PB_discount 22 = .ok (.bipush 100, 2) := by decide +kernel
theorem d_PB_discount_24 : decode b_PB_discount 24 = .ok (.if_icmp .gt 13, 3) := by decide +kernel
theorem d_PB_discount_27 : decode b_PB_discount 27 = .ok (.iload_n 3, 1) := by decide +kernel
theorem d_PB_discount_28 : decode b_PB_discount 28 = .ok (.ifCond .lt 9, 3) := by decide +kernel
theorem d_PB_discount_31 : decode b_PB_discount 31 = .ok (.iload_n 3, 1) := by decide +kernel
theorem d_PB_discount_32 : decode b_PB_discount 32 = .ok (.iload 4, 2) := by decide +kernel
theorem d_PB_discount_34 : decode b_PB_discount 34 = .ok (.if_icmp .le 5, 3) := by decide +kernel
theorem d_PB_discount_37 : decode b_PB_discount 37 = .ok (.iconst 0, 1) := by decide +kernel
theorem d_PB_discount_38 : decode b_PB_discount 38 = .ok (.ireturn, 1) := by decide +kernel
theorem d_PB_discount_39 : decode b_PB_discount 39 = .ok (.aload_n 0, 1) := by decide +kernel
theorem d_PB_discount_40 : decode b_PB_discount 40 = .ok (.getfield 28, 3) := by decide +kernel
theorem d_PB_discount_43 : decode b_PB_discount 43 = .ok (.iload_n 1, 1) := by decide +kernel
theorem d_PB_discount_44 : decode b_PB_discount 44 = .ok (.aaload, 1) := by decide +kernel
theorem d_PB_discount_45 : decode b_PB_discount 45 = .ok (.iload_n 2, 1) := by decide +kernel
theorem d_PB_discount_46 : decode b_PB_discount 46 = .ok (.iaload, 1) := by decide +kernel
theorem d_PB_discount_47 : decode b_PB_discount 47 = .ok (.iconst 3, 1) := by decide +kernel
theorem d_PB_discount_48 : decode b_PB_discount 48 = .ok (.if_icmp .lt 5, 3) := by decide +kernel
theorem d_PB_discount_51 : decode b_PB_discount 51 = .ok (.iconst 0, 1) := by decide +kernel
theorem d_PB_discount_52 : decode b_PB_discount 52 = .ok (.ireturn, 1) := by decide +kernel
theorem d_PB_discount_53 : decode b_PB_discount 53 = .ok (.aload_n 0, 1) := by decide +kernel
theorem d_PB_discount_54 : decode b_PB_discount 54 = .ok (.getfield 28, 3) := by decide +kernel
theorem d_PB_discount_57 : decode b_PB_discount 57 = .ok (.iload_n 1, 1) := by decide +kernel
theorem d_PB_discount_58 : decode b_PB_discount 58 = .ok (.aaload, 1) := by decide +kernel
theorem d_PB_discount_59 : decode b_PB_discount 59 = .ok (.iload_n 2, 1) := by decide +kernel
theorem d_PB_discount_60 : decode b_PB_discount 60 = .ok (.dup2, 1) := by decide +kernel
theorem d_PB_discount_61 : decode b_PB_discount 61 = .ok (.iaload, 1) := by decide +kernel
theorem d_PB_discount_62 : decode b_PB_discount 62 = .ok (.iconst 1, 1) := by decide +kernel
theorem d_PB_discount_63 : decode b_PB_discount 63 = .ok (.iadd, 1) := by decide +kernel
theorem d_PB_discount_64 : decode b_PB_discount 64 = .ok (.iastore, 1) := by decide +kernel
theorem d_PB_discount_65 : decode b_PB_discount 65 = .ok (.aload_n 0, 1) := by decide +kernel
theorem d_PB_discount_66 : decode b_PB_discount 66 = .ok (.getfield 31, 3) := by decide +kernel
theorem d_PB_discount_69 : decode b_PB_discount 69 = .ok (.iload_n 1, 1) := by decide +kernel
theorem d_PB_discount_70 : decode b_PB_discount 70 = .ok (.aaload, 1) := by decide +kernel
theorem d_PB_discount_71 : decode b_PB_discount 71 = .ok (.iload_n 2, 1) := by decide +kernel
theorem d_PB_discount_72 : decode b_PB_discount 72 = .ok (.dup2, 1) := by decide +kernel
theorem d_PB_discount_73 : decode b_PB_discount 73 = .ok (.iaload, 1) := by decide +kernel
theorem d_PB_discount_74 : decode b_PB_discount 74 = .ok (.iload 4, 2) := by decide +kernel
theorem d_PB_discount_76 : decode b_PB_discount 76 = .ok (.iload_n 3, 1) := by decide +kernel
theorem d_PB_discount_77 : decode b_PB_discount 77 = .ok (.isub, 1) := by decide +kernel
theorem d_PB_discount_78 : decode b_PB_discount 78 = .ok (.imul, 1) := by decide +kernel
theorem d_PB_discount_79 : decode b_PB_discount 79 = .ok (.iastore, 1) := by decide +kernel
theorem d_PB_discount_80 : decode b_PB_discount 80 = .ok (.aload_n 0, 1) := by decide +kernel
theorem d_PB_discount_81 : decode b_PB_discount 81 = .ok (.getfield 34, 3) := by decide +kernel
theorem d_PB_discount_84 : decode b_PB_discount 84 = .ok (.iload_n 1, 1) := by decide +kernel
theorem d_PB_discount_85 : decode b_PB_discount 85 = .ok (.aaload, 1) := by decide +kernel
theorem d_PB_discount_86 : decode b_PB_discount 86 = .ok (.iload_n 2, 1) := by decide +kernel
theorem d_PB_discount_87 : decode b_PB_discount 87 = .ok (.dup2, 1) := by decide +kernel
theorem d_PB_discount_88 : decode b_PB_discount 88 = .ok (.iaload, 1) := by decide +kernel
theorem d_PB_discount_89 : decode b_PB_discount 89 = .ok (.iload 4, 2) := by decide +kernel
theorem d_PB_discount_91 : decode b_PB_discount 91 = .ok (.imul, 1) := by decide +kernel
theorem d_PB_discount_92 : decode b_PB_discount 92 = .ok (.iastore, 1) := by decide +kernel
theorem d_PB_discount_93 : decode b_PB_discount 93 = .ok (.iconst 1, 1) := by decide +kernel
theorem d_PB_discount_94 : decode b_PB_discount 94 = .ok (.ireturn, 1) := by decide +kernel
theorem d_PB_bill_0 : decode b_PB_bill 0 = .ok (.iload_n 1, 1) := by decide +kernel
theorem d_PB_bill_1 : decode b_PB_bill 1 = .ok (.invokestatic 81, 3) := by decide +kernel
theorem d_PB_bill_4 : decode b_PB_bill 4 = .ok (.ifCond .ne 13, 3) := by decide +kernel
theorem d_PB_bill_7 : decode b_PB_bill 7 = .ok (.new 71, 3) := by decide +kernel
theorem d_PB_bill_10 : decode b_PB_bill 10 = .ok (.dup, 1) := by decide +kernel
theorem d_PB_bill_11 : decode b_PB_bill 11 = .ok (.ldc 103, 2) := by decide +kernel
theorem d_PB_bill_13 : decode b_PB_bill 13 = .ok (.invokespecial 75, 3) := by decide +kernel
theorem d_PB_bill_16 : decode b_PB_bill 16 = .ok (.athrow, 1) := by decide +kernel
theorem d_PB_bill_17 : decode b_PB_bill 17 = .ok (.aload_n 0, 1) := by decide +kernel
theorem d_PB_bill_18 : decode b_PB_bill 18 = .ok (.iload_n 1, 1) := by decide +kernel
theorem d_PB_bill_19 : decode b_PB_bill 19 = .ok (.invokevirtual 105, 3) := by decide +kernel
theorem d_PB_bill_22 : decode b_PB_bill 22 = .ok (.istore_n 2, 1) := by decide +kernel
theorem d_PB_bill_23 : decode b_PB_bill 23 = .ok (.aload_n 0, 1) := by decide +kernel
theorem d_PB_bill_24 : decode b_PB_bill 24 = .ok (.getfield 40, 3) := by decide +kernel
theorem d_PB_bill_27 : decode b_PB_bill 27 = .ok (.invokevirtual 109, 3) := by decide +kernel
theorem d_PB_bill_30 : decode b_PB_bill 30 = .ok (.iload_n 2, 1) := by decide +kernel
theorem d_PB_bill_31 : decode b_PB_bill 31 = .ok (.iadd, 1) := by decide +kernel
theorem d_PB_bill_32 : decode b_PB_bill 32 = .ok (.sipush 200, 3) := by decide +kernel
theorem d_PB_bill_35 : decode b_PB_bill 35 = .ok (.if_icmp .le 13, 3) := by decide +kernel
theorem d_PB_bill_38 : decode b_PB_bill 38 = .ok (.new 91, 3) := by decide +kernel
theorem d_PB_bill_41 : decode b_PB_bill 41 = .ok (.dup, 1) := by decide +kernel
theorem d_PB_bill_42 : decode b_PB_bill 42 = .ok (.ldc 112, 2) := by decide +kernel
theorem d_PB_bill_44 : decode b_PB_bill 44 = .ok (.invokespecial 95, 3) := by decide +kernel
theorem d_PB_bill_47 : decode b_PB_bill 47 = .ok (.athrow, 1) := by decide +kernel
theorem d_PB_bill_48 : decode b_PB_bill 48 = .ok (.iconst 0, 1) := by decide +kernel
theorem d_PB_bill_49 : decode b_PB_bill 49 = .ok (.istore_n 3, 1) := by decide +kernel
theorem d_PB_bill_50 : decode b_PB_bill 50 = .ok (.iload_n 3, 1) := by decide +kernel
theorem d_PB_bill_51 : decode b_PB_bill 51 = .ok (.bipush 6, 2) := by decide +kernel
theorem d_PB_bill_53 : decode b_PB_bill 53 = .ok (.if_icmp .ge 34, 3) := by decide +kernel
theorem d_PB_bill_56 : decode b_PB_bill 56 = .ok (.aload_n 0, 1) := by decide +kernel
theorem d_PB_bill_57 : decode b_PB_bill 57 = .ok (.getfield 21, 3) := by decide +kernel
theorem d_PB_bill_60 : decode b_PB_bill 60 = .ok (.iload_n 1, 1) := by decide +kernel
theorem d_PB_bill_61 : decode b_PB_bill 61 = .ok (.aaload, 1) := by decide +kernel
theorem d_PB_bill_62 : decode b_PB_bill 62 = .ok (.iload_n 3, 1) := by decide +kernel
theorem d_PB_bill_63 : decode b_PB_bill 63 = .ok (.iaload, 1) := by decide +kernel
theorem d_PB_bill_64 : decode b_PB_bill 64 = .ok (.ifCond .le 17, 3) := by decide +kernel
theorem d_PB_bill_67 : decode b_PB_bill 67 = .ok (.aload_n 0, 1) := by decide +kernel
theorem d_PB_bill_68 : decode b_PB_bill 68 = .ok (.getfield 40, 3) := by decide +kernel
theorem d_PB_bill_71 : decode b_PB_bill 71 = .ok (.aload_n 0, 1) := by decide +kernel
theorem d_PB_bill_72 : decode b_PB_bill 72 = .ok (.iload_n 1, 1) := by decide +kernel
theorem d_PB_bill_73 : decode b_PB_bill 73 = .ok (.iload_n 3, 1) := by decide +kernel
theorem d_PB_bill_74 : decode b_PB_bill 74 = .ok (.invokevirtual 114, 3) := by decide +kernel
theorem d_PB_bill_77 : decode b_PB_bill 77 = .ok (.invokevirtual 118, 3) := by decide +kernel
theorem d_PB_bill_80 : decode b_PB_bill 80 = .ok (.pop, 1) := by decide +kernel
theorem d_PB_bill_81 : decode b_PB_bill 81 = .ok (.iinc 3 1, 3) := by decide +kernel
theorem d_PB_bill_84 : decode b_PB_bill 84 = .ok (.goto (-34), 3) := by decide +kernel
theorem d_PB_bill_87 : decode b_PB_bill 87 = .ok (.aload_n 0, 1) := by decide +kernel
theorem d_PB_bill_88 : decode b_PB_bill 88 = .ok (.iload_n 1, 1) := by decide +kernel
theorem d_PB_bill_89 : decode b_PB_bill 89 = .ok (.invokevirtual 122, 3) := by decide +kernel
theorem d_PB_bill_92 : decode b_PB_bill 92 = .ok (.iload_n 2, 1) := by decide +kernel
theorem d_PB_bill_93 : decode b_PB_bill 93 = .ok (.ireturn, 1) := by decide +kernel
theorem d_PB_correct_0 : decode b_PB_correct 0 = .ok (.aload_n 0, 1) := by decide +kernel
theorem d_PB_correct_1 : decode b_PB_correct 1 = .ok (.iload_n 1, 1) := by decide +kernel
theorem d_PB_correct_2 : decode b_PB_correct 2 = .ok (.invokevirtual 126, 3) := by decide +kernel
theorem d_PB_correct_5 : decode b_PB_correct 5 = .ok (.ifCond .eq 17, 3) := by decide +kernel
theorem d_PB_correct_8 : decode b_PB_correct 8 = .ok (.lload_n 2, 1) := by decide +kernel
theorem d_PB_correct_9 : decode b_PB_correct 9 = .ok (.lconst 0, 1) := by decide +kernel
theorem d_PB_correct_10 : decode b_PB_correct 10 = .ok (.lcmp, 1) := by decide +kernel
theorem d_PB_correct_11 : decode b_PB_correct 11 = .ok (.ifCond .lt 11, 3) := by decide +kernel
theorem d_PB_correct_14 : decode b_PB_correct 14 = .ok (.lload_n 2, 1) := by decide +kernel
theorem d_PB_correct_15 : decode b_PB_correct 15 = .ok (.ldc2_w 129, 3) := by decide +kernel
theorem d_PB_correct_18 : decode b_PB_correct 18 = .ok (.lcmp, 1) := by decide +kernel
theorem d_PB_correct_19 : decode b_PB_correct 19 = .ok (.ifCond .le 13, 3) := by decide +kernel
theorem d_PB_correct_22 : decode b_PB_correct 22 = .ok (.new 71, 3) := by decide +kernel
theorem d_PB_correct_25 : decode b_PB_correct 25 = .ok (.dup, 1) := by decide +kernel
theorem d_PB_correct_26 : decode b_PB_correct 26 = .ok (.ldc 131, 2) := by decide +kernel
theorem d_PB_correct_28 : decode b_PB_correct 28 = .ok (.invokespecial 75, 3) := by decide +kernel
theorem d_PB_correct_31 : decode b_PB_correct 31 = .ok (.athrow, 1) := by decide +kernel
theorem d_PB_correct_32 : decode b_PB_correct 32 = .ok (.aload_n 0, 1) := by decide +kernel
theorem d_PB_correct_33 : decode b_PB_correct 33 = .ok (.getfield 40, 3) := by decide +kernel
theorem d_PB_correct_36 : decode b_PB_correct 36 = .ok (.invokevirtual 109, 3) := by decide +kernel
theorem d_PB_correct_39 : decode b_PB_correct 39 = .ok (.sipush 200, 3) := by decide +kernel
theorem d_PB_correct_42 : decode b_PB_correct 42 = .ok (.if_icmp .lt 13, 3) := by decide +kernel
theorem d_PB_correct_45 : decode b_PB_correct 45 = .ok (.new 91, 3) := by decide +kernel
theorem d_PB_correct_48 : decode b_PB_correct 48 = .ok (.dup, 1) := by decide +kernel
theorem d_PB_correct_49 : decode b_PB_correct 49 = .ok (.ldc 133, 2) := by decide +kernel
theorem d_PB_correct_51 : decode b_PB_correct 51 = .ok (.invokespecial 95, 3) := by decide +kernel
theorem d_PB_correct_54 : decode b_PB_correct 54 = .ok (.athrow, 1) := by decide +kernel
theorem d_PB_correct_55 : decode b_PB_correct 55 = .ok (.aload_n 0, 1) := by decide +kernel
theorem d_PB_correct_56 : decode b_PB_correct 56 = .ok (.getfield 40, 3) := by decide +kernel
theorem d_PB_correct_59 : decode b_PB_correct 59 = .ok (.iload_n 1, 1) := by decide +kernel
theorem d_PB_correct_60 : decode b_PB_correct 60 = .ok (.invokevirtual 135, 3) := by decide +kernel
theorem d_PB_correct_63 : decode b_PB_correct 63 = .ok (.checkcast 139, 3) := by decide +kernel
theorem d_PB_correct_66 : decode b_PB_correct 66 = .ok (.astore 4, 2) := by decide +kernel
theorem d_PB_correct_68 : decode b_PB_correct 68 = .ok (.aload 4, 2) := by decide +kernel
theorem d_PB_correct_70 : decode b_PB_correct 70 = .ok (.invokevirtual 141, 3) := by decide +kernel
theorem d_PB_correct_73 : decode b_PB_correct 73 = .ok (.ifCond .ne 13, 3) := by decide +kernel
theorem d_PB_correct_76 : decode b_PB_correct 76 = .ok (.aload 4, 2) := by decide +kernel
theorem d_PB_correct_78 : decode b_PB_correct 78 = .ok (.getfield 145, 3) := by decide +kernel
theorem d_PB_correct_81 : decode b_PB_correct 81 = .ok (.lload_n 2, 1) := by decide +kernel
theorem d_PB_correct_82 : decode b_PB_correct 82 = .ok (.lcmp, 1) := by decide +kernel
theorem d_PB_correct_83 : decode b_PB_correct 83 = .ok (.ifCond .ne 5, 3) := by decide +kernel
theorem d_PB_correct_86 : decode b_PB_correct 86 = .ok (.iconst (-1), 1) := by decide +kernel
theorem d_PB_correct_87 : decode b_PB_correct 87 = .ok (.ireturn, 1) := by decide +kernel
theorem d_PB_correct_88 : decode b_PB_correct 88 = .ok (.new 139, 3) := by decide +kernel
theorem d_PB_correct_91 : decode b_PB_correct 91 = .ok (.dup, 1) := by decide +kernel
theorem d_PB_correct_92 : decode b_PB_correct 92 = .ok (.aload 4, 2) := by decide +kernel
theorem d_PB_correct_94 : decode b_PB_correct 94 = .ok (.getfield 149, 3) := by decide +kernel
theorem d_PB_correct_97 : decode b_PB_correct 97 = .ok (.aload 4, 2) := by decide +kernel
theorem d_PB_correct_99 : decode b_PB_correct 99 = .ok (.getfield 152, 3) := by decide +kernel
theorem d_PB_correct_102 : decode b_PB_correct 102 = .ok (.iconst 0, 1) := by decide +kernel
theorem d_PB_correct_103 : decode b_PB_correct 103 = .ok (.iconst 0, 1) := by decide +kernel
theorem d_PB_correct_104 : decode b_PB_correct 104 = .ok (.lload_n 2, 1) := by decide +kernel
theorem d_PB_correct_105 : decode b_PB_correct 105 = .ok (.aload 4, 2) := by decide +kernel
theorem d_PB_correct_107 : decode b_PB_correct 107 = .ok (.getfield 145, 3) := by decide +kernel
theorem d_PB_correct_110 : decode b_PB_correct 110 = .ok (.lsub, 1) := by decide +kernel
theorem d_PB_correct_111 : decode b_PB_correct 111 = .ok (.iload_n 1, 1) := by decide +kernel
theorem d_PB_correct_112 : decode b_PB_correct 112 = .ok (.iconst 0, 1) := by decide +kernel
theorem d_PB_correct_113 : decode b_PB_correct 113 = .ok (.invokespecial 155, 3) := by decide +kernel
theorem d_PB_correct_116 : decode b_PB_correct 116 = .ok (.astore 5, 2) := by decide +kernel
theorem d_PB_correct_118 : decode b_PB_correct 118 = .ok (.aload 5, 2) := by decide +kernel
theorem d_PB_correct_120 : decode b_PB_correct 120 = .ok (.aload 4, 2) := by decide +kernel
theorem d_PB_correct_122 : decode b_PB_correct 122 = .ok (.getfield 158, 3) := by decide +kernel
theorem d_PB_correct_125 : decode b_PB_correct 125 = .ok (.putfield 158, 3) := by decide +kernel
theorem d_PB_correct_128 : decode b_PB_correct 128 = .ok (.aload 4, 2) := by decide +kernel
theorem d_PB_correct_130 : decode b_PB_correct 130 = .ok (.lload_n 2, 1) := by decide +kernel
theorem d_PB_correct_131 : decode b_PB_correct 131 = .ok (.putfield 145, 3) := by decide +kernel
theorem d_PB_correct_134 : decode b_PB_correct 134 = .ok (.aload_n 0, 1) := by decide +kernel
theorem d_PB_correct_135 : decode b_PB_correct 135 = .ok (.getfield 40, 3) := by decide +kernel
theorem d_PB_correct_138 : decode b_PB_correct 138 = .ok (.aload 5, 2) := by decide +kernel
theorem d_PB_correct_140 : decode b_PB_correct 140 = .ok (.invokevirtual 118, 3) := by decide +kernel
theorem d_PB_correct_143 : decode b_PB_correct 143 = .ok (.pop, 1) := by decide +kernel
theorem d_PB_correct_144 : decode b_PB_correct 144 = .ok (.aload_n 0, 1) := by decide +kernel
theorem d_PB_correct_145 : decode b_PB_correct 145 = .ok (.getfield 40, 3) := by decide +kernel
theorem d_PB_correct_148 : decode b_PB_correct 148 = .ok (.invokevirtual 109, 3) := by decide +kernel
theorem d_PB_correct_151 : decode b_PB_correct 151 = .ok (.iconst 1, 1) := by decide +kernel
theorem d_PB_correct_152 : decode b_PB_correct 152 = .ok (.isub, 1) := by decide +kernel
theorem d_PB_correct_153 : decode b_PB_correct 153 = .ok (.ireturn, 1) := by decide +kernel
theorem d_PB_dispute_0 : decode b_PB_dispute 0 = .ok (.aload_n 0, 1) := by decide +kernel
theorem d_PB_dispute_1 : decode b_PB_dispute 1 = .ok (.iload_n 1, 1) := by decide +kernel
theorem d_PB_dispute_2 : decode b_PB_dispute 2 = .ok (.invokevirtual 126, 3) := by decide +kernel
theorem d_PB_dispute_5 : decode b_PB_dispute 5 = .ok (.ifCond .ne 13, 3) := by decide +kernel
theorem d_PB_dispute_8 : decode b_PB_dispute 8 = .ok (.new 71, 3) := by decide +kernel
theorem d_PB_dispute_11 : decode b_PB_dispute 11 = .ok (.dup, 1) := by decide +kernel
theorem d_PB_dispute_12 : decode b_PB_dispute 12 = .ok (.ldc 162, 2) := by decide +kernel
theorem d_PB_dispute_14 : decode b_PB_dispute 14 = .ok (.invokespecial 75, 3) := by decide +kernel
theorem d_PB_dispute_17 : decode b_PB_dispute 17 = .ok (.athrow, 1) := by decide +kernel
theorem d_PB_dispute_18 : decode b_PB_dispute 18 = .ok (.aload_n 0, 1) := by decide +kernel
theorem d_PB_dispute_19 : decode b_PB_dispute 19 = .ok (.getfield 40, 3) := by decide +kernel
theorem d_PB_dispute_22 : decode b_PB_dispute 22 = .ok (.iload_n 1, 1) := by decide +kernel
theorem d_PB_dispute_23 : decode b_PB_dispute 23 = .ok (.invokevirtual 135, 3) := by decide +kernel
theorem d_PB_dispute_26 : decode b_PB_dispute 26 = .ok (.checkcast 139, 3) := by decide +kernel
theorem d_PB_dispute_29 : decode b_PB_dispute 29 = .ok (.astore_n 3, 1) := by decide +kernel
theorem d_PB_dispute_30 : decode b_PB_dispute 30 = .ok (.aload_n 3, 1) := by decide +kernel
theorem d_PB_dispute_31 : decode b_PB_dispute 31 = .ok (.invokevirtual 141, 3) := by decide +kernel
theorem d_PB_dispute_34 : decode b_PB_dispute 34 = .ok (.ifCond .ne 11, 3) := by decide +kernel
theorem d_PB_dispute_37 : decode b_PB_dispute 37 = .ok (.aload_n 3, 1) := by decide +kernel
theorem d_PB_dispute_38 : decode b_PB_dispute 38 = .ok (.getfield 158, 3) := by decide +kernel
theorem d_PB_dispute_41 : decode b_PB_dispute 41 = .ok (.iload_n 2, 1) := by decide +kernel
theorem d_PB_dispute_42 : decode b_PB_dispute 42 = .ok (.if_icmp .ne 5, 3) := by decide +kernel
theorem d_PB_dispute_45 : decode b_PB_dispute 45 = .ok (.iconst 0, 1) := by decide +kernel
theorem d_PB_dispute_46 : decode b_PB_dispute 46 = .ok (.ireturn, 1) := by decide +kernel
theorem d_PB_dispute_47 : decode b_PB_dispute 47 = .ok (.aload_n 3, 1) := by decide +kernel
theorem d_PB_dispute_48 : decode b_PB_dispute 48 = .ok (.iload_n 2, 1) := by decide +kernel
theorem d_PB_dispute_49 : decode b_PB_dispute 49 = .ok (.putfield 158, 3) := by decide +kernel
theorem d_PB_dispute_52 : decode b_PB_dispute 52 = .ok (.iconst 0, 1) := by decide +kernel
theorem d_PB_dispute_53 : decode b_PB_dispute 53 = .ok (.istore 4, 2) := by decide +kernel
theorem d_PB_dispute_55 : decode b_PB_dispute 55 = .ok (.iload 4, 2) := by decide +kernel
theorem d_PB_dispute_57 : decode b_PB_dispute 57 = .ok (.aload_n 0, 1) := by decide +kernel
theorem d_PB_dispute_58 : decode b_PB_dispute 58 = .ok (.getfield 40, 3) := by decide +kernel
theorem d_PB_dispute_61 : decode b_PB_dispute 61 = .ok (.invokevirtual 109, 3) := by decide +kernel
theorem d_PB_dispute_64 : decode b_PB_dispute 64 = .ok (.if_icmp .ge 38, 3) := by decide +kernel
theorem d_PB_dispute_67 : decode b_PB_dispute 67 = .ok (.aload_n 0, 1) := by decide +kernel
theorem d_PB_dispute_68 : decode b_PB_dispute 68 = .ok (.getfield 40, 3) := by decide +kernel
theorem d_PB_dispute_71 : decode b_PB_dispute 71 = .ok (.iload 4, 2) := by decide +kernel
theorem d_PB_dispute_73 : decode b_PB_dispute 73 = .ok (.invokevirtual 135, 3) := by decide +kernel
theorem d_PB_dispute_76 : decode b_PB_dispute 76 = .ok (.checkcast 139, 3) := by decide +kernel
theorem d_PB_dispute_79 : decode b_PB_dispute 79 = .ok (.astore 5, 2) := by decide +kernel
theorem d_PB_dispute_81 : decode b_PB_dispute 81 = .ok (.aload 5, 2) := by decide +kernel
theorem d_PB_dispute_83 : decode b_PB_dispute 83 = .ok (.getfield 164, 3) := by decide +kernel
theorem d_PB_dispute_86 : decode b_PB_dispute 86 = .ok (.iload_n 1, 1) := by decide +kernel
theorem d_PB_dispute_87 : decode b_PB_dispute 87 = .ok (.if_icmp .ne 9, 3) := by decide +kernel
theorem d_PB_dispute_90 : decode b_PB_dispute 90 = .ok (.aload 5, 2) := by decide +kernel
theorem d_PB_dispute_92 : decode b_PB_dispute 92 = .ok (.iload_n 2, 1) := by decide +kernel
theorem d_PB_dispute_93 : decode b_PB_dispute 93 = .ok (.putfield 158, 3) := by decide +kernel
theorem d_PB_dispute_96 : decode b_PB_dispute 96 = .ok (.iinc 4 1, 3) := by decide +kernel
theorem d_PB_dispute_99 : decode b_PB_dispute 99 = .ok (.goto (-44), 3) := by decide +kernel
theorem d_PB_dispute_102 : decode b_PB_dispute 102 = .ok (.iconst 1, 1) := by decide +kernel
theorem d_PB_dispute_103 : decode b_PB_dispute 103 = .ok (.ireturn, 1) := by decide +kernel
theorem d_PB_pay_0 : decode b_PB_pay 0 = .ok (.iload_n 1, 1) := by decide +kernel
theorem d_PB_pay_1 : decode b_PB_pay 1 = .ok (.invokestatic 81, 3) := by decide +kernel
theorem d_PB_pay_4 : decode b_PB_pay 4 = .ok (.ifCond .eq 17, 3) := by decide +kernel
theorem d_PB_pay_7 : decode b_PB_pay 7 = .ok (.lload_n 2, 1) := by decide +kernel
theorem d_PB_pay_8 : decode b_PB_pay 8 = .ok (.lconst 1, 1) := by decide +kernel
theorem d_PB_pay_9 : decode b_PB_pay 9 = .ok (.lcmp, 1) := by decide +kernel
theorem d_PB_pay_10 : decode b_PB_pay 10 = .ok (.ifCond .lt 11, 3) := by decide +kernel
theorem d_PB_pay_13 : decode b_PB_pay 13 = .ok (.lload_n 2, 1) := by decide +kernel
theorem d_PB_pay_14 : decode b_PB_pay 14 = .ok (.ldc2_w 129, 3) := by decide +kernel
theorem d_PB_pay_17 : decode b_PB_pay 17 = .ok (.lcmp, 1) := by decide +kernel
theorem d_PB_pay_18 : decode b_PB_pay 18 = .ok (.ifCond .le 13, 3) := by decide +kernel
theorem d_PB_pay_21 : decode b_PB_pay 21 = .ok (.new 71, 3) := by decide +kernel
theorem d_PB_pay_24 : decode b_PB_pay 24 = .ok (.dup, 1) := by decide +kernel
theorem d_PB_pay_25 : decode b_PB_pay 25 = .ok (.ldc 167, 2) := by decide +kernel
theorem d_PB_pay_27 : decode b_PB_pay 27 = .ok (.invokespecial 75, 3) := by decide +kernel
theorem d_PB_pay_30 : decode b_PB_pay 30 = .ok (.athrow, 1) := by decide +kernel
theorem d_PB_pay_31 : decode b_PB_pay 31 = .ok (.aload_n 0, 1) := by decide +kernel
theorem d_PB_pay_32 : decode b_PB_pay 32 = .ok (.getfield 44, 3) := by decide +kernel
theorem d_PB_pay_35 : decode b_PB_pay 35 = .ok (.iload_n 1, 1) := by decide +kernel
theorem d_PB_pay_36 : decode b_PB_pay 36 = .ok (.dup2, 1) := by decide +kernel
theorem d_PB_pay_37 : decode b_PB_pay 37 = .ok (.laload, 1) := by decide +kernel
theorem d_PB_pay_38 : decode b_PB_pay 38 = .ok (.lload_n 2, 1) := by decide +kernel
theorem d_PB_pay_39 : decode b_PB_pay 39 = .ok (.ladd, 1) := by decide +kernel
theorem d_PB_pay_40 : decode b_PB_pay 40 = .ok (.lastore, 1) := by decide +kernel
theorem d_PB_pay_41 : decode b_PB_pay 41 = .ok (.aload_n 0, 1) := by decide +kernel
theorem d_PB_pay_42 : decode b_PB_pay 42 = .ok (.iload_n 1, 1) := by decide +kernel
theorem d_PB_pay_43 : decode b_PB_pay 43 = .ok (.invokevirtual 169, 3) := by decide +kernel
theorem d_PB_pay_46 : decode b_PB_pay 46 = .ok (.lreturn, 1) := by decide +kernel
theorem d_PB_unpaid_0 : decode b_PB_unpaid 0 = .ok (.iload_n 1, 1) := by decide +kernel
theorem d_PB_unpaid_1 : decode b_PB_unpaid 1 = .ok (.invokestatic 81, 3) := by decide +kernel
theorem d_PB_unpaid_4 : decode b_PB_unpaid 4 = .ok (.ifCond .ne 13, 3) := by decide +kernel
theorem d_PB_unpaid_7 : decode b_PB_unpaid 7 = .ok (.new 71, 3) := by decide +kernel
theorem d_PB_unpaid_10 : decode b_PB_unpaid 10 = .ok (.dup, 1) := by decide +kernel
theorem d_PB_unpaid_11 : decode b_PB_unpaid 11 = .ok (.ldc 103, 2) := by decide +kernel
theorem d_PB_unpaid_13 : decode b_PB_unpaid 13 = .ok (.invokespecial 75, 3) := by decide +kernel
theorem d_PB_unpaid_16 : decode b_PB_unpaid 16 = .ok (.athrow, 1) := by decide +kernel
theorem d_PB_unpaid_17 : decode b_PB_unpaid 17 = .ok (.aload_n 0, 1) := by decide +kernel
theorem d_PB_unpaid_18 : decode b_PB_unpaid 18 = .ok (.iload_n 1, 1) := by decide +kernel
theorem d_PB_unpaid_19 : decode b_PB_unpaid 19 = .ok (.invokevirtual 169, 3) := by decide +kernel
theorem d_PB_unpaid_22 : decode b_PB_unpaid 22 = .ok (.lreturn, 1) := by decide +kernel
theorem d_PB_share_0 : decode b_PB_share 0 = .ok (.lload_n 1, 1) := by decide +kernel
theorem d_PB_share_1 : decode b_PB_share 1 = .ok (.lconst 0, 1) := by decide +kernel
theorem d_PB_share_2 : decode b_PB_share 2 = .ok (.lcmp, 1) := by decide +kernel
theorem d_PB_share_3 : decode b_PB_share 3 = .ok (.ifCond .lt 26, 3) := by decide +kernel
theorem d_PB_share_6 : decode b_PB_share 6 = .ok (.lload_n 1, 1) := by decide +kernel
theorem d_PB_share_7 : decode b_PB_share 7 = .ok (.ldc2_w 129, 3) := by decide +kernel
theorem d_PB_share_10 : decode b_PB_share 10 = .ok (.lcmp, 1) := by decide +kernel
theorem d_PB_share_11 : decode b_PB_share 11 = .ok (.ifCond .gt 18, 3) := by decide +kernel
theorem d_PB_share_14 : decode b_PB_share 14 = .ok (.iload_n 3, 1) := by decide +kernel
theorem d_PB_share_15 : decode b_PB_share 15 = .ok (.invokestatic 173, 3) := by decide +kernel
theorem d_PB_share_18 : decode b_PB_share 18 = .ok (.ifCond .eq 11, 3) := by decide +kernel
theorem d_PB_share_21 : decode b_PB_share 21 = .ok (.iload 4, 2) := by decide +kernel
theorem d_PB_share_23 : decode b_PB_share 23 = .ok (.invokestatic 173, 3) := by decide +kernel
theorem d_PB_share_26 : decode b_PB_share 26 = .ok (.ifCond .ne 13, 3) := by decide +kernel
theorem d_PB_share_29 : decode b_PB_share 29 = .ok (.new 71, 3) := by decide +kernel
theorem d_PB_share_32 : decode b_PB_share 32 = .ok (.dup, 1) := by decide +kernel
theorem d_PB_share_33 : decode b_PB_share 33 = .ok (.ldc 176, 2) := by decide +kernel
theorem d_PB_share_35 : decode b_PB_share 35 = .ok (.invokespecial 75, 3) := by decide +kernel
theorem d_PB_share_38 : decode b_PB_share 38 = .ok (.athrow, 1) := by decide +kernel
theorem d_PB_share_39 : decode b_PB_share 39 = .ok (.iload 4, 2) := by decide +kernel
theorem d_PB_share_41 : decode b_PB_share 41 = .ok (.ifCond .ne 13, 3) := by decide +kernel
theorem d_PB_share_44 : decode b_PB_share 44 = .ok (.new 178, 3) := by decide +kernel
theorem d_PB_share_47 : decode b_PB_share 47 = .ok (.dup, 1) := by decide +kernel
theorem d_PB_share_48 : decode b_PB_share 48 = .ok (.ldc 180, 2) := by decide +kernel
theorem d_PB_share_50 : decode b_PB_share 50 = .ok (.invokespecial 182, 3) := by decide +kernel
theorem d_PB_share_53 : decode b_PB_share 53 = .ok (.athrow, 1) := by decide +kernel
theorem d_PB_share_54 : decode b_PB_share 54 = .ok (.lload_n 1, 1) := by decide +kernel
theorem d_PB_share_55 : decode b_PB_share 55 = .ok (.iload_n 3, 1) := by decide +kernel
theorem d_PB_share_56 : decode b_PB_share 56 = .ok (.i2l, 1) := by decide +kernel
theorem d_PB_share_57 : decode b_PB_share 57 = .ok (.lmul, 1) := by decide +kernel
theorem d_PB_share_58 : decode b_PB_share 58 = .ok (.iload 4, 2) := by decide +kernel
theorem d_PB_share_60 : decode b_PB_share 60 = .ok (.i2l, 1) := by decide +kernel
theorem d_PB_share_61 : decode b_PB_share 61 = .ok (.invokestatic 183, 3) := by decide +kernel
theorem d_PB_share_64 : decode b_PB_share 64 = .ok (.lreturn, 1) := by decide +kernel
theorem d_PB_line_0 : decode b_PB_line 0 = .ok (.aload_n 0, 1) := by decide +kernel
theorem d_PB_line_1 : decode b_PB_line 1 = .ok (.iload_n 1, 1) := by decide +kernel
theorem d_PB_line_2 : decode b_PB_line 2 = .ok (.invokevirtual 126, 3) := by decide +kernel
theorem d_PB_line_5 : decode b_PB_line 5 = .ok (.ifCond .eq 13, 3) := by decide +kernel
theorem d_PB_line_8 : decode b_PB_line 8 = .ok (.iload_n 2, 1) := by decide +kernel
theorem d_PB_line_9 : decode b_PB_line 9 = .ok (.ifCond .lt 9, 3) := by decide +kernel
theorem d_PB_line_12 : decode b_PB_line 12 = .ok (.iload_n 2, 1) := by decide +kernel
theorem d_PB_line_13 : decode b_PB_line 13 = .ok (.bipush 9, 2) := by decide +kernel
theorem d_PB_line_15 : decode b_PB_line 15 = .ok (.if_icmp .lt 13, 3) := by decide +kernel
theorem d_PB_line_18 : decode b_PB_line 18 = .ok (.new 187, 3) := by decide +kernel
theorem d_PB_line_21 : decode b_PB_line 21 = .ok (.dup, 1) := by decide +kernel
theorem d_PB_line_22 : decode b_PB_line 22 = .ok (.ldc 189, 2) := by decide +kernel
theorem d_PB_line_24 : decode b_PB_line 24 = .ok (.invokespecial 191, 3) := by decide +kernel
theorem d_PB_line_27 : decode b_PB_line 27 = .ok (.athrow, 1) := by decide +kernel
theorem d_PB_line_28 : decode b_PB_line 28 = .ok (.aload_n 0, 1) := by decide +kernel
theorem d_PB_line_29 : decode b_PB_line 29 = .ok (.getfield 40, 3) := by decide +kernel
theorem d_PB_line_32 : decode b_PB_line 32 = .ok (.iload_n 1, 1) := by decide +kernel
theorem d_PB_line_33 : decode b_PB_line 33 = .ok (.invokevirtual 135, 3) := by decide +kernel
theorem d_PB_line_36 : decode b_PB_line 36 = .ok (.checkcast 139, 3) := by decide +kernel
theorem d_PB_line_39 : decode b_PB_line 39 = .ok (.iload_n 2, 1) := by decide +kernel
theorem d_PB_line_40 : decode b_PB_line 40 = .ok (.invokevirtual 192, 3) := by decide +kernel
theorem d_PB_line_43 : decode b_PB_line 43 = .ok (.lreturn, 1) := by decide +kernel
theorem d_PB_count_0 : decode b_PB_count 0 = .ok (.iload_n 1, 1) := by decide +kernel
theorem d_PB_count_1 : decode b_PB_count 1 = .ok (.bipush 10, 2) := by decide +kernel
theorem d_PB_count_3 : decode b_PB_count 3 = .ok (.isub, 1) := by decide +kernel
theorem d_PB_count_4 : decode b_PB_count 4 = .ok (.invokestatic 81, 3) := by decide +kernel
theorem d_PB_count_7 : decode b_PB_count 7 = .ok (.ifCond .eq 12, 3) := by decide +kernel
theorem d_PB_count_10 : decode b_PB_count 10 = .ok (.aload_n 0, 1) := by decide +kernel
theorem d_PB_count_11 : decode b_PB_count 11 = .ok (.iload_n 1, 1) := by decide +kernel
theorem d_PB_count_12 : decode b_PB_count 12 = .ok (.bipush 10, 2) := by decide +kernel
theorem d_PB_count_14 : decode b_PB_count 14 = .ok (.isub, 1) := by decide +kernel
theorem d_PB_count_15 : decode b_PB_count 15 = .ok (.invokevirtual 195, 3) := by decide +kernel
theorem d_PB_count_18 : decode b_PB_count 18 = .ok (.ireturn, 1) := by decide +kernel
theorem d_PB_count_19 : decode b_PB_count 19 = .ok (.iload_n 1, 1) := by decide +kernel
theorem d_PB_count_20 : decode b_PB_count 20 = .ok (.bipush 20, 2) := by decide +kernel
theorem d_PB_count_22 : decode b_PB_count 22 = .ok (.isub, 1) := by decide +kernel
theorem d_PB_count_23 : decode b_PB_count 23 = .ok (.invokestatic 81, 3) := by decide +kernel
theorem d_PB_count_26 : decode b_PB_count 26 = .ok (.ifCond .eq 13, 3) := by decide +kernel
theorem d_PB_count_29 : decode b_PB_count 29 = .ok (.aload_n 0, 1) := by decide +kernel
theorem d_PB_count_30 : decode b_PB_count 30 = .ok (.getfield 24, 3) := by decide +kernel
theorem d_PB_count_33 : decode b_PB_count 33 = .ok (.iload_n 1, 1) := by decide +kernel
theorem d_PB_count_34 : decode b_PB_count 34 = .ok (.bipush 20, 2) := by decide +kernel
theorem d_PB_count_36 : decode b_PB_count 36 = .ok (.isub, 1) := by decide +kernel
theorem d_PB_count_37 : decode b_PB_count 37 = .ok (.iaload, 1) := by decide +kernel
theorem d_PB_count_38 : decode b_PB_count 38 = .ok (.ireturn, 1) := by decide +kernel
theorem d_PB_count_39 : decode b_PB_count 39 = .ok (.iload_n 1, 1) := by decide +kernel
theorem d_PB_count_40 : decode b_PB_count 40 = .ok (.tableswitch 58 0 3 #[32, 40, 45, 53], 32) := by decide +kernel
theorem d_PB_count_72 : decode b_PB_count 72 = .ok (.aload_n 0, 1) := by decide +kernel
theorem d_PB_count_73 : decode b_PB_count 73 = .ok (.getfield 10, 3) := by decide +kernel
theorem d_PB_count_76 : decode b_PB_count 76 = .ok (.getfield 198, 3) := by decide +kernel
theorem d_PB_count_79 : decode b_PB_count 79 = .ok (.ireturn, 1) := by decide +kernel
theorem d_PB_count_80 : decode b_PB_count 80 = .ok (.aload_n 0, 1) := by decide +kernel
theorem d_PB_count_81 : decode b_PB_count 81 = .ok (.getfield 87, 3) := by decide +kernel
theorem d_PB_count_84 : decode b_PB_count 84 = .ok (.ireturn, 1) := by decide +kernel
theorem d_PB_count_85 : decode b_PB_count 85 = .ok (.aload_n 0, 1) := by decide +kernel
theorem d_PB_count_86 : decode b_PB_count 86 = .ok (.getfield 40, 3) := by decide +kernel
theorem d_PB_count_89 : decode b_PB_count 89 = .ok (.invokevirtual 109, 3) := by decide +kernel
theorem d_PB_count_92 : decode b_PB_count 92 = .ok (.ireturn, 1) := by decide +kernel
theorem d_PB_count_93 : decode b_PB_count 93 = .ok (.aload_n 0, 1) := by decide +kernel
theorem d_PB_count_94 : decode b_PB_count 94 = .ok (.getfield 201, 3) := by decide +kernel
theorem d_PB_count_97 : decode b_PB_count 97 = .ok (.ireturn, 1) := by decide +kernel
theorem d_PB_count_98 : decode b_PB_count 98 = .ok (.iconst (-1), 1) := by decide +kernel
theorem d_PB_count_99 : decode b_PB_count 99 = .ok (.ireturn, 1) := by decide +kernel
theorem d_PB_isCall_0 : decode b_PB_isCall 0 = .ok (.iload_n 0, 1) := by decide +kernel
theorem d_PB_isCall_1 : decode b_PB_isCall 1 = .ok (.ifCond .lt 13, 3) := by decide +kernel
theorem d_PB_isCall_4 : decode b_PB_isCall 4 = .ok (.iload_n 0, 1) := by decide +kernel
theorem d_PB_isCall_5 : decode b_PB_isCall 5 = .ok (.bipush 10, 2) := by decide +kernel
theorem d_PB_isCall_7 : decode b_PB_isCall 7 = .ok (.if_icmp .ge 7, 3) := by decide +kernel
theorem d_PB_isCall_10 : decode b_PB_isCall 10 = .ok (.iconst 1, 1) := by decide +kernel
theorem d_PB_isCall_11 : decode b_PB_isCall 11 = .ok (.goto 4, 3) := by decide +kernel
theorem d_PB_isCall_14 : decode b_PB_isCall 14 = .ok (.iconst 0, 1) := by decide +kernel
theorem d_PB_isCall_15 : decode b_PB_isCall 15 = .ok (.ireturn, 1) := by decide +kernel
theorem d_PB_isKind_0 : decode b_PB_isKind 0 = .ok (.iload_n 0, 1) := by decide +kernel
theorem d_PB_isKind_1 : decode b_PB_isKind 1 = .ok (.ifCond .lt 13, 3) := by decide +kernel
theorem d_PB_isKind_4 : decode b_PB_isKind 4 = .ok (.iload_n 0, 1) := by decide +kernel
theorem d_PB_isKind_5 : decode b_PB_isKind 5 = .ok (.bipush 6, 2) := by decide +kernel
theorem d_PB_isKind_7 : decode b_PB_isKind 7 = .ok (.if_icmp .ge 7, 3) := by decide +kernel
theorem d_PB_isKind_10 : decode b_PB_isKind 10 = .ok (.iconst 1, 1) := by decide +kernel
theorem d_PB_isKind_11 : decode b_PB_isKind 11 = .ok (.goto 4, 3) := by decide +kernel
theorem d_PB_isKind_14 : decode b_PB_isKind 14 = .ok (.iconst 0, 1) := by decide +kernel
theorem d_PB_isKind_15 : decode b_PB_isKind 15 = .ok (.ireturn, 1) := by decide +kernel
theorem d_PB_isKey_0 : decode b_PB_isKey 0 = .ok (.iload_n 0, 1) := by decide +kernel
theorem d_PB_isKey_1 : decode b_PB_isKey 1 = .ok (.ifCond .lt 13, 3) := by decide +kernel
theorem d_PB_isKey_4 : decode b_PB_isKey 4 = .ok (.iload_n 0, 1) := by decide +kernel
theorem d_PB_isKey_5 : decode b_PB_isKey 5 = .ok (.ldc 204, 2) := by decide +kernel
theorem d_PB_isKey_7 : decode b_PB_isKey 7 = .ok (.if_icmp .gt 7, 3) := by decide +kernel
theorem d_PB_isKey_10 : decode b_PB_isKey 10 = .ok (.iconst 1, 1) := by decide +kernel
theorem d_PB_isKey_11 : decode b_PB_isKey 11 = .ok (.goto 4, 3) := by decide +kernel
theorem d_PB_isKey_14 : decode b_PB_isKey 14 = .ok (.iconst 0, 1) := by decide +kernel
theorem d_PB_isKey_15 : decode b_PB_isKey 15 = .ok (.ireturn, 1) := by decide +kernel
theorem d_PB_isLine_0 : decode b_PB_isLine 0 = .ok (.iload_n 1, 1) := by decide +kernel
theorem d_PB_isLine_1 : decode b_PB_isLine 1 = .ok (.ifCond .lt 18, 3) := by decide +kernel
theorem d_PB_isLine_4 : decode b_PB_isLine 4 = .ok (.iload_n 1, 1) := by decide +kernel
theorem d_PB_isLine_5 : decode b_PB_isLine 5 = .ok (.aload_n 0, 1) := by decide +kernel
theorem d_PB_isLine_6 : decode b_PB_isLine 6 = .ok (.getfield 40, 3) := by decide +kernel
theorem d_PB_isLine_9 : decode b_PB_isLine 9 = .ok (.invokevirtual 109, 3) := by decide +kernel
theorem d_PB_isLine_12 : decode b_PB_isLine 12 = .ok (.if_icmp .ge 7, 3) := by decide +kernel
theorem d_PB_isLine_15 : decode b_PB_isLine 15 = .ok (.iconst 1, 1) := by decide +kernel
theorem d_PB_isLine_16 : decode b_PB_isLine 16 = .ok (.goto 4, 3) := by decide +kernel
theorem d_PB_isLine_19 : decode b_PB_isLine 19 = .ok (.iconst 0, 1) := by decide +kernel
theorem d_PB_isLine_20 : decode b_PB_isLine 20 = .ok (.ireturn, 1) := by decide +kernel
theorem d_PB_hasTariff_0 : decode b_PB_hasTariff 0 = .ok (.aload_n 0, 1) := by decide +kernel
theorem d_PB_hasTariff_1 : decode b_PB_hasTariff 1 = .ok (.getfield 201, 3) := by decide +kernel
theorem d_PB_hasTariff_4 : decode b_PB_hasTariff 4 = .ok (.iload_n 1, 1) := by decide +kernel
theorem d_PB_hasTariff_5 : decode b_PB_hasTariff 5 = .ok (.ishr, 1) := by decide +kernel
theorem d_PB_hasTariff_6 : decode b_PB_hasTariff 6 = .ok (.iconst 1, 1) := by decide +kernel
theorem d_PB_hasTariff_7 : decode b_PB_hasTariff 7 = .ok (.iand, 1) := by decide +kernel
theorem d_PB_hasTariff_8 : decode b_PB_hasTariff 8 = .ok (.iconst 1, 1) := by decide +kernel
theorem d_PB_hasTariff_9 : decode b_PB_hasTariff 9 = .ok (.if_icmp .ne 7, 3) := by decide +kernel
theorem d_PB_hasTariff_12 : decode b_PB_hasTariff 12 = .ok (.iconst 1, 1) := by decide +kernel
theorem d_PB_hasTariff_13 : decode b_PB_hasTariff 13 = .ok (.goto 4, 3) := by decide +kernel
theorem d_PB_hasTariff_16 : decode b_PB_hasTariff 16 = .ok (.iconst 0, 1) := by decide +kernel
theorem d_PB_hasTariff_17 : decode b_PB_hasTariff 17 = .ok (.ireturn, 1) := by decide +kernel
theorem d_PB_takeOverTariffs_0 : decode b_PB_takeOverTariffs 0 = .ok (.iconst 0, 1) := by decide +kernel
theorem d_PB_takeOverTariffs_1 : decode b_PB_takeOverTariffs 1 = .ok (.istore_n 1, 1) := by decide +kernel
theorem d_PB_takeOverTariffs_2 : decode b_PB_takeOverTariffs 2 = .ok (.iload_n 1, 1) := by decide +kernel
theorem d_PB_takeOverTariffs_3 : decode b_PB_takeOverTariffs 3 = .ok (.bipush 6, 2) := by decide +kernel
theorem d_PB_takeOverTariffs_5 : decode b_PB_takeOverTariffs 5 = .ok (.if_icmp .ge 45, 3) := by decide +kernel
theorem d_PB_takeOverTariffs_8 : decode b_PB_takeOverTariffs 8 = .ok (.aload_n 0, 1) := by decide +kernel
theorem d_PB_takeOverTariffs_9 : decode b_PB_takeOverTariffs 9 = .ok (.getfield 10, 3) := by decide +kernel
theorem d_PB_takeOverTariffs_12 : decode b_PB_takeOverTariffs 12 = .ok (.getfield 205, 3) := by decide +kernel
theorem d_PB_takeOverTariffs_15 : decode b_PB_takeOverTariffs 15 = .ok (.iload_n 1, 1) := by decide +kernel
theorem d_PB_takeOverTariffs_16 : decode b_PB_takeOverTariffs 16 = .ok (.ishr, 1) := by decide +kernel
theorem d_PB_takeOverTariffs_17 : decode b_PB_takeOverTariffs 17 = .ok (.iconst 1, 1) := by decide +kernel
theorem d_PB_takeOverTariffs_18 : decode b_PB_takeOverTariffs 18 = .ok (.iand, 1) := by decide +kernel
theorem d_PB_takeOverTariffs_19 : decode b_PB_takeOverTariffs 19 = .ok (.iconst 1, 1) := by decide +kernel
theorem d_PB_takeOverTariffs_20 : decode b_PB_takeOverTariffs 20 = .ok (.if_icmp .ne 24, 3) := by decide +kernel
theorem d_PB_takeOverTariffs_23 : decode b_PB_takeOverTariffs 23 = .ok (.aload_n 0, 1) := by decide +kernel
theorem d_PB_takeOverTariffs_24 : decode b_PB_takeOverTariffs 24 = .ok (.getfield 10, 3) := by decide +kernel
theorem d_PB_takeOverTariffs_27 : decode b_PB_takeOverTariffs 27 = .ok (.getfield 208, 3) := by decide +kernel
theorem d_PB_takeOverTariffs_30 : decode b_PB_takeOverTariffs 30 = .ok (.iload_n 1, 1) := by decide +kernel
theorem d_PB_takeOverTariffs_31 : decode b_PB_takeOverTariffs 31 = .ok (.aaload, 1) := by decide +kernel
theorem d_PB_takeOverTariffs_32 : decode b_PB_takeOverTariffs 32 = .ok (.iconst 0, 1) := by decide +kernel
theorem d_PB_takeOverTariffs_33 : decode b_PB_takeOverTariffs 33 = .ok (.aload_n 0, 1) := by decide +kernel
theorem d_PB_takeOverTariffs_34 : decode b_PB_takeOverTariffs 34 = .ok (.getfield 18, 3) := by decide +kernel
theorem d_PB_takeOverTariffs_37 : decode b_PB_takeOverTariffs 37 = .ok (.iload_n 1, 1) := by decide +kernel
theorem d_PB_takeOverTariffs_38 : decode b_PB_takeOverTariffs 38 = .ok (.aaload, 1) := by decide +kernel
theorem d_PB_takeOverTariffs_39 : decode b_PB_takeOverTariffs 39 = .ok (.iconst 0, 1) := by decide +kernel
theorem d_PB_takeOverTariffs_40 : decode b_PB_takeOverTariffs 40 = .ok (.iconst 4, 1) := by decide +kernel
theorem d_PB_takeOverTariffs_41 : decode b_PB_takeOverTariffs 41 = .ok (.invokestatic 211, 3) := by decide +kernel
theorem d_PB_takeOverTariffs_44 : decode b_PB_takeOverTariffs 44 = .ok (.iinc 1 1, 3) := by decide +kernel
theorem d_PB_takeOverTariffs_47 : decode b_PB_takeOverTariffs 47 = .ok (.goto (-45), 3) := by decide +kernel
theorem d_PB_takeOverTariffs_50 : decode b_PB_takeOverTariffs 50 = .ok (.aload_n 0, 1) := by decide +kernel
theorem d_PB_takeOverTariffs_51 : decode b_PB_takeOverTariffs 51 = .ok (.dup, 1) := by decide +kernel
theorem d_PB_takeOverTariffs_52 : decode b_PB_takeOverTariffs 52 = .ok (.getfield 201, 3) := by decide +kernel
theorem d_PB_takeOverTariffs_55 : decode b_PB_takeOverTariffs 55 = .ok (.aload_n 0, 1) := by decide +kernel
theorem d_PB_takeOverTariffs_56 : decode b_PB_takeOverTariffs 56 = .ok (.getfield 10, 3) := by decide +kernel
theorem d_PB_takeOverTariffs_59 : decode b_PB_takeOverTariffs 59 = .ok (.getfield 205, 3) := by decide +kernel
theorem d_PB_takeOverTariffs_62 : decode b_PB_takeOverTariffs 62 = .ok (.ior, 1) := by decide +kernel
theorem d_PB_takeOverTariffs_63 : decode b_PB_takeOverTariffs 63 = .ok (.putfield 201, 3) := by decide +kernel
theorem d_PB_takeOverTariffs_66 : decode b_PB_takeOverTariffs 66 = .ok (.return_, 1) := by decide +kernel
theorem d_PB_kindsThatWait_0 : decode b_PB_kindsThatWait 0 = .ok (.iconst 0, 1) := by decide +kernel
theorem d_PB_kindsThatWait_1 : decode b_PB_kindsThatWait 1 = .ok (.istore_n 2, 1) := by decide +kernel
theorem d_PB_kindsThatWait_2 : decode b_PB_kindsThatWait 2 = .ok (.iconst 0, 1) := by decide +kernel
theorem d_PB_kindsThatWait_3 : decode b_PB_kindsThatWait 3 = .ok (.istore_n 3, 1) := by decide +kernel
theorem d_PB_kindsThatWait_4 : decode b_PB_kindsThatWait 4 = .ok (.iload_n 3, 1) := by decide +kernel
theorem d_PB_kindsThatWait_5 : decode b_PB_kindsThatWait 5 = .ok (.bipush 6, 2) := by decide +kernel
theorem d_PB_kindsThatWait_7 : decode b_PB_kindsThatWait 7 = .ok (.if_icmp .ge 23, 3) := by decide +kernel
theorem d_PB_kindsThatWait_10 : decode b_PB_kindsThatWait 10 = .ok (.aload_n 0, 1) := by decide +kernel
theorem d_PB_kindsThatWait_11 : decode b_PB_kindsThatWait 11 = .ok (.getfield 21, 3) := by decide +kernel
theorem d_PB_kindsThatWait_14 : decode b_PB_kindsThatWait 14 = .ok (.iload_n 1, 1) := by decide +kernel
theorem d_PB_kindsThatWait_15 : decode b_PB_kindsThatWait 15 = .ok (.aaload, 1) := by decide +kernel
theorem d_PB_kindsThatWait_16 : decode b_PB_kindsThatWait 16 = .ok (.iload_n 3, 1) := by decide +kernel
theorem d_PB_kindsThatWait_17 : decode b_PB_kindsThatWait 17 = .ok (.iaload, 1) := by decide +kernel
theorem d_PB_kindsThatWait_18 : decode b_PB_kindsThatWait 18 = .ok (.ifCond .le 6, 3) := by decide +kernel
theorem d_PB_kindsThatWait_21 : decode b_PB_kindsThatWait 21 = .ok (.iinc 2 1, 3) := by decide +kernel
theorem d_PB_kindsThatWait_24 : decode b_PB_kindsThatWait 24 = .ok (.iinc 3 1, 3) := by decide +kernel
theorem d_PB_kindsThatWait_27 : decode b_PB_kindsThatWait 27 = .ok (.goto (-23), 3) := by decide +kernel
theorem d_PB_kindsThatWait_30 : decode b_PB_kindsThatWait 30 = .ok (.iload_n 2, 1) := by decide +kernel
theorem d_PB_kindsThatWait_31 : decode b_PB_kindsThatWait 31 = .ok (.ireturn, 1) := by decide +kernel
theorem d_PB_forgetEvents_0 : decode b_PB_forgetEvents 0 = .ok (.aload_n 0, 1) := by decide +kernel
theorem d_PB_forgetEvents_1 : decode b_PB_forgetEvents 1 = .ok (.getfield 21, 3) := by decide +kernel
theorem d_PB_forgetEvents_4 : decode b_PB_forgetEvents 4 = .ok (.iload_n 1, 1) := by decide +kernel
theorem d_PB_forgetEvents_5 : decode b_PB_forgetEvents 5 = .ok (.aaload, 1) := by decide +kernel
theorem d_PB_forgetEvents_6 : decode b_PB_forgetEvents 6 = .ok (.iconst 0, 1) := by decide +kernel
theorem d_PB_forgetEvents_7 : decode b_PB_forgetEvents 7 = .ok (.invokestatic 48, 3) := by decide +kernel
theorem d_PB_forgetEvents_10 : decode b_PB_forgetEvents 10 = .ok (.aload_n 0, 1) := by decide +kernel
theorem d_PB_forgetEvents_11 : decode b_PB_forgetEvents 11 = .ok (.dup, 1) := by decide +kernel
theorem d_PB_forgetEvents_12 : decode b_PB_forgetEvents 12 = .ok (.getfield 87, 3) := by decide +kernel
theorem d_PB_forgetEvents_15 : decode b_PB_forgetEvents 15 = .ok (.aload_n 0, 1) := by decide +kernel
theorem d_PB_forgetEvents_16 : decode b_PB_forgetEvents 16 = .ok (.getfield 24, 3) := by decide +kernel
theorem d_PB_forgetEvents_19 : decode b_PB_forgetEvents 19 = .ok (.iload_n 1, 1) := by decide +kernel
theorem d_PB_forgetEvents_20 : decode b_PB_forgetEvents 20 = .ok (.iaload, 1) := by decide +kernel
theorem d_PB_forgetEvents_21 : decode b_PB_forgetEvents 21 = .ok (.isub, 1) := by decide +kernel
theorem d_PB_forgetEvents_22 : decode b_PB_forgetEvents 22 = .ok (.putfield 87, 3) := by decide +kernel
theorem d_PB_forgetEvents_25 : decode b_PB_forgetEvents 25 = .ok (.aload_n 0, 1) := by decide +kernel
theorem d_PB_forgetEvents_26 : decode b_PB_forgetEvents 26 = .ok (.getfield 24, 3) := by decide +kernel
theorem d_PB_forgetEvents_29 : decode b_PB_forgetEvents 29 = .ok (.iload_n 1, 1) := by decide +kernel
theorem d_PB_forgetEvents_30 : decode b_PB_forgetEvents 30 = .ok (.iconst 0, 1) := by decide +kernel
theorem d_PB_forgetEvents_31 : decode b_PB_forgetEvents 31 = .ok (.iastore, 1) := by decide +kernel
theorem d_PB_forgetEvents_32 : decode b_PB_forgetEvents 32 = .ok (.return_, 1) := by decide +kernel
theorem d_PB_billedLine_0 : decode b_PB_billedLine 0 = .ok (.aload_n 0, 1) := by decide +kernel
theorem d_PB_billedLine_1 : decode b_PB_billedLine 1 = .ok (.getfield 21, 3) := by decide +kernel
theorem d_PB_billedLine_4 : decode b_PB_billedLine 4 = .ok (.iload_n 1, 1) := by decide +kernel
theorem d_PB_billedLine_5 : decode b_PB_billedLine 5 = .ok (.aaload, 1) := by decide +kernel
theorem d_PB_billedLine_6 : decode b_PB_billedLine 6 = .ok (.iload_n 2, 1) := by decide +kernel
theorem d_PB_billedLine_7 : decode b_PB_billedLine 7 = .ok (.iaload, 1) := by decide +kernel
theorem d_PB_billedLine_8 : decode b_PB_billedLine 8 = .ok (.istore_n 3, 1) := by decide +kernel
theorem d_PB_billedLine_9 : decode b_PB_billedLine 9 = .ok (.iconst 0, 1) := by decide +kernel
theorem d_PB_billedLine_10 : decode b_PB_billedLine 10 = .ok (.iload_n 3, 1) := by decide +kernel
theorem d_PB_billedLine_11 : decode b_PB_billedLine 11 = .ok (.aload_n 0, 1) := by decide +kernel
theorem d_PB_billedLine_12 : decode b_PB_billedLine 12 = .ok (.getfield 18, 3) := by decide +kernel
theorem d_PB_billedLine_15 : decode b_PB_billedLine 15 = .ok (.iload_n 2, 1) := by decide +kernel
theorem d_PB_billedLine_16 : decode b_PB_billedLine 16 = .ok (.aaload, 1) := by decide +kernel
theorem d_PB_billedLine_17 : decode b_PB_billedLine 17 = .ok (.iconst 2, 1) := by decide +kernel
theorem d_PB_billedLine_18 : decode b_PB_billedLine 18 = .ok (.iaload, 1) := by decide +kernel
theorem d_PB_billedLine_19 : decode b_PB_billedLine 19 = .ok (.isub, 1) := by decide +kernel
theorem d_PB_billedLine_20 : decode b_PB_billedLine 20 = .ok (.invokestatic 217, 3) := by decide +kernel
theorem d_PB_billedLine_23 : decode b_PB_billedLine 23 = .ok (.istore 4, 2) := by decide +kernel
theorem d_PB_billedLine_25 : decode b_PB_billedLine 25 = .ok (.new 139, 3) := by decide +kernel
theorem d_PB_billedLine_28 : decode b_PB_billedLine 28 = .ok (.dup, 1) := by decide +kernel
theorem d_PB_billedLine_29 : decode b_PB_billedLine 29 = .ok (.iload_n 1, 1) := by decide +kernel
theorem d_PB_billedLine_30 : decode b_PB_billedLine 30 = .ok (.iload_n 2, 1) := by decide +kernel
theorem d_PB_billedLine_31 : decode b_PB_billedLine 31 = .ok (.iload_n 3, 1) := by decide +kernel
theorem d_PB_billedLine_32 : decode b_PB_billedLine 32 = .ok (.iload 4, 2) := by decide +kernel
theorem d_PB_billedLine_34 : decode b_PB_billedLine 34 = .ok (.aload_n 0, 1) := by decide +kernel
theorem d_PB_billedLine_35 : decode b_PB_billedLine 35 = .ok (.iload_n 1, 1) := by decide +kernel
theorem d_PB_billedLine_36 : decode b_PB_billedLine 36 = .ok (.iload_n 2, 1) := by decide +kernel
theorem d_PB_billedLine_37 : decode b_PB_billedLine 37 = .ok (.iload 4, 2) := by decide +kernel
theorem d_PB_billedLine_39 : decode b_PB_billedLine 39 = .ok (.invokevirtual 222, 3) := by decide +kernel
theorem d_PB_billedLine_42 : decode b_PB_billedLine 42 = .ok (.iconst (-1), 1) := by decide +kernel
theorem d_PB_billedLine_43 : decode b_PB_billedLine 43 = .ok (.aload_n 0, 1) := by decide +kernel
theorem d_PB_billedLine_44 : decode b_PB_billedLine 44 = .ok (.iload_n 2, 1) := by decide +kernel
theorem d_PB_billedLine_45 : decode b_PB_billedLine 45 = .ok (.invokevirtual 78, 3) := by decide +kernel
theorem d_PB_billedLine_48 : decode b_PB_billedLine 48 = .ok (.ifCond .ne 7, 3) := by decide +kernel
theorem d_PB_billedLine_51 : decode b_PB_billedLine 51 = .ok (.iconst 1, 1) := by decide +kernel
theorem d_PB_billedLine_52 : decode b_PB_billedLine 52 = .ok (.goto 4, 3) := by decide +kernel
theorem d_PB_billedLine_55 : decode b_PB_billedLine 55 = .ok (.iconst 0, 1) := by decide +kernel
theorem d_PB_billedLine_56 : decode b_PB_billedLine 56 = .ok (.invokespecial 155, 3) := by decide +kernel
theorem d_PB_billedLine_59 : decode b_PB_billedLine 59 = .ok (.areturn, 1) := by decide +kernel
theorem d_PB_centsFor_0 : decode b_PB_centsFor 0 = .ok (.iload_n 3, 1) := by decide +kernel
theorem d_PB_centsFor_1 : decode b_PB_centsFor 1 = .ok (.ifCond .ne 5, 3) := by decide +kernel
theorem d_PB_centsFor_4 : decode b_PB_centsFor 4 = .ok (.lconst 0, 1) := by decide +kernel
theorem d_PB_centsFor_5 : decode b_PB_centsFor 5 = .ok (.lreturn, 1) := by decide +kernel
theorem d_PB_centsFor_6 : decode b_PB_centsFor 6 = .ok (.aload_n 0, 1) := by decide +kernel
theorem d_PB_centsFor_7 : decode b_PB_centsFor 7 = .ok (.getfield 18, 3) := by decide +kernel
theorem d_PB_centsFor_10 : decode b_PB_centsFor 10 = .ok (.iload_n 2, 1) := by decide +kernel
theorem d_PB_centsFor_11 : decode b_PB_centsFor 11 = .ok (.aaload, 1) := by decide +kernel
theorem d_PB_centsFor_12 : decode b_PB_centsFor 12 = .ok (.iconst 0, 1) := by decide +kernel
theorem d_PB_centsFor_13 : decode b_PB_centsFor 13 = .ok (.iaload, 1) := by decide +kernel
theorem d_PB_centsFor_14 : decode b_PB_centsFor 14 = .ok (.i2l, 1) := by decide +kernel
theorem d_PB_centsFor_15 : decode b_PB_centsFor 15 = .ok (.iload_n 3, 1) := by decide +kernel
theorem d_PB_centsFor_16 : decode b_PB_centsFor 16 = .ok (.i2l, 1) := by decide +kernel
theorem d_PB_centsFor_17 : decode b_PB_centsFor 17 = .ok (.lmul, 1) := by decide +kernel
theorem d_PB_centsFor_18 : decode b_PB_centsFor 18 = .ok (.aload_n 0, 1) := by decide +kernel
theorem d_PB_centsFor_19 : decode b_PB_centsFor 19 = .ok (.getfield 31, 3) := by decide +kernel
theorem d_PB_centsFor_22 : decode b_PB_centsFor 22 = .ok (.iload_n 1, 1) := by decide +kernel
theorem d_PB_centsFor_23 : decode b_PB_centsFor 23 = .ok (.aaload, 1) := by decide +kernel
theorem d_PB_centsFor_24 : decode b_PB_centsFor 24 = .ok (.iload_n 2, 1) := by decide +kernel
theorem d_PB_centsFor_25 : decode b_PB_centsFor 25 = .ok (.iaload, 1) := by decide +kernel
theorem d_PB_centsFor_26 : decode b_PB_centsFor 26 = .ok (.i2l, 1) := by decide +kernel
theorem d_PB_centsFor_27 : decode b_PB_centsFor 27 = .ok (.lmul, 1) := by decide +kernel
theorem d_PB_centsFor_28 : decode b_PB_centsFor 28 = .ok (.lstore 4, 2) := by decide +kernel
theorem d_PB_centsFor_30 : decode b_PB_centsFor 30 = .ok (.aload_n 0, 1) := by decide +kernel
theorem d_PB_centsFor_31 : decode b_PB_centsFor 31 = .ok (.getfield 18, 3) := by decide +kernel
theorem d_PB_centsFor_34 : decode b_PB_centsFor 34 = .ok (.iload_n 2, 1) := by decide +kernel
theorem d_PB_centsFor_35 : decode b_PB_centsFor 35 = .ok (.aaload, 1) := by decide +kernel
theorem d_PB_centsFor_36 : decode b_PB_centsFor 36 = .ok (.iconst 1, 1) := by decide +kernel
theorem d_PB_centsFor_37 : decode b_PB_centsFor 37 = .ok (.iaload, 1) := by decide +kernel
theorem d_PB_centsFor_38 : decode b_PB_centsFor 38 = .ok (.i2l, 1) := by decide +kernel
theorem d_PB_centsFor_39 : decode b_PB_centsFor 39 = .ok (.aload_n 0, 1) := by decide +kernel
theorem d_PB_centsFor_40 : decode b_PB_centsFor 40 = .ok (.getfield 34, 3) := by decide +kernel
theorem d_PB_centsFor_43 : decode b_PB_centsFor 43 = .ok (.iload_n 1, 1) := by decide +kernel
theorem d_PB_centsFor_44 : decode b_PB_centsFor 44 = .ok (.aaload, 1) := by decide +kernel
theorem d_PB_centsFor_45 : decode b_PB_centsFor 45 = .ok (.iload_n 2, 1) := by decide +kernel
theorem d_PB_centsFor_46 : decode b_PB_centsFor 46 = .ok (.iaload, 1) := by decide +kernel
theorem d_PB_centsFor_47 : decode b_PB_centsFor 47 = .ok (.i2l, 1) := by decide +kernel
theorem d_PB_centsFor_48 : decode b_PB_centsFor 48 = .ok (.lmul, 1) := by decide +kernel
theorem d_PB_centsFor_49 : decode b_PB_centsFor 49 = .ok (.lstore 6, 2) := by decide +kernel
theorem d_PB_centsFor_51 : decode b_PB_centsFor 51 = .ok (.lload 4, 2) := by decide +kernel
theorem d_PB_centsFor_53 : decode b_PB_centsFor 53 = .ok (.lload 6, 2) := by decide +kernel
theorem d_PB_centsFor_55 : decode b_PB_centsFor 55 = .ok (.invokestatic 226, 3) := by decide +kernel
theorem d_PB_centsFor_58 : decode b_PB_centsFor 58 = .ok (.aload_n 0, 1) := by decide +kernel
theorem d_PB_centsFor_59 : decode b_PB_centsFor 59 = .ok (.getfield 18, 3) := by decide +kernel
theorem d_PB_centsFor_62 : decode b_PB_centsFor 62 = .ok (.iload_n 2, 1) := by decide +kernel
theorem d_PB_centsFor_63 : decode b_PB_centsFor 63 = .ok (.aaload, 1) := by decide +kernel
theorem d_PB_centsFor_64 : decode b_PB_centsFor 64 = .ok (.iconst 3, 1) := by decide +kernel
theorem d_PB_centsFor_65 : decode b_PB_centsFor 65 = .ok (.iaload, 1) := by decide +kernel
theorem d_PB_centsFor_66 : decode b_PB_centsFor 66 = .ok (.i2l, 1) := by decide +kernel
theorem d_PB_centsFor_67 : decode b_PB_centsFor 67 = .ok (.invokestatic 229, 3) := by decide +kernel
theorem d_PB_centsFor_70 : decode b_PB_centsFor 70 = .ok (.lreturn, 1) := by decide +kernel
theorem d_PB_owedNow_0 : decode b_PB_owedNow 0 = .ok (.aload_n 0, 1) := by decide +kernel
theorem d_PB_owedNow_1 : decode b_PB_owedNow 1 = .ok (.getfield 44, 3) := by decide +kernel
theorem d_PB_owedNow_4 : decode b_PB_owedNow 4 = .ok (.iload_n 1, 1) := by decide +kernel
theorem d_PB_owedNow_5 : decode b_PB_owedNow 5 = .ok (.laload, 1) := by decide +kernel
theorem d_PB_owedNow_6 : decode b_PB_owedNow 6 = .ok (.lneg, 1) := by decide +kernel
theorem d_PB_owedNow_7 : decode b_PB_owedNow 7 = .ok (.lstore_n 2, 1) := by decide +kernel
theorem d_PB_owedNow_8 : decode b_PB_owedNow 8 = .ok (.iconst 0, 1) := by decide +kernel
theorem d_PB_owedNow_9 : decode b_PB_owedNow 9 = .ok (.istore 4, 2) := by decide +kernel
theorem d_PB_owedNow_11 : decode b_PB_owedNow 11 = .ok (.iload 4, 2) := by decide +kernel
theorem d_PB_owedNow_13 : decode b_PB_owedNow 13 = .ok (.aload_n 0, 1) := by decide +kernel
theorem d_PB_owedNow_14 : decode b_PB_owedNow 14 = .ok (.getfield 40, 3) := by decide +kernel
theorem d_PB_owedNow_17 : decode b_PB_owedNow 17 = .ok (.invokevirtual 109, 3) := by decide +kernel
theorem d_PB_owedNow_20 : decode b_PB_owedNow 20 = .ok (.if_icmp .ge 48, 3) := by decide +kernel
theorem d_PB_owedNow_23 : decode b_PB_owedNow 23 = .ok (.aload_n 0, 1) := by decide +kernel
theorem d_PB_owedNow_24 : decode b_PB_owedNow 24 = .ok (.getfield 40, 3) := by decide +kernel
theorem d_PB_owedNow_27 : decode b_PB_owedNow 27 = .ok (.iload 4, 2) := by decide +kernel
theorem d_PB_owedNow_29 : decode b_PB_owedNow 29 = .ok (.invokevirtual 135, 3) := by decide +kernel
theorem d_PB_owedNow_32 : decode b_PB_owedNow 32 = .ok (.checkcast 139, 3) := by decide +kernel
theorem d_PB_owedNow_35 : decode b_PB_owedNow 35 = .ok (.astore 5, 2) := by decide +kernel
theorem d_PB_owedNow_37 : decode b_PB_owedNow 37 = .ok (.aload 5, 2) := by decide +kernel
theorem d_PB_owedNow_39 : decode b_PB_owedNow 39 = .ok (.getfield 149, 3) := by decide +kernel
theorem d_PB_owedNow_42 : decode b_PB_owedNow 42 = .ok (.iload_n 1, 1) := by decide +kernel
theorem d_PB_owedNow_43 : decode b_PB_owedNow 43 = .ok (.if_icmp .ne 19, 3) := by decide +kernel
theorem d_PB_owedNow_46 : decode b_PB_owedNow 46 = .ok (.aload 5, 2) := by decide +kernel
theorem d_PB_owedNow_48 : decode b_PB_owedNow 48 = .ok (.getfield 158, 3) := by decide +kernel
theorem d_PB_owedNow_51 : decode b_PB_owedNow 51 = .ok (.ifCond .ne 11, 3) := by decide +kernel
theorem d_PB_owedNow_54 : decode b_PB_owedNow 54 = .ok (.lload_n 2, 1) := by decide +kernel
theorem d_PB_owedNow_55 : decode b_PB_owedNow 55 = .ok (.aload 5, 2) := by decide +kernel
theorem d_PB_owedNow_57 : decode b_PB_owedNow 57 = .ok (.getfield 231, 3) := by decide +kernel
theorem d_PB_owedNow_60 : decode b_PB_owedNow 60 = .ok (.ladd, 1) := by decide +kernel
theorem d_PB_owedNow_61 : decode b_PB_owedNow 61 = .ok (.lstore_n 2, 1) := by decide +kernel
theorem d_PB_owedNow_62 : decode b_PB_owedNow 62 = .ok (.iinc 4 1, 3) := by decide +kernel
theorem d_PB_owedNow_65 : decode b_PB_owedNow 65 = .ok (.goto (-54), 3) := by decide +kernel
theorem d_PB_owedNow_68 : decode b_PB_owedNow 68 = .ok (.lload_n 2, 1) := by decide +kernel
theorem d_PB_owedNow_69 : decode b_PB_owedNow 69 = .ok (.lreturn, 1) := by decide +kernel
theorem d_PB_linesOf_0 : decode b_PB_linesOf 0 = .ok (.iconst 0, 1) := by decide +kernel
theorem d_PB_linesOf_1 : decode b_PB_linesOf 1 = .ok (.istore_n 2, 1) := by decide +kernel
theorem d_PB_linesOf_2 : decode b_PB_linesOf 2 = .ok (.iconst 0, 1) := by decide +kernel
theorem d_PB_linesOf_3 : decode b_PB_linesOf 3 = .ok (.istore_n 3, 1) := by decide +kernel
theorem d_PB_linesOf_4 : decode b_PB_linesOf 4 = .ok (.iload_n 3, 1) := by decide +kernel
theorem d_PB_linesOf_5 : decode b_PB_linesOf 5 = .ok (.aload_n 0, 1) := by decide +kernel
theorem d_PB_linesOf_6 : decode b_PB_linesOf 6 = .ok (.getfield 40, 3) := by decide +kernel
theorem d_PB_linesOf_9 : decode b_PB_linesOf 9 = .ok (.invokevirtual 109, 3) := by decide +kernel
theorem d_PB_linesOf_12 : decode b_PB_linesOf 12 = .ok (.if_icmp .ge 30, 3) := by decide +kernel
theorem d_PB_linesOf_15 : decode b_PB_linesOf 15 = .ok (.aload_n 0, 1) := by decide +kernel
theorem d_PB_linesOf_16 : decode b_PB_linesOf 16 = .ok (.getfield 40, 3) := by decide +kernel
theorem d_PB_linesOf_19 : decode b_PB_linesOf 19 = .ok (.iload_n 3, 1) := by decide +kernel
theorem d_PB_linesOf_20 : decode b_PB_linesOf 20 = .ok (.invokevirtual 135, 3) := by decide +kernel
theorem d_PB_linesOf_23 : decode b_PB_linesOf 23 = .ok (.checkcast 139, 3) := by decide +kernel
theorem d_PB_linesOf_26 : decode b_PB_linesOf 26 = .ok (.getfield 149, 3) := by decide +kernel
theorem d_PB_linesOf_29 : decode b_PB_linesOf 29 = .ok (.iload_n 1, 1) := by decide +kernel
theorem d_PB_linesOf_30 : decode b_PB_linesOf 30 = .ok (.if_icmp .ne 6, 3) := by decide +kernel
theorem d_PB_linesOf_33 : decode b_PB_linesOf 33 = .ok (.iinc 2 1, 3) := by decide +kernel
theorem d_PB_linesOf_36 : decode b_PB_linesOf 36 = .ok (.iinc 3 1, 3) := by decide +kernel
theorem d_PB_linesOf_39 : decode b_PB_linesOf 39 = .ok (.goto (-35), 3) := by decide +kernel
theorem d_PB_linesOf_42 : decode b_PB_linesOf 42 = .ok (.iload_n 2, 1) := by decide +kernel
theorem d_PB_linesOf_43 : decode b_PB_linesOf 43 = .ok (.ireturn, 1) := by decide +kernel
theorem d_PB_begunUnits_0 : decode b_PB_begunUnits 0 = .ok (.iload_n 0, 1) := by decide +kernel
theorem d_PB_begunUnits_1 : decode b_PB_begunUnits 1 = .ok (.iconst 1, 1) := by decide +kernel
theorem d_PB_begunUnits_2 : decode b_PB_begunUnits 2 = .ok (.isub, 1) := by decide +kernel
theorem d_PB_begunUnits_3 : decode b_PB_begunUnits 3 = .ok (.i2l, 1) := by decide +kernel
theorem d_PB_begunUnits_4 : decode b_PB_begunUnits 4 = .ok (.iload_n 1, 1) := by decide +kernel
theorem d_PB_begunUnits_5 : decode b_PB_begunUnits 5 = .ok (.i2l, 1) := by decide +kernel
theorem d_PB_begunUnits_6 : decode b_PB_begunUnits 6 = .ok (.invokestatic 183, 3) := by decide +kernel
theorem d_PB_begunUnits_9 : decode b_PB_begunUnits 9 = .ok (.l2i, 1) := by decide +kernel
theorem d_PB_begunUnits_10 : decode b_PB_begunUnits 10 = .ok (.iconst 1, 1) := by decide +kernel
theorem d_PB_begunUnits_11 : decode b_PB_begunUnits 11 = .ok (.iadd, 1) := by decide +kernel
theorem d_PB_begunUnits_12 : decode b_PB_begunUnits 12 = .ok (.ireturn, 1) := by decide +kernel
theorem d_PB_roundedHalfUp_0 : decode b_PB_roundedHalfUp 0 = .ok (.lload_n 0, 1) := by decide +kernel
theorem d_PB_roundedHalfUp_1 : decode b_PB_roundedHalfUp 1 = .ok (.lload_n 2, 1) := by decide +kernel
theorem d_PB_roundedHalfUp_2 : decode b_PB_roundedHalfUp 2 = .ok (.invokestatic 183, 3) := by decide +kernel
theorem d_PB_roundedHalfUp_5 : decode b_PB_roundedHalfUp 5 = .ok (.lstore 4, 2) := by decide +kernel
theorem d_PB_roundedHalfUp_7 : decode b_PB_roundedHalfUp 7 = .ok (.lload_n 0, 1) := by decide +kernel
theorem d_PB_roundedHalfUp_8 : decode b_PB_roundedHalfUp 8 = .ok (.lload 4, 2) := by decide +kernel
theorem d_PB_roundedHalfUp_10 : decode b_PB_roundedHalfUp 10 = .ok (.lload_n 2, 1) := by decide +kernel
theorem d_PB_roundedHalfUp_11 : decode b_PB_roundedHalfUp 11 = .ok (.lmul, 1) := by decide +kernel
theorem d_PB_roundedHalfUp_12 : decode b_PB_roundedHalfUp 12 = .ok (.lsub, 1) := by decide +kernel
theorem d_PB_roundedHalfUp_13 : decode b_PB_roundedHalfUp 13 = .ok (.lstore 6, 2) := by decide +kernel
theorem d_PB_roundedHalfUp_15 : decode b_PB_roundedHalfUp 15 = .ok (.ldc2_w 234, 3) := by decide +kernel
theorem d_PB_roundedHalfUp_18 : decode b_PB_roundedHalfUp 18 = .ok (.lload 6, 2) := by decide +kernel
theorem d_PB_roundedHalfUp_20 : decode b_PB_roundedHalfUp 20 = .ok (.lmul, 1) := by decide +kernel
theorem d_PB_roundedHalfUp_21 : decode b_PB_roundedHalfUp 21 = .ok (.lload_n 2, 1) := by decide +kernel
theorem d_PB_roundedHalfUp_22 : decode b_PB_roundedHalfUp 22 = .ok (.lcmp, 1) := by decide +kernel
theorem d_PB_roundedHalfUp_23 : decode b_PB_roundedHalfUp 23 = .ok (.ifCond .lt 10, 3) := by decide +kernel
theorem d_PB_roundedHalfUp_26 : decode b_PB_roundedHalfUp 26 = .ok (.lload 4, 2) := by decide +kernel
theorem d_PB_roundedHalfUp_28 : decode b_PB_roundedHalfUp 28 = .ok (.lconst 1, 1) := by decide +kernel
theorem d_PB_roundedHalfUp_29 : decode b_PB_roundedHalfUp 29 = .ok (.ladd, 1) := by decide +kernel
theorem d_PB_roundedHalfUp_30 : decode b_PB_roundedHalfUp 30 = .ok (.goto 5, 3) := by decide +kernel
theorem d_PB_roundedHalfUp_33 : decode b_PB_roundedHalfUp 33 = .ok (.lload 4, 2) := by decide +kernel
theorem d_PB_roundedHalfUp_35 : decode b_PB_roundedHalfUp 35 = .ok (.lreturn, 1) := by decide +kernel
theorem d_PB_quotient_0 : decode b_PB_quotient 0 = .ok (.lload_n 2, 1) := by decide +kernel
theorem d_PB_quotient_1 : decode b_PB_quotient 1 = .ok (.lconst 1, 1) := by decide +kernel
theorem d_PB_quotient_2 : decode b_PB_quotient 2 = .ok (.lcmp, 1) := by decide +kernel
theorem d_PB_quotient_3 : decode b_PB_quotient 3 = .ok (.ifCond .ge 7, 3) := by decide +kernel
theorem d_PB_quotient_6 : decode b_PB_quotient 6 = .ok (.lconst 0, 1) := by decide +kernel
theorem d_PB_quotient_7 : decode b_PB_quotient 7 = .ok (.goto 6, 3) := by decide +kernel
theorem d_PB_quotient_10 : decode b_PB_quotient 10 = .ok (.lload_n 0, 1) := by decide +kernel
theorem d_PB_quotient_11 : decode b_PB_quotient 11 = .ok (.lload_n 2, 1) := by decide +kernel
theorem d_PB_quotient_12 : decode b_PB_quotient 12 = .ok (.ldiv, 1) := by decide +kernel
theorem d_PB_quotient_13 : decode b_PB_quotient 13 = .ok (.lreturn, 1) := by decide +kernel
theorem d_LN_init_0 : decode b_LN_init 0 = .ok (.aload_n 0, 1) := by decide +kernel
theorem d_LN_init_1 : decode b_LN_init 1 = .ok (.invokespecial 3, 3) := by decide +kernel
theorem d_LN_init_4 : decode b_LN_init 4 = .ok (.aload_n 0, 1) := by decide +kernel
theorem d_LN_init_5 : decode b_LN_init 5 = .ok (.iload_n 1, 1) := by decide +kernel
theorem d_LN_init_6 : decode b_LN_init 6 = .ok (.putfield 9, 3) := by decide +kernel
theorem d_LN_init_9 : decode b_LN_init 9 = .ok (.aload_n 0, 1) := by decide +kernel
theorem d_LN_init_10 : decode b_LN_init 10 = .ok (.iload_n 2, 1) := by decide +kernel
theorem d_LN_init_11 : decode b_LN_init 11 = .ok (.putfield 15, 3) := by decide +kernel
theorem d_LN_init_14 : decode b_LN_init 14 = .ok (.aload_n 0, 1) := by decide +kernel
theorem d_LN_init_15 : decode b_LN_init 15 = .ok (.iload_n 3, 1) := by decide +kernel
theorem d_LN_init_16 : decode b_LN_init 16 = .ok (.putfield 18, 3) := by decide +kernel
theorem d_LN_init_19 : decode b_LN_init 19 = .ok (.aload_n 0, 1) := by decide +kernel
theorem d_LN_init_20 : decode b_LN_init 20 = .ok (.iload 4, 2) := by decide +kernel
theorem d_LN_init_22 : decode b_LN_init 22 = .ok (.putfield 21, 3) := by decide +kernel
theorem d_LN_init_25 : decode b_LN_init 25 = .ok (.aload_n 0, 1) := by decide +kernel
theorem d_LN_init_26 : decode b_LN_init 26 = .ok (.lload 5, 2) := by decide +kernel
theorem d_LN_init_28 : decode b_LN_init 28 = .ok (.putfield 24, 3) := by decide +kernel
theorem d_LN_init_31 : decode b_LN_init 31 = .ok (.aload_n 0, 1) := by decide +kernel
theorem d_LN_init_32 : decode b_LN_init 32 = .ok (.iload 7, 2) := by decide +kernel
theorem d_LN_init_34 : decode b_LN_init 34 = .ok (.putfield 28, 3) := by decide +kernel
theorem d_LN_init_37 : decode b_LN_init 37 = .ok (.aload_n 0, 1) := by decide +kernel
theorem d_LN_init_38 : decode b_LN_init 38 = .ok (.iload 8, 2) := by decide +kernel
theorem d_LN_init_40 : decode b_LN_init 40 = .ok (.putfield 31, 3) := by decide +kernel
theorem d_LN_init_43 : decode b_LN_init 43 = .ok (.aload_n 0, 1) := by decide +kernel
theorem d_LN_init_44 : decode b_LN_init 44 = .ok (.lload 5, 2) := by decide +kernel
theorem d_LN_init_46 : decode b_LN_init 46 = .ok (.putfield 35, 3) := by decide +kernel
theorem d_LN_init_49 : decode b_LN_init 49 = .ok (.return_, 1) := by decide +kernel
theorem d_LN_isCorrection_0 : decode b_LN_isCorrection 0 = .ok (.aload_n 0, 1) := by decide +kernel
theorem d_LN_isCorrection_1 : decode b_LN_isCorrection 1 = .ok (.getfield 28, 3) := by decide +kernel
theorem d_LN_isCorrection_4 : decode b_LN_isCorrection 4 = .ok (.iconst (-1), 1) := by decide +kernel
theorem d_LN_isCorrection_5 : decode b_LN_isCorrection 5 = .ok (.if_icmp .eq 7, 3) := by decide +kernel
theorem d_LN_isCorrection_8 : decode b_LN_isCorrection 8 = .ok (.iconst 1, 1) := by decide +kernel
theorem d_LN_isCorrection_9 : decode b_LN_isCorrection 9 = .ok (.goto 4, 3) := by decide +kernel
theorem d_LN_isCorrection_12 : decode b_LN_isCorrection 12 = .ok (.iconst 0, 1) := by decide +kernel
theorem d_LN_isCorrection_13 : decode b_LN_isCorrection 13 = .ok (.ireturn, 1) := by decide +kernel
theorem d_LN_part_0 : decode b_LN_part 0 = .ok (.iload_n 1, 1) := by decide +kernel
theorem d_LN_part_1 : decode b_LN_part 1 = .ok (.tableswitch 108 0 7 #[47, 53, 59, 65, 71, 76, 82, 95], 47) := by decide +kernel
theorem d_LN_part_48 : decode b_LN_part 48 = .ok (.aload_n 0, 1) := by decide +kernel
theorem d_LN_part_49 : decode b_LN_part 49 = .ok (.getfield 9, 3) := by decide +kernel
theorem d_LN_part_52 : decode b_LN_part 52 = .ok (.i2l, 1) := by decide +kernel
theorem d_LN_part_53 : decode b_LN_part 53 = .ok (.lreturn, 1) := by decide +kernel
theorem d_LN_part_54 : decode b_LN_part 54 = .ok (.aload_n 0, 1) := by decide +kernel
theorem d_LN_part_55 : decode b_LN_part 55 = .ok (.getfield 15, 3) := by decide +kernel
theorem d_LN_part_58 : decode b_LN_part 58 = .ok (.i2l, 1) := by decide +kernel
theorem d_LN_part_59 : decode b_LN_part 59 = .ok (.lreturn, 1) := by decide +kernel
theorem d_LN_part_60 : decode b_LN_part 60 = .ok (.aload_n 0, 1) := by decide +kernel
theorem d_LN_part_61 : decode b_LN_part 61 = .ok (.getfield 18, 3) := by decide +kernel
theorem d_LN_part_64 : decode b_LN_part 64 = .ok (.i2l, 1) := by decide +kernel
theorem d_LN_part_65 : decode b_LN_part 65 = .ok (.lreturn, 1) := by decide +kernel
theorem d_LN_part_66 : decode b_LN_part 66 = .ok (.aload_n 0, 1) := by decide +kernel
theorem d_LN_part_67 : decode b_LN_part 67 = .ok (.getfield 21, 3) := by decide +kernel
theorem d_LN_part_70 : decode b_LN_part 70 = .ok (.i2l, 1) := by decide +kernel
theorem d_LN_part_71 : decode b_LN_part 71 = .ok (.lreturn, 1) := by decide +kernel
theorem d_LN_part_72 : decode b_LN_part 72 = .ok (.aload_n 0, 1) := by decide +kernel
theorem d_LN_part_73 : decode b_LN_part 73 = .ok (.getfield 24, 3) := by decide +kernel
theorem d_LN_part_76 : decode b_LN_part 76 = .ok (.lreturn, 1) := by decide +kernel
theorem d_LN_part_77 : decode b_LN_part 77 = .ok (.aload_n 0, 1) := by decide +kernel
theorem d_LN_part_78 : decode b_LN_part 78 = .ok (.getfield 28, 3) := by decide +kernel
theorem d_LN_part_81 : decode b_LN_part 81 = .ok (.i2l, 1) := by decide +kernel
theorem d_LN_part_82 : decode b_LN_part 82 = .ok (.lreturn, 1) := by decide +kernel
theorem d_LN_part_83 : decode b_LN_part 83 = .ok (.aload_n 0, 1) := by decide +kernel
theorem d_LN_part_84 : decode b_LN_part 84 = .ok (.getfield 38, 3) := by decide +kernel
theorem d_LN_part_87 : decode b_LN_part 87 = .ok (.ifCond .eq 7, 3) := by decide +kernel
theorem d_LN_part_90 : decode b_LN_part 90 = .ok (.lconst 1, 1) := by decide +kernel
theorem d_LN_part_91 : decode b_LN_part 91 = .ok (.goto 4, 3) := by decide +kernel
theorem d_LN_part_94 : decode b_LN_part 94 = .ok (.lconst 0, 1) := by decide +kernel
theorem d_LN_part_95 : decode b_LN_part 95 = .ok (.lreturn, 1) := by decide +kernel
theorem d_LN_part_96 : decode b_LN_part 96 = .ok (.aload_n 0, 1) := by decide +kernel
theorem d_LN_part_97 : decode b_LN_part 97 = .ok (.getfield 31, 3) := by decide +kernel
theorem d_LN_part_100 : decode b_LN_part 100 = .ok (.ifCond .eq 7, 3) := by decide +kernel
theorem d_LN_part_103 : decode b_LN_part 103 = .ok (.lconst 1, 1) := by decide +kernel
theorem d_LN_part_104 : decode b_LN_part 104 = .ok (.goto 4, 3) := by decide +kernel
theorem d_LN_part_107 : decode b_LN_part 107 = .ok (.lconst 0, 1) := by decide +kernel
theorem d_LN_part_108 : decode b_LN_part 108 = .ok (.lreturn, 1) := by decide +kernel
theorem d_LN_part_109 : decode b_LN_part 109 = .ok (.aload_n 0, 1) := by decide +kernel
theorem d_LN_part_110 : decode b_LN_part 110 = .ok (.getfield 35, 3) := by decide +kernel
theorem d_LN_part_113 : decode b_LN_part 113 = .ok (.lreturn, 1) := by decide +kernel
theorem d_TT_init_0 : decode b_TT_init 0 = .ok (.aload_n 0, 1) := by decide +kernel
theorem d_TT_init_1 : decode b_TT_init 1 = .ok (.invokespecial 3, 3) := by decide +kernel
theorem d_TT_init_4 : decode b_TT_init 4 = .ok (.aload_n 0, 1) := by decide +kernel
theorem d_TT_init_5 : decode b_TT_init 5 = .ok (.bipush 120, 2) := by decide +kernel
theorem d_TT_init_7 : decode b_TT_init 7 = .ok (.newarray .char, 2) := by decide +kernel
theorem d_TT_init_9 : decode b_TT_init 9 = .ok (.putfield 11, 3) := by decide +kernel
theorem d_TT_init_12 : decode b_TT_init 12 = .ok (.aload_n 0, 1) := by decide +kernel
theorem d_TT_init_13 : decode b_TT_init 13 = .ok (.bipush 6, 2) := by decide +kernel
theorem d_TT_init_15 : decode b_TT_init 15 = .ok (.iconst 4, 1) := by decide +kernel
theorem d_TT_init_16 : decode b_TT_init 16 = .ok (.multianewarray 15 2, 4) := by decide +kernel
theorem d_TT_init_20 : decode b_TT_init 20 = .ok (.putfield 17, 3) := by decide +kernel
theorem d_TT_init_23 : decode b_TT_init 23 = .ok (.return_, 1) := by decide +kernel
theorem d_TT_takes_0 : decode b_TT_takes 0 = .ok (.iload_n 1, 1) := by decide +kernel
theorem d_TT_takes_1 : decode b_TT_takes 1 = .ok (.bipush 33, 2) := by decide +kernel
theorem d_TT_takes_3 : decode b_TT_takes 3 = .ok (.if_icmp .lt 18, 3) := by decide +kernel
theorem d_TT_takes_6 : decode b_TT_takes 6 = .ok (.iload_n 1, 1) := by decide +kernel
theorem d_TT_takes_7 : decode b_TT_takes 7 = .ok (.bipush 126, 2) := by decide +kernel
theorem d_TT_takes_9 : decode b_TT_takes 9 = .ok (.if_icmp .gt 12, 3) := by decide +kernel
theorem d_TT_takes_12 : decode b_TT_takes 12 = .ok (.aload_n 0, 1) := by decide +kernel
theorem d_TT_takes_13 : decode b_TT_takes 13 = .ok (.getfield 20, 3) := by decide +kernel
theorem d_TT_takes_16 : decode b_TT_takes 16 = .ok (.bipush 120, 2) := by decide +kernel
theorem d_TT_takes_18 : decode b_TT_takes 18 = .ok (.if_icmp .lt 5, 3) := by decide +kernel
theorem d_TT_takes_21 : decode b_TT_takes 21 = .ok (.iconst 0, 1) := by decide +kernel
theorem d_TT_takes_22 : decode b_TT_takes 22 = .ok (.ireturn, 1) := by decide +kernel
theorem d_TT_takes_23 : decode b_TT_takes 23 = .ok (.aload_n 0, 1) := by decide +kernel
theorem d_TT_takes_24 : decode b_TT_takes 24 = .ok (.getfield 11, 3) := by decide +kernel
theorem d_TT_takes_27 : decode b_TT_takes 27 = .ok (.aload_n 0, 1) := by decide +kernel
theorem d_TT_takes_28 : decode b_TT_takes 28 = .ok (.getfield 20, 3) := by decide +kernel
theorem d_TT_takes_31 : decode b_TT_takes 31 = .ok (.iload_n 1, 1) := by decide +kernel
theorem d_TT_takes_32 : decode b_TT_takes 32 = .ok (.i2c, 1) := by decide +kernel
theorem d_TT_takes_33 : decode b_TT_takes 33 = .ok (.castore, 1) := by decide +kernel
theorem d_TT_takes_34 : decode b_TT_takes 34 = .ok (.aload_n 0, 1) := by decide +kernel
theorem d_TT_takes_35 : decode b_TT_takes 35 = .ok (.dup, 1) := by decide +kernel
theorem d_TT_takes_36 : decode b_TT_takes 36 = .ok (.getfield 20, 3) := by decide +kernel
theorem d_TT_takes_39 : decode b_TT_takes 39 = .ok (.iconst 1, 1) := by decide +kernel
theorem d_TT_takes_40 : decode b_TT_takes 40 = .ok (.iadd, 1) := by decide +kernel
theorem d_TT_takes_41 : decode b_TT_takes 41 = .ok (.putfield 20, 3) := by decide +kernel
theorem d_TT_takes_44 : decode b_TT_takes 44 = .ok (.iconst 1, 1) := by decide +kernel
theorem d_TT_takes_45 : decode b_TT_takes 45 = .ok (.ireturn, 1) := by decide +kernel
theorem d_TT_clear_0 : decode b_TT_clear 0 = .ok (.aload_n 0, 1) := by decide +kernel
theorem d_TT_clear_1 : decode b_TT_clear 1 = .ok (.iconst 0, 1) := by decide +kernel
theorem d_TT_clear_2 : decode b_TT_clear 2 = .ok (.putfield 20, 3) := by decide +kernel
theorem d_TT_clear_5 : decode b_TT_clear 5 = .ok (.return_, 1) := by decide +kernel
theorem d_TT_readRows_0 : decode b_TT_readRows 0 = .ok (.aload_n 0, 1) := by decide +kernel
theorem d_TT_readRows_1 : decode b_TT_readRows 1 = .ok (.iconst 0, 1) := by decide +kernel
theorem d_TT_readRows_2 : decode b_TT_readRows 2 = .ok (.putfield 24, 3) := by decide +kernel
theorem d_TT_readRows_5 : decode b_TT_readRows 5 = .ok (.aload_n 0, 1) := by decide +kernel
theorem d_TT_readRows_6 : decode b_TT_readRows 6 = .ok (.iconst 0, 1) := by decide +kernel
theorem d_TT_readRows_7 : decode b_TT_readRows 7 = .ok (.putfield 27, 3) := by decide +kernel
theorem d_TT_readRows_10 : decode b_TT_readRows 10 = .ok (.iconst 0, 1) := by decide +kernel
theorem d_TT_readRows_11 : decode b_TT_readRows 11 = .ok (.istore_n 1, 1) := by decide +kernel
theorem d_TT_readRows_12 : decode b_TT_readRows 12 = .ok (.iload_n 1, 1) := by decide +kernel
theorem d_TT_readRows_13 : decode b_TT_readRows 13 = .ok (.bipush 40, 2) := by decide +kernel
theorem d_TT_readRows_15 : decode b_TT_readRows 15 = .ok (.if_icmp .ge 26, 3) := by decide +kernel
theorem d_TT_readRows_18 : decode b_TT_readRows 18 = .ok (.aload_n 0, 1) := by decide +kernel
theorem d_TT_readRows_19 : decode b_TT_readRows 19 = .ok (.invokevirtual 30, 3) := by decide +kernel
theorem d_TT_readRows_22 : decode b_TT_readRows 22 = .ok (.ifCond .eq 19, 3) := by decide +kernel
theorem d_TT_readRows_25 : decode b_TT_readRows 25 = .ok (.iinc 1 1, 3) := by decide +kernel
theorem d_TT_readRows_28 : decode b_TT_readRows 28 = .ok (.aload_n 0, 1) := by decide +kernel
theorem d_TT_readRows_29 : decode b_TT_readRows 29 = .ok (.getfield 24, 3) := by decide +kernel
theorem d_TT_readRows_32 : decode b_TT_readRows 32 = .ok (.aload_n 0, 1) := by decide +kernel
theorem d_TT_readRows_33 : decode b_TT_readRows 33 = .ok (.getfield 20, 3) := by decide +kernel
theorem d_TT_readRows_36 : decode b_TT_readRows 36 = .ok (.if_icmp .ne (-24), 3) := by decide +kernel
theorem d_TT_readRows_39 : decode b_TT_readRows 39 = .ok (.iload_n 1, 1) := by decide +kernel
theorem d_TT_readRows_40 : decode b_TT_readRows 40 = .ok (.ireturn, 1) := by decide +kernel
theorem d_TT_readRows_41 : decode b_TT_readRows 41 = .ok (.iconst (-1), 1) := by decide +kernel
theorem d_TT_readRows_42 : decode b_TT_readRows 42 = .ok (.aload_n 0, 1) := by decide +kernel
theorem d_TT_readRows_43 : decode b_TT_readRows 43 = .ok (.getfield 24, 3) := by decide +kernel
theorem d_TT_readRows_46 : decode b_TT_readRows 46 = .ok (.isub, 1) := by decide +kernel
theorem d_TT_readRows_47 : decode b_TT_readRows 47 = .ok (.ireturn, 1) := by decide +kernel
theorem d_TT_readRow_0 : decode b_TT_readRow 0 = .ok (.aload_n 0, 1) := by decide +kernel
theorem d_TT_readRow_1 : decode b_TT_readRow 1 = .ok (.invokevirtual 34, 3) := by decide +kernel
theorem d_TT_readRow_4 : decode b_TT_readRow 4 = .ok (.bipush 65, 2) := by decide +kernel
theorem d_TT_readRow_6 : decode b_TT_readRow 6 = .ok (.isub, 1) := by decide +kernel
theorem d_TT_readRow_7 : decode b_TT_readRow 7 = .ok (.istore_n 1, 1) := by decide +kernel
theorem d_TT_readRow_8 : decode b_TT_readRow 8 = .ok (.iload_n 1, 1) := by decide +kernel
theorem d_TT_readRow_9 : decode b_TT_readRow 9 = .ok (.invokestatic 38, 3) := by decide +kernel
theorem d_TT_readRow_12 : decode b_TT_readRow 12 = .ok (.ifCond .ne 5, 3) := by decide +kernel
theorem d_TT_readRow_15 : decode b_TT_readRow 15 = .ok (.iconst 0, 1) := by decide +kernel
theorem d_TT_readRow_16 : decode b_TT_readRow 16 = .ok (.ireturn, 1) := by decide +kernel
theorem d_TT_readRow_17 : decode b_TT_readRow 17 = .ok (.aload_n 0, 1) := by decide +kernel
theorem d_TT_readRow_18 : decode b_TT_readRow 18 = .ok (.dup, 1) := by decide +kernel
theorem d_TT_readRow_19 : decode b_TT_readRow 19 = .ok (.getfield 24, 3) := by decide +kernel
theorem d_TT_readRow_22 : decode b_TT_readRow 22 = .ok (.iconst 1, 1) := by decide +kernel
theorem d_TT_readRow_23 : decode b_TT_readRow 23 = .ok (.iadd, 1) := by decide +kernel
theorem d_TT_readRow_24 : decode b_TT_readRow 24 = .ok (.putfield 24, 3) := by decide +kernel
theorem d_TT_readRow_27 : decode b_TT_readRow 27 = .ok (.aload_n 0, 1) := by decide +kernel
theorem d_TT_readRow_28 : decode b_TT_readRow 28 = .ok (.dup, 1) := by decide +kernel
theorem d_TT_readRow_29 : decode b_TT_readRow 29 = .ok (.getfield 27, 3) := by decide +kernel
theorem d_TT_readRow_32 : decode b_TT_readRow 32 = .ok (.iconst 1, 1) := by decide +kernel
theorem d_TT_readRow_33 : decode b_TT_readRow 33 = .ok (.iload_n 1, 1) := by decide +kernel
theorem d_TT_readRow_34 : decode b_TT_readRow 34 = .ok (.ishl, 1) := by decide +kernel
theorem d_TT_readRow_35 : decode b_TT_readRow 35 = .ok (.ior, 1) := by decide +kernel
theorem d_TT_readRow_36 : decode b_TT_readRow 36 = .ok (.putfield 27, 3) := by decide +kernel
theorem d_TT_readRow_39 : decode b_TT_readRow 39 = .ok (.aload_n 0, 1) := by decide +kernel
theorem d_TT_readRow_40 : decode b_TT_readRow 40 = .ok (.getfield 17, 3) := by decide +kernel
theorem d_TT_readRow_43 : decode b_TT_readRow 43 = .ok (.iload_n 1, 1) := by decide +kernel
theorem d_TT_readRow_44 : decode b_TT_readRow 44 = .ok (.aaload, 1) := by decide +kernel
theorem d_TT_readRow_45 : decode b_TT_readRow 45 = .ok (.astore_n 2, 1) := by decide +kernel
theorem d_TT_readRow_46 : decode b_TT_readRow 46 = .ok (.aload_n 2, 1) := by decide +kernel
theorem d_TT_readRow_47 : decode b_TT_readRow 47 = .ok (.iconst 1, 1) := by decide +kernel
theorem d_TT_readRow_48 : decode b_TT_readRow 48 = .ok (.iconst 1, 1) := by decide +kernel
theorem d_TT_readRow_49 : decode b_TT_readRow 49 = .ok (.iastore, 1) := by decide +kernel
theorem d_TT_readRow_50 : decode b_TT_readRow 50 = .ok (.aload_n 2, 1) := by decide +kernel
theorem d_TT_readRow_51 : decode b_TT_readRow 51 = .ok (.iconst 2, 1) := by decide +kernel
theorem d_TT_readRow_52 : decode b_TT_readRow 52 = .ok (.iconst 0, 1) := by decide +kernel
theorem d_TT_readRow_53 : decode b_TT_readRow 53 = .ok (.iastore, 1) := by decide +kernel
theorem d_TT_readRow_54 : decode b_TT_readRow 54 = .ok (.aload_n 2, 1) := by decide +kernel
theorem d_TT_readRow_55 : decode b_TT_readRow 55 = .ok (.iconst 3, 1) := by decide +kernel
theorem d_TT_readRow_56 : decode b_TT_readRow 56 = .ok (.iconst 0, 1) := by decide +kernel
theorem d_TT_readRow_57 : decode b_TT_readRow 57 = .ok (.iastore, 1) := by decide +kernel
theorem d_TT_readRow_58 : decode b_TT_readRow 58 = .ok (.aload_n 0, 1) := by decide +kernel
theorem d_TT_readRow_59 : decode b_TT_readRow 59 = .ok (.aload_n 2, 1) := by decide +kernel
theorem d_TT_readRow_60 : decode b_TT_readRow 60 = .ok (.iconst 0, 1) := by decide +kernel
theorem d_TT_readRow_61 : decode b_TT_readRow 61 = .ok (.bipush 6, 2) := by decide +kernel
theorem d_TT_readRow_63 : decode b_TT_readRow 63 = .ok (.invokevirtual 42, 3) := by decide +kernel
theorem d_TT_readRow_66 : decode b_TT_readRow 66 = .ok (.ifCond .eq 80, 3) := by decide +kernel
theorem d_TT_readRow_69 : decode b_TT_readRow 69 = .ok (.aload_n 0, 1) := by decide +kernel
theorem d_TT_readRow_70 : decode b_TT_readRow 70 = .ok (.bipush 47, 2) := by decide +kernel
theorem d_TT_readRow_72 : decode b_TT_readRow 72 = .ok (.invokevirtual 46, 3) := by decide +kernel
theorem d_TT_readRow_75 : decode b_TT_readRow 75 = .ok (.ifCond .eq 19, 3) := by decide +kernel
theorem d_TT_readRow_78 : decode b_TT_readRow 78 = .ok (.aload_n 0, 1) := by decide +kernel
theorem d_TT_readRow_79 : decode b_TT_readRow 79 = .ok (.aload_n 2, 1) := by decide +kernel
theorem d_TT_readRow_80 : decode b_TT_readRow 80 = .ok (.iconst 1, 1) := by decide +kernel
theorem d_TT_readRow_81 : decode b_TT_readRow 81 = .ok (.iconst 4, 1) := by decide +kernel
theorem d_TT_readRow_82 : decode b_TT_readRow 82 = .ok (.invokevirtual 42, 3) := by decide +kernel
theorem d_TT_readRow_85 : decode b_TT_readRow 85 = .ok (.ifCond .eq 61, 3) := by decide +kernel
theorem d_TT_readRow_88 : decode b_TT_readRow 88 = .ok (.aload_n 2, 1) := by decide +kernel
theorem d_TT_readRow_89 : decode b_TT_readRow 89 = .ok (.iconst 1, 1) := by decide +kernel
theorem d_TT_readRow_90 : decode b_TT_readRow 90 = .ok (.iaload, 1) := by decide +kernel
theorem d_TT_readRow_91 : decode b_TT_readRow 91 = .ok (.ifCond .le 55, 3) := by decide +kernel
theorem d_TT_readRow_94 : decode b_TT_readRow 94 = .ok (.aload_n 0, 1) := by decide +kernel
theorem d_TT_readRow_95 : decode b_TT_readRow 95 = .ok (.bipush 45, 2) := by decide +kernel
theorem d_TT_readRow_97 : decode b_TT_readRow 97 = .ok (.invokevirtual 46, 3) := by decide +kernel
theorem d_TT_readRow_100 : decode b_TT_readRow 100 = .ok (.ifCond .eq 13, 3) := by decide +kernel
theorem d_TT_readRow_103 : decode b_TT_readRow 103 = .ok (.aload_n 0, 1) := by decide +kernel
theorem d_TT_readRow_104 : decode b_TT_readRow 104 = .ok (.aload_n 2, 1) := by decide +kernel
theorem d_TT_readRow_105 : decode b_TT_readRow 105 = .ok (.iconst 2, 1) := by decide +kernel
theorem d_TT_readRow_106 : decode b_TT_readRow 106 = .ok (.iconst 4, 1) := by decide +kernel
theorem d_TT_readRow_107 : decode b_TT_readRow 107 = .ok (.invokevirtual 42, 3) := by decide +kernel
theorem d_TT_readRow_110 : decode b_TT_readRow 110 = .ok (.ifCond .eq 36, 3) := by decide +kernel
theorem d_TT_readRow_113 : decode b_TT_readRow 113 = .ok (.aload_n 0, 1) := by decide +kernel
theorem d_TT_readRow_114 : decode b_TT_readRow 114 = .ok (.bipush 62, 2) := by decide +kernel
theorem d_TT_readRow_116 : decode b_TT_readRow 116 = .ok (.invokevirtual 46, 3) := by decide +kernel
theorem d_TT_readRow_119 : decode b_TT_readRow 119 = .ok (.ifCond .eq 14, 3) := by decide +kernel
theorem d_TT_readRow_122 : decode b_TT_readRow 122 = .ok (.aload_n 0, 1) := by decide +kernel
theorem d_TT_readRow_123 : decode b_TT_readRow 123 = .ok (.aload_n 2, 1) := by decide +kernel
theorem d_TT_readRow_124 : decode b_TT_readRow 124 = .ok (.iconst 3, 1) := by decide +kernel
theorem d_TT_readRow_125 : decode b_TT_readRow 125 = .ok (.bipush 6, 2) := by decide +kernel
theorem d_TT_readRow_127 : decode b_TT_readRow 127 = .ok (.invokevirtual 42, 3) := by decide +kernel
theorem d_TT_readRow_130 : decode b_TT_readRow 130 = .ok (.ifCond .eq 16, 3) := by decide +kernel
theorem d_TT_readRow_133 : decode b_TT_readRow 133 = .ok (.aload_n 0, 1) := by decide +kernel
theorem d_TT_readRow_134 : decode b_TT_readRow 134 = .ok (.bipush 59, 2) := by decide +kernel
theorem d_TT_readRow_136 : decode b_TT_readRow 136 = .ok (.invokevirtual 46, 3) := by decide +kernel
theorem d_TT_readRow_139 : decode b_TT_readRow 139 = .ok (.ifCond .eq 7, 3) := by decide +kernel
theorem d_TT_readRow_142 : decode b_TT_readRow 142 = .ok (.iconst 1, 1) := by decide +kernel
theorem d_TT_readRow_143 : decode b_TT_readRow 143 = .ok (.goto 4, 3) := by decide +kernel
theorem d_TT_readRow_146 : decode b_TT_readRow 146 = .ok (.iconst 0, 1) := by decide +kernel
theorem d_TT_readRow_147 : decode b_TT_readRow 147 = .ok (.ireturn, 1) := by decide +kernel
theorem d_TT_readNumber_0 : decode b_TT_readNumber 0 = .ok (.iconst 0, 1) := by decide +kernel
theorem d_TT_readNumber_1 : decode b_TT_readNumber 1 = .ok (.istore 4, 2) := by decide +kernel
theorem d_TT_readNumber_3 : decode b_TT_readNumber 3 = .ok (.iconst 0, 1) := by decide +kernel
theorem d_TT_readNumber_4 : decode b_TT_readNumber 4 = .ok (.istore 5, 2) := by decide +kernel
theorem d_TT_readNumber_6 : decode b_TT_readNumber 6 = .ok (.iload 4, 2) := by decide +kernel
theorem d_TT_readNumber_8 : decode b_TT_readNumber 8 = .ok (.iload_n 3, 1) := by decide +kernel
theorem d_TT_readNumber_9 : decode b_TT_readNumber 9 = .ok (.if_icmp .ge 44, 3) := by decide +kernel
theorem d_TT_readNumber_12 : decode b_TT_readNumber 12 = .ok (.aload_n 0, 1) := by decide +kernel
theorem d_TT_readNumber_13 : decode b_TT_readNumber 13 = .ok (.invokevirtual 34, 3) := by decide +kernel
theorem d_TT_readNumber_16 : decode b_TT_readNumber 16 = .ok (.invokestatic 50, 3) := by decide +kernel
theorem d_TT_readNumber_19 : decode b_TT_readNumber 19 = .ok (.ifCond .eq 34, 3) := by decide +kernel
theorem d_TT_readNumber_22 : decode b_TT_readNumber 22 = .ok (.iload 5, 2) := by decide +kernel
theorem d_TT_readNumber_24 : decode b_TT_readNumber 24 = .ok (.bipush 10, 2) := by decide +kernel
theorem d_TT_readNumber_26 : decode b_TT_readNumber 26 = .ok (.imul, 1) := by decide +kernel
theorem d_TT_readNumber_27 : decode b_TT_readNumber 27 = .ok (.aload_n 0, 1) := by decide +kernel
theorem d_TT_readNumber_28 : decode b_TT_readNumber 28 = .ok (.invokevirtual 34, 3) := by decide +kernel
theorem d_TT_readNumber_31 : decode b_TT_readNumber 31 = .ok (.bipush 48, 2) := by decide +kernel
theorem d_TT_readNumber_33 : decode b_TT_readNumber 33 = .ok (.isub, 1) := by decide +kernel
theorem d_TT_readNumber_34 : decode b_TT_readNumber 34 = .ok (.iadd, 1) := by decide +kernel
theorem d_TT_readNumber_35 : decode b_TT_readNumber 35 = .ok (.istore 5, 2) := by decide +kernel
theorem d_TT_readNumber_37 : decode b_TT_readNumber 37 = .ok (.iinc 4 1, 3) := by decide +kernel
theorem d_TT_readNumber_40 : decode b_TT_readNumber 40 = .ok (.aload_n 0, 1) := by decide +kernel
theorem d_TT_readNumber_41 : decode b_TT_readNumber 41 = .ok (.dup, 1) := by decide +kernel
theorem d_TT_readNumber_42 : decode b_TT_readNumber 42 = .ok (.getfield 24, 3) := by decide +kernel
theorem d_TT_readNumber_45 : decode b_TT_readNumber 45 = .ok (.iconst 1, 1) := by decide +kernel
theorem d_TT_readNumber_46 : decode b_TT_readNumber 46 = .ok (.iadd, 1) := by decide +kernel
theorem d_TT_readNumber_47 : decode b_TT_readNumber 47 = .ok (.putfield 24, 3) := by decide +kernel
theorem d_TT_readNumber_50 : decode b_TT_readNumber 50 = .ok (.goto (-44), 3) := by decide +kernel
theorem d_TT_readNumber_53 : decode b_TT_readNumber 53 = .ok (.aload_n 1, 1) := by decide +kernel
theorem d_TT_readNumber_54 : decode b_TT_readNumber 54 = .ok (.iload_n 2, 1) := by decide +kernel
theorem d_TT_readNumber_55 : decode b_TT_readNumber 55 = .ok (.iload 5, 2) := by decide +kernel
theorem d_TT_readNumber_57 : decode b_TT_readNumber 57 = .ok (.iastore, 1) := by decide +kernel
theorem d_TT_readNumber_58 : decode b_TT_readNumber 58 = .ok (.iload 4, 2) := by decide +kernel
theorem d_TT_readNumber_60 : decode b_TT_readNumber 60 = .ok (.ifCond .le 7, 3) := by decide +kernel
theorem d_TT_readNumber_63 : decode b_TT_readNumber 63 = .ok (.iconst 1, 1) := by decide +kernel
theorem d_TT_readNumber_64 : decode b_TT_readNumber 64 = .ok (.goto 4, 3) := by decide +kernel
theorem d_TT_readNumber_67 : decode b_TT_readNumber 67 = .ok (.iconst 0, 1) := by decide +kernel
theorem d_TT_readNumber_68 : decode b_TT_readNumber 68 = .ok (.ireturn, 1) := by decide +kernel
theorem d_TT_passes_0 : decode b_TT_passes 0 = .ok (.aload_n 0, 1) := by decide +kernel
theorem d_TT_passes_1 : decode b_TT_passes 1 = .ok (.invokevirtual 34, 3) := by decide +kernel
theorem d_TT_passes_4 : decode b_TT_passes 4 = .ok (.iload_n 1, 1) := by decide +kernel
theorem d_TT_passes_5 : decode b_TT_passes 5 = .ok (.if_icmp .eq 5, 3) := by decide +kernel
theorem d_TT_passes_8 : decode b_TT_passes 8 = .ok (.iconst 0, 1) := by decide +kernel
theorem d_TT_passes_9 : decode b_TT_passes 9 = .ok (.ireturn, 1) := by decide +kernel
theorem d_TT_passes_10 : decode b_TT_passes 10 = .ok (.aload_n 0, 1) := by decide +kernel
theorem d_TT_passes_11 : decode b_TT_passes 11 = .ok (.dup, 1) := by decide +kernel
theorem d_TT_passes_12 : decode b_TT_passes 12 = .ok (.getfield 24, 3) := by decide +kernel
theorem d_TT_passes_15 : decode b_TT_passes 15 = .ok (.iconst 1, 1) := by decide +kernel
theorem d_TT_passes_16 : decode b_TT_passes 16 = .ok (.iadd, 1) := by decide +kernel
theorem d_TT_passes_17 : decode b_TT_passes 17 = .ok (.putfield 24, 3) := by decide +kernel
theorem d_TT_passes_20 : decode b_TT_passes 20 = .ok (.iconst 1, 1) := by decide +kernel
theorem d_TT_passes_21 : decode b_TT_passes 21 = .ok (.ireturn, 1) := by decide +kernel
theorem d_TT_next_0 : decode b_TT_next 0 = .ok (.aload_n 0, 1) := by decide +kernel
theorem d_TT_next_1 : decode b_TT_next 1 = .ok (.getfield 24, 3) := by decide +kernel
theorem d_TT_next_4 : decode b_TT_next 4 = .ok (.aload_n 0, 1) := by decide +kernel
theorem d_TT_next_5 : decode b_TT_next 5 = .ok (.getfield 20, 3) := by decide +kernel
theorem d_TT_next_8 : decode b_TT_next 8 = .ok (.if_icmp .ge 15, 3) := by decide +kernel
theorem d_TT_next_11 : decode b_TT_next 11 = .ok (.aload_n 0, 1) := by decide +kernel
theorem d_TT_next_12 : decode b_TT_next 12 = .ok (.getfield 11, 3) := by decide +kernel
theorem d_TT_next_15 : decode b_TT_next 15 = .ok (.aload_n 0, 1) := by decide +kernel
theorem d_TT_next_16 : decode b_TT_next 16 = .ok (.getfield 24, 3) := by decide +kernel
theorem d_TT_next_19 : decode b_TT_next 19 = .ok (.caload, 1) := by decide +kernel
theorem d_TT_next_20 : decode b_TT_next 20 = .ok (.goto 4, 3) := by decide +kernel
theorem d_TT_next_23 : decode b_TT_next 23 = .ok (.iconst 0, 1) := by decide +kernel
theorem d_TT_next_24 : decode b_TT_next 24 = .ok (.ireturn, 1) := by decide +kernel
theorem d_TT_isDigit_0 : decode b_TT_isDigit 0 = .ok (.iload_n 0, 1) := by decide +kernel
theorem d_TT_isDigit_1 : decode b_TT_isDigit 1 = .ok (.bipush 48, 2) := by decide +kernel
theorem d_TT_isDigit_3 : decode b_TT_isDigit 3 = .ok (.if_icmp .lt 13, 3) := by decide +kernel
theorem d_TT_isDigit_6 : decode b_TT_isDigit 6 = .ok (.iload_n 0, 1) := by decide +kernel
theorem d_TT_isDigit_7 : decode b_TT_isDigit 7 = .ok (.bipush 57, 2) := by decide +kernel
theorem d_TT_isDigit_9 : decode b_TT_isDigit 9 = .ok (.if_icmp .gt 7, 3) := by decide +kernel
theorem d_TT_isDigit_12 : decode b_TT_isDigit 12 = .ok (.iconst 1, 1) := by decide +kernel
theorem d_TT_isDigit_13 : decode b_TT_isDigit 13 = .ok (.goto 4, 3) := by decide +kernel
theorem d_TT_isDigit_16 : decode b_TT_isDigit 16 = .ok (.iconst 0, 1) := by decide +kernel
theorem d_TT_isDigit_17 : decode b_TT_isDigit 17 = .ok (.ireturn, 1) := by decide +kernel
theorem d_AC_init_0 : decode b_AC_init 0 = .ok (.aload_n 0, 1) := by decide +kernel
theorem d_AC_init_1 : decode b_AC_init 1 = .ok (.invokespecial 1, 3) := by decide +kernel
theorem d_AC_init_4 : decode b_AC_init 4 = .ok (.return_, 1) := by decide +kernel
theorem d_AB_init_0 : decode b_AB_init 0 = .ok (.aload_n 0, 1) := by decide +kernel
theorem d_AB_init_1 : decode b_AB_init 1 = .ok (.invokespecial 1, 3) := by decide +kernel
theorem d_AB_init_4 : decode b_AB_init 4 = .ok (.aload_n 0, 1) := by decide +kernel
theorem d_AB_init_5 : decode b_AB_init 5 = .ok (.iconst 0, 1) := by decide +kernel
theorem d_AB_init_6 : decode b_AB_init 6 = .ok (.putfield 7, 3) := by decide +kernel
theorem d_AB_init_9 : decode b_AB_init 9 = .ok (.return_, 1) := by decide +kernel
theorem d_AL_init_0 : decode b_AL_init 0 = .ok (.aload_n 0, 1) := by decide +kernel
theorem d_AL_init_1 : decode b_AL_init 1 = .ok (.invokespecial 1, 3) := by decide +kernel
theorem d_AL_init_4 : decode b_AL_init 4 = .ok (.aload_n 0, 1) := by decide +kernel
theorem d_AL_init_5 : decode b_AL_init 5 = .ok (.getstatic 39, 3) := by decide +kernel
theorem d_AL_init_8 : decode b_AL_init 8 = .ok (.putfield 9, 3) := by decide +kernel
theorem d_AL_init_11 : decode b_AL_init 11 = .ok (.return_, 1) := by decide +kernel
theorem d_AL_add_0 : decode b_AL_add 0 = .ok (.aload_n 0, 1) := by decide +kernel
theorem d_AL_add_1 : decode b_AL_add 1 = .ok (.dup, 1) := by decide +kernel
theorem d_AL_add_2 : decode b_AL_add 2 = .ok (.getfield 63, 3) := by decide +kernel
theorem d_AL_add_5 : decode b_AL_add 5 = .ok (.iconst 1, 1) := by decide +kernel
theorem d_AL_add_6 : decode b_AL_add 6 = .ok (.iadd, 1) := by decide +kernel
theorem d_AL_add_7 : decode b_AL_add 7 = .ok (.putfield 63, 3) := by decide +kernel
theorem d_AL_add_10 : decode b_AL_add 10 = .ok (.aload_n 0, 1) := by decide +kernel
theorem d_AL_add_11 : decode b_AL_add 11 = .ok (.aload_n 1, 1) := by decide +kernel
theorem d_AL_add_12 : decode b_AL_add 12 = .ok (.aload_n 0, 1) := by decide +kernel
theorem d_AL_add_13 : decode b_AL_add 13 = .ok (.getfield 9, 3) := by decide +kernel
theorem d_AL_add_16 : decode b_AL_add 16 = .ok (.aload_n 0, 1) := by decide +kernel
theorem d_AL_add_17 : decode b_AL_add 17 = .ok (.getfield 48, 3) := by decide +kernel
theorem d_AL_add_20 : decode b_AL_add 20 = .ok (.invokevirtual 131, 3) := by decide +kernel
theorem d_AL_add_23 : decode b_AL_add 23 = .ok (.iconst 1, 1) := by decide +kernel
theorem d_AL_add_24 : decode b_AL_add 24 = .ok (.ireturn, 1) := by decide +kernel
theorem d_AL_add2_0 : decode b_AL_add2 0 = .ok (.iload_n 3, 1) := by decide +kernel
theorem d_AL_add2_1 : decode b_AL_add2 1 = .ok (.aload_n 2, 1) := by decide +kernel
theorem d_AL_add2_2 : decode b_AL_add2 2 = .ok (.arraylength, 1) := by decide +kernel
theorem d_AL_add2_3 : decode b_AL_add2 3 = .ok (.if_icmp .ne 8, 3) := by decide +kernel
theorem d_AL_add2_6 : decode b_AL_add2 6 = .ok (.aload_n 0, 1) := by decide +kernel
theorem d_AL_add2_7 : decode b_AL_add2 7 = .ok (.invokevirtual 129, 3) := by decide +kernel
theorem d_AL_add2_10 : decode b_AL_add2 10 = .ok (.astore_n 2, 1) := by decide +kernel
theorem d_AL_add2_11 : decode b_AL_add2 11 = .ok (.aload_n 2, 1) := by decide +kernel
theorem d_AL_add2_12 : decode b_AL_add2 12 = .ok (.iload_n 3, 1) := by decide +kernel
theorem d_AL_add2_13 : decode b_AL_add2 13 = .ok (.aload_n 1, 1) := by decide +kernel
theorem d_AL_add2_14 : decode b_AL_add2 14 = .ok (.aastore, 1) := by decide +kernel
theorem d_AL_add2_15 : decode b_AL_add2 15 = .ok (.aload_n 0, 1) := by decide +kernel
theorem d_AL_add2_16 : decode b_AL_add2 16 = .ok (.iload_n 3, 1) := by decide +kernel
theorem d_AL_add2_17 : decode b_AL_add2 17 = .ok (.iconst 1, 1) := by decide +kernel
theorem d_AL_add2_18 : decode b_AL_add2 18 = .ok (.iadd, 1) := by decide +kernel
theorem d_AL_add2_19 : decode b_AL_add2 19 = .ok (.putfield 48, 3) := by decide +kernel
theorem d_AL_add2_22 : decode b_AL_add2 22 = .ok (.return_, 1) := by decide +kernel
theorem d_AL_elementData_0 : decode b_AL_elementData 0 = .ok (.aload_n 0, 1) := by decide +kernel
theorem d_AL_elementData_1 : decode b_AL_elementData 1 = .ok (.getfield 9, 3) := by decide +kernel
theorem d_AL_elementData_4 : decode b_AL_elementData 4 = .ok (.iload_n 1, 1) := by decide +kernel
theorem d_AL_elementData_5 : decode b_AL_elementData 5 = .ok (.aaload, 1) := by decide +kernel
theorem d_AL_elementData_6 : decode b_AL_elementData 6 = .ok (.areturn, 1) := by decide +kernel
theorem d_AL_get_0 : decode b_AL_get 0 = .ok (.iload_n 1, 1) := by decide +kernel
theorem d_AL_get_1 : decode b_AL_get 1 = .ok (.aload_n 0, 1) := by decide +kernel
theorem d_AL_get_2 : decode b_AL_get 2 = .ok (.getfield 48, 3) := by decide +kernel
theorem d_AL_get_5 : decode b_AL_get 5 = .ok (.invokestatic 118, 3) := by decide +kernel
theorem d_AL_get_8 : decode b_AL_get 8 = .ok (.pop, 1) := by decide +kernel
theorem d_AL_get_9 : decode b_AL_get 9 = .ok (.aload_n 0, 1) := by decide +kernel
theorem d_AL_get_10 : decode b_AL_get 10 = .ok (.iload_n 1, 1) := by decide +kernel
theorem d_AL_get_11 : decode b_AL_get 11 = .ok (.invokevirtual 123, 3) := by decide +kernel
theorem d_AL_get_14 : decode b_AL_get 14 = .ok (.areturn, 1) := by decide +kernel
theorem d_AL_grow_0 : decode b_AL_grow 0 = .ok (.aload_n 0, 1) := by decide +kernel
theorem d_AL_grow_1 : decode b_AL_grow 1 = .ok (.aload_n 0, 1) := by decide +kernel
theorem d_AL_grow_2 : decode b_AL_grow 2 = .ok (.getfield 48, 3) := by decide +kernel
theorem d_AL_grow_5 : decode b_AL_grow 5 = .ok (.iconst 1, 1) := by decide +kernel
theorem d_AL_grow_6 : decode b_AL_grow 6 = .ok (.iadd, 1) := by decide +kernel
theorem d_AL_grow_7 : decode b_AL_grow 7 = .ok (.invokevirtual 69, 3) := by decide +kernel
theorem d_AL_grow_10 : decode b_AL_grow 10 = .ok (.areturn, 1) := by decide +kernel
theorem d_AL_grow2_0 : decode b_AL_grow2 0 = .ok (.aload_n 0, 1) := by decide +kernel
theorem d_AL_grow2_1 : decode b_AL_grow2 1 = .ok (.getfield 9, 3) := by decide +kernel
theorem d_AL_grow2_4 : decode b_AL_grow2 4 = .ok (.arraylength, 1) := by decide +kernel
theorem d_AL_grow2_5 : decode b_AL_grow2 5 = .ok (.istore_n 2, 1) := by decide +kernel
theorem d_AL_grow2_6 : decode b_AL_grow2 6 = .ok (.iload_n 2, 1) := by decide +kernel
theorem d_AL_grow2_7 : decode b_AL_grow2 7 = .ok (.ifCond .gt 13, 3) := by decide +kernel
theorem d_AL_grow2_10 : decode b_AL_grow2 10 = .ok (.aload_n 0, 1) := by decide +kernel
theorem d_AL_grow2_11 : decode b_AL_grow2 11 = .ok (.getfield 9, 3) := by decide +kernel
theorem d_AL_grow2_14 : decode b_AL_grow2 14 = .ok (.getstatic 39, 3) := by decide +kernel
theorem d_AL_grow2_17 : decode b_AL_grow2 17 = .ok (.if_acmp .eq 28, 3) := by decide +kernel
theorem d_AL_grow2_20 : decode b_AL_grow2 20 = .ok (.iload_n 2, 1) := by decide +kernel
theorem d_AL_grow2_21 : decode b_AL_grow2 21 = .ok (.iload_n 1, 1) := by decide +kernel
theorem d_AL_grow2_22 : decode b_AL_grow2 22 = .ok (.iload_n 2, 1) := by decide +kernel
theorem d_AL_grow2_23 : decode b_AL_grow2 23 = .ok (.isub, 1) := by decide +kernel
theorem d_AL_grow2_24 : decode b_AL_grow2 24 = .ok (.iload_n 2, 1) := by decide +kernel
theorem d_AL_grow2_25 : decode b_AL_grow2 25 = .ok (.iconst 1, 1) := by decide +kernel
theorem d_AL_grow2_26 : decode b_AL_grow2 26 = .ok (.ishr, 1) := by decide +kernel
theorem d_AL_grow2_27 : decode b_AL_grow2 27 = .ok (.invokestatic 73, 3) := by decide +kernel
theorem d_AL_grow2_30 : decode b_AL_grow2 30 = .ok (.istore_n 3, 1) := by decide +kernel
theorem d_AL_grow2_31 : decode b_AL_grow2 31 = .ok (.aload_n 0, 1) := by decide +kernel
theorem d_AL_grow2_32 : decode b_AL_grow2 32 = .ok (.aload_n 0, 1) := by decide +kernel
theorem d_AL_grow2_33 : decode b_AL_grow2 33 = .ok (.getfield 9, 3) := by decide +kernel
theorem d_AL_grow2_36 : decode b_AL_grow2 36 = .ok (.iload_n 3, 1) := by decide +kernel
theorem d_AL_grow2_37 : decode b_AL_grow2 37 = .ok (.invokestatic 66, 3) := by decide +kernel
theorem d_AL_grow2_40 : decode b_AL_grow2 40 = .ok (.dup_x1, 1) := by decide +kernel
theorem d_AL_grow2_41 : decode b_AL_grow2 41 = .ok (.putfield 9, 3) := by decide +kernel
theorem d_AL_grow2_44 : decode b_AL_grow2 44 = .ok (.areturn, 1) := by decide +kernel
theorem d_AL_grow2_45 : decode b_AL_grow2 45 = .ok (.aload_n 0, 1) := by decide +kernel
theorem d_AL_grow2_46 : decode b_AL_grow2 46 = .ok (.bipush 10, 2) := by decide +kernel
theorem d_AL_grow2_48 : decode b_AL_grow2 48 = .ok (.iload_n 1, 1) := by decide +kernel
theorem d_AL_grow2_49 : decode b_AL_grow2 49 = .ok (.invokestatic 79, 3) := by decide +kernel
theorem d_AL_grow2_52 : decode b_AL_grow2 52 = .ok (.anewarray 7, 3) := by decide +kernel
theorem d_AL_grow2_55 : decode b_AL_grow2 55 = .ok (.dup_x1, 1) := by decide +kernel
theorem d_AL_grow2_56 : decode b_AL_grow2 56 = .ok (.putfield 9, 3) := by decide +kernel
theorem d_AL_grow2_59 : decode b_AL_grow2 59 = .ok (.areturn, 1) := by decide +kernel
theorem d_AL_size_0 : decode b_AL_size 0 = .ok (.aload_n 0, 1) := by decide +kernel
theorem d_AL_size_1 : decode b_AL_size 1 = .ok (.getfield 48, 3) := by decide +kernel
theorem d_AL_size_4 : decode b_AL_size 4 = .ok (.ireturn, 1) := by decide +kernel
theorem d_AR_copyOf_0 : decode b_AR_copyOf 0 = .ok (.aload_n 0, 1) := by decide +kernel
theorem d_AR_copyOf_1 : decode b_AR_copyOf 1 = .ok (.iload_n 1, 1) := by decide +kernel
theorem d_AR_copyOf_2 : decode b_AR_copyOf 2 = .ok (.aload_n 0, 1) := by decide +kernel
theorem d_AR_copyOf_3 : decode b_AR_copyOf 3 = .ok (.invokevirtual 86, 3) := by decide +kernel
theorem d_AR_copyOf_6 : decode b_AR_copyOf 6 = .ok (.invokestatic 300, 3) := by decide +kernel
theorem d_AR_copyOf_9 : decode b_AR_copyOf 9 = .ok (.areturn, 1) := by decide +kernel
theorem d_AR_copyOf2_0 : decode b_AR_copyOf2 0 = .ok (.aload_n 2, 1) := by decide +kernel
theorem d_AR_copyOf2_1 : decode b_AR_copyOf2 1 = .ok (.ldc 110, 2) := by decide +kernel
theorem d_AR_copyOf2_3 : decode b_AR_copyOf2 3 = .ok (.if_acmp .ne 10, 3) := by decide +kernel
theorem d_AR_copyOf2_6 : decode b_AR_copyOf2 6 = .ok (.iload_n 1, 1) := by decide +kernel
theorem d_AR_copyOf2_7 : decode b_AR_copyOf2 7 = .ok (.anewarray 2, 3) := by decide +kernel
theorem d_AR_copyOf2_10 : decode b_AR_copyOf2 10 = .ok (.goto 14, 3) := by decide +kernel
theorem d_AR_copyOf2_13 : decode b_AR_copyOf2 13 = .ok (.aload_n 2, 1) := by decide +kernel
theorem d_AR_copyOf2_14 : decode b_AR_copyOf2 14 = .ok (.invokevirtual 90, 3) := by decide +kernel
theorem d_AR_copyOf2_17 : decode b_AR_copyOf2 17 = .ok (.iload_n 1, 1) := by decide +kernel
theorem d_AR_copyOf2_18 : decode b_AR_copyOf2 18 = .ok (.invokestatic 95, 3) := by decide +kernel
theorem d_AR_copyOf2_21 : decode b_AR_copyOf2 21 = .ok (.checkcast 110, 3) := by decide +kernel
theorem d_AR_copyOf2_24 : decode b_AR_copyOf2 24 = .ok (.astore_n 3, 1) := by decide +kernel
theorem d_AR_copyOf2_25 : decode b_AR_copyOf2 25 = .ok (.aload_n 0, 1) := by decide +kernel
theorem d_AR_copyOf2_26 : decode b_AR_copyOf2 26 = .ok (.iconst 0, 1) := by decide +kernel
theorem d_AR_copyOf2_27 : decode b_AR_copyOf2 27 = .ok (.aload_n 3, 1) := by decide +kernel
theorem d_AR_copyOf2_28 : decode b_AR_copyOf2 28 = .ok (.iconst 0, 1) := by decide +kernel
theorem d_AR_copyOf2_29 : decode b_AR_copyOf2 29 = .ok (.aload_n 0, 1) := by decide +kernel
theorem d_AR_copyOf2_30 : decode b_AR_copyOf2 30 = .ok (.arraylength, 1) := by decide +kernel
theorem d_AR_copyOf2_31 : decode b_AR_copyOf2 31 = .ok (.iload_n 1, 1) := by decide +kernel
theorem d_AR_copyOf2_32 : decode b_AR_copyOf2 32 = .ok (.invokestatic 304, 3) := by decide +kernel
theorem d_AR_copyOf2_35 : decode b_AR_copyOf2 35 = .ok (.invokestatic 150, 3) := by decide +kernel
theorem d_AR_copyOf2_38 : decode b_AR_copyOf2 38 = .ok (.aload_n 3, 1) := by decide +kernel
theorem d_AR_copyOf2_39 : decode b_AR_copyOf2 39 = .ok (.areturn, 1) := by decide +kernel
theorem d_AR_fill_0 : decode b_AR_fill 0 = .ok (.iconst 0, 1) := by decide +kernel
theorem d_AR_fill_1 : decode b_AR_fill 1 = .ok (.istore_n 2, 1) := by decide +kernel
theorem d_AR_fill_2 : decode b_AR_fill 2 = .ok (.aload_n 0, 1) := by decide +kernel
theorem d_AR_fill_3 : decode b_AR_fill 3 = .ok (.arraylength, 1) := by decide +kernel
theorem d_AR_fill_4 : decode b_AR_fill 4 = .ok (.istore_n 3, 1) := by decide +kernel
theorem d_AR_fill_5 : decode b_AR_fill 5 = .ok (.iload_n 2, 1) := by decide +kernel
theorem d_AR_fill_6 : decode b_AR_fill 6 = .ok (.iload_n 3, 1) := by decide +kernel
theorem d_AR_fill_7 : decode b_AR_fill 7 = .ok (.if_icmp .ge 13, 3) := by decide +kernel
theorem d_AR_fill_10 : decode b_AR_fill 10 = .ok (.aload_n 0, 1) := by decide +kernel
theorem d_AR_fill_11 : decode b_AR_fill 11 = .ok (.iload_n 2, 1) := by decide +kernel
theorem d_AR_fill_12 : decode b_AR_fill 12 = .ok (.iload_n 1, 1) := by decide +kernel
theorem d_AR_fill_13 : decode b_AR_fill 13 = .ok (.iastore, 1) := by decide +kernel
theorem d_AR_fill_14 : decode b_AR_fill 14 = .ok (.iinc 2 1, 3) := by decide +kernel
theorem d_AR_fill_17 : decode b_AR_fill 17 = .ok (.goto (-12), 3) := by decide +kernel
theorem d_AR_fill_20 : decode b_AR_fill 20 = .ok (.return_, 1) := by decide +kernel
theorem d_OB_checkIndex_0 : decode b_OB_checkIndex 0 = .ok (.iload_n 0, 1) := by decide +kernel
theorem d_OB_checkIndex_1 : decode b_OB_checkIndex 1 = .ok (.iload_n 1, 1) := by decide +kernel
theorem d_OB_checkIndex_2 : decode b_OB_checkIndex 2 = .ok (.aconst_null, 1) := by decide +kernel
theorem d_OB_checkIndex_3 : decode b_OB_checkIndex 3 = .ok (.invokestatic 105, 3) := by decide +kernel
theorem d_OB_checkIndex_6 : decode b_OB_checkIndex 6 = .ok (.ireturn, 1) := by decide +kernel
theorem d_AS_hugeLength_0 : decode b_AS_hugeLength 0 = .ok (.iload_n 0, 1) := by decide +kernel
theorem d_AS_hugeLength_1 : decode b_AS_hugeLength 1 = .ok (.iload_n 1, 1) := by decide +kernel
theorem d_AS_hugeLength_2 : decode b_AS_hugeLength 2 = .ok (.iadd, 1) := by decide +kernel
theorem d_AS_hugeLength_3 : decode b_AS_hugeLength 3 = .ok (.istore_n 2, 1) := by decide +kernel
theorem d_AS_hugeLength_4 : decode b_AS_hugeLength 4 = .ok (.iload_n 2, 1) := by decide +kernel
theorem d_AS_hugeLength_5 : decode b_AS_hugeLength 5 = .ok (.ifCond .ge 44, 3) := by decide +kernel
theorem d_AS_hugeLength_8 : decode b_AS_hugeLength 8 = .ok (.new 204, 3) := by decide +kernel
theorem d_AS_hugeLength_11 : decode b_AS_hugeLength 11 = .ok (.dup, 1) := by decide +kernel
theorem d_AS_hugeLength_12 : decode b_AS_hugeLength 12 = .ok (.new 89, 3) := by decide +kernel
theorem d_AS_hugeLength_15 : decode b_AS_hugeLength 15 = .ok (.dup, 1) := by decide +kernel
theorem d_AS_hugeLength_16 : decode b_AS_hugeLength 16 = .ok (.invokespecial 91, 3) := by decide +kernel
theorem d_AS_hugeLength_19 : decode b_AS_hugeLength 19 = .ok (.ldc 206, 2) := by decide +kernel
theorem d_AS_hugeLength_21 : decode b_AS_hugeLength 21 = .ok (.invokevirtual 94, 3) := by decide +kernel
theorem d_AS_hugeLength_24 : decode b_AS_hugeLength 24 = .ok (.iload_n 0, 1) := by decide +kernel
theorem d_AS_hugeLength_25 : decode b_AS_hugeLength 25 = .ok (.invokevirtual 98, 3) := by decide +kernel
theorem d_AS_hugeLength_28 : decode b_AS_hugeLength 28 = .ok (.ldc 208, 2) := by decide +kernel
theorem d_AS_hugeLength_30 : decode b_AS_hugeLength 30 = .ok (.invokevirtual 94, 3) := by decide +kernel
theorem d_AS_hugeLength_33 : decode b_AS_hugeLength 33 = .ok (.iload_n 1, 1) := by decide +kernel
theorem d_AS_hugeLength_34 : decode b_AS_hugeLength 34 = .ok (.invokevirtual 98, 3) := by decide +kernel
theorem d_AS_hugeLength_37 : decode b_AS_hugeLength 37 = .ok (.ldc 210, 2) := by decide +kernel
theorem d_AS_hugeLength_39 : decode b_AS_hugeLength 39 = .ok (.invokevirtual 94, 3) := by decide +kernel
theorem d_AS_hugeLength_42 : decode b_AS_hugeLength 42 = .ok (.invokevirtual 101, 3) := by decide +kernel
theorem d_AS_hugeLength_45 : decode b_AS_hugeLength 45 = .ok (.invokespecial 212, 3) := by decide +kernel
theorem d_AS_hugeLength_48 : decode b_AS_hugeLength 48 = .ok (.athrow, 1) := by decide +kernel
theorem d_AS_hugeLength_49 : decode b_AS_hugeLength 49 = .ok (.iload_n 2, 1) := by decide +kernel
theorem d_AS_hugeLength_50 : decode b_AS_hugeLength 50 = .ok (.ldc 200, 2) := by decide +kernel
theorem d_AS_hugeLength_52 : decode b_AS_hugeLength 52 = .ok (.if_icmp .gt 6, 3) := by decide +kernel
theorem d_AS_hugeLength_55 : decode b_AS_hugeLength 55 = .ok (.ldc 200, 2) := by decide +kernel
theorem d_AS_hugeLength_57 : decode b_AS_hugeLength 57 = .ok (.ireturn, 1) := by decide +kernel
theorem d_AS_hugeLength_58 : decode b_AS_hugeLength 58 = .ok (.iload_n 2, 1) := by decide +kernel
theorem d_AS_hugeLength_59 : decode b_AS_hugeLength 59 = .ok (.ireturn, 1) := by decide +kernel
theorem d_AS_newLength_0 : decode b_AS_newLength 0 = .ok (.iload_n 0, 1) := by decide +kernel
theorem d_AS_newLength_1 : decode b_AS_newLength 1 = .ok (.iload_n 1, 1) := by decide +kernel
theorem d_AS_newLength_2 : decode b_AS_newLength 2 = .ok (.iload_n 2, 1) := by decide +kernel
theorem d_AS_newLength_3 : decode b_AS_newLength 3 = .ok (.invokestatic 194, 3) := by decide +kernel
theorem d_AS_newLength_6 : decode b_AS_newLength 6 = .ok (.iadd, 1) := by decide +kernel
theorem d_AS_newLength_7 : decode b_AS_newLength 7 = .ok (.istore_n 3, 1) := by decide +kernel
theorem d_AS_newLength_8 : decode b_AS_newLength 8 = .ok (.iconst 0, 1) := by decide +kernel
theorem d_AS_newLength_9 : decode b_AS_newLength 9 = .ok (.iload_n 3, 1) := by decide +kernel
theorem d_AS_newLength_10 : decode b_AS_newLength 10 = .ok (.if_icmp .ge 11, 3) := by decide +kernel
theorem d_AS_newLength_13 : decode b_AS_newLength 13 = .ok (.iload_n 3, 1) := by decide +kernel
theorem d_AS_newLength_14 : decode b_AS_newLength 14 = .ok (.ldc 200, 2) := by decide +kernel
theorem d_AS_newLength_16 : decode b_AS_newLength 16 = .ok (.if_icmp .gt 5, 3) := by decide +kernel
theorem d_AS_newLength_19 : decode b_AS_newLength 19 = .ok (.iload_n 3, 1) := by decide +kernel
theorem d_AS_newLength_20 : decode b_AS_newLength 20 = .ok (.ireturn, 1) := by decide +kernel
theorem d_AS_newLength_21 : decode b_AS_newLength 21 = .ok (.iload_n 0, 1) := by decide +kernel
theorem d_AS_newLength_22 : decode b_AS_newLength 22 = .ok (.iload_n 1, 1) := by decide +kernel
theorem d_AS_newLength_23 : decode b_AS_newLength 23 = .ok (.invokestatic 201, 3) := by decide +kernel
theorem d_AS_newLength_26 : decode b_AS_newLength 26 = .ok (.ireturn, 1) := by decide +kernel
theorem d_PC_checkIndex_0 : decode b_PC_checkIndex 0 = .ok (.iload_n 0, 1) := by decide +kernel
theorem d_PC_checkIndex_1 : decode b_PC_checkIndex 1 = .ok (.ifCond .lt 8, 3) := by decide +kernel
theorem d_PC_checkIndex_4 : decode b_PC_checkIndex 4 = .ok (.iload_n 0, 1) := by decide +kernel
theorem d_PC_checkIndex_5 : decode b_PC_checkIndex 5 = .ok (.iload_n 1, 1) := by decide +kernel
theorem d_PC_checkIndex_6 : decode b_PC_checkIndex 6 = .ok (.if_icmp .lt 10, 3) := by decide +kernel
theorem d_PC_checkIndex_9 : decode b_PC_checkIndex 9 = .ok (.aload_n 2, 1) := by decide +kernel
theorem d_PC_checkIndex_10 : decode b_PC_checkIndex 10 = .ok (.iload_n 0, 1) := by decide +kernel
theorem d_PC_checkIndex_11 : decode b_PC_checkIndex 11 = .ok (.iload_n 1, 1) := by decide +kernel
theorem d_PC_checkIndex_12 : decode b_PC_checkIndex 12 = .ok (.invokestatic 95, 3) := by decide +kernel
theorem d_PC_checkIndex_15 : decode b_PC_checkIndex 15 = .ok (.athrow, 1) := by decide +kernel
theorem d_PC_checkIndex_16 : decode b_PC_checkIndex 16 = .ok (.iload_n 0, 1) := by decide +kernel
theorem d_PC_checkIndex_17 : decode b_PC_checkIndex 17 = .ok (.ireturn, 1) := by decide +kernel
end
section
/-! STATE of a PortBills: its cells in a world, by place. z: 0 length, 1 at, 2 kinds (of the text), 3 kindsWithTariff, 4 waitingInAll, 5 modCount of the list; G: the grids 0 rows, 1 tariffs, 2 waitingUnits, 3 discounts, 4 kept, 5 keptOf -/
def cb_gp (g : Nat) : Nat := if g = 0 then 3 else if g = 1 then 10 else if g = 2 then 17 else if g = 3 then 29 else if g = 4 then 40 else 51
def cb_nr (g : Nat) : Nat := if g < 2 then 6 else 10
def cb_wd (g : Nat) : Nat := if g < 2 then 4 else 6
theorem cb_gp_lt : ∀ g, g < 6 → ∀ i, i < cb_nr g → 3 < cb_gp g + 1 + i ∧ cb_gp g + 1 + i < 62 ∧ cb_gp g + 1 + i ≠ 28 ∧ (∀ h, h < 6 → cb_gp g + 1 + i ≠ cb_gp h) := by
  decide
theorem cb_gp_o : ∀ g, g < 6 → 3 ≤ cb_gp g ∧ cb_gp g < 52 ∧ cb_gp g ≠ 28 := by decide
def cb_inv (k : Nat) : Nat × Nat := if k < 10 then (0, k - 4) else if k < 17 then (1, k - 11) else if k < 28 then (2, k - 18) else if k < 40 then (3, k - 30) else if k < 51 then (4, k - 41) else (5, k - 52)
theorem cb_inv_at : ∀ g, g < 6 → ∀ i, i < cb_nr g → cb_inv (cb_gp g + 1 + i) = (g, i) := by decide
theorem cb_gp_inj : ∀ g, g < 6 → ∀ h, h < 6 → ∀ i, i < cb_nr g → ∀ j, j < cb_nr h → cb_gp g + 1 + i = cb_gp h + 1 + j → g = h ∧ i = j := fun g hg h hh i hi j hj e => by
  have h1 := cb_inv_at g hg i hi
  rw [e, cb_inv_at h hh j hj] at h1
  exact ⟨(Prod.mk.inj h1).1.symm, (Prod.mk.inj h1).2.symm⟩
/-- an outer array's references -/
def cb_rf (n : Nat) (r : Nat → Nat) : Nat → Option Nat := fun i => if i < n then some (r i) else none
/-- a line's fields: ints 0 call, 1 kind, 2 units, 3 charged, 4 corrects, 5 byFallback, 6 disputed; longs 0 cents, 1 corrected -/
def cb_ln (li : Nat → Int32) (ll : Nat → Int64) : List Value := [.int (li 0), .int (li 1), .int (li 2), .int (li 3), .long (ll 0), .int (li 4), .int (li 5), .int (li 6), .long (ll 1)]
def cb_up2 {α : Type} (f : Nat → Nat → α) (i j : Nat) (v : α) : Nat → Nat → α := fun a b => if a = i ∧ b = j then v else f a b
def cb_upr {α : Type} (f : Nat → α) (i : Nat) (v : α) : Nat → α := fun a => if a = i then v else f a
/-- a grid's row is another one -/
def cb_upg (G : Nat → Nat → Nat → Int32) (g i : Nat) (f : Nat → Int32) : Nat → Nat → Nat → Int32 := fun a b => if a = g ∧ b = i then f else G a b
theorem cb_upg_s {G : Nat → Nat → Nat → Int32} {g i : Nat} {f : Nat → Int32} : cb_upg G g i f g i = f := by simp [cb_upg]
theorem cb_upg_n {G : Nat → Nat → Nat → Int32} {g i a b : Nat} {f : Nat → Int32} (h : ¬ (a = g ∧ b = i)) : cb_upg G g i f a b = G a b := by simp [cb_upg, h]
section CB
variable (cI cC cJ cII cO : ClassId)
/-- the cells with a fixed place -/
def cb_I (ws : va_W) (κ : Nat → Nat) (ra : Nat → Nat → Nat) (z sg : Nat → Int32) (G : Nat → Nat → Nat → Int32) (we : Nat → Int32) (pd : Nat → Int64) : Prop :=
  ws[0]? = some (κ 0, .inr (iPB, [.ref (κ 1), .ref (κ 10), .int (z 3), .ref (κ 17), .ref (κ 28), .int (z 4), .ref (κ 29), .ref (κ 40), .ref (κ 51), .ref (κ 62), .ref (κ 63)])) ∧
  ws[1]? = some (κ 1, .inr (iTT, [.ref (κ 2), .int (z 0), .int (z 1), .ref (κ 3), .int (z 2)])) ∧
  ws[2]? = some (κ 2, .inl (cC, 120, .inl sg)) ∧
  ws[28]? = some (κ 28, .inl (cI, 10, .inl we)) ∧
  ws[63]? = some (κ 63, .inl (cJ, 10, .inr (.inl pd))) ∧
  (∀ g, g < 6 → ws[cb_gp g]? = some (κ (cb_gp g), .inl (cII, cb_nr g, .inr (.inr (.inr (.inr (cb_rf (cb_nr g) (ra g)))))))) ∧
  (∀ g, g < 6 → ∀ i, i < cb_nr g → ws[cb_gp g + 1 + i]? = some (ra g i, .inl (cI, cb_wd g, .inl (G g i))))
/-- the list and its lines -/
def cb_L (ws : va_W) (a4 : Nat) (md : Int32) (e0 nl : Nat) (la lp : Nat → Nat) (li : Nat → Nat → Int32) (ll : Nat → Nat → Int64) : Prop :=
  ∃ (ea : Nat), ws[62]? = some (a4, .inr (iAL, [.int md, .ref ea, .int (nI nl)])) ∧
  (∀ j, j < nl → 64 ≤ lp j ∧ ws[lp j]? = some (la j, .inr (iLN, cb_ln (li j) (ll j)))) ∧
  (∀ i j, i < nl → j < nl → lp i = lp j → i = j) ∧
  ((nl = 0 ∧ ea = e0) ∨ ∃ (ep cap : Nat) (ef : Nat → Option Nat), 64 ≤ ep ∧ nl ≤ cap ∧ 10 ≤ cap ∧ cap ≤ 400 ∧ ws[ep]? = some (ea, .inl (cO, cap, .inr (.inr (.inr (.inr ef))))) ∧ (∀ j, j < nl → ef j = some (la j)) ∧ ∀ j, j < cap → ∀ y, ef j = some y → ∃ i, i < nl ∧ y = la i)
end CB
theorem gx_sn {ws : va_W} {i j : Nat} {c c' : Nat × va_E} (h : i ≠ j) (hj : ws[j]? = some c') : (ws.set i c)[j]? = some c' := by rw [List.getElem?_set_ne h]; exact hj
theorem gx_ss {ws : va_W} {i : Nat} {c c' : Nat × va_E} (h : ws[i]? = some c') : (ws.set i c)[i]? = some c := List.getElem?_set_self (List.getElem?_eq_some_iff.mp h).1
theorem gx_ap {ws w2 : va_W} {j : Nat} {c' : Nat × va_E} (h : ws[j]? = some c') : (ws ++ w2)[j]? = some c' := by
  rw [List.getElem?_append_left (List.getElem?_eq_some_iff.mp h).1]; exact h
section CBu
variable {cI cC cJ cII cO : ClassId} {ws w2 : va_W} {κ : Nat → Nat} {ra : Nat → Nat → Nat} {z sg : Nat → Int32} {G : Nat → Nat → Nat → Int32} {we : Nat → Int32} {pd : Nat → Int64}
variable {a4 e0 nl : Nat} {md : Int32} {la lp : Nat → Nat} {li : Nat → Nat → Int32} {ll : Nat → Nat → Int64}
theorem cb_I.app (h : cb_I cI cC cJ cII ws κ ra z sg G we pd) : cb_I cI cC cJ cII (ws ++ w2) κ ra z sg G we pd := by
  obtain ⟨h0, h1, h2, h3, h4, h5, h6⟩ := h
  exact ⟨gx_ap h0, gx_ap h1, gx_ap h2, gx_ap h3, gx_ap h4, fun g hg => gx_ap (h5 g hg), fun g hg i hi => gx_ap (h6 g hg i hi)⟩
theorem cb_I.hi {q : Nat} {c : Nat × va_E} (hq : 62 ≤ q) (hq2 : q ≠ 63) (h : cb_I cI cC cJ cII ws κ ra z sg G we pd) : cb_I cI cC cJ cII (ws.set q c) κ ra z sg G we pd := by
  obtain ⟨h0, h1, h2, h3, h4, h5, h6⟩ := h
  exact ⟨gx_sn (by omega) h0, gx_sn (by omega) h1, gx_sn (by omega) h2, gx_sn (by omega) h3, gx_sn hq2 h4, fun g hg => gx_sn (by have := cb_gp_o g hg; omega) (h5 g hg), fun g hg i hi => gx_sn (by have := cb_gp_lt g hg i hi; omega) (h6 g hg i hi)⟩
theorem cb_I.text {z' : Nat → Int32} (h3' : z' 3 = z 3) (h4' : z' 4 = z 4) (h : cb_I cI cC cJ cII ws κ ra z sg G we pd) : cb_I cI cC cJ cII (ws.set 1 (κ 1, .inr (iTT, [.ref (κ 2), .int (z' 0), .int (z' 1), .ref (κ 3), .int (z' 2)]))) κ ra z' sg G we pd := by
  obtain ⟨h0, h1, h2, h3, h4, h5, h6⟩ := h
  refine ⟨gx_sn (by decide) (by rw [h3', h4']; exact h0), gx_ss h1, gx_sn (by decide) h2, gx_sn (by decide) h3, gx_sn (by decide) h4, fun g hg => gx_sn (by have := cb_gp_o g hg; omega) (h5 g hg), fun g hg i hi => gx_sn (by have := cb_gp_lt g hg i hi; omega) (h6 g hg i hi)⟩
theorem cb_I.obj {z' : Nat → Int32} (h0' : z' 0 = z 0) (h1' : z' 1 = z 1) (h2' : z' 2 = z 2) (h : cb_I cI cC cJ cII ws κ ra z sg G we pd) : cb_I cI cC cJ cII (ws.set 0 (κ 0, .inr (iPB, [.ref (κ 1), .ref (κ 10), .int (z' 3), .ref (κ 17), .ref (κ 28), .int (z' 4), .ref (κ 29), .ref (κ 40), .ref (κ 51), .ref (κ 62), .ref (κ 63)]))) κ ra z' sg G we pd := by
  obtain ⟨h0, h1, h2, h3, h4, h5, h6⟩ := h
  refine ⟨gx_ss h0, gx_sn (by decide) (by rw [h0', h1', h2']; exact h1), gx_sn (by decide) h2, gx_sn (by decide) h3, gx_sn (by decide) h4, fun g hg => gx_sn (by have := cb_gp_o g hg; omega) (h5 g hg), fun g hg i hi => gx_sn (by have := cb_gp_lt g hg i hi; omega) (h6 g hg i hi)⟩
theorem cb_I.signs {sg' : Nat → Int32} (h : cb_I cI cC cJ cII ws κ ra z sg G we pd) : cb_I cI cC cJ cII (ws.set 2 (κ 2, .inl (cC, 120, .inl sg'))) κ ra z sg' G we pd := by
  obtain ⟨h0, h1, h2, h3, h4, h5, h6⟩ := h
  exact ⟨gx_sn (by decide) h0, gx_sn (by decide) h1, gx_ss h2, gx_sn (by decide) h3, gx_sn (by decide) h4, fun g hg => gx_sn (by have := cb_gp_o g hg; omega) (h5 g hg), fun g hg i hi => gx_sn (by have := cb_gp_lt g hg i hi; omega) (h6 g hg i hi)⟩
theorem cb_I.wev {we' : Nat → Int32} (h : cb_I cI cC cJ cII ws κ ra z sg G we pd) : cb_I cI cC cJ cII (ws.set 28 (κ 28, .inl (cI, 10, .inl we'))) κ ra z sg G we' pd := by
  obtain ⟨h0, h1, h2, h3, h4, h5, h6⟩ := h
  exact ⟨gx_sn (by decide) h0, gx_sn (by decide) h1, gx_sn (by decide) h2, gx_ss h3, gx_sn (by decide) h4, fun g hg => gx_sn (by have := cb_gp_o g hg; omega) (h5 g hg), fun g hg i hi => gx_sn (by have := cb_gp_lt g hg i hi; omega) (h6 g hg i hi)⟩
theorem cb_I.paid {pd' : Nat → Int64} (h : cb_I cI cC cJ cII ws κ ra z sg G we pd) : cb_I cI cC cJ cII (ws.set 63 (κ 63, .inl (cJ, 10, .inr (.inl pd')))) κ ra z sg G we pd' := by
  obtain ⟨h0, h1, h2, h3, h4, h5, h6⟩ := h
  exact ⟨gx_sn (by decide) h0, gx_sn (by decide) h1, gx_sn (by decide) h2, gx_sn (by decide) h3, gx_ss h4, fun g hg => gx_sn (by have := cb_gp_o g hg; omega) (h5 g hg), fun g hg i hi => gx_sn (by have := cb_gp_lt g hg i hi; omega) (h6 g hg i hi)⟩
theorem cb_I.row {g i : Nat} (hg : g < 6) (hi : i < cb_nr g) {f : Nat → Int32} (h : cb_I cI cC cJ cII ws κ ra z sg G we pd) : cb_I cI cC cJ cII (ws.set (cb_gp g + 1 + i) (ra g i, .inl (cI, cb_wd g, .inl f))) κ ra z sg (cb_upg G g i f) we pd := by
  obtain ⟨h0, h1, h2, h3, h4, h5, h6⟩ := h
  have q := cb_gp_lt g hg i hi
  refine ⟨gx_sn (by omega) h0, gx_sn (by omega) h1, gx_sn (by omega) h2, gx_sn (by omega) h3, gx_sn (by omega) h4, fun a ha => gx_sn (q.2.2.2 a ha) (h5 a ha), fun a ha b hb => ?_⟩
  by_cases e : a = g ∧ b = i
  · obtain ⟨rfl, rfl⟩ := e
    rw [cb_upg_s]
    exact gx_ss (h6 a ha b hb)
  · rw [cb_upg_n e]
    exact gx_sn (fun z => e (by have := cb_gp_inj g hg a ha i hi b hb z; exact ⟨this.1.symm, this.2.symm⟩)) (h6 a ha b hb)
theorem cb_L.app (h : cb_L cO ws a4 md e0 nl la lp li ll) : cb_L cO (ws ++ w2) a4 md e0 nl la lp li ll := by
  obtain ⟨ea, h1, h2, h3, h4⟩ := h
  refine ⟨ea, gx_ap h1, fun j hj => ⟨(h2 j hj).1, gx_ap (h2 j hj).2⟩, h3, ?_⟩
  rcases h4 with h4 | ⟨ep, cap, ef, q1, q2, q3, q4, q5, q6⟩
  · exact Or.inl h4
  · exact Or.inr ⟨ep, cap, ef, q1, q2, q3, q4, gx_ap q5, q6⟩
theorem cb_L.low {q : Nat} {c : Nat × va_E} (hq : q < 64) (hq2 : q ≠ 62) (h : cb_L cO ws a4 md e0 nl la lp li ll) : cb_L cO (ws.set q c) a4 md e0 nl la lp li ll := by
  obtain ⟨ea, h1, h2, h3, h4⟩ := h
  refine ⟨ea, gx_sn hq2 h1, fun j hj => ⟨(h2 j hj).1, gx_sn (by have := (h2 j hj).1; omega) (h2 j hj).2⟩, h3, ?_⟩
  rcases h4 with h4 | ⟨ep, cap, ef, q1, q2, q3, q4, q5, q6⟩
  · exact Or.inl h4
  · exact Or.inr ⟨ep, cap, ef, q1, q2, q3, q4, gx_sn (by omega) q5, q6⟩
theorem cb_L.line {j : Nat} (hj : j < nl) {a : Nat → Int32} {b : Nat → Int64} (h : cb_L cO ws a4 md e0 nl la lp li ll) : cb_L cO (ws.set (lp j) (la j, .inr (iLN, cb_ln a b))) a4 md e0 nl la lp (cb_upr li j a) (cb_upr ll j b) := by
  obtain ⟨ea, h1, h2, h3, h4⟩ := h
  have hj2 := h2 j hj
  refine ⟨ea, gx_sn (by omega) h1, fun i hi => ⟨(h2 i hi).1, ?_⟩, h3, ?_⟩
  · by_cases e : i = j
    · subst e
      simp only [cb_upr, if_true]
      exact gx_ss hj2.2
    · simp only [cb_upr, if_neg e]
      exact gx_sn (fun z => e (h3 i j hi hj z.symm)) (h2 i hi).2
  · rcases h4 with h4 | ⟨ep, cap, ef, q1, q2, q3, q4, q5, q6⟩
    · exact Or.inl h4
    · refine Or.inr ⟨ep, cap, ef, q1, q2, q3, q4, gx_sn (fun z => ?_) q5, q6⟩
      have hx := hj2.2
      rw [z, q5] at hx
      cases hx
end CBu
/-- the places from 62 on are as they were (63 aside): the list and its lines -/
def cb_hi (ws w1 : va_W) : Prop := ∀ k, 62 ≤ k ∧ k ≠ 63 → w1[k]? = ws[k]?
theorem cb_hi.set {ws w1 : va_W} {q : Nat} {c : Nat × va_E} (hq : q < 62) (h : cb_hi ws w1) : cb_hi ws (w1.set q c) := fun k hk => by
  rw [List.getElem?_set_ne (by omega)]; exact h k hk
theorem cb_hi.set63 {ws w1 : va_W} {c : Nat × va_E} (h : cb_hi ws w1) : cb_hi ws (w1.set 63 c) := fun k hk => by
  rw [List.getElem?_set_ne (by omega)]; exact h k hk
theorem cb_hi.trans {ws w1 w2 : va_W} (h : cb_hi ws w1) (h2 : cb_hi w1 w2) : cb_hi ws w2 := fun k hk => (h2 k hk).trans (h k hk)
theorem cb_L.of {cO : ClassId} {ws w1 : va_W} {a4 e0 nl : Nat} {md : Int32} {la lp : Nat → Nat} {li : Nat → Nat → Int32} {ll : Nat → Nat → Int64} (hh : cb_hi ws w1) (h : cb_L cO ws a4 md e0 nl la lp li ll) : cb_L cO w1 a4 md e0 nl la lp li ll := by
  obtain ⟨ea, h1, h2, h3, h4⟩ := h
  refine ⟨ea, (hh 62 (by decide)).trans h1, fun j hj => ⟨(h2 j hj).1, (hh _ (by have := (h2 j hj).1; omega)).trans (h2 j hj).2⟩, h3, ?_⟩
  rcases h4 with h4 | ⟨ep, cap, ef, q1, q2, q3, q4, q5, q6⟩
  · exact Or.inl h4
  · exact Or.inr ⟨ep, cap, ef, q1, q2, q3, q4, (hh ep (by omega)).trans q5, q6⟩
end
section
/-! FACTS: what the law's entry gives, and what of it stays true behind it -/
abbrev fx_ty (cI cC cJ cII cO cZ : ClassId) : List (ClassId × FieldType) := [(cI, .int), (cC, .char), (cJ, .long), (cII, .array .int), (cO, .object "java/lang/Object"), (cZ, .boolean)]
def FX (l : Launch) (s0 : State) (D : va_G) (cI cC cJ cII cO cZ : ClassId) : Prop :=
  l.stackTraces = false ∧ (∃ a0 : Array Value, (∀ w ∈ lw_tbl, w.before a0 s0 = true) ∧ (Jvm.Cond.and given_1 narrow_1).before a0 s0 = true) ∧ va_K D classes (fx_ty cI cC cJ cII cO cZ) s0
def fx_unit : Nat → Int32 := fun j => if j = 2 then 60 else if j = 3 then 1440 else if j = 4 then 1000 else 1
/-- the words of a throw but the four that speak of the heap -/
def vx_no (w : Cond) : Bool := decide (w ≠ .isRef (.static Bundle.tN "UNASSIGNED_STACK" Bundle.steD)) && decide (w ≠ .isRef (.static Bundle.tN "SUPPRESSED_SENTINEL" Bundle.listD)) && decide (w ≠ .laysStatic Bundle.tN "UNASSIGNED_STACK" Bundle.steD) && decide (w ≠ .laysStatic Bundle.tN "SUPPRESSED_SENTINEL" Bundle.listD)
theorem vx_own {args : Array Value} {s : State} {L : List Cond} (h1 : ∀ w ∈ L.filter vx_no, w.before args s = true)
    (hU : (Cond.isRef (.static Bundle.tN "UNASSIGNED_STACK" Bundle.steD)).before args s = true) (hN : (Cond.isRef (.static Bundle.tN "SUPPRESSED_SENTINEL" Bundle.listD)).before args s = true)
    (lU : (Cond.laysStatic Bundle.tN "UNASSIGNED_STACK" Bundle.steD).before args s = true) (lN : (Cond.laysStatic Bundle.tN "SUPPRESSED_SENTINEL" Bundle.listD).before args s = true) : ∀ w ∈ L, w.before args s = true := by
  intro w hw
  by_cases e1 : w = .isRef (.static Bundle.tN "UNASSIGNED_STACK" Bundle.steD)
  · rw [e1]; exact hU
  · by_cases e2 : w = .isRef (.static Bundle.tN "SUPPRESSED_SENTINEL" Bundle.listD)
    · rw [e2]; exact hN
    · by_cases e3 : w = .laysStatic Bundle.tN "UNASSIGNED_STACK" Bundle.steD
      · rw [e3]; exact lU
      · by_cases e4 : w = .laysStatic Bundle.tN "SUPPRESSED_SENTINEL" Bundle.listD
        · rw [e4]; exact lN
        · exact h1 w (List.mem_filter.mpr ⟨hw, by unfold vx_no; rw [decide_eq_true e1, decide_eq_true e2, decide_eq_true e3, decide_eq_true e4]; rfl⟩)
def vx_L (C n d : String) (A : Nat → Prop) (U : State) (H : Heap) : Prop := ∃ (c : ClassId) (k : Class) (i : Nat) (f : Field) (a : Nat) (cell : Cell), U.vm.findClass C = some c ∧ U.fieldFound? C n d = some (c, k, i, f) ∧ f.isStatic = true ∧ k.statics = some a ∧ H[a]? = some cell ∧ cell.vm.isStatics = true ∧ cell.cls = c ∧ f.slot < cell.slots.size ∧ k.staticTypes[f.slot]? = some f.type ∧ ¬ A a
theorem vx_L.moved {C n d : String} {A : Nat → Prop} {u U : State} {H : Heap} (hvm : u.vm.Alike U.vm) (h : vx_L C n d A u H) : vx_L C n d A U H := by
  obtain ⟨c, k, i, f, a, cell, h1, h2, h3, h4, h5, h6, h7, h8, h9, h10⟩ := h
  obtain ⟨k', hi', he⟩ := State.fieldFound?_setVm hvm h2
  exact ⟨c, k', i, f, a, cell, by rw [hvm.findClass]; exact h1, hi', h3, by rw [he]; exact h4, h5, h6, h7, h8, by rw [he]; exact h9, h10⟩
theorem vx_L.kept {C n d : String} {A : Nat → Prop} {U : State} {H H1 : Heap} (h : vx_L C n d A U H) (hq : ∀ a : Nat, a < H.size → ¬ A a → H1[a]? = H[a]?) : vx_L C n d A U H1 := by
  obtain ⟨c, k, i, f, a, cell, h1, h2, h3, h4, h5, h6, h7, h8, h9, h10⟩ := h
  exact ⟨c, k, i, f, a, cell, h1, h2, h3, h4, by rw [hq a (Array.getElem?_eq_some_iff.mp h5).1 h10]; exact h5, h6, h7, h8, h9, h10⟩
theorem vx_L.narrow {C n d : String} {A B : Nat → Prop} {U : State} {H : Heap} (h : vx_L C n d A U H) (hAB : ∀ q, B q → A q) : vx_L C n d B U H := by
  obtain ⟨c, k, i, f, a, cell, h1, h2, h3, h4, h5, h6, h7, h8, h9, h10⟩ := h
  exact ⟨c, k, i, f, a, cell, h1, h2, h3, h4, h5, h6, h7, h8, h9, fun z => h10 (hAB _ z)⟩
theorem vx_L.word {C n d : String} {A : Nat → Prop} {s : State} {args : Array Value} (h : vx_L C n d A s s.heap) : (Cond.laysStatic C n d).before args s = true := by
  obtain ⟨c, k, i, f, a, cell, h1, h2, h3, h4, h5, h6, h7, h8, h9, -⟩ := h
  show (Cond.laysStatic C n d).holds args s none s [] = true
  exact Cond.laysStatic_of h1 h2 h3 h4 h5 h6 h7 h8 h9
/-- .. and what it holds: null or some reference -/
def vx_Zq (C n d : String) (A : Nat → Prop) (U : State) (H : Heap) : Prop := va_Zq C n d A U H ∧ vx_L C n d A U H
theorem vx_Zq.moved {C n d : String} {A : Nat → Prop} {u U : State} {H : Heap} (hvm : u.vm.Alike U.vm) (h : vx_Zq C n d A u H) : vx_Zq C n d A U H := ⟨va_Zq.moved hvm h.1, vx_L.moved hvm h.2⟩
theorem vx_Zq.kept {C n d : String} {A : Nat → Prop} {U : State} {H H1 : Heap} (h : vx_Zq C n d A U H) (hq : ∀ a : Nat, a < H.size → ¬ A a → H1[a]? = H[a]?) : vx_Zq C n d A U H1 := ⟨va_Zq.kept h.1 hq, vx_L.kept h.2 hq⟩
theorem vx_Zq.narrow {C n d : String} {A B : Nat → Prop} {U : State} {H : Heap} (h : vx_Zq C n d A U H) (hAB : ∀ q, B q → A q) : vx_Zq C n d B U H := ⟨va_Zq.narrow h.1 hAB, vx_L.narrow h.2 hAB⟩
theorem vx_Zqof {args : Array Value} {s : State} {C n d : String} {A : Nat → Prop} (hl : (Cond.laysStatic C n d).before args s = true) (hini : (Cond.initialized C).before args s = true) (h : (Cond.isRef (.static C n d)).before args s = true) (hA : ∀ a : Nat, a < s.heap.size → ¬ A a) : vx_Zq C n d A s s.heap := by
  refine ⟨va_Zqof hl hini h hA, ?_⟩
  obtain ⟨c, k, i, f, a, cell, h1, h2, h3, h4, h5, h6, h7, h8, h9⟩ := Cond.laysStatic_spec hl
  exact ⟨c, k, i, f, a, cell, h1, h2, h3, h4, h5, h6, h7, h8, h9, hA a (Array.getElem?_eq_some_iff.mp h5).1⟩
theorem vx_isRef {C n d : String} {v : Value} {A : Nat → Prop} {s : State} {args : Array Value} (h : va_Z C n d v A s s.heap) (hv : v.isRef = true) : (Cond.isRef (.static C n d)).before args s = true := by
  obtain ⟨cf, kf, fi, f, a, cell, h1, h2, h3, h4, h5, h6, h7, -⟩ := h
  have he : (Term.static C n d).eval args s none [] s = some v := by
    simp [Term.eval, State.fieldNamed?, h1, h2, h4, h5, h6, h7]
  simp only [Cond.before, Cond.holds, Cond.value, he]
  cases v <;> simp_all [Value.isRef]
theorem vx_isRefq {C n d : String} {A : Nat → Prop} {s : State} {args : Array Value} (h : va_Zq C n d A s s.heap) : (Cond.isRef (.static C n d)).before args s = true := by
  rcases h with h | ⟨t, h⟩
  · exact vx_isRef h rfl
  · exact vx_isRef h rfl
section FXs
variable {l : Launch} {s0 s : State} {D : va_G} {cI cC cJ cII cO cZ : ClassId}
theorem fx_g (F : FX l s0 D cI cC cJ cII cO cZ) (hV : gx_V s0 s) (args : Array Value) : ∀ w, gw w → w.before args s = true := fun w h => by
  obtain ⟨-, ⟨a0, h1, -⟩, -⟩ := F
  exact word_at hV.1 (good_of_word h.2) (h1 w h.1)
theorem fx_k (F : FX l s0 D cI cC cJ cII cO cZ) (hV : gx_V s0 s) : va_K D classes (fx_ty cI cC cJ cII cO cZ) s := va_K.moved hV.1.alike F.2.2
theorem fx_n (F : FX l s0 D cI cC cJ cII cO cZ) (hV : gx_V s0 s) : ∀ w, gn w → va_Nw w s := fun w h => by
  obtain ⟨-, ⟨a0, h1, -⟩, -⟩ := F
  have h0 := h1 w h.1
  have h2 := h.2
  cases w <;> first | exact va_Nw.warmF hV.1 (va_Nw.of rfl h0) | exact va_Nw.warmM hV.1 (va_Nw.of rfl h0) | exact absurd h2 (fun z => Bool.noConfusion z)
theorem fx_tr (F : FX l s0 D cI cC cJ cII cO cZ) : l.stackTraces = false := F.1
theorem fx_A (a : Nat) (h : a < s0.heap.size) : ¬ gx_A0 s0 a := fun z => absurd z (Nat.not_le.mpr h)
theorem fx_stat (F : FX l s0 D cI cC cJ cII cO cZ) : ∃ e0 u0 : Nat, va_Z "java/util/ArrayList" "DEFAULTCAPACITY_EMPTY_ELEMENTDATA" "[Ljava/lang/Object;" (.ref e0) (gx_A0 s0) s0 s0.heap ∧ va_T (.object "java/lang/Object") e0 0 (fun _ => .null) (gx_A0 s0) s0 s0.heap ∧ va_O "[Ljava/lang/Object;" e0 (gx_A0 s0) s0 s0.heap ∧ va_Z "PortBills" "UNIT" "[I" (.ref u0) (gx_A0 s0) s0 s0.heap ∧ va_T .int u0 6 (fun j => .int (fx_unit j)) (gx_A0 s0) s0 s0.heap := by
  obtain ⟨-, ⟨a0, h1, h2⟩, -⟩ := F
  have hs := flat_of_before _ h2
  obtain ⟨e0, he, hT⟩ := va_Tof (tm := .static "java/util/ArrayList" "DEFAULTCAPACITY_EMPTY_ELEMENTDATA" "[Ljava/lang/Object;") (ty := .object "java/lang/Object") (N := 0) (f := fun _ => .null) (A := gx_A0 s0) (by decide) (hs _ (by decide +kernel)) (va_eqt (hs _ (by decide +kernel))) (fun j hj => absurd hj (Nat.not_lt_zero j)) fx_A
  obtain ⟨u0, hu, hU⟩ := va_Tof (tm := .static "PortBills" "UNIT" "[I") (ty := .int) (N := 6) (f := fun j => .int (fx_unit j)) (A := gx_A0 s0) (by decide) (hs _ (by decide +kernel)) (va_eqt (hs _ (by decide +kernel))) (fun j hj => by
    rcases (show j = 0 ∨ j = 1 ∨ j = 2 ∨ j = 3 ∨ j = 4 ∨ j = 5 by omega) with rfl | rfl | rfl | rfl | rfl | rfl
    all_goals exact va_eqt (hs _ (by decide +kernel))) fx_A
  exact ⟨e0, u0, va_Zof (h1 _ (tw_1 (by decide +kernel))) (h1 _ (tw_1 (by decide +kernel))) he fx_A, hT, va_Oof (hs _ (by decide +kernel)) he fx_A, va_Zof (h1 _ (List.mem_append.mpr (Or.inr (by decide +kernel)))) (h1 _ (tw_1 (by decide +kernel))) hu fx_A, hU⟩
noncomputable def fx_e0 (F : FX l s0 D cI cC cJ cII cO cZ) : Nat := (fx_stat F).choose
noncomputable def fx_u0 (F : FX l s0 D cI cC cJ cII cO cZ) : Nat := (fx_stat F).choose_spec.choose
section
variable {A : Nat → Prop}
theorem fx_kept (hV : gx_V s0 s) : ∀ a : Nat, a < s0.heap.size → ¬ gx_A0 s0 a → s.heap[a]? = s0.heap[a]? := fun a h _ => hV.2.2 a h
theorem fx_ez (F : FX l s0 D cI cC cJ cII cO cZ) (hV : gx_V s0 s) (hA0 : ∀ q, A q → s0.heap.size ≤ q) : va_Z "java/util/ArrayList" "DEFAULTCAPACITY_EMPTY_ELEMENTDATA" "[Ljava/lang/Object;" (.ref (fx_e0 F)) A s s.heap := va_Z.narrow (va_Z.kept (va_Z.moved hV.1.alike (fx_stat F).choose_spec.choose_spec.1) (fx_kept hV)) hA0
theorem fx_et (F : FX l s0 D cI cC cJ cII cO cZ) (hV : gx_V s0 s) (hA0 : ∀ q, A q → s0.heap.size ≤ q) : va_T (.object "java/lang/Object") (fx_e0 F) 0 (fun _ => .null) A s s.heap := va_T.narrow (va_T.kept (va_T.moved hV.1.alike (fx_stat F).choose_spec.choose_spec.2.1) (fx_kept hV)) hA0
theorem fx_eo (F : FX l s0 D cI cC cJ cII cO cZ) (hV : gx_V s0 s) (hA0 : ∀ q, A q → s0.heap.size ≤ q) : va_O "[Ljava/lang/Object;" (fx_e0 F) A s s.heap := va_O.narrow (va_O.kept (va_O.moved hV.1.alike (fx_stat F).choose_spec.choose_spec.2.2.1) (fx_kept hV)) hA0
theorem fx_uz (F : FX l s0 D cI cC cJ cII cO cZ) (hV : gx_V s0 s) (hA0 : ∀ q, A q → s0.heap.size ≤ q) : va_Z "PortBills" "UNIT" "[I" (.ref (fx_u0 F)) A s s.heap := va_Z.narrow (va_Z.kept (va_Z.moved hV.1.alike (fx_stat F).choose_spec.choose_spec.2.2.2.1) (fx_kept hV)) hA0
theorem fx_ut (F : FX l s0 D cI cC cJ cII cO cZ) (hV : gx_V s0 s) (hA0 : ∀ q, A q → s0.heap.size ≤ q) : va_T .int (fx_u0 F) 6 (fun j => .int (fx_unit j)) A s s.heap := va_T.narrow (va_T.kept (va_T.moved hV.1.alike (fx_stat F).choose_spec.choose_spec.2.2.2.2) (fx_kept hV)) hA0
end
/-- Throwable's two statics -/
theorem fx_tU (F : FX l s0 D cI cC cJ cII cO cZ) (hV : gx_V s0 s) : vx_Zq Bundle.tN "UNASSIGNED_STACK" Bundle.steD (gx_A0 s0) s s.heap := by
  obtain ⟨-, ⟨a0, h1, h2⟩, -⟩ := F
  have hs := flat_of_before _ h2
  exact vx_Zq.kept (vx_Zq.moved hV.1.alike (vx_Zqof (args := a0) (h1 _ (tw_2 (by decide +kernel))) (h1 _ (tw_1 (by decide +kernel))) (hs _ (by decide +kernel)) fx_A)) (fx_kept hV)
theorem fx_tN (F : FX l s0 D cI cC cJ cII cO cZ) (hV : gx_V s0 s) : vx_Zq Bundle.tN "SUPPRESSED_SENTINEL" Bundle.listD (gx_A0 s0) s s.heap := by
  obtain ⟨-, ⟨a0, h1, h2⟩, -⟩ := F
  have hs := flat_of_before _ h2
  exact vx_Zq.kept (vx_Zq.moved hV.1.alike (vx_Zqof (args := a0) (h1 _ (tw_2 (by decide +kernel))) (h1 _ (tw_1 (by decide +kernel))) (hs _ (by decide +kernel)) fx_A)) (fx_kept hV)
def fx_c : Cond → Bool
  | .castable .. => true
  | .declares .. => true
  | _ => false
theorem fx_gc (F : FX l s0 D cI cC cJ cII cO cZ) (hV : gx_V s0 s) : ∀ w, w ∈ lw_tbl → fx_c w = true → va_Nw w s := fun w h h2 => by
  obtain ⟨-, ⟨a0, h1, -⟩, -⟩ := F
  have h0 := h1 w h
  cases w <;> first | exact va_Nw.warmC hV.1 (va_Nw.of rfl h0) | exact va_tabs rfl (rfl : (s0.setVm s.vm).vm = s.vm) (by rw [Cond.declares_setVm (args := a0) hV.1.alike]; exact h0) | exact absurd h2 (fun z => Bool.noConfusion z)
theorem fx_gc2 (F : FX l s0 D cI cC cJ cII cO cZ) (hV : gx_V s0 s) (args : Array Value) : ∀ w, w ∈ lw_tbl → fx_c w = true → w.before args s = true := fun w h h2 => by
  have h3 := fx_gc F hV w h h2
  cases w <;> first | exact va_Nw.use rfl h3 | exact absurd h2 (fun z => Bool.noConfusion z)
theorem fx_ownw (F : FX l s0 D cI cC cJ cII cO cZ) (hV : gx_V s0 s) (args : Array Value) {L : List Cond} (h : (L.filter vx_no).all (fun w => decide (w ∈ lw_tbl) && (goodWord w || fx_c w)) = true) : ∀ w ∈ L, w.before args s = true := by
  refine vx_own (fun w hw => ?_) (vx_isRefq (fx_tU F hV).1) (vx_isRefq (fx_tN F hV).1) (fx_tU F hV).2.word (fx_tN F hV).2.word
  have h1 := List.all_eq_true.mp h w hw
  simp only [Bool.and_eq_true, Bool.or_eq_true, decide_eq_true_eq] at h1
  exact h1.2.elim (fun z => fx_g F hV args w ⟨h1.1, z⟩) (fun z => fx_gc2 F hV args w h1.1 z)
theorem fx_str (F : FX l s0 D cI cC cJ cII cO cZ) (hV : gx_V s0 s) (is : Nat) (tx : String) (hw : (Cond.stringRef "PortBills" is tx) ∈ lw_tbl) (hx : (Cond.exactly (.string "PortBills" is) "java/lang/String") ∈ flatC (Jvm.Cond.and given_1 narrow_1)) : ∃ sa, vk_R "PortBills" is tx sa s := by
  obtain ⟨-, ⟨a0, h1, h2⟩, -⟩ := F
  have hs := flat_of_before _ h2
  obtain ⟨a, c, cell, k, q1, -⟩ := Cond.exactly_spec (hs _ hx)
  exact ⟨a, vk_R.warm hV.1 (vk_R.of (h1 _ hw) q1)⟩
end FXs
def fx_nm : List String := ["java/lang/RuntimeException", "java/lang/Exception"]
end
section
/-! PURE: what the class computes -/
def cb_quo (x y : Int64) : Int64 := if y < 1 then 0 else x / y
def cb_bu (x y : Int32) : Int32 := (cb_quo (x - 1).toInt64 y.toInt64).toInt32 + 1
def cb_rhu (x y : Int64) : Int64 := if 2 * (x - cb_quo x y * y) < y then cb_quo x y else cb_quo x y + 1
def cb_cents (tr : Nat → Int32) (kp ko ch : Int32) : Int64 := if ch = 0 then 0 else if (tr 3).toInt64 < cb_rhu ((tr 0).toInt64 * ch.toInt64 * kp.toInt64) ((tr 1).toInt64 * ko.toInt64) then cb_rhu ((tr 0).toInt64 * ch.toInt64 * kp.toInt64) ((tr 1).toInt64 * ko.toInt64) else (tr 3).toInt64
theorem cb_quo_ge {x y : Int64} (h : 0 ≤ lg_cmp y 1) : cb_quo x y = x / y := if_neg (fun z => by
  have := (lg_cmp_ge y 1).mp h
  exact absurd z (Int64.not_lt.mpr this))
theorem cb_quo_lt {x y : Int64} (h : ¬ 0 ≤ lg_cmp y 1) : cb_quo x y = 0 := if_pos (by
  rw [lg_cmp_ge] at h
  exact Int64.not_le.mp h)
theorem gx_lne {y : Int64} (h : 0 ≤ lg_cmp y 1) : ¬ y = 0 := fun z => by
  subst z
  exact absurd h (by decide)
theorem cb_rhu_lt {x y : Int64} (h : lg_cmp (2 * (x - cb_quo x y * y)) y < 0) : cb_quo x y = cb_rhu x y := (if_pos ((lg_cmp_lt _ _).mp h)).symm
theorem cb_rhu_ge {x y : Int64} (h : ¬ lg_cmp (2 * (x - cb_quo x y * y)) y < 0) : cb_quo x y + 1 = cb_rhu x y := (if_neg (fun z => h ((lg_cmp_lt _ _).mpr z))).symm
theorem cb_cents_0 {tr : Nat → Int32} {kp ko ch : Int32} (h : ch = 0) : (0 : Int64) = cb_cents tr kp ko ch := (if_pos h).symm
theorem cb_cents_1 {tr : Nat → Int32} {kp ko ch : Int32} {r : Int64} (h : ¬ ch = 0) (hr : r = cb_rhu ((tr 0).toInt64 * ch.toInt64 * kp.toInt64) ((tr 1).toInt64 * ko.toInt64)) : (if (tr 3).toInt64 < r then r else (tr 3).toInt64) = cb_cents tr kp ko ch := by
  subst hr
  exact (if_neg h).symm
theorem gx_rnk {x : Int32} (h0 : ¬ x < 0) (h1 : ¬ 1000000 < x) : ∃ k : Nat, k ≤ 1000000 ∧ x = nI k := nI_of2 (M := 1000000) (by decide) h0 (Int32.not_lt.mp h1)
/-- how many of the first n are so -/
def cb_cnt (q : Nat → Bool) : Nat → Nat
  | 0 => 0
  | n + 1 => cb_cnt q n + (if q n then 1 else 0)
theorem cb_cnt_n {q : Nat → Bool} {n : Nat} (h : q n = false) : cb_cnt q (n + 1) = cb_cnt q n := by simp [cb_cnt, h]
theorem cb_cnt_s {q : Nat → Bool} {n : Nat} (h : q n = true) : cb_cnt q (n + 1) = cb_cnt q n + 1 := by simp [cb_cnt, h]
theorem cb_cnt_le (q : Nat → Bool) : ∀ n, cb_cnt q n ≤ n
  | 0 => Nat.le_refl 0
  | n + 1 => by
    have := cb_cnt_le q n
    simp only [cb_cnt]
    split <;> omega
theorem gx_nlt {a b : Nat} (h : ¬ nI a ≤ nI b) (hb : a < 2 ^ 31 ∧ b < 2 ^ 31 := by omega) : b < a := by
  rw [nI_leI hb.1 hb.2] at h
  omega
theorem gx_ngt {a b : Nat} (h : nI a ≤ nI b) (hb : a < 2 ^ 31 ∧ b < 2 ^ 31 := by omega) : a ≤ b := (nI_leI hb.1 hb.2).mp h
theorem gx_ltn {a b : Nat} (h : nI a < nI b) (hb : a < 2 ^ 31 ∧ b < 2 ^ 31 := by omega) : a < b := (nI_ltI hb.1 hb.2).mp h
theorem gx_nltn {a b : Nat} (h : ¬ nI a < nI b) (hb : a < 2 ^ 31 ∧ b < 2 ^ 31 := by omega) : ¬ a < b := fun z => h ((nI_ltI hb.1 hb.2).mpr z)
/-- the sign at a place of the text, 0 behind its end -/
def cb_nx (sg : Nat → Int32) (n a : Nat) : Int32 := if a < n then sg a else 0
/-- the digits from a place on: the place behind them, the number -/
def cb_num (sg : Nat → Int32) (n : Nat) : Nat → Nat → Int32 → Nat × Int32
  | 0, a, v => (a, v)
  | k + 1, a, v => if cb_nx sg n a < 48 ∨ 57 < cb_nx sg n a then (a, v) else cb_num sg n k (a + 1) (v * 10 + (cb_nx sg n a - 48))
theorem cb_sign {p0 : Int32} (h1 : ¬ p0 < 33) (h2 : ¬ 126 < p0) : ∃ k : Nat, 33 ≤ k ∧ k ≤ 126 ∧ p0 = nI k := by
  have h0 : ¬ p0 < 0 := fun z => h1 (by simp only [Int32.lt_iff_toInt_lt] at z ⊢; have e1 : (0 : Int32).toInt = 0 := rfl; have e2 : (33 : Int32).toInt = 33 := rfl; omega)
  obtain ⟨k, hk, rfl⟩ := nI_of2 (M := 126) (n := 126) (by decide) h0 (Int32.not_lt.mp h2)
  exact ⟨k, by
    rcases Nat.lt_or_ge k 33 with h | h
    · exact absurd ((nI_ltI (a := k) (b := 33) (by omega) (by omega)).mpr h) h1
    · exact h, hk, rfl⟩
theorem cb_i2c {p0 : Int32} (h1 : ¬ p0 < 33) (h2 : ¬ 126 < p0) : (p0.toUInt32 % 65536).toInt32 = p0 := by
  obtain ⟨k, -, hk, rfl⟩ := cb_sign h1 h2
  rw [pk_char, pk_tn (by omega), Nat.mod_eq_of_lt (by omega)]
theorem cb_nar {p0 : Int32} (h1 : ¬ p0 < 33) (h2 : ¬ 126 < p0) : vp_nar .char p0 = p0 := by
  have := cb_i2c h1 h2
  have h3 := pk_vc p0
  rw [this] at h3
  exact h3
theorem cb_fitc {p0 : Int32} (h1 : ¬ p0 < 33) (h2 : ¬ 126 < p0) : narrow .char (.int p0) = .int p0 := by
  have h := pk_nc p0
  rw [cb_i2c h1 h2] at h
  exact h
theorem cb_us {z : Nat → Int32} {k : Nat} {v : Int32} (h : z k = v) : upd z k v = z := funext fun j => by
  unfold upd
  by_cases e : j = k
  · rw [if_pos e, e, h]
  · rw [if_neg e]
theorem cb_uu {z : Nat → Int32} {k : Nat} {v w : Int32} : upd (upd z k v) k w = upd z k w := funext fun j => by
  unfold upd
  by_cases e : j = k
  · rw [if_pos e, if_pos e]
  · rw [if_neg e, if_neg e, if_neg e]
theorem cb_num_s {sg : Nat → Int32} {n k a : Nat} {v : Int32} (h : ¬ (cb_nx sg n a < 48 ∨ 57 < cb_nx sg n a)) : cb_num sg n (k + 1) a v = cb_num sg n k (a + 1) (v * 10 + (cb_nx sg n a - 48)) := if_neg h
theorem cb_num_e {sg : Nat → Int32} {n k a : Nat} {v : Int32} (h : cb_nx sg n a < 48 ∨ 57 < cb_nx sg n a) : cb_num sg n (k + 1) a v = (a, v) := if_pos h
theorem gx_npos {d : Nat} (h : ¬ nI d ≤ 0) : 0 < d := by
  rcases Nat.eq_zero_or_pos d with q | q
  · subst q; exact absurd (show nI 0 ≤ 0 by decide) h
  · exact q
theorem cb_uc {z : Nat → Int32} {x y : Int32} : upd (upd z 1 x) 2 y = upd (upd z 2 y) 1 x := funext fun j => by
  unfold upd
  by_cases e : j = 1
  · subst e; simp
  · simp [e]
theorem cb_gg {G : Nat → Nat → Nat → Int32} {g i : Nat} {f f2 : Nat → Int32} : cb_upg (cb_upg G g i f) g i f2 = cb_upg G g i f2 := funext fun a => funext fun b => by
  unfold cb_upg
  by_cases e : a = g ∧ b = i
  · rw [if_pos e, if_pos e]
  · rw [if_neg e, if_neg e, if_neg e]
/-- a row from a place on: right or not, the place behind it (or the first wrong one), RATE, PER, FREE, LEAST -/
abbrev cb_RW : Type := Bool × Nat × Int32 × Int32 × Int32 × Int32
def cb_row5 (sg : Nat → Int32) (n b : Nat) (r p f l : Int32) : cb_RW := if cb_nx sg n b = 59 then (true, b + 1, r, p, f, l) else (false, b, 0, 0, 0, 0)
def cb_row4 (sg : Nat → Int32) (n b : Nat) (r p f : Int32) : cb_RW := if cb_nx sg n b = 62 then (if (cb_num sg n 6 (b + 1) 0).1 = b + 1 then (false, b + 1, 0, 0, 0, 0) else cb_row5 sg n (cb_num sg n 6 (b + 1) 0).1 r p f (cb_num sg n 6 (b + 1) 0).2) else cb_row5 sg n b r p f 0
def cb_row3 (sg : Nat → Int32) (n b : Nat) (r p : Int32) : cb_RW := if cb_nx sg n b = 45 then (if (cb_num sg n 4 (b + 1) 0).1 = b + 1 then (false, b + 1, 0, 0, 0, 0) else cb_row4 sg n (cb_num sg n 4 (b + 1) 0).1 r p (cb_num sg n 4 (b + 1) 0).2) else cb_row4 sg n b r p 0
def cb_row2 (sg : Nat → Int32) (n b : Nat) (r : Int32) : cb_RW := if cb_nx sg n b = 47 then (if (cb_num sg n 4 (b + 1) 0).1 = b + 1 ∨ (cb_num sg n 4 (b + 1) 0).2 ≤ 0 then (false, (cb_num sg n 4 (b + 1) 0).1, 0, 0, 0, 0) else cb_row3 sg n (cb_num sg n 4 (b + 1) 0).1 r (cb_num sg n 4 (b + 1) 0).2) else cb_row3 sg n b r 1
def cb_row (sg : Nat → Int32) (n a : Nat) : cb_RW := if cb_nx sg n a - 65 < 0 ∨ nI 6 ≤ cb_nx sg n a - 65 then (false, a, 0, 0, 0, 0) else if (cb_num sg n 6 (a + 1) 0).1 = a + 1 then (false, a + 1, 0, 0, 0, 0) else cb_row2 sg n (cb_num sg n 6 (a + 1) 0).1 (cb_num sg n 6 (a + 1) 0).2
theorem cb_num_le (sg : Nat → Int32) (n : Nat) : ∀ (k a : Nat) (v : Int32), a ≤ n → a ≤ (cb_num sg n k a v).1 ∧ (cb_num sg n k a v).1 ≤ n
  | 0, a, v, h => ⟨Nat.le_refl _, h⟩
  | k + 1, a, v, h => by
    by_cases q : cb_nx sg n a < 48 ∨ 57 < cb_nx sg n a
    · rw [cb_num_e q]; exact ⟨Nat.le_refl _, h⟩
    · rw [cb_num_s q]
      have hlt : a < n := by
        rcases Nat.lt_or_ge a n with h1 | h1
        · exact h1
        · exact absurd (Or.inl (by rw [cb_nx, if_neg (by omega)]; decide)) q
      have := cb_num_le sg n k (a + 1) (v * 10 + (cb_nx sg n a - 48)) hlt
      omega
theorem cb_nx_lt {sg : Nat → Int32} {n a : Nat} {c : Int32} (hc : ¬ c = 0) (h : cb_nx sg n a = c) : a < n := by
  rcases Nat.lt_or_ge a n with h1 | h1
  · exact h1
  · rw [cb_nx, if_neg (by omega)] at h
    exact absurd h.symm hc
theorem cb_gk_u {G : Nat → Nat → Nat → Int32} {i : Nat} {f : Nat → Int32} : ∀ g, g ≠ 0 → cb_upg G 0 i f g = G g := fun g hg => funext fun j => by simp [cb_upg, hg]
theorem cb_kd_ok {x : Int32} {kk : Nat} (hk : kk < 6) (h : x = nI kk) : ¬ (x < 0 ∨ nI 6 ≤ x) := by
  subst h
  intro z
  rcases z with z | z
  · exact nI_pos (by omega) z
  · exact nI_ge hk (by omega) z
theorem cb_nx_kd {sg : Nat → Int32} {n a kk : Nat} (hk : kk < 6) (h : cb_nx sg n a - 65 = nI kk) : a < n := by
  rcases Nat.lt_or_ge a n with h1 | h1
  · exact h1
  · rw [cb_nx, if_neg (by omega)] at h
    exact absurd (Or.inl (by decide)) (cb_kd_ok (x := 0 - 65) hk h)
theorem cb_or : ∀ m, m < 64 → ∀ k, k < 6 → nI m ||| ((1 : Int32) <<< (nI k &&& 31)) = nI (m ||| 2 ^ k) ∧ m ||| 2 ^ k < 64 := by decide +kernel
theorem cb_bit : ∀ m, m < 64 → ∀ k, k < 6 → (((nI m >>> (nI k &&& 31)) &&& 1 = 1) ↔ m.testBit k = true) := by decide +kernel
theorem cb_or2 : ∀ m, m < 64 → ∀ k, k < 64 → nI m ||| nI k = nI (m ||| k) ∧ m ||| k < 64 := by decide +kernel
theorem cb_tb {m k j : Nat} : (m ||| 2 ^ k).testBit j = (m.testBit j || decide (k = j)) := by
  rw [Nat.testBit_or, Nat.testBit_two_pow]
/-- a row's four parts -/
def cb_rwf (q : cb_RW) : Nat → Int32 := fun j => if j = 0 then q.2.2.1 else if j = 1 then q.2.2.2.1 else if j = 2 then q.2.2.2.2.1 else q.2.2.2.2.2
theorem cb_rwf_eq {b : Nat} {rf : Nat → Int32} {t : Bool} : ∀ j, j < 4 → cb_rwf (t, b, rf 0, rf 1, rf 2, rf 3) j = rf j := fun j hj => by
  rcases (show j = 0 ∨ j = 1 ∨ j = 2 ∨ j = 3 by omega) with rfl | rfl | rfl | rfl <;> rfl
/-- the rows of a text, from a place on: the answer; which kinds, as bits; their rows -/
def cb_rows (sg : Nat → Int32) (n : Nat) : Nat → Nat → Nat → Nat → (Nat → Nat → Int32) → Int32 × Nat × (Nat → Nat → Int32)
  | 0, a, _, _, _ => (-1 - nI a, 0, fun _ _ => 0)
  | k + 1, a, f, m, R =>
    if (cb_row sg n a).1 = false then (-1 - nI (cb_row sg n a).2.1, 0, fun _ _ => 0)
    else if (cb_row sg n a).2.1 = n then (nI (f + 1), m ||| 2 ^ (cb_nx sg n a - 65).toNatClampNeg, cb_upr R (cb_nx sg n a - 65).toNatClampNeg (cb_rwf (cb_row sg n a)))
    else cb_rows sg n k (cb_row sg n a).2.1 (f + 1) (m ||| 2 ^ (cb_nx sg n a - 65).toNatClampNeg) (cb_upr R (cb_nx sg n a - 65).toNatClampNeg (cb_rwf (cb_row sg n a)))
theorem cb_rows_f {sg : Nat → Int32} {n k a f m b : Nat} {R : Nat → Nat → Int32} (h : cb_row sg n a = (false, b, 0, 0, 0, 0)) : cb_rows sg n (k + 1) a f m R = (-1 - nI b, 0, fun _ _ => 0) := by
  show (if (cb_row sg n a).1 = false then _ else _) = _
  rw [h]; rfl
theorem cb_rows_e {sg : Nat → Int32} {n k a f m kk : Nat} {R : Nat → Nat → Int32} {q : cb_RW} (hk : kk < 6) (hkd : cb_nx sg n a - 65 = nI kk) (h : cb_row sg n a = q) (ht : q.1 = true) (hn : q.2.1 = n) : cb_rows sg n (k + 1) a f m R = (nI (f + 1), m ||| 2 ^ kk, cb_upr R kk (cb_rwf q)) := by
  show (if (cb_row sg n a).1 = false then _ else _) = _
  rw [h, hkd, nI_clamp (by omega), if_neg (by rw [ht]; decide), if_pos hn]
theorem cb_rows_s {sg : Nat → Int32} {n k a f m kk : Nat} {R : Nat → Nat → Int32} {q : cb_RW} (hk : kk < 6) (hkd : cb_nx sg n a - 65 = nI kk) (h : cb_row sg n a = q) (ht : q.1 = true) (hn : ¬ q.2.1 = n) : cb_rows sg n (k + 1) a f m R = cb_rows sg n k q.2.1 (f + 1) (m ||| 2 ^ kk) (cb_upr R kk (cb_rwf q)) := by
  show (if (cb_row sg n a).1 = false then _ else _) = _
  rw [h, hkd, nI_clamp (by omega), if_neg (by rw [ht]; decide), if_neg hn]
/-- the text's rows hold what the reading found, where a kind's bit is set -/
def cb_rk (m : Nat) (R : Nat → Nat → Int32) (G : Nat → Nat → Nat → Int32) : Prop := ∀ k, k < 6 → m.testBit k = true → ∀ j, j < 4 → G 0 k j = R k j
theorem cb_rk.put {m kk b : Nat} {R : Nat → Nat → Int32} {G : Nat → Nat → Nat → Int32} {rf : Nat → Int32} {t : Bool} (h : cb_rk m R G) : cb_rk (m ||| 2 ^ kk) (cb_upr R kk (cb_rwf (t, b, rf 0, rf 1, rf 2, rf 3))) (cb_upg G 0 kk rf) := by
  intro k hk hb j hj
  by_cases e : k = kk
  · subst e
    rw [cb_upg_s]
    simp only [cb_upr, if_true]
    exact (cb_rwf_eq j hj).symm
  · rw [cb_upg_n (fun z => e z.2)]
    simp only [cb_upr, if_neg e]
    rw [cb_tb] at hb
    have : m.testBit k = true := by
      rcases Bool.or_eq_true_iff.mp hb with q | q
      · exact q
      · exact absurd (of_decide_eq_true q).symm e
    exact h k hk this j hj
theorem gx_eqn {a b : Nat} (h : nI a = nI b) (hb : a < 2 ^ 31 ∧ b < 2 ^ 31 := by omega) : a = b := (nI_eq hb.1 hb.2).mp h
theorem cb_neg {n b : Nat} {x : Int32} (hb : b ≤ n) (hx : x = nI b) (hn : n ≤ 120 := by omega) : ¬ 0 < -1 - x := by
  subst hx
  rw [Int32.lt_iff_toInt_lt]
  have e : ∀ b, b ≤ 120 → (-1 - nI b).toInt < 0 := by decide +kernel
  have := e b (by omega)
  have e0 : (0 : Int32).toInt = 0 := rfl
  omega
theorem cb_gk1 {G : Nat → Nat → Nat → Int32} {i : Nat} {f : Nat → Int32} : ∀ g, g ≠ 1 → cb_upg G 1 i f g = G g := fun g hg => funext fun j => by simp [cb_upg, hg]
theorem cb_tk_s {G G' : Nat → Nat → Nat → Int32} {m i : Nat} (hG : ∀ g, g ≠ 1 → G' g = G g) (h : ∀ k, G' 1 k = if k < i ∧ m.testBit k = true then va_cpy (G 0 k) (G 1 k) 0 0 4 else G 1 k) (hb : m.testBit i = true) : ∀ k, cb_upg G' 1 i (va_cpy (G' 0 i) (G' 1 i) 0 0 4) 1 k = if k < i + 1 ∧ m.testBit k = true then va_cpy (G 0 k) (G 1 k) 0 0 4 else G 1 k := by
  intro k
  by_cases e : k = i
  · subst e
    rw [cb_upg_s, if_pos ⟨by omega, hb⟩, hG 0 (by decide), h k, if_neg (fun q => absurd q.1 (by omega))]
  · rw [cb_upg_n (fun q => e q.2), h k]
    have : (k < i + 1 ∧ m.testBit k = true) ↔ (k < i ∧ m.testBit k = true) := ⟨fun q => ⟨by omega, q.2⟩, fun q => ⟨by omega, q.2⟩⟩
    simp only [this]
theorem cb_tk_n {G G' : Nat → Nat → Nat → Int32} {m i : Nat} (h : ∀ k, G' 1 k = if k < i ∧ m.testBit k = true then va_cpy (G 0 k) (G 1 k) 0 0 4 else G 1 k) (hb : ¬ m.testBit i = true) : ∀ k, G' 1 k = if k < i + 1 ∧ m.testBit k = true then va_cpy (G 0 k) (G 1 k) 0 0 4 else G 1 k := by
  intro k
  rw [h k]
  have : (k < i + 1 ∧ m.testBit k = true) ↔ (k < i ∧ m.testBit k = true) := ⟨fun q => ⟨by
    rcases Nat.lt_or_ge k i with z | z
    · exact z
    · have : k = i := by omega
      subst this
      exact absurd q.2 hb, q.2⟩, fun q => ⟨by omega, q.2⟩⟩
  simp only [this]
theorem cb_tk_e {G : Nat → Nat → Nat → Int32} {m k j : Nat} (hk : k < 6) (hj : j < 4) : (if k < 6 ∧ m.testBit k = true then va_cpy (G 0 k) (G 1 k) 0 0 4 else G 1 k) j = if m.testBit k = true then G 0 k j else G 1 k j := by
  by_cases q : m.testBit k = true
  · rw [if_pos ⟨hk, q⟩, if_pos q, pk_cpy_in (by omega) (by omega)]
    simp
  · rw [if_neg (fun z => q z.2), if_neg q]
theorem gx_pos9 {x : Int32} (h : ¬ x ≤ 0) : 0 < x := Int32.not_le.mp h
theorem gx_neg9 {x : Int32} (h : x ≤ 0) : ¬ 0 < x := Int32.not_lt.mpr h
/-- a line's parts by their numbers -/
def cb_part (fi : Nat → Int32) (fl : Nat → Int64) (k : Nat) : Int64 := match k with
  | 0 => (fi 0).toInt64
  | 1 => (fi 1).toInt64
  | 2 => (fi 2).toInt64
  | 3 => (fi 3).toInt64
  | 4 => fl 0
  | 5 => (fi 4).toInt64
  | 6 => if fi 6 = 0 then 0 else 1
  | 7 => if fi 5 = 0 then 0 else 1
  | _ => fl 1
/-- what is owed: the undisputed lines of a call on top of x -/
def cb_ow (k : Int32) (li : Nat → Nat → Int32) (ll : Nat → Nat → Int64) (x : Int64) : Nat → Int64
  | 0 => x
  | n + 1 => if li n 0 = k ∧ li n 6 = 0 then cb_ow k li ll x n + ll n 0 else cb_ow k li ll x n
theorem cb_ow_s {k : Int32} {li : Nat → Nat → Int32} {ll : Nat → Nat → Int64} {x : Int64} {n : Nat} (h : li n 0 = k ∧ li n 6 = 0) : cb_ow k li ll x (n + 1) = cb_ow k li ll x n + ll n 0 := if_pos h
theorem cb_ow_n {k : Int32} {li : Nat → Nat → Int32} {ll : Nat → Nat → Int64} {x : Int64} {n : Nat} (h : ¬ (li n 0 = k ∧ li n 6 = 0)) : cb_ow k li ll x (n + 1) = cb_ow k li ll x n := if_neg h
end
section
theorem fx_str_73 {l : Launch} {s0 s : State} {D : va_G} {cI cC cJ cII cO cZ : ClassId} (F : FX l s0 D cI cC cJ cII cO cZ) (hV : gx_V s0 s) : ∃ sa, vk_R "PortBills" 73 "no such kind or what" sa s := fx_str F hV 73 _ kt_257 (by decide +kernel)
theorem fx_own_75 {l : Launch} {s0 s : State} {D : va_G} {cI cC cJ cII cO cZ : ClassId} (F : FX l s0 D cI cC cJ cII cO cZ) (hV : gx_V s0 s) (args : Array Value) : ∀ w ∈ Bundle.ownAtoms "PortBills" 75 "java/lang/IllegalArgumentException" fx_nm, w.before args s = true := fx_ownw F hV args (by decide +kernel)
theorem fx_str_85 {l : Launch} {s0 s : State} {D : va_G} {cI cC cJ cII cO cZ : ClassId} (F : FX l s0 D cI cC cJ cII cO cZ) (hV : gx_V s0 s) : ∃ sa, vk_R "PortBills" 85 "no such call, kind or amount" sa s := fx_str F hV 85 _ kt_297 (by decide +kernel)
theorem fx_str_93 {l : Launch} {s0 s : State} {D : va_G} {cI cC cJ cII cO cZ : ClassId} (F : FX l s0 D cI cC cJ cII cO cZ) (hV : gx_V s0 s) : ∃ sa, vk_R "PortBills" 93 "too many events wait" sa s := fx_str F hV 93 _ kt_307 (by decide +kernel)
theorem fx_own_95 {l : Launch} {s0 s : State} {D : va_G} {cI cC cJ cII cO cZ : ClassId} (F : FX l s0 D cI cC cJ cII cO cZ) (hV : gx_V s0 s) (args : Array Value) : ∀ w ∈ Bundle.ownAtoms "PortBills" 95 "java/lang/IllegalStateException" fx_nm, w.before args s = true := fx_ownw F hV args (by decide +kernel)
theorem fx_str_103 {l : Launch} {s0 s : State} {D : va_G} {cI cC cJ cII cO cZ : ClassId} (F : FX l s0 D cI cC cJ cII cO cZ) (hV : gx_V s0 s) : ∃ sa, vk_R "PortBills" 103 "no such call" sa s := fx_str F hV 103 _ kt_329 (by decide +kernel)
theorem fx_str_112 {l : Launch} {s0 s : State} {D : va_G} {cI cC cJ cII cO cZ : ClassId} (F : FX l s0 D cI cC cJ cII cO cZ) (hV : gx_V s0 s) : ∃ sa, vk_R "PortBills" 112 "no room for the lines" sa s := fx_str F hV 112 _ kt_334 (by decide +kernel)
theorem fx_str_131 {l : Launch} {s0 s : State} {D : va_G} {cI cC cJ cII cO cZ : ClassId} (F : FX l s0 D cI cC cJ cII cO cZ) (hV : gx_V s0 s) : ∃ sa, vk_R "PortBills" 131 "no such line or cents" sa s := fx_str F hV 131 _ kt_460 (by decide +kernel)
theorem fx_str_133 {l : Launch} {s0 s : State} {D : va_G} {cI cC cJ cII cO cZ : ClassId} (F : FX l s0 D cI cC cJ cII cO cZ) (hV : gx_V s0 s) : ∃ sa, vk_R "PortBills" 133 "no room for the line" sa s := fx_str F hV 133 _ kt_461 (by decide +kernel)
theorem fx_str_162 {l : Launch} {s0 s : State} {D : va_G} {cI cC cJ cII cO cZ : ClassId} (F : FX l s0 D cI cC cJ cII cO cZ) (hV : gx_V s0 s) : ∃ sa, vk_R "PortBills" 162 "no such line" sa s := fx_str F hV 162 _ kt_473 (by decide +kernel)
theorem fx_str_167 {l : Launch} {s0 s : State} {D : va_G} {cI cC cJ cII cO cZ : ClassId} (F : FX l s0 D cI cC cJ cII cO cZ) (hV : gx_V s0 s) : ∃ sa, vk_R "PortBills" 167 "no such call or cents" sa s := fx_str F hV 167 _ kt_481 (by decide +kernel)
theorem fx_str_176 {l : Launch} {s0 s : State} {D : va_G} {cI cC cJ cII cO cZ : ClassId} (F : FX l s0 D cI cC cJ cII cO cZ) (hV : gx_V s0 s) : ∃ sa, vk_R "PortBills" 176 "no such cents or keys" sa s := fx_str F hV 176 _ kt_505 (by decide +kernel)
theorem fx_str_180 {l : Launch} {s0 s : State} {D : va_G} {cI cC cJ cII cO cZ : ClassId} (F : FX l s0 D cI cC cJ cII cO cZ) (hV : gx_V s0 s) : ∃ sa, vk_R "PortBills" 180 "no keys at all" sa s := fx_str F hV 180 _ kt_515 (by decide +kernel)
theorem fx_own_182 {l : Launch} {s0 s : State} {D : va_G} {cI cC cJ cII cO cZ : ClassId} (F : FX l s0 D cI cC cJ cII cO cZ) (hV : gx_V s0 s) (args : Array Value) : ∀ w ∈ Bundle.ownAtoms "PortBills" 182 "java/lang/ArithmeticException" fx_nm, w.before args s = true := fx_ownw F hV args (by decide +kernel)
theorem fx_str_189 {l : Launch} {s0 s : State} {D : va_G} {cI cC cJ cII cO cZ : ClassId} (F : FX l s0 D cI cC cJ cII cO cZ) (hV : gx_V s0 s) : ∃ sa, vk_R "PortBills" 189 "no such line or what" sa s := fx_str F hV 189 _ kt_539 (by decide +kernel)
theorem fx_own_191 {l : Launch} {s0 s : State} {D : va_G} {cI cC cJ cII cO cZ : ClassId} (F : FX l s0 D cI cC cJ cII cO cZ) (hV : gx_V s0 s) (args : Array Value) : ∀ w ∈ Bundle.ownAtoms "PortBills" 191 "java/lang/IndexOutOfBoundsException" fx_nm, w.before args s = true := fx_ownw F hV args (by decide +kernel)
end
section
set_option maxRecDepth 100000 in
set_option maxHeartbeats 4000000 in
theorem c_PB_isCall {l : Launch} {s0 : State} {D : va_G} {cI cC cJ cII cO cZ : ClassId} (F : FX l s0 D cI cC cJ cII cO cZ) (ws : va_W) (sz : Nat) (p0 : Int32)  : Met l y_PB_isCall [.code y_PB_isCall b_PB_isCall 1 (some .boolean)] { frames := 0, cells := 0, slots := 0, locals := 0 } (gx_P s0 D classes ws sz [.int p0]) (gx_Ri (fun r => (r = 1 ∧ ∃ k, k < 10 ∧ p0 = nI k) ∨ (r = 0 ∧ (p0 < 0 ∨ nI 10 ≤ p0)))) 0 0 (fun _ => False) := by
  refine gx_met (by decide +kernel) (Nat.le_of_ble_eq_true rfl) ?_
  intro p e s m below meth c ls hx hb hr hml hown hlocks hnm hsz hV hP hD hS hA hA0 hl
  have hg := fx_g F hV ([.int p0] : List Value).toArray
  have hK := fx_k F hV
  have hn9 := fx_n F hV
  have hl : lv_has ls 1 [(0, .int p0)] := hl
  refine lv_iload_n hx hb d_PB_isCall_0 rfl (lv_at hl 0 rfl) ?_
  refine lv_if_lt (tgt := 14) hx hb d_PB_isCall_1 (by decide) (fun c_1 => ?_) (fun c_1 => ?_)
  · skip
    refine lv_iconst (v := 0) hx hb d_PB_isCall_14 (by decide) ?_
    exact gx_ireti hx hb hr hlocks rfl d_PB_isCall_15 (Or.inr ⟨rfl, Or.inl c_1⟩)
  · skip
    refine lv_iload_n hx hb d_PB_isCall_4 rfl (lv_at hl 0 rfl) ?_
    refine lv_bipush (v := 10) hx hb d_PB_isCall_5 (by decide) ?_
    refine lv_icmp_ge (tgt := 14) hx hb d_PB_isCall_7 (by decide) (fun c_7 => ?_) (fun c_7 => ?_)
    · skip
      refine lv_iconst (v := 0) hx hb d_PB_isCall_14 (by decide) ?_
      exact gx_ireti hx hb hr hlocks rfl d_PB_isCall_15 (Or.inr ⟨rfl, Or.inr c_7⟩)
    · skip
      refine lv_iconst (v := 1) hx hb d_PB_isCall_10 (by decide) ?_
      refine lv_goto (tgt := 15) hx hb d_PB_isCall_11 (by decide) ?_
      exact gx_ireti hx hb hr hlocks rfl d_PB_isCall_15 (Or.inl ⟨rfl, gx_rng (by decide) c_1 c_7⟩)

set_option maxRecDepth 100000 in
set_option maxHeartbeats 4000000 in
theorem c_PB_isKind {l : Launch} {s0 : State} {D : va_G} {cI cC cJ cII cO cZ : ClassId} (F : FX l s0 D cI cC cJ cII cO cZ) (ws : va_W) (sz : Nat) (p0 : Int32)  : Met l y_PB_isKind [.code y_PB_isKind b_PB_isKind 1 (some .boolean)] { frames := 0, cells := 0, slots := 0, locals := 0 } (gx_P s0 D classes ws sz [.int p0]) (gx_Ri (fun r => (r = 1 ∧ ∃ k, k < 6 ∧ p0 = nI k) ∨ (r = 0 ∧ (p0 < 0 ∨ nI 6 ≤ p0)))) 0 0 (fun _ => False) := by
  refine gx_met (by decide +kernel) (Nat.le_of_ble_eq_true rfl) ?_
  intro p e s m below meth c ls hx hb hr hml hown hlocks hnm hsz hV hP hD hS hA hA0 hl
  have hg := fx_g F hV ([.int p0] : List Value).toArray
  have hK := fx_k F hV
  have hn9 := fx_n F hV
  have hl : lv_has ls 1 [(0, .int p0)] := hl
  refine lv_iload_n hx hb d_PB_isKind_0 rfl (lv_at hl 0 rfl) ?_
  refine lv_if_lt (tgt := 14) hx hb d_PB_isKind_1 (by decide) (fun c_1 => ?_) (fun c_1 => ?_)
  · skip
    refine lv_iconst (v := 0) hx hb d_PB_isKind_14 (by decide) ?_
    exact gx_ireti hx hb hr hlocks rfl d_PB_isKind_15 (Or.inr ⟨rfl, Or.inl c_1⟩)
  · skip
    refine lv_iload_n hx hb d_PB_isKind_4 rfl (lv_at hl 0 rfl) ?_
    refine lv_bipush (v := 6) hx hb d_PB_isKind_5 (by decide) ?_
    refine lv_icmp_ge (tgt := 14) hx hb d_PB_isKind_7 (by decide) (fun c_7 => ?_) (fun c_7 => ?_)
    · skip
      refine lv_iconst (v := 0) hx hb d_PB_isKind_14 (by decide) ?_
      exact gx_ireti hx hb hr hlocks rfl d_PB_isKind_15 (Or.inr ⟨rfl, Or.inr c_7⟩)
    · skip
      refine lv_iconst (v := 1) hx hb d_PB_isKind_10 (by decide) ?_
      refine lv_goto (tgt := 15) hx hb d_PB_isKind_11 (by decide) ?_
      exact gx_ireti hx hb hr hlocks rfl d_PB_isKind_15 (Or.inl ⟨rfl, gx_rng (by decide) c_1 c_7⟩)

set_option maxRecDepth 100000 in
set_option maxHeartbeats 4000000 in
theorem c_PB_isKey {l : Launch} {s0 : State} {D : va_G} {cI cC cJ cII cO cZ : ClassId} (F : FX l s0 D cI cC cJ cII cO cZ) (ws : va_W) (sz : Nat) (p0 : Int32)  : Met l y_PB_isKey [.code y_PB_isKey b_PB_isKey 1 (some .boolean)] { frames := 0, cells := 0, slots := 0, locals := 0 } (gx_P s0 D classes ws sz [.int p0]) (gx_Ri (fun r => (r = 1 ∧ ∃ k, k ≤ 1000000 ∧ p0 = nI k) ∨ (r = 0 ∧ (p0 < 0 ∨ nI 1000000 < p0)))) 0 0 (fun _ => False) := by
  refine gx_met (by decide +kernel) (Nat.le_of_ble_eq_true rfl) ?_
  intro p e s m below meth c ls hx hb hr hml hown hlocks hnm hsz hV hP hD hS hA hA0 hl
  have hg := fx_g F hV ([.int p0] : List Value).toArray
  have hK := fx_k F hV
  have hn9 := fx_n F hV
  have hl : lv_has ls 1 [(0, .int p0)] := hl
  refine lv_iload_n hx hb d_PB_isKey_0 rfl (lv_at hl 0 rfl) ?_
  refine lv_if_lt (tgt := 14) hx hb d_PB_isKey_1 (by decide) (fun c_1 => ?_) (fun c_1 => ?_)
  · skip
    refine lv_iconst (v := 0) hx hb d_PB_isKey_14 (by decide) ?_
    exact gx_ireti hx hb hr hlocks rfl d_PB_isKey_15 (Or.inr ⟨rfl, Or.inl c_1⟩)
  · skip
    refine lv_iload_n hx hb d_PB_isKey_4 rfl (lv_at hl 0 rfl) ?_
    refine lv_ldc (v := 1000000) hx hb hown (hg _ k_504) d_PB_isKey_5 ?_
    refine lv_icmp_gt (tgt := 14) hx hb d_PB_isKey_7 (by decide) (fun c_7 => ?_) (fun c_7 => ?_)
    · skip
      refine lv_iconst (v := 0) hx hb d_PB_isKey_14 (by decide) ?_
      exact gx_ireti hx hb hr hlocks rfl d_PB_isKey_15 (Or.inr ⟨rfl, Or.inr c_7⟩)
    · skip
      refine lv_iconst (v := 1) hx hb d_PB_isKey_10 (by decide) ?_
      refine lv_goto (tgt := 15) hx hb d_PB_isKey_11 (by decide) ?_
      exact gx_ireti hx hb hr hlocks rfl d_PB_isKey_15 (Or.inl ⟨rfl, gx_rnk c_1 c_7⟩)

set_option maxRecDepth 100000 in
set_option maxHeartbeats 4000000 in
theorem c_TT_isDigit {l : Launch} {s0 : State} {D : va_G} {cI cC cJ cII cO cZ : ClassId} (F : FX l s0 D cI cC cJ cII cO cZ) (ws : va_W) (sz : Nat) (p0 : Int32)  : Met l y_TT_isDigit [.code y_TT_isDigit b_TT_isDigit 1 (some .boolean)] { frames := 0, cells := 0, slots := 0, locals := 0 } (gx_P s0 D classes ws sz [.int p0]) (gx_Ri (fun r => (r = 1 ∧ ¬ p0 < 48 ∧ ¬ 57 < p0) ∨ (r = 0 ∧ (p0 < 48 ∨ 57 < p0)))) 0 0 (fun _ => False) := by
  refine gx_met (by decide +kernel) (Nat.le_of_ble_eq_true rfl) ?_
  intro p e s m below meth c ls hx hb hr hml hown hlocks hnm hsz hV hP hD hS hA hA0 hl
  have hg := fx_g F hV ([.int p0] : List Value).toArray
  have hK := fx_k F hV
  have hn9 := fx_n F hV
  have hl : lv_has ls 1 [(0, .int p0)] := hl
  refine lv_iload_n hx hb d_TT_isDigit_0 rfl (lv_at hl 0 rfl) ?_
  refine lv_bipush (v := 48) hx hb d_TT_isDigit_1 (by decide) ?_
  refine lv_icmp_lt (tgt := 16) hx hb d_TT_isDigit_3 (by decide) (fun c_3 => ?_) (fun c_3 => ?_)
  · skip
    refine lv_iconst (v := 0) hx hb d_TT_isDigit_16 (by decide) ?_
    exact gx_ireti hx hb hr hlocks rfl d_TT_isDigit_17 (Or.inr ⟨rfl, Or.inl c_3⟩)
  · skip
    refine lv_iload_n hx hb d_TT_isDigit_6 rfl (lv_at hl 0 rfl) ?_
    refine lv_bipush (v := 57) hx hb d_TT_isDigit_7 (by decide) ?_
    refine lv_icmp_gt (tgt := 16) hx hb d_TT_isDigit_9 (by decide) (fun c_9 => ?_) (fun c_9 => ?_)
    · skip
      refine lv_iconst (v := 0) hx hb d_TT_isDigit_16 (by decide) ?_
      exact gx_ireti hx hb hr hlocks rfl d_TT_isDigit_17 (Or.inr ⟨rfl, Or.inr c_9⟩)
    · skip
      refine lv_iconst (v := 1) hx hb d_TT_isDigit_12 (by decide) ?_
      refine lv_goto (tgt := 17) hx hb d_TT_isDigit_13 (by decide) ?_
      exact gx_ireti hx hb hr hlocks rfl d_TT_isDigit_17 (Or.inl ⟨rfl, c_3, c_9⟩)

set_option maxRecDepth 100000 in
set_option maxHeartbeats 4000000 in
theorem c_PB_quotient {l : Launch} {s0 : State} {D : va_G} {cI cC cJ cII cO cZ : ClassId} (F : FX l s0 D cI cC cJ cII cO cZ) (ws : va_W) (sz : Nat) (x y : Int64)  : Met l y_PB_quotient [.code y_PB_quotient b_PB_quotient 4 (some .long)] { frames := 0, cells := 0, slots := 0, locals := 0 } (gx_P s0 D classes ws sz [.long x, .long y]) (gx_Rl (fun r => r = cb_quo x y)) 0 0 (fun _ => False) := by
  refine gx_met (by decide +kernel) (Nat.le_of_ble_eq_true rfl) ?_
  intro p e s m below meth c ls hx hb hr hml hown hlocks hnm hsz hV hP hD hS hA hA0 hl
  have hg := fx_g F hV ([.long x, .long y] : List Value).toArray
  have hK := fx_k F hV
  have hn9 := fx_n F hV
  have hl : lv_has ls 4 [(0, .long x), (2, .long y)] := hl
  refine lv_lload_n hx hb d_PB_quotient_0 rfl (lv_at hl 1 rfl) ?_
  refine lv_lconst (v := 1) hx hb d_PB_quotient_1 (by decide) ?_
  refine W.lcmp hx hb d_PB_quotient_2 ?_
  refine lv_if_ge (tgt := 10) hx hb d_PB_quotient_3 (by decide) (fun c_3 => ?_) (fun c_3 => ?_)
  · skip
    refine lv_lload_n hx hb d_PB_quotient_10 rfl (lv_at hl 0 rfl) ?_
    refine lv_lload_n hx hb d_PB_quotient_11 rfl (lv_at hl 1 rfl) ?_
    refine lv_ldiv hx hb d_PB_quotient_12 (gx_lne c_3) ?_
    exact gx_iretl hx hb hr hlocks d_PB_quotient_13 ((cb_quo_ge c_3).symm)
  · skip
    refine lv_lconst (v := 0) hx hb d_PB_quotient_6 (by decide) ?_
    refine lv_goto (tgt := 13) hx hb d_PB_quotient_7 (by decide) ?_
    exact gx_iretl hx hb hr hlocks d_PB_quotient_13 ((cb_quo_lt c_3).symm)

set_option maxRecDepth 100000 in
set_option maxHeartbeats 4000000 in
theorem c_PB_hasTariff {l : Launch} {s0 : State} {D : va_G} {cI cC cJ cII cO cZ : ClassId} (F : FX l s0 D cI cC cJ cII cO cZ) {ws : va_W} {κ : Nat → Nat} {ra : Nat → Nat → Nat} {z sg : Nat → Int32} {G : Nat → Nat → Nat → Int32} {we : Nat → Int32} {pd : Nat → Int64} (hI : cb_I cI cC cJ cII ws κ ra z sg G we pd) (sz : Nat) (p0 : Int32)  : Met l y_PB_hasTariff [.code y_PB_hasTariff b_PB_hasTariff 2 (some .boolean)] { frames := 0, cells := 0, slots := 0, locals := 0 } (gx_P s0 D classes ws sz [.ref (κ 0), .int p0]) (gx_Ri (fun r => (r = 1 ∧ (z 3 >>> (p0 &&& 31)) &&& 1 = 1) ∨ (r = 0 ∧ ¬ (z 3 >>> (p0 &&& 31)) &&& 1 = 1))) 0 0 (fun _ => False) := by
  refine gx_met (by decide +kernel) (Nat.le_of_ble_eq_true rfl) ?_
  intro p e s m below meth c ls hx hb hr hml hown hlocks hnm hsz hV hP hD hS hA hA0 hl
  have hg := fx_g F hV ([.ref (κ 0), .int p0] : List Value).toArray
  have hK := fx_k F hV
  have hn9 := fx_n F hV
  have hl : lv_has ls 2 [(0, .ref (κ 0)), (1, .int p0)] := hl
  refine lv_aload_n hx hb d_PB_hasTariff_0 rfl (lv_at hl 0 rfl) ?_
  refine va_get (D := D) (ci := iPB) (v := .int (z 3)) (C := R_PB) (T := F_PB) (N := 11) hx hb (fl_PB hg) (fun _ h9 => h9) hown hK hP 0 (hI.1) rfl 2 (by decide) (hg _ k_90) (fun _ h9 => h9) rfl d_PB_hasTariff_1 ?_
  refine lv_iload_n hx hb d_PB_hasTariff_4 rfl (lv_at hl 1 rfl) ?_
  refine lv_ishr hx hb d_PB_hasTariff_5 ?_
  refine lv_iconst (v := 1) hx hb d_PB_hasTariff_6 (by decide) ?_
  refine lv_iand hx hb d_PB_hasTariff_7 ?_
  refine lv_iconst (v := 1) hx hb d_PB_hasTariff_8 (by decide) ?_
  refine lv_icmp_ne (tgt := 16) hx hb d_PB_hasTariff_9 (by decide) (fun c_9 => ?_) (fun c_9 => ?_)
  · skip
    refine lv_iconst (v := 0) hx hb d_PB_hasTariff_16 (by decide) ?_
    exact gx_ireti hx hb hr hlocks rfl d_PB_hasTariff_17 (Or.inr ⟨rfl, c_9⟩)
  · skip
    refine lv_iconst (v := 1) hx hb d_PB_hasTariff_12 (by decide) ?_
    refine lv_goto (tgt := 17) hx hb d_PB_hasTariff_13 (by decide) ?_
    exact gx_ireti hx hb hr hlocks rfl d_PB_hasTariff_17 (Or.inl ⟨rfl, c_9⟩)
end
section
set_option maxRecDepth 100000 in
set_option maxHeartbeats 4000000 in
theorem c_PB_begunUnits {l : Launch} {s0 : State} {D : va_G} {cI cC cJ cII cO cZ : ClassId} (F : FX l s0 D cI cC cJ cII cO cZ) (ws : va_W) (sz : Nat) (x y : Int32)  : Met l y_PB_begunUnits [.code y_PB_begunUnits b_PB_begunUnits 2 (some .int)] { frames := 1, cells := 0, slots := 0, locals := 40 } (gx_P s0 D classes ws sz [.int x, .int y]) (gx_Ri (fun r => r = cb_bu x y)) 0 0 (fun _ => False) := by
  refine gx_met (by decide +kernel) (Nat.le_of_ble_eq_true rfl) ?_
  intro p e s m below meth c ls hx hb hr hml hown hlocks hnm hsz hV hP hD hS hA hA0 hl
  have hg := fx_g F hV ([.int x, .int y] : List Value).toArray
  have hK := fx_k F hV
  have hn9 := fx_n F hV
  have hl : lv_has ls 2 [(0, .int x), (1, .int y)] := hl
  refine lv_iload_n hx hb d_PB_begunUnits_0 rfl (lv_at hl 0 rfl) ?_
  refine lv_iconst (v := 1) hx hb d_PB_begunUnits_1 (by decide) ?_
  refine lv_isub hx hb d_PB_begunUnits_2 ?_
  refine lv_i2l (v := (x - 1).toInt64) hx hb d_PB_begunUnits_3 (rfl) ?_
  refine lv_iload_n hx hb d_PB_begunUnits_4 rfl (lv_at hl 1 rfl) ?_
  refine lv_i2l (v := y.toInt64) hx hb d_PB_begunUnits_5 (rfl) ?_
  refine gx_readl (va_runS (As := [.long ((x - 1).toInt64), .long y.toInt64]) (rest := []) ⟨hx, hb, hml, hown, gx_nil⟩ (c_PB_quotient F _ _ ((x - 1).toInt64) y.toInt64) ⟨gx_cb (hg _ k_321) (hg _ k_1) (hg _ k_319) nd_PB_quotient ⟨by decide, by decide⟩, hg _ k_320⟩ (gx_preS hV hP hD hS hA0) rfl rfl hl.1 rfl (lv_room (Nat.le_of_ble_eq_true rfl)) d_PB_begunUnits_6 ⟨by decide, by decide⟩) (fun r_6 h_6 => ?_)
  subst h_6
  refine lv_l2i (v := (cb_quo ((x - 1).toInt64) y.toInt64).toInt32) hx hb d_PB_begunUnits_9 (rfl) ?_
  refine lv_iconst (v := 1) hx hb d_PB_begunUnits_10 (by decide) ?_
  refine lv_iadd hx hb d_PB_begunUnits_11 ?_
  exact gx_ireti hx hb hr hlocks rfl d_PB_begunUnits_12 (rfl)

set_option maxRecDepth 100000 in
set_option maxHeartbeats 4000000 in
theorem c_PB_roundedHalfUp {l : Launch} {s0 : State} {D : va_G} {cI cC cJ cII cO cZ : ClassId} (F : FX l s0 D cI cC cJ cII cO cZ) (ws : va_W) (sz : Nat) (x y : Int64)  : Met l y_PB_roundedHalfUp [.code y_PB_roundedHalfUp b_PB_roundedHalfUp 8 (some .long)] { frames := 1, cells := 0, slots := 0, locals := 40 } (gx_P s0 D classes ws sz [.long x, .long y]) (gx_Rl (fun r => r = cb_rhu x y)) 0 0 (fun _ => False) := by
  refine gx_met (by decide +kernel) (Nat.le_of_ble_eq_true rfl) ?_
  intro p e s m below meth c ls hx hb hr hml hown hlocks hnm hsz hV hP hD hS hA hA0 hl
  have hg := fx_g F hV ([.long x, .long y] : List Value).toArray
  have hK := fx_k F hV
  have hn9 := fx_n F hV
  have hl : lv_has ls 8 [(0, .long x), (2, .long y)] := hl
  refine lv_lload_n hx hb d_PB_roundedHalfUp_0 rfl (lv_at hl 0 rfl) ?_
  refine lv_lload_n hx hb d_PB_roundedHalfUp_1 rfl (lv_at hl 1 rfl) ?_
  refine gx_readl (va_runS (As := [.long x, .long y]) (rest := []) ⟨hx, hb, hml, hown, gx_nil⟩ (c_PB_quotient F _ _ x y) ⟨gx_cb (hg _ k_321) (hg _ k_1) (hg _ k_319) nd_PB_quotient ⟨by decide, by decide⟩, hg _ k_320⟩ (gx_preS hV hP hD hS hA0) rfl rfl hl.1 rfl (lv_room (Nat.le_of_ble_eq_true rfl)) d_PB_roundedHalfUp_2 ⟨by decide, by decide⟩) (fun r_2 h_2 => ?_)
  subst h_2
  refine lv_lstore (lv' := [(4, .long (cb_quo x y)), (0, .long x), (2, .long y)]) hx hb d_PB_roundedHalfUp_5 hl (by decide) rfl (fun ls hl => ?_)
  refine lv_lload_n hx hb d_PB_roundedHalfUp_7 rfl (lv_at hl 1 rfl) ?_
  refine lv_lload hx hb d_PB_roundedHalfUp_8 (lv_at hl 0 rfl) ?_
  refine lv_lload_n hx hb d_PB_roundedHalfUp_10 rfl (lv_at hl 2 rfl) ?_
  refine lv_lmul hx hb d_PB_roundedHalfUp_11 ?_
  refine lv_lsub hx hb d_PB_roundedHalfUp_12 ?_
  refine lv_lstore (lv' := [(6, .long (x - ((cb_quo x y) * y))), (4, .long (cb_quo x y)), (0, .long x), (2, .long y)]) hx hb d_PB_roundedHalfUp_13 hl (by decide) rfl (fun ls hl => ?_)
  refine lv_ldc2 (v := 2) hx hb hown (hg _ k_350) d_PB_roundedHalfUp_15 ?_
  refine lv_lload hx hb d_PB_roundedHalfUp_18 (lv_at hl 0 rfl) ?_
  refine lv_lmul hx hb d_PB_roundedHalfUp_20 ?_
  refine lv_lload_n hx hb d_PB_roundedHalfUp_21 rfl (lv_at hl 3 rfl) ?_
  refine W.lcmp hx hb d_PB_roundedHalfUp_22 ?_
  refine lv_if_lt (tgt := 33) hx hb d_PB_roundedHalfUp_23 (by decide) (fun c_23 => ?_) (fun c_23 => ?_)
  · skip
    refine lv_lload hx hb d_PB_roundedHalfUp_33 (lv_at hl 1 rfl) ?_
    exact gx_iretl hx hb hr hlocks d_PB_roundedHalfUp_35 (cb_rhu_lt c_23)
  · skip
    refine lv_lload hx hb d_PB_roundedHalfUp_26 (lv_at hl 1 rfl) ?_
    refine lv_lconst (v := 1) hx hb d_PB_roundedHalfUp_28 (by decide) ?_
    refine lv_ladd hx hb d_PB_roundedHalfUp_29 ?_
    refine lv_goto (tgt := 35) hx hb d_PB_roundedHalfUp_30 (by decide) ?_
    exact gx_iretl hx hb hr hlocks d_PB_roundedHalfUp_35 (cb_rhu_ge c_23)

set_option maxRecDepth 100000 in
set_option maxHeartbeats 4000000 in
theorem c_PB_centsFor {l : Launch} {s0 : State} {D : va_G} {cI cC cJ cII cO cZ : ClassId} (F : FX l s0 D cI cC cJ cII cO cZ) {ws : va_W} {κ : Nat → Nat} {ra : Nat → Nat → Nat} {z sg : Nat → Int32} {G : Nat → Nat → Nat → Int32} {we : Nat → Int32} {pd : Nat → Int64} (hI : cb_I cI cC cJ cII ws κ ra z sg G we pd) (sz : Nat) (k j : Nat) (hk : k < 10) (hj : j < 6) (p2 : Int32)  : Met l y_PB_centsFor [.code y_PB_centsFor b_PB_centsFor 8 (some .long)] { frames := 2, cells := 0, slots := 0, locals := 80 } (gx_P s0 D classes ws sz [.ref (κ 0), .int (nI k), .int (nI j), .int p2]) (gx_Rl (fun r => r = cb_cents (G 1 j) (G 4 k j) (G 5 k j) p2)) 0 0 (fun _ => False) := by
  refine gx_met (by decide +kernel) (Nat.le_of_ble_eq_true rfl) ?_
  intro p e s m below meth c ls hx hb hr hml hown hlocks hnm hsz hV hP hD hS hA hA0 hl
  have hg := fx_g F hV ([.ref (κ 0), .int (nI k), .int (nI j), .int p2] : List Value).toArray
  have hK := fx_k F hV
  have hn9 := fx_n F hV
  have hl : lv_has ls 8 [(0, .ref (κ 0)), (1, .int (nI k)), (2, .int (nI j)), (3, .int p2)] := hl
  refine lv_iload_n hx hb d_PB_centsFor_0 rfl (lv_at hl 3 rfl) ?_
  refine lv_if_ne (tgt := 6) hx hb d_PB_centsFor_1 (by decide) (fun c_1 => ?_) (fun c_1 => ?_)
  · skip
    refine lv_aload_n hx hb d_PB_centsFor_6 rfl (lv_at hl 0 rfl) ?_
    refine va_get (D := D) (ci := iPB) (v := .ref (κ 10)) (C := R_PB) (T := F_PB) (N := 11) hx hb (fl_PB hg) (fun _ h9 => h9) hown hK hP 0 (hI.1) rfl 1 (by decide) (hg _ k_89) (fun _ h9 => h9) rfl d_PB_centsFor_7 ?_
    refine lv_iload_n hx hb d_PB_centsFor_10 rfl (lv_at hl 2 rfl) ?_
    refine gx_al hx hb hK hP 10 3 (hI.2.2.2.2.2.1 1 (by decide)) rfl rfl j (v := ra 1 j) (rfl) (hj) (by decide) (if_pos (hj)) d_PB_centsFor_11 ?_
    refine lv_iconst (v := 0) hx hb d_PB_centsFor_12 (by decide) ?_
    refine gx_il hx hb hK hP (cb_gp 1 + 1 + j) 0 (hI.2.2.2.2.2.2 1 (by decide) j (hj)) rfl 0 (by decide) (by decide) (by decide) d_PB_centsFor_13 ?_
    refine lv_i2l (v := ((G 1 j) 0).toInt64) hx hb d_PB_centsFor_14 (rfl) ?_
    refine lv_iload_n hx hb d_PB_centsFor_15 rfl (lv_at hl 3 rfl) ?_
    refine lv_i2l (v := p2.toInt64) hx hb d_PB_centsFor_16 (rfl) ?_
    refine lv_lmul hx hb d_PB_centsFor_17 ?_
    refine lv_aload_n hx hb d_PB_centsFor_18 rfl (lv_at hl 0 rfl) ?_
    refine va_get (D := D) (ci := iPB) (v := .ref (κ 40)) (C := R_PB) (T := F_PB) (N := 11) hx hb (fl_PB hg) (fun _ h9 => h9) hown hK hP 0 (hI.1) rfl 7 (by decide) (hg _ k_95) (fun _ h9 => h9) rfl d_PB_centsFor_19 ?_
    refine lv_iload_n hx hb d_PB_centsFor_22 rfl (lv_at hl 1 rfl) ?_
    refine gx_al hx hb hK hP 40 3 (hI.2.2.2.2.2.1 4 (by decide)) rfl rfl k (v := ra 4 k) (rfl) (hk) (by decide) (if_pos (hk)) d_PB_centsFor_23 ?_
    refine lv_iload_n hx hb d_PB_centsFor_24 rfl (lv_at hl 2 rfl) ?_
    refine gx_il hx hb hK hP (cb_gp 4 + 1 + k) 0 (hI.2.2.2.2.2.2 4 (by decide) k (hk)) rfl j (rfl) (hj) (by decide) d_PB_centsFor_25 ?_
    refine lv_i2l (v := ((G 4 k) j).toInt64) hx hb d_PB_centsFor_26 (rfl) ?_
    refine lv_lmul hx hb d_PB_centsFor_27 ?_
    refine lv_lstore (lv' := [(4, .long (((((G 1 j) 0).toInt64) * p2.toInt64) * (((G 4 k) j).toInt64))), (0, .ref (κ 0)), (1, .int (nI k)), (2, .int (nI j)), (3, .int p2)]) hx hb d_PB_centsFor_28 hl (by decide) rfl (fun ls hl => ?_)
    refine lv_aload_n hx hb d_PB_centsFor_30 rfl (lv_at hl 1 rfl) ?_
    refine va_get (D := D) (ci := iPB) (v := .ref (κ 10)) (C := R_PB) (T := F_PB) (N := 11) hx hb (fl_PB hg) (fun _ h9 => h9) hown hK hP 0 (hI.1) rfl 1 (by decide) (hg _ k_89) (fun _ h9 => h9) rfl d_PB_centsFor_31 ?_
    refine lv_iload_n hx hb d_PB_centsFor_34 rfl (lv_at hl 3 rfl) ?_
    refine gx_al hx hb hK hP 10 3 (hI.2.2.2.2.2.1 1 (by decide)) rfl rfl j (v := ra 1 j) (rfl) (hj) (by decide) (if_pos (hj)) d_PB_centsFor_35 ?_
    refine lv_iconst (v := 1) hx hb d_PB_centsFor_36 (by decide) ?_
    refine gx_il hx hb hK hP (cb_gp 1 + 1 + j) 0 (hI.2.2.2.2.2.2 1 (by decide) j (hj)) rfl 1 (by decide) (by decide) (by decide) d_PB_centsFor_37 ?_
    refine lv_i2l (v := ((G 1 j) 1).toInt64) hx hb d_PB_centsFor_38 (rfl) ?_
    refine lv_aload_n hx hb d_PB_centsFor_39 rfl (lv_at hl 1 rfl) ?_
    refine va_get (D := D) (ci := iPB) (v := .ref (κ 51)) (C := R_PB) (T := F_PB) (N := 11) hx hb (fl_PB hg) (fun _ h9 => h9) hown hK hP 0 (hI.1) rfl 8 (by decide) (hg _ k_96) (fun _ h9 => h9) rfl d_PB_centsFor_40 ?_
    refine lv_iload_n hx hb d_PB_centsFor_43 rfl (lv_at hl 2 rfl) ?_
    refine gx_al hx hb hK hP 51 3 (hI.2.2.2.2.2.1 5 (by decide)) rfl rfl k (v := ra 5 k) (rfl) (hk) (by decide) (if_pos (hk)) d_PB_centsFor_44 ?_
    refine lv_iload_n hx hb d_PB_centsFor_45 rfl (lv_at hl 3 rfl) ?_
    refine gx_il hx hb hK hP (cb_gp 5 + 1 + k) 0 (hI.2.2.2.2.2.2 5 (by decide) k (hk)) rfl j (rfl) (hj) (by decide) d_PB_centsFor_46 ?_
    refine lv_i2l (v := ((G 5 k) j).toInt64) hx hb d_PB_centsFor_47 (rfl) ?_
    refine lv_lmul hx hb d_PB_centsFor_48 ?_
    refine lv_lstore (lv' := [(6, .long ((((G 1 j) 1).toInt64) * (((G 5 k) j).toInt64))), (4, .long (((((G 1 j) 0).toInt64) * p2.toInt64) * (((G 4 k) j).toInt64))), (0, .ref (κ 0)), (1, .int (nI k)), (2, .int (nI j)), (3, .int p2)]) hx hb d_PB_centsFor_49 hl (by decide) rfl (fun ls hl => ?_)
    refine lv_lload hx hb d_PB_centsFor_51 (lv_at hl 1 rfl) ?_
    refine lv_lload hx hb d_PB_centsFor_53 (lv_at hl 0 rfl) ?_
    refine gx_readl (va_runS (As := [.long (((((G 1 j) 0).toInt64) * p2.toInt64) * (((G 4 k) j).toInt64)), .long ((((G 1 j) 1).toInt64) * (((G 5 k) j).toInt64))]) (rest := []) ⟨hx, hb, hml, hown, gx_nil⟩ (c_PB_roundedHalfUp F _ _ _ _) ⟨gx_cb (hg _ k_349) (hg _ k_1) (hg _ k_347) nd_PB_roundedHalfUp ⟨by decide, by decide⟩, hg _ k_348⟩ (gx_preS hV hP hD hS hA0) rfl rfl hl.1 rfl (lv_room (Nat.le_of_ble_eq_true rfl)) d_PB_centsFor_55 ⟨by decide, by decide⟩) (fun r_55 h_55 => ?_)
    refine lv_aload_n hx hb d_PB_centsFor_58 rfl (lv_at hl 2 rfl) ?_
    refine va_get (D := D) (ci := iPB) (v := .ref (κ 10)) (C := R_PB) (T := F_PB) (N := 11) hx hb (fl_PB hg) (fun _ h9 => h9) hown hK hP 0 (hI.1) rfl 1 (by decide) (hg _ k_89) (fun _ h9 => h9) rfl d_PB_centsFor_59 ?_
    refine lv_iload_n hx hb d_PB_centsFor_62 rfl (lv_at hl 4 rfl) ?_
    refine gx_al hx hb hK hP 10 3 (hI.2.2.2.2.2.1 1 (by decide)) rfl rfl j (v := ra 1 j) (rfl) (hj) (by decide) (if_pos (hj)) d_PB_centsFor_63 ?_
    refine lv_iconst (v := 3) hx hb d_PB_centsFor_64 (by decide) ?_
    refine gx_il hx hb hK hP (cb_gp 1 + 1 + j) 0 (hI.2.2.2.2.2.2 1 (by decide) j (hj)) rfl 3 (by decide) (by decide) (by decide) d_PB_centsFor_65 ?_
    refine lv_i2l (v := ((G 1 j) 3).toInt64) hx hb d_PB_centsFor_66 (rfl) ?_
    refine va_mmax_long hx hb (by rw [hml]; exact hl.1.symm) hown (hg _ k_351) (hg _ k_352) (hg _ k_14) (hg _ k_353) (by decide) (by decide) (by decide) (by decide) d_PB_centsFor_67 ?_
    exact gx_iretl hx hb hr hlocks d_PB_centsFor_70 (cb_cents_1 c_1 h_55)
  · skip
    refine lv_lconst (v := 0) hx hb d_PB_centsFor_4 (by decide) ?_
    exact gx_iretl hx hb hr hlocks d_PB_centsFor_5 (cb_cents_0 c_1)
end
section
set_option maxRecDepth 100000 in
set_option maxHeartbeats 4000000 in
theorem c_PB_kindsThatWait {l : Launch} {s0 : State} {D : va_G} {cI cC cJ cII cO cZ : ClassId} (F : FX l s0 D cI cC cJ cII cO cZ) {ws : va_W} {κ : Nat → Nat} {ra : Nat → Nat → Nat} {z sg : Nat → Int32} {G : Nat → Nat → Nat → Int32} {we : Nat → Int32} {pd : Nat → Int64} (hI : cb_I cI cC cJ cII ws κ ra z sg G we pd) (sz : Nat) (k : Nat) (hk : k < 10)  : Met l y_PB_kindsThatWait [.code y_PB_kindsThatWait b_PB_kindsThatWait 4 (some .int)] { frames := 0, cells := 0, slots := 0, locals := 0 } (gx_P s0 D classes ws sz [.ref (κ 0), .int (nI k)]) (gx_Ri (fun r => r = nI (cb_cnt (fun j => decide (¬ G 2 k j ≤ 0)) 6))) 0 0 (fun _ => False) := by
  refine gx_met (by decide +kernel) (Nat.le_of_ble_eq_true rfl) ?_
  intro p e s m below meth c ls hx hb hr hml hown hlocks hnm hsz hV hP hD hS hA hA0 hl
  have hg := fx_g F hV ([.ref (κ 0), .int (nI k)] : List Value).toArray
  have hK := fx_k F hV
  have hn9 := fx_n F hV
  have hl : lv_has ls 4 [(0, .ref (κ 0)), (1, .int (nI k))] := hl
  refine lv_iconst (v := 0) hx hb d_PB_kindsThatWait_0 (by decide) ?_
  refine lv_istore_n (lv' := [(2, .int 0), (0, .ref (κ 0)), (1, .int (nI k))]) hx hb d_PB_kindsThatWait_1 rfl hl (by decide) rfl (fun ls hl => ?_)
  refine lv_iconst (v := 0) hx hb d_PB_kindsThatWait_2 (by decide) ?_
  refine lv_istore_n (lv' := [(3, .int 0), (2, .int 0), (0, .ref (κ 0)), (1, .int (nI k))]) hx hb d_PB_kindsThatWait_3 rfl hl (by decide) rfl (fun ls hl => ?_)
  have loop : ∀ (nn : Nat) (i : Nat) (ls : Array Slot) (hi : i ≤ 6) (hin : 7 ≤ i + nn) (hl : lv_has ls 4 [(3, .int (nI i)), (2, .int (nI (cb_cnt (fun j => decide (¬ G 2 k j ≤ 0)) i))), (0, .ref (κ 0)), (1, .int (nI k))]), W p l e ({ frames := 0, cells := 0, slots := 0, locals := 0 } : Room) s m ([.ref (κ 0), .int (nI k)] : List Value).toArray below meth c s.heap [] 0 0 (MQ below (gx_Ri (fun r => r = nI (cb_cnt (fun j => decide (¬ G 2 k j ≤ 0)) 6))) ([.ref (κ 0), .int (nI k)] : List Value).toArray s 0 0 (fun _ => False)) (F0 m 4 ls []) := by
    intro nn
    induction nn with
    | zero =>
      intro i ls hi hin hl
      exact absurd hin (by omega)
    | succ nn ih =>
      intro i ls hi hin hl
      refine lv_iload_n hx hb d_PB_kindsThatWait_4 rfl (lv_at hl 0 rfl) ?_
      refine lv_bipush (v := 6) hx hb d_PB_kindsThatWait_5 (by decide) ?_
      refine lv_icmp_ge (tgt := 30) hx hb d_PB_kindsThatWait_7 (by decide) (fun c_7 => ?_) (fun c_7 => ?_)
      · skip
        have hi6 : i = 6 := by have := gx_ngt (a := 6) c_7; omega
        subst hi6
        refine lv_iload_n hx hb d_PB_kindsThatWait_30 rfl (lv_at hl 1 rfl) ?_
        exact gx_ireti hx hb hr hlocks rfl d_PB_kindsThatWait_31 (rfl)
      · skip
        have hi6 : i < 6 := gx_nlt (a := 6) c_7
        refine lv_aload_n hx hb d_PB_kindsThatWait_10 rfl (lv_at hl 2 rfl) ?_
        refine va_get (D := D) (ci := iPB) (v := .ref (κ 17)) (C := R_PB) (T := F_PB) (N := 11) hx hb (fl_PB hg) (fun _ h9 => h9) hown hK hP 0 (hI.1) rfl 3 (by decide) (hg _ k_91) (fun _ h9 => h9) rfl d_PB_kindsThatWait_11 ?_
        refine lv_iload_n hx hb d_PB_kindsThatWait_14 rfl (lv_at hl 3 rfl) ?_
        refine gx_al hx hb hK hP 17 3 (hI.2.2.2.2.2.1 2 (by decide)) rfl rfl k (v := ra 2 k) (rfl) (hk) (by decide) (if_pos (hk)) d_PB_kindsThatWait_15 ?_
        refine lv_iload_n hx hb d_PB_kindsThatWait_16 rfl (lv_at hl 0 rfl) ?_
        refine gx_il hx hb hK hP (cb_gp 2 + 1 + k) 0 (hI.2.2.2.2.2.2 2 (by decide) k (hk)) rfl i (rfl) (hi6) (by decide) d_PB_kindsThatWait_17 ?_
        refine lv_if_le (tgt := 24) hx hb d_PB_kindsThatWait_18 (by decide) (fun c_18 => ?_) (fun c_18 => ?_)
        · skip
          refine lv_iinc (v := nI (i + 1)) (lv' := [(3, .int (nI (i + 1))), (2, .int (nI (cb_cnt (fun j => decide (¬ G 2 k j ≤ 0)) i))), (0, .ref (κ 0)), (1, .int (nI k))]) hx hb d_PB_kindsThatWait_24 hl (k := 0) rfl (by rw [lit1]; exact nI_1 i) (by decide) rfl (fun ls hl => ?_)
          refine lv_goto (tgt := 4) hx hb d_PB_kindsThatWait_27 (by decide) ?_
          exact ih (i + 1) ls (by omega) (by omega) (by rw [cb_cnt_n (q := (fun j => decide (¬ G 2 k j ≤ 0))) (by simpa using c_18)]; exact lv_sub hl [0, 1, 2, 3] rfl)
        · skip
          refine lv_iinc (v := nI (cb_cnt (fun j => decide (¬ G 2 k j ≤ 0)) i + 1)) (lv' := [(2, .int (nI (cb_cnt (fun j => decide (¬ G 2 k j ≤ 0)) i + 1))), (3, .int (nI i)), (0, .ref (κ 0)), (1, .int (nI k))]) hx hb d_PB_kindsThatWait_21 hl (k := 1) rfl (by rw [lit1]; exact nI_1 _) (by decide) rfl (fun ls hl => ?_)
          refine lv_iinc (v := nI (i + 1)) (lv' := [(3, .int (nI (i + 1))), (2, .int (nI (cb_cnt (fun j => decide (¬ G 2 k j ≤ 0)) i + 1))), (0, .ref (κ 0)), (1, .int (nI k))]) hx hb d_PB_kindsThatWait_24 hl (k := 1) rfl (by rw [lit1]; exact nI_1 i) (by decide) rfl (fun ls hl => ?_)
          refine lv_goto (tgt := 4) hx hb d_PB_kindsThatWait_27 (by decide) ?_
          exact ih (i + 1) ls (by omega) (by omega) (by rw [cb_cnt_s (q := (fun j => decide (¬ G 2 k j ≤ 0))) (by simpa using c_18)]; exact lv_sub hl [0, 1, 2, 3] rfl)
  exact loop 7 0 ls (by decide) (by decide) (lv_sub hl [0, 1, 2, 3] rfl)
end
section
set_option maxRecDepth 100000 in
set_option maxHeartbeats 4000000 in
theorem c_TT_next {l : Launch} {s0 : State} {D : va_G} {cI cC cJ cII cO cZ : ClassId} (F : FX l s0 D cI cC cJ cII cO cZ) {ws : va_W} {κ : Nat → Nat} {ra : Nat → Nat → Nat} {z sg : Nat → Int32} {G : Nat → Nat → Nat → Int32} {we : Nat → Int32} {pd : Nat → Int64} (hI : cb_I cI cC cJ cII ws κ ra z sg G we pd) (sz : Nat) (n a : Nat) (hn : n ≤ 120) (ha : a ≤ 400) (h0 : z 0 = nI n) (h1 : z 1 = nI a) (hc : ∀ j, narrow .char (.int (sg j)) = .int (sg j))  : Met l y_TT_next [.code y_TT_next b_TT_next 1 (some .char)] { frames := 0, cells := 0, slots := 0, locals := 0 } (gx_P s0 D classes ws sz [.ref (κ 1)]) (gx_Ri (fun r => r = cb_nx sg n a)) 0 0 (fun _ => False) := by
  refine gx_met (by decide +kernel) (Nat.le_of_ble_eq_true rfl) ?_
  intro p e s m below meth c ls hx hb hr hml hown hlocks hnm hsz hV hP hD hS hA hA0 hl
  have hg := fx_g F hV ([.ref (κ 1)] : List Value).toArray
  have hK := fx_k F hV
  have hn9 := fx_n F hV
  have hl : lv_has ls 1 [(0, .ref (κ 1))] := hl
  refine lv_aload_n hx hb d_TT_next_0 rfl (lv_at hl 0 rfl) ?_
  refine va_get (D := D) (ci := iTT) (v := .int (z 1)) (C := R_TT) (T := F_TT) (N := 5) hx hb (fl_TT hg) (fun _ h9 => h9) hown hK hP 1 (hI.2.1) rfl 2 (by decide) (hg _ k_40) (fun _ h9 => h9) rfl d_TT_next_1 ?_
  refine lv_aload_n hx hb d_TT_next_4 rfl (lv_at hl 0 rfl) ?_
  refine va_get (D := D) (ci := iTT) (v := .int (z 0)) (C := R_TT) (T := F_TT) (N := 5) hx hb (fl_TT hg) (fun _ h9 => h9) hown hK hP 1 (hI.2.1) rfl 1 (by decide) (hg _ k_38) (fun _ h9 => h9) rfl d_TT_next_5 ?_
  refine lv_icmp_ge (tgt := 23) hx hb d_TT_next_8 (by decide) (fun c_8 => ?_) (fun c_8 => ?_)
  · skip
    rw [h0, h1] at c_8
    have hge := gx_ngt c_8
    refine lv_iconst (v := 0) hx hb d_TT_next_23 (by decide) ?_
    exact gx_ireti hx hb hr hlocks rfl d_TT_next_24 ((if_neg (by omega)).symm)
  · skip
    rw [h0, h1] at c_8
    have hlt : a < n := gx_nlt c_8
    refine lv_aload_n hx hb d_TT_next_11 rfl (lv_at hl 0 rfl) ?_
    refine va_get (D := D) (ci := iTT) (v := .ref (κ 2)) (C := R_TT) (T := F_TT) (N := 5) hx hb (fl_TT hg) (fun _ h9 => h9) hown hK hP 1 (hI.2.1) rfl 0 (by decide) (hg _ k_37) (fun _ h9 => h9) rfl d_TT_next_12 ?_
    refine lv_aload_n hx hb d_TT_next_15 rfl (lv_at hl 0 rfl) ?_
    refine va_get (D := D) (ci := iTT) (v := .int (z 1)) (C := R_TT) (T := F_TT) (N := 5) hx hb (fl_TT hg) (fun _ h9 => h9) hown hK hP 1 (hI.2.1) rfl 2 (by decide) (hg _ k_40) (fun _ h9 => h9) rfl d_TT_next_16 ?_
    refine gx_cl hx hb hK hP 2 1 (hI.2.2.1) rfl a (h1) (by omega) (by decide) d_TT_next_19 ?_
    refine lv_goto (tgt := 24) hx hb d_TT_next_20 (by decide) ?_
    exact gx_ireti hx hb hr hlocks (hc a) d_TT_next_24 ((if_pos hlt).symm)

set_option maxRecDepth 100000 in
set_option maxHeartbeats 4000000 in
theorem c_TT_passes {l : Launch} {s0 : State} {D : va_G} {cI cC cJ cII cO cZ : ClassId} (F : FX l s0 D cI cC cJ cII cO cZ) {ws : va_W} {κ : Nat → Nat} {ra : Nat → Nat → Nat} {z sg : Nat → Int32} {G : Nat → Nat → Nat → Int32} {we : Nat → Int32} {pd : Nat → Int64} (hI : cb_I cI cC cJ cII ws κ ra z sg G we pd) (sz : Nat) (n a : Nat) (hn : n ≤ 120) (ha : a ≤ 400) (h0 : z 0 = nI n) (h1 : z 1 = nI a) (hc : ∀ j, narrow .char (.int (sg j)) = .int (sg j)) (p0 : Int32)  : Met l y_TT_passes [.code y_TT_passes b_TT_passes 2 (some .boolean)] { frames := 1, cells := 0, slots := 0, locals := 40 } (gx_P s0 D classes ws sz [.ref (κ 1), .int p0]) (va_Qi (fun r w1 => (r = 0 ∧ ¬ cb_nx sg n a = p0 ∧ w1 = ws) ∨ (r = 1 ∧ cb_nx sg n a = p0 ∧ cb_I cI cC cJ cII w1 κ ra (upd z 1 (nI (a + 1))) sg G we pd ∧ cb_hi ws w1)) (gx_B D classes ws sz) (va_A ws sz)) 0 0 (va_A ws sz) := by
  refine gx_met (by decide +kernel) (Nat.le_of_ble_eq_true rfl) ?_
  intro p e s m below meth c ls hx hb hr hml hown hlocks hnm hsz hV hP hD hS hA hA0 hl
  have hg := fx_g F hV ([.ref (κ 1), .int p0] : List Value).toArray
  have hK := fx_k F hV
  have hn9 := fx_n F hV
  have hl : lv_has ls 2 [(0, .ref (κ 1)), (1, .int p0)] := hl
  have hH : cb_hi ws ws := fun _ _ => rfl
  refine lv_aload_n hx hb d_TT_passes_0 rfl (lv_at hl 0 rfl) ?_
  refine gx_readi (va_runV (As := []) (rest := []) ⟨hx, hb, hml, hown, gx_nil⟩ (c_TT_next F hI _ n a hn ha h0 h1 hc) ⟨gx_cb (hg _ k_146) (hg _ k_2) (hg _ k_143) nd_TT_next ⟨by decide, by decide⟩, hg _ k_145, hg _ ks_3⟩ (gx_preV hV hP hD hS hA0 (va_recv hK hP rfl (hI.2.1))) rfl rfl hl.1 rfl (lv_room (Nat.le_of_ble_eq_true rfl)) d_TT_passes_1 ⟨by decide, by decide⟩) (fun r_1 h_1 => ?_)
  refine lv_iload_n hx hb d_TT_passes_4 rfl (lv_at hl 1 rfl) ?_
  refine lv_icmp_eq (tgt := 10) hx hb d_TT_passes_5 (by decide) (fun c_5 => ?_) (fun c_5 => ?_)
  · skip
    refine lv_aload_n hx hb d_TT_passes_10 rfl (lv_at hl 0 rfl) ?_
    refine lv_dup hx hb d_TT_passes_11 rfl ?_
    refine va_get (D := D) (ci := iTT) (v := .int (z 1)) (C := R_TT) (T := F_TT) (N := 5) hx hb (fl_TT hg) (fun _ h9 => h9) hown hK hP 1 (hI.2.1) rfl 2 (by decide) (hg _ k_40) (fun _ h9 => h9) rfl d_TT_passes_12 ?_
    refine lv_iconst (v := 1) hx hb d_TT_passes_15 (by decide) ?_
    refine lv_iadd hx hb d_TT_passes_16 ?_
    refine va_put (D := D) (ci := iTT) (v := .int ((z 1) + 1)) (ty := .int) (C := R_TT) (T := F_TT) (N := 5) hx hb (fl_TT hg) (fun _ h9 => h9) t_TT t_TT_ok n_TT hown hK hP hD hS 1 (hI.2.1) rfl 2 (by decide) (hg _ k_40) (fun _ h9 => h9) rfl (by decide +kernel) rfl rfl (Nat.le_of_ble_eq_true rfl) d_TT_passes_17 (fun H locs hP hD hS => ?_)
    obtain ⟨w_1, ew_1⟩ : ∃ x : va_W, x = ws.set 1 (κ 1, .inr (iTT, [.ref (κ 2), .int (z 0), .int ((z 1) + 1), .ref (κ 3), .int (z 2)])) := ⟨_, rfl⟩
    replace hP : va_P D classes w_1 H := by rw [ew_1]; exact hP
    replace hD : va_D (va_A ws sz) w_1 := by rw [ew_1]; exact hD
    replace hI : cb_I cI cC cJ cII w_1 κ ra (upd z 1 ((z 1) + 1)) sg G we pd := by rw [ew_1]; exact cb_I.text (z := z) (z' := upd z 1 ((z 1) + 1)) rfl rfl hI
    replace hH : cb_hi ws w_1 := by rw [ew_1]; exact cb_hi.set (by decide) hH
    refine lv_iconst (v := 1) hx hb d_TT_passes_20 (by decide) ?_
    exact gx_iret hx hb hr hlocks rfl hS hP hD (by decide) (by decide) d_TT_passes_21 (Or.inr ⟨rfl, h_1 ▸ c_5, by have h9 := hI; rw [h1, nI_1] at h9; exact h9, hH⟩)
  · skip
    refine lv_iconst (v := 0) hx hb d_TT_passes_8 (by decide) ?_
    exact gx_iret hx hb hr hlocks rfl hS hP hD (by decide) (by decide) d_TT_passes_9 (Or.inl ⟨rfl, h_1 ▸ c_5, rfl⟩)

set_option maxRecDepth 100000 in
set_option maxHeartbeats 4000000 in
theorem c_TT_clear {l : Launch} {s0 : State} {D : va_G} {cI cC cJ cII cO cZ : ClassId} (F : FX l s0 D cI cC cJ cII cO cZ) {ws : va_W} {κ : Nat → Nat} {ra : Nat → Nat → Nat} {z sg : Nat → Int32} {G : Nat → Nat → Nat → Int32} {we : Nat → Int32} {pd : Nat → Int64} (hI : cb_I cI cC cJ cII ws κ ra z sg G we pd) (sz : Nat)   : Met l y_TT_clear [.code y_TT_clear b_TT_clear 1 none] { frames := 0, cells := 0, slots := 0, locals := 0 } (gx_P s0 D classes ws sz [.ref (κ 1)]) (va_Qv (fun w1 => cb_I cI cC cJ cII w1 κ ra (upd z 0 0) sg G we pd ∧ cb_hi ws w1) (gx_B D classes ws sz) (va_A ws sz)) 0 0 (va_A ws sz) := by
  refine gx_met (by decide +kernel) (Nat.le_of_ble_eq_true rfl) ?_
  intro p e s m below meth c ls hx hb hr hml hown hlocks hnm hsz hV hP hD hS hA hA0 hl
  have hg := fx_g F hV ([.ref (κ 1)] : List Value).toArray
  have hK := fx_k F hV
  have hn9 := fx_n F hV
  have hl : lv_has ls 1 [(0, .ref (κ 1))] := hl
  have hH : cb_hi ws ws := fun _ _ => rfl
  refine lv_aload_n hx hb d_TT_clear_0 rfl (lv_at hl 0 rfl) ?_
  refine lv_iconst (v := 0) hx hb d_TT_clear_1 (by decide) ?_
  refine va_put (D := D) (ci := iTT) (v := .int 0) (ty := .int) (C := R_TT) (T := F_TT) (N := 5) hx hb (fl_TT hg) (fun _ h9 => h9) t_TT t_TT_ok n_TT hown hK hP hD hS 1 (hI.2.1) rfl 1 (by decide) (hg _ k_38) (fun _ h9 => h9) rfl (by decide +kernel) rfl rfl (Nat.le_of_ble_eq_true rfl) d_TT_clear_2 (fun H locs hP hD hS => ?_)
  obtain ⟨w_1, ew_1⟩ : ∃ x : va_W, x = ws.set 1 (κ 1, .inr (iTT, [.ref (κ 2), .int 0, .int (z 1), .ref (κ 3), .int (z 2)])) := ⟨_, rfl⟩
  replace hP : va_P D classes w_1 H := by rw [ew_1]; exact hP
  replace hD : va_D (va_A ws sz) w_1 := by rw [ew_1]; exact hD
  replace hI : cb_I cI cC cJ cII w_1 κ ra (upd z 0 0) sg G we pd := by rw [ew_1]; exact cb_I.text (z := z) (z' := upd z 0 0) rfl rfl hI
  replace hH : cb_hi ws w_1 := by rw [ew_1]; exact cb_hi.set (by decide) hH
  exact gx_vret hx hb hr hlocks hS hP hD (by decide) (by decide) d_TT_clear_5 (⟨hI, hH⟩)

set_option maxRecDepth 100000 in
set_option maxHeartbeats 4000000 in
theorem c_TT_takes {l : Launch} {s0 : State} {D : va_G} {cI cC cJ cII cO cZ : ClassId} (F : FX l s0 D cI cC cJ cII cO cZ) {ws : va_W} {κ : Nat → Nat} {ra : Nat → Nat → Nat} {z sg : Nat → Int32} {G : Nat → Nat → Nat → Int32} {we : Nat → Int32} {pd : Nat → Int64} (hI : cb_I cI cC cJ cII ws κ ra z sg G we pd) (sz : Nat) (n : Nat) (hn : n ≤ 120) (h0 : z 0 = nI n) (p0 : Int32)  : Met l y_TT_takes [.code y_TT_takes b_TT_takes 2 (some .boolean)] { frames := 0, cells := 0, slots := 0, locals := 0 } (gx_P s0 D classes ws sz [.ref (κ 1), .int p0]) (va_Qi (fun r w1 => (r = 0 ∧ (p0 < 33 ∨ 126 < p0 ∨ n = 120) ∧ w1 = ws) ∨ (r = 1 ∧ ¬ p0 < 33 ∧ ¬ 126 < p0 ∧ n < 120 ∧ cb_I cI cC cJ cII w1 κ ra (upd z 0 (z 0 + 1)) (upd sg n p0) G we pd ∧ cb_hi ws w1)) (gx_B D classes ws sz) (va_A ws sz)) 0 0 (va_A ws sz) := by
  refine gx_met (by decide +kernel) (Nat.le_of_ble_eq_true rfl) ?_
  intro p e s m below meth c ls hx hb hr hml hown hlocks hnm hsz hV hP hD hS hA hA0 hl
  have hg := fx_g F hV ([.ref (κ 1), .int p0] : List Value).toArray
  have hK := fx_k F hV
  have hn9 := fx_n F hV
  have hl : lv_has ls 2 [(0, .ref (κ 1)), (1, .int p0)] := hl
  have hH : cb_hi ws ws := fun _ _ => rfl
  refine lv_iload_n hx hb d_TT_takes_0 rfl (lv_at hl 1 rfl) ?_
  refine lv_bipush (v := 33) hx hb d_TT_takes_1 (by decide) ?_
  refine lv_icmp_lt (tgt := 21) hx hb d_TT_takes_3 (by decide) (fun c_3 => ?_) (fun c_3 => ?_)
  · skip
    refine lv_iconst (v := 0) hx hb d_TT_takes_21 (by decide) ?_
    exact gx_iret hx hb hr hlocks rfl hS hP hD (by decide) (by decide) d_TT_takes_22 (Or.inl ⟨rfl, Or.inl c_3, rfl⟩)
  · skip
    refine lv_iload_n hx hb d_TT_takes_6 rfl (lv_at hl 1 rfl) ?_
    refine lv_bipush (v := 126) hx hb d_TT_takes_7 (by decide) ?_
    refine lv_icmp_gt (tgt := 21) hx hb d_TT_takes_9 (by decide) (fun c_9 => ?_) (fun c_9 => ?_)
    · skip
      refine lv_iconst (v := 0) hx hb d_TT_takes_21 (by decide) ?_
      exact gx_iret hx hb hr hlocks rfl hS hP hD (by decide) (by decide) d_TT_takes_22 (Or.inl ⟨rfl, Or.inr (Or.inl c_9), rfl⟩)
    · skip
      refine lv_aload_n hx hb d_TT_takes_12 rfl (lv_at hl 0 rfl) ?_
      refine va_get (D := D) (ci := iTT) (v := .int (z 0)) (C := R_TT) (T := F_TT) (N := 5) hx hb (fl_TT hg) (fun _ h9 => h9) hown hK hP 1 (hI.2.1) rfl 1 (by decide) (hg _ k_38) (fun _ h9 => h9) rfl d_TT_takes_13 ?_
      refine lv_bipush (v := 120) hx hb d_TT_takes_16 (by decide) ?_
      refine lv_icmp_lt (tgt := 23) hx hb d_TT_takes_18 (by decide) (fun c_18 => ?_) (fun c_18 => ?_)
      · skip
        rw [h0] at c_18
        have hlt : n < 120 := gx_ltn (b := 120) c_18
        refine lv_aload_n hx hb d_TT_takes_23 rfl (lv_at hl 0 rfl) ?_
        refine va_get (D := D) (ci := iTT) (v := .ref (κ 2)) (C := R_TT) (T := F_TT) (N := 5) hx hb (fl_TT hg) (fun _ h9 => h9) hown hK hP 1 (hI.2.1) rfl 0 (by decide) (hg _ k_37) (fun _ h9 => h9) rfl d_TT_takes_24 ?_
        refine lv_aload_n hx hb d_TT_takes_27 rfl (lv_at hl 0 rfl) ?_
        refine va_get (D := D) (ci := iTT) (v := .int (z 0)) (C := R_TT) (T := F_TT) (N := 5) hx hb (fl_TT hg) (fun _ h9 => h9) hown hK hP 1 (hI.2.1) rfl 1 (by decide) (hg _ k_38) (fun _ h9 => h9) rfl d_TT_takes_28 ?_
        refine lv_iload_n hx hb d_TT_takes_31 rfl (lv_at hl 1 rfl) ?_
        refine lv_i2c (v := p0) hx hb d_TT_takes_32 (cb_i2c c_3 c_9) ?_
        refine gx_cs hx hb hK hP hD hS 2 1 (hI.2.2.1) rfl n (h0) (by omega) (by decide) (cb_nar c_3 c_9) d_TT_takes_33 (fun H locs hP hD hS => ?_)
        obtain ⟨w_1, ew_1⟩ : ∃ x : va_W, x = ws.set 2 (κ 2, .inl (cC, 120, .inl (upd sg n p0))) := ⟨_, rfl⟩
        replace hP : va_P D classes w_1 H := by rw [ew_1]; exact hP
        replace hD : va_D (va_A ws sz) w_1 := by rw [ew_1]; exact hD
        replace hI : cb_I cI cC cJ cII w_1 κ ra z (upd sg n p0) G we pd := by rw [ew_1]; exact cb_I.signs hI
        replace hH : cb_hi ws w_1 := by rw [ew_1]; exact cb_hi.set (by decide) hH
        refine lv_aload_n hx hb d_TT_takes_34 rfl (lv_at hl 0 rfl) ?_
        refine lv_dup hx hb d_TT_takes_35 rfl ?_
        refine va_get (D := D) (ci := iTT) (v := .int (z 0)) (C := R_TT) (T := F_TT) (N := 5) hx hb (fl_TT hg) (fun _ h9 => h9) hown hK hP 1 (hI.2.1) rfl 1 (by decide) (hg _ k_38) (fun _ h9 => h9) rfl d_TT_takes_36 ?_
        refine lv_iconst (v := 1) hx hb d_TT_takes_39 (by decide) ?_
        refine lv_iadd hx hb d_TT_takes_40 ?_
        refine va_put (D := D) (ci := iTT) (v := .int ((z 0) + 1)) (ty := .int) (C := R_TT) (T := F_TT) (N := 5) hx hb (fl_TT hg) (fun _ h9 => h9) t_TT t_TT_ok n_TT hown hK hP hD hS 1 (hI.2.1) rfl 1 (by decide) (hg _ k_38) (fun _ h9 => h9) rfl (by decide +kernel) rfl rfl (Nat.le_of_ble_eq_true rfl) d_TT_takes_41 (fun H locs hP hD hS => ?_)
        obtain ⟨w_2, ew_2⟩ : ∃ x : va_W, x = w_1.set 1 (κ 1, .inr (iTT, [.ref (κ 2), .int ((z 0) + 1), .int (z 1), .ref (κ 3), .int (z 2)])) := ⟨_, rfl⟩
        replace hP : va_P D classes w_2 H := by rw [ew_2]; exact hP
        replace hD : va_D (va_A ws sz) w_2 := by rw [ew_2]; exact hD
        replace hI : cb_I cI cC cJ cII w_2 κ ra (upd z 0 ((z 0) + 1)) (upd sg n p0) G we pd := by rw [ew_2]; exact cb_I.text (z := z) (z' := upd z 0 ((z 0) + 1)) rfl rfl hI
        replace hH : cb_hi ws w_2 := by rw [ew_2]; exact cb_hi.set (by decide) hH
        refine lv_iconst (v := 1) hx hb d_TT_takes_44 (by decide) ?_
        exact gx_iret hx hb hr hlocks rfl hS hP hD (by decide) (by decide) d_TT_takes_45 (Or.inr ⟨rfl, c_3, c_9, hlt, hI, hH⟩)
      · skip
        rw [h0] at c_18
        have hge : ¬ n < 120 := gx_nltn (b := 120) c_18
        refine lv_iconst (v := 0) hx hb d_TT_takes_21 (by decide) ?_
        exact gx_iret hx hb hr hlocks rfl hS hP hD (by decide) (by decide) d_TT_takes_22 (Or.inl ⟨rfl, Or.inr (Or.inr (by omega)), rfl⟩)
end
section
set_option maxRecDepth 100000 in
set_option maxHeartbeats 4000000 in
theorem c_TT_readNumber {l : Launch} {s0 : State} {D : va_G} {cI cC cJ cII cO cZ : ClassId} (F : FX l s0 D cI cC cJ cII cO cZ) {ws : va_W} {κ : Nat → Nat} {ra : Nat → Nat → Nat} {z sg : Nat → Int32} {G : Nat → Nat → Nat → Int32} {we : Nat → Int32} {pd : Nat → Int64} (hI : cb_I cI cC cJ cII ws κ ra z sg G we pd) (sz : Nat) (n a : Nat) (hn : n ≤ 120) (ha : a ≤ 400) (h0 : z 0 = nI n) (h1 : z 1 = nI a) (hc : ∀ j, narrow .char (.int (sg j)) = .int (sg j)) (ha2 : a ≤ 300) (kk pt mo : Nat) (hkk : kk < 6) (hpt : pt < 4) (hmo : mo ≤ 6)  : Met l y_TT_readNumber [.code y_TT_readNumber b_TT_readNumber 6 (some .boolean)] { frames := 2, cells := 0, slots := 0, locals := 80 } (gx_P s0 D classes ws sz [.ref (κ 1), .ref (ra 0 kk), .int (nI pt), .int (nI mo)]) (va_Qi (fun r w1 => ∃ (a' : Nat) (v' : Int32), cb_num sg n mo a 0 = (a', v') ∧ a' ≤ a + 6 ∧ ((r = 1 ∧ a < a') ∨ (r = 0 ∧ a' = a)) ∧ cb_I cI cC cJ cII w1 κ ra (upd z 1 (nI a')) sg (cb_upg G 0 kk (upd (G 0 kk) pt v')) we pd ∧ cb_hi ws w1) (gx_B D classes ws sz) (va_A ws sz)) 0 0 (va_A ws sz) := by
  refine gx_met (by decide +kernel) (Nat.le_of_ble_eq_true rfl) ?_
  intro p e s m below meth c ls hx hb hr hml hown hlocks hnm hsz hV hP hD hS hA hA0 hl
  have hg := fx_g F hV ([.ref (κ 1), .ref (ra 0 kk), .int (nI pt), .int (nI mo)] : List Value).toArray
  have hK := fx_k F hV
  have hn9 := fx_n F hV
  have hl : lv_has ls 6 [(0, .ref (κ 1)), (1, .ref (ra 0 kk)), (2, .int (nI pt)), (3, .int (nI mo))] := hl
  have hH : cb_hi ws ws := fun _ _ => rfl
  refine lv_iconst (v := 0) hx hb d_TT_readNumber_0 (by decide) ?_
  refine lv_istore (lv' := [(4, .int 0), (0, .ref (κ 1)), (1, .ref (ra 0 kk)), (2, .int (nI pt)), (3, .int (nI mo))]) hx hb d_TT_readNumber_1 hl (by decide) rfl (fun ls hl => ?_)
  refine lv_iconst (v := 0) hx hb d_TT_readNumber_3 (by decide) ?_
  refine lv_istore (lv' := [(5, .int 0), (4, .int 0), (0, .ref (κ 1)), (1, .ref (ra 0 kk)), (2, .int (nI pt)), (3, .int (nI mo))]) hx hb d_TT_readNumber_4 hl (by decide) rfl (fun ls hl => ?_)
  have loop : ∀ (nn : Nat) (d : Nat) (v : Int32) (wx : va_W) (H : Heap) (locs : List Loc) (ls : Array Slot) (hd : d ≤ mo) (hf : mo + 1 ≤ d + nn) (hs : cb_num sg n (mo - d) (a + d) v = cb_num sg n mo a 0) (hI : cb_I cI cC cJ cII wx κ ra (upd z 1 (nI (a + d))) sg G we pd) (hH : cb_hi ws wx) (hP : va_P D classes wx H) (hD : va_D (va_A ws sz) wx) (hS : va_S (va_A ws sz) s.heap H locs) (hl : lv_has ls 6 [(4, .int (nI d)), (5, .int v), (0, .ref (κ 1)), (1, .ref (ra 0 kk)), (2, .int (nI pt)), (3, .int (nI mo))]), W p l e ({ frames := 2, cells := 0, slots := 0, locals := 80 } : Room) s m ([.ref (κ 1), .ref (ra 0 kk), .int (nI pt), .int (nI mo)] : List Value).toArray below meth c H locs 0 0 (MQ below (va_Qi (fun r w1 => ∃ (a' : Nat) (v' : Int32), cb_num sg n mo a 0 = (a', v') ∧ a' ≤ a + 6 ∧ ((r = 1 ∧ a < a') ∨ (r = 0 ∧ a' = a)) ∧ cb_I cI cC cJ cII w1 κ ra (upd z 1 (nI a')) sg (cb_upg G 0 kk (upd (G 0 kk) pt v')) we pd ∧ cb_hi ws w1) (gx_B D classes ws sz) (va_A ws sz)) ([.ref (κ 1), .ref (ra 0 kk), .int (nI pt), .int (nI mo)] : List Value).toArray s 0 0 (va_A ws sz)) (F0 m 6 ls []) := by
    intro nn
    induction nn with
    | zero =>
      intro d v wx H locs ls hd hf hs hI hH hP hD hS hl
      exact absurd hf (by omega)
    | succ nn ih =>
      intro d v wx H locs ls hd hf hs hI hH hP hD hS hl
      refine lv_iload hx hb d_TT_readNumber_6 (lv_at hl 0 rfl) ?_
      refine lv_iload_n hx hb d_TT_readNumber_8 rfl (lv_at hl 5 rfl) ?_
      refine lv_icmp_ge (tgt := 53) hx hb d_TT_readNumber_9 (by decide) (fun c_9 => ?_) (fun c_9 => ?_)
      · skip
        have hdm : d = mo := by have := gx_ngt c_9; omega
        have hfin : cb_num sg n mo a 0 = (a + d, v) := by rw [← hs, hdm, Nat.sub_self]; rfl
        refine lv_aload_n hx hb d_TT_readNumber_53 rfl (lv_at hl 3 rfl) ?_
        refine lv_iload_n hx hb d_TT_readNumber_54 rfl (lv_at hl 4 rfl) ?_
        refine lv_iload hx hb d_TT_readNumber_55 (lv_at hl 1 rfl) ?_
        refine gx_is hx hb hK hP hD hS (cb_gp 0 + 1 + kk) 0 (hI.2.2.2.2.2.2 0 (by decide) kk (hkk)) rfl pt (rfl) (hpt) (by decide) d_TT_readNumber_57 (fun H locs hP hD hS => ?_)
        obtain ⟨w_1, ew_1⟩ : ∃ x : va_W, x = wx.set (cb_gp 0 + 1 + kk) (ra 0 kk, .inl (cI, cb_wd 0, .inl (upd (G 0 kk) pt v))) := ⟨_, rfl⟩
        replace hP : va_P D classes w_1 H := by rw [ew_1]; exact hP
        replace hD : va_D (va_A ws sz) w_1 := by rw [ew_1]; exact hD
        replace hI : cb_I cI cC cJ cII w_1 κ ra (upd z 1 (nI (a + d))) sg (cb_upg G 0 kk (upd (G 0 kk) pt v)) we pd := by rw [ew_1]; exact cb_I.row (by decide) (hkk) hI
        replace hH : cb_hi ws w_1 := by rw [ew_1]; exact cb_hi.set (by have := cb_gp_lt 0 (by decide) kk (hkk); omega) hH
        refine lv_iload hx hb d_TT_readNumber_58 (lv_at hl 0 rfl) ?_
        refine lv_if_le (tgt := 67) hx hb d_TT_readNumber_60 (by decide) (fun c_60 => ?_) (fun c_60 => ?_)
        · skip
          have hd0 : d = 0 := by have := gx_ngt (b := 0) c_60; omega
          refine lv_iconst (v := 0) hx hb d_TT_readNumber_67 (by decide) ?_
          exact gx_iret hx hb hr hlocks rfl hS hP hD (by decide) (by decide) d_TT_readNumber_68 (⟨a + d, v, hfin, by omega, Or.inr ⟨rfl, by omega⟩, hI, hH⟩)
        · skip
          have hd0 : 0 < d := gx_npos c_60
          refine lv_iconst (v := 1) hx hb d_TT_readNumber_63 (by decide) ?_
          refine lv_goto (tgt := 68) hx hb d_TT_readNumber_64 (by decide) ?_
          exact gx_iret hx hb hr hlocks rfl hS hP hD (by decide) (by decide) d_TT_readNumber_68 (⟨a + d, v, hfin, by omega, Or.inl ⟨rfl, by omega⟩, hI, hH⟩)
      · skip
        have hdm : d < mo := gx_nlt c_9
        refine lv_aload_n hx hb d_TT_readNumber_12 rfl (lv_at hl 2 rfl) ?_
        refine gx_readi (va_runV (As := []) (rest := []) ⟨hx, hb, hml, hown, gx_nil⟩ (c_TT_next F hI _ n (a + d) hn (by omega) h0 rfl hc) ⟨gx_cb (hg _ k_146) (hg _ k_2) (hg _ k_143) nd_TT_next ⟨by decide, by decide⟩, hg _ k_145, hg _ ks_3⟩ (gx_preV hV hP hD hS hA0 (va_recv hK hP rfl (hI.2.1))) rfl rfl hl.1 rfl (lv_room (Nat.le_of_ble_eq_true rfl)) d_TT_readNumber_13 ⟨by decide, by decide⟩) (fun r_13 h_13 => ?_)
        subst h_13
        refine gx_readi (va_runS (As := [.int (cb_nx sg n (a + d))]) (rest := []) ⟨hx, hb, hml, hown, gx_nil⟩ (c_TT_isDigit F _ _ _) ⟨gx_cb (hg _ k_156) (hg _ k_2) (hg _ k_154) nd_TT_isDigit ⟨by decide, by decide⟩, hg _ k_155⟩ (gx_preS hV hP hD hS hA0) rfl rfl hl.1 rfl (lv_room (Nat.le_of_ble_eq_true rfl)) d_TT_readNumber_16 ⟨by decide, by decide⟩) (fun r_16 h_16 => ?_)
        rcases h_16 with ⟨rfl, hlo, hhi⟩ | ⟨rfl, hno⟩
        · skip
          refine lv_if_eq (tgt := 53) hx hb d_TT_readNumber_19 (by decide) (fun c_19 => absurd c_19 (by decide)) (fun c_19 => ?_)
          refine lv_iload hx hb d_TT_readNumber_22 (lv_at hl 1 rfl) ?_
          refine lv_bipush (v := 10) hx hb d_TT_readNumber_24 (by decide) ?_
          refine lv_imul hx hb d_TT_readNumber_26 ?_
          refine lv_aload_n hx hb d_TT_readNumber_27 rfl (lv_at hl 2 rfl) ?_
          refine gx_readi (va_runV (As := []) (rest := [.int (v * 10)]) ⟨hx, hb, hml, hown, gx_nil⟩ (c_TT_next F hI _ n (a + d) hn (by omega) h0 rfl hc) ⟨gx_cb (hg _ k_146) (hg _ k_2) (hg _ k_143) nd_TT_next ⟨by decide, by decide⟩, hg _ k_145, hg _ ks_3⟩ (gx_preV hV hP hD hS hA0 (va_recv hK hP rfl (hI.2.1))) rfl rfl hl.1 rfl (lv_room (Nat.le_of_ble_eq_true rfl)) d_TT_readNumber_28 ⟨by decide, by decide⟩) (fun r_28 h_28 => ?_)
          subst h_28
          refine lv_bipush (v := 48) hx hb d_TT_readNumber_31 (by decide) ?_
          refine lv_isub hx hb d_TT_readNumber_33 ?_
          refine lv_iadd hx hb d_TT_readNumber_34 ?_
          refine lv_istore (lv' := [(5, .int ((v * 10) + ((cb_nx sg n (a + d)) - 48))), (4, .int (nI d)), (0, .ref (κ 1)), (1, .ref (ra 0 kk)), (2, .int (nI pt)), (3, .int (nI mo))]) hx hb d_TT_readNumber_35 hl (by decide) rfl (fun ls hl => ?_)
          refine lv_iinc (v := nI (d + 1)) (lv' := [(4, .int (nI (d + 1))), (5, .int ((v * 10) + ((cb_nx sg n (a + d)) - 48))), (0, .ref (κ 1)), (1, .ref (ra 0 kk)), (2, .int (nI pt)), (3, .int (nI mo))]) hx hb d_TT_readNumber_37 hl (k := 1) rfl (by rw [lit1]; exact nI_1 d) (by decide) rfl (fun ls hl => ?_)
          refine lv_aload_n hx hb d_TT_readNumber_40 rfl (lv_at hl 2 rfl) ?_
          refine lv_dup hx hb d_TT_readNumber_41 rfl ?_
          refine va_get (D := D) (ci := iTT) (v := .int (nI (a + d))) (C := R_TT) (T := F_TT) (N := 5) hx hb (fl_TT hg) (fun _ h9 => h9) hown hK hP 1 (hI.2.1) rfl 2 (by decide) (hg _ k_40) (fun _ h9 => h9) rfl d_TT_readNumber_42 ?_
          refine lv_iconst (v := 1) hx hb d_TT_readNumber_45 (by decide) ?_
          refine lv_iadd hx hb d_TT_readNumber_46 ?_
          refine va_put (D := D) (ci := iTT) (v := .int ((nI (a + d)) + 1)) (ty := .int) (C := R_TT) (T := F_TT) (N := 5) hx hb (fl_TT hg) (fun _ h9 => h9) t_TT t_TT_ok n_TT hown hK hP hD hS 1 (hI.2.1) rfl 2 (by decide) (hg _ k_40) (fun _ h9 => h9) rfl (by decide +kernel) rfl rfl (Nat.le_of_ble_eq_true rfl) d_TT_readNumber_47 (fun H locs hP hD hS => ?_)
          obtain ⟨w_2, ew_2⟩ : ∃ x : va_W, x = wx.set 1 (κ 1, .inr (iTT, [.ref (κ 2), .int (upd z 1 (nI (a + d)) 0), .int ((nI (a + d)) + 1), .ref (κ 3), .int (upd z 1 (nI (a + d)) 2)])) := ⟨_, rfl⟩
          replace hP : va_P D classes w_2 H := by rw [ew_2]; exact hP
          replace hD : va_D (va_A ws sz) w_2 := by rw [ew_2]; exact hD
          replace hI : cb_I cI cC cJ cII w_2 κ ra (upd (upd z 1 (nI (a + d))) 1 ((nI (a + d)) + 1)) sg G we pd := by rw [ew_2]; exact cb_I.text (z := (upd z 1 (nI (a + d)))) (z' := upd (upd z 1 (nI (a + d))) 1 ((nI (a + d)) + 1)) rfl rfl hI
          replace hH : cb_hi ws w_2 := by rw [ew_2]; exact cb_hi.set (by decide) hH
          refine lv_goto (tgt := 6) hx hb d_TT_readNumber_50 (by decide) ?_
          exact ih (d + 1) _ _ _ _ ls (by omega) (by omega) (by rw [← hs, show mo - d = (mo - (d + 1)) + 1 by omega, cb_num_s (fun z9 => z9.elim hlo hhi)]; rfl) (by have h9 := hI; rw [cb_uu, nI_1, Nat.add_assoc] at h9; exact h9) hH hP hD hS (lv_sub hl [0, 1, 2, 3, 4, 5] rfl)
        · skip
          have hfin : cb_num sg n mo a 0 = (a + d, v) := by rw [← hs, show mo - d = (mo - (d + 1)) + 1 by omega, cb_num_e hno]
          refine lv_if_eq (tgt := 53) hx hb d_TT_readNumber_19 (by decide) (fun c_19 => ?_) (fun c_19 => absurd c_19 (by decide))
          refine lv_aload_n hx hb d_TT_readNumber_53 rfl (lv_at hl 3 rfl) ?_
          refine lv_iload_n hx hb d_TT_readNumber_54 rfl (lv_at hl 4 rfl) ?_
          refine lv_iload hx hb d_TT_readNumber_55 (lv_at hl 1 rfl) ?_
          refine gx_is hx hb hK hP hD hS (cb_gp 0 + 1 + kk) 0 (hI.2.2.2.2.2.2 0 (by decide) kk (hkk)) rfl pt (rfl) (hpt) (by decide) d_TT_readNumber_57 (fun H locs hP hD hS => ?_)
          obtain ⟨w_3, ew_3⟩ : ∃ x : va_W, x = wx.set (cb_gp 0 + 1 + kk) (ra 0 kk, .inl (cI, cb_wd 0, .inl (upd (G 0 kk) pt v))) := ⟨_, rfl⟩
          replace hP : va_P D classes w_3 H := by rw [ew_3]; exact hP
          replace hD : va_D (va_A ws sz) w_3 := by rw [ew_3]; exact hD
          replace hI : cb_I cI cC cJ cII w_3 κ ra (upd z 1 (nI (a + d))) sg (cb_upg G 0 kk (upd (G 0 kk) pt v)) we pd := by rw [ew_3]; exact cb_I.row (by decide) (hkk) hI
          replace hH : cb_hi ws w_3 := by rw [ew_3]; exact cb_hi.set (by have := cb_gp_lt 0 (by decide) kk (hkk); omega) hH
          refine lv_iload hx hb d_TT_readNumber_58 (lv_at hl 0 rfl) ?_
          refine lv_if_le (tgt := 67) hx hb d_TT_readNumber_60 (by decide) (fun c_60 => ?_) (fun c_60 => ?_)
          · skip
            have hd0 : d = 0 := by have := gx_ngt (b := 0) c_60; omega
            refine lv_iconst (v := 0) hx hb d_TT_readNumber_67 (by decide) ?_
            exact gx_iret hx hb hr hlocks rfl hS hP hD (by decide) (by decide) d_TT_readNumber_68 (⟨a + d, v, hfin, by omega, Or.inr ⟨rfl, by omega⟩, hI, hH⟩)
          · skip
            have hd0 : 0 < d := gx_npos c_60
            refine lv_iconst (v := 1) hx hb d_TT_readNumber_63 (by decide) ?_
            refine lv_goto (tgt := 68) hx hb d_TT_readNumber_64 (by decide) ?_
            exact gx_iret hx hb hr hlocks rfl hS hP hD (by decide) (by decide) d_TT_readNumber_68 (⟨a + d, v, hfin, by omega, Or.inl ⟨rfl, by omega⟩, hI, hH⟩)
  exact loop (mo + 1) 0 0 ws s.heap [] ls (by omega) (by omega) rfl (by rw [cb_us (by rw [Nat.add_zero]; exact h1)]; exact hI) hH hP hD hS (lv_sub hl [1, 0, 2, 3, 4, 5] rfl)
end
section
set_option maxRecDepth 100000 in
set_option maxHeartbeats 4000000 in
theorem c_TT_readRow {l : Launch} {s0 : State} {D : va_G} {cI cC cJ cII cO cZ : ClassId} (F : FX l s0 D cI cC cJ cII cO cZ) {ws : va_W} {κ : Nat → Nat} {ra : Nat → Nat → Nat} {z sg : Nat → Int32} {G : Nat → Nat → Nat → Int32} {we : Nat → Int32} {pd : Nat → Int64} (hI : cb_I cI cC cJ cII ws κ ra z sg G we pd) (sz : Nat) (n a : Nat) (hn : n ≤ 120) (ha : a ≤ 400) (h0 : z 0 = nI n) (h1 : z 1 = nI a) (hc : ∀ j, narrow .char (.int (sg j)) = .int (sg j)) (ha3 : a ≤ n)  : Met l y_TT_readRow [.code y_TT_readRow b_TT_readRow 3 (some .boolean)] { frames := 3, cells := 0, slots := 0, locals := 120 } (gx_P s0 D classes ws sz [.ref (κ 1)]) (va_Qi (fun r w1 => (r = 0 ∧ ∃ (b : Nat) (z' : Nat → Int32) (G' : Nat → Nat → Nat → Int32), cb_row sg n a = (false, b, 0, 0, 0, 0) ∧ cb_I cI cC cJ cII w1 κ ra z' sg G' we pd ∧ cb_hi ws w1 ∧ z' 1 = nI b ∧ b ≤ n ∧ (z' 0 = z 0 ∧ z' 3 = z 3 ∧ z' 4 = z 4 ∧ z' 5 = z 5) ∧ (∀ g, g ≠ 0 → G' g = G g)) ∨ (r = 1 ∧ ∃ (kk b : Nat) (rf : Nat → Int32), kk < 6 ∧ cb_nx sg n a - 65 = nI kk ∧ cb_row sg n a = (true, b, rf 0, rf 1, rf 2, rf 3) ∧ a < b ∧ b ≤ n ∧ cb_I cI cC cJ cII w1 κ ra (upd (upd z 2 (z 2 ||| ((1 : Int32) <<< (nI kk &&& 31)))) 1 (nI b)) sg (cb_upg G 0 kk rf) we pd ∧ cb_hi ws w1)) (gx_B D classes ws sz) (va_A ws sz)) 0 0 (va_A ws sz) := by
  refine gx_met (by decide +kernel) (Nat.le_of_ble_eq_true rfl) ?_
  intro p e s m below meth c ls hx hb hr hml hown hlocks hnm hsz hV hP hD hS hA hA0 hl
  have hg := fx_g F hV ([.ref (κ 1)] : List Value).toArray
  have hK := fx_k F hV
  have hn9 := fx_n F hV
  have hl : lv_has ls 3 [(0, .ref (κ 1))] := hl
  have hH : cb_hi ws ws := fun _ _ => rfl
  have st133 : ∀ (kk : Nat) (hkk : kk < 6) (hkd : cb_nx sg n a - 65 = nI kk) (b : Nat) (rf : Nat → Int32) (wx : va_W) (H : Heap) (locs : List Loc) (ls : Array Slot) (hab : a < b) (hbn : b ≤ n)  (hsp : cb_row5 sg n b (rf 0) (rf 1) (rf 2) (rf 3) = cb_row sg n a) (hI : cb_I cI cC cJ cII wx κ ra (upd (upd z 2 (z 2 ||| ((1 : Int32) <<< (nI kk &&& 31)))) 1 (nI b)) sg (cb_upg G 0 kk rf) we pd) (hH : cb_hi ws wx) (hP : va_P D classes wx H) (hD : va_D (va_A ws sz) wx) (hS : va_S (va_A ws sz) s.heap H locs) (hl : lv_has ls 3 [(0, .ref (κ 1)), (1, .int (nI kk)), (2, .ref (ra 0 kk))]), W p l e ({ frames := 3, cells := 0, slots := 0, locals := 120 } : Room) s m ([.ref (κ 1)] : List Value).toArray below meth c H locs 0 0 (MQ below (va_Qi (fun r w1 => (r = 0 ∧ ∃ (b : Nat) (z' : Nat → Int32) (G' : Nat → Nat → Nat → Int32), cb_row sg n a = (false, b, 0, 0, 0, 0) ∧ cb_I cI cC cJ cII w1 κ ra z' sg G' we pd ∧ cb_hi ws w1 ∧ z' 1 = nI b ∧ b ≤ n ∧ (z' 0 = z 0 ∧ z' 3 = z 3 ∧ z' 4 = z 4 ∧ z' 5 = z 5) ∧ (∀ g, g ≠ 0 → G' g = G g)) ∨ (r = 1 ∧ ∃ (kk b : Nat) (rf : Nat → Int32), kk < 6 ∧ cb_nx sg n a - 65 = nI kk ∧ cb_row sg n a = (true, b, rf 0, rf 1, rf 2, rf 3) ∧ a < b ∧ b ≤ n ∧ cb_I cI cC cJ cII w1 κ ra (upd (upd z 2 (z 2 ||| ((1 : Int32) <<< (nI kk &&& 31)))) 1 (nI b)) sg (cb_upg G 0 kk rf) we pd ∧ cb_hi ws w1)) (gx_B D classes ws sz) (va_A ws sz)) ([.ref (κ 1)] : List Value).toArray s 0 0 (va_A ws sz)) (F0 m 133 ls []) := by
    intro kk hkk hkd b rf wx H locs ls hab hbn  hsp hI hH hP hD hS hl
    refine lv_aload_n hx hb d_TT_readRow_133 rfl (lv_at hl 0 rfl) ?_
    refine lv_bipush (v := 59) hx hb d_TT_readRow_134 (by decide) ?_
    refine gx_calli (va_runV (As := [.int 59]) (rest := []) ⟨hx, hb, hml, hown, gx_nil⟩ (c_TT_passes F hI _ n b hn (by omega) h0 rfl hc _) ⟨gx_cb (hg _ k_160) (hg _ k_2) (hg _ k_157) nd_TT_passes ⟨by decide, by decide⟩, hg _ k_159, hg _ ks_5⟩ (gx_preV hV hP hD hS hA0 (va_recv hK hP rfl (hI.2.1))) rfl rfl hl.1 rfl (lv_room (Nat.le_of_ble_eq_true rfl)) d_TT_readRow_136 ⟨by decide, by decide⟩) hD hS hA (fun r_136 w1 H locs h_136 hP hD hS => ?_)
    rcases h_136 with ⟨rfl, hq, hw⟩ | ⟨rfl, hq, hI, hh⟩
    · skip
      rw [hw] at hP hD
      have hfail : cb_row sg n a = (false, b, 0, 0, 0, 0) := by rw [← hsp]; exact if_neg hq
      refine lv_if_eq (tgt := 146) hx hb d_TT_readRow_139 (by decide) (fun c_139 => ?_) (fun c_139 => absurd c_139 (by decide))
      refine lv_iconst (v := 0) hx hb d_TT_readRow_146 (by decide) ?_
      exact gx_iret hx hb hr hlocks rfl hS hP hD (by decide) (by decide) d_TT_readRow_147 (Or.inl ⟨rfl, _, _, _, hfail, hI, hH, rfl, by omega, ⟨rfl, rfl, rfl, rfl⟩, cb_gk_u⟩)
    · skip
      have hbn1 : b < n := cb_nx_lt (by decide) hq
      replace hI : cb_I cI cC cJ cII w1 κ ra (upd (upd z 2 (z 2 ||| ((1 : Int32) <<< (nI kk &&& 31)))) 1 (nI (b + 1))) sg (cb_upg G 0 kk rf) we pd := by rw [cb_uu] at hI; exact hI
      replace hH := cb_hi.trans hH hh
      have hok : cb_row sg n a = (true, b + 1, rf 0, rf 1, rf 2, rf 3) := by rw [← hsp]; exact if_pos hq
      refine lv_if_eq (tgt := 146) hx hb d_TT_readRow_139 (by decide) (fun c_139 => absurd c_139 (by decide)) (fun c_139 => ?_)
      refine lv_iconst (v := 1) hx hb d_TT_readRow_142 (by decide) ?_
      refine lv_goto (tgt := 147) hx hb d_TT_readRow_143 (by decide) ?_
      exact gx_iret hx hb hr hlocks rfl hS hP hD (by decide) (by decide) d_TT_readRow_147 (Or.inr ⟨rfl, kk, _, rf, hkk, hkd, hok, by omega, by omega, hI, hH⟩)
  have st113 : ∀ (kk : Nat) (hkk : kk < 6) (hkd : cb_nx sg n a - 65 = nI kk) (b : Nat) (rf : Nat → Int32) (wx : va_W) (H : Heap) (locs : List Loc) (ls : Array Slot) (hab : a < b) (hbn : b ≤ n) (hr3 : rf 3 = 0) (hsp : cb_row4 sg n b (rf 0) (rf 1) (rf 2) = cb_row sg n a) (hI : cb_I cI cC cJ cII wx κ ra (upd (upd z 2 (z 2 ||| ((1 : Int32) <<< (nI kk &&& 31)))) 1 (nI b)) sg (cb_upg G 0 kk rf) we pd) (hH : cb_hi ws wx) (hP : va_P D classes wx H) (hD : va_D (va_A ws sz) wx) (hS : va_S (va_A ws sz) s.heap H locs) (hl : lv_has ls 3 [(0, .ref (κ 1)), (1, .int (nI kk)), (2, .ref (ra 0 kk))]), W p l e ({ frames := 3, cells := 0, slots := 0, locals := 120 } : Room) s m ([.ref (κ 1)] : List Value).toArray below meth c H locs 0 0 (MQ below (va_Qi (fun r w1 => (r = 0 ∧ ∃ (b : Nat) (z' : Nat → Int32) (G' : Nat → Nat → Nat → Int32), cb_row sg n a = (false, b, 0, 0, 0, 0) ∧ cb_I cI cC cJ cII w1 κ ra z' sg G' we pd ∧ cb_hi ws w1 ∧ z' 1 = nI b ∧ b ≤ n ∧ (z' 0 = z 0 ∧ z' 3 = z 3 ∧ z' 4 = z 4 ∧ z' 5 = z 5) ∧ (∀ g, g ≠ 0 → G' g = G g)) ∨ (r = 1 ∧ ∃ (kk b : Nat) (rf : Nat → Int32), kk < 6 ∧ cb_nx sg n a - 65 = nI kk ∧ cb_row sg n a = (true, b, rf 0, rf 1, rf 2, rf 3) ∧ a < b ∧ b ≤ n ∧ cb_I cI cC cJ cII w1 κ ra (upd (upd z 2 (z 2 ||| ((1 : Int32) <<< (nI kk &&& 31)))) 1 (nI b)) sg (cb_upg G 0 kk rf) we pd ∧ cb_hi ws w1)) (gx_B D classes ws sz) (va_A ws sz)) ([.ref (κ 1)] : List Value).toArray s 0 0 (va_A ws sz)) (F0 m 113 ls []) := by
    intro kk hkk hkd b rf wx H locs ls hab hbn hr3 hsp hI hH hP hD hS hl
    refine lv_aload_n hx hb d_TT_readRow_113 rfl (lv_at hl 0 rfl) ?_
    refine lv_bipush (v := 62) hx hb d_TT_readRow_114 (by decide) ?_
    refine gx_calli (va_runV (As := [.int 62]) (rest := []) ⟨hx, hb, hml, hown, gx_nil⟩ (c_TT_passes F hI _ n b hn (by omega) h0 rfl hc _) ⟨gx_cb (hg _ k_160) (hg _ k_2) (hg _ k_157) nd_TT_passes ⟨by decide, by decide⟩, hg _ k_159, hg _ ks_5⟩ (gx_preV hV hP hD hS hA0 (va_recv hK hP rfl (hI.2.1))) rfl rfl hl.1 rfl (lv_room (Nat.le_of_ble_eq_true rfl)) d_TT_readRow_116 ⟨by decide, by decide⟩) hD hS hA (fun r_116 w1 H locs h_116 hP hD hS => ?_)
    rcases h_116 with ⟨rfl, hq, hw⟩ | ⟨rfl, hq, hI, hh⟩
    · skip
      rw [hw] at hP hD
      refine lv_if_eq (tgt := 133) hx hb d_TT_readRow_119 (by decide) (fun c_119 => ?_) (fun c_119 => absurd c_119 (by decide))
      exact st133 kk hkk hkd b rf _ _ _ ls (by omega) (by omega)  (by rw [← hsp]; exact Eq.symm ((if_neg hq).trans (by rw [hr3]))) hI hH hP hD hS (lv_sub hl [0, 1, 2] rfl)
    · skip
      have hbn1 : b < n := cb_nx_lt (by decide) hq
      replace hI : cb_I cI cC cJ cII w1 κ ra (upd (upd z 2 (z 2 ||| ((1 : Int32) <<< (nI kk &&& 31)))) 1 (nI (b + 1))) sg (cb_upg G 0 kk rf) we pd := by rw [cb_uu] at hI; exact hI
      replace hH := cb_hi.trans hH hh
      refine lv_if_eq (tgt := 133) hx hb d_TT_readRow_119 (by decide) (fun c_119 => absurd c_119 (by decide)) (fun c_119 => ?_)
      refine lv_aload_n hx hb d_TT_readRow_122 rfl (lv_at hl 0 rfl) ?_
      refine lv_aload_n hx hb d_TT_readRow_123 rfl (lv_at hl 2 rfl) ?_
      refine lv_iconst (v := 3) hx hb d_TT_readRow_124 (by decide) ?_
      refine lv_bipush (v := 6) hx hb d_TT_readRow_125 (by decide) ?_
      refine gx_calli (va_runV (As := [.ref (ra 0 kk), .int 3, .int 6]) (rest := []) ⟨hx, hb, hml, hown, gx_nil⟩ (c_TT_readNumber F hI _ n (b + 1) hn (by omega) h0 rfl hc (by omega) kk 3 6 hkk (by decide) (by decide)) ⟨gx_cb (hg _ k_153) (hg _ k_2) (hg _ k_150) nd_TT_readNumber ⟨by decide, by decide⟩, hg _ k_152, hg _ ks_4⟩ (gx_preV hV hP hD hS hA0 (va_recv hK hP rfl (hI.2.1))) rfl rfl hl.1 rfl (lv_room (Nat.le_of_ble_eq_true rfl)) d_TT_readRow_127 ⟨by decide, by decide⟩) hD hS hA (fun r_127 w1 H locs h_127 hP hD hS => ?_)
      obtain ⟨b', v', hnum, hb6, hcase, hI, hh⟩ := h_127
      replace hI : cb_I cI cC cJ cII w1 κ ra (upd (upd z 2 (z 2 ||| ((1 : Int32) <<< (nI kk &&& 31)))) 1 (nI b')) sg (cb_upg G 0 kk (upd rf 3 v')) we pd := by rw [cb_uu, cb_upg_s, cb_gg] at hI; exact hI
      replace hH := cb_hi.trans hH hh
      have hle := cb_num_le sg n 6 (b + 1) 0 (by omega)
      rw [hnum] at hle
      rcases hcase with ⟨rfl, hgt⟩ | ⟨rfl, heq⟩
      · skip
        refine lv_if_eq (tgt := 146) hx hb d_TT_readRow_130 (by decide) (fun c_130 => absurd c_130 (by decide)) (fun c_130 => ?_)
        exact st133 kk hkk hkd b' (upd rf 3 v') _ _ _ ls (by omega) (by omega)  (by rw [← hsp]; refine Eq.symm ((if_pos hq).trans ((if_neg (by rw [hnum]; exact Nat.ne_of_gt hgt)).trans (by rw [hnum]; rfl)))) hI hH hP hD hS (lv_sub hl [0, 1, 2] rfl)
      · skip
        have hfail : cb_row sg n a = (false, b', 0, 0, 0, 0) := by rw [← hsp, heq]; exact (if_pos hq).trans (if_pos (by rw [hnum]; exact heq))
        refine lv_if_eq (tgt := 146) hx hb d_TT_readRow_130 (by decide) (fun c_130 => ?_) (fun c_130 => absurd c_130 (by decide))
        refine lv_iconst (v := 0) hx hb d_TT_readRow_146 (by decide) ?_
        exact gx_iret hx hb hr hlocks rfl hS hP hD (by decide) (by decide) d_TT_readRow_147 (Or.inl ⟨rfl, _, _, _, hfail, hI, hH, rfl, by omega, ⟨rfl, rfl, rfl, rfl⟩, cb_gk_u⟩)
  have st94 : ∀ (kk : Nat) (hkk : kk < 6) (hkd : cb_nx sg n a - 65 = nI kk) (b : Nat) (rf : Nat → Int32) (wx : va_W) (H : Heap) (locs : List Loc) (ls : Array Slot) (hab : a < b) (hbn : b ≤ n) (hr2 : rf 2 = 0) (hr3 : rf 3 = 0) (hsp : cb_row3 sg n b (rf 0) (rf 1) = cb_row sg n a) (hI : cb_I cI cC cJ cII wx κ ra (upd (upd z 2 (z 2 ||| ((1 : Int32) <<< (nI kk &&& 31)))) 1 (nI b)) sg (cb_upg G 0 kk rf) we pd) (hH : cb_hi ws wx) (hP : va_P D classes wx H) (hD : va_D (va_A ws sz) wx) (hS : va_S (va_A ws sz) s.heap H locs) (hl : lv_has ls 3 [(0, .ref (κ 1)), (1, .int (nI kk)), (2, .ref (ra 0 kk))]), W p l e ({ frames := 3, cells := 0, slots := 0, locals := 120 } : Room) s m ([.ref (κ 1)] : List Value).toArray below meth c H locs 0 0 (MQ below (va_Qi (fun r w1 => (r = 0 ∧ ∃ (b : Nat) (z' : Nat → Int32) (G' : Nat → Nat → Nat → Int32), cb_row sg n a = (false, b, 0, 0, 0, 0) ∧ cb_I cI cC cJ cII w1 κ ra z' sg G' we pd ∧ cb_hi ws w1 ∧ z' 1 = nI b ∧ b ≤ n ∧ (z' 0 = z 0 ∧ z' 3 = z 3 ∧ z' 4 = z 4 ∧ z' 5 = z 5) ∧ (∀ g, g ≠ 0 → G' g = G g)) ∨ (r = 1 ∧ ∃ (kk b : Nat) (rf : Nat → Int32), kk < 6 ∧ cb_nx sg n a - 65 = nI kk ∧ cb_row sg n a = (true, b, rf 0, rf 1, rf 2, rf 3) ∧ a < b ∧ b ≤ n ∧ cb_I cI cC cJ cII w1 κ ra (upd (upd z 2 (z 2 ||| ((1 : Int32) <<< (nI kk &&& 31)))) 1 (nI b)) sg (cb_upg G 0 kk rf) we pd ∧ cb_hi ws w1)) (gx_B D classes ws sz) (va_A ws sz)) ([.ref (κ 1)] : List Value).toArray s 0 0 (va_A ws sz)) (F0 m 94 ls []) := by
    intro kk hkk hkd b rf wx H locs ls hab hbn hr2 hr3 hsp hI hH hP hD hS hl
    refine lv_aload_n hx hb d_TT_readRow_94 rfl (lv_at hl 0 rfl) ?_
    refine lv_bipush (v := 45) hx hb d_TT_readRow_95 (by decide) ?_
    refine gx_calli (va_runV (As := [.int 45]) (rest := []) ⟨hx, hb, hml, hown, gx_nil⟩ (c_TT_passes F hI _ n b hn (by omega) h0 rfl hc _) ⟨gx_cb (hg _ k_160) (hg _ k_2) (hg _ k_157) nd_TT_passes ⟨by decide, by decide⟩, hg _ k_159, hg _ ks_5⟩ (gx_preV hV hP hD hS hA0 (va_recv hK hP rfl (hI.2.1))) rfl rfl hl.1 rfl (lv_room (Nat.le_of_ble_eq_true rfl)) d_TT_readRow_97 ⟨by decide, by decide⟩) hD hS hA (fun r_97 w1 H locs h_97 hP hD hS => ?_)
    rcases h_97 with ⟨rfl, hq, hw⟩ | ⟨rfl, hq, hI, hh⟩
    · skip
      rw [hw] at hP hD
      refine lv_if_eq (tgt := 113) hx hb d_TT_readRow_100 (by decide) (fun c_100 => ?_) (fun c_100 => absurd c_100 (by decide))
      exact st113 kk hkk hkd b rf _ _ _ ls (by omega) (by omega) hr3 (by rw [← hsp]; exact Eq.symm ((if_neg hq).trans (by rw [hr2]))) hI hH hP hD hS (lv_sub hl [0, 1, 2] rfl)
    · skip
      have hbn1 : b < n := cb_nx_lt (by decide) hq
      replace hI : cb_I cI cC cJ cII w1 κ ra (upd (upd z 2 (z 2 ||| ((1 : Int32) <<< (nI kk &&& 31)))) 1 (nI (b + 1))) sg (cb_upg G 0 kk rf) we pd := by rw [cb_uu] at hI; exact hI
      replace hH := cb_hi.trans hH hh
      refine lv_if_eq (tgt := 113) hx hb d_TT_readRow_100 (by decide) (fun c_100 => absurd c_100 (by decide)) (fun c_100 => ?_)
      refine lv_aload_n hx hb d_TT_readRow_103 rfl (lv_at hl 0 rfl) ?_
      refine lv_aload_n hx hb d_TT_readRow_104 rfl (lv_at hl 2 rfl) ?_
      refine lv_iconst (v := 2) hx hb d_TT_readRow_105 (by decide) ?_
      refine lv_iconst (v := 4) hx hb d_TT_readRow_106 (by decide) ?_
      refine gx_calli (va_runV (As := [.ref (ra 0 kk), .int 2, .int 4]) (rest := []) ⟨hx, hb, hml, hown, gx_nil⟩ (c_TT_readNumber F hI _ n (b + 1) hn (by omega) h0 rfl hc (by omega) kk 2 4 hkk (by decide) (by decide)) ⟨gx_cb (hg _ k_153) (hg _ k_2) (hg _ k_150) nd_TT_readNumber ⟨by decide, by decide⟩, hg _ k_152, hg _ ks_4⟩ (gx_preV hV hP hD hS hA0 (va_recv hK hP rfl (hI.2.1))) rfl rfl hl.1 rfl (lv_room (Nat.le_of_ble_eq_true rfl)) d_TT_readRow_107 ⟨by decide, by decide⟩) hD hS hA (fun r_107 w1 H locs h_107 hP hD hS => ?_)
      obtain ⟨b', v', hnum, hb6, hcase, hI, hh⟩ := h_107
      replace hI : cb_I cI cC cJ cII w1 κ ra (upd (upd z 2 (z 2 ||| ((1 : Int32) <<< (nI kk &&& 31)))) 1 (nI b')) sg (cb_upg G 0 kk (upd rf 2 v')) we pd := by rw [cb_uu, cb_upg_s, cb_gg] at hI; exact hI
      replace hH := cb_hi.trans hH hh
      have hle := cb_num_le sg n 4 (b + 1) 0 (by omega)
      rw [hnum] at hle
      rcases hcase with ⟨rfl, hgt⟩ | ⟨rfl, heq⟩
      · skip
        refine lv_if_eq (tgt := 146) hx hb d_TT_readRow_110 (by decide) (fun c_110 => absurd c_110 (by decide)) (fun c_110 => ?_)
        exact st113 kk hkk hkd b' (upd rf 2 v') _ _ _ ls (by omega) (by omega) hr3 (by rw [← hsp]; refine Eq.symm ((if_pos hq).trans ((if_neg (by rw [hnum]; exact Nat.ne_of_gt hgt)).trans (by rw [hnum]; rfl)))) hI hH hP hD hS (lv_sub hl [0, 1, 2] rfl)
      · skip
        have hfail : cb_row sg n a = (false, b', 0, 0, 0, 0) := by rw [← hsp, heq]; exact (if_pos hq).trans (if_pos (by rw [hnum]; exact heq))
        refine lv_if_eq (tgt := 146) hx hb d_TT_readRow_110 (by decide) (fun c_110 => ?_) (fun c_110 => absurd c_110 (by decide))
        refine lv_iconst (v := 0) hx hb d_TT_readRow_146 (by decide) ?_
        exact gx_iret hx hb hr hlocks rfl hS hP hD (by decide) (by decide) d_TT_readRow_147 (Or.inl ⟨rfl, _, _, _, hfail, hI, hH, rfl, by omega, ⟨rfl, rfl, rfl, rfl⟩, cb_gk_u⟩)
  refine lv_aload_n hx hb d_TT_readRow_0 rfl (lv_at hl 0 rfl) ?_
  refine gx_readi (va_runV (As := []) (rest := []) ⟨hx, hb, hml, hown, gx_nil⟩ (c_TT_next F hI _ n a hn (by omega) h0 h1 hc) ⟨gx_cb (hg _ k_146) (hg _ k_2) (hg _ k_143) nd_TT_next ⟨by decide, by decide⟩, hg _ k_145, hg _ ks_3⟩ (gx_preV hV hP hD hS hA0 (va_recv hK hP rfl (hI.2.1))) rfl rfl hl.1 rfl (lv_room (Nat.le_of_ble_eq_true rfl)) d_TT_readRow_1 ⟨by decide, by decide⟩) (fun r_1 h_1 => ?_)
  subst h_1
  refine lv_bipush (v := 65) hx hb d_TT_readRow_4 (by decide) ?_
  refine lv_isub hx hb d_TT_readRow_6 ?_
  refine lv_istore_n (lv' := [(1, .int ((cb_nx sg n a) - 65)), (0, .ref (κ 1))]) hx hb d_TT_readRow_7 rfl hl (by decide) rfl (fun ls hl => ?_)
  refine lv_iload_n hx hb d_TT_readRow_8 rfl (lv_at hl 0 rfl) ?_
  refine gx_readi (va_runSN (As := [.int ((cb_nx sg n a) - 65)]) (rest := []) ⟨hx, hb, hml, hown, gx_nil⟩ (c_PB_isKind F _ _ _) ⟨gx_cn (hg _ k_149) (hg _ k_1) (hn9 _ kn_147) nd_PB_isKind ⟨by decide, by decide⟩, hg _ k_148, trivial⟩ (gx_preS hV hP hD hS hA0) rfl rfl hl.1 rfl (lv_room (Nat.le_of_ble_eq_true rfl)) d_TT_readRow_9 ⟨by decide, by decide⟩) (fun r_9 h_9 => ?_)
  rcases h_9 with ⟨rfl, kk, hkk, hkd⟩ | ⟨rfl, hkd⟩
  · skip
    rw [hkd] at hl
    refine lv_if_ne (tgt := 17) hx hb d_TT_readRow_12 (by decide) (fun c_12 => ?_) (fun c_12 => absurd c_12 (by decide))
    refine lv_aload_n hx hb d_TT_readRow_17 rfl (lv_at hl 1 rfl) ?_
    refine lv_dup hx hb d_TT_readRow_18 rfl ?_
    refine va_get (D := D) (ci := iTT) (v := .int (z 1)) (C := R_TT) (T := F_TT) (N := 5) hx hb (fl_TT hg) (fun _ h9 => h9) hown hK hP 1 (hI.2.1) rfl 2 (by decide) (hg _ k_40) (fun _ h9 => h9) rfl d_TT_readRow_19 ?_
    refine lv_iconst (v := 1) hx hb d_TT_readRow_22 (by decide) ?_
    refine lv_iadd hx hb d_TT_readRow_23 ?_
    refine va_put (D := D) (ci := iTT) (v := .int ((z 1) + 1)) (ty := .int) (C := R_TT) (T := F_TT) (N := 5) hx hb (fl_TT hg) (fun _ h9 => h9) t_TT t_TT_ok n_TT hown hK hP hD hS 1 (hI.2.1) rfl 2 (by decide) (hg _ k_40) (fun _ h9 => h9) rfl (by decide +kernel) rfl rfl (Nat.le_of_ble_eq_true rfl) d_TT_readRow_24 (fun H locs hP hD hS => ?_)
    obtain ⟨w_1, ew_1⟩ : ∃ x : va_W, x = ws.set 1 (κ 1, .inr (iTT, [.ref (κ 2), .int (z 0), .int ((z 1) + 1), .ref (κ 3), .int (z 2)])) := ⟨_, rfl⟩
    replace hP : va_P D classes w_1 H := by rw [ew_1]; exact hP
    replace hD : va_D (va_A ws sz) w_1 := by rw [ew_1]; exact hD
    replace hI : cb_I cI cC cJ cII w_1 κ ra (upd z 1 ((z 1) + 1)) sg G we pd := by rw [ew_1]; exact cb_I.text (z := z) (z' := upd z 1 ((z 1) + 1)) rfl rfl hI
    replace hH : cb_hi ws w_1 := by rw [ew_1]; exact cb_hi.set (by decide) hH
    refine lv_aload_n hx hb d_TT_readRow_27 rfl (lv_at hl 1 rfl) ?_
    refine lv_dup hx hb d_TT_readRow_28 rfl ?_
    refine va_get (D := D) (ci := iTT) (v := .int (upd z 1 ((z 1) + 1) 2)) (C := R_TT) (T := F_TT) (N := 5) hx hb (fl_TT hg) (fun _ h9 => h9) hown hK hP 1 (hI.2.1) rfl 4 (by decide) (hg _ k_43) (fun _ h9 => h9) rfl d_TT_readRow_29 ?_
    refine lv_iconst (v := 1) hx hb d_TT_readRow_32 (by decide) ?_
    refine lv_iload_n hx hb d_TT_readRow_33 rfl (lv_at hl 0 rfl) ?_
    refine lv_ishl hx hb d_TT_readRow_34 ?_
    refine lv_ior hx hb d_TT_readRow_35 ?_
    refine va_put (D := D) (ci := iTT) (v := .int ((upd z 1 ((z 1) + 1) 2) ||| (1 <<< ((nI kk) &&& 31)))) (ty := .int) (C := R_TT) (T := F_TT) (N := 5) hx hb (fl_TT hg) (fun _ h9 => h9) t_TT t_TT_ok n_TT hown hK hP hD hS 1 (hI.2.1) rfl 4 (by decide) (hg _ k_43) (fun _ h9 => h9) rfl (by decide +kernel) rfl rfl (Nat.le_of_ble_eq_true rfl) d_TT_readRow_36 (fun H locs hP hD hS => ?_)
    obtain ⟨w_2, ew_2⟩ : ∃ x : va_W, x = w_1.set 1 (κ 1, .inr (iTT, [.ref (κ 2), .int (upd z 1 ((z 1) + 1) 0), .int ((z 1) + 1), .ref (κ 3), .int ((upd z 1 ((z 1) + 1) 2) ||| (1 <<< ((nI kk) &&& 31)))])) := ⟨_, rfl⟩
    replace hP : va_P D classes w_2 H := by rw [ew_2]; exact hP
    replace hD : va_D (va_A ws sz) w_2 := by rw [ew_2]; exact hD
    replace hI : cb_I cI cC cJ cII w_2 κ ra (upd (upd z 1 ((z 1) + 1)) 2 ((upd z 1 ((z 1) + 1) 2) ||| (1 <<< ((nI kk) &&& 31)))) sg G we pd := by rw [ew_2]; exact cb_I.text (z := (upd z 1 ((z 1) + 1))) (z' := upd (upd z 1 ((z 1) + 1)) 2 ((upd z 1 ((z 1) + 1) 2) ||| (1 <<< ((nI kk) &&& 31)))) rfl rfl hI
    replace hH : cb_hi ws w_2 := by rw [ew_2]; exact cb_hi.set (by decide) hH
    refine lv_aload_n hx hb d_TT_readRow_39 rfl (lv_at hl 1 rfl) ?_
    refine va_get (D := D) (ci := iTT) (v := .ref (κ 3)) (C := R_TT) (T := F_TT) (N := 5) hx hb (fl_TT hg) (fun _ h9 => h9) hown hK hP 1 (hI.2.1) rfl 3 (by decide) (hg _ k_41) (fun _ h9 => h9) rfl d_TT_readRow_40 ?_
    refine lv_iload_n hx hb d_TT_readRow_43 rfl (lv_at hl 0 rfl) ?_
    refine gx_al hx hb hK hP 3 3 (hI.2.2.2.2.2.1 0 (by decide)) rfl rfl kk (v := ra 0 kk) (rfl) (hkk) (by decide) (if_pos (hkk)) d_TT_readRow_44 ?_
    refine lv_astore_n (lv' := [(2, .ref (ra 0 kk)), (1, .int (nI kk)), (0, .ref (κ 1))]) hx hb d_TT_readRow_45 rfl hl (by decide) rfl (fun ls hl => ?_)
    refine lv_aload_n hx hb d_TT_readRow_46 rfl (lv_at hl 0 rfl) ?_
    refine lv_iconst (v := 1) hx hb d_TT_readRow_47 (by decide) ?_
    refine lv_iconst (v := 1) hx hb d_TT_readRow_48 (by decide) ?_
    refine gx_is hx hb hK hP hD hS (cb_gp 0 + 1 + kk) 0 (hI.2.2.2.2.2.2 0 (by decide) kk (hkk)) rfl 1 (by decide) (by decide) (by decide) d_TT_readRow_49 (fun H locs hP hD hS => ?_)
    obtain ⟨w_3, ew_3⟩ : ∃ x : va_W, x = w_2.set (cb_gp 0 + 1 + kk) (ra 0 kk, .inl (cI, cb_wd 0, .inl (upd (G 0 kk) 1 1))) := ⟨_, rfl⟩
    replace hP : va_P D classes w_3 H := by rw [ew_3]; exact hP
    replace hD : va_D (va_A ws sz) w_3 := by rw [ew_3]; exact hD
    replace hI : cb_I cI cC cJ cII w_3 κ ra (upd (upd z 1 ((z 1) + 1)) 2 ((upd z 1 ((z 1) + 1) 2) ||| (1 <<< ((nI kk) &&& 31)))) sg (cb_upg G 0 kk (upd (G 0 kk) 1 1)) we pd := by rw [ew_3]; exact cb_I.row (by decide) (hkk) hI
    replace hH : cb_hi ws w_3 := by rw [ew_3]; exact cb_hi.set (by have := cb_gp_lt 0 (by decide) kk (hkk); omega) hH
    refine lv_aload_n hx hb d_TT_readRow_50 rfl (lv_at hl 0 rfl) ?_
    refine lv_iconst (v := 2) hx hb d_TT_readRow_51 (by decide) ?_
    refine lv_iconst (v := 0) hx hb d_TT_readRow_52 (by decide) ?_
    refine gx_is hx hb hK hP hD hS (cb_gp 0 + 1 + kk) 0 (by have h9 := hI.2.2.2.2.2.2 0 (by decide) kk (hkk); rw [cb_upg_s] at h9; exact h9) rfl 2 (by decide) (by decide) (by decide) d_TT_readRow_53 (fun H locs hP hD hS => ?_)
    obtain ⟨w_4, ew_4⟩ : ∃ x : va_W, x = w_3.set (cb_gp 0 + 1 + kk) (ra 0 kk, .inl (cI, cb_wd 0, .inl (upd (upd (G 0 kk) 1 1) 2 0))) := ⟨_, rfl⟩
    replace hP : va_P D classes w_4 H := by rw [ew_4]; exact hP
    replace hD : va_D (va_A ws sz) w_4 := by rw [ew_4]; exact hD
    replace hI : cb_I cI cC cJ cII w_4 κ ra (upd (upd z 1 ((z 1) + 1)) 2 ((upd z 1 ((z 1) + 1) 2) ||| (1 <<< ((nI kk) &&& 31)))) sg (cb_upg (cb_upg G 0 kk (upd (G 0 kk) 1 1)) 0 kk (upd (upd (G 0 kk) 1 1) 2 0)) we pd := by rw [ew_4]; exact cb_I.row (by decide) (hkk) hI
    replace hH : cb_hi ws w_4 := by rw [ew_4]; exact cb_hi.set (by have := cb_gp_lt 0 (by decide) kk (hkk); omega) hH
    refine lv_aload_n hx hb d_TT_readRow_54 rfl (lv_at hl 0 rfl) ?_
    refine lv_iconst (v := 3) hx hb d_TT_readRow_55 (by decide) ?_
    refine lv_iconst (v := 0) hx hb d_TT_readRow_56 (by decide) ?_
    refine gx_is hx hb hK hP hD hS (cb_gp 0 + 1 + kk) 0 (by have h9 := hI.2.2.2.2.2.2 0 (by decide) kk (hkk); rw [cb_upg_s] at h9; exact h9) rfl 3 (by decide) (by decide) (by decide) d_TT_readRow_57 (fun H locs hP hD hS => ?_)
    obtain ⟨w_5, ew_5⟩ : ∃ x : va_W, x = w_4.set (cb_gp 0 + 1 + kk) (ra 0 kk, .inl (cI, cb_wd 0, .inl (upd (upd (upd (G 0 kk) 1 1) 2 0) 3 0))) := ⟨_, rfl⟩
    replace hP : va_P D classes w_5 H := by rw [ew_5]; exact hP
    replace hD : va_D (va_A ws sz) w_5 := by rw [ew_5]; exact hD
    replace hI : cb_I cI cC cJ cII w_5 κ ra (upd (upd z 1 ((z 1) + 1)) 2 ((upd z 1 ((z 1) + 1) 2) ||| (1 <<< ((nI kk) &&& 31)))) sg (cb_upg (cb_upg (cb_upg G 0 kk (upd (G 0 kk) 1 1)) 0 kk (upd (upd (G 0 kk) 1 1) 2 0)) 0 kk (upd (upd (upd (G 0 kk) 1 1) 2 0) 3 0)) we pd := by rw [ew_5]; exact cb_I.row (by decide) (hkk) hI
    replace hH : cb_hi ws w_5 := by rw [ew_5]; exact cb_hi.set (by have := cb_gp_lt 0 (by decide) kk (hkk); omega) hH
    have han : a < n := cb_nx_kd hkk hkd
    replace hI : cb_I cI cC cJ cII w_5 κ ra (upd (upd z 2 (z 2 ||| ((1 : Int32) <<< (nI kk &&& 31)))) 1 (nI (a + 1))) sg (cb_upg G 0 kk (upd (upd (upd (G 0 kk) 1 1) 2 0) 3 0)) we pd := by rw [cb_gg, cb_gg, h1, nI_1, cb_uc] at hI; exact hI
    refine lv_aload_n hx hb d_TT_readRow_58 rfl (lv_at hl 2 rfl) ?_
    refine lv_aload_n hx hb d_TT_readRow_59 rfl (lv_at hl 0 rfl) ?_
    refine lv_iconst (v := 0) hx hb d_TT_readRow_60 (by decide) ?_
    refine lv_bipush (v := 6) hx hb d_TT_readRow_61 (by decide) ?_
    refine gx_calli (va_runV (As := [.ref (ra 0 kk), .int 0, .int 6]) (rest := []) ⟨hx, hb, hml, hown, gx_nil⟩ (c_TT_readNumber F hI _ n (a + 1) hn (by omega) h0 rfl hc (by omega) kk 0 6 hkk (by decide) (by decide)) ⟨gx_cb (hg _ k_153) (hg _ k_2) (hg _ k_150) nd_TT_readNumber ⟨by decide, by decide⟩, hg _ k_152, hg _ ks_4⟩ (gx_preV hV hP hD hS hA0 (va_recv hK hP rfl (hI.2.1))) rfl rfl hl.1 rfl (lv_room (Nat.le_of_ble_eq_true rfl)) d_TT_readRow_63 ⟨by decide, by decide⟩) hD hS hA (fun r_63 w1 H locs h_63 hP hD hS => ?_)
    obtain ⟨b', v', hnum, hb6, hcase, hI, hh⟩ := h_63
    replace hI : cb_I cI cC cJ cII w1 κ ra (upd (upd z 2 (z 2 ||| ((1 : Int32) <<< (nI kk &&& 31)))) 1 (nI b')) sg (cb_upg G 0 kk (upd (upd (upd (upd (G 0 kk) 1 1) 2 0) 3 0) 0 v')) we pd := by rw [cb_uu, cb_upg_s, cb_gg] at hI; exact hI
    replace hH := cb_hi.trans hH hh
    have hle := cb_num_le sg n 6 (a + 1) 0 (by omega)
    rw [hnum] at hle
    rcases hcase with ⟨rfl, hgt⟩ | ⟨rfl, heq⟩
    · skip
      have hsp : cb_row2 sg n b' v' = cb_row sg n a := Eq.symm ((if_neg (cb_kd_ok hkk hkd)).trans ((if_neg (by rw [hnum]; exact Nat.ne_of_gt hgt)).trans (by rw [hnum])))
      obtain ⟨b, hbe⟩ : ∃ x, x = b' := ⟨_, rfl⟩
      obtain ⟨rf, hrf⟩ : ∃ x : Nat → Int32, x = upd (upd (upd (upd (G 0 kk) 1 1) 2 0) 3 0) 0 v' := ⟨_, rfl⟩
      rw [← hbe] at hsp hI hle hgt hb6
      have hr0 : rf 0 = v' := by rw [hrf]; rfl
      have hr1 : rf 1 = 1 := by rw [hrf]; rfl
      have hr2 : rf 2 = 0 := by rw [hrf]; rfl
      have hr3 : rf 3 = 0 := by rw [hrf]; rfl
      rw [← hr0] at hsp
      rw [← hrf] at hI
      clear hnum
      refine lv_if_eq (tgt := 146) hx hb d_TT_readRow_66 (by decide) (fun c_66 => absurd c_66 (by decide)) (fun c_66 => ?_)
      refine lv_aload_n hx hb d_TT_readRow_69 rfl (lv_at hl 2 rfl) ?_
      refine lv_bipush (v := 47) hx hb d_TT_readRow_70 (by decide) ?_
      refine gx_calli (va_runV (As := [.int 47]) (rest := []) ⟨hx, hb, hml, hown, gx_nil⟩ (c_TT_passes F hI _ n b hn (by omega) h0 rfl hc _) ⟨gx_cb (hg _ k_160) (hg _ k_2) (hg _ k_157) nd_TT_passes ⟨by decide, by decide⟩, hg _ k_159, hg _ ks_5⟩ (gx_preV hV hP hD hS hA0 (va_recv hK hP rfl (hI.2.1))) rfl rfl hl.1 rfl (lv_room (Nat.le_of_ble_eq_true rfl)) d_TT_readRow_72 ⟨by decide, by decide⟩) hD hS hA (fun r_72 w1 H locs h_72 hP hD hS => ?_)
      rcases h_72 with ⟨rfl, hq, hw⟩ | ⟨rfl, hq, hI, hh⟩
      · skip
        rw [hw] at hP hD
        refine lv_if_eq (tgt := 94) hx hb d_TT_readRow_75 (by decide) (fun c_75 => ?_) (fun c_75 => absurd c_75 (by decide))
        exact st94 kk hkk hkd b rf _ _ _ ls (by omega) (by omega) hr2 hr3 (by rw [← hsp]; exact Eq.symm ((if_neg hq).trans (by rw [hr1]))) hI hH hP hD hS (lv_sub hl [2, 1, 0] rfl)
      · skip
        have hbn1 : b < n := cb_nx_lt (by decide) hq
        replace hI : cb_I cI cC cJ cII w1 κ ra (upd (upd z 2 (z 2 ||| ((1 : Int32) <<< (nI kk &&& 31)))) 1 (nI (b + 1))) sg (cb_upg G 0 kk rf) we pd := by rw [cb_uu] at hI; exact hI
        replace hH := cb_hi.trans hH hh
        refine lv_if_eq (tgt := 94) hx hb d_TT_readRow_75 (by decide) (fun c_75 => absurd c_75 (by decide)) (fun c_75 => ?_)
        refine lv_aload_n hx hb d_TT_readRow_78 rfl (lv_at hl 2 rfl) ?_
        refine lv_aload_n hx hb d_TT_readRow_79 rfl (lv_at hl 0 rfl) ?_
        refine lv_iconst (v := 1) hx hb d_TT_readRow_80 (by decide) ?_
        refine lv_iconst (v := 4) hx hb d_TT_readRow_81 (by decide) ?_
        refine gx_calli (va_runV (As := [.ref (ra 0 kk), .int 1, .int 4]) (rest := []) ⟨hx, hb, hml, hown, gx_nil⟩ (c_TT_readNumber F hI _ n (b + 1) hn (by omega) h0 rfl hc (by omega) kk 1 4 hkk (by decide) (by decide)) ⟨gx_cb (hg _ k_153) (hg _ k_2) (hg _ k_150) nd_TT_readNumber ⟨by decide, by decide⟩, hg _ k_152, hg _ ks_4⟩ (gx_preV hV hP hD hS hA0 (va_recv hK hP rfl (hI.2.1))) rfl rfl hl.1 rfl (lv_room (Nat.le_of_ble_eq_true rfl)) d_TT_readRow_82 ⟨by decide, by decide⟩) hD hS hA (fun r_82 w1 H locs h_82 hP hD hS => ?_)
        obtain ⟨b', v', hnum, hb6, hcase, hI, hh⟩ := h_82
        replace hI : cb_I cI cC cJ cII w1 κ ra (upd (upd z 2 (z 2 ||| ((1 : Int32) <<< (nI kk &&& 31)))) 1 (nI b')) sg (cb_upg G 0 kk (upd rf 1 v')) we pd := by rw [cb_uu, cb_upg_s, cb_gg] at hI; exact hI
        replace hH := cb_hi.trans hH hh
        have hle := cb_num_le sg n 4 (b + 1) 0 (by omega)
        rw [hnum] at hle
        rcases hcase with ⟨rfl, hgt⟩ | ⟨rfl, heq⟩
        · skip
          refine lv_if_eq (tgt := 146) hx hb d_TT_readRow_85 (by decide) (fun c_85 => absurd c_85 (by decide)) (fun c_85 => ?_)
          refine lv_aload_n hx hb d_TT_readRow_88 rfl (lv_at hl 0 rfl) ?_
          refine lv_iconst (v := 1) hx hb d_TT_readRow_89 (by decide) ?_
          refine gx_il hx hb hK hP (cb_gp 0 + 1 + kk) 0 (by have h9 := hI.2.2.2.2.2.2 0 (by decide) kk (hkk); rw [cb_upg_s] at h9; exact h9) rfl 1 (by decide) (by decide) (by decide) d_TT_readRow_90 ?_
          refine lv_if_le (tgt := 146) hx hb d_TT_readRow_91 (by decide) (fun c_91 => ?_) (fun c_91 => ?_)
          · skip
            have hfail : cb_row sg n a = (false, b', 0, 0, 0, 0) := by rw [← hsp]; exact (if_pos hq).trans ((if_pos (Or.inr (by rw [hnum]; exact c_91))).trans (by rw [hnum]))
            refine lv_iconst (v := 0) hx hb d_TT_readRow_146 (by decide) ?_
            exact gx_iret hx hb hr hlocks rfl hS hP hD (by decide) (by decide) d_TT_readRow_147 (Or.inl ⟨rfl, _, _, _, hfail, hI, hH, rfl, by omega, ⟨rfl, rfl, rfl, rfl⟩, cb_gk_u⟩)
          · skip
            have hper : ¬ v' ≤ 0 := c_91
            exact st94 kk hkk hkd b' (upd rf 1 v') _ _ _ ls (by omega) (by omega) hr2 hr3 (by rw [← hsp]; refine Eq.symm ((if_pos hq).trans ((if_neg (by rw [hnum]; exact fun z9 => z9.elim (Nat.ne_of_gt hgt) hper)).trans (by rw [hnum]; rfl)))) hI hH hP hD hS (lv_sub hl [2, 1, 0] rfl)
        · skip
          have hfail : cb_row sg n a = (false, b', 0, 0, 0, 0) := by rw [← hsp]; exact (if_pos hq).trans ((if_pos (Or.inl (by rw [hnum]; exact heq))).trans (by rw [hnum]))
          refine lv_if_eq (tgt := 146) hx hb d_TT_readRow_85 (by decide) (fun c_85 => ?_) (fun c_85 => absurd c_85 (by decide))
          refine lv_iconst (v := 0) hx hb d_TT_readRow_146 (by decide) ?_
          exact gx_iret hx hb hr hlocks rfl hS hP hD (by decide) (by decide) d_TT_readRow_147 (Or.inl ⟨rfl, _, _, _, hfail, hI, hH, rfl, by omega, ⟨rfl, rfl, rfl, rfl⟩, cb_gk_u⟩)
    · skip
      have hfail : cb_row sg n a = (false, b', 0, 0, 0, 0) := by rw [heq]; exact (if_neg (cb_kd_ok hkk hkd)).trans (if_pos (by rw [hnum]; exact heq))
      refine lv_if_eq (tgt := 146) hx hb d_TT_readRow_66 (by decide) (fun c_66 => ?_) (fun c_66 => absurd c_66 (by decide))
      refine lv_iconst (v := 0) hx hb d_TT_readRow_146 (by decide) ?_
      exact gx_iret hx hb hr hlocks rfl hS hP hD (by decide) (by decide) d_TT_readRow_147 (Or.inl ⟨rfl, _, _, _, hfail, hI, hH, rfl, by omega, ⟨rfl, rfl, rfl, rfl⟩, cb_gk_u⟩)
  · skip
    refine lv_if_ne (tgt := 17) hx hb d_TT_readRow_12 (by decide) (fun c_12 => absurd c_12 (by decide)) (fun c_12 => ?_)
    refine lv_iconst (v := 0) hx hb d_TT_readRow_15 (by decide) ?_
    exact gx_iret hx hb hr hlocks rfl hS hP hD (by decide) (by decide) d_TT_readRow_16 (Or.inl ⟨rfl, a, z, G, if_pos hkd, hI, hH, h1, ha3, ⟨rfl, rfl, rfl, rfl⟩, fun _ _ => rfl⟩)
end
section
set_option maxRecDepth 100000 in
set_option maxHeartbeats 4000000 in
theorem c_TT_readRows {l : Launch} {s0 : State} {D : va_G} {cI cC cJ cII cO cZ : ClassId} (F : FX l s0 D cI cC cJ cII cO cZ) {ws : va_W} {κ : Nat → Nat} {ra : Nat → Nat → Nat} {z sg : Nat → Int32} {G : Nat → Nat → Nat → Int32} {we : Nat → Int32} {pd : Nat → Int64} (hI : cb_I cI cC cJ cII ws κ ra z sg G we pd) (sz : Nat) (n : Nat) (hn : n ≤ 120) (h0 : z 0 = nI n) (hc : ∀ j, narrow .char (.int (sg j)) = .int (sg j))  : Met l y_TT_readRows [.code y_TT_readRows b_TT_readRows 2 (some .int)] { frames := 4, cells := 0, slots := 0, locals := 160 } (gx_P s0 D classes ws sz [.ref (κ 1)]) (va_Qi (fun r w1 => r = (cb_rows sg n 40 0 0 0 (fun _ _ => 0)).1 ∧ ∃ (z' : Nat → Int32) (G' : Nat → Nat → Nat → Int32) (mb : Nat) (R : Nat → Nat → Int32), cb_rows sg n 40 0 0 0 (fun _ _ => 0) = (r, mb, R) ∧ (0 < r → z' 2 = nI mb ∧ mb < 64 ∧ cb_rk mb R G') ∧ cb_I cI cC cJ cII w1 κ ra z' sg G' we pd ∧ cb_hi ws w1 ∧ (z' 0 = z 0 ∧ z' 3 = z 3 ∧ z' 4 = z 4 ∧ z' 5 = z 5) ∧ (∀ g, g ≠ 0 → G' g = G g)) (gx_B D classes ws sz) (va_A ws sz)) 0 0 (va_A ws sz) := by
  refine gx_met (by decide +kernel) (Nat.le_of_ble_eq_true rfl) ?_
  intro p e s m below meth c ls hx hb hr hml hown hlocks hnm hsz hV hP hD hS hA hA0 hl
  have hg := fx_g F hV ([.ref (κ 1)] : List Value).toArray
  have hK := fx_k F hV
  have hn9 := fx_n F hV
  have hl : lv_has ls 2 [(0, .ref (κ 1))] := hl
  have hH : cb_hi ws ws := fun _ _ => rfl
  refine lv_aload_n hx hb d_TT_readRows_0 rfl (lv_at hl 0 rfl) ?_
  refine lv_iconst (v := 0) hx hb d_TT_readRows_1 (by decide) ?_
  refine va_put (D := D) (ci := iTT) (v := .int 0) (ty := .int) (C := R_TT) (T := F_TT) (N := 5) hx hb (fl_TT hg) (fun _ h9 => h9) t_TT t_TT_ok n_TT hown hK hP hD hS 1 (hI.2.1) rfl 2 (by decide) (hg _ k_40) (fun _ h9 => h9) rfl (by decide +kernel) rfl rfl (Nat.le_of_ble_eq_true rfl) d_TT_readRows_2 (fun H locs hP hD hS => ?_)
  obtain ⟨w_1, ew_1⟩ : ∃ x : va_W, x = ws.set 1 (κ 1, .inr (iTT, [.ref (κ 2), .int (z 0), .int 0, .ref (κ 3), .int (z 2)])) := ⟨_, rfl⟩
  replace hP : va_P D classes w_1 H := by rw [ew_1]; exact hP
  replace hD : va_D (va_A ws sz) w_1 := by rw [ew_1]; exact hD
  replace hI : cb_I cI cC cJ cII w_1 κ ra (upd z 1 0) sg G we pd := by rw [ew_1]; exact cb_I.text (z := z) (z' := upd z 1 0) rfl rfl hI
  replace hH : cb_hi ws w_1 := by rw [ew_1]; exact cb_hi.set (by decide) hH
  refine lv_aload_n hx hb d_TT_readRows_5 rfl (lv_at hl 0 rfl) ?_
  refine lv_iconst (v := 0) hx hb d_TT_readRows_6 (by decide) ?_
  refine va_put (D := D) (ci := iTT) (v := .int 0) (ty := .int) (C := R_TT) (T := F_TT) (N := 5) hx hb (fl_TT hg) (fun _ h9 => h9) t_TT t_TT_ok n_TT hown hK hP hD hS 1 (hI.2.1) rfl 4 (by decide) (hg _ k_43) (fun _ h9 => h9) rfl (by decide +kernel) rfl rfl (Nat.le_of_ble_eq_true rfl) d_TT_readRows_7 (fun H locs hP hD hS => ?_)
  obtain ⟨w_2, ew_2⟩ : ∃ x : va_W, x = w_1.set 1 (κ 1, .inr (iTT, [.ref (κ 2), .int (upd z 1 0 0), .int 0, .ref (κ 3), .int 0])) := ⟨_, rfl⟩
  replace hP : va_P D classes w_2 H := by rw [ew_2]; exact hP
  replace hD : va_D (va_A ws sz) w_2 := by rw [ew_2]; exact hD
  replace hI : cb_I cI cC cJ cII w_2 κ ra (upd (upd z 1 0) 2 0) sg G we pd := by rw [ew_2]; exact cb_I.text (z := (upd z 1 0)) (z' := upd (upd z 1 0) 2 0) rfl rfl hI
  replace hH : cb_hi ws w_2 := by rw [ew_2]; exact cb_hi.set (by decide) hH
  refine lv_iconst (v := 0) hx hb d_TT_readRows_10 (by decide) ?_
  refine lv_istore_n (lv' := [(1, .int 0), (0, .ref (κ 1))]) hx hb d_TT_readRows_11 rfl hl (by decide) rfl (fun ls hl => ?_)
  have loop : ∀ (nn : Nat) (a f mb : Nat) (R : Nat → Nat → Int32) (z' : Nat → Int32) (G' : Nat → Nat → Nat → Int32) (wx : va_W) (H : Heap) (locs : List Loc) (ls : Array Slot) (hff : f + nn = 40) (han : a ≤ n) (hm : mb < 64) (hz1 : z' 1 = nI a) (hz2 : z' 2 = nI mb) (hz : (z' 0 = z 0 ∧ z' 3 = z 3 ∧ z' 4 = z 4 ∧ z' 5 = z 5)) (hG : ∀ g, g ≠ 0 → G' g = G g) (hrk : cb_rk mb R G') (hsp : cb_rows sg n nn a f mb R = cb_rows sg n 40 0 0 0 (fun _ _ => 0)) (hI : cb_I cI cC cJ cII wx κ ra z' sg G' we pd) (hH : cb_hi ws wx) (hP : va_P D classes wx H) (hD : va_D (va_A ws sz) wx) (hS : va_S (va_A ws sz) s.heap H locs) (hl : lv_has ls 2 [(1, .int (nI f)), (0, .ref (κ 1))]), W p l e ({ frames := 4, cells := 0, slots := 0, locals := 160 } : Room) s m ([.ref (κ 1)] : List Value).toArray below meth c H locs 0 0 (MQ below (va_Qi (fun r w1 => r = (cb_rows sg n 40 0 0 0 (fun _ _ => 0)).1 ∧ ∃ (z' : Nat → Int32) (G' : Nat → Nat → Nat → Int32) (mb : Nat) (R : Nat → Nat → Int32), cb_rows sg n 40 0 0 0 (fun _ _ => 0) = (r, mb, R) ∧ (0 < r → z' 2 = nI mb ∧ mb < 64 ∧ cb_rk mb R G') ∧ cb_I cI cC cJ cII w1 κ ra z' sg G' we pd ∧ cb_hi ws w1 ∧ (z' 0 = z 0 ∧ z' 3 = z 3 ∧ z' 4 = z 4 ∧ z' 5 = z 5) ∧ (∀ g, g ≠ 0 → G' g = G g)) (gx_B D classes ws sz) (va_A ws sz)) ([.ref (κ 1)] : List Value).toArray s 0 0 (va_A ws sz)) (F0 m 12 ls []) := by
    intro nn
    induction nn with
    | zero =>
      intro a f mb R z' G' wx H locs ls hff han hm hz1 hz2 hz hG hrk hsp hI hH hP hD hS hl
      refine lv_iload_n hx hb d_TT_readRows_12 rfl (lv_at hl 0 rfl) ?_
      refine lv_bipush (v := 40) hx hb d_TT_readRows_13 (by decide) ?_
      refine lv_icmp_ge (tgt := 41) hx hb d_TT_readRows_15 (by decide) (fun c_15 => ?_) (fun c_15 => absurd (gx_nlt (a := 40) c_15) (by omega))
      have hfin : cb_rows sg n 40 0 0 0 (fun _ _ => 0) = (-1 - z' 1, 0, fun _ _ => 0) := by rw [← hsp, hz1]; rfl
      refine lv_iconst (v := (-1)) hx hb d_TT_readRows_41 (by decide) ?_
      refine lv_aload_n hx hb d_TT_readRows_42 rfl (lv_at hl 1 rfl) ?_
      refine va_get (D := D) (ci := iTT) (v := .int (z' 1)) (C := R_TT) (T := F_TT) (N := 5) hx hb (fl_TT hg) (fun _ h9 => h9) hown hK hP 1 (hI.2.1) rfl 2 (by decide) (hg _ k_40) (fun _ h9 => h9) rfl d_TT_readRows_43 ?_
      refine lv_isub hx hb d_TT_readRows_46 ?_
      exact gx_iret hx hb hr hlocks rfl hS hP hD (by decide) (by decide) d_TT_readRows_47 (⟨by rw [hfin], z', G', _, _, hfin, fun hpos => absurd hpos (cb_neg han hz1), hI, hH, hz, hG⟩)
    | succ nn ih =>
      intro a f mb R z' G' wx H locs ls hff han hm hz1 hz2 hz hG hrk hsp hI hH hP hD hS hl
      refine lv_iload_n hx hb d_TT_readRows_12 rfl (lv_at hl 0 rfl) ?_
      refine lv_bipush (v := 40) hx hb d_TT_readRows_13 (by decide) ?_
      refine lv_icmp_ge (tgt := 41) hx hb d_TT_readRows_15 (by decide) (fun c_15 => ?_) (fun c_15 => ?_)
      · skip
        exact absurd (gx_ngt (a := 40) c_15) (by omega)
      · skip
        refine lv_aload_n hx hb d_TT_readRows_18 rfl (lv_at hl 1 rfl) ?_
        refine gx_calli (va_runV (As := []) (rest := []) ⟨hx, hb, hml, hown, gx_nil⟩ (c_TT_readRow F hI _ n a hn (by omega) (hz.1.trans h0) hz1 hc han) ⟨gx_cb (hg _ k_142) (hg _ k_2) (hg _ k_139) nd_TT_readRow ⟨by decide, by decide⟩, hg _ k_141, hg _ ks_2⟩ (gx_preV hV hP hD hS hA0 (va_recv hK hP rfl (hI.2.1))) rfl rfl hl.1 rfl (lv_room (Nat.le_of_ble_eq_true rfl)) d_TT_readRows_19 ⟨by decide, by decide⟩) hD hS hA (fun r_19 w1 H locs h_19 hP hD hS => ?_)
        rcases h_19 with ⟨rfl, b, z2, G2, hrow, hI, hh, hy1, hbn, hy, hyG⟩ | ⟨rfl, kk, b, rf, hkk, hkd, hrow, hab, hbn, hI, hh⟩
        · skip
          have hfin : cb_rows sg n 40 0 0 0 (fun _ _ => 0) = (-1 - z2 1, 0, fun _ _ => 0) := by rw [← hsp, hy1]; exact cb_rows_f hrow
          replace hH := cb_hi.trans hH hh
          have hz : z2 0 = z 0 ∧ z2 3 = z 3 ∧ z2 4 = z 4 ∧ z2 5 = z 5 := ⟨hy.1.trans hz.1, hy.2.1.trans hz.2.1, hy.2.2.1.trans hz.2.2.1, hy.2.2.2.trans hz.2.2.2⟩
          replace hG : ∀ g, g ≠ 0 → G2 g = G g := fun g hg9 => (hyG g hg9).trans (hG g hg9)
          refine lv_if_eq (tgt := 41) hx hb d_TT_readRows_22 (by decide) (fun c_22 => ?_) (fun c_22 => absurd c_22 (by decide))
          refine lv_iconst (v := (-1)) hx hb d_TT_readRows_41 (by decide) ?_
          refine lv_aload_n hx hb d_TT_readRows_42 rfl (lv_at hl 1 rfl) ?_
          refine va_get (D := D) (ci := iTT) (v := .int (z2 1)) (C := R_TT) (T := F_TT) (N := 5) hx hb (fl_TT hg) (fun _ h9 => h9) hown hK hP 1 (hI.2.1) rfl 2 (by decide) (hg _ k_40) (fun _ h9 => h9) rfl d_TT_readRows_43 ?_
          refine lv_isub hx hb d_TT_readRows_46 ?_
          exact gx_iret hx hb hr hlocks rfl hS hP hD (by decide) (by decide) d_TT_readRows_47 (⟨by rw [hfin], z2, G2, _, _, hfin, fun hpos => absurd hpos (cb_neg hbn hy1), hI, hH, hz, hG⟩)
        · skip
          obtain ⟨z2, ez2⟩ : ∃ x : Nat → Int32, x = upd (upd z' 2 (z' 2 ||| ((1 : Int32) <<< (nI kk &&& 31)))) 1 (nI b) := ⟨_, rfl⟩
          obtain ⟨G2, eG2⟩ : ∃ x : Nat → Nat → Nat → Int32, x = cb_upg G' 0 kk rf := ⟨_, rfl⟩
          rw [← ez2, ← eG2] at hI
          have hy1 : z2 1 = nI b := by rw [ez2]; rfl
          have hy2 : z2 2 = nI (mb ||| 2 ^ kk) := by rw [ez2]; show z' 2 ||| _ = _; rw [hz2]; exact (cb_or mb hm kk hkk).1
          have hz : z2 0 = z 0 ∧ z2 3 = z 3 ∧ z2 4 = z 4 ∧ z2 5 = z 5 := by rw [ez2]; exact hz
          replace hG : ∀ g, g ≠ 0 → G2 g = G g := fun g hg9 => by rw [eG2, cb_gk_u g hg9]; exact hG g hg9
          replace hrk : cb_rk (mb ||| 2 ^ kk) (cb_upr R kk (cb_rwf (true, b, rf 0, rf 1, rf 2, rf 3))) G2 := by rw [eG2]; exact hrk.put
          replace hH := cb_hi.trans hH hh
          refine lv_if_eq (tgt := 41) hx hb d_TT_readRows_22 (by decide) (fun c_22 => absurd c_22 (by decide)) (fun c_22 => ?_)
          refine lv_iinc (v := nI (f + 1)) (lv' := [(1, .int (nI (f + 1))), (0, .ref (κ 1))]) hx hb d_TT_readRows_25 hl (k := 0) rfl (by rw [lit1]; exact nI_1 f) (by decide) rfl (fun ls hl => ?_)
          refine lv_aload_n hx hb d_TT_readRows_28 rfl (lv_at hl 1 rfl) ?_
          refine va_get (D := D) (ci := iTT) (v := .int (z2 1)) (C := R_TT) (T := F_TT) (N := 5) hx hb (fl_TT hg) (fun _ h9 => h9) hown hK hP 1 (hI.2.1) rfl 2 (by decide) (hg _ k_40) (fun _ h9 => h9) rfl d_TT_readRows_29 ?_
          refine lv_aload_n hx hb d_TT_readRows_32 rfl (lv_at hl 1 rfl) ?_
          refine va_get (D := D) (ci := iTT) (v := .int (z2 0)) (C := R_TT) (T := F_TT) (N := 5) hx hb (fl_TT hg) (fun _ h9 => h9) hown hK hP 1 (hI.2.1) rfl 1 (by decide) (hg _ k_38) (fun _ h9 => h9) rfl d_TT_readRows_33 ?_
          refine lv_icmp_ne (tgt := 12) hx hb d_TT_readRows_36 (by decide) (fun c_36 => ?_) (fun c_36 => ?_)
          · skip
            rw [hy1, hz.1, h0] at c_36
            have hbn2 : ¬ b = n := fun q => c_36 (by rw [q])
            exact ih b (f + 1) (mb ||| 2 ^ kk) _ z2 G2 _ _ _ ls (by omega) hbn (cb_or mb hm kk hkk).2 hy1 hy2 hz hG hrk (by rw [← hsp]; exact (cb_rows_s hkk hkd hrow rfl hbn2).symm) hI hH hP hD hS (lv_sub hl [0, 1] rfl)
          · skip
            rw [hy1, hz.1, h0] at c_36
            have hbn2 : b = n := gx_eqn c_36
            have hfin : cb_rows sg n 40 0 0 0 (fun _ _ => 0) = (nI (f + 1), mb ||| 2 ^ kk, cb_upr R kk (cb_rwf (true, b, rf 0, rf 1, rf 2, rf 3))) := by rw [← hsp]; exact cb_rows_e hkk hkd hrow rfl hbn2
            refine lv_iload_n hx hb d_TT_readRows_39 rfl (lv_at hl 0 rfl) ?_
            exact gx_iret hx hb hr hlocks rfl hS hP hD (by decide) (by decide) d_TT_readRows_40 (⟨by rw [hfin], z2, G2, _, _, hfin, fun _ => ⟨hy2, (cb_or mb hm kk hkk).2, hrk⟩, hI, hH, hz, hG⟩)
  exact loop 40 0 0 0 (fun _ _ => 0) (upd (upd z 1 0) 2 0) G _ _ _ ls (by omega) (by omega) (by decide) rfl rfl ⟨rfl, rfl, rfl, rfl⟩ (fun _ _ => rfl) (fun k hk hb9 => absurd hb9 (by rw [Nat.zero_testBit]; decide)) rfl hI hH hP hD hS (lv_sub hl [0, 1] rfl)
end
section
set_option maxRecDepth 100000 in
set_option maxHeartbeats 4000000 in
theorem c_PB_sign {l : Launch} {s0 : State} {D : va_G} {cI cC cJ cII cO cZ : ClassId} (F : FX l s0 D cI cC cJ cII cO cZ) {ws : va_W} {κ : Nat → Nat} {ra : Nat → Nat → Nat} {z sg : Nat → Int32} {G : Nat → Nat → Nat → Int32} {we : Nat → Int32} {pd : Nat → Int64} (hI : cb_I cI cC cJ cII ws κ ra z sg G we pd) (sz : Nat) (n : Nat) (hn : n ≤ 120) (h0 : z 0 = nI n) (p0 : Int32)  : Met l y_PB_sign [.code y_PB_sign b_PB_sign 2 (some .boolean)] { frames := 1, cells := 0, slots := 0, locals := 40 } (gx_P s0 D classes ws sz [.ref (κ 0), .int p0]) (va_Qi (fun r w1 => (r = 0 ∧ (p0 < 33 ∨ 126 < p0 ∨ n = 120) ∧ w1 = ws) ∨ (r = 1 ∧ ¬ p0 < 33 ∧ ¬ 126 < p0 ∧ n < 120 ∧ cb_I cI cC cJ cII w1 κ ra (upd z 0 (z 0 + 1)) (upd sg n p0) G we pd ∧ cb_hi ws w1)) (gx_B D classes ws sz) (va_A ws sz)) 0 0 (va_A ws sz) := by
  refine gx_met (by decide +kernel) (Nat.le_of_ble_eq_true rfl) ?_
  intro p e s m below meth c ls hx hb hr hml hown hlocks hnm hsz hV hP hD hS hA hA0 hl
  have hg := fx_g F hV ([.ref (κ 0), .int p0] : List Value).toArray
  have hK := fx_k F hV
  have hn9 := fx_n F hV
  have hl : lv_has ls 2 [(0, .ref (κ 0)), (1, .int p0)] := hl
  have hH : cb_hi ws ws := fun _ _ => rfl
  refine lv_aload_n hx hb d_PB_sign_0 rfl (lv_at hl 0 rfl) ?_
  refine va_get (D := D) (ci := iPB) (v := .ref (κ 1)) (C := R_PB) (T := F_PB) (N := 11) hx hb (fl_PB hg) (fun _ h9 => h9) hown hK hP 0 (hI.1) rfl 0 (by decide) (hg _ k_88) (fun _ h9 => h9) rfl d_PB_sign_1 ?_
  refine lv_iload_n hx hb d_PB_sign_4 rfl (lv_at hl 1 rfl) ?_
  refine gx_calli (va_runVN (As := [.int p0]) (rest := []) ⟨hx, hb, hml, hown, gx_nil⟩ (c_TT_takes F hI _ n hn h0 p0) ⟨gx_cn (hg _ k_130) (hg _ k_2) (hn9 _ kn_127) nd_TT_takes ⟨by decide, by decide⟩, hg _ k_129, hg _ ks_0⟩ (gx_preV hV hP hD hS hA0 (va_recv hK hP rfl (hI.2.1))) rfl rfl hl.1 rfl (lv_room (Nat.le_of_ble_eq_true rfl)) d_PB_sign_5 ⟨by decide, by decide⟩) hD hS hA (fun r_5 w1 H locs h_5 hP hD hS => ?_)
  exact gx_iret hx hb hr hlocks (by rcases h_5 with ⟨q, -⟩ | ⟨q, -⟩ <;> (rw [q]; rfl)) hS hP hD (by decide) (by decide) d_PB_sign_8 (h_5)

set_option maxRecDepth 100000 in
set_option maxHeartbeats 4000000 in
theorem c_PB_takeOverTariffs {l : Launch} {s0 : State} {D : va_G} {cI cC cJ cII cO cZ : ClassId} (F : FX l s0 D cI cC cJ cII cO cZ) {ws : va_W} {κ : Nat → Nat} {ra : Nat → Nat → Nat} {z sg : Nat → Int32} {G : Nat → Nat → Nat → Int32} {we : Nat → Int32} {pd : Nat → Int64} (hI : cb_I cI cC cJ cII ws κ ra z sg G we pd) (sz : Nat) (mb : Nat) (hm : mb < 64) (h2 : z 2 = nI mb)  : Met l y_PB_takeOverTariffs [.code y_PB_takeOverTariffs b_PB_takeOverTariffs 2 none] { frames := 1, cells := 0, slots := 0, locals := 60 } (gx_P s0 D classes ws sz [.ref (κ 0)]) (va_Qv (fun w1 => ∃ G' : Nat → Nat → Nat → Int32, cb_I cI cC cJ cII w1 κ ra (upd z 3 (z 3 ||| z 2)) sg G' we pd ∧ cb_hi ws w1 ∧ (∀ g, g ≠ 1 → G' g = G g) ∧ ∀ k, k < 6 → ∀ j, j < 4 → G' 1 k j = if mb.testBit k = true then G 0 k j else G 1 k j) (gx_B D classes ws sz) (va_A ws sz)) 0 0 (va_A ws sz) := by
  refine gx_met (by decide +kernel) (Nat.le_of_ble_eq_true rfl) ?_
  intro p e s m below meth c ls hx hb hr hml hown hlocks hnm hsz hV hP hD hS hA hA0 hl
  have hg := fx_g F hV ([.ref (κ 0)] : List Value).toArray
  have hK := fx_k F hV
  have hn9 := fx_n F hV
  have hl : lv_has ls 2 [(0, .ref (κ 0))] := hl
  have hH : cb_hi ws ws := fun _ _ => rfl
  refine lv_iconst (v := 0) hx hb d_PB_takeOverTariffs_0 (by decide) ?_
  refine lv_istore_n (lv' := [(1, .int 0), (0, .ref (κ 0))]) hx hb d_PB_takeOverTariffs_1 rfl hl (by decide) rfl (fun ls hl => ?_)
  have loop : ∀ (nn : Nat) (i : Nat) (G' : Nat → Nat → Nat → Int32) (wx : va_W) (H : Heap) (locs : List Loc) (ls : Array Slot) (hi : i ≤ 6) (hf : 7 ≤ i + nn) (hG : ∀ g, g ≠ 1 → G' g = G g) (hG1 : ∀ k, G' 1 k = if k < i ∧ mb.testBit k = true then va_cpy (G 0 k) (G 1 k) 0 0 4 else G 1 k) (hI : cb_I cI cC cJ cII wx κ ra z sg G' we pd) (hH : cb_hi ws wx) (hP : va_P D classes wx H) (hD : va_D (va_A ws sz) wx) (hS : va_S (va_A ws sz) s.heap H locs) (hl : lv_has ls 2 [(1, .int (nI i)), (0, .ref (κ 0))]), W p l e ({ frames := 1, cells := 0, slots := 0, locals := 60 } : Room) s m ([.ref (κ 0)] : List Value).toArray below meth c H locs 0 0 (MQ below (va_Qv (fun w1 => ∃ G' : Nat → Nat → Nat → Int32, cb_I cI cC cJ cII w1 κ ra (upd z 3 (z 3 ||| z 2)) sg G' we pd ∧ cb_hi ws w1 ∧ (∀ g, g ≠ 1 → G' g = G g) ∧ ∀ k, k < 6 → ∀ j, j < 4 → G' 1 k j = if mb.testBit k = true then G 0 k j else G 1 k j) (gx_B D classes ws sz) (va_A ws sz)) ([.ref (κ 0)] : List Value).toArray s 0 0 (va_A ws sz)) (F0 m 2 ls []) := by
    intro nn
    induction nn with
    | zero =>
      intro i G' wx H locs ls hi hf hG hG1 hI hH hP hD hS hl
      exact absurd hf (by omega)
    | succ nn ih =>
      intro i G' wx H locs ls hi hf hG hG1 hI hH hP hD hS hl
      refine lv_iload_n hx hb d_PB_takeOverTariffs_2 rfl (lv_at hl 0 rfl) ?_
      refine lv_bipush (v := 6) hx hb d_PB_takeOverTariffs_3 (by decide) ?_
      refine lv_icmp_ge (tgt := 50) hx hb d_PB_takeOverTariffs_5 (by decide) (fun c_5 => ?_) (fun c_5 => ?_)
      · skip
        have hi6 : i = 6 := by have := gx_ngt (a := 6) c_5; omega
        refine lv_aload_n hx hb d_PB_takeOverTariffs_50 rfl (lv_at hl 1 rfl) ?_
        refine lv_dup hx hb d_PB_takeOverTariffs_51 rfl ?_
        refine va_get (D := D) (ci := iPB) (v := .int (z 3)) (C := R_PB) (T := F_PB) (N := 11) hx hb (fl_PB hg) (fun _ h9 => h9) hown hK hP 0 (hI.1) rfl 2 (by decide) (hg _ k_90) (fun _ h9 => h9) rfl d_PB_takeOverTariffs_52 ?_
        refine lv_aload_n hx hb d_PB_takeOverTariffs_55 rfl (lv_at hl 1 rfl) ?_
        refine va_get (D := D) (ci := iPB) (v := .ref (κ 1)) (C := R_PB) (T := F_PB) (N := 11) hx hb (fl_PB hg) (fun _ h9 => h9) hown hK hP 0 (hI.1) rfl 0 (by decide) (hg _ k_88) (fun _ h9 => h9) rfl d_PB_takeOverTariffs_56 ?_
        refine va_getN (D := D) (ci := iTT) (v := .int (z 2)) (C := R_TT) (T := F_TT) (N := 5) hx hb (fl_TT hg) (fun _ h9 => h9) hown hK hP 1 (hI.2.1) rfl 4 (by decide) (va_Nw.use rfl (hn9 _ kn_44)) (fun _ h9 => h9) rfl d_PB_takeOverTariffs_59 ?_
        refine lv_ior hx hb d_PB_takeOverTariffs_62 ?_
        refine va_put (D := D) (ci := iPB) (v := .int ((z 3) ||| (z 2))) (ty := .int) (C := R_PB) (T := F_PB) (N := 11) hx hb (fl_PB hg) (fun _ h9 => h9) t_PB t_PB_ok n_PB hown hK hP hD hS 0 (hI.1) rfl 2 (by decide) (hg _ k_90) (fun _ h9 => h9) rfl (by decide +kernel) rfl rfl (Nat.le_of_ble_eq_true rfl) d_PB_takeOverTariffs_63 (fun H locs hP hD hS => ?_)
        obtain ⟨w_1, ew_1⟩ : ∃ x : va_W, x = wx.set 0 (κ 0, .inr (iPB, [.ref (κ 1), .ref (κ 10), .int ((z 3) ||| (z 2)), .ref (κ 17), .ref (κ 28), .int (z 4), .ref (κ 29), .ref (κ 40), .ref (κ 51), .ref (κ 62), .ref (κ 63)])) := ⟨_, rfl⟩
        replace hP : va_P D classes w_1 H := by rw [ew_1]; exact hP
        replace hD : va_D (va_A ws sz) w_1 := by rw [ew_1]; exact hD
        replace hI : cb_I cI cC cJ cII w_1 κ ra (upd z 3 ((z 3) ||| (z 2))) sg G' we pd := by rw [ew_1]; exact cb_I.obj (z := z) (z' := upd z 3 ((z 3) ||| (z 2))) rfl rfl rfl hI
        replace hH : cb_hi ws w_1 := by rw [ew_1]; exact cb_hi.set (by decide) hH
        exact gx_vret hx hb hr hlocks hS hP hD (by decide) (by decide) d_PB_takeOverTariffs_66 (⟨G', hI, hH, hG, fun k hk j hj => by rw [hG1 k, hi6]; exact cb_tk_e hk hj⟩)
      · skip
        have hi6 : i < 6 := gx_nlt (a := 6) c_5
        refine lv_aload_n hx hb d_PB_takeOverTariffs_8 rfl (lv_at hl 1 rfl) ?_
        refine va_get (D := D) (ci := iPB) (v := .ref (κ 1)) (C := R_PB) (T := F_PB) (N := 11) hx hb (fl_PB hg) (fun _ h9 => h9) hown hK hP 0 (hI.1) rfl 0 (by decide) (hg _ k_88) (fun _ h9 => h9) rfl d_PB_takeOverTariffs_9 ?_
        refine va_getN (D := D) (ci := iTT) (v := .int (z 2)) (C := R_TT) (T := F_TT) (N := 5) hx hb (fl_TT hg) (fun _ h9 => h9) hown hK hP 1 (hI.2.1) rfl 4 (by decide) (va_Nw.use rfl (hn9 _ kn_44)) (fun _ h9 => h9) rfl d_PB_takeOverTariffs_12 ?_
        refine lv_iload_n hx hb d_PB_takeOverTariffs_15 rfl (lv_at hl 0 rfl) ?_
        refine lv_ishr hx hb d_PB_takeOverTariffs_16 ?_
        refine lv_iconst (v := 1) hx hb d_PB_takeOverTariffs_17 (by decide) ?_
        refine lv_iand hx hb d_PB_takeOverTariffs_18 ?_
        refine lv_iconst (v := 1) hx hb d_PB_takeOverTariffs_19 (by decide) ?_
        refine lv_icmp_ne (tgt := 44) hx hb d_PB_takeOverTariffs_20 (by decide) (fun c_20 => ?_) (fun c_20 => ?_)
        · skip
          rw [h2] at c_20
          have hbit : ¬ mb.testBit i = true := fun q => c_20 ((cb_bit mb hm i hi6).mpr q)
          refine lv_iinc (v := nI (i + 1)) (lv' := [(1, .int (nI (i + 1))), (0, .ref (κ 0))]) hx hb d_PB_takeOverTariffs_44 hl (k := 0) rfl (by rw [lit1]; exact nI_1 i) (by decide) rfl (fun ls hl => ?_)
          refine lv_goto (tgt := 2) hx hb d_PB_takeOverTariffs_47 (by decide) ?_
          exact ih (i + 1) G' _ _ _ ls (by omega) (by omega) hG (cb_tk_n hG1 hbit) hI hH hP hD hS (lv_sub hl [0, 1] rfl)
        · skip
          rw [h2] at c_20
          have hbit : mb.testBit i = true := (cb_bit mb hm i hi6).mp c_20
          refine lv_aload_n hx hb d_PB_takeOverTariffs_23 rfl (lv_at hl 1 rfl) ?_
          refine va_get (D := D) (ci := iPB) (v := .ref (κ 1)) (C := R_PB) (T := F_PB) (N := 11) hx hb (fl_PB hg) (fun _ h9 => h9) hown hK hP 0 (hI.1) rfl 0 (by decide) (hg _ k_88) (fun _ h9 => h9) rfl d_PB_takeOverTariffs_24 ?_
          refine va_getN (D := D) (ci := iTT) (v := .ref (κ 3)) (C := R_TT) (T := F_TT) (N := 5) hx hb (fl_TT hg) (fun _ h9 => h9) hown hK hP 1 (hI.2.1) rfl 3 (by decide) (va_Nw.use rfl (hn9 _ kn_42)) (fun _ h9 => h9) rfl d_PB_takeOverTariffs_27 ?_
          refine lv_iload_n hx hb d_PB_takeOverTariffs_30 rfl (lv_at hl 0 rfl) ?_
          refine gx_al hx hb hK hP 3 3 (hI.2.2.2.2.2.1 0 (by decide)) rfl rfl i (v := ra 0 i) (rfl) (hi6) (by decide) (if_pos (hi6)) d_PB_takeOverTariffs_31 ?_
          refine lv_iconst (v := 0) hx hb d_PB_takeOverTariffs_32 (by decide) ?_
          refine lv_aload_n hx hb d_PB_takeOverTariffs_33 rfl (lv_at hl 1 rfl) ?_
          refine va_get (D := D) (ci := iPB) (v := .ref (κ 10)) (C := R_PB) (T := F_PB) (N := 11) hx hb (fl_PB hg) (fun _ h9 => h9) hown hK hP 0 (hI.1) rfl 1 (by decide) (hg _ k_89) (fun _ h9 => h9) rfl d_PB_takeOverTariffs_34 ?_
          refine lv_iload_n hx hb d_PB_takeOverTariffs_37 rfl (lv_at hl 0 rfl) ?_
          refine gx_al hx hb hK hP 10 3 (hI.2.2.2.2.2.1 1 (by decide)) rfl rfl i (v := ra 1 i) (rfl) (hi6) (by decide) (if_pos (hi6)) d_PB_takeOverTariffs_38 ?_
          refine lv_iconst (v := 0) hx hb d_PB_takeOverTariffs_39 (by decide) ?_
          refine lv_iconst (v := 4) hx hb d_PB_takeOverTariffs_40 (by decide) ?_
          refine va_copyi hx hb (by rw [hml]; exact hl.1.symm) hown (hg _ k_165) (hg _ k_167) (hg _ k_166) (hg _ k_8) hK hP hD hS (cb_gp 0 + 1 + i) (cb_gp 1 + 1 + i) 0 0 (hI.2.2.2.2.2.2 0 (by decide) i hi6) (hI.2.2.2.2.2.2 1 (by decide) i hi6) rfl rfl rfl (by decide) (by decide) (by decide) (by decide) (by decide) (fun _ _ => rfl) (by decide) (by decide) d_PB_takeOverTariffs_41 (fun H locs hP hD hS => ?_)
          obtain ⟨w_2, ew_2⟩ : ∃ x : va_W, x = wx.set (cb_gp 1 + 1 + i) (ra 1 i, .inl (cI, cb_wd 1, .inl (va_cpy (G' 0 i) (G' 1 i) 0 0 4))) := ⟨_, rfl⟩
          replace hP : va_P D classes w_2 H := by rw [ew_2]; exact hP
          replace hD : va_D (va_A ws sz) w_2 := by rw [ew_2]; exact hD
          replace hI : cb_I cI cC cJ cII w_2 κ ra z sg (cb_upg G' 1 i (va_cpy (G' 0 i) (G' 1 i) 0 0 4)) we pd := by rw [ew_2]; exact cb_I.row (by decide) (hi6) hI
          replace hH : cb_hi ws w_2 := by rw [ew_2]; exact cb_hi.set (by have := cb_gp_lt 1 (by decide) i (hi6); omega) hH
          refine lv_iinc (v := nI (i + 1)) (lv' := [(1, .int (nI (i + 1))), (0, .ref (κ 0))]) hx hb d_PB_takeOverTariffs_44 hl (k := 0) rfl (by rw [lit1]; exact nI_1 i) (by decide) rfl (fun ls hl => ?_)
          refine lv_goto (tgt := 2) hx hb d_PB_takeOverTariffs_47 (by decide) ?_
          exact ih (i + 1) _ _ _ _ ls (by omega) (by omega) (fun g hg9 => by rw [cb_gk1 g hg9]; exact hG g hg9) (cb_tk_s hG hG1 hbit) hI hH hP hD hS (lv_sub hl [0, 1] rfl)
  exact loop 7 0 G ws s.heap [] ls (by decide) (by decide) (fun _ _ => rfl) (fun k => (if_neg (fun q => absurd q.1 (by omega))).symm) hI hH hP hD hS (lv_sub hl [0, 1] rfl)

set_option maxRecDepth 100000 in
set_option maxHeartbeats 4000000 in
theorem c_PB_read {l : Launch} {s0 : State} {D : va_G} {cI cC cJ cII cO cZ : ClassId} (F : FX l s0 D cI cC cJ cII cO cZ) {ws : va_W} {κ : Nat → Nat} {ra : Nat → Nat → Nat} {z sg : Nat → Int32} {G : Nat → Nat → Nat → Int32} {we : Nat → Int32} {pd : Nat → Int64} (hI : cb_I cI cC cJ cII ws κ ra z sg G we pd) (sz : Nat) (n : Nat) (hn : n ≤ 120) (h0 : z 0 = nI n) (hc : ∀ j, narrow .char (.int (sg j)) = .int (sg j))  : Met l y_PB_read [.code y_PB_read b_PB_read 2 (some .int)] { frames := 5, cells := 0, slots := 0, locals := 200 } (gx_P s0 D classes ws sz [.ref (κ 0)]) (va_Qi (fun r w1 => r = (cb_rows sg n 40 0 0 0 (fun _ _ => 0)).1 ∧ ∃ (z' : Nat → Int32) (G' : Nat → Nat → Nat → Int32) (mb : Nat) (R : Nat → Nat → Int32), cb_rows sg n 40 0 0 0 (fun _ _ => 0) = (r, mb, R) ∧ (0 < r → z' 3 = z 3 ||| nI mb ∧ mb < 64 ∧ ∀ k, k < 6 → ∀ j, j < 4 → G' 1 k j = if mb.testBit k = true then R k j else G 1 k j) ∧ (¬ 0 < r → z' 3 = z 3 ∧ G' 1 = G 1) ∧ cb_I cI cC cJ cII w1 κ ra z' sg G' we pd ∧ cb_hi ws w1 ∧ z' 0 = 0 ∧ z' 4 = z 4 ∧ z' 5 = z 5 ∧ (∀ g, 2 ≤ g → G' g = G g)) (gx_B D classes ws sz) (va_A ws sz)) 0 0 (va_A ws sz) := by
  refine gx_met (by decide +kernel) (Nat.le_of_ble_eq_true rfl) ?_
  intro p e s m below meth c ls hx hb hr hml hown hlocks hnm hsz hV hP hD hS hA hA0 hl
  have hg := fx_g F hV ([.ref (κ 0)] : List Value).toArray
  have hK := fx_k F hV
  have hn9 := fx_n F hV
  have hl : lv_has ls 2 [(0, .ref (κ 0))] := hl
  have hH : cb_hi ws ws := fun _ _ => rfl
  refine lv_aload_n hx hb d_PB_read_0 rfl (lv_at hl 0 rfl) ?_
  refine va_get (D := D) (ci := iPB) (v := .ref (κ 1)) (C := R_PB) (T := F_PB) (N := 11) hx hb (fl_PB hg) (fun _ h9 => h9) hown hK hP 0 (hI.1) rfl 0 (by decide) (hg _ k_88) (fun _ h9 => h9) rfl d_PB_read_1 ?_
  refine gx_calli (va_runVN (As := []) (rest := []) ⟨hx, hb, hml, hown, gx_nil⟩ (c_TT_readRows F hI _ n hn h0 hc) ⟨gx_cn (hg _ k_138) (hg _ k_2) (hn9 _ kn_135) nd_TT_readRows ⟨by decide, by decide⟩, hg _ k_137, hg _ ks_1⟩ (gx_preV hV hP hD hS hA0 (va_recv hK hP rfl (hI.2.1))) rfl rfl hl.1 rfl (lv_room (Nat.le_of_ble_eq_true rfl)) d_PB_read_4 ⟨by decide, by decide⟩) hD hS hA (fun r_4 w1 H locs h_4 hP hD hS => ?_)
  obtain ⟨hans, z1, G1, mb, R, hrows, hpos, hI, hH, hz, hG⟩ := h_4
  refine lv_istore_n (lv' := [(1, .int r_4), (0, .ref (κ 0))]) hx hb d_PB_read_7 rfl hl (by decide) rfl (fun ls hl => ?_)
  refine lv_iload_n hx hb d_PB_read_8 rfl (lv_at hl 0 rfl) ?_
  refine lv_if_le (tgt := 16) hx hb d_PB_read_9 (by decide) (fun c_9 => ?_) (fun c_9 => ?_)
  · skip
    refine lv_aload_n hx hb d_PB_read_16 rfl (lv_at hl 1 rfl) ?_
    refine va_get (D := D) (ci := iPB) (v := .ref (κ 1)) (C := R_PB) (T := F_PB) (N := 11) hx hb (fl_PB hg) (fun _ h9 => h9) hown hK hP 0 (hI.1) rfl 0 (by decide) (hg _ k_88) (fun _ h9 => h9) rfl d_PB_read_17 ?_
    refine gx_callv (va_runVN (As := []) (rest := []) ⟨hx, hb, hml, hown, gx_nil⟩ (c_TT_clear F hI _) ⟨gx_cn (hg _ k_171) (hg _ k_2) (hn9 _ kn_168) nd_TT_clear ⟨by decide, by decide⟩, hg _ k_170, hg _ ks_7⟩ (gx_preV hV hP hD hS hA0 (va_recv hK hP rfl (hI.2.1))) rfl rfl hl.1 rfl (lv_room (Nat.le_of_ble_eq_true rfl)) d_PB_read_20 ⟨by decide, by decide⟩) hD hS hA (fun w1 H locs h_20 hP hD hS => ?_)
    obtain ⟨hI, hh⟩ := h_20
    replace hH := cb_hi.trans hH hh
    refine lv_iload_n hx hb d_PB_read_23 rfl (lv_at hl 0 rfl) ?_
    exact gx_iret hx hb hr hlocks rfl hS hP hD (by decide) (by decide) d_PB_read_24 (⟨hans, upd z1 0 0, G1, mb, R, hrows, fun q => absurd q (gx_neg9 c_9), fun _ => ⟨hz.2.1, hG 1 (by decide)⟩, hI, hH, rfl, hz.2.2.1, hz.2.2.2, fun g hg9 => hG g (by omega)⟩)
  · skip
    refine lv_aload_n hx hb d_PB_read_12 rfl (lv_at hl 1 rfl) ?_
    refine gx_callv (va_runV (As := []) (rest := []) ⟨hx, hb, hml, hown, gx_nil⟩ (c_PB_takeOverTariffs F hI _ mb (hpos (gx_pos9 c_9)).2.1 (hpos (gx_pos9 c_9)).1) ⟨gx_cb (hg _ k_164) (hg _ k_1) (hg _ k_161) nd_PB_takeOverTariffs ⟨by decide, by decide⟩, hg _ k_163, hg _ ks_6⟩ (gx_preV hV hP hD hS hA0 (va_recv hK hP rfl (hI.1))) rfl rfl hl.1 rfl (lv_room (Nat.le_of_ble_eq_true rfl)) d_PB_read_13 ⟨by decide, by decide⟩) hD hS hA (fun w1 H locs h_13 hP hD hS => ?_)
    obtain ⟨G2, hI, hh, hG2, hG21⟩ := h_13
    replace hH := cb_hi.trans hH hh
    refine lv_aload_n hx hb d_PB_read_16 rfl (lv_at hl 1 rfl) ?_
    refine va_get (D := D) (ci := iPB) (v := .ref (κ 1)) (C := R_PB) (T := F_PB) (N := 11) hx hb (fl_PB hg) (fun _ h9 => h9) hown hK hP 0 (hI.1) rfl 0 (by decide) (hg _ k_88) (fun _ h9 => h9) rfl d_PB_read_17 ?_
    refine gx_callv (va_runVN (As := []) (rest := []) ⟨hx, hb, hml, hown, gx_nil⟩ (c_TT_clear F hI _) ⟨gx_cn (hg _ k_171) (hg _ k_2) (hn9 _ kn_168) nd_TT_clear ⟨by decide, by decide⟩, hg _ k_170, hg _ ks_7⟩ (gx_preV hV hP hD hS hA0 (va_recv hK hP rfl (hI.2.1))) rfl rfl hl.1 rfl (lv_room (Nat.le_of_ble_eq_true rfl)) d_PB_read_20 ⟨by decide, by decide⟩) hD hS hA (fun w1 H locs h_20 hP hD hS => ?_)
    obtain ⟨hI, hh⟩ := h_20
    replace hH := cb_hi.trans hH hh
    refine lv_iload_n hx hb d_PB_read_23 rfl (lv_at hl 0 rfl) ?_
    have hT9 : ∀ k, k < 6 → ∀ j, j < 4 → G2 1 k j = if mb.testBit k = true then R k j else G 1 k j := by
      intro k hk j hj
      rw [hG21 k hk j hj]
      by_cases q : mb.testBit k = true
      · rw [if_pos q, if_pos q]; exact (hpos (gx_pos9 c_9)).2.2 k hk q j hj
      · rw [if_neg q, if_neg q, hG 1 (by decide)]
    exact gx_iret hx hb hr hlocks rfl hS hP hD (by decide) (by decide) d_PB_read_24 (⟨hans, upd (upd z1 3 (z1 3 ||| z1 2)) 0 0, G2, mb, R, hrows, fun _ => ⟨by show z1 3 ||| z1 2 = _; rw [hz.2.1, (hpos (gx_pos9 c_9)).1], (hpos (gx_pos9 c_9)).2.1, hT9⟩, fun q => absurd (gx_pos9 c_9) q, hI, hH, rfl, hz.2.2.1, hz.2.2.2, fun g hg9 => by rw [hG2 g (by omega)]; exact hG g (by omega)⟩)
end
section
set_option maxRecDepth 100000 in
set_option maxHeartbeats 4000000 in
theorem c_AL_size {l : Launch} {s0 : State} {D : va_G} {cI cC cJ cII cO cZ : ClassId} (F : FX l s0 D cI cC cJ cII cO cZ) {ws : va_W} {q a4 ea : Nat} {md n : Int32} (he : ws[q]? = some (a4, .inr (iAL, [.int md, .ref ea, .int n]))) (sz : Nat)   : Met l y_AL_size [.code y_AL_size b_AL_size 1 (some .int)] { frames := 0, cells := 0, slots := 0, locals := 0 } (gx_P s0 D classes ws sz [.ref a4]) (gx_Ri (fun r => r = n)) 0 0 (fun _ => False) := by
  refine gx_met (by decide +kernel) (Nat.le_of_ble_eq_true rfl) ?_
  intro p e s m below meth c ls hx hb hr hml hown hlocks hnm hsz hV hP hD hS hA hA0 hl
  have hg := fx_g F hV ([.ref a4] : List Value).toArray
  have hK := fx_k F hV
  have hn9 := fx_n F hV
  have hl : lv_has ls 1 [(0, .ref a4)] := hl
  refine lv_aload_n hx hb d_AL_size_0 rfl (lv_at hl 0 rfl) ?_
  refine va_get (D := D) (ci := iAL) (v := .int n) (C := R_AL) (T := F_AL) (N := 3) hx hb (fl_AL hg) (fun _ h9 => h9) hown hK hP q (he) rfl 2 (by decide) (hg _ k_74) (fun _ h9 => h9) rfl d_AL_size_1 ?_
  exact gx_ireti hx hb hr hlocks rfl d_AL_size_4 (rfl)

set_option maxRecDepth 100000 in
set_option maxHeartbeats 4000000 in
theorem c_PC_checkIndex {l : Launch} {s0 : State} {D : va_G} {cI cC cJ cII cO cZ : ClassId} (F : FX l s0 D cI cC cJ cII cO cZ) (ws : va_W) (sz : Nat) (x y : Int32) (h0 : ¬ x < 0) (h1 : x < y)  : Met l y_PC_checkIndex [.code y_PC_checkIndex b_PC_checkIndex 3 (some .int)] { frames := 0, cells := 0, slots := 0, locals := 0 } (gx_P s0 D classes ws sz [.int x, .int y, .null]) (gx_Ri (fun r => r = x)) 0 0 (fun _ => False) := by
  refine gx_met (by decide +kernel) (Nat.le_of_ble_eq_true rfl) ?_
  intro p e s m below meth c ls hx hb hr hml hown hlocks hnm hsz hV hP hD hS hA hA0 hl
  have hg := fx_g F hV ([.int x, .int y, .null] : List Value).toArray
  have hK := fx_k F hV
  have hn9 := fx_n F hV
  have hl : lv_has ls 3 [(0, .int x), (1, .int y), (2, .null)] := hl
  refine lv_iload_n hx hb d_PC_checkIndex_0 rfl (lv_at hl 0 rfl) ?_
  refine lv_if_lt (tgt := 9) hx hb d_PC_checkIndex_1 (by decide) (fun c_1 => absurd c_1 h0) (fun c_1 => ?_)
  refine lv_iload_n hx hb d_PC_checkIndex_4 rfl (lv_at hl 0 rfl) ?_
  refine lv_iload_n hx hb d_PC_checkIndex_5 rfl (lv_at hl 1 rfl) ?_
  refine lv_icmp_lt (tgt := 16) hx hb d_PC_checkIndex_6 (by decide) (fun c_6 => ?_) (fun c_6 => absurd h1 c_6)
  refine lv_iload_n hx hb d_PC_checkIndex_16 rfl (lv_at hl 0 rfl) ?_
  exact gx_ireti hx hb hr hlocks rfl d_PC_checkIndex_17 (rfl)

set_option maxRecDepth 100000 in
set_option maxHeartbeats 4000000 in
theorem c_OB_checkIndex {l : Launch} {s0 : State} {D : va_G} {cI cC cJ cII cO cZ : ClassId} (F : FX l s0 D cI cC cJ cII cO cZ) (ws : va_W) (sz : Nat) (x y : Int32) (h0 : ¬ x < 0) (h1 : x < y)  : Met l y_OB_checkIndex [.code y_OB_checkIndex b_OB_checkIndex 2 (some .int)] { frames := 1, cells := 0, slots := 0, locals := 40 } (gx_P s0 D classes ws sz [.int x, .int y]) (gx_Ri (fun r => r = x)) 0 0 (fun _ => False) := by
  refine gx_met (by decide +kernel) (Nat.le_of_ble_eq_true rfl) ?_
  intro p e s m below meth c ls hx hb hr hml hown hlocks hnm hsz hV hP hD hS hA hA0 hl
  have hg := fx_g F hV ([.int x, .int y] : List Value).toArray
  have hK := fx_k F hV
  have hn9 := fx_n F hV
  have hl : lv_has ls 2 [(0, .int x), (1, .int y)] := hl
  refine lv_iload_n hx hb d_OB_checkIndex_0 rfl (lv_at hl 0 rfl) ?_
  refine lv_iload_n hx hb d_OB_checkIndex_1 rfl (lv_at hl 1 rfl) ?_
  refine lv_null hx hb d_OB_checkIndex_2 ?_
  refine gx_readi (va_runS (As := [.int x, .int y, .null]) (rest := []) ⟨hx, hb, hml, hown, gx_nil⟩ (c_PC_checkIndex F _ _ x y h0 h1) ⟨gx_cb (hg _ k_201) (hg _ k_18) (hg _ k_199) nd_PC_checkIndex ⟨by decide, by decide⟩, hg _ k_200⟩ (gx_preS hV hP hD hS hA0) rfl rfl hl.1 rfl (lv_room (Nat.le_of_ble_eq_true rfl)) d_OB_checkIndex_3 ⟨by decide, by decide⟩) (fun r_3 h_3 => ?_)
  exact gx_ireti hx hb hr hlocks rfl d_OB_checkIndex_6 (h_3)

set_option maxRecDepth 100000 in
set_option maxHeartbeats 4000000 in
theorem c_AL_elementData {l : Launch} {s0 : State} {D : va_G} {cI cC cJ cII cO cZ : ClassId} (F : FX l s0 D cI cC cJ cII cO cZ) {ws : va_W} {q a4 ea : Nat} {md n : Int32} (he : ws[q]? = some (a4, .inr (iAL, [.int md, .ref ea, .int n]))) {ep cap : Nat} {ef : Nat → Option Nat} (ha : ws[ep]? = some (ea, .inl (cO, cap, .inr (.inr (.inr (.inr ef)))))) (sz : Nat) (j v : Nat) (hj : j < cap) (hcap : cap < 2 ^ 31) (hv : ef j = some v)  : Met l y_AL_elementData [.code y_AL_elementData b_AL_elementData 2 (some (.object "java/lang/Object"))] { frames := 0, cells := 0, slots := 0, locals := 0 } (gx_P s0 D classes ws sz [.ref a4, .int (nI j)]) (gx_Rr (fun r => r = v)) 0 0 (fun _ => False) := by
  refine gx_met (by decide +kernel) (Nat.le_of_ble_eq_true rfl) ?_
  intro p e s m below meth c ls hx hb hr hml hown hlocks hnm hsz hV hP hD hS hA hA0 hl
  have hg := fx_g F hV ([.ref a4, .int (nI j)] : List Value).toArray
  have hK := fx_k F hV
  have hn9 := fx_n F hV
  have hl : lv_has ls 2 [(0, .ref a4), (1, .int (nI j))] := hl
  refine lv_aload_n hx hb d_AL_elementData_0 rfl (lv_at hl 0 rfl) ?_
  refine va_get (D := D) (ci := iAL) (v := .ref ea) (C := R_AL) (T := F_AL) (N := 3) hx hb (fl_AL hg) (fun _ h9 => h9) hown hK hP q (he) rfl 1 (by decide) (hg _ k_73) (fun _ h9 => h9) rfl d_AL_elementData_1 ?_
  refine lv_iload_n hx hb d_AL_elementData_4 rfl (lv_at hl 1 rfl) ?_
  refine gx_al hx hb hK hP ep 4 (ha) rfl rfl j (v := v) (rfl) (hj) hcap (hv) d_AL_elementData_5 ?_
  exact gx_iretr hx hb hr (Or.inl ⟨_, rfl⟩) hlocks d_AL_elementData_6 (rfl)

set_option maxRecDepth 100000 in
set_option maxHeartbeats 4000000 in
theorem c_AL_get {l : Launch} {s0 : State} {D : va_G} {cI cC cJ cII cO cZ : ClassId} (F : FX l s0 D cI cC cJ cII cO cZ) {ws : va_W} {q a4 ea : Nat} {md n : Int32} (he : ws[q]? = some (a4, .inr (iAL, [.int md, .ref ea, .int n]))) {ep cap : Nat} {ef : Nat → Option Nat} (ha : ws[ep]? = some (ea, .inl (cO, cap, .inr (.inr (.inr (.inr ef)))))) (sz : Nat) (j v : Nat) (hj : j < cap) (hcap : cap < 2 ^ 31) (hjn : nI j < n) (hv : ef j = some v)  : Met l y_AL_get [.code y_AL_get b_AL_get 2 (some (.object "java/lang/Object"))] { frames := 2, cells := 0, slots := 0, locals := 80 } (gx_P s0 D classes ws sz [.ref a4, .int (nI j)]) (gx_Rr (fun r => r = v)) 0 0 (fun _ => False) := by
  refine gx_met (by decide +kernel) (Nat.le_of_ble_eq_true rfl) ?_
  intro p e s m below meth c ls hx hb hr hml hown hlocks hnm hsz hV hP hD hS hA hA0 hl
  have hg := fx_g F hV ([.ref a4, .int (nI j)] : List Value).toArray
  have hK := fx_k F hV
  have hn9 := fx_n F hV
  have hl : lv_has ls 2 [(0, .ref a4), (1, .int (nI j))] := hl
  refine lv_iload_n hx hb d_AL_get_0 rfl (lv_at hl 1 rfl) ?_
  refine lv_aload_n hx hb d_AL_get_1 rfl (lv_at hl 0 rfl) ?_
  refine va_get (D := D) (ci := iAL) (v := .int n) (C := R_AL) (T := F_AL) (N := 3) hx hb (fl_AL hg) (fun _ h9 => h9) hown hK hP q (he) rfl 2 (by decide) (hg _ k_74) (fun _ h9 => h9) rfl d_AL_get_2 ?_
  refine gx_readi (va_runS (As := [.int (nI j), .int n]) (rest := []) ⟨hx, hb, hml, hown, gx_nil⟩ (c_OB_checkIndex F _ _ _ _ (nI_pos (by omega)) hjn) ⟨gx_cb (hg _ k_198) (hg _ k_17) (hg _ k_196) nd_OB_checkIndex ⟨by decide, by decide⟩, hg _ k_197⟩ (gx_preS hV hP hD hS hA0) rfl rfl hl.1 rfl (lv_room (Nat.le_of_ble_eq_true rfl)) d_AL_get_5 ⟨by decide, by decide⟩) (fun r_5 h_5 => ?_)
  refine lv_pop hx hb d_AL_get_8 rfl ?_
  refine lv_aload_n hx hb d_AL_get_9 rfl (lv_at hl 0 rfl) ?_
  refine lv_iload_n hx hb d_AL_get_10 rfl (lv_at hl 1 rfl) ?_
  refine gx_readr (va_runV (As := [.int (nI j)]) (rest := []) ⟨hx, hb, hml, hown, gx_nil⟩ (c_AL_elementData F he ha _ j v hj hcap hv) ⟨gx_cb (hg _ k_205) (hg _ k_5) (hg _ k_202) nd_AL_elementData ⟨by decide, by decide⟩, hg _ k_203, hg _ k_204⟩ (gx_preV hV hP hD hS hA0 (va_recv hK hP rfl (he))) rfl rfl hl.1 rfl (lv_room (Nat.le_of_ble_eq_true rfl)) d_AL_get_11 ⟨by decide, by decide⟩) (fun r_11 h_11 => ?_)
  exact gx_iretr hx hb hr (Or.inl ⟨_, rfl⟩) hlocks d_AL_get_14 (h_11)
end
section
set_option maxRecDepth 100000 in
set_option maxHeartbeats 4000000 in
theorem c_PB_isLine {l : Launch} {s0 : State} {D : va_G} {cI cC cJ cII cO cZ : ClassId} (F : FX l s0 D cI cC cJ cII cO cZ) {ws : va_W} {κ : Nat → Nat} {ra : Nat → Nat → Nat} {z sg : Nat → Int32} {G : Nat → Nat → Nat → Int32} {we : Nat → Int32} {pd : Nat → Int64} (hI : cb_I cI cC cJ cII ws κ ra z sg G we pd) {nl : Nat} {la lp : Nat → Nat} {li : Nat → Nat → Int32} {ll : Nat → Nat → Int64} (hL : cb_L cO ws (κ 62) (z 5) (fx_e0 F) nl la lp li ll) (sz : Nat) (hnl : nl ≤ 200) (p0 : Int32)  : Met l y_PB_isLine [.code y_PB_isLine b_PB_isLine 2 (some .boolean)] { frames := 1, cells := 0, slots := 0, locals := 40 } (gx_P s0 D classes ws sz [.ref (κ 0), .int p0]) (gx_Ri (fun r => (r = 1 ∧ ∃ j, j < nl ∧ p0 = nI j) ∨ (r = 0 ∧ (p0 < 0 ∨ nI nl ≤ p0)))) 0 0 (fun _ => False) := by
  refine gx_met (by decide +kernel) (Nat.le_of_ble_eq_true rfl) ?_
  intro p e s m below meth c ls hx hb hr hml hown hlocks hnm hsz hV hP hD hS hA hA0 hl
  have hg := fx_g F hV ([.ref (κ 0), .int p0] : List Value).toArray
  have hK := fx_k F hV
  have hn9 := fx_n F hV
  have hl : lv_has ls 2 [(0, .ref (κ 0)), (1, .int p0)] := hl
  obtain ⟨ea, e62, eL, einj, earr⟩ := id hL
  refine lv_iload_n hx hb d_PB_isLine_0 rfl (lv_at hl 1 rfl) ?_
  refine lv_if_lt (tgt := 19) hx hb d_PB_isLine_1 (by decide) (fun c_1 => ?_) (fun c_1 => ?_)
  · skip
    refine lv_iconst (v := 0) hx hb d_PB_isLine_19 (by decide) ?_
    exact gx_ireti hx hb hr hlocks rfl d_PB_isLine_20 (Or.inr ⟨rfl, Or.inl c_1⟩)
  · skip
    refine lv_iload_n hx hb d_PB_isLine_4 rfl (lv_at hl 1 rfl) ?_
    refine lv_aload_n hx hb d_PB_isLine_5 rfl (lv_at hl 0 rfl) ?_
    refine va_get (D := D) (ci := iPB) (v := .ref (κ 62)) (C := R_PB) (T := F_PB) (N := 11) hx hb (fl_PB hg) (fun _ h9 => h9) hown hK hP 0 (hI.1) rfl 9 (by decide) (hg _ k_97) (fun _ h9 => h9) rfl d_PB_isLine_6 ?_
    refine gx_readi (va_runV (As := []) (rest := [.int p0]) ⟨hx, hb, hml, hown, gx_nil⟩ (c_AL_size F e62 _) ⟨gx_cb (hg _ k_191) (hg _ k_5) (hg _ k_188) nd_AL_size ⟨by decide, by decide⟩, hg _ k_189, hg _ k_190⟩ (gx_preV hV hP hD hS hA0 (va_recv hK hP rfl (e62))) rfl rfl hl.1 rfl (lv_room (Nat.le_of_ble_eq_true rfl)) d_PB_isLine_9 ⟨by decide, by decide⟩) (fun r_9 h_9 => ?_)
    subst h_9
    refine lv_icmp_ge (tgt := 19) hx hb d_PB_isLine_12 (by decide) (fun c_12 => ?_) (fun c_12 => ?_)
    · skip
      refine lv_iconst (v := 0) hx hb d_PB_isLine_19 (by decide) ?_
      exact gx_ireti hx hb hr hlocks rfl d_PB_isLine_20 (Or.inr ⟨rfl, Or.inr c_12⟩)
    · skip
      refine lv_iconst (v := 1) hx hb d_PB_isLine_15 (by decide) ?_
      refine lv_goto (tgt := 20) hx hb d_PB_isLine_16 (by decide) ?_
      exact gx_ireti hx hb hr hlocks rfl d_PB_isLine_20 (Or.inl ⟨rfl, gx_rng (by omega) c_1 c_12⟩)

set_option maxRecDepth 100000 in
set_option maxHeartbeats 4000000 in
theorem c_LN_isCorrection {l : Launch} {s0 : State} {D : va_G} {cI cC cJ cII cO cZ : ClassId} (F : FX l s0 D cI cC cJ cII cO cZ) {ws : va_W} {q a : Nat} {fi : Nat → Int32} {fl : Nat → Int64} (he : ws[q]? = some (a, .inr (iLN, cb_ln fi fl))) (sz : Nat)   : Met l y_LN_isCorrection [.code y_LN_isCorrection b_LN_isCorrection 1 (some .boolean)] { frames := 0, cells := 0, slots := 0, locals := 0 } (gx_P s0 D classes ws sz [.ref a]) (gx_Ri (fun r => (r = 0 ∧ fi 4 = -1) ∨ (r = 1 ∧ ¬ fi 4 = -1))) 0 0 (fun _ => False) := by
  refine gx_met (by decide +kernel) (Nat.le_of_ble_eq_true rfl) ?_
  intro p e s m below meth c ls hx hb hr hml hown hlocks hnm hsz hV hP hD hS hA hA0 hl
  have hg := fx_g F hV ([.ref a] : List Value).toArray
  have hK := fx_k F hV
  have hn9 := fx_n F hV
  have hl : lv_has ls 1 [(0, .ref a)] := hl
  refine lv_aload_n hx hb d_LN_isCorrection_0 rfl (lv_at hl 0 rfl) ?_
  refine va_get (D := D) (ci := iLN) (v := .int (fi 4)) (C := R_LN) (T := F_LN) (N := 9) hx hb (fl_LN hg) (fun _ h9 => h9) hown hK hP q (he) rfl 5 (by decide) (hg _ k_366) (fun _ h9 => h9) rfl d_LN_isCorrection_1 ?_
  refine lv_iconst (v := (-1)) hx hb d_LN_isCorrection_4 (by decide) ?_
  refine lv_icmp_eq (tgt := 12) hx hb d_LN_isCorrection_5 (by decide) (fun c_5 => ?_) (fun c_5 => ?_)
  · skip
    refine lv_iconst (v := 0) hx hb d_LN_isCorrection_12 (by decide) ?_
    exact gx_ireti hx hb hr hlocks rfl d_LN_isCorrection_13 (Or.inl ⟨rfl, c_5⟩)
  · skip
    refine lv_iconst (v := 1) hx hb d_LN_isCorrection_8 (by decide) ?_
    refine lv_goto (tgt := 13) hx hb d_LN_isCorrection_9 (by decide) ?_
    exact gx_ireti hx hb hr hlocks rfl d_LN_isCorrection_13 (Or.inr ⟨rfl, c_5⟩)

set_option maxRecDepth 100000 in
set_option maxHeartbeats 4000000 in
theorem c_LN_part {l : Launch} {s0 : State} {D : va_G} {cI cC cJ cII cO cZ : ClassId} (F : FX l s0 D cI cC cJ cII cO cZ) {ws : va_W} {q a : Nat} {fi : Nat → Int32} {fl : Nat → Int64} (he : ws[q]? = some (a, .inr (iLN, cb_ln fi fl))) (sz : Nat) (k : Nat) (hk : k < 9)  : Met l y_LN_part [.code y_LN_part b_LN_part 2 (some .long)] { frames := 0, cells := 0, slots := 0, locals := 0 } (gx_P s0 D classes ws sz [.ref a, .int (nI k)]) (gx_Rl (fun r => r = cb_part fi fl k)) 0 0 (fun _ => False) := by
  refine gx_met (by decide +kernel) (Nat.le_of_ble_eq_true rfl) ?_
  intro p e s m below meth c ls hx hb hr hml hown hlocks hnm hsz hV hP hD hS hA hA0 hl
  have hg := fx_g F hV ([.ref a, .int (nI k)] : List Value).toArray
  have hK := fx_k F hV
  have hn9 := fx_n F hV
  have hl : lv_has ls 2 [(0, .ref a), (1, .int (nI k))] := hl
  refine lv_iload_n hx hb d_LN_part_0 rfl (lv_at hl 1 rfl) ?_
  rcases (show k = 0 ∨ k = 1 ∨ k = 2 ∨ k = 3 ∨ k = 4 ∨ k = 5 ∨ k = 6 ∨ k = 7 ∨ k = 8 by omega) with rfl | rfl | rfl | rfl | rfl | rfl | rfl | rfl | rfl
  · skip
    refine lv_tableIn (off := 47) (tgt := 48) hx hb d_LN_part_1 (by decide) (by decide) (by decide) (by decide) ?_
    refine lv_aload_n hx hb d_LN_part_48 rfl (lv_at hl 0 rfl) ?_
    refine va_get (D := D) (ci := iLN) (v := .int (fi 0)) (C := R_LN) (T := F_LN) (N := 9) hx hb (fl_LN hg) (fun _ h9 => h9) hown hK hP q (he) rfl 0 (by decide) (hg _ k_358) (fun _ h9 => h9) rfl d_LN_part_49 ?_
    refine lv_i2l (v := (fi 0).toInt64) hx hb d_LN_part_52 (rfl) ?_
    exact gx_iretl hx hb hr hlocks d_LN_part_53 (rfl)
  · skip
    refine lv_tableIn (off := 53) (tgt := 54) hx hb d_LN_part_1 (by decide) (by decide) (by decide) (by decide) ?_
    refine lv_aload_n hx hb d_LN_part_54 rfl (lv_at hl 0 rfl) ?_
    refine va_get (D := D) (ci := iLN) (v := .int (fi 1)) (C := R_LN) (T := F_LN) (N := 9) hx hb (fl_LN hg) (fun _ h9 => h9) hown hK hP q (he) rfl 1 (by decide) (hg _ k_360) (fun _ h9 => h9) rfl d_LN_part_55 ?_
    refine lv_i2l (v := (fi 1).toInt64) hx hb d_LN_part_58 (rfl) ?_
    exact gx_iretl hx hb hr hlocks d_LN_part_59 (rfl)
  · skip
    refine lv_tableIn (off := 59) (tgt := 60) hx hb d_LN_part_1 (by decide) (by decide) (by decide) (by decide) ?_
    refine lv_aload_n hx hb d_LN_part_60 rfl (lv_at hl 0 rfl) ?_
    refine va_get (D := D) (ci := iLN) (v := .int (fi 2)) (C := R_LN) (T := F_LN) (N := 9) hx hb (fl_LN hg) (fun _ h9 => h9) hown hK hP q (he) rfl 2 (by decide) (hg _ k_362) (fun _ h9 => h9) rfl d_LN_part_61 ?_
    refine lv_i2l (v := (fi 2).toInt64) hx hb d_LN_part_64 (rfl) ?_
    exact gx_iretl hx hb hr hlocks d_LN_part_65 (rfl)
  · skip
    refine lv_tableIn (off := 65) (tgt := 66) hx hb d_LN_part_1 (by decide) (by decide) (by decide) (by decide) ?_
    refine lv_aload_n hx hb d_LN_part_66 rfl (lv_at hl 0 rfl) ?_
    refine va_get (D := D) (ci := iLN) (v := .int (fi 3)) (C := R_LN) (T := F_LN) (N := 9) hx hb (fl_LN hg) (fun _ h9 => h9) hown hK hP q (he) rfl 3 (by decide) (hg _ k_363) (fun _ h9 => h9) rfl d_LN_part_67 ?_
    refine lv_i2l (v := (fi 3).toInt64) hx hb d_LN_part_70 (rfl) ?_
    exact gx_iretl hx hb hr hlocks d_LN_part_71 (rfl)
  · skip
    refine lv_tableIn (off := 71) (tgt := 72) hx hb d_LN_part_1 (by decide) (by decide) (by decide) (by decide) ?_
    refine lv_aload_n hx hb d_LN_part_72 rfl (lv_at hl 0 rfl) ?_
    refine va_get (D := D) (ci := iLN) (v := .long (fl 0)) (C := R_LN) (T := F_LN) (N := 9) hx hb (fl_LN hg) (fun _ h9 => h9) hown hK hP q (he) rfl 4 (by decide) (hg _ k_364) (fun _ h9 => h9) rfl d_LN_part_73 ?_
    exact gx_iretl hx hb hr hlocks d_LN_part_76 (rfl)
  · skip
    refine lv_tableIn (off := 76) (tgt := 77) hx hb d_LN_part_1 (by decide) (by decide) (by decide) (by decide) ?_
    refine lv_aload_n hx hb d_LN_part_77 rfl (lv_at hl 0 rfl) ?_
    refine va_get (D := D) (ci := iLN) (v := .int (fi 4)) (C := R_LN) (T := F_LN) (N := 9) hx hb (fl_LN hg) (fun _ h9 => h9) hown hK hP q (he) rfl 5 (by decide) (hg _ k_366) (fun _ h9 => h9) rfl d_LN_part_78 ?_
    refine lv_i2l (v := (fi 4).toInt64) hx hb d_LN_part_81 (rfl) ?_
    exact gx_iretl hx hb hr hlocks d_LN_part_82 (rfl)
  · skip
    refine lv_tableIn (off := 82) (tgt := 83) hx hb d_LN_part_1 (by decide) (by decide) (by decide) (by decide) ?_
    refine lv_aload_n hx hb d_LN_part_83 rfl (lv_at hl 0 rfl) ?_
    refine va_get (D := D) (ci := iLN) (v := .int (fi 6)) (C := R_LN) (T := F_LN) (N := 9) hx hb (fl_LN hg) (fun _ h9 => h9) hown hK hP q (he) rfl 7 (by decide) (hg _ k_369) (fun _ h9 => h9) rfl d_LN_part_84 ?_
    refine lv_if_eq (tgt := 94) hx hb d_LN_part_87 (by decide) (fun c_87 => ?_) (fun c_87 => ?_)
    · skip
      refine lv_lconst (v := 0) hx hb d_LN_part_94 (by decide) ?_
      exact gx_iretl hx hb hr hlocks d_LN_part_95 ((if_pos c_87).symm)
    · skip
      refine lv_lconst (v := 1) hx hb d_LN_part_90 (by decide) ?_
      refine lv_goto (tgt := 95) hx hb d_LN_part_91 (by decide) ?_
      exact gx_iretl hx hb hr hlocks d_LN_part_95 ((if_neg c_87).symm)
  · skip
    refine lv_tableIn (off := 95) (tgt := 96) hx hb d_LN_part_1 (by decide) (by decide) (by decide) (by decide) ?_
    refine lv_aload_n hx hb d_LN_part_96 rfl (lv_at hl 0 rfl) ?_
    refine va_get (D := D) (ci := iLN) (v := .int (fi 5)) (C := R_LN) (T := F_LN) (N := 9) hx hb (fl_LN hg) (fun _ h9 => h9) hown hK hP q (he) rfl 6 (by decide) (hg _ k_368) (fun _ h9 => h9) rfl d_LN_part_97 ?_
    refine lv_if_eq (tgt := 107) hx hb d_LN_part_100 (by decide) (fun c_100 => ?_) (fun c_100 => ?_)
    · skip
      refine lv_lconst (v := 0) hx hb d_LN_part_107 (by decide) ?_
      exact gx_iretl hx hb hr hlocks d_LN_part_108 ((if_pos c_100).symm)
    · skip
      refine lv_lconst (v := 1) hx hb d_LN_part_103 (by decide) ?_
      refine lv_goto (tgt := 108) hx hb d_LN_part_104 (by decide) ?_
      exact gx_iretl hx hb hr hlocks d_LN_part_108 ((if_neg c_100).symm)
  · skip
    refine lv_tableOut (tgt := 109) hx hb d_LN_part_1 (Or.inr (by decide)) (by decide) ?_
    refine lv_aload_n hx hb d_LN_part_109 rfl (lv_at hl 0 rfl) ?_
    refine va_get (D := D) (ci := iLN) (v := .long (fl 1)) (C := R_LN) (T := F_LN) (N := 9) hx hb (fl_LN hg) (fun _ h9 => h9) hown hK hP q (he) rfl 8 (by decide) (hg _ k_371) (fun _ h9 => h9) rfl d_LN_part_110 ?_
    exact gx_iretl hx hb hr hlocks d_LN_part_113 (rfl)

set_option maxRecDepth 100000 in
set_option maxHeartbeats 4000000 in
theorem c_PB_owedNow {l : Launch} {s0 : State} {D : va_G} {cI cC cJ cII cO cZ : ClassId} (F : FX l s0 D cI cC cJ cII cO cZ) {ws : va_W} {κ : Nat → Nat} {ra : Nat → Nat → Nat} {z sg : Nat → Int32} {G : Nat → Nat → Nat → Int32} {we : Nat → Int32} {pd : Nat → Int64} (hI : cb_I cI cC cJ cII ws κ ra z sg G we pd) {nl : Nat} {la lp : Nat → Nat} {li : Nat → Nat → Int32} {ll : Nat → Nat → Int64} (hL : cb_L cO ws (κ 62) (z 5) (fx_e0 F) nl la lp li ll) (sz : Nat) (hnl : nl ≤ 200) (k : Nat) (hk : k < 10)  : Met l y_PB_owedNow [.code y_PB_owedNow b_PB_owedNow 6 (some .long)] { frames := 3, cells := 0, slots := 0, locals := 120 } (gx_P s0 D classes ws sz [.ref (κ 0), .int (nI k)]) (gx_Rl (fun r => r = cb_ow (nI k) li ll (-(pd k)) nl)) 0 0 (fun _ => False) := by
  refine gx_met (by decide +kernel) (Nat.le_of_ble_eq_true rfl) ?_
  intro p e s m below meth c ls hx hb hr hml hown hlocks hnm hsz hV hP hD hS hA hA0 hl
  have hg := fx_g F hV ([.ref (κ 0), .int (nI k)] : List Value).toArray
  have hK := fx_k F hV
  have hn9 := fx_n F hV
  have hl : lv_has ls 6 [(0, .ref (κ 0)), (1, .int (nI k))] := hl
  obtain ⟨ea, e62, eL, einj, earr⟩ := id hL
  refine lv_aload_n hx hb d_PB_owedNow_0 rfl (lv_at hl 0 rfl) ?_
  refine va_get (D := D) (ci := iPB) (v := .ref (κ 63)) (C := R_PB) (T := F_PB) (N := 11) hx hb (fl_PB hg) (fun _ h9 => h9) hown hK hP 0 (hI.1) rfl 10 (by decide) (hg _ k_98) (fun _ h9 => h9) rfl d_PB_owedNow_1 ?_
  refine lv_iload_n hx hb d_PB_owedNow_4 rfl (lv_at hl 1 rfl) ?_
  refine gx_ll hx hb hK hP 63 2 (hI.2.2.2.2.1) rfl k (rfl) (hk) (by decide) d_PB_owedNow_5 ?_
  refine lv_lneg hx hb d_PB_owedNow_6 ?_
  refine lv_lstore_n (lv' := [(2, .long (-(pd k))), (0, .ref (κ 0)), (1, .int (nI k))]) hx hb d_PB_owedNow_7 rfl hl (by decide) rfl (fun ls hl => ?_)
  refine lv_iconst (v := 0) hx hb d_PB_owedNow_8 (by decide) ?_
  refine lv_istore (lv' := [(4, .int 0), (2, .long (-(pd k))), (0, .ref (κ 0)), (1, .int (nI k))]) hx hb d_PB_owedNow_9 hl (by decide) rfl (fun ls hl => ?_)
  have loop : ∀ (nn : Nat) (i : Nat) (ls : Array Slot) (hi : i ≤ nl) (hin : nl + 1 ≤ i + nn) (hl : lv_has ls 6 [(4, .int (nI i)), (2, .long (cb_ow (nI k) li ll (-(pd k)) i)), (0, .ref (κ 0)), (1, .int (nI k))]), W p l e ({ frames := 3, cells := 0, slots := 0, locals := 120 } : Room) s m ([.ref (κ 0), .int (nI k)] : List Value).toArray below meth c s.heap [] 0 0 (MQ below (gx_Rl (fun r => r = cb_ow (nI k) li ll (-(pd k)) nl)) ([.ref (κ 0), .int (nI k)] : List Value).toArray s 0 0 (fun _ => False)) (F0 m 11 ls []) := by
    intro nn
    induction nn with
    | zero =>
      intro i ls hi hin hl
      exact absurd hin (by omega)
    | succ nn ih =>
      intro i ls hi hin hl
      refine lv_iload hx hb d_PB_owedNow_11 (lv_at hl 0 rfl) ?_
      refine lv_aload_n hx hb d_PB_owedNow_13 rfl (lv_at hl 2 rfl) ?_
      refine va_get (D := D) (ci := iPB) (v := .ref (κ 62)) (C := R_PB) (T := F_PB) (N := 11) hx hb (fl_PB hg) (fun _ h9 => h9) hown hK hP 0 (hI.1) rfl 9 (by decide) (hg _ k_97) (fun _ h9 => h9) rfl d_PB_owedNow_14 ?_
      refine gx_readi (va_runV (As := []) (rest := [.int (nI i)]) ⟨hx, hb, hml, hown, gx_nil⟩ (c_AL_size F e62 _) ⟨gx_cb (hg _ k_191) (hg _ k_5) (hg _ k_188) nd_AL_size ⟨by decide, by decide⟩, hg _ k_189, hg _ k_190⟩ (gx_preV hV hP hD hS hA0 (va_recv hK hP rfl (e62))) rfl rfl hl.1 rfl (lv_room (Nat.le_of_ble_eq_true rfl)) d_PB_owedNow_17 ⟨by decide, by decide⟩) (fun r_17 h_17 => ?_)
      subst h_17
      refine lv_icmp_ge (tgt := 68) hx hb d_PB_owedNow_20 (by decide) (fun c_20 => ?_) (fun c_20 => ?_)
      · skip
        have hin2 : i = nl := by have := gx_ngt c_20; omega
        subst hin2
        refine lv_lload_n hx hb d_PB_owedNow_68 rfl (lv_at hl 1 rfl) ?_
        exact gx_iretl hx hb hr hlocks d_PB_owedNow_69 (rfl)
      · skip
        have hin2 : i < nl := gx_nlt c_20
        obtain ⟨ep, cap, ef, ea0, ea5, ea6, ea7, ea1, ea2, ea3⟩ : ∃ (ep cap : Nat) (ef : Nat → Option Nat), 64 ≤ ep ∧ nl ≤ cap ∧ 10 ≤ cap ∧ cap ≤ 400 ∧ ws[ep]? = some (ea, .inl (cO, cap, .inr (.inr (.inr (.inr ef))))) ∧ (∀ j, j < nl → ef j = some (la j)) ∧ ∀ j, j < cap → ∀ y, ef j = some y → ∃ i, i < nl ∧ y = la i := earr.resolve_left (fun q => absurd q.1 (by omega))
        refine lv_aload_n hx hb d_PB_owedNow_23 rfl (lv_at hl 2 rfl) ?_
        refine va_get (D := D) (ci := iPB) (v := .ref (κ 62)) (C := R_PB) (T := F_PB) (N := 11) hx hb (fl_PB hg) (fun _ h9 => h9) hown hK hP 0 (hI.1) rfl 9 (by decide) (hg _ k_97) (fun _ h9 => h9) rfl d_PB_owedNow_24 ?_
        refine lv_iload hx hb d_PB_owedNow_27 (lv_at hl 0 rfl) ?_
        refine gx_readr (va_runV (As := [.int (nI i)]) (rest := []) ⟨hx, hb, hml, hown, gx_nil⟩ (c_AL_get F e62 ea1 _ i (la i) (by omega) (by omega) (nI_lt (hin2) (by omega)) (ea2 i (hin2))) ⟨gx_cb (hg _ k_195) (hg _ k_5) (hg _ k_192) nd_AL_get ⟨by decide, by decide⟩, hg _ k_193, hg _ k_194⟩ (gx_preV hV hP hD hS hA0 (va_recv hK hP rfl (e62))) rfl rfl hl.1 rfl (lv_room (Nat.le_of_ble_eq_true rfl)) d_PB_owedNow_29 ⟨by decide, by decide⟩) (fun r_29 h_29 => ?_)
        subst h_29
        refine va_castS hx hb hown (hg _ k_206) (hK.1 iLN _ rfl).2 (va_recv hK hP rfl ((eL i (hin2)).2)) d_PB_owedNow_32 ?_
        refine lv_astore (lv' := [(5, .ref (la i)), (4, .int (nI i)), (2, .long (cb_ow (nI k) li ll (-(pd k)) i)), (0, .ref (κ 0)), (1, .int (nI k))]) hx hb d_PB_owedNow_35 hl (by decide) rfl (fun ls hl => ?_)
        refine lv_aload hx hb d_PB_owedNow_37 (lv_at hl 0 rfl) ?_
        refine va_getN (D := D) (ci := iLN) (v := .int (li i 0)) (C := R_LN) (T := F_LN) (N := 9) hx hb (fl_LN hg) (fun _ h9 => h9) hown hK hP (lp i) ((eL i (hin2)).2) rfl 0 (by decide) (va_Nw.use rfl (hn9 _ kn_359)) (fun _ h9 => h9) rfl d_PB_owedNow_39 ?_
        refine lv_iload_n hx hb d_PB_owedNow_42 rfl (lv_at hl 4 rfl) ?_
        refine lv_icmp_ne (tgt := 62) hx hb d_PB_owedNow_43 (by decide) (fun c_43 => ?_) (fun c_43 => ?_)
        · skip
          refine lv_iinc (v := nI (i + 1)) (lv' := [(4, .int (nI (i + 1))), (5, .ref (la i)), (2, .long (cb_ow (nI k) li ll (-(pd k)) i)), (0, .ref (κ 0)), (1, .int (nI k))]) hx hb d_PB_owedNow_62 hl (k := 1) rfl (by rw [lit1]; exact nI_1 i) (by decide) rfl (fun ls hl => ?_)
          refine lv_goto (tgt := 11) hx hb d_PB_owedNow_65 (by decide) ?_
          exact ih (i + 1) ls (by omega) (by omega) (by rw [cb_ow_n (fun q => c_43 q.1)]; exact lv_sub hl [0, 2, 3, 4] rfl)
        · skip
          refine lv_aload hx hb d_PB_owedNow_46 (lv_at hl 0 rfl) ?_
          refine va_getN (D := D) (ci := iLN) (v := .int (li i 6)) (C := R_LN) (T := F_LN) (N := 9) hx hb (fl_LN hg) (fun _ h9 => h9) hown hK hP (lp i) ((eL i (hin2)).2) rfl 7 (by decide) (va_Nw.use rfl (hn9 _ kn_370)) (fun _ h9 => h9) rfl d_PB_owedNow_48 ?_
          refine lv_if_ne (tgt := 62) hx hb d_PB_owedNow_51 (by decide) (fun c_51 => ?_) (fun c_51 => ?_)
          · skip
            refine lv_iinc (v := nI (i + 1)) (lv' := [(4, .int (nI (i + 1))), (5, .ref (la i)), (2, .long (cb_ow (nI k) li ll (-(pd k)) i)), (0, .ref (κ 0)), (1, .int (nI k))]) hx hb d_PB_owedNow_62 hl (k := 1) rfl (by rw [lit1]; exact nI_1 i) (by decide) rfl (fun ls hl => ?_)
            refine lv_goto (tgt := 11) hx hb d_PB_owedNow_65 (by decide) ?_
            exact ih (i + 1) ls (by omega) (by omega) (by rw [cb_ow_n (fun q => c_51 q.2)]; exact lv_sub hl [0, 2, 3, 4] rfl)
          · skip
            refine lv_lload_n hx hb d_PB_owedNow_54 rfl (lv_at hl 2 rfl) ?_
            refine lv_aload hx hb d_PB_owedNow_55 (lv_at hl 0 rfl) ?_
            refine va_getN (D := D) (ci := iLN) (v := .long (ll i 0)) (C := R_LN) (T := F_LN) (N := 9) hx hb (fl_LN hg) (fun _ h9 => h9) hown hK hP (lp i) ((eL i (hin2)).2) rfl 4 (by decide) (va_Nw.use rfl (hn9 _ kn_365)) (fun _ h9 => h9) rfl d_PB_owedNow_57 ?_
            refine lv_ladd hx hb d_PB_owedNow_60 ?_
            refine lv_lstore_n (lv' := [(2, .long ((cb_ow (nI k) li ll (-(pd k)) i) + (ll i 0))), (5, .ref (la i)), (4, .int (nI i)), (0, .ref (κ 0)), (1, .int (nI k))]) hx hb d_PB_owedNow_61 rfl hl (by decide) rfl (fun ls hl => ?_)
            refine lv_iinc (v := nI (i + 1)) (lv' := [(4, .int (nI (i + 1))), (2, .long ((cb_ow (nI k) li ll (-(pd k)) i) + (ll i 0))), (5, .ref (la i)), (0, .ref (κ 0)), (1, .int (nI k))]) hx hb d_PB_owedNow_62 hl (k := 2) rfl (by rw [lit1]; exact nI_1 i) (by decide) rfl (fun ls hl => ?_)
            refine lv_goto (tgt := 11) hx hb d_PB_owedNow_65 (by decide) ?_
            exact ih (i + 1) ls (by omega) (by omega) (by rw [cb_ow_s ⟨c_43, c_51⟩]; exact lv_sub hl [0, 1, 3, 4] rfl)
  exact loop (nl + 1) 0 ls (by omega) (by omega) (lv_sub hl [0, 1, 2, 3] rfl)

set_option maxRecDepth 100000 in
set_option maxHeartbeats 4000000 in
theorem c_PB_linesOf {l : Launch} {s0 : State} {D : va_G} {cI cC cJ cII cO cZ : ClassId} (F : FX l s0 D cI cC cJ cII cO cZ) {ws : va_W} {κ : Nat → Nat} {ra : Nat → Nat → Nat} {z sg : Nat → Int32} {G : Nat → Nat → Nat → Int32} {we : Nat → Int32} {pd : Nat → Int64} (hI : cb_I cI cC cJ cII ws κ ra z sg G we pd) {nl : Nat} {la lp : Nat → Nat} {li : Nat → Nat → Int32} {ll : Nat → Nat → Int64} (hL : cb_L cO ws (κ 62) (z 5) (fx_e0 F) nl la lp li ll) (sz : Nat) (hnl : nl ≤ 200) (p0 : Int32)  : Met l y_PB_linesOf [.code y_PB_linesOf b_PB_linesOf 4 (some .int)] { frames := 3, cells := 0, slots := 0, locals := 120 } (gx_P s0 D classes ws sz [.ref (κ 0), .int p0]) (gx_Ri (fun r => r = nI (cb_cnt (fun j => decide (li j 0 = p0)) nl))) 0 0 (fun _ => False) := by
  refine gx_met (by decide +kernel) (Nat.le_of_ble_eq_true rfl) ?_
  intro p e s m below meth c ls hx hb hr hml hown hlocks hnm hsz hV hP hD hS hA hA0 hl
  have hg := fx_g F hV ([.ref (κ 0), .int p0] : List Value).toArray
  have hK := fx_k F hV
  have hn9 := fx_n F hV
  have hl : lv_has ls 4 [(0, .ref (κ 0)), (1, .int p0)] := hl
  obtain ⟨ea, e62, eL, einj, earr⟩ := id hL
  refine lv_iconst (v := 0) hx hb d_PB_linesOf_0 (by decide) ?_
  refine lv_istore_n (lv' := [(2, .int 0), (0, .ref (κ 0)), (1, .int p0)]) hx hb d_PB_linesOf_1 rfl hl (by decide) rfl (fun ls hl => ?_)
  refine lv_iconst (v := 0) hx hb d_PB_linesOf_2 (by decide) ?_
  refine lv_istore_n (lv' := [(3, .int 0), (2, .int 0), (0, .ref (κ 0)), (1, .int p0)]) hx hb d_PB_linesOf_3 rfl hl (by decide) rfl (fun ls hl => ?_)
  have loop : ∀ (nn : Nat) (i : Nat) (ls : Array Slot) (hi : i ≤ nl) (hin : nl + 1 ≤ i + nn) (hl : lv_has ls 4 [(3, .int (nI i)), (2, .int (nI (cb_cnt (fun j => decide (li j 0 = p0)) i))), (0, .ref (κ 0)), (1, .int p0)]), W p l e ({ frames := 3, cells := 0, slots := 0, locals := 120 } : Room) s m ([.ref (κ 0), .int p0] : List Value).toArray below meth c s.heap [] 0 0 (MQ below (gx_Ri (fun r => r = nI (cb_cnt (fun j => decide (li j 0 = p0)) nl))) ([.ref (κ 0), .int p0] : List Value).toArray s 0 0 (fun _ => False)) (F0 m 4 ls []) := by
    intro nn
    induction nn with
    | zero =>
      intro i ls hi hin hl
      exact absurd hin (by omega)
    | succ nn ih =>
      intro i ls hi hin hl
      refine lv_iload_n hx hb d_PB_linesOf_4 rfl (lv_at hl 0 rfl) ?_
      refine lv_aload_n hx hb d_PB_linesOf_5 rfl (lv_at hl 2 rfl) ?_
      refine va_get (D := D) (ci := iPB) (v := .ref (κ 62)) (C := R_PB) (T := F_PB) (N := 11) hx hb (fl_PB hg) (fun _ h9 => h9) hown hK hP 0 (hI.1) rfl 9 (by decide) (hg _ k_97) (fun _ h9 => h9) rfl d_PB_linesOf_6 ?_
      refine gx_readi (va_runV (As := []) (rest := [.int (nI i)]) ⟨hx, hb, hml, hown, gx_nil⟩ (c_AL_size F e62 _) ⟨gx_cb (hg _ k_191) (hg _ k_5) (hg _ k_188) nd_AL_size ⟨by decide, by decide⟩, hg _ k_189, hg _ k_190⟩ (gx_preV hV hP hD hS hA0 (va_recv hK hP rfl (e62))) rfl rfl hl.1 rfl (lv_room (Nat.le_of_ble_eq_true rfl)) d_PB_linesOf_9 ⟨by decide, by decide⟩) (fun r_9 h_9 => ?_)
      subst h_9
      refine lv_icmp_ge (tgt := 42) hx hb d_PB_linesOf_12 (by decide) (fun c_12 => ?_) (fun c_12 => ?_)
      · skip
        have hin2 : i = nl := by have := gx_ngt c_12; omega
        subst hin2
        refine lv_iload_n hx hb d_PB_linesOf_42 rfl (lv_at hl 1 rfl) ?_
        exact gx_ireti hx hb hr hlocks rfl d_PB_linesOf_43 (rfl)
      · skip
        have hin2 : i < nl := gx_nlt c_12
        obtain ⟨ep, cap, ef, ea0, ea5, ea6, ea7, ea1, ea2, ea3⟩ : ∃ (ep cap : Nat) (ef : Nat → Option Nat), 64 ≤ ep ∧ nl ≤ cap ∧ 10 ≤ cap ∧ cap ≤ 400 ∧ ws[ep]? = some (ea, .inl (cO, cap, .inr (.inr (.inr (.inr ef))))) ∧ (∀ j, j < nl → ef j = some (la j)) ∧ ∀ j, j < cap → ∀ y, ef j = some y → ∃ i, i < nl ∧ y = la i := earr.resolve_left (fun q => absurd q.1 (by omega))
        refine lv_aload_n hx hb d_PB_linesOf_15 rfl (lv_at hl 2 rfl) ?_
        refine va_get (D := D) (ci := iPB) (v := .ref (κ 62)) (C := R_PB) (T := F_PB) (N := 11) hx hb (fl_PB hg) (fun _ h9 => h9) hown hK hP 0 (hI.1) rfl 9 (by decide) (hg _ k_97) (fun _ h9 => h9) rfl d_PB_linesOf_16 ?_
        refine lv_iload_n hx hb d_PB_linesOf_19 rfl (lv_at hl 0 rfl) ?_
        refine gx_readr (va_runV (As := [.int (nI i)]) (rest := []) ⟨hx, hb, hml, hown, gx_nil⟩ (c_AL_get F e62 ea1 _ i (la i) (by omega) (by omega) (nI_lt (hin2) (by omega)) (ea2 i (hin2))) ⟨gx_cb (hg _ k_195) (hg _ k_5) (hg _ k_192) nd_AL_get ⟨by decide, by decide⟩, hg _ k_193, hg _ k_194⟩ (gx_preV hV hP hD hS hA0 (va_recv hK hP rfl (e62))) rfl rfl hl.1 rfl (lv_room (Nat.le_of_ble_eq_true rfl)) d_PB_linesOf_20 ⟨by decide, by decide⟩) (fun r_20 h_20 => ?_)
        subst h_20
        refine va_castS hx hb hown (hg _ k_206) (hK.1 iLN _ rfl).2 (va_recv hK hP rfl ((eL i (hin2)).2)) d_PB_linesOf_23 ?_
        refine va_getN (D := D) (ci := iLN) (v := .int (li i 0)) (C := R_LN) (T := F_LN) (N := 9) hx hb (fl_LN hg) (fun _ h9 => h9) hown hK hP (lp i) ((eL i (hin2)).2) rfl 0 (by decide) (va_Nw.use rfl (hn9 _ kn_359)) (fun _ h9 => h9) rfl d_PB_linesOf_26 ?_
        refine lv_iload_n hx hb d_PB_linesOf_29 rfl (lv_at hl 3 rfl) ?_
        refine lv_icmp_ne (tgt := 36) hx hb d_PB_linesOf_30 (by decide) (fun c_30 => ?_) (fun c_30 => ?_)
        · skip
          refine lv_iinc (v := nI (i + 1)) (lv' := [(3, .int (nI (i + 1))), (2, .int (nI (cb_cnt (fun j => decide (li j 0 = p0)) i))), (0, .ref (κ 0)), (1, .int p0)]) hx hb d_PB_linesOf_36 hl (k := 0) rfl (by rw [lit1]; exact nI_1 i) (by decide) rfl (fun ls hl => ?_)
          refine lv_goto (tgt := 4) hx hb d_PB_linesOf_39 (by decide) ?_
          exact ih (i + 1) ls (by omega) (by omega) (by rw [cb_cnt_n (q := (fun j => decide (li j 0 = p0))) (by simpa using c_30)]; exact lv_sub hl [0, 1, 2, 3] rfl)
        · skip
          refine lv_iinc (v := nI (cb_cnt (fun j => decide (li j 0 = p0)) i + 1)) (lv' := [(2, .int (nI (cb_cnt (fun j => decide (li j 0 = p0)) i + 1))), (3, .int (nI i)), (0, .ref (κ 0)), (1, .int p0)]) hx hb d_PB_linesOf_33 hl (k := 1) rfl (by rw [lit1]; exact nI_1 _) (by decide) rfl (fun ls hl => ?_)
          refine lv_iinc (v := nI (i + 1)) (lv' := [(3, .int (nI (i + 1))), (2, .int (nI (cb_cnt (fun j => decide (li j 0 = p0)) i + 1))), (0, .ref (κ 0)), (1, .int p0)]) hx hb d_PB_linesOf_36 hl (k := 1) rfl (by rw [lit1]; exact nI_1 i) (by decide) rfl (fun ls hl => ?_)
          refine lv_goto (tgt := 4) hx hb d_PB_linesOf_39 (by decide) ?_
          exact ih (i + 1) ls (by omega) (by omega) (by rw [cb_cnt_s (q := (fun j => decide (li j 0 = p0))) (by simpa using c_30)]; exact lv_sub hl [0, 1, 2, 3] rfl)
  exact loop (nl + 1) 0 ls (by omega) (by omega) (lv_sub hl [0, 1, 2, 3] rfl)
end
section
set_option maxRecDepth 100000 in
set_option maxHeartbeats 4000000 in
theorem c_PB_tariff {l : Launch} {s0 : State} {D : va_G} {cI cC cJ cII cO cZ : ClassId} (F : FX l s0 D cI cC cJ cII cO cZ) {ws : va_W} {κ : Nat → Nat} {ra : Nat → Nat → Nat} {z sg : Nat → Int32} {G : Nat → Nat → Nat → Int32} {we : Nat → Int32} {pd : Nat → Int64} (hI : cb_I cI cC cJ cII ws κ ra z sg G we pd) (sz : Nat) (p0 p1 : Int32)  : gx_XM l y_PB_tariff [.code y_PB_tariff b_PB_tariff 3 (some .int)] { frames := 9, cells := 1, slots := 6, locals := 320 } (gx_P s0 D classes ws sz [.ref (κ 0), .int p0, .int p1]) (gx_Ri (fun r => ∃ k j, k < 6 ∧ j < 4 ∧ p0 = nI k ∧ p1 = nI j ∧ r = if (z 3 >>> (nI k &&& 31)) &&& 1 = 1 then G 1 k j else -1)) (fun E => E = "java/lang/IllegalArgumentException" ∧ ((p0 < 0 ∨ nI 6 ≤ p0) ∨ (p1 < 0 ∨ nI 4 ≤ p1))) 1 6 (fun _ => False) := by
  refine gx_xmet (by decide +kernel) (Nat.le_of_ble_eq_true rfl) ?_
  intro p e s m below meth c ls hx hb hr hml hown hlocks hex hsz hV hP hD hS hA hA0 hl
  have hg := fx_g F hV ([.ref (κ 0), .int p0, .int p1] : List Value).toArray
  have hK := fx_k F hV
  have hn9 := fx_n F hV
  have hl : lv_has ls 3 [(0, .ref (κ 0)), (1, .int p0), (2, .int p1)] := hl
  refine lv_iload_n hx hb d_PB_tariff_0 rfl (lv_at hl 1 rfl) ?_
  refine gx_readi (va_runS (As := [.int p0]) (rest := []) ⟨hx, hb, hml, hown, gx_nil⟩ (c_PB_isKind F _ _ _) ⟨gx_cb (hg _ k_149) (hg _ k_1) (hg _ k_179) nd_PB_isKind ⟨by decide, by decide⟩, hg _ k_148⟩ (gx_preS hV hP hD hS hA0) rfl rfl hl.1 rfl (lv_room (Nat.le_of_ble_eq_true rfl)) d_PB_tariff_1 ⟨by decide, by decide⟩) (fun r_1 h_1 => ?_)
  rcases h_1 with ⟨rfl, k, hk, rfl⟩ | ⟨rfl, hbad⟩
  · skip
    refine lv_if_eq (tgt := 16) hx hb d_PB_tariff_4 (by decide) (fun c_4 => absurd c_4 (by decide)) (fun c_4 => ?_)
    refine lv_iload_n hx hb d_PB_tariff_7 rfl (lv_at hl 2 rfl) ?_
    refine lv_if_lt (tgt := 16) hx hb d_PB_tariff_8 (by decide) (fun c_8 => ?_) (fun c_8 => ?_)
    · skip
      have hbad : p1 < 0 ∨ nI 4 ≤ p1 := Or.inl c_8
      exact gx_throw (own := "PortBills") (cls := "java/lang/IllegalArgumentException") (text := "no such kind or what") (names := fx_nm) (ik := 71) (is := 73) (ic := 75) hx hb (fx_tr F) hown (by decide +kernel) (by decide +kernel) (hg _ k_215) (hg _ k_12) (fx_str_73 F hV).choose_spec (fx_own_75 F hV _) (hl.1.trans hml.symm) d_PB_tariff_16 d_PB_tariff_19 d_PB_tariff_20 d_PB_tariff_22 d_PB_tariff_25 hex (by decide) (by decide) (by decide) (by decide) hlocks (⟨rfl, Or.inr hbad⟩)
    · skip
      refine lv_iload_n hx hb d_PB_tariff_11 rfl (lv_at hl 2 rfl) ?_
      refine lv_iconst (v := 4) hx hb d_PB_tariff_12 (by decide) ?_
      refine lv_icmp_lt (tgt := 26) hx hb d_PB_tariff_13 (by decide) (fun c_13 => ?_) (fun c_13 => ?_)
      · skip
        obtain ⟨j, hj, hje⟩ : ∃ j, j < 4 ∧ p1 = nI j := gx_rng (by decide) c_8 (fun q => absurd c_13 (Int32.not_lt.mpr q))
        subst hje
        refine lv_aload_n hx hb d_PB_tariff_26 rfl (lv_at hl 0 rfl) ?_
        refine lv_iload_n hx hb d_PB_tariff_27 rfl (lv_at hl 1 rfl) ?_
        refine gx_readi (va_runV (As := [.int (nI k)]) (rest := []) ⟨hx, hb, hml, hown, gx_nil⟩ (c_PB_hasTariff F hI _ _) ⟨gx_cb (hg _ k_287) (hg _ k_1) (hg _ k_284) nd_PB_hasTariff ⟨by decide, by decide⟩, hg _ k_286, hg _ ks_10⟩ (gx_preV hV hP hD hS hA0 (va_recv hK hP rfl (hI.1))) rfl rfl hl.1 rfl (lv_room (Nat.le_of_ble_eq_true rfl)) d_PB_tariff_28 ⟨by decide, by decide⟩) (fun r_28 h_28 => ?_)
        rcases h_28 with ⟨rfl, hbit⟩ | ⟨rfl, hbit⟩
        · skip
          refine lv_if_eq (tgt := 45) hx hb d_PB_tariff_31 (by decide) (fun c_31 => absurd c_31 (by decide)) (fun c_31 => ?_)
          refine lv_aload_n hx hb d_PB_tariff_34 rfl (lv_at hl 0 rfl) ?_
          refine va_get (D := D) (ci := iPB) (v := .ref (κ 10)) (C := R_PB) (T := F_PB) (N := 11) hx hb (fl_PB hg) (fun _ h9 => h9) hown hK hP 0 (hI.1) rfl 1 (by decide) (hg _ k_89) (fun _ h9 => h9) rfl d_PB_tariff_35 ?_
          refine lv_iload_n hx hb d_PB_tariff_38 rfl (lv_at hl 1 rfl) ?_
          refine gx_al hx hb hK hP 10 3 (hI.2.2.2.2.2.1 1 (by decide)) rfl rfl k (v := ra 1 k) (rfl) (hk) (by decide) (if_pos (hk)) d_PB_tariff_39 ?_
          refine lv_iload_n hx hb d_PB_tariff_40 rfl (lv_at hl 2 rfl) ?_
          refine gx_il hx hb hK hP (cb_gp 1 + 1 + k) 0 (hI.2.2.2.2.2.2 1 (by decide) k (hk)) rfl j (rfl) (hj) (by decide) d_PB_tariff_41 ?_
          refine lv_goto (tgt := 46) hx hb d_PB_tariff_42 (by decide) ?_
          exact gx_mx (gx_ireti hx hb hr hlocks rfl d_PB_tariff_46 (⟨k, j, hk, hj, rfl, rfl, (if_pos hbit).symm⟩))
        · skip
          refine lv_if_eq (tgt := 45) hx hb d_PB_tariff_31 (by decide) (fun c_31 => ?_) (fun c_31 => absurd c_31 (by decide))
          refine lv_iconst (v := (-1)) hx hb d_PB_tariff_45 (by decide) ?_
          exact gx_mx (gx_ireti hx hb hr hlocks rfl d_PB_tariff_46 (⟨k, j, hk, hj, rfl, rfl, (if_neg hbit).symm⟩))
      · skip
        have hbad : p1 < 0 ∨ nI 4 ≤ p1 := Or.inr (Int32.not_lt.mp c_13)
        exact gx_throw (own := "PortBills") (cls := "java/lang/IllegalArgumentException") (text := "no such kind or what") (names := fx_nm) (ik := 71) (is := 73) (ic := 75) hx hb (fx_tr F) hown (by decide +kernel) (by decide +kernel) (hg _ k_215) (hg _ k_12) (fx_str_73 F hV).choose_spec (fx_own_75 F hV _) (hl.1.trans hml.symm) d_PB_tariff_16 d_PB_tariff_19 d_PB_tariff_20 d_PB_tariff_22 d_PB_tariff_25 hex (by decide) (by decide) (by decide) (by decide) hlocks (⟨rfl, Or.inr hbad⟩)
  · skip
    refine lv_if_eq (tgt := 16) hx hb d_PB_tariff_4 (by decide) (fun c_4 => ?_) (fun c_4 => absurd c_4 (by decide))
    exact gx_throw (own := "PortBills") (cls := "java/lang/IllegalArgumentException") (text := "no such kind or what") (names := fx_nm) (ik := 71) (is := 73) (ic := 75) hx hb (fx_tr F) hown (by decide +kernel) (by decide +kernel) (hg _ k_215) (hg _ k_12) (fx_str_73 F hV).choose_spec (fx_own_75 F hV _) (hl.1.trans hml.symm) d_PB_tariff_16 d_PB_tariff_19 d_PB_tariff_20 d_PB_tariff_22 d_PB_tariff_25 hex (by decide) (by decide) (by decide) (by decide) hlocks (⟨rfl, Or.inl hbad⟩)
end
section
/-! PURE, second part -/
theorem cb_sw4 (x : Int32) : x = 0 ∨ x = 1 ∨ x = 2 ∨ x = 3 ∨ (x.toInt < 0 ∨ 3 < x.toInt) := by
  by_cases h1 : x.toInt < 0
  · exact Or.inr (Or.inr (Or.inr (Or.inr (Or.inl h1))))
  · by_cases h2 : 3 < x.toInt
    · exact Or.inr (Or.inr (Or.inr (Or.inr (Or.inr h2))))
    · have h : x.toInt = 0 ∨ x.toInt = 1 ∨ x.toInt = 2 ∨ x.toInt = 3 := by omega
      rcases h with h | h | h | h
      · exact Or.inl (Int32.toInt_inj.mp h)
      · exact Or.inr (Or.inl (Int32.toInt_inj.mp h))
      · exact Or.inr (Or.inr (Or.inl (Int32.toInt_inj.mp h)))
      · exact Or.inr (Or.inr (Or.inr (Or.inl (Int32.toInt_inj.mp h))))
theorem cb_upr_id {α : Type} {f : Nat → α} {j : Nat} : cb_upr f j (f j) = f := funext fun a => by
  unfold cb_upr
  by_cases e : a = j
  · rw [if_pos e, e]
  · rw [if_neg e]
/-- the lines, the line t and those before n that correct it disputed or not -/
def cb_dsp (li : Nat → Nat → Int32) (t : Nat) (b : Int32) (n : Nat) : Nat → Nat → Int32 := fun j => if j = t ∨ (j < n ∧ li j 4 = nI t) then upd (li j) 6 b else li j
theorem cb_dsp_0 {li : Nat → Nat → Int32} {t : Nat} {b : Int32} : cb_upr li t (upd (li t) 6 b) = cb_dsp li t b 0 := funext fun j => by
  unfold cb_upr cb_dsp
  by_cases e : j = t
  · subst e; rw [if_pos rfl, if_pos (Or.inl rfl)]
  · rw [if_neg e, if_neg (fun q => q.elim e (fun q => absurd q.1 (Nat.not_lt_zero j)))]
theorem cb_dsp_4 (li : Nat → Nat → Int32) (t : Nat) (b : Int32) (n j : Nat) : cb_dsp li t b n j 4 = li j 4 := by
  unfold cb_dsp
  by_cases e : j = t ∨ (j < n ∧ li j 4 = nI t)
  · rw [if_pos e]; rfl
  · rw [if_neg e]
theorem cb_dsp_s {li : Nat → Nat → Int32} {t i : Nat} {b : Int32} (h : li i 4 = nI t) : cb_upr (cb_dsp li t b i) i (upd (cb_dsp li t b i i) 6 b) = cb_dsp li t b (i + 1) := funext fun j => by
  unfold cb_upr
  by_cases e : j = i
  · subst e
    rw [if_pos rfl]
    unfold cb_dsp
    rw [if_pos (c := j = t ∨ (j < j + 1 ∧ li j 4 = nI t)) (Or.inr ⟨by omega, h⟩)]
    by_cases q : j = t ∨ (j < j ∧ li j 4 = nI t)
    · rw [if_pos q]
      exact cb_uu
    · rw [if_neg q]
  · rw [if_neg e]
    unfold cb_dsp
    have : (j = t ∨ (j < i ∧ li j 4 = nI t)) ↔ (j = t ∨ (j < i + 1 ∧ li j 4 = nI t)) := ⟨fun q => q.imp id (fun q => ⟨by omega, q.2⟩), fun q => q.imp id (fun q => ⟨by omega, q.2⟩)⟩
    simp only [this]
theorem cb_dsp_n {li : Nat → Nat → Int32} {t i : Nat} {b : Int32} (h : ¬ li i 4 = nI t) : cb_dsp li t b i = cb_dsp li t b (i + 1) := funext fun j => by
  unfold cb_dsp
  have : (j = t ∨ (j < i ∧ li j 4 = nI t)) ↔ (j = t ∨ (j < i + 1 ∧ li j 4 = nI t)) := ⟨fun q => q.imp id (fun q => ⟨by omega, q.2⟩), fun q => q.imp id (fun q => ⟨by
    rcases Nat.lt_or_ge j i with z | z
    · exact z
    · have e : j = i := by omega
      subst e
      exact absurd q.2 h, q.2⟩)⟩
  simp only [this]
end
section
set_option maxRecDepth 100000 in
set_option maxHeartbeats 4000000 in
theorem c_PB_unpaid {l : Launch} {s0 : State} {D : va_G} {cI cC cJ cII cO cZ : ClassId} (F : FX l s0 D cI cC cJ cII cO cZ) {ws : va_W} {κ : Nat → Nat} {ra : Nat → Nat → Nat} {z sg : Nat → Int32} {G : Nat → Nat → Nat → Int32} {we : Nat → Int32} {pd : Nat → Int64} (hI : cb_I cI cC cJ cII ws κ ra z sg G we pd) {nl : Nat} {la lp : Nat → Nat} {li : Nat → Nat → Int32} {ll : Nat → Nat → Int64} (hL : cb_L cO ws (κ 62) (z 5) (fx_e0 F) nl la lp li ll) (sz : Nat) (hnl : nl ≤ 200) (p0 : Int32)  : gx_XM l y_PB_unpaid [.code y_PB_unpaid b_PB_unpaid 2 (some .long)] { frames := 9, cells := 1, slots := 6, locals := 320 } (gx_P s0 D classes ws sz [.ref (κ 0), .int p0]) (gx_Rl (fun r => ∃ k, k < 10 ∧ p0 = nI k ∧ r = cb_ow (nI k) li ll (-(pd k)) nl)) (fun E => E = "java/lang/IllegalArgumentException" ∧ (p0 < 0 ∨ nI 10 ≤ p0)) 1 6 (fun _ => False) := by
  refine gx_xmet (by decide +kernel) (Nat.le_of_ble_eq_true rfl) ?_
  intro p e s m below meth c ls hx hb hr hml hown hlocks hex hsz hV hP hD hS hA hA0 hl
  have hg := fx_g F hV ([.ref (κ 0), .int p0] : List Value).toArray
  have hK := fx_k F hV
  have hn9 := fx_n F hV
  have hl : lv_has ls 2 [(0, .ref (κ 0)), (1, .int p0)] := hl
  refine lv_iload_n hx hb d_PB_unpaid_0 rfl (lv_at hl 1 rfl) ?_
  refine gx_readi (va_runS (As := [.int p0]) (rest := []) ⟨hx, hb, hml, hown, gx_nil⟩ (c_PB_isCall F _ _ _) ⟨gx_cb (hg _ k_178) (hg _ k_1) (hg _ k_176) nd_PB_isCall ⟨by decide, by decide⟩, hg _ k_177⟩ (gx_preS hV hP hD hS hA0) rfl rfl hl.1 rfl (lv_room (Nat.le_of_ble_eq_true rfl)) d_PB_unpaid_1 ⟨by decide, by decide⟩) (fun r_1 h_1 => ?_)
  rcases h_1 with ⟨rfl, k, hk, rfl⟩ | ⟨rfl, hbad⟩
  · skip
    refine lv_if_ne (tgt := 17) hx hb d_PB_unpaid_4 (by decide) (fun c_4 => ?_) (fun c_4 => absurd c_4 (by decide))
    refine lv_aload_n hx hb d_PB_unpaid_17 rfl (lv_at hl 0 rfl) ?_
    refine lv_iload_n hx hb d_PB_unpaid_18 rfl (lv_at hl 1 rfl) ?_
    refine gx_readl (va_runV (As := [.int (nI k)]) (rest := []) ⟨hx, hb, hml, hown, gx_nil⟩ (c_PB_owedNow F hI hL _ hnl k hk) ⟨gx_cb (hg _ k_485) (hg _ k_1) (hg _ k_482) nd_PB_owedNow ⟨by decide, by decide⟩, hg _ k_484, hg _ ks_20⟩ (gx_preV hV hP hD hS hA0 (va_recv hK hP rfl (hI.1))) rfl rfl hl.1 rfl (lv_room (Nat.le_of_ble_eq_true rfl)) d_PB_unpaid_19 ⟨by decide, by decide⟩) (fun r_19 h_19 => ?_)
    exact gx_mx (gx_iretl hx hb hr hlocks d_PB_unpaid_22 (⟨k, hk, rfl, h_19⟩))
  · skip
    refine lv_if_ne (tgt := 17) hx hb d_PB_unpaid_4 (by decide) (fun c_4 => absurd c_4 (by decide)) (fun c_4 => ?_)
    exact gx_throw (own := "PortBills") (cls := "java/lang/IllegalArgumentException") (text := "no such call") (names := fx_nm) (ik := 71) (is := 103) (ic := 75) hx hb (fx_tr F) hown (by decide +kernel) (by decide +kernel) (hg _ k_215) (hg _ k_12) (fx_str_103 F hV).choose_spec (fx_own_75 F hV _) (hl.1.trans hml.symm) d_PB_unpaid_7 d_PB_unpaid_10 d_PB_unpaid_11 d_PB_unpaid_13 d_PB_unpaid_16 hex (by decide) (by decide) (by decide) (by decide) hlocks (⟨rfl, hbad⟩)

set_option maxRecDepth 100000 in
set_option maxHeartbeats 4000000 in
theorem c_PB_pay {l : Launch} {s0 : State} {D : va_G} {cI cC cJ cII cO cZ : ClassId} (F : FX l s0 D cI cC cJ cII cO cZ) {ws : va_W} {κ : Nat → Nat} {ra : Nat → Nat → Nat} {z sg : Nat → Int32} {G : Nat → Nat → Nat → Int32} {we : Nat → Int32} {pd : Nat → Int64} (hI : cb_I cI cC cJ cII ws κ ra z sg G we pd) {nl : Nat} {la lp : Nat → Nat} {li : Nat → Nat → Int32} {ll : Nat → Nat → Int64} (hL : cb_L cO ws (κ 62) (z 5) (fx_e0 F) nl la lp li ll) (sz : Nat) (hnl : nl ≤ 200) (p0 : Int32) (p1 : Int64)  : gx_XM l y_PB_pay [.code y_PB_pay b_PB_pay 4 (some .long)] { frames := 9, cells := 1, slots := 6, locals := 320 } (gx_P s0 D classes ws sz [.ref (κ 0), .int p0, .long p1]) (va_Ql (fun r w1 => ∃ k, k < 10 ∧ p0 = nI k ∧ ¬ p1 < 1 ∧ ¬ 1000000000000 < p1 ∧ r = cb_ow (nI k) li ll (-(vp_updL pd k (pd k + p1) k)) nl ∧ cb_I cI cC cJ cII w1 κ ra z sg G we (vp_updL pd k (pd k + p1)) ∧ cb_hi ws w1) (gx_B D classes ws sz) (va_A ws sz)) (fun E => E = "java/lang/IllegalArgumentException" ∧ ((p0 < 0 ∨ nI 10 ≤ p0) ∨ (p1 < 1 ∨ 1000000000000 < p1))) 1 6 (va_A ws sz) := by
  refine gx_xmet (by decide +kernel) (Nat.le_of_ble_eq_true rfl) ?_
  intro p e s m below meth c ls hx hb hr hml hown hlocks hex hsz hV hP hD hS hA hA0 hl
  have hg := fx_g F hV ([.ref (κ 0), .int p0, .long p1] : List Value).toArray
  have hK := fx_k F hV
  have hn9 := fx_n F hV
  have hl : lv_has ls 4 [(0, .ref (κ 0)), (1, .int p0), (2, .long p1)] := hl
  have hH : cb_hi ws ws := fun _ _ => rfl
  refine lv_iload_n hx hb d_PB_pay_0 rfl (lv_at hl 1 rfl) ?_
  refine gx_readi (va_runS (As := [.int p0]) (rest := []) ⟨hx, hb, hml, hown, gx_nil⟩ (c_PB_isCall F _ _ _) ⟨gx_cb (hg _ k_178) (hg _ k_1) (hg _ k_176) nd_PB_isCall ⟨by decide, by decide⟩, hg _ k_177⟩ (gx_preS hV hP hD hS hA0) rfl rfl hl.1 rfl (lv_room (Nat.le_of_ble_eq_true rfl)) d_PB_pay_1 ⟨by decide, by decide⟩) (fun r_1 h_1 => ?_)
  rcases h_1 with ⟨rfl, k, hk, rfl⟩ | ⟨rfl, hbad⟩
  · skip
    refine lv_if_eq (tgt := 21) hx hb d_PB_pay_4 (by decide) (fun c_4 => absurd c_4 (by decide)) (fun c_4 => ?_)
    refine lv_lload_n hx hb d_PB_pay_7 rfl (lv_at hl 2 rfl) ?_
    refine lv_lconst (v := 1) hx hb d_PB_pay_8 (by decide) ?_
    refine W.lcmp hx hb d_PB_pay_9 ?_
    refine lv_if_lt (tgt := 21) hx hb d_PB_pay_10 (by decide) (fun c_10 => ?_) (fun c_10 => ?_)
    · skip
      have hbad : p1 < 1 ∨ 1000000000000 < p1 := Or.inl ((lg_cmp_lt _ _).mp c_10)
      exact gx_throw (own := "PortBills") (cls := "java/lang/IllegalArgumentException") (text := "no such call or cents") (names := fx_nm) (ik := 71) (is := 167) (ic := 75) hx hb (fx_tr F) hown (by decide +kernel) (by decide +kernel) (hg _ k_215) (hg _ k_12) (fx_str_167 F hV).choose_spec (fx_own_75 F hV _) (hl.1.trans hml.symm) d_PB_pay_21 d_PB_pay_24 d_PB_pay_25 d_PB_pay_27 d_PB_pay_30 hex (by decide) (by decide) (by decide) (by decide) hlocks (⟨rfl, Or.inr hbad⟩)
    · skip
      have hlo : ¬ p1 < 1 := fun q => c_10 ((lg_cmp_lt _ _).mpr q)
      refine lv_lload_n hx hb d_PB_pay_13 rfl (lv_at hl 2 rfl) ?_
      refine lv_ldc2 (v := 1000000000000) hx hb hown (hg _ k_459) d_PB_pay_14 ?_
      refine W.lcmp hx hb d_PB_pay_17 ?_
      refine lv_if_le (tgt := 31) hx hb d_PB_pay_18 (by decide) (fun c_18 => ?_) (fun c_18 => ?_)
      · skip
        have hmo : ¬ 1000000000000 < p1 := Int64.not_lt.mpr ((lg_cmp_le _ _).mp c_18)
        refine lv_aload_n hx hb d_PB_pay_31 rfl (lv_at hl 0 rfl) ?_
        refine va_get (D := D) (ci := iPB) (v := .ref (κ 63)) (C := R_PB) (T := F_PB) (N := 11) hx hb (fl_PB hg) (fun _ h9 => h9) hown hK hP 0 (hI.1) rfl 10 (by decide) (hg _ k_98) (fun _ h9 => h9) rfl d_PB_pay_32 ?_
        refine lv_iload_n hx hb d_PB_pay_35 rfl (lv_at hl 1 rfl) ?_
        refine lv_dup2_11 hx hb d_PB_pay_36 rfl rfl ?_
        refine gx_ll hx hb hK hP 63 2 (hI.2.2.2.2.1) rfl k (rfl) (hk) (by decide) d_PB_pay_37 ?_
        refine lv_lload_n hx hb d_PB_pay_38 rfl (lv_at hl 2 rfl) ?_
        refine lv_ladd hx hb d_PB_pay_39 ?_
        refine gx_ls hx hb hK hP hD hS 63 2 (hI.2.2.2.2.1) rfl k (rfl) (hk) (by decide) d_PB_pay_40 (fun H locs hP hD hS => ?_)
        obtain ⟨w_1, ew_1⟩ : ∃ x : va_W, x = ws.set 63 (κ 63, .inl (cJ, 10, .inr (.inl (vp_updL pd k ((pd k) + p1))))) := ⟨_, rfl⟩
        replace hP : va_P D classes w_1 H := by rw [ew_1]; exact hP
        replace hD : va_D (va_A ws sz) w_1 := by rw [ew_1]; exact hD
        replace hI : cb_I cI cC cJ cII w_1 κ ra z sg G we (vp_updL pd k ((pd k) + p1)) := by rw [ew_1]; exact cb_I.paid hI
        replace hH : cb_hi ws w_1 := by rw [ew_1]; exact cb_hi.set63 hH
        replace hL : cb_L cO w_1 (κ 62) (z 5) (fx_e0 F) nl la lp li ll := by rw [ew_1]; exact cb_L.low (by decide) (by decide) hL
        refine lv_aload_n hx hb d_PB_pay_41 rfl (lv_at hl 0 rfl) ?_
        refine lv_iload_n hx hb d_PB_pay_42 rfl (lv_at hl 1 rfl) ?_
        refine gx_readl (va_runV (As := [.int (nI k)]) (rest := []) ⟨hx, hb, hml, hown, gx_nil⟩ (c_PB_owedNow F hI hL _ hnl k hk) ⟨gx_cb (hg _ k_485) (hg _ k_1) (hg _ k_482) nd_PB_owedNow ⟨by decide, by decide⟩, hg _ k_484, hg _ ks_20⟩ (gx_preV hV hP hD hS hA0 (va_recv hK hP rfl (hI.1))) rfl rfl hl.1 rfl (lv_room (Nat.le_of_ble_eq_true rfl)) d_PB_pay_43 ⟨by decide, by decide⟩) (fun r_43 h_43 => ?_)
        exact gx_mx (gx_lret hx hb hr hlocks hS hP hD (by decide) (by decide) d_PB_pay_46 (⟨k, hk, rfl, hlo, hmo, h_43, hI, hH⟩))
      · skip
        have hbad : p1 < 1 ∨ 1000000000000 < p1 := Or.inr (Int64.not_le.mp (fun q => c_18 ((lg_cmp_le _ _).mpr q)))
        exact gx_throw (own := "PortBills") (cls := "java/lang/IllegalArgumentException") (text := "no such call or cents") (names := fx_nm) (ik := 71) (is := 167) (ic := 75) hx hb (fx_tr F) hown (by decide +kernel) (by decide +kernel) (hg _ k_215) (hg _ k_12) (fx_str_167 F hV).choose_spec (fx_own_75 F hV _) (hl.1.trans hml.symm) d_PB_pay_21 d_PB_pay_24 d_PB_pay_25 d_PB_pay_27 d_PB_pay_30 hex (by decide) (by decide) (by decide) (by decide) hlocks (⟨rfl, Or.inr hbad⟩)
  · skip
    refine lv_if_eq (tgt := 21) hx hb d_PB_pay_4 (by decide) (fun c_4 => ?_) (fun c_4 => absurd c_4 (by decide))
    exact gx_throw (own := "PortBills") (cls := "java/lang/IllegalArgumentException") (text := "no such call or cents") (names := fx_nm) (ik := 71) (is := 167) (ic := 75) hx hb (fx_tr F) hown (by decide +kernel) (by decide +kernel) (hg _ k_215) (hg _ k_12) (fx_str_167 F hV).choose_spec (fx_own_75 F hV _) (hl.1.trans hml.symm) d_PB_pay_21 d_PB_pay_24 d_PB_pay_25 d_PB_pay_27 d_PB_pay_30 hex (by decide) (by decide) (by decide) (by decide) hlocks (⟨rfl, Or.inl hbad⟩)

set_option maxRecDepth 100000 in
set_option maxHeartbeats 4000000 in
theorem c_PB_share {l : Launch} {s0 : State} {D : va_G} {cI cC cJ cII cO cZ : ClassId} (F : FX l s0 D cI cC cJ cII cO cZ) {ws : va_W} {κ : Nat → Nat} {ra : Nat → Nat → Nat} {z sg : Nat → Int32} {G : Nat → Nat → Nat → Int32} {we : Nat → Int32} {pd : Nat → Int64} (hI : cb_I cI cC cJ cII ws κ ra z sg G we pd) (sz : Nat) (p0 : Int64) (p1 p2 : Int32)  : gx_XM l y_PB_share [.code y_PB_share b_PB_share 5 (some .long)] { frames := 9, cells := 1, slots := 6, locals := 320 } (gx_P s0 D classes ws sz [.ref (κ 0), .long p0, .int p1, .int p2]) (gx_Rl (fun r => ¬ p0 < 0 ∧ ¬ 1000000000000 < p0 ∧ ∃ k j, k ≤ 1000000 ∧ j ≤ 1000000 ∧ p1 = nI k ∧ p2 = nI j ∧ ¬ nI j = 0 ∧ r = cb_quo (p0 * (nI k).toInt64) (nI j).toInt64)) (fun E => (E = "java/lang/IllegalArgumentException" ∧ ((p0 < 0 ∨ 1000000000000 < p0) ∨ (p1 < 0 ∨ nI 1000000 < p1) ∨ (p2 < 0 ∨ nI 1000000 < p2))) ∨ (E = "java/lang/ArithmeticException" ∧ ¬ p0 < 0 ∧ ¬ 1000000000000 < p0 ∧ ∃ k j, k ≤ 1000000 ∧ j ≤ 1000000 ∧ p1 = nI k ∧ p2 = nI j ∧ nI j = 0)) 1 6 (fun _ => False) := by
  refine gx_xmet (by decide +kernel) (Nat.le_of_ble_eq_true rfl) ?_
  intro p e s m below meth c ls hx hb hr hml hown hlocks hex hsz hV hP hD hS hA hA0 hl
  have hg := fx_g F hV ([.ref (κ 0), .long p0, .int p1, .int p2] : List Value).toArray
  have hK := fx_k F hV
  have hn9 := fx_n F hV
  have hl : lv_has ls 5 [(0, .ref (κ 0)), (1, .long p0), (3, .int p1), (4, .int p2)] := hl
  refine lv_lload_n hx hb d_PB_share_0 rfl (lv_at hl 1 rfl) ?_
  refine lv_lconst (v := 0) hx hb d_PB_share_1 (by decide) ?_
  refine W.lcmp hx hb d_PB_share_2 ?_
  refine lv_if_lt (tgt := 29) hx hb d_PB_share_3 (by decide) (fun c_3 => ?_) (fun c_3 => ?_)
  · skip
    have hbad : p0 < 0 ∨ 1000000000000 < p0 := Or.inl ((lg_cmp_lt _ _).mp c_3)
    exact gx_throw (own := "PortBills") (cls := "java/lang/IllegalArgumentException") (text := "no such cents or keys") (names := fx_nm) (ik := 71) (is := 176) (ic := 75) hx hb (fx_tr F) hown (by decide +kernel) (by decide +kernel) (hg _ k_215) (hg _ k_12) (fx_str_176 F hV).choose_spec (fx_own_75 F hV _) (hl.1.trans hml.symm) d_PB_share_29 d_PB_share_32 d_PB_share_33 d_PB_share_35 d_PB_share_38 hex (by decide) (by decide) (by decide) (by decide) hlocks (Or.inl ⟨rfl, Or.inl hbad⟩)
  · skip
    have hlo : ¬ p0 < 0 := fun q => c_3 ((lg_cmp_lt _ _).mpr q)
    refine lv_lload_n hx hb d_PB_share_6 rfl (lv_at hl 1 rfl) ?_
    refine lv_ldc2 (v := 1000000000000) hx hb hown (hg _ k_459) d_PB_share_7 ?_
    refine W.lcmp hx hb d_PB_share_10 ?_
    refine lv_if_gt (tgt := 29) hx hb d_PB_share_11 (by decide) (fun c_11 => ?_) (fun c_11 => ?_)
    · skip
      have hbad : p0 < 0 ∨ 1000000000000 < p0 := Or.inr ((lg_cmp_gt _ _).mp c_11)
      exact gx_throw (own := "PortBills") (cls := "java/lang/IllegalArgumentException") (text := "no such cents or keys") (names := fx_nm) (ik := 71) (is := 176) (ic := 75) hx hb (fx_tr F) hown (by decide +kernel) (by decide +kernel) (hg _ k_215) (hg _ k_12) (fx_str_176 F hV).choose_spec (fx_own_75 F hV _) (hl.1.trans hml.symm) d_PB_share_29 d_PB_share_32 d_PB_share_33 d_PB_share_35 d_PB_share_38 hex (by decide) (by decide) (by decide) (by decide) hlocks (Or.inl ⟨rfl, Or.inl hbad⟩)
    · skip
      have hmo : ¬ 1000000000000 < p0 := fun q => c_11 ((lg_cmp_gt _ _).mpr q)
      refine lv_iload_n hx hb d_PB_share_14 rfl (lv_at hl 2 rfl) ?_
      refine gx_readi (va_runS (As := [.int p1]) (rest := []) ⟨hx, hb, hml, hown, gx_nil⟩ (c_PB_isKey F _ _ _) ⟨gx_cb (hg _ k_503) (hg _ k_1) (hg _ k_501) nd_PB_isKey ⟨by decide, by decide⟩, hg _ k_502⟩ (gx_preS hV hP hD hS hA0) rfl rfl hl.1 rfl (lv_room (Nat.le_of_ble_eq_true rfl)) d_PB_share_15 ⟨by decide, by decide⟩) (fun r_15 h_15 => ?_)
      rcases h_15 with ⟨rfl, k, hk, rfl⟩ | ⟨rfl, hbad⟩
      · skip
        refine lv_if_eq (tgt := 29) hx hb d_PB_share_18 (by decide) (fun c_18 => absurd c_18 (by decide)) (fun c_18 => ?_)
        refine lv_iload hx hb d_PB_share_21 (lv_at hl 3 rfl) ?_
        refine gx_readi (va_runS (As := [.int p2]) (rest := []) ⟨hx, hb, hml, hown, gx_nil⟩ (c_PB_isKey F _ _ _) ⟨gx_cb (hg _ k_503) (hg _ k_1) (hg _ k_501) nd_PB_isKey ⟨by decide, by decide⟩, hg _ k_502⟩ (gx_preS hV hP hD hS hA0) rfl rfl hl.1 rfl (lv_room (Nat.le_of_ble_eq_true rfl)) d_PB_share_23 ⟨by decide, by decide⟩) (fun r_23 h_23 => ?_)
        rcases h_23 with ⟨rfl, j, hj, rfl⟩ | ⟨rfl, hbad⟩
        · skip
          refine lv_if_ne (tgt := 39) hx hb d_PB_share_26 (by decide) (fun c_26 => ?_) (fun c_26 => absurd c_26 (by decide))
          refine lv_iload hx hb d_PB_share_39 (lv_at hl 3 rfl) ?_
          refine lv_if_ne (tgt := 54) hx hb d_PB_share_41 (by decide) (fun c_41 => ?_) (fun c_41 => ?_)
          · skip
            refine lv_lload_n hx hb d_PB_share_54 rfl (lv_at hl 1 rfl) ?_
            refine lv_iload_n hx hb d_PB_share_55 rfl (lv_at hl 2 rfl) ?_
            refine lv_i2l (v := (nI k).toInt64) hx hb d_PB_share_56 (rfl) ?_
            refine lv_lmul hx hb d_PB_share_57 ?_
            refine lv_iload hx hb d_PB_share_58 (lv_at hl 3 rfl) ?_
            refine lv_i2l (v := (nI j).toInt64) hx hb d_PB_share_60 (rfl) ?_
            refine gx_readl (va_runS (As := [.long (p0 * ((nI k).toInt64)), .long ((nI j).toInt64)]) (rest := []) ⟨hx, hb, hml, hown, gx_nil⟩ (c_PB_quotient F _ _ _ _) ⟨gx_cb (hg _ k_321) (hg _ k_1) (hg _ k_319) nd_PB_quotient ⟨by decide, by decide⟩, hg _ k_320⟩ (gx_preS hV hP hD hS hA0) rfl rfl hl.1 rfl (lv_room (Nat.le_of_ble_eq_true rfl)) d_PB_share_61 ⟨by decide, by decide⟩) (fun r_61 h_61 => ?_)
            exact gx_mx (gx_iretl hx hb hr hlocks d_PB_share_64 (⟨hlo, hmo, k, j, hk, hj, rfl, rfl, c_41, h_61⟩))
          · skip
            exact gx_throw (own := "PortBills") (cls := "java/lang/ArithmeticException") (text := "no keys at all") (names := fx_nm) (ik := 178) (is := 180) (ic := 182) hx hb (fx_tr F) hown (by decide +kernel) (by decide +kernel) (hg _ k_506) (hg _ k_19) (fx_str_180 F hV).choose_spec (fx_own_182 F hV _) (hl.1.trans hml.symm) d_PB_share_44 d_PB_share_47 d_PB_share_48 d_PB_share_50 d_PB_share_53 hex (by decide) (by decide) (by decide) (by decide) hlocks (Or.inr ⟨rfl, hlo, hmo, k, j, hk, hj, rfl, rfl, c_41⟩)
        · skip
          refine lv_if_ne (tgt := 39) hx hb d_PB_share_26 (by decide) (fun c_26 => absurd c_26 (by decide)) (fun c_26 => ?_)
          exact gx_throw (own := "PortBills") (cls := "java/lang/IllegalArgumentException") (text := "no such cents or keys") (names := fx_nm) (ik := 71) (is := 176) (ic := 75) hx hb (fx_tr F) hown (by decide +kernel) (by decide +kernel) (hg _ k_215) (hg _ k_12) (fx_str_176 F hV).choose_spec (fx_own_75 F hV _) (hl.1.trans hml.symm) d_PB_share_29 d_PB_share_32 d_PB_share_33 d_PB_share_35 d_PB_share_38 hex (by decide) (by decide) (by decide) (by decide) hlocks (Or.inl ⟨rfl, Or.inr (Or.inr hbad)⟩)
      · skip
        refine lv_if_eq (tgt := 29) hx hb d_PB_share_18 (by decide) (fun c_18 => ?_) (fun c_18 => absurd c_18 (by decide))
        exact gx_throw (own := "PortBills") (cls := "java/lang/IllegalArgumentException") (text := "no such cents or keys") (names := fx_nm) (ik := 71) (is := 176) (ic := 75) hx hb (fx_tr F) hown (by decide +kernel) (by decide +kernel) (hg _ k_215) (hg _ k_12) (fx_str_176 F hV).choose_spec (fx_own_75 F hV _) (hl.1.trans hml.symm) d_PB_share_29 d_PB_share_32 d_PB_share_33 d_PB_share_35 d_PB_share_38 hex (by decide) (by decide) (by decide) (by decide) hlocks (Or.inl ⟨rfl, Or.inr (Or.inl hbad)⟩)

set_option maxRecDepth 100000 in
set_option maxHeartbeats 4000000 in
theorem c_PB_line {l : Launch} {s0 : State} {D : va_G} {cI cC cJ cII cO cZ : ClassId} (F : FX l s0 D cI cC cJ cII cO cZ) {ws : va_W} {κ : Nat → Nat} {ra : Nat → Nat → Nat} {z sg : Nat → Int32} {G : Nat → Nat → Nat → Int32} {we : Nat → Int32} {pd : Nat → Int64} (hI : cb_I cI cC cJ cII ws κ ra z sg G we pd) {nl : Nat} {la lp : Nat → Nat} {li : Nat → Nat → Int32} {ll : Nat → Nat → Int64} (hL : cb_L cO ws (κ 62) (z 5) (fx_e0 F) nl la lp li ll) (sz : Nat) (hnl : nl ≤ 200) (p0 p1 : Int32)  : gx_XM l y_PB_line [.code y_PB_line b_PB_line 3 (some .long)] { frames := 9, cells := 1, slots := 6, locals := 320 } (gx_P s0 D classes ws sz [.ref (κ 0), .int p0, .int p1]) (gx_Rl (fun r => ∃ j w, j < nl ∧ w < 9 ∧ p0 = nI j ∧ p1 = nI w ∧ r = cb_part (li j) (ll j) w)) (fun E => E = "java/lang/IndexOutOfBoundsException" ∧ ((p0 < 0 ∨ nI nl ≤ p0) ∨ (p1 < 0 ∨ nI 9 ≤ p1))) 1 6 (fun _ => False) := by
  refine gx_xmet (by decide +kernel) (Nat.le_of_ble_eq_true rfl) ?_
  intro p e s m below meth c ls hx hb hr hml hown hlocks hex hsz hV hP hD hS hA hA0 hl
  have hg := fx_g F hV ([.ref (κ 0), .int p0, .int p1] : List Value).toArray
  have hK := fx_k F hV
  have hn9 := fx_n F hV
  have hl : lv_has ls 3 [(0, .ref (κ 0)), (1, .int p0), (2, .int p1)] := hl
  obtain ⟨ea, e62, eL, einj, earr⟩ := id hL
  refine lv_aload_n hx hb d_PB_line_0 rfl (lv_at hl 0 rfl) ?_
  refine lv_iload_n hx hb d_PB_line_1 rfl (lv_at hl 1 rfl) ?_
  refine gx_readi (va_runV (As := [.int p0]) (rest := []) ⟨hx, hb, hml, hown, gx_nil⟩ (c_PB_isLine F hI hL _ hnl _) ⟨gx_cb (hg _ k_458) (hg _ k_1) (hg _ k_455) nd_PB_isLine ⟨by decide, by decide⟩, hg _ k_457, hg _ ks_18⟩ (gx_preV hV hP hD hS hA0 (va_recv hK hP rfl (hI.1))) rfl rfl hl.1 rfl (lv_room (Nat.le_of_ble_eq_true rfl)) d_PB_line_2 ⟨by decide, by decide⟩) (fun r_2 h_2 => ?_)
  rcases h_2 with ⟨rfl, j, hj, rfl⟩ | ⟨rfl, hbad⟩
  · skip
    refine lv_if_eq (tgt := 18) hx hb d_PB_line_5 (by decide) (fun c_5 => absurd c_5 (by decide)) (fun c_5 => ?_)
    refine lv_iload_n hx hb d_PB_line_8 rfl (lv_at hl 2 rfl) ?_
    refine lv_if_lt (tgt := 18) hx hb d_PB_line_9 (by decide) (fun c_9 => ?_) (fun c_9 => ?_)
    · skip
      have hbad : p1 < 0 ∨ nI 9 ≤ p1 := Or.inl c_9
      exact gx_throw (own := "PortBills") (cls := "java/lang/IndexOutOfBoundsException") (text := "no such line or what") (names := fx_nm) (ik := 187) (is := 189) (ic := 191) hx hb (fx_tr F) hown (by decide +kernel) (by decide +kernel) (hg _ k_530) (hg _ k_20) (fx_str_189 F hV).choose_spec (fx_own_191 F hV _) (hl.1.trans hml.symm) d_PB_line_18 d_PB_line_21 d_PB_line_22 d_PB_line_24 d_PB_line_27 hex (by decide) (by decide) (by decide) (by decide) hlocks (⟨rfl, Or.inr hbad⟩)
    · skip
      refine lv_iload_n hx hb d_PB_line_12 rfl (lv_at hl 2 rfl) ?_
      refine lv_bipush (v := 9) hx hb d_PB_line_13 (by decide) ?_
      refine lv_icmp_lt (tgt := 28) hx hb d_PB_line_15 (by decide) (fun c_15 => ?_) (fun c_15 => ?_)
      · skip
        obtain ⟨w, hw, hwe⟩ : ∃ w, w < 9 ∧ p1 = nI w := gx_rng (by decide) c_9 (fun q => absurd c_15 (Int32.not_lt.mpr q))
        subst hwe
        obtain ⟨ep, cap, ef, ea0, ea5, ea6, ea7, ea1, ea2, ea3⟩ : ∃ (ep cap : Nat) (ef : Nat → Option Nat), 64 ≤ ep ∧ nl ≤ cap ∧ 10 ≤ cap ∧ cap ≤ 400 ∧ ws[ep]? = some (ea, .inl (cO, cap, .inr (.inr (.inr (.inr ef))))) ∧ (∀ j, j < nl → ef j = some (la j)) ∧ ∀ j, j < cap → ∀ y, ef j = some y → ∃ i, i < nl ∧ y = la i := earr.resolve_left (fun q => absurd q.1 (by omega))
        refine lv_aload_n hx hb d_PB_line_28 rfl (lv_at hl 0 rfl) ?_
        refine va_get (D := D) (ci := iPB) (v := .ref (κ 62)) (C := R_PB) (T := F_PB) (N := 11) hx hb (fl_PB hg) (fun _ h9 => h9) hown hK hP 0 (hI.1) rfl 9 (by decide) (hg _ k_97) (fun _ h9 => h9) rfl d_PB_line_29 ?_
        refine lv_iload_n hx hb d_PB_line_32 rfl (lv_at hl 1 rfl) ?_
        refine gx_readr (va_runV (As := [.int (nI j)]) (rest := []) ⟨hx, hb, hml, hown, gx_nil⟩ (c_AL_get F e62 ea1 _ j (la j) (by omega) (by omega) (nI_lt (hj) (by omega)) (ea2 j (hj))) ⟨gx_cb (hg _ k_195) (hg _ k_5) (hg _ k_192) nd_AL_get ⟨by decide, by decide⟩, hg _ k_193, hg _ k_194⟩ (gx_preV hV hP hD hS hA0 (va_recv hK hP rfl (e62))) rfl rfl hl.1 rfl (lv_room (Nat.le_of_ble_eq_true rfl)) d_PB_line_33 ⟨by decide, by decide⟩) (fun r_33 h_33 => ?_)
        subst h_33
        refine va_castS hx hb hown (hg _ k_206) (hK.1 iLN _ rfl).2 (va_recv hK hP rfl ((eL j (hj)).2)) d_PB_line_36 ?_
        refine lv_iload_n hx hb d_PB_line_39 rfl (lv_at hl 2 rfl) ?_
        refine gx_readl (va_runVN (As := [.int (nI w)]) (rest := []) ⟨hx, hb, hml, hown, gx_nil⟩ (c_LN_part F (eL j hj).2 _ w hw) ⟨gx_cn (hg _ k_549) (hg _ k_15) (hn9 _ kn_546) nd_LN_part ⟨by decide, by decide⟩, hg _ k_548, hg _ ks_21⟩ (gx_preV hV hP hD hS hA0 (va_recv hK hP rfl ((eL j hj).2))) rfl rfl hl.1 rfl (lv_room (Nat.le_of_ble_eq_true rfl)) d_PB_line_40 ⟨by decide, by decide⟩) (fun r_40 h_40 => ?_)
        exact gx_mx (gx_iretl hx hb hr hlocks d_PB_line_43 (⟨j, w, hj, hw, rfl, rfl, h_40⟩))
      · skip
        have hbad : p1 < 0 ∨ nI 9 ≤ p1 := Or.inr (Int32.not_lt.mp c_15)
        exact gx_throw (own := "PortBills") (cls := "java/lang/IndexOutOfBoundsException") (text := "no such line or what") (names := fx_nm) (ik := 187) (is := 189) (ic := 191) hx hb (fx_tr F) hown (by decide +kernel) (by decide +kernel) (hg _ k_530) (hg _ k_20) (fx_str_189 F hV).choose_spec (fx_own_191 F hV _) (hl.1.trans hml.symm) d_PB_line_18 d_PB_line_21 d_PB_line_22 d_PB_line_24 d_PB_line_27 hex (by decide) (by decide) (by decide) (by decide) hlocks (⟨rfl, Or.inr hbad⟩)
  · skip
    refine lv_if_eq (tgt := 18) hx hb d_PB_line_5 (by decide) (fun c_5 => ?_) (fun c_5 => absurd c_5 (by decide))
    exact gx_throw (own := "PortBills") (cls := "java/lang/IndexOutOfBoundsException") (text := "no such line or what") (names := fx_nm) (ik := 187) (is := 189) (ic := 191) hx hb (fx_tr F) hown (by decide +kernel) (by decide +kernel) (hg _ k_530) (hg _ k_20) (fx_str_189 F hV).choose_spec (fx_own_191 F hV _) (hl.1.trans hml.symm) d_PB_line_18 d_PB_line_21 d_PB_line_22 d_PB_line_24 d_PB_line_27 hex (by decide) (by decide) (by decide) (by decide) hlocks (⟨rfl, Or.inl hbad⟩)

set_option maxRecDepth 100000 in
set_option maxHeartbeats 4000000 in
theorem c_PB_count {l : Launch} {s0 : State} {D : va_G} {cI cC cJ cII cO cZ : ClassId} (F : FX l s0 D cI cC cJ cII cO cZ) {ws : va_W} {κ : Nat → Nat} {ra : Nat → Nat → Nat} {z sg : Nat → Int32} {G : Nat → Nat → Nat → Int32} {we : Nat → Int32} {pd : Nat → Int64} (hI : cb_I cI cC cJ cII ws κ ra z sg G we pd) {nl : Nat} {la lp : Nat → Nat} {li : Nat → Nat → Int32} {ll : Nat → Nat → Int64} (hL : cb_L cO ws (κ 62) (z 5) (fx_e0 F) nl la lp li ll) (sz : Nat) (hnl : nl ≤ 200) (p0 : Int32)  : Met l y_PB_count [.code y_PB_count b_PB_count 2 (some .int)] { frames := 4, cells := 0, slots := 0, locals := 160 } (gx_P s0 D classes ws sz [.ref (κ 0), .int p0]) (gx_Ri (fun r => (∃ k, k < 10 ∧ p0 - 10 = nI k ∧ r = nI (cb_cnt (fun j => decide (li j 0 = p0 - 10)) nl)) ∨ (∃ k, k < 10 ∧ p0 - 20 = nI k ∧ r = we k) ∨ (p0 = 0 ∧ r = z 0) ∨ (p0 = 1 ∧ r = z 4) ∨ (p0 = 2 ∧ r = nI nl) ∨ (p0 = 3 ∧ r = z 3) ∨ ((p0 - 10 < 0 ∨ nI 10 ≤ p0 - 10) ∧ (p0 - 20 < 0 ∨ nI 10 ≤ p0 - 20) ∧ (p0.toInt < 0 ∨ 3 < p0.toInt) ∧ r = -1))) 0 0 (fun _ => False) := by
  refine gx_met (by decide +kernel) (Nat.le_of_ble_eq_true rfl) ?_
  intro p e s m below meth c ls hx hb hr hml hown hlocks hnm hsz hV hP hD hS hA hA0 hl
  have hg := fx_g F hV ([.ref (κ 0), .int p0] : List Value).toArray
  have hK := fx_k F hV
  have hn9 := fx_n F hV
  have hl : lv_has ls 2 [(0, .ref (κ 0)), (1, .int p0)] := hl
  obtain ⟨ea, e62, eL, einj, earr⟩ := id hL
  refine lv_iload_n hx hb d_PB_count_0 rfl (lv_at hl 1 rfl) ?_
  refine lv_bipush (v := 10) hx hb d_PB_count_1 (by decide) ?_
  refine lv_isub hx hb d_PB_count_3 ?_
  refine gx_readi (va_runS (As := [.int (p0 - 10)]) (rest := []) ⟨hx, hb, hml, hown, gx_nil⟩ (c_PB_isCall F _ _ _) ⟨gx_cb (hg _ k_178) (hg _ k_1) (hg _ k_176) nd_PB_isCall ⟨by decide, by decide⟩, hg _ k_177⟩ (gx_preS hV hP hD hS hA0) rfl rfl hl.1 rfl (lv_room (Nat.le_of_ble_eq_true rfl)) d_PB_count_4 ⟨by decide, by decide⟩) (fun r_4 h_4 => ?_)
  rcases h_4 with ⟨rfl, k, hk, hkk⟩ | ⟨rfl, hb1⟩
  · skip
    refine lv_if_eq (tgt := 19) hx hb d_PB_count_7 (by decide) (fun c_7 => absurd c_7 (by decide)) (fun c_7 => ?_)
    refine lv_aload_n hx hb d_PB_count_10 rfl (lv_at hl 0 rfl) ?_
    refine lv_iload_n hx hb d_PB_count_11 rfl (lv_at hl 1 rfl) ?_
    refine lv_bipush (v := 10) hx hb d_PB_count_12 (by decide) ?_
    refine lv_isub hx hb d_PB_count_14 ?_
    refine gx_readi (va_runV (As := [.int (p0 - 10)]) (rest := []) ⟨hx, hb, hml, hown, gx_nil⟩ (c_PB_linesOf F hI hL _ hnl _) ⟨gx_cb (hg _ k_187) (hg _ k_1) (hg _ k_184) nd_PB_linesOf ⟨by decide, by decide⟩, hg _ k_186, hg _ ks_8⟩ (gx_preV hV hP hD hS hA0 (va_recv hK hP rfl (hI.1))) rfl rfl hl.1 rfl (lv_room (Nat.le_of_ble_eq_true rfl)) d_PB_count_15 ⟨by decide, by decide⟩) (fun r_15 h_15 => ?_)
    exact gx_ireti hx hb hr hlocks rfl d_PB_count_18 (Or.inl ⟨k, hk, hkk, h_15⟩)
  · skip
    refine lv_if_eq (tgt := 19) hx hb d_PB_count_7 (by decide) (fun c_7 => ?_) (fun c_7 => absurd c_7 (by decide))
    refine lv_iload_n hx hb d_PB_count_19 rfl (lv_at hl 1 rfl) ?_
    refine lv_bipush (v := 20) hx hb d_PB_count_20 (by decide) ?_
    refine lv_isub hx hb d_PB_count_22 ?_
    refine gx_readi (va_runS (As := [.int (p0 - 20)]) (rest := []) ⟨hx, hb, hml, hown, gx_nil⟩ (c_PB_isCall F _ _ _) ⟨gx_cb (hg _ k_178) (hg _ k_1) (hg _ k_176) nd_PB_isCall ⟨by decide, by decide⟩, hg _ k_177⟩ (gx_preS hV hP hD hS hA0) rfl rfl hl.1 rfl (lv_room (Nat.le_of_ble_eq_true rfl)) d_PB_count_23 ⟨by decide, by decide⟩) (fun r_23 h_23 => ?_)
    rcases h_23 with ⟨rfl, k, hk, hkk⟩ | ⟨rfl, hb2⟩
    · skip
      refine lv_if_eq (tgt := 39) hx hb d_PB_count_26 (by decide) (fun c_26 => absurd c_26 (by decide)) (fun c_26 => ?_)
      refine lv_aload_n hx hb d_PB_count_29 rfl (lv_at hl 0 rfl) ?_
      refine va_get (D := D) (ci := iPB) (v := .ref (κ 28)) (C := R_PB) (T := F_PB) (N := 11) hx hb (fl_PB hg) (fun _ h9 => h9) hown hK hP 0 (hI.1) rfl 4 (by decide) (hg _ k_92) (fun _ h9 => h9) rfl d_PB_count_30 ?_
      refine lv_iload_n hx hb d_PB_count_33 rfl (lv_at hl 1 rfl) ?_
      refine lv_bipush (v := 20) hx hb d_PB_count_34 (by decide) ?_
      refine lv_isub hx hb d_PB_count_36 ?_
      refine gx_il hx hb hK hP 28 0 (hI.2.2.2.1) rfl k (hkk) (hk) (by decide) d_PB_count_37 ?_
      exact gx_ireti hx hb hr hlocks rfl d_PB_count_38 (Or.inr (Or.inl ⟨k, hk, hkk, rfl⟩))
    · skip
      refine lv_if_eq (tgt := 39) hx hb d_PB_count_26 (by decide) (fun c_26 => ?_) (fun c_26 => absurd c_26 (by decide))
      refine lv_iload_n hx hb d_PB_count_39 rfl (lv_at hl 1 rfl) ?_
      rcases cb_sw4 p0 with hs0 | hs0 | hs0 | hs0 | hout
      · skip
        refine lv_tableIn (off := 32) (tgt := 72) hx hb d_PB_count_40 (by rw [hs0]; decide) (by rw [hs0]; decide) (by rw [hs0]; decide) (by decide) ?_
        refine lv_aload_n hx hb d_PB_count_72 rfl (lv_at hl 0 rfl) ?_
        refine va_get (D := D) (ci := iPB) (v := .ref (κ 1)) (C := R_PB) (T := F_PB) (N := 11) hx hb (fl_PB hg) (fun _ h9 => h9) hown hK hP 0 (hI.1) rfl 0 (by decide) (hg _ k_88) (fun _ h9 => h9) rfl d_PB_count_73 ?_
        refine va_getN (D := D) (ci := iTT) (v := .int (z 0)) (C := R_TT) (T := F_TT) (N := 5) hx hb (fl_TT hg) (fun _ h9 => h9) hown hK hP 1 (hI.2.1) rfl 1 (by decide) (va_Nw.use rfl (hn9 _ kn_39)) (fun _ h9 => h9) rfl d_PB_count_76 ?_
        exact gx_ireti hx hb hr hlocks rfl d_PB_count_79 (Or.inr (Or.inr (Or.inl ⟨hs0, rfl⟩)))
      · skip
        refine lv_tableIn (off := 40) (tgt := 80) hx hb d_PB_count_40 (by rw [hs0]; decide) (by rw [hs0]; decide) (by rw [hs0]; decide) (by decide) ?_
        refine lv_aload_n hx hb d_PB_count_80 rfl (lv_at hl 0 rfl) ?_
        refine va_get (D := D) (ci := iPB) (v := .int (z 4)) (C := R_PB) (T := F_PB) (N := 11) hx hb (fl_PB hg) (fun _ h9 => h9) hown hK hP 0 (hI.1) rfl 5 (by decide) (hg _ k_93) (fun _ h9 => h9) rfl d_PB_count_81 ?_
        exact gx_ireti hx hb hr hlocks rfl d_PB_count_84 (Or.inr (Or.inr (Or.inr (Or.inl ⟨hs0, rfl⟩))))
      · skip
        refine lv_tableIn (off := 45) (tgt := 85) hx hb d_PB_count_40 (by rw [hs0]; decide) (by rw [hs0]; decide) (by rw [hs0]; decide) (by decide) ?_
        refine lv_aload_n hx hb d_PB_count_85 rfl (lv_at hl 0 rfl) ?_
        refine va_get (D := D) (ci := iPB) (v := .ref (κ 62)) (C := R_PB) (T := F_PB) (N := 11) hx hb (fl_PB hg) (fun _ h9 => h9) hown hK hP 0 (hI.1) rfl 9 (by decide) (hg _ k_97) (fun _ h9 => h9) rfl d_PB_count_86 ?_
        refine gx_readi (va_runV (As := []) (rest := []) ⟨hx, hb, hml, hown, gx_nil⟩ (c_AL_size F e62 _) ⟨gx_cb (hg _ k_191) (hg _ k_5) (hg _ k_188) nd_AL_size ⟨by decide, by decide⟩, hg _ k_189, hg _ k_190⟩ (gx_preV hV hP hD hS hA0 (va_recv hK hP rfl (e62))) rfl rfl hl.1 rfl (lv_room (Nat.le_of_ble_eq_true rfl)) d_PB_count_89 ⟨by decide, by decide⟩) (fun r_89 h_89 => ?_)
        subst h_89
        exact gx_ireti hx hb hr hlocks rfl d_PB_count_92 (Or.inr (Or.inr (Or.inr (Or.inr (Or.inl ⟨hs0, rfl⟩)))))
      · skip
        refine lv_tableIn (off := 53) (tgt := 93) hx hb d_PB_count_40 (by rw [hs0]; decide) (by rw [hs0]; decide) (by rw [hs0]; decide) (by decide) ?_
        refine lv_aload_n hx hb d_PB_count_93 rfl (lv_at hl 0 rfl) ?_
        refine va_get (D := D) (ci := iPB) (v := .int (z 3)) (C := R_PB) (T := F_PB) (N := 11) hx hb (fl_PB hg) (fun _ h9 => h9) hown hK hP 0 (hI.1) rfl 2 (by decide) (hg _ k_90) (fun _ h9 => h9) rfl d_PB_count_94 ?_
        exact gx_ireti hx hb hr hlocks rfl d_PB_count_97 (Or.inr (Or.inr (Or.inr (Or.inr (Or.inr (Or.inl ⟨hs0, rfl⟩))))))
      · skip
        refine lv_tableOut (tgt := 98) hx hb d_PB_count_40 hout (by decide) ?_
        refine lv_iconst (v := (-1)) hx hb d_PB_count_98 (by decide) ?_
        exact gx_ireti hx hb hr hlocks rfl d_PB_count_99 (Or.inr (Or.inr (Or.inr (Or.inr (Or.inr (Or.inr ⟨hb1, hb2, hout, rfl⟩))))))
end
section
set_option maxRecDepth 100000 in
set_option maxHeartbeats 4000000 in
theorem c_PB_event {l : Launch} {s0 : State} {D : va_G} {cI cC cJ cII cO cZ : ClassId} (F : FX l s0 D cI cC cJ cII cO cZ) {ws : va_W} {κ : Nat → Nat} {ra : Nat → Nat → Nat} {z sg : Nat → Int32} {G : Nat → Nat → Nat → Int32} {we : Nat → Int32} {pd : Nat → Int64} (hI : cb_I cI cC cJ cII ws κ ra z sg G we pd) (sz : Nat) (p0 p1 p2 : Int32)  : gx_XM l y_PB_event [.code y_PB_event b_PB_event 5 (some .int)] { frames := 9, cells := 1, slots := 6, locals := 320 } (gx_P s0 D classes ws sz [.ref (κ 0), .int p0, .int p1, .int p2]) (va_Qi (fun r w1 => ∃ k j, k < 10 ∧ j < 6 ∧ p0 = nI k ∧ p1 = nI j ∧ ¬ p2 < 1 ∧ ¬ 50000 < p2 ∧ z 4 < 100 ∧ r = cb_bu p2 (fx_unit j) ∧ cb_I cI cC cJ cII w1 κ ra (upd z 4 (z 4 + 1)) sg (cb_upg G 2 k (upd (G 2 k) j (G 2 k j + cb_bu p2 (fx_unit j)))) (upd we k (we k + 1)) pd ∧ cb_hi ws w1) (gx_B D classes ws sz) (va_A ws sz)) (fun E => (E = "java/lang/IllegalArgumentException" ∧ ((p0 < 0 ∨ nI 10 ≤ p0) ∨ (p1 < 0 ∨ nI 6 ≤ p1) ∨ p2 < 1 ∨ 50000 < p2)) ∨ (E = "java/lang/IllegalStateException" ∧ ∃ k j, k < 10 ∧ j < 6 ∧ p0 = nI k ∧ p1 = nI j ∧ ¬ p2 < 1 ∧ ¬ 50000 < p2 ∧ ¬ z 4 < 100)) 1 6 (va_A ws sz) := by
  refine gx_xmet (by decide +kernel) (Nat.le_of_ble_eq_true rfl) ?_
  intro p e s m below meth c ls hx hb hr hml hown hlocks hex hsz hV hP hD hS hA hA0 hl
  have hg := fx_g F hV ([.ref (κ 0), .int p0, .int p1, .int p2] : List Value).toArray
  have hK := fx_k F hV
  have hn9 := fx_n F hV
  have hl : lv_has ls 5 [(0, .ref (κ 0)), (1, .int p0), (2, .int p1), (3, .int p2)] := hl
  have hH : cb_hi ws ws := fun _ _ => rfl
  refine lv_iload_n hx hb d_PB_event_0 rfl (lv_at hl 1 rfl) ?_
  refine gx_readi (va_runS (As := [.int p0]) (rest := []) ⟨hx, hb, hml, hown, gx_nil⟩ (c_PB_isCall F _ _ _) ⟨gx_cb (hg _ k_178) (hg _ k_1) (hg _ k_176) nd_PB_isCall ⟨by decide, by decide⟩, hg _ k_177⟩ (gx_preS hV hP hD hS hA0) rfl rfl hl.1 rfl (lv_room (Nat.le_of_ble_eq_true rfl)) d_PB_event_1 ⟨by decide, by decide⟩) (fun r_1 h_1 => ?_)
  rcases h_1 with ⟨rfl, k, hk, rfl⟩ | ⟨rfl, hbad⟩
  · skip
    refine lv_if_eq (tgt := 25) hx hb d_PB_event_4 (by decide) (fun c_4 => absurd c_4 (by decide)) (fun c_4 => ?_)
    refine lv_iload_n hx hb d_PB_event_7 rfl (lv_at hl 2 rfl) ?_
    refine gx_readi (va_runS (As := [.int p1]) (rest := []) ⟨hx, hb, hml, hown, gx_nil⟩ (c_PB_isKind F _ _ _) ⟨gx_cb (hg _ k_149) (hg _ k_1) (hg _ k_179) nd_PB_isKind ⟨by decide, by decide⟩, hg _ k_148⟩ (gx_preS hV hP hD hS hA0) rfl rfl hl.1 rfl (lv_room (Nat.le_of_ble_eq_true rfl)) d_PB_event_8 ⟨by decide, by decide⟩) (fun r_8 h_8 => ?_)
    rcases h_8 with ⟨rfl, j, hj, rfl⟩ | ⟨rfl, hbad⟩
    · skip
      refine lv_if_eq (tgt := 25) hx hb d_PB_event_11 (by decide) (fun c_11 => absurd c_11 (by decide)) (fun c_11 => ?_)
      refine lv_iload_n hx hb d_PB_event_14 rfl (lv_at hl 3 rfl) ?_
      refine lv_iconst (v := 1) hx hb d_PB_event_15 (by decide) ?_
      refine lv_icmp_lt (tgt := 25) hx hb d_PB_event_16 (by decide) (fun c_16 => ?_) (fun c_16 => ?_)
      · skip
        exact gx_throw (own := "PortBills") (cls := "java/lang/IllegalArgumentException") (text := "no such call, kind or amount") (names := fx_nm) (ik := 71) (is := 85) (ic := 75) hx hb (fx_tr F) hown (by decide +kernel) (by decide +kernel) (hg _ k_215) (hg _ k_12) (fx_str_85 F hV).choose_spec (fx_own_75 F hV _) (hl.1.trans hml.symm) d_PB_event_25 d_PB_event_28 d_PB_event_29 d_PB_event_31 d_PB_event_34 hex (by decide) (by decide) (by decide) (by decide) hlocks (Or.inl ⟨rfl, Or.inr (Or.inr (Or.inl c_16))⟩)
      · skip
        refine lv_iload_n hx hb d_PB_event_19 rfl (lv_at hl 3 rfl) ?_
        refine lv_ldc (v := 50000) hx hb hown (hg _ k_296) d_PB_event_20 ?_
        refine lv_icmp_le (tgt := 35) hx hb d_PB_event_22 (by decide) (fun c_22 => ?_) (fun c_22 => ?_)
        · skip
          refine lv_aload_n hx hb d_PB_event_35 rfl (lv_at hl 0 rfl) ?_
          refine va_get (D := D) (ci := iPB) (v := .int (z 4)) (C := R_PB) (T := F_PB) (N := 11) hx hb (fl_PB hg) (fun _ h9 => h9) hown hK hP 0 (hI.1) rfl 5 (by decide) (hg _ k_93) (fun _ h9 => h9) rfl d_PB_event_36 ?_
          refine lv_bipush (v := 100) hx hb d_PB_event_39 (by decide) ?_
          refine lv_icmp_lt (tgt := 54) hx hb d_PB_event_41 (by decide) (fun c_41 => ?_) (fun c_41 => ?_)
          · skip
            refine lv_iload_n hx hb d_PB_event_54 rfl (lv_at hl 3 rfl) ?_
            refine va_gets hx hb (fx_uz F hV hA0) hS hown (hg _ k_314) (fun _ h9 => h9) d_PB_event_55 ?_
            refine lv_iload_n hx hb d_PB_event_58 rfl (lv_at hl 2 rfl) ?_
            refine va_ti hx hb (fx_ut F hV hA0) hS (vp_in_nI hj (by decide)) (v := .int (fx_unit j)) (by rw [nI_clamp (by omega)]) d_PB_event_59 ?_
            refine gx_readi (va_runS (As := [.int p2, .int (fx_unit j)]) (rest := []) ⟨hx, hb, hml, hown, gx_nil⟩ (c_PB_begunUnits F _ _ p2 (fx_unit j)) ⟨gx_cb (hg _ k_318) (hg _ k_1) (hg _ k_316) nd_PB_begunUnits ⟨by decide, by decide⟩, hg _ k_317⟩ (gx_preS hV hP hD hS hA0) rfl rfl hl.1 rfl (lv_room (Nat.le_of_ble_eq_true rfl)) d_PB_event_60 ⟨by decide, by decide⟩) (fun r_60 h_60 => ?_)
            subst h_60
            refine lv_istore (lv' := [(4, .int (cb_bu p2 (fx_unit j))), (0, .ref (κ 0)), (1, .int (nI k)), (2, .int (nI j)), (3, .int p2)]) hx hb d_PB_event_63 hl (by decide) rfl (fun ls hl => ?_)
            refine lv_aload_n hx hb d_PB_event_65 rfl (lv_at hl 1 rfl) ?_
            refine va_get (D := D) (ci := iPB) (v := .ref (κ 17)) (C := R_PB) (T := F_PB) (N := 11) hx hb (fl_PB hg) (fun _ h9 => h9) hown hK hP 0 (hI.1) rfl 3 (by decide) (hg _ k_91) (fun _ h9 => h9) rfl d_PB_event_66 ?_
            refine lv_iload_n hx hb d_PB_event_69 rfl (lv_at hl 2 rfl) ?_
            refine gx_al hx hb hK hP 17 3 (hI.2.2.2.2.2.1 2 (by decide)) rfl rfl k (v := ra 2 k) (rfl) (hk) (by decide) (if_pos (hk)) d_PB_event_70 ?_
            refine lv_iload_n hx hb d_PB_event_71 rfl (lv_at hl 3 rfl) ?_
            refine lv_dup2_11 hx hb d_PB_event_72 rfl rfl ?_
            refine gx_il hx hb hK hP (cb_gp 2 + 1 + k) 0 (hI.2.2.2.2.2.2 2 (by decide) k (hk)) rfl j (rfl) (hj) (by decide) d_PB_event_73 ?_
            refine lv_iload hx hb d_PB_event_74 (lv_at hl 0 rfl) ?_
            refine lv_iadd hx hb d_PB_event_76 ?_
            refine gx_is hx hb hK hP hD hS (cb_gp 2 + 1 + k) 0 (hI.2.2.2.2.2.2 2 (by decide) k (hk)) rfl j (rfl) (hj) (by decide) d_PB_event_77 (fun H locs hP hD hS => ?_)
            obtain ⟨w_1, ew_1⟩ : ∃ x : va_W, x = ws.set (cb_gp 2 + 1 + k) (ra 2 k, .inl (cI, cb_wd 2, .inl (upd (G 2 k) j (((G 2 k) j) + (cb_bu p2 (fx_unit j)))))) := ⟨_, rfl⟩
            replace hP : va_P D classes w_1 H := by rw [ew_1]; exact hP
            replace hD : va_D (va_A ws sz) w_1 := by rw [ew_1]; exact hD
            replace hI : cb_I cI cC cJ cII w_1 κ ra z sg (cb_upg G 2 k (upd (G 2 k) j (((G 2 k) j) + (cb_bu p2 (fx_unit j))))) we pd := by rw [ew_1]; exact cb_I.row (by decide) (hk) hI
            replace hH : cb_hi ws w_1 := by rw [ew_1]; exact cb_hi.set (by have := cb_gp_lt 2 (by decide) k (hk); omega) hH
            refine lv_aload_n hx hb d_PB_event_78 rfl (lv_at hl 1 rfl) ?_
            refine va_get (D := D) (ci := iPB) (v := .ref (κ 28)) (C := R_PB) (T := F_PB) (N := 11) hx hb (fl_PB hg) (fun _ h9 => h9) hown hK hP 0 (hI.1) rfl 4 (by decide) (hg _ k_92) (fun _ h9 => h9) rfl d_PB_event_79 ?_
            refine lv_iload_n hx hb d_PB_event_82 rfl (lv_at hl 2 rfl) ?_
            refine lv_dup2_11 hx hb d_PB_event_83 rfl rfl ?_
            refine gx_il hx hb hK hP 28 0 (hI.2.2.2.1) rfl k (rfl) (hk) (by decide) d_PB_event_84 ?_
            refine lv_iconst (v := 1) hx hb d_PB_event_85 (by decide) ?_
            refine lv_iadd hx hb d_PB_event_86 ?_
            refine gx_is hx hb hK hP hD hS 28 0 (hI.2.2.2.1) rfl k (rfl) (hk) (by decide) d_PB_event_87 (fun H locs hP hD hS => ?_)
            obtain ⟨w_2, ew_2⟩ : ∃ x : va_W, x = w_1.set 28 (κ 28, .inl (cI, 10, .inl (upd we k ((we k) + 1)))) := ⟨_, rfl⟩
            replace hP : va_P D classes w_2 H := by rw [ew_2]; exact hP
            replace hD : va_D (va_A ws sz) w_2 := by rw [ew_2]; exact hD
            replace hI : cb_I cI cC cJ cII w_2 κ ra z sg (cb_upg G 2 k (upd (G 2 k) j (((G 2 k) j) + (cb_bu p2 (fx_unit j))))) (upd we k ((we k) + 1)) pd := by rw [ew_2]; exact cb_I.wev hI
            replace hH : cb_hi ws w_2 := by rw [ew_2]; exact cb_hi.set (by decide) hH
            refine lv_aload_n hx hb d_PB_event_88 rfl (lv_at hl 1 rfl) ?_
            refine lv_dup hx hb d_PB_event_89 rfl ?_
            refine va_get (D := D) (ci := iPB) (v := .int (z 4)) (C := R_PB) (T := F_PB) (N := 11) hx hb (fl_PB hg) (fun _ h9 => h9) hown hK hP 0 (hI.1) rfl 5 (by decide) (hg _ k_93) (fun _ h9 => h9) rfl d_PB_event_90 ?_
            refine lv_iconst (v := 1) hx hb d_PB_event_93 (by decide) ?_
            refine lv_iadd hx hb d_PB_event_94 ?_
            refine va_put (D := D) (ci := iPB) (v := .int ((z 4) + 1)) (ty := .int) (C := R_PB) (T := F_PB) (N := 11) hx hb (fl_PB hg) (fun _ h9 => h9) t_PB t_PB_ok n_PB hown hK hP hD hS 0 (hI.1) rfl 5 (by decide) (hg _ k_93) (fun _ h9 => h9) rfl (by decide +kernel) rfl rfl (Nat.le_of_ble_eq_true rfl) d_PB_event_95 (fun H locs hP hD hS => ?_)
            obtain ⟨w_3, ew_3⟩ : ∃ x : va_W, x = w_2.set 0 (κ 0, .inr (iPB, [.ref (κ 1), .ref (κ 10), .int (z 3), .ref (κ 17), .ref (κ 28), .int ((z 4) + 1), .ref (κ 29), .ref (κ 40), .ref (κ 51), .ref (κ 62), .ref (κ 63)])) := ⟨_, rfl⟩
            replace hP : va_P D classes w_3 H := by rw [ew_3]; exact hP
            replace hD : va_D (va_A ws sz) w_3 := by rw [ew_3]; exact hD
            replace hI : cb_I cI cC cJ cII w_3 κ ra (upd z 4 ((z 4) + 1)) sg (cb_upg G 2 k (upd (G 2 k) j (((G 2 k) j) + (cb_bu p2 (fx_unit j))))) (upd we k ((we k) + 1)) pd := by rw [ew_3]; exact cb_I.obj (z := z) (z' := upd z 4 ((z 4) + 1)) rfl rfl rfl hI
            replace hH : cb_hi ws w_3 := by rw [ew_3]; exact cb_hi.set (by decide) hH
            refine lv_iload hx hb d_PB_event_98 (lv_at hl 0 rfl) ?_
            exact gx_mx (gx_iret hx hb hr hlocks rfl hS hP hD (by decide) (by decide) d_PB_event_100 (⟨k, j, hk, hj, rfl, rfl, c_16, Int32.not_lt.mpr c_22, c_41, rfl, hI, hH⟩))
          · skip
            exact gx_throw (own := "PortBills") (cls := "java/lang/IllegalStateException") (text := "too many events wait") (names := fx_nm) (ik := 91) (is := 93) (ic := 95) hx hb (fx_tr F) hown (by decide +kernel) (by decide +kernel) (hg _ k_298) (hg _ k_13) (fx_str_93 F hV).choose_spec (fx_own_95 F hV _) (hl.1.trans hml.symm) d_PB_event_44 d_PB_event_47 d_PB_event_48 d_PB_event_50 d_PB_event_53 hex (by decide) (by decide) (by decide) (by decide) hlocks (Or.inr ⟨rfl, k, j, hk, hj, rfl, rfl, c_16, Int32.not_lt.mpr c_22, c_41⟩)
        · skip
          exact gx_throw (own := "PortBills") (cls := "java/lang/IllegalArgumentException") (text := "no such call, kind or amount") (names := fx_nm) (ik := 71) (is := 85) (ic := 75) hx hb (fx_tr F) hown (by decide +kernel) (by decide +kernel) (hg _ k_215) (hg _ k_12) (fx_str_85 F hV).choose_spec (fx_own_75 F hV _) (hl.1.trans hml.symm) d_PB_event_25 d_PB_event_28 d_PB_event_29 d_PB_event_31 d_PB_event_34 hex (by decide) (by decide) (by decide) (by decide) hlocks (Or.inl ⟨rfl, Or.inr (Or.inr (Or.inr (Int32.not_le.mp c_22)))⟩)
    · skip
      refine lv_if_eq (tgt := 25) hx hb d_PB_event_11 (by decide) (fun c_11 => ?_) (fun c_11 => absurd c_11 (by decide))
      exact gx_throw (own := "PortBills") (cls := "java/lang/IllegalArgumentException") (text := "no such call, kind or amount") (names := fx_nm) (ik := 71) (is := 85) (ic := 75) hx hb (fx_tr F) hown (by decide +kernel) (by decide +kernel) (hg _ k_215) (hg _ k_12) (fx_str_85 F hV).choose_spec (fx_own_75 F hV _) (hl.1.trans hml.symm) d_PB_event_25 d_PB_event_28 d_PB_event_29 d_PB_event_31 d_PB_event_34 hex (by decide) (by decide) (by decide) (by decide) hlocks (Or.inl ⟨rfl, Or.inr (Or.inl hbad)⟩)
  · skip
    refine lv_if_eq (tgt := 25) hx hb d_PB_event_4 (by decide) (fun c_4 => ?_) (fun c_4 => absurd c_4 (by decide))
    exact gx_throw (own := "PortBills") (cls := "java/lang/IllegalArgumentException") (text := "no such call, kind or amount") (names := fx_nm) (ik := 71) (is := 85) (ic := 75) hx hb (fx_tr F) hown (by decide +kernel) (by decide +kernel) (hg _ k_215) (hg _ k_12) (fx_str_85 F hV).choose_spec (fx_own_75 F hV _) (hl.1.trans hml.symm) d_PB_event_25 d_PB_event_28 d_PB_event_29 d_PB_event_31 d_PB_event_34 hex (by decide) (by decide) (by decide) (by decide) hlocks (Or.inl ⟨rfl, Or.inl hbad⟩)

set_option maxRecDepth 100000 in
set_option maxHeartbeats 4000000 in
theorem c_PB_discount {l : Launch} {s0 : State} {D : va_G} {cI cC cJ cII cO cZ : ClassId} (F : FX l s0 D cI cC cJ cII cO cZ) {ws : va_W} {κ : Nat → Nat} {ra : Nat → Nat → Nat} {z sg : Nat → Int32} {G : Nat → Nat → Nat → Int32} {we : Nat → Int32} {pd : Nat → Int64} (hI : cb_I cI cC cJ cII ws κ ra z sg G we pd) (sz : Nat) (p0 p1 p2 p3 : Int32)  : Met l y_PB_discount [.code y_PB_discount b_PB_discount 5 (some .boolean)] { frames := 1, cells := 0, slots := 0, locals := 40 } (gx_P s0 D classes ws sz [.ref (κ 0), .int p0, .int p1, .int p2, .int p3]) (va_Qi (fun r w1 => (r = 0 ∧ w1 = ws ∧ (((p0 < 0 ∨ nI 10 ≤ p0) ∨ (p1 < 0 ∨ nI 6 ≤ p1) ∨ p3 < 1 ∨ 100 < p3 ∨ p2 < 0 ∨ p3 < p2) ∨ ∃ k j, k < 10 ∧ j < 6 ∧ p0 = nI k ∧ p1 = nI j ∧ ¬ p3 < 1 ∧ ¬ 100 < p3 ∧ ¬ p2 < 0 ∧ ¬ p3 < p2 ∧ ¬ G 3 k j < 3)) ∨ (r = 1 ∧ ∃ k j, k < 10 ∧ j < 6 ∧ p0 = nI k ∧ p1 = nI j ∧ ¬ p3 < 1 ∧ ¬ 100 < p3 ∧ ¬ p2 < 0 ∧ ¬ p3 < p2 ∧ G 3 k j < 3 ∧ cb_I cI cC cJ cII w1 κ ra z sg (cb_upg (cb_upg (cb_upg G 3 k (upd (G 3 k) j (G 3 k j + 1))) 4 k (upd (G 4 k) j (G 4 k j * (p3 - p2)))) 5 k (upd (G 5 k) j (G 5 k j * p3))) we pd ∧ cb_hi ws w1)) (gx_B D classes ws sz) (va_A ws sz)) 0 0 (va_A ws sz) := by
  refine gx_met (by decide +kernel) (Nat.le_of_ble_eq_true rfl) ?_
  intro p e s m below meth c ls hx hb hr hml hown hlocks hnm hsz hV hP hD hS hA hA0 hl
  have hg := fx_g F hV ([.ref (κ 0), .int p0, .int p1, .int p2, .int p3] : List Value).toArray
  have hK := fx_k F hV
  have hn9 := fx_n F hV
  have hl : lv_has ls 5 [(0, .ref (κ 0)), (1, .int p0), (2, .int p1), (3, .int p2), (4, .int p3)] := hl
  have hH : cb_hi ws ws := fun _ _ => rfl
  refine lv_iload_n hx hb d_PB_discount_0 rfl (lv_at hl 1 rfl) ?_
  refine gx_readi (va_runS (As := [.int p0]) (rest := []) ⟨hx, hb, hml, hown, gx_nil⟩ (c_PB_isCall F _ _ _) ⟨gx_cb (hg _ k_178) (hg _ k_1) (hg _ k_176) nd_PB_isCall ⟨by decide, by decide⟩, hg _ k_177⟩ (gx_preS hV hP hD hS hA0) rfl rfl hl.1 rfl (lv_room (Nat.le_of_ble_eq_true rfl)) d_PB_discount_1 ⟨by decide, by decide⟩) (fun r_1 h_1 => ?_)
  rcases h_1 with ⟨rfl, k, hk, rfl⟩ | ⟨rfl, hbad⟩
  · skip
    refine lv_if_eq (tgt := 37) hx hb d_PB_discount_4 (by decide) (fun c_4 => absurd c_4 (by decide)) (fun c_4 => ?_)
    refine lv_iload_n hx hb d_PB_discount_7 rfl (lv_at hl 2 rfl) ?_
    refine gx_readi (va_runS (As := [.int p1]) (rest := []) ⟨hx, hb, hml, hown, gx_nil⟩ (c_PB_isKind F _ _ _) ⟨gx_cb (hg _ k_149) (hg _ k_1) (hg _ k_179) nd_PB_isKind ⟨by decide, by decide⟩, hg _ k_148⟩ (gx_preS hV hP hD hS hA0) rfl rfl hl.1 rfl (lv_room (Nat.le_of_ble_eq_true rfl)) d_PB_discount_8 ⟨by decide, by decide⟩) (fun r_8 h_8 => ?_)
    rcases h_8 with ⟨rfl, j, hj, rfl⟩ | ⟨rfl, hbad⟩
    · skip
      refine lv_if_eq (tgt := 37) hx hb d_PB_discount_11 (by decide) (fun c_11 => absurd c_11 (by decide)) (fun c_11 => ?_)
      refine lv_iload hx hb d_PB_discount_14 (lv_at hl 4 rfl) ?_
      refine lv_iconst (v := 1) hx hb d_PB_discount_16 (by decide) ?_
      refine lv_icmp_lt (tgt := 37) hx hb d_PB_discount_17 (by decide) (fun c_17 => ?_) (fun c_17 => ?_)
      · skip
        refine lv_iconst (v := 0) hx hb d_PB_discount_37 (by decide) ?_
        exact gx_iret hx hb hr hlocks rfl hS hP hD (by decide) (by decide) d_PB_discount_38 (Or.inl ⟨rfl, rfl, Or.inl (Or.inr (Or.inr (Or.inl c_17)))⟩)
      · skip
        refine lv_iload hx hb d_PB_discount_20 (lv_at hl 4 rfl) ?_
        refine lv_bipush (v := 100) hx hb d_PB_discount_22 (by decide) ?_
        refine lv_icmp_gt (tgt := 37) hx hb d_PB_discount_24 (by decide) (fun c_24 => ?_) (fun c_24 => ?_)
        · skip
          refine lv_iconst (v := 0) hx hb d_PB_discount_37 (by decide) ?_
          exact gx_iret hx hb hr hlocks rfl hS hP hD (by decide) (by decide) d_PB_discount_38 (Or.inl ⟨rfl, rfl, Or.inl (Or.inr (Or.inr (Or.inr (Or.inl c_24))))⟩)
        · skip
          refine lv_iload_n hx hb d_PB_discount_27 rfl (lv_at hl 3 rfl) ?_
          refine lv_if_lt (tgt := 37) hx hb d_PB_discount_28 (by decide) (fun c_28 => ?_) (fun c_28 => ?_)
          · skip
            refine lv_iconst (v := 0) hx hb d_PB_discount_37 (by decide) ?_
            exact gx_iret hx hb hr hlocks rfl hS hP hD (by decide) (by decide) d_PB_discount_38 (Or.inl ⟨rfl, rfl, Or.inl (Or.inr (Or.inr (Or.inr (Or.inr (Or.inl c_28)))))⟩)
          · skip
            refine lv_iload_n hx hb d_PB_discount_31 rfl (lv_at hl 3 rfl) ?_
            refine lv_iload hx hb d_PB_discount_32 (lv_at hl 4 rfl) ?_
            refine lv_icmp_le (tgt := 39) hx hb d_PB_discount_34 (by decide) (fun c_34 => ?_) (fun c_34 => ?_)
            · skip
              refine lv_aload_n hx hb d_PB_discount_39 rfl (lv_at hl 0 rfl) ?_
              refine va_get (D := D) (ci := iPB) (v := .ref (κ 29)) (C := R_PB) (T := F_PB) (N := 11) hx hb (fl_PB hg) (fun _ h9 => h9) hown hK hP 0 (hI.1) rfl 6 (by decide) (hg _ k_94) (fun _ h9 => h9) rfl d_PB_discount_40 ?_
              refine lv_iload_n hx hb d_PB_discount_43 rfl (lv_at hl 1 rfl) ?_
              refine gx_al hx hb hK hP 29 3 (hI.2.2.2.2.2.1 3 (by decide)) rfl rfl k (v := ra 3 k) (rfl) (hk) (by decide) (if_pos (hk)) d_PB_discount_44 ?_
              refine lv_iload_n hx hb d_PB_discount_45 rfl (lv_at hl 2 rfl) ?_
              refine gx_il hx hb hK hP (cb_gp 3 + 1 + k) 0 (hI.2.2.2.2.2.2 3 (by decide) k (hk)) rfl j (rfl) (hj) (by decide) d_PB_discount_46 ?_
              refine lv_iconst (v := 3) hx hb d_PB_discount_47 (by decide) ?_
              refine lv_icmp_lt (tgt := 53) hx hb d_PB_discount_48 (by decide) (fun c_48 => ?_) (fun c_48 => ?_)
              · skip
                refine lv_aload_n hx hb d_PB_discount_53 rfl (lv_at hl 0 rfl) ?_
                refine va_get (D := D) (ci := iPB) (v := .ref (κ 29)) (C := R_PB) (T := F_PB) (N := 11) hx hb (fl_PB hg) (fun _ h9 => h9) hown hK hP 0 (hI.1) rfl 6 (by decide) (hg _ k_94) (fun _ h9 => h9) rfl d_PB_discount_54 ?_
                refine lv_iload_n hx hb d_PB_discount_57 rfl (lv_at hl 1 rfl) ?_
                refine gx_al hx hb hK hP 29 3 (hI.2.2.2.2.2.1 3 (by decide)) rfl rfl k (v := ra 3 k) (rfl) (hk) (by decide) (if_pos (hk)) d_PB_discount_58 ?_
                refine lv_iload_n hx hb d_PB_discount_59 rfl (lv_at hl 2 rfl) ?_
                refine lv_dup2_11 hx hb d_PB_discount_60 rfl rfl ?_
                refine gx_il hx hb hK hP (cb_gp 3 + 1 + k) 0 (hI.2.2.2.2.2.2 3 (by decide) k (hk)) rfl j (rfl) (hj) (by decide) d_PB_discount_61 ?_
                refine lv_iconst (v := 1) hx hb d_PB_discount_62 (by decide) ?_
                refine lv_iadd hx hb d_PB_discount_63 ?_
                refine gx_is hx hb hK hP hD hS (cb_gp 3 + 1 + k) 0 (hI.2.2.2.2.2.2 3 (by decide) k (hk)) rfl j (rfl) (hj) (by decide) d_PB_discount_64 (fun H locs hP hD hS => ?_)
                obtain ⟨w_1, ew_1⟩ : ∃ x : va_W, x = ws.set (cb_gp 3 + 1 + k) (ra 3 k, .inl (cI, cb_wd 3, .inl (upd (G 3 k) j (((G 3 k) j) + 1)))) := ⟨_, rfl⟩
                replace hP : va_P D classes w_1 H := by rw [ew_1]; exact hP
                replace hD : va_D (va_A ws sz) w_1 := by rw [ew_1]; exact hD
                replace hI : cb_I cI cC cJ cII w_1 κ ra z sg (cb_upg G 3 k (upd (G 3 k) j (((G 3 k) j) + 1))) we pd := by rw [ew_1]; exact cb_I.row (by decide) (hk) hI
                replace hH : cb_hi ws w_1 := by rw [ew_1]; exact cb_hi.set (by have := cb_gp_lt 3 (by decide) k (hk); omega) hH
                refine lv_aload_n hx hb d_PB_discount_65 rfl (lv_at hl 0 rfl) ?_
                refine va_get (D := D) (ci := iPB) (v := .ref (κ 40)) (C := R_PB) (T := F_PB) (N := 11) hx hb (fl_PB hg) (fun _ h9 => h9) hown hK hP 0 (hI.1) rfl 7 (by decide) (hg _ k_95) (fun _ h9 => h9) rfl d_PB_discount_66 ?_
                refine lv_iload_n hx hb d_PB_discount_69 rfl (lv_at hl 1 rfl) ?_
                refine gx_al hx hb hK hP 40 3 (hI.2.2.2.2.2.1 4 (by decide)) rfl rfl k (v := ra 4 k) (rfl) (hk) (by decide) (if_pos (hk)) d_PB_discount_70 ?_
                refine lv_iload_n hx hb d_PB_discount_71 rfl (lv_at hl 2 rfl) ?_
                refine lv_dup2_11 hx hb d_PB_discount_72 rfl rfl ?_
                refine gx_il hx hb hK hP (cb_gp 4 + 1 + k) 0 (hI.2.2.2.2.2.2 4 (by decide) k (hk)) rfl j (rfl) (hj) (by decide) d_PB_discount_73 ?_
                refine lv_iload hx hb d_PB_discount_74 (lv_at hl 4 rfl) ?_
                refine lv_iload_n hx hb d_PB_discount_76 rfl (lv_at hl 3 rfl) ?_
                refine lv_isub hx hb d_PB_discount_77 ?_
                refine lv_imul hx hb d_PB_discount_78 ?_
                refine gx_is hx hb hK hP hD hS (cb_gp 4 + 1 + k) 0 (hI.2.2.2.2.2.2 4 (by decide) k (hk)) rfl j (rfl) (hj) (by decide) d_PB_discount_79 (fun H locs hP hD hS => ?_)
                obtain ⟨w_2, ew_2⟩ : ∃ x : va_W, x = w_1.set (cb_gp 4 + 1 + k) (ra 4 k, .inl (cI, cb_wd 4, .inl (upd (G 4 k) j (((G 4 k) j) * (p3 - p2))))) := ⟨_, rfl⟩
                replace hP : va_P D classes w_2 H := by rw [ew_2]; exact hP
                replace hD : va_D (va_A ws sz) w_2 := by rw [ew_2]; exact hD
                replace hI : cb_I cI cC cJ cII w_2 κ ra z sg (cb_upg (cb_upg G 3 k (upd (G 3 k) j (((G 3 k) j) + 1))) 4 k (upd (G 4 k) j (((G 4 k) j) * (p3 - p2)))) we pd := by rw [ew_2]; exact cb_I.row (by decide) (hk) hI
                replace hH : cb_hi ws w_2 := by rw [ew_2]; exact cb_hi.set (by have := cb_gp_lt 4 (by decide) k (hk); omega) hH
                refine lv_aload_n hx hb d_PB_discount_80 rfl (lv_at hl 0 rfl) ?_
                refine va_get (D := D) (ci := iPB) (v := .ref (κ 51)) (C := R_PB) (T := F_PB) (N := 11) hx hb (fl_PB hg) (fun _ h9 => h9) hown hK hP 0 (hI.1) rfl 8 (by decide) (hg _ k_96) (fun _ h9 => h9) rfl d_PB_discount_81 ?_
                refine lv_iload_n hx hb d_PB_discount_84 rfl (lv_at hl 1 rfl) ?_
                refine gx_al hx hb hK hP 51 3 (hI.2.2.2.2.2.1 5 (by decide)) rfl rfl k (v := ra 5 k) (rfl) (hk) (by decide) (if_pos (hk)) d_PB_discount_85 ?_
                refine lv_iload_n hx hb d_PB_discount_86 rfl (lv_at hl 2 rfl) ?_
                refine lv_dup2_11 hx hb d_PB_discount_87 rfl rfl ?_
                refine gx_il hx hb hK hP (cb_gp 5 + 1 + k) 0 (hI.2.2.2.2.2.2 5 (by decide) k (hk)) rfl j (rfl) (hj) (by decide) d_PB_discount_88 ?_
                refine lv_iload hx hb d_PB_discount_89 (lv_at hl 4 rfl) ?_
                refine lv_imul hx hb d_PB_discount_91 ?_
                refine gx_is hx hb hK hP hD hS (cb_gp 5 + 1 + k) 0 (hI.2.2.2.2.2.2 5 (by decide) k (hk)) rfl j (rfl) (hj) (by decide) d_PB_discount_92 (fun H locs hP hD hS => ?_)
                obtain ⟨w_3, ew_3⟩ : ∃ x : va_W, x = w_2.set (cb_gp 5 + 1 + k) (ra 5 k, .inl (cI, cb_wd 5, .inl (upd (G 5 k) j (((G 5 k) j) * p3)))) := ⟨_, rfl⟩
                replace hP : va_P D classes w_3 H := by rw [ew_3]; exact hP
                replace hD : va_D (va_A ws sz) w_3 := by rw [ew_3]; exact hD
                replace hI : cb_I cI cC cJ cII w_3 κ ra z sg (cb_upg (cb_upg (cb_upg G 3 k (upd (G 3 k) j (((G 3 k) j) + 1))) 4 k (upd (G 4 k) j (((G 4 k) j) * (p3 - p2)))) 5 k (upd (G 5 k) j (((G 5 k) j) * p3))) we pd := by rw [ew_3]; exact cb_I.row (by decide) (hk) hI
                replace hH : cb_hi ws w_3 := by rw [ew_3]; exact cb_hi.set (by have := cb_gp_lt 5 (by decide) k (hk); omega) hH
                refine lv_iconst (v := 1) hx hb d_PB_discount_93 (by decide) ?_
                exact gx_iret hx hb hr hlocks rfl hS hP hD (by decide) (by decide) d_PB_discount_94 (Or.inr ⟨rfl, k, j, hk, hj, rfl, rfl, c_17, c_24, c_28, Int32.not_lt.mpr c_34, c_48, hI, hH⟩)
              · skip
                refine lv_iconst (v := 0) hx hb d_PB_discount_51 (by decide) ?_
                exact gx_iret hx hb hr hlocks rfl hS hP hD (by decide) (by decide) d_PB_discount_52 (Or.inl ⟨rfl, rfl, Or.inr ⟨k, j, hk, hj, rfl, rfl, c_17, c_24, c_28, Int32.not_lt.mpr c_34, c_48⟩⟩)
            · skip
              refine lv_iconst (v := 0) hx hb d_PB_discount_37 (by decide) ?_
              exact gx_iret hx hb hr hlocks rfl hS hP hD (by decide) (by decide) d_PB_discount_38 (Or.inl ⟨rfl, rfl, Or.inl (Or.inr (Or.inr (Or.inr (Or.inr (Or.inr (Int32.not_le.mp c_34))))))⟩)
    · skip
      refine lv_if_eq (tgt := 37) hx hb d_PB_discount_11 (by decide) (fun c_11 => ?_) (fun c_11 => absurd c_11 (by decide))
      refine lv_iconst (v := 0) hx hb d_PB_discount_37 (by decide) ?_
      exact gx_iret hx hb hr hlocks rfl hS hP hD (by decide) (by decide) d_PB_discount_38 (Or.inl ⟨rfl, rfl, Or.inl (Or.inr (Or.inl hbad))⟩)
  · skip
    refine lv_if_eq (tgt := 37) hx hb d_PB_discount_4 (by decide) (fun c_4 => ?_) (fun c_4 => absurd c_4 (by decide))
    refine lv_iconst (v := 0) hx hb d_PB_discount_37 (by decide) ?_
    exact gx_iret hx hb hr hlocks rfl hS hP hD (by decide) (by decide) d_PB_discount_38 (Or.inl ⟨rfl, rfl, Or.inl (Or.inl hbad)⟩)
end
section
set_option maxRecDepth 100000 in
set_option maxHeartbeats 4000000 in
theorem c_PB_dispute {l : Launch} {s0 : State} {D : va_G} {cI cC cJ cII cO cZ : ClassId} (F : FX l s0 D cI cC cJ cII cO cZ) {ws : va_W} {κ : Nat → Nat} {ra : Nat → Nat → Nat} {z sg : Nat → Int32} {G : Nat → Nat → Nat → Int32} {we : Nat → Int32} {pd : Nat → Int64} (hI : cb_I cI cC cJ cII ws κ ra z sg G we pd) {nl : Nat} {la lp : Nat → Nat} {li : Nat → Nat → Int32} {ll : Nat → Nat → Int64} (hL : cb_L cO ws (κ 62) (z 5) (fx_e0 F) nl la lp li ll) (sz : Nat) (hnl : nl ≤ 200) (p0 p1 : Int32) (hb01 : p1 = 0 ∨ p1 = 1)  : gx_XM l y_PB_dispute [.code y_PB_dispute b_PB_dispute 6 (some .int)] { frames := 9, cells := 1, slots := 6, locals := 320 } (gx_P s0 D classes ws sz [.ref (κ 0), .int p0, .int p1]) (va_Qi (fun r w1 => ∃ t9, t9 < nl ∧ p0 = nI t9 ∧ ((r = 0 ∧ (¬ li t9 4 = -1 ∨ li t9 6 = p1) ∧ w1 = ws) ∨ (r = 1 ∧ li t9 4 = -1 ∧ ¬ li t9 6 = p1 ∧ cb_I cI cC cJ cII w1 κ ra z sg G we pd ∧ cb_L cO w1 (κ 62) (z 5) (fx_e0 F) nl la lp (cb_dsp li t9 p1 nl) ll))) (gx_B D classes ws sz) (va_A ws sz)) (fun E => E = "java/lang/IllegalArgumentException" ∧ (p0 < 0 ∨ nI nl ≤ p0)) 1 6 (va_A ws sz) := by
  refine gx_xmet (by decide +kernel) (Nat.le_of_ble_eq_true rfl) ?_
  intro p e s m below meth c ls hx hb hr hml hown hlocks hex hsz hV hP hD hS hA hA0 hl
  have hg := fx_g F hV ([.ref (κ 0), .int p0, .int p1] : List Value).toArray
  have hK := fx_k F hV
  have hn9 := fx_n F hV
  have hl : lv_has ls 6 [(0, .ref (κ 0)), (1, .int p0), (2, .int p1)] := hl
  obtain ⟨ea, e62, eL, einj, earr⟩ := id hL
  refine lv_aload_n hx hb d_PB_dispute_0 rfl (lv_at hl 0 rfl) ?_
  refine lv_iload_n hx hb d_PB_dispute_1 rfl (lv_at hl 1 rfl) ?_
  refine gx_readi (va_runV (As := [.int p0]) (rest := []) ⟨hx, hb, hml, hown, gx_nil⟩ (c_PB_isLine F hI hL _ hnl _) ⟨gx_cb (hg _ k_458) (hg _ k_1) (hg _ k_455) nd_PB_isLine ⟨by decide, by decide⟩, hg _ k_457, hg _ ks_18⟩ (gx_preV hV hP hD hS hA0 (va_recv hK hP rfl (hI.1))) rfl rfl hl.1 rfl (lv_room (Nat.le_of_ble_eq_true rfl)) d_PB_dispute_2 ⟨by decide, by decide⟩) (fun r_2 h_2 => ?_)
  rcases h_2 with ⟨rfl, t, ht, rfl⟩ | ⟨rfl, hbad⟩
  · skip
    refine lv_if_ne (tgt := 18) hx hb d_PB_dispute_5 (by decide) (fun c_5 => ?_) (fun c_5 => absurd c_5 (by decide))
    obtain ⟨ep, cap, ef, ea0, ea5, ea6, ea7, ea1, ea2, ea3⟩ : ∃ (ep cap : Nat) (ef : Nat → Option Nat), 64 ≤ ep ∧ nl ≤ cap ∧ 10 ≤ cap ∧ cap ≤ 400 ∧ ws[ep]? = some (ea, .inl (cO, cap, .inr (.inr (.inr (.inr ef))))) ∧ (∀ j, j < nl → ef j = some (la j)) ∧ ∀ j, j < cap → ∀ y, ef j = some y → ∃ i, i < nl ∧ y = la i := earr.resolve_left (fun q => absurd q.1 (by omega))
    refine lv_aload_n hx hb d_PB_dispute_18 rfl (lv_at hl 0 rfl) ?_
    refine va_get (D := D) (ci := iPB) (v := .ref (κ 62)) (C := R_PB) (T := F_PB) (N := 11) hx hb (fl_PB hg) (fun _ h9 => h9) hown hK hP 0 (hI.1) rfl 9 (by decide) (hg _ k_97) (fun _ h9 => h9) rfl d_PB_dispute_19 ?_
    refine lv_iload_n hx hb d_PB_dispute_22 rfl (lv_at hl 1 rfl) ?_
    refine gx_readr (va_runV (As := [.int (nI t)]) (rest := []) ⟨hx, hb, hml, hown, gx_nil⟩ (c_AL_get F e62 ea1 _ t (la t) (by omega) (by omega) (nI_lt (ht) (by omega)) (ea2 t (ht))) ⟨gx_cb (hg _ k_195) (hg _ k_5) (hg _ k_192) nd_AL_get ⟨by decide, by decide⟩, hg _ k_193, hg _ k_194⟩ (gx_preV hV hP hD hS hA0 (va_recv hK hP rfl (e62))) rfl rfl hl.1 rfl (lv_room (Nat.le_of_ble_eq_true rfl)) d_PB_dispute_23 ⟨by decide, by decide⟩) (fun r_23 h_23 => ?_)
    subst h_23
    refine va_castS hx hb hown (hg _ k_206) (hK.1 iLN _ rfl).2 (va_recv hK hP rfl ((eL t (ht)).2)) d_PB_dispute_26 ?_
    refine lv_astore_n (lv' := [(3, .ref (la t)), (0, .ref (κ 0)), (1, .int (nI t)), (2, .int p1)]) hx hb d_PB_dispute_29 rfl hl (by decide) rfl (fun ls hl => ?_)
    refine lv_aload_n hx hb d_PB_dispute_30 rfl (lv_at hl 0 rfl) ?_
    refine gx_readi (va_runVN (As := []) (rest := []) ⟨hx, hb, hml, hown, gx_nil⟩ (c_LN_isCorrection F (eL t ht).2 _) ⟨gx_cn (hg _ k_465) (hg _ k_15) (hn9 _ kn_462) nd_LN_isCorrection ⟨by decide, by decide⟩, hg _ k_464, hg _ ks_19⟩ (gx_preV hV hP hD hS hA0 (va_recv hK hP rfl ((eL t ht).2))) rfl rfl hl.1 rfl (lv_room (Nat.le_of_ble_eq_true rfl)) d_PB_dispute_31 ⟨by decide, by decide⟩) (fun r_31 h_31 => ?_)
    rcases h_31 with ⟨rfl, hcor⟩ | ⟨rfl, hcor⟩
    · skip
      refine lv_if_ne (tgt := 45) hx hb d_PB_dispute_34 (by decide) (fun c_34 => absurd c_34 (by decide)) (fun c_34 => ?_)
      refine lv_aload_n hx hb d_PB_dispute_37 rfl (lv_at hl 0 rfl) ?_
      refine va_getN (D := D) (ci := iLN) (v := .int (li t 6)) (C := R_LN) (T := F_LN) (N := 9) hx hb (fl_LN hg) (fun _ h9 => h9) hown hK hP (lp t) ((eL t (ht)).2) rfl 7 (by decide) (va_Nw.use rfl (hn9 _ kn_370)) (fun _ h9 => h9) rfl d_PB_dispute_38 ?_
      refine lv_iload_n hx hb d_PB_dispute_41 rfl (lv_at hl 3 rfl) ?_
      refine lv_icmp_ne (tgt := 47) hx hb d_PB_dispute_42 (by decide) (fun c_42 => ?_) (fun c_42 => ?_)
      · skip
        refine lv_aload_n hx hb d_PB_dispute_47 rfl (lv_at hl 0 rfl) ?_
        refine lv_iload_n hx hb d_PB_dispute_48 rfl (lv_at hl 3 rfl) ?_
        refine va_putN (D := D) (ci := iLN) (v := .int p1) (ty := .boolean) (C := R_LN) (T := F_LN) (N := 9) hx hb (fl_LN hg) (fun _ h9 => h9) t_LN t_LN_ok n_LN hown hK hP hD hS (lp t) ((eL t (ht)).2) rfl 7 (by decide) (va_Nw.use rfl (hn9 _ kn_370)) (fun _ h9 => h9) rfl (by decide +kernel) (by rcases hb01 with rfl | rfl <;> rfl) (by rcases hb01 with rfl | rfl <;> rfl) (Nat.le_of_ble_eq_true rfl) d_PB_dispute_49 (fun H locs hP hD hS => ?_)
        obtain ⟨w_1, ew_1⟩ : ∃ x : va_W, x = ws.set (lp t) (la t, .inr (iLN, cb_ln (upd (li t) 6 p1) (ll t))) := ⟨_, rfl⟩
        replace hP : va_P D classes w_1 H := by rw [ew_1]; exact hP
        replace hD : va_D (va_A ws sz) w_1 := by rw [ew_1]; exact hD
        have h64 := (eL t (ht)).1
        replace hI : cb_I cI cC cJ cII w_1 κ ra z sg G we pd := by rw [ew_1]; exact cb_I.hi (by omega) (by omega) hI
        replace hL := cb_L.line (a := upd (li t) 6 p1) (b := ll t) (ht) hL
        rw [← ew_1] at hL
        rw [cb_upr_id, cb_dsp_0] at hL
        refine lv_iconst (v := 0) hx hb d_PB_dispute_52 (by decide) ?_
        refine lv_istore (lv' := [(4, .int 0), (3, .ref (la t)), (0, .ref (κ 0)), (1, .int (nI t)), (2, .int p1)]) hx hb d_PB_dispute_53 hl (by decide) rfl (fun ls hl => ?_)
        have loop : ∀ (nn : Nat) (i : Nat) (wx : va_W) (H : Heap) (locs : List Loc) (ls : Array Slot) (hi : i ≤ nl) (hin : nl + 1 ≤ i + nn) (hI : cb_I cI cC cJ cII wx κ ra z sg G we pd) (hL : cb_L cO wx (κ 62) (z 5) (fx_e0 F) nl la lp (cb_dsp li t p1 i) ll) (hP : va_P D classes wx H) (hD : va_D (va_A ws sz) wx) (hS : va_S (va_A ws sz) s.heap H locs) (hl : lv_has ls 6 [(4, .int (nI i)), (3, .ref (la t)), (0, .ref (κ 0)), (1, .int (nI t)), (2, .int p1)]), W p l e ({ frames := 9, cells := 1, slots := 6, locals := 320 } : Room) s m ([.ref (κ 0), .int (nI t), .int p1] : List Value).toArray below meth c H locs 0 0 (gx_MX below (va_Qi (fun r w1 => ∃ t9, t9 < nl ∧ (nI t) = nI t9 ∧ ((r = 0 ∧ (¬ li t9 4 = -1 ∨ li t9 6 = p1) ∧ w1 = ws) ∨ (r = 1 ∧ li t9 4 = -1 ∧ ¬ li t9 6 = p1 ∧ cb_I cI cC cJ cII w1 κ ra z sg G we pd ∧ cb_L cO w1 (κ 62) (z 5) (fx_e0 F) nl la lp (cb_dsp li t9 p1 nl) ll))) (gx_B D classes ws sz) (va_A ws sz)) (fun E => E = "java/lang/IllegalArgumentException" ∧ ((nI t) < 0 ∨ nI nl ≤ (nI t))) ([.ref (κ 0), .int (nI t), .int p1] : List Value).toArray s 1 6 (va_A ws sz)) (F0 m 55 ls []) := by
          intro nn
          induction nn with
          | zero =>
            intro i wx H locs ls hi hin hI hL hP hD hS hl
            exact absurd hin (by omega)
          | succ nn ih =>
            intro i wx H locs ls hi hin hI hL hP hD hS hl
            obtain ⟨ea, e62, eL, einj, earr⟩ := id hL
            refine lv_iload hx hb d_PB_dispute_55 (lv_at hl 0 rfl) ?_
            refine lv_aload_n hx hb d_PB_dispute_57 rfl (lv_at hl 2 rfl) ?_
            refine va_get (D := D) (ci := iPB) (v := .ref (κ 62)) (C := R_PB) (T := F_PB) (N := 11) hx hb (fl_PB hg) (fun _ h9 => h9) hown hK hP 0 (hI.1) rfl 9 (by decide) (hg _ k_97) (fun _ h9 => h9) rfl d_PB_dispute_58 ?_
            refine gx_readi (va_runV (As := []) (rest := [.int (nI i)]) ⟨hx, hb, hml, hown, gx_nil⟩ (c_AL_size F e62 _) ⟨gx_cb (hg _ k_191) (hg _ k_5) (hg _ k_188) nd_AL_size ⟨by decide, by decide⟩, hg _ k_189, hg _ k_190⟩ (gx_preV hV hP hD hS hA0 (va_recv hK hP rfl (e62))) rfl rfl hl.1 rfl (lv_room (Nat.le_of_ble_eq_true rfl)) d_PB_dispute_61 ⟨by decide, by decide⟩) (fun r_61 h_61 => ?_)
            subst h_61
            refine lv_icmp_ge (tgt := 102) hx hb d_PB_dispute_64 (by decide) (fun c_64 => ?_) (fun c_64 => ?_)
            · skip
              have hin2 : i = nl := by have := gx_ngt c_64; omega
              subst hin2
              refine lv_iconst (v := 1) hx hb d_PB_dispute_102 (by decide) ?_
              exact gx_mx (gx_iret hx hb hr hlocks rfl hS hP hD (by decide) (by decide) d_PB_dispute_103 (⟨t, ht, rfl, Or.inr ⟨rfl, hcor, c_42, hI, hL⟩⟩))
            · skip
              have hin2 : i < nl := gx_nlt c_64
              obtain ⟨ep, cap, ef, ea0, ea5, ea6, ea7, ea1, ea2, ea3⟩ : ∃ (ep cap : Nat) (ef : Nat → Option Nat), 64 ≤ ep ∧ nl ≤ cap ∧ 10 ≤ cap ∧ cap ≤ 400 ∧ wx[ep]? = some (ea, .inl (cO, cap, .inr (.inr (.inr (.inr ef))))) ∧ (∀ j, j < nl → ef j = some (la j)) ∧ ∀ j, j < cap → ∀ y, ef j = some y → ∃ i, i < nl ∧ y = la i := earr.resolve_left (fun q => absurd q.1 (by omega))
              refine lv_aload_n hx hb d_PB_dispute_67 rfl (lv_at hl 2 rfl) ?_
              refine va_get (D := D) (ci := iPB) (v := .ref (κ 62)) (C := R_PB) (T := F_PB) (N := 11) hx hb (fl_PB hg) (fun _ h9 => h9) hown hK hP 0 (hI.1) rfl 9 (by decide) (hg _ k_97) (fun _ h9 => h9) rfl d_PB_dispute_68 ?_
              refine lv_iload hx hb d_PB_dispute_71 (lv_at hl 0 rfl) ?_
              refine gx_readr (va_runV (As := [.int (nI i)]) (rest := []) ⟨hx, hb, hml, hown, gx_nil⟩ (c_AL_get F e62 ea1 _ i (la i) (by omega) (by omega) (nI_lt (hin2) (by omega)) (ea2 i (hin2))) ⟨gx_cb (hg _ k_195) (hg _ k_5) (hg _ k_192) nd_AL_get ⟨by decide, by decide⟩, hg _ k_193, hg _ k_194⟩ (gx_preV hV hP hD hS hA0 (va_recv hK hP rfl (e62))) rfl rfl hl.1 rfl (lv_room (Nat.le_of_ble_eq_true rfl)) d_PB_dispute_73 ⟨by decide, by decide⟩) (fun r_73 h_73 => ?_)
              subst h_73
              refine va_castS hx hb hown (hg _ k_206) (hK.1 iLN _ rfl).2 (va_recv hK hP rfl ((eL i (hin2)).2)) d_PB_dispute_76 ?_
              refine lv_astore (lv' := [(5, .ref (la i)), (4, .int (nI i)), (3, .ref (la t)), (0, .ref (κ 0)), (1, .int (nI t)), (2, .int p1)]) hx hb d_PB_dispute_79 hl (by decide) rfl (fun ls hl => ?_)
              refine lv_aload hx hb d_PB_dispute_81 (lv_at hl 0 rfl) ?_
              refine va_getN (D := D) (ci := iLN) (v := .int ((cb_dsp li t p1 i) i 4)) (C := R_LN) (T := F_LN) (N := 9) hx hb (fl_LN hg) (fun _ h9 => h9) hown hK hP (lp i) ((eL i (hin2)).2) rfl 5 (by decide) (va_Nw.use rfl (hn9 _ kn_367)) (fun _ h9 => h9) rfl d_PB_dispute_83 ?_
              refine lv_iload_n hx hb d_PB_dispute_86 rfl (lv_at hl 4 rfl) ?_
              refine lv_icmp_ne (tgt := 96) hx hb d_PB_dispute_87 (by decide) (fun c_87 => ?_) (fun c_87 => ?_)
              · skip
                refine lv_iinc (v := nI (i + 1)) (lv' := [(4, .int (nI (i + 1))), (5, .ref (la i)), (3, .ref (la t)), (0, .ref (κ 0)), (1, .int (nI t)), (2, .int p1)]) hx hb d_PB_dispute_96 hl (k := 1) rfl (by rw [lit1]; exact nI_1 i) (by decide) rfl (fun ls hl => ?_)
                refine lv_goto (tgt := 55) hx hb d_PB_dispute_99 (by decide) ?_
                exact ih (i + 1) _ _ _ ls (by omega) (by omega) hI (by rw [← cb_dsp_n (fun q => c_87 ((cb_dsp_4 ..).trans q))]; exact hL) hP hD hS (lv_sub hl [0, 2, 3, 4, 5] rfl)
              · skip
                refine lv_aload hx hb d_PB_dispute_90 (lv_at hl 0 rfl) ?_
                refine lv_iload_n hx hb d_PB_dispute_92 rfl (lv_at hl 5 rfl) ?_
                refine va_putN (D := D) (ci := iLN) (v := .int p1) (ty := .boolean) (C := R_LN) (T := F_LN) (N := 9) hx hb (fl_LN hg) (fun _ h9 => h9) t_LN t_LN_ok n_LN hown hK hP hD hS (lp i) ((eL i (hin2)).2) rfl 7 (by decide) (va_Nw.use rfl (hn9 _ kn_370)) (fun _ h9 => h9) rfl (by decide +kernel) (by rcases hb01 with rfl | rfl <;> rfl) (by rcases hb01 with rfl | rfl <;> rfl) (Nat.le_of_ble_eq_true rfl) d_PB_dispute_93 (fun H locs hP hD hS => ?_)
                obtain ⟨w_2, ew_2⟩ : ∃ x : va_W, x = wx.set (lp i) (la i, .inr (iLN, cb_ln (upd (cb_dsp li t p1 i i) 6 p1) (ll i))) := ⟨_, rfl⟩
                replace hP : va_P D classes w_2 H := by rw [ew_2]; exact hP
                replace hD : va_D (va_A ws sz) w_2 := by rw [ew_2]; exact hD
                have h64 := (eL i (hin2)).1
                replace hI : cb_I cI cC cJ cII w_2 κ ra z sg G we pd := by rw [ew_2]; exact cb_I.hi (by omega) (by omega) hI
                replace hL := cb_L.line (a := upd (cb_dsp li t p1 i i) 6 p1) (b := ll i) (hin2) hL
                rw [← ew_2] at hL
                rw [cb_upr_id, cb_dsp_s (by rw [← c_87]; exact (cb_dsp_4 ..).symm)] at hL
                refine lv_iinc (v := nI (i + 1)) (lv' := [(4, .int (nI (i + 1))), (5, .ref (la i)), (3, .ref (la t)), (0, .ref (κ 0)), (1, .int (nI t)), (2, .int p1)]) hx hb d_PB_dispute_96 hl (k := 1) rfl (by rw [lit1]; exact nI_1 i) (by decide) rfl (fun ls hl => ?_)
                refine lv_goto (tgt := 55) hx hb d_PB_dispute_99 (by decide) ?_
                exact ih (i + 1) _ _ _ ls (by omega) (by omega) hI hL hP hD hS (lv_sub hl [0, 2, 3, 4, 5] rfl)
        exact loop (nl + 1) 0 _ _ _ ls (by omega) (by omega) hI hL hP hD hS (lv_sub hl [0, 1, 2, 3, 4] rfl)
      · skip
        refine lv_iconst (v := 0) hx hb d_PB_dispute_45 (by decide) ?_
        exact gx_mx (gx_iret hx hb hr hlocks rfl hS hP hD (by decide) (by decide) d_PB_dispute_46 (⟨t, ht, rfl, Or.inl ⟨rfl, Or.inr c_42, rfl⟩⟩))
    · skip
      refine lv_if_ne (tgt := 45) hx hb d_PB_dispute_34 (by decide) (fun c_34 => ?_) (fun c_34 => absurd c_34 (by decide))
      refine lv_iconst (v := 0) hx hb d_PB_dispute_45 (by decide) ?_
      exact gx_mx (gx_iret hx hb hr hlocks rfl hS hP hD (by decide) (by decide) d_PB_dispute_46 (⟨t, ht, rfl, Or.inl ⟨rfl, Or.inl hcor, rfl⟩⟩))
  · skip
    refine lv_if_ne (tgt := 18) hx hb d_PB_dispute_5 (by decide) (fun c_5 => absurd c_5 (by decide)) (fun c_5 => ?_)
    exact gx_throw (own := "PortBills") (cls := "java/lang/IllegalArgumentException") (text := "no such line") (names := fx_nm) (ik := 71) (is := 162) (ic := 75) hx hb (fx_tr F) hown (by decide +kernel) (by decide +kernel) (hg _ k_215) (hg _ k_12) (fx_str_162 F hV).choose_spec (fx_own_75 F hV _) (hl.1.trans hml.symm) d_PB_dispute_8 d_PB_dispute_11 d_PB_dispute_12 d_PB_dispute_14 d_PB_dispute_17 hex (by decide) (by decide) (by decide) (by decide) hlocks (⟨rfl, hbad⟩)
end
section
/-! LISTS: what the growing needs -/
section FXl
variable {l : Launch} {s0 s : State} {D : va_G} {cI cC cJ cII cO cZ : ClassId}
theorem fx_mi0 (F : FX l s0 D cI cC cJ cII cO cZ) : ∃ mi, ∀ s, gx_V s0 s → va_Mi "[Ljava/lang/Object;" mi s := by
  obtain ⟨-, ⟨a0, h1, h2⟩, -⟩ := F
  have hs := flat_of_before _ h2
  obtain ⟨mi, h⟩ := va_Mi.of (hs (.isRef (.mirror "[Ljava/lang/Object;")) (by decide +kernel))
  exact ⟨mi, fun s hV => va_Mi.moved hV.1.alike h⟩
theorem fx_ao (F : FX l s0 D cI cC cJ cII cO cZ) (hV : gx_V s0 s) : va_AO "java/lang/Object" s := by
  obtain ⟨-, ⟨a0, h1, h2⟩, -⟩ := F
  exact va_AO.moved hV.1.alike (va_AO.of (h1 _ kt_436))
theorem fx_aoI (F : FX l s0 D cI cC cJ cII cO cZ) (hV : gx_V s0 s) (args : Array Value) : (Cond.arrayOver (.array .int)).before args s = true := by
  obtain ⟨-, ⟨a0, h1, h2⟩, -⟩ := F
  have h : (Cond.arrayOver (.array .int)).before a0 (s0.setVm s.vm) = true := by rw [Cond.arrayOver_setVmC (args := a0) hV.1.alike]; exact h1 _ kt_36
  exact h
theorem fx_lo (F : FX l s0 D cI cC cJ cII cO cZ) (hV : gx_V s0 s) : va_Nw (.castable "PortBills$Line" "java/lang/Object") s := fx_gc F hV _ kt_755 rfl
theorem fx_dc (F : FX l s0 D cI cC cJ cII cO cZ) (hV : gx_V s0 s) (args : Array Value) : (Cond.declares ⟨"java/lang/Object", "getClass", "()Ljava/lang/Class;"⟩).before args s = true := fx_gc2 F hV args _ kt_751 rfl
theorem gx_nO (hK : va_K D classes (fx_ty cI cC cJ cII cO cZ) s) : s.vm.findClass "[Ljava/lang/Object;" = some cO := va_nmO (hK.2 4 _ rfl).2 (by decide +kernel)
theorem gx_nI (hK : va_K D classes (fx_ty cI cC cJ cII cO cZ) s) : s.vm.findClass "[I" = some cI := by
  have h : s.vm.findClass ("[" ++ FieldType.int.toString) = some cI := (hK.2 0 _ rfl).2
  rw [show "[I" = "[" ++ FieldType.int.toString by decide +kernel]
  exact h
theorem gx_nII (hK : va_K D classes (fx_ty cI cC cJ cII cO cZ) s) : s.vm.findClass "[[I" = some cII := by
  have h : s.vm.findClass ("[" ++ (FieldType.array .int).toString) = some cII := (hK.2 3 _ rfl).2
  rw [show "[[I" = "[" ++ (FieldType.array .int).toString by decide +kernel]
  exact h
/-- a new array's number is the one that is known -/
theorem gx_sameO {cA : ClassId} (hK : va_K D classes (fx_ty cI cC cJ cII cO cZ ++ [(cA, .object "java/lang/Object")]) s) : cA = cO := by
  have h1 := va_nmO (nm := "[Ljava/lang/Object;") (hK.2 4 _ rfl).2 (by decide +kernel)
  have h2 := va_nmO (nm := "[Ljava/lang/Object;") (hK.2 6 _ rfl).2 (by decide +kernel)
  exact Option.some.inj (h2.symm.trans h1)
theorem gx_recO {ws : va_W} {H : Heap} {ea ep cap : Nat} {ef : Nat → Option Nat} (hK : va_K D classes (fx_ty cI cC cJ cII cO cZ) s) (hP : va_P D classes ws H) (ha : ws[ep]? = some (ea, .inl (cO, cap, .inr (.inr (.inr (.inr ef)))))) : ∃ cell : Cell, H[ea]? = some cell ∧ cell.vm.isStatics = false ∧ s.vm.findClass "[Ljava/lang/Object;" = some cell.cls := by
  have h : H[ea]? = some (vp_cell cO (cap, .inr (.inr (.inr (.inr ef))))) := hP ep _ ha
  rw [vp_cell_q] at h
  exact ⟨_, h, rfl, gx_nO hK⟩
end FXl
theorem gx_sid {ws : va_W} {q : Nat} {c : Nat × va_E} (h : ws[q]? = some c) : ws.set q c = ws := by
  apply List.ext_getElem?
  intro k
  by_cases e : q = k
  · subst e
    rw [gx_ss h, h]
  · rw [List.getElem?_set_ne e]
theorem gx_las (ws : va_W) (x y : Nat × va_E) : (ws ++ [x]).set ws.length y = ws ++ [y] := by simp
theorem gx_lat (ws : va_W) (x : Nat × va_E) : (ws ++ [x])[ws.length]? = some x := by simp
theorem gx_room {m : MethodId} {pc : Nat} {ls : Array Slot} {rest st : List Value} (h : (st.map fun v => v.category).sum ≤ 12) : 2 * (F0 m pc ls rest).monitorRoom + (st.map fun v => v.category).sum ≤ 12 := by
  show 2 * 0 + _ ≤ 12
  omega
section GX12
variable {p : Program} {l : Launch} {e : Env} {R : Room} {s : State} {m : MethodId} {args : Array Value} {below : List Frame} {meth : Method} {c : Code} {H : Heap} {locs : List Loc} {cells slots : Nat}
/-- a call with twelve words below its arguments -/
theorem gx_runV12 {y : MethodName} {bytes cc : ByteArray} {maxL nL mc ms n index : Nat} {ret : Option FieldType} {ws : List Cond} {rm : Room} {Pc : Array Value → State → Prop} {Qc : Array Value → State → Outcome → State → Prop} {free : Addr → Prop} {Ts : List Cond} {own C : String} {b : Addr} {As rest : List Value} {g : JFrame}
    (S : CallFix p m c cc nL s args Ts own) (hM : Met l y ws rm Pc Qc mc ms free) (cw : CallW R s args own C index y bytes maxL ret ws rm mc ms n) (hlo : 12 + (maxL + 11) + rm.locals ≤ R.locals) (hp : PreV s H C b Pc As)
    (hg : g.method = m) (hn : As.length = n) (hsize : g.locals.size = nL) (hstack : g.stack = As.reverse ++ .ref b :: rest) (hW : 2 * g.monitorRoom + (rest.map fun v => v.category).sum ≤ 12) (hdg : decode cc g.pc = .ok (.invokevirtual index, 3)) (hf : cells + mc ≤ R.cells ∧ slots + ms ≤ R.slots) :
    va_Run p l e R s m args below meth c H locs cells slots mc ms g rest (Qc (Value.ref b :: As).toArray) (free) := by
  have hK : Back l R p e below s args y 3 12 (PreOf R mc ms Pc) (PostOf Qc mc ms free) := by
    obtain ⟨hrc, hrs, hfr, -, hws, hcw, -, hini, -⟩ := cw.1
    exact back_of (bytes := bytes) (maxL := maxL) (ret := ret) hM hp.1 hrc hrs hfr hlo hws hcw (fun a' U hW => word_at hW (Or.inl (by first | rfl | simp [Cond.onTables, Cond.keeps, Cond.steady])) hini)
  obtain ⟨⟨-, -, -, -, -, -, hcode, -, hy, hlen, hl⟩, hin, hse⟩ := cw
  obtain ⟨hx, hb, hml, ho, -⟩ := S
  obtain ⟨-, ⟨cellB, hcB, hoB, hclB⟩, hPc⟩ := hp
  intro T hT X
  obtain ⟨v, vm₁, ⟨U', l2, c2, s2⟩, hW₁, X', ⟨g', mk, t, L, e1, e2, hq, h1, hL, h2, h3⟩, st⟩ := callV X hx (C := C) (bytes := bytes) (maxL := maxL) (ret := ret) ho hl hin hse hcode hy hK (by rw [hT]; exact hcB) hoB hclB hg (hsize.trans hml.symm) (argsL := As) (rest := rest) (fun sig h => hn.trans (hlen sig h)) hstack hW (by rw [hb]; exact hdg)
    (fun vm₁ hW₁ => ⟨hf.1, hf.2, hPc (T.setVm vm₁) hT hW₁⟩)
  dsimp only [Pt.U, Pt.locs, Pt.cells, Pt.slots] at X' e1 e2 h1 h2 h3 st
  subst h1; subst h2; subst h3
  exact ⟨v, (T.setVm vm₁).calling g' mk (Value.ref b :: As).toArray, t, U', L, hT, X', hL, e1, e2, hq, st⟩
end GX12
/-- the first n places hold v -/
def cb_fil (f : Nat → Int32) (v : Int32) (n : Nat) : Nat → Int32 := fun j => if j < n then v else f j
theorem cb_fil_0 {f : Nat → Int32} {v : Int32} : cb_fil f v 0 = f := funext fun j => if_neg (Nat.not_lt_zero j)
theorem cb_fil_s {f : Nat → Int32} {v : Int32} {i : Nat} : upd (cb_fil f v i) i v = cb_fil f v (i + 1) := funext fun j => by
  unfold upd cb_fil
  by_cases e : j = i
  · subst e; rw [if_pos rfl, if_pos (by omega)]
  · rw [if_neg e]
    by_cases q : j < i
    · rw [if_pos q, if_pos (by omega)]
    · rw [if_neg q, if_neg (by omega)]
/-- a new line's numbers -/
def cb_mli (c k u ch co fb : Int32) : Nat → Int32 := fun q => if q = 0 then c else if q = 1 then k else if q = 2 then u else if q = 3 then ch else if q = 4 then co else if q = 5 then fb else 0
theorem cb_shr : ∀ c, c < 401 → nI c >>> ((1 : Int32) &&& 31) = nI (c / 2) := by decide +kernel
theorem cb_s1 : ∀ n, n < 401 → nI (n + 1) - nI n = nI 1 := by decide +kernel
end
section
set_option maxRecDepth 100000 in
set_option maxHeartbeats 4000000 in
theorem c_AR_fill {l : Launch} {s0 : State} {D : va_G} {cI cC cJ cII cO cZ : ClassId} (F : FX l s0 D cI cC cJ cII cO cZ) {ws : va_W} {q a n : Nat} {f : Nat → Int32} (he : ws[q]? = some (a, .inl (cI, n, .inl f))) (sz : Nat) (v : Int32) (hn : n ≤ 1000)  : Met l y_AR_fill [.code y_AR_fill b_AR_fill 4 none] { frames := 0, cells := 0, slots := 0, locals := 0 } (gx_P s0 D classes ws sz [.ref a, .int v]) (va_Qv (fun w1 => w1 = ws.set q (a, .inl (cI, n, .inl (cb_fil f v n)))) (gx_B D classes ws sz) (va_A ws sz)) 0 0 (va_A ws sz) := by
  refine gx_met (by decide +kernel) (Nat.le_of_ble_eq_true rfl) ?_
  intro p e s m below meth c ls hx hb hr hml hown hlocks hnm hsz hV hP hD hS hA hA0 hl
  have hg := fx_g F hV ([.ref a, .int v] : List Value).toArray
  have hK := fx_k F hV
  have hn9 := fx_n F hV
  have hl : lv_has ls 4 [(0, .ref a), (1, .int v)] := hl
  refine lv_iconst (v := 0) hx hb d_AR_fill_0 (by decide) ?_
  refine lv_istore_n (lv' := [(2, .int 0), (0, .ref a), (1, .int v)]) hx hb d_AR_fill_1 rfl hl (by decide) rfl (fun ls hl => ?_)
  refine lv_aload_n hx hb d_AR_fill_2 rfl (lv_at hl 1 rfl) ?_
  refine va_alen hx hb hK hP q 0 (he) rfl (v := nI n) rfl d_AR_fill_3 ?_
  refine lv_istore_n (lv' := [(3, .int (nI n)), (2, .int 0), (0, .ref a), (1, .int v)]) hx hb d_AR_fill_4 rfl hl (by decide) rfl (fun ls hl => ?_)
  have loop : ∀ (nn : Nat) (i : Nat) (H : Heap) (locs : List Loc) (ls : Array Slot) (hi : i ≤ n) (hf : n + 1 ≤ i + nn) (hP : va_P D classes (ws.set q (a, .inl (cI, n, .inl (cb_fil f v i)))) H) (hD : va_D (va_A ws sz) (ws.set q (a, .inl (cI, n, .inl (cb_fil f v i))))) (hS : va_S (va_A ws sz) s.heap H locs) (hl : lv_has ls 4 [(2, .int (nI i)), (3, .int (nI n)), (0, .ref a), (1, .int v)]), W p l e ({ frames := 0, cells := 0, slots := 0, locals := 0 } : Room) s m ([.ref a, .int v] : List Value).toArray below meth c H locs 0 0 (MQ below (va_Qv (fun w1 => w1 = ws.set q (a, .inl (cI, n, .inl (cb_fil f v n)))) (gx_B D classes ws sz) (va_A ws sz)) ([.ref a, .int v] : List Value).toArray s 0 0 (va_A ws sz)) (F0 m 5 ls []) := by
    intro nn
    induction nn with
    | zero =>
      intro i H locs ls hi hf hP hD hS hl
      exact absurd hf (by omega)
    | succ nn ih =>
      intro i H locs ls hi hf hP hD hS hl
      refine lv_iload_n hx hb d_AR_fill_5 rfl (lv_at hl 0 rfl) ?_
      refine lv_iload_n hx hb d_AR_fill_6 rfl (lv_at hl 1 rfl) ?_
      refine lv_icmp_ge (tgt := 20) hx hb d_AR_fill_7 (by decide) (fun c_7 => ?_) (fun c_7 => ?_)
      · skip
        have hin : i = n := by have := gx_ngt c_7; omega
        subst hin
        exact gx_vret hx hb hr hlocks hS hP hD (by decide) (by decide) d_AR_fill_20 (rfl)
      · skip
        have hin : i < n := gx_nlt c_7
        refine lv_aload_n hx hb d_AR_fill_10 rfl (lv_at hl 2 rfl) ?_
        refine lv_iload_n hx hb d_AR_fill_11 rfl (lv_at hl 0 rfl) ?_
        refine lv_iload_n hx hb d_AR_fill_12 rfl (lv_at hl 3 rfl) ?_
        refine gx_is hx hb hK hP hD hS q 0 (gx_ss he) rfl i (rfl) (hin) (by omega) d_AR_fill_13 (fun H locs hP hD hS => ?_)
        refine lv_iinc (v := nI (i + 1)) (lv' := [(2, .int (nI (i + 1))), (3, .int (nI n)), (0, .ref a), (1, .int v)]) hx hb d_AR_fill_14 hl (k := 0) rfl (by rw [lit1]; exact nI_1 i) (by decide) rfl (fun ls hl => ?_)
        refine lv_goto (tgt := 5) hx hb d_AR_fill_17 (by decide) ?_
        exact ih (i + 1) _ _ ls (by omega) (by omega) (by rw [List.set_set, cb_fil_s] at hP; exact hP) (by rw [List.set_set, cb_fil_s] at hD; exact hD) hS (lv_sub hl [0, 1, 2, 3] rfl)
  exact loop (n + 1) 0 _ _ ls (by omega) (by omega) (by rw [cb_fil_0, gx_sid he]; exact hP) (by rw [cb_fil_0, gx_sid he]; exact hD) hS (lv_sub hl [1, 0, 2, 3] rfl)
end
section
set_option maxRecDepth 100000 in
set_option maxHeartbeats 4000000 in
theorem c_AC_init {l : Launch} {s0 : State} {D : va_G} {cI cC cJ cII cO cZ : ClassId} (F : FX l s0 D cI cC cJ cII cO cZ) (ws : va_W) (sz : Nat) (a : Nat)  : Met l y_AC_init [.code y_AC_init b_AC_init 1 none] { frames := 1, cells := 0, slots := 0, locals := 20 } (gx_P s0 D classes ws sz [.ref a]) (va_Qv (fun w1 => w1 = ws) (gx_B D classes ws sz) (va_A ws sz)) 0 0 (va_A ws sz) := by
  refine gx_met (by decide +kernel) (Nat.le_of_ble_eq_true rfl) ?_
  intro p e s m below meth c ls hx hb hr hml hown hlocks hnm hsz hV hP hD hS hA hA0 hl
  have hg := fx_g F hV ([.ref a] : List Value).toArray
  have hK := fx_k F hV
  have hn9 := fx_n F hV
  have hl : lv_has ls 1 [(0, .ref a)] := hl
  refine lv_aload_n hx hb d_AC_init_0 rfl (lv_at hl 0 rfl) ?_
  refine W.objInit hx hb hown (hg _ k_70) (hg _ k_27) (hg _ k_28) rfl (by rw [hml]; exact hl.1) rfl d_AC_init_1 (Nat.le_of_ble_eq_true rfl) (Nat.le_of_ble_eq_true rfl) ?_
  exact gx_vret hx hb hr hlocks hS hP hD (by decide) (by decide) d_AC_init_4 (rfl)

set_option maxRecDepth 100000 in
set_option maxHeartbeats 4000000 in
theorem c_AB_init {l : Launch} {s0 : State} {D : va_G} {cI cC cJ cII cO cZ : ClassId} (F : FX l s0 D cI cC cJ cII cO cZ) {ws : va_W} {q a4 : Nat} {v1 : Value} {md n : Int32} (he : ws[q]? = some (a4, .inr (iAL, [.int md, v1, .int n]))) (sz : Nat)   : Met l y_AB_init [.code y_AB_init b_AB_init 1 none] { frames := 2, cells := 0, slots := 0, locals := 50 } (gx_P s0 D classes ws sz [.ref a4]) (va_Qv (fun w1 => w1 = ws.set q (a4, .inr (iAL, [.int 0, v1, .int n]))) (gx_B D classes ws sz) (va_A ws sz)) 0 0 (va_A ws sz) := by
  refine gx_met (by decide +kernel) (Nat.le_of_ble_eq_true rfl) ?_
  intro p e s m below meth c ls hx hb hr hml hown hlocks hnm hsz hV hP hD hS hA hA0 hl
  have hg := fx_g F hV ([.ref a4] : List Value).toArray
  have hK := fx_k F hV
  have hn9 := fx_n F hV
  have hl : lv_has ls 1 [(0, .ref a4)] := hl
  refine lv_aload_n hx hb d_AB_init_0 rfl (lv_at hl 0 rfl) ?_
  refine gx_callv (va_runI (As := []) (rest := []) ⟨hx, hb, hml, hown, gx_nil⟩ (c_AC_init F _ _ a4) ⟨gx_cb (hg _ k_69) (hg _ k_3) (hg _ k_67) nd_AC_init ⟨by decide, by decide⟩, rfl, hg _ k_68⟩ (gx_preS hV hP hD hS hA0) rfl rfl hl.1 rfl (lv_room (Nat.le_of_ble_eq_true rfl)) d_AB_init_1 ⟨by decide, by decide⟩) hD hS hA (fun w1 H locs h_1 hP hD hS => ?_)
  rw [h_1] at hP hD
  refine lv_aload_n hx hb d_AB_init_4 rfl (lv_at hl 0 rfl) ?_
  refine lv_iconst (v := 0) hx hb d_AB_init_5 (by decide) ?_
  refine va_put (D := D) (ci := iAL) (v := .int 0) (ty := .int) (C := R_AL) (T := F_AL) (N := 3) hx hb (fl_AL hg) (fun _ h9 => h9) t_AL t_AL_ok n_AL hown hK hP hD hS q (he) rfl 0 (by decide) (hg _ k_75) (fun _ h9 => h9) rfl (by decide +kernel) rfl rfl (Nat.le_of_ble_eq_true rfl) d_AB_init_6 (fun H locs hP hD hS => ?_)
  obtain ⟨w_1, ew_1⟩ : ∃ x : va_W, x = ws.set q (a4, .inr (iAL, [.int 0, v1, .int n])) := ⟨_, rfl⟩
  replace hP : va_P D classes w_1 H := by rw [ew_1]; exact hP
  replace hD : va_D (va_A ws sz) w_1 := by rw [ew_1]; exact hD
  have hew_1 : w_1[q]? = some (a4, .inr (iAL, [.int 0, v1, .int n])) := by rw [ew_1]; exact gx_ss he
  exact gx_vret hx hb hr hlocks hS hP hD (by decide) (by decide) d_AB_init_9 (ew_1)

set_option maxRecDepth 100000 in
set_option maxHeartbeats 4000000 in
theorem c_AL_init {l : Launch} {s0 : State} {D : va_G} {cI cC cJ cII cO cZ : ClassId} (F : FX l s0 D cI cC cJ cII cO cZ) {ws : va_W} {q a4 : Nat} {v1 : Value} {md n : Int32} (he : ws[q]? = some (a4, .inr (iAL, [.int md, v1, .int n]))) (sz : Nat)   : Met l y_AL_init [.code y_AL_init b_AL_init 1 none] { frames := 3, cells := 0, slots := 0, locals := 80 } (gx_P s0 D classes ws sz [.ref a4]) (va_Qv (fun w1 => w1 = ws.set q (a4, .inr (iAL, [.int 0, .ref (fx_e0 F), .int n]))) (gx_B D classes ws sz) (va_A ws sz)) 0 0 (va_A ws sz) := by
  refine gx_met (by decide +kernel) (Nat.le_of_ble_eq_true rfl) ?_
  intro p e s m below meth c ls hx hb hr hml hown hlocks hnm hsz hV hP hD hS hA hA0 hl
  have hg := fx_g F hV ([.ref a4] : List Value).toArray
  have hK := fx_k F hV
  have hn9 := fx_n F hV
  have hl : lv_has ls 1 [(0, .ref a4)] := hl
  refine lv_aload_n hx hb d_AL_init_0 rfl (lv_at hl 0 rfl) ?_
  refine gx_callv (va_runI (As := []) (rest := []) ⟨hx, hb, hml, hown, gx_nil⟩ (c_AB_init F he _) ⟨gx_cb (hg _ k_66) (hg _ k_4) (hg _ k_64) nd_AB_init ⟨by decide, by decide⟩, rfl, hg _ k_65⟩ (gx_preS hV hP hD hS hA0) rfl rfl hl.1 rfl (lv_room (Nat.le_of_ble_eq_true rfl)) d_AL_init_1 ⟨by decide, by decide⟩) hD hS hA (fun w1 H locs h_1 hP hD hS => ?_)
  have he1 : w1[q]? = some (a4, .inr (iAL, [.int 0, v1, .int n])) := by rw [h_1]; exact gx_ss he
  refine lv_aload_n hx hb d_AL_init_4 rfl (lv_at hl 0 rfl) ?_
  refine va_gets hx hb (fx_ez F hV hA0) hS hown (hg _ k_71) (fun _ h9 => h9) d_AL_init_5 ?_
  refine va_put (D := D) (ci := iAL) (v := .ref (fx_e0 F)) (ty := .array (.object "java/lang/Object")) (C := R_AL) (T := F_AL) (N := 3) hx hb (fl_AL hg) (fun _ h9 => h9) t_AL t_AL_ok n_AL hown hK hP hD hS q (he1) rfl 1 (by decide) (hg _ k_73) (fun _ h9 => h9) rfl (by decide +kernel) rfl rfl (Nat.le_of_ble_eq_true rfl) d_AL_init_8 (fun H locs hP hD hS => ?_)
  obtain ⟨w_1, ew_1⟩ : ∃ x : va_W, x = ws.set q (a4, .inr (iAL, [.int 0, .ref (fx_e0 F), .int n])) := ⟨_, rfl⟩
  replace hP : va_P D classes w_1 H := by rw [ew_1]; have h9 := hP; rw [h_1, List.set_set] at h9; exact h9
  replace hD : va_D (va_A ws sz) w_1 := by rw [ew_1]; have h9 := hD; rw [h_1, List.set_set] at h9; exact h9
  have hew_1 : w_1[q]? = some (a4, .inr (iAL, [.int 0, .ref (fx_e0 F), .int n])) := by rw [ew_1]; exact gx_ss he
  exact gx_vret hx hb hr hlocks hS hP hD (by decide) (by decide) d_AL_init_11 (ew_1)

set_option maxRecDepth 100000 in
set_option maxHeartbeats 4000000 in
theorem c_LN_init {l : Launch} {s0 : State} {D : va_G} {cI cC cJ cII cO cZ : ClassId} (F : FX l s0 D cI cC cJ cII cO cZ) {ws : va_W} {q a : Nat} (he : ws[q]? = some (a, .inr (iLN, [.int 0, .int 0, .int 0, .int 0, .long 0, .int 0, .int 0, .int 0, .long 0]))) (sz : Nat) (p0 p1 p2 p3 : Int32) (p4 : Int64) (p5 p6 : Int32) (hb01 : p6 = 0 ∨ p6 = 1)  : Met l y_LN_init [.code y_LN_init b_LN_init 9 none] { frames := 1, cells := 0, slots := 0, locals := 20 } (gx_P s0 D classes ws sz [.ref a, .int p0, .int p1, .int p2, .int p3, .long p4, .int p5, .int p6]) (va_Qv (fun w1 => w1 = ws.set q (a, .inr (iLN, cb_ln (cb_mli p0 p1 p2 p3 p5 p6) (fun _ => p4)))) (gx_B D classes ws sz) (va_A ws sz)) 0 0 (va_A ws sz) := by
  refine gx_met (by decide +kernel) (Nat.le_of_ble_eq_true rfl) ?_
  intro p e s m below meth c ls hx hb hr hml hown hlocks hnm hsz hV hP hD hS hA hA0 hl
  have hg := fx_g F hV ([.ref a, .int p0, .int p1, .int p2, .int p3, .long p4, .int p5, .int p6] : List Value).toArray
  have hK := fx_k F hV
  have hn9 := fx_n F hV
  have hl : lv_has ls 9 [(0, .ref a), (1, .int p0), (2, .int p1), (3, .int p2), (4, .int p3), (5, .long p4), (7, .int p5), (8, .int p6)] := hl
  refine lv_aload_n hx hb d_LN_init_0 rfl (lv_at hl 0 rfl) ?_
  refine W.objInit hx hb hown (hg _ k_357) (hg _ k_27) (hg _ k_28) rfl (by rw [hml]; exact hl.1) rfl d_LN_init_1 (Nat.le_of_ble_eq_true rfl) (Nat.le_of_ble_eq_true rfl) ?_
  refine lv_aload_n hx hb d_LN_init_4 rfl (lv_at hl 0 rfl) ?_
  refine lv_iload_n hx hb d_LN_init_5 rfl (lv_at hl 1 rfl) ?_
  refine va_putF (D := D) (ci := iLN) (v := .int p0) (ty := .int) (C := R_LN) (T := F_LN) (N := 9) hx hb (fl_LN hg) (fun _ h9 => h9) t_LN t_LN_ok n_LN hown hK hP hD hS q (he) rfl 0 (by decide) (hg _ k_358) (fun _ h9 => h9) rfl hnm rfl (by decide +kernel) rfl rfl (Nat.le_of_ble_eq_true rfl) d_LN_init_6 (fun H locs hP hD hS => ?_)
  obtain ⟨w_1, ew_1⟩ : ∃ x : va_W, x = ws.set q (a, .inr (iLN, [.int p0, .int 0, .int 0, .int 0, .long 0, .int 0, .int 0, .int 0, .long 0])) := ⟨_, rfl⟩
  replace hP : va_P D classes w_1 H := by rw [ew_1]; exact hP
  replace hD : va_D (va_A ws sz) w_1 := by rw [ew_1]; exact hD
  have hew_1 : w_1[q]? = some (a, .inr (iLN, [.int p0, .int 0, .int 0, .int 0, .long 0, .int 0, .int 0, .int 0, .long 0])) := by rw [ew_1]; exact gx_ss he
  refine lv_aload_n hx hb d_LN_init_9 rfl (lv_at hl 0 rfl) ?_
  refine lv_iload_n hx hb d_LN_init_10 rfl (lv_at hl 2 rfl) ?_
  refine va_putF (D := D) (ci := iLN) (v := .int p1) (ty := .int) (C := R_LN) (T := F_LN) (N := 9) hx hb (fl_LN hg) (fun _ h9 => h9) t_LN t_LN_ok n_LN hown hK hP hD hS q (hew_1) rfl 1 (by decide) (hg _ k_360) (fun _ h9 => h9) rfl hnm rfl (by decide +kernel) rfl rfl (Nat.le_of_ble_eq_true rfl) d_LN_init_11 (fun H locs hP hD hS => ?_)
  obtain ⟨w_2, ew_2⟩ : ∃ x : va_W, x = ws.set q (a, .inr (iLN, [.int p0, .int p1, .int 0, .int 0, .long 0, .int 0, .int 0, .int 0, .long 0])) := ⟨_, rfl⟩
  replace hP : va_P D classes w_2 H := by rw [ew_2]; have h9 := hP; rw [ew_1, List.set_set] at h9; exact h9
  replace hD : va_D (va_A ws sz) w_2 := by rw [ew_2]; have h9 := hD; rw [ew_1, List.set_set] at h9; exact h9
  have hew_2 : w_2[q]? = some (a, .inr (iLN, [.int p0, .int p1, .int 0, .int 0, .long 0, .int 0, .int 0, .int 0, .long 0])) := by rw [ew_2]; exact gx_ss he
  refine lv_aload_n hx hb d_LN_init_14 rfl (lv_at hl 0 rfl) ?_
  refine lv_iload_n hx hb d_LN_init_15 rfl (lv_at hl 3 rfl) ?_
  refine va_putF (D := D) (ci := iLN) (v := .int p2) (ty := .int) (C := R_LN) (T := F_LN) (N := 9) hx hb (fl_LN hg) (fun _ h9 => h9) t_LN t_LN_ok n_LN hown hK hP hD hS q (hew_2) rfl 2 (by decide) (hg _ k_362) (fun _ h9 => h9) rfl hnm rfl (by decide +kernel) rfl rfl (Nat.le_of_ble_eq_true rfl) d_LN_init_16 (fun H locs hP hD hS => ?_)
  obtain ⟨w_3, ew_3⟩ : ∃ x : va_W, x = ws.set q (a, .inr (iLN, [.int p0, .int p1, .int p2, .int 0, .long 0, .int 0, .int 0, .int 0, .long 0])) := ⟨_, rfl⟩
  replace hP : va_P D classes w_3 H := by rw [ew_3]; have h9 := hP; rw [ew_2, List.set_set] at h9; exact h9
  replace hD : va_D (va_A ws sz) w_3 := by rw [ew_3]; have h9 := hD; rw [ew_2, List.set_set] at h9; exact h9
  have hew_3 : w_3[q]? = some (a, .inr (iLN, [.int p0, .int p1, .int p2, .int 0, .long 0, .int 0, .int 0, .int 0, .long 0])) := by rw [ew_3]; exact gx_ss he
  refine lv_aload_n hx hb d_LN_init_19 rfl (lv_at hl 0 rfl) ?_
  refine lv_iload hx hb d_LN_init_20 (lv_at hl 4 rfl) ?_
  refine va_putF (D := D) (ci := iLN) (v := .int p3) (ty := .int) (C := R_LN) (T := F_LN) (N := 9) hx hb (fl_LN hg) (fun _ h9 => h9) t_LN t_LN_ok n_LN hown hK hP hD hS q (hew_3) rfl 3 (by decide) (hg _ k_363) (fun _ h9 => h9) rfl hnm rfl (by decide +kernel) rfl rfl (Nat.le_of_ble_eq_true rfl) d_LN_init_22 (fun H locs hP hD hS => ?_)
  obtain ⟨w_4, ew_4⟩ : ∃ x : va_W, x = ws.set q (a, .inr (iLN, [.int p0, .int p1, .int p2, .int p3, .long 0, .int 0, .int 0, .int 0, .long 0])) := ⟨_, rfl⟩
  replace hP : va_P D classes w_4 H := by rw [ew_4]; have h9 := hP; rw [ew_3, List.set_set] at h9; exact h9
  replace hD : va_D (va_A ws sz) w_4 := by rw [ew_4]; have h9 := hD; rw [ew_3, List.set_set] at h9; exact h9
  have hew_4 : w_4[q]? = some (a, .inr (iLN, [.int p0, .int p1, .int p2, .int p3, .long 0, .int 0, .int 0, .int 0, .long 0])) := by rw [ew_4]; exact gx_ss he
  refine lv_aload_n hx hb d_LN_init_25 rfl (lv_at hl 0 rfl) ?_
  refine lv_lload hx hb d_LN_init_26 (lv_at hl 5 rfl) ?_
  refine va_putF (D := D) (ci := iLN) (v := .long p4) (ty := .long) (C := R_LN) (T := F_LN) (N := 9) hx hb (fl_LN hg) (fun _ h9 => h9) t_LN t_LN_ok n_LN hown hK hP hD hS q (hew_4) rfl 4 (by decide) (hg _ k_364) (fun _ h9 => h9) rfl hnm rfl (by decide +kernel) rfl rfl (Nat.le_of_ble_eq_true rfl) d_LN_init_28 (fun H locs hP hD hS => ?_)
  obtain ⟨w_5, ew_5⟩ : ∃ x : va_W, x = ws.set q (a, .inr (iLN, [.int p0, .int p1, .int p2, .int p3, .long p4, .int 0, .int 0, .int 0, .long 0])) := ⟨_, rfl⟩
  replace hP : va_P D classes w_5 H := by rw [ew_5]; have h9 := hP; rw [ew_4, List.set_set] at h9; exact h9
  replace hD : va_D (va_A ws sz) w_5 := by rw [ew_5]; have h9 := hD; rw [ew_4, List.set_set] at h9; exact h9
  have hew_5 : w_5[q]? = some (a, .inr (iLN, [.int p0, .int p1, .int p2, .int p3, .long p4, .int 0, .int 0, .int 0, .long 0])) := by rw [ew_5]; exact gx_ss he
  refine lv_aload_n hx hb d_LN_init_31 rfl (lv_at hl 0 rfl) ?_
  refine lv_iload hx hb d_LN_init_32 (lv_at hl 6 rfl) ?_
  refine va_putF (D := D) (ci := iLN) (v := .int p5) (ty := .int) (C := R_LN) (T := F_LN) (N := 9) hx hb (fl_LN hg) (fun _ h9 => h9) t_LN t_LN_ok n_LN hown hK hP hD hS q (hew_5) rfl 5 (by decide) (hg _ k_366) (fun _ h9 => h9) rfl hnm rfl (by decide +kernel) rfl rfl (Nat.le_of_ble_eq_true rfl) d_LN_init_34 (fun H locs hP hD hS => ?_)
  obtain ⟨w_6, ew_6⟩ : ∃ x : va_W, x = ws.set q (a, .inr (iLN, [.int p0, .int p1, .int p2, .int p3, .long p4, .int p5, .int 0, .int 0, .long 0])) := ⟨_, rfl⟩
  replace hP : va_P D classes w_6 H := by rw [ew_6]; have h9 := hP; rw [ew_5, List.set_set] at h9; exact h9
  replace hD : va_D (va_A ws sz) w_6 := by rw [ew_6]; have h9 := hD; rw [ew_5, List.set_set] at h9; exact h9
  have hew_6 : w_6[q]? = some (a, .inr (iLN, [.int p0, .int p1, .int p2, .int p3, .long p4, .int p5, .int 0, .int 0, .long 0])) := by rw [ew_6]; exact gx_ss he
  refine lv_aload_n hx hb d_LN_init_37 rfl (lv_at hl 0 rfl) ?_
  refine lv_iload hx hb d_LN_init_38 (lv_at hl 7 rfl) ?_
  refine va_putF (D := D) (ci := iLN) (v := .int p6) (ty := .boolean) (C := R_LN) (T := F_LN) (N := 9) hx hb (fl_LN hg) (fun _ h9 => h9) t_LN t_LN_ok n_LN hown hK hP hD hS q (hew_6) rfl 6 (by decide) (hg _ k_368) (fun _ h9 => h9) rfl hnm rfl (by decide +kernel) (by rcases hb01 with rfl | rfl <;> rfl) (by rcases hb01 with rfl | rfl <;> rfl) (Nat.le_of_ble_eq_true rfl) d_LN_init_40 (fun H locs hP hD hS => ?_)
  obtain ⟨w_7, ew_7⟩ : ∃ x : va_W, x = ws.set q (a, .inr (iLN, [.int p0, .int p1, .int p2, .int p3, .long p4, .int p5, .int p6, .int 0, .long 0])) := ⟨_, rfl⟩
  replace hP : va_P D classes w_7 H := by rw [ew_7]; have h9 := hP; rw [ew_6, List.set_set] at h9; exact h9
  replace hD : va_D (va_A ws sz) w_7 := by rw [ew_7]; have h9 := hD; rw [ew_6, List.set_set] at h9; exact h9
  have hew_7 : w_7[q]? = some (a, .inr (iLN, [.int p0, .int p1, .int p2, .int p3, .long p4, .int p5, .int p6, .int 0, .long 0])) := by rw [ew_7]; exact gx_ss he
  refine lv_aload_n hx hb d_LN_init_43 rfl (lv_at hl 0 rfl) ?_
  refine lv_lload hx hb d_LN_init_44 (lv_at hl 5 rfl) ?_
  refine va_put (D := D) (ci := iLN) (v := .long p4) (ty := .long) (C := R_LN) (T := F_LN) (N := 9) hx hb (fl_LN hg) (fun _ h9 => h9) t_LN t_LN_ok n_LN hown hK hP hD hS q (hew_7) rfl 8 (by decide) (hg _ k_371) (fun _ h9 => h9) rfl (by decide +kernel) rfl rfl (Nat.le_of_ble_eq_true rfl) d_LN_init_46 (fun H locs hP hD hS => ?_)
  obtain ⟨w_8, ew_8⟩ : ∃ x : va_W, x = ws.set q (a, .inr (iLN, [.int p0, .int p1, .int p2, .int p3, .long p4, .int p5, .int p6, .int 0, .long p4])) := ⟨_, rfl⟩
  replace hP : va_P D classes w_8 H := by rw [ew_8]; have h9 := hP; rw [ew_7, List.set_set] at h9; exact h9
  replace hD : va_D (va_A ws sz) w_8 := by rw [ew_8]; have h9 := hD; rw [ew_7, List.set_set] at h9; exact h9
  have hew_8 : w_8[q]? = some (a, .inr (iLN, [.int p0, .int p1, .int p2, .int p3, .long p4, .int p5, .int p6, .int 0, .long p4])) := by rw [ew_8]; exact gx_ss he
  exact gx_vret hx hb hr hlocks hS hP hD (by decide) (by decide) d_LN_init_49 (ew_8)
end
section
set_option maxRecDepth 100000 in
set_option maxHeartbeats 4000000 in
theorem c_AR_copyOf2 {l : Launch} {s0 : State} {D : va_G} {cI cC cJ cII cO cZ : ClassId} (F : FX l s0 D cI cC cJ cII cO cZ) {ws : va_W} {ep ea cap : Nat} {ef : Nat → Option Nat} (ha : ws[ep]? = some (ea, .inl (cO, cap, .inr (.inr (.inr (.inr ef)))))) (sz : Nat) (nc : Nat) (hnc : cap ≤ nc) (hnc2 : nc ≤ 400) (hel : ∀ i, i < cap → ∀ y, ef i = some y → ∃ (k : Nat) (vs : List Value), ws[k]? = some (y, .inr (iLN, vs))) (mi : Nat) (hmi0 : ∀ s, gx_V s0 s → va_Mi "[Ljava/lang/Object;" mi s)  : Met l y_AR_copyOf2 [.code y_AR_copyOf2 b_AR_copyOf2 4 (some (.array (.object "java/lang/Object")))] { frames := 2, cells := 1, slots := 400, locals := 60 } (gx_P s0 D classes ws sz [.ref ea, .int (nI nc), .ref mi]) (va_Qr (fun u => u.1 = ws ++ [(u.2, .inl (cO, nc, .inr (.inr (.inr (.inr (va_cpy ef (fun _ => none) 0 0 cap))))))]) (gx_Bq D classes ws sz) (va_A ws sz)) 1 400 (va_A ws sz) := by
  refine gx_met (by decide +kernel) (Nat.le_of_ble_eq_true rfl) ?_
  intro p e s m below meth c ls hx hb hr hml hown hlocks hnm hsz hV hP hD hS hA hA0 hl
  have hg := fx_g F hV ([.ref ea, .int (nI nc), .ref mi] : List Value).toArray
  have hK := fx_k F hV
  have hn9 := fx_n F hV
  have hmi := hmi0 s hV
  have hl : lv_has ls 4 [(0, .ref ea), (1, .int (nI nc)), (2, .ref mi)] := hl
  refine lv_aload_n hx hb d_AR_copyOf2_0 rfl (lv_at hl 2 rfl) ?_
  refine va_ldcM hx hb hown (hg _ k_435) hmi d_AR_copyOf2_1 ?_
  refine lv_acmp_ne (rx := some mi) (ry := some mi) (tgt := 13) hx hb d_AR_copyOf2_3 (by decide) (fun c => absurd rfl c) (fun _ => ?_)
  refine lv_iload_n hx hb d_AR_copyOf2_6 rfl (lv_at hl 1 rfl) ?_
  refine va_newq hx hb hown (hg _ k_437) (fx_ao F hV) hK hP hD hS hA (N' := nc) (nI_pos (by omega)) (nI_clamp (by omega)) (by omega) (by decide) (show 0 + nc ≤ 400 by omega) d_AR_copyOf2_7 (fun qn cA H hK9 hP hD hS => ?_)
  have eA := gx_sameO hK9
  rw [eA] at hP hD
  refine W.widen (show 0 + 1 ≤ 1 by omega) (show 0 + nc ≤ 400 by omega) ?_
  obtain ⟨w2, ew2⟩ : ∃ x : va_W, x = ws ++ [(qn, .inl (cO, nc, .inr (.inr (.inr (.inr (fun _ => none))))))] := ⟨_, rfl⟩
  rw [← ew2] at hP hD
  have ha2 : w2[ep]? = some (ea, .inl (cO, cap, .inr (.inr (.inr (.inr ef))))) := by rw [ew2]; exact gx_ap ha
  have hn2 : w2[ws.length]? = some (qn, .inl (cO, nc, .inr (.inr (.inr (.inr (fun _ => none)))))) := by rw [ew2]; exact gx_lat _ _
  refine lv_goto (tgt := 24) hx hb d_AR_copyOf2_10 (by decide) ?_
  refine lv_astore_n (lv' := [(3, .ref qn), (0, .ref ea), (1, .int (nI nc)), (2, .ref mi)]) hx hb d_AR_copyOf2_24 rfl hl (by decide) rfl (fun ls hl => ?_)
  refine lv_aload_n hx hb d_AR_copyOf2_25 rfl (lv_at hl 1 rfl) ?_
  refine lv_iconst (v := 0) hx hb d_AR_copyOf2_26 (by decide) ?_
  refine lv_aload_n hx hb d_AR_copyOf2_27 rfl (lv_at hl 0 rfl) ?_
  refine lv_iconst (v := 0) hx hb d_AR_copyOf2_28 (by decide) ?_
  refine lv_aload_n hx hb d_AR_copyOf2_29 rfl (lv_at hl 1 rfl) ?_
  refine va_alen hx hb hK hP ep 4 (ha2) rfl (v := nI cap) rfl d_AR_copyOf2_30 ?_
  refine lv_iload_n hx hb d_AR_copyOf2_31 rfl (lv_at hl 2 rfl) ?_
  refine va_mmin hx hb (by rw [hml]; exact hl.1.symm) hown (hg _ k_438) (hg _ k_439) (hg _ k_14) (hg _ k_440) (by decide) (Nat.le_of_ble_eq_true rfl) (by decide) (by decide) d_AR_copyOf2_32 ?_
  rw [show (if nI nc < nI cap then nI nc else nI cap) = nI cap from if_neg (fun q => absurd (gx_ltn q) (by omega))]
  refine va_copyq (C := "PortBills$Line") hx hb (by rw [hml]; exact hl.1.symm) hown (hg _ k_441) (hg _ k_167) (hg _ k_166) (hg _ k_8) hK hP hD hS ep ws.length 4 4 ha2 hn2 rfl rfl (by decide) (by decide) (nI_pos (by omega)) (by rw [nI_clamp (by omega)]; show 0 + cap ≤ cap; omega) (by rw [nI_clamp (by omega)]; show 0 + cap ≤ nc; omega) (fun i hi y hy => ?_) (vb_asgC (fx_lo F hV)) (by decide) (Nat.le_of_ble_eq_true rfl) d_AR_copyOf2_35 (fun H locs hP hD hS => ?_)
  · rw [nI_clamp (by omega)] at hi
    obtain ⟨k9, vs9, h9⟩ := hel i hi y (by have h8 := hy; rw [show (0 : Int32).toNatClampNeg + i = i from Nat.zero_add i] at h8; exact h8)
    exact va_recv (q := (R_LN, F_LN, 9)) hK hP rfl (show w2[k9]? = some (y, .inr (iLN, vs9)) by rw [ew2]; exact gx_ap h9)
  rw [ew2, gx_las, nI_clamp (by omega)] at hP hD
  refine lv_aload_n hx hb d_AR_copyOf2_38 rfl (lv_at hl 0 rfl) ?_
  exact gx_aret hx hb hr (Or.inr ⟨_, rfl⟩) hlocks hS hP hD (by decide) (by decide) d_AR_copyOf2_39 (rfl)

set_option maxRecDepth 100000 in
set_option maxHeartbeats 4000000 in
theorem c_AR_copyOf {l : Launch} {s0 : State} {D : va_G} {cI cC cJ cII cO cZ : ClassId} (F : FX l s0 D cI cC cJ cII cO cZ) {ws : va_W} {ep ea cap : Nat} {ef : Nat → Option Nat} (ha : ws[ep]? = some (ea, .inl (cO, cap, .inr (.inr (.inr (.inr ef)))))) (sz : Nat) (nc : Nat) (hnc : cap ≤ nc) (hnc2 : nc ≤ 400) (hel : ∀ i, i < cap → ∀ y, ef i = some y → ∃ (k : Nat) (vs : List Value), ws[k]? = some (y, .inr (iLN, vs)))  : Met l y_AR_copyOf [.code y_AR_copyOf b_AR_copyOf 2 (some (.array (.object "java/lang/Object")))] { frames := 3, cells := 1, slots := 400, locals := 90 } (gx_P s0 D classes ws sz [.ref ea, .int (nI nc)]) (va_Qr (fun u => u.1 = ws ++ [(u.2, .inl (cO, nc, .inr (.inr (.inr (.inr (va_cpy ef (fun _ => none) 0 0 cap))))))]) (gx_Bq D classes ws sz) (va_A ws sz)) 1 400 (va_A ws sz) := by
  refine gx_met (by decide +kernel) (Nat.le_of_ble_eq_true rfl) ?_
  intro p e s m below meth c ls hx hb hr hml hown hlocks hnm hsz hV hP hD hS hA hA0 hl
  have hg := fx_g F hV ([.ref ea, .int (nI nc)] : List Value).toArray
  have hK := fx_k F hV
  have hn9 := fx_n F hV
  obtain ⟨mi, hmi0⟩ := fx_mi0 F
  have hmi := hmi0 s hV
  have hl : lv_has ls 2 [(0, .ref ea), (1, .int (nI nc))] := hl
  refine lv_aload_n hx hb d_AR_copyOf_0 rfl (lv_at hl 0 rfl) ?_
  refine lv_iload_n hx hb d_AR_copyOf_1 rfl (lv_at hl 1 rfl) ?_
  refine lv_aload_n hx hb d_AR_copyOf_2 rfl (lv_at hl 0 rfl) ?_
  refine va_getC (C := "[Ljava/lang/Object;") hx hb (by rw [hml]; exact hl.1.symm) hown (hg _ k_419) (fx_dc F hV _) (hg _ k_750) (hg _ k_420) (hg _ k_431) hmi (gx_recO hK hP ha) (by decide) (Nat.le_of_ble_eq_true rfl) d_AR_copyOf_3 ?_
  refine gx_callr (va_runS (As := [.ref ea, .int (nI nc), .ref mi]) (rest := []) ⟨hx, hb, hml, hown, gx_nil⟩ (c_AR_copyOf2 F ha _ nc hnc hnc2 hel mi (fun s1 h1 => hmi0 s1 h1)) ⟨gx_cb (hg _ k_434) (hg _ k_6) (hg _ k_432) nd_AR_copyOf2 ⟨by decide, by decide⟩, hg _ k_433⟩ (gx_preS hV hP hD hS hA0) rfl rfl hl.1 rfl (lv_room (Nat.le_of_ble_eq_true rfl)) d_AR_copyOf_6 ⟨by decide, by decide⟩) hD hS hA (fun r_6 w1 H locs h_6 hP hD hS => ?_)
  exact gx_aret hx hb hr (Or.inr ⟨_, rfl⟩) hlocks hS hP hD (by decide) (by decide) d_AR_copyOf_9 (h_6)

set_option maxRecDepth 100000 in
set_option maxHeartbeats 4000000 in
theorem c_AS_newLength {l : Launch} {s0 : State} {D : va_G} {cI cC cJ cII cO cZ : ClassId} (F : FX l s0 D cI cC cJ cII cO cZ) (ws : va_W) (sz : Nat) (c0 : Nat) (hc0 : 10 ≤ c0) (hc1 : c0 ≤ 200)  : Met l y_AS_newLength [.code y_AS_newLength b_AS_newLength 4 (some .int)] { frames := 1, cells := 0, slots := 0, locals := 40 } (gx_P s0 D classes ws sz [.int (nI c0), .int (nI 1), .int (nI (c0 / 2))]) (gx_Ri (fun r => r = nI (c0 + c0 / 2))) 0 0 (fun _ => False) := by
  refine gx_met (by decide +kernel) (Nat.le_of_ble_eq_true rfl) ?_
  intro p e s m below meth c ls hx hb hr hml hown hlocks hnm hsz hV hP hD hS hA hA0 hl
  have hg := fx_g F hV ([.int (nI c0), .int (nI 1), .int (nI (c0 / 2))] : List Value).toArray
  have hK := fx_k F hV
  have hn9 := fx_n F hV
  have hl : lv_has ls 4 [(0, .int (nI c0)), (1, .int (nI 1)), (2, .int (nI (c0 / 2)))] := hl
  refine lv_iload_n hx hb d_AS_newLength_0 rfl (lv_at hl 0 rfl) ?_
  refine lv_iload_n hx hb d_AS_newLength_1 rfl (lv_at hl 1 rfl) ?_
  refine lv_iload_n hx hb d_AS_newLength_2 rfl (lv_at hl 2 rfl) ?_
  refine va_mmax hx hb (by rw [hml]; exact hl.1.symm) hown (hg _ k_411) (hg _ k_340) (hg _ k_14) (hg _ k_341) (by decide) (Nat.le_of_ble_eq_true rfl) (by decide) (by decide) d_AS_newLength_3 ?_
  rw [show (if nI 1 < nI (c0 / 2) then nI (c0 / 2) else nI 1) = nI (c0 / 2) from if_pos ((nI_ltI (by omega) (by omega)).mpr (by omega))]
  refine lv_iadd hx hb d_AS_newLength_6 ?_
  rw [nI_add]
  refine lv_istore_n (lv' := [(3, .int (nI (c0 + c0 / 2))), (0, .int (nI c0)), (1, .int (nI 1)), (2, .int (nI (c0 / 2)))]) hx hb d_AS_newLength_7 rfl hl (by decide) rfl (fun ls hl => ?_)
  refine lv_iconst (v := 0) hx hb d_AS_newLength_8 (by decide) ?_
  refine lv_iload_n hx hb d_AS_newLength_9 rfl (lv_at hl 0 rfl) ?_
  refine lv_icmp_ge (tgt := 21) hx hb d_AS_newLength_10 (by decide) (fun c_10 => absurd (gx_ngt (b := 0) c_10) (by omega)) (fun c_10 => ?_)
  refine lv_iload_n hx hb d_AS_newLength_13 rfl (lv_at hl 0 rfl) ?_
  refine lv_ldc (v := 2147483639) hx hb hown (hg _ k_412) d_AS_newLength_14 ?_
  refine lv_icmp_gt (tgt := 21) hx hb d_AS_newLength_16 (by decide) (fun c_16 => absurd ((nI_ltI (a := 2147483639) (by omega) (by omega)).mp c_16) (by omega)) (fun c_16 => ?_)
  refine lv_iload_n hx hb d_AS_newLength_19 rfl (lv_at hl 0 rfl) ?_
  exact gx_ireti hx hb hr hlocks rfl d_AS_newLength_20 (rfl)
end
section
/-- a list's array has grown: n places as they were, the rest empty -/
def cb_grown (cO : ClassId) (ws : va_W) (q a4 : Nat) (md : Int32) (n : Nat) (ef : Nat → Option Nat) (u : va_W × Nat) : Prop := ∃ (cap' : Nat) (ef' : Nat → Option Nat), n < cap' ∧ 10 ≤ cap' ∧ cap' ≤ 400 ∧ (∀ j, j < n → ef' j = ef j) ∧ (∀ j, n ≤ j → ef' j = none) ∧ u.1 = (ws ++ ([(u.2, .inl (cO, cap', .inr (.inr (.inr (.inr ef')))))] : va_W)).set q (a4, .inr (iAL, [.int md, .ref u.2, .int (nI n)]))
/-- an element is added to a list of n -/
def cb_added (cO : ClassId) (ws w1 : va_W) (q a4 : Nat) (md : Int32) (n : Nat) (ef : Nat → Option Nat) (v ep0 cx : Nat) : Prop := ∃ (ea' ep' cap' : Nat) (ef' : Nat → Option Nat), w1[q]? = some (a4, .inr (iAL, [.int md, .ref ea', .int (nI (n + 1))])) ∧ w1[ep']? = some (ea', .inl (cO, cap', .inr (.inr (.inr (.inr ef'))))) ∧ (ep' = ep0 ∨ ep' = ws.length) ∧ n < cap' ∧ 10 ≤ cap' ∧ cap' ≤ 400 ∧ (∀ j, j < n → ef' j = ef j) ∧ ef' n = some v ∧ (∀ j, j ≠ n → j < cap' → (ef' j = ef j ∧ j < cx) ∨ ef' j = none) ∧ (∀ k, k ≠ q → k ≠ ep' → k < ws.length → w1[k]? = ws[k]?)
end
section
set_option maxRecDepth 100000 in
set_option maxHeartbeats 4000000 in
theorem c_AL_grow2A {l : Launch} {s0 : State} {D : va_G} {cI cC cJ cII cO cZ : ClassId} (F : FX l s0 D cI cC cJ cII cO cZ) {ws : va_W} {q a4 ea : Nat} {md : Int32} {ep cap : Nat} {ef : Nat → Option Nat} (he : ws[q]? = some (a4, .inr (iAL, [.int md, .ref ea, .int (nI cap)]))) (ha : ws[ep]? = some (ea, .inl (cO, cap, .inr (.inr (.inr (.inr ef)))))) (sz : Nat) (hc0 : 10 ≤ cap) (hc1 : cap ≤ 200) (hel : ∀ i, i < cap → ∀ y, ef i = some y → ∃ (k : Nat) (vs : List Value), ws[k]? = some (y, .inr (iLN, vs)))  : Met l y_AL_grow2 [.code y_AL_grow2 b_AL_grow2 4 (some (.array (.object "java/lang/Object")))] { frames := 4, cells := 1, slots := 400, locals := 130 } (gx_P s0 D classes ws sz [.ref a4, .int (nI (cap + 1))]) (va_Qr (fun u => cb_grown cO ws q a4 md cap ef u) (gx_Bq D classes ws sz) (va_A ws sz)) 1 400 (va_A ws sz) := by
  refine gx_met (by decide +kernel) (Nat.le_of_ble_eq_true rfl) ?_
  intro p e s m below meth c ls hx hb hr hml hown hlocks hnm hsz hV hP hD hS hA hA0 hl
  have hg := fx_g F hV ([.ref a4, .int (nI (cap + 1))] : List Value).toArray
  have hK := fx_k F hV
  have hn9 := fx_n F hV
  have hl : lv_has ls 4 [(0, .ref a4), (1, .int (nI (cap + 1)))] := hl
  refine lv_aload_n hx hb d_AL_grow2_0 rfl (lv_at hl 0 rfl) ?_
  refine va_get (D := D) (ci := iAL) (v := .ref ea) (C := R_AL) (T := F_AL) (N := 3) hx hb (fl_AL hg) (fun _ h9 => h9) hown hK hP q (he) rfl 1 (by decide) (hg _ k_73) (fun _ h9 => h9) rfl d_AL_grow2_1 ?_
  refine va_alen hx hb hK hP ep 4 (ha) rfl (v := nI cap) rfl d_AL_grow2_4 ?_
  refine lv_istore_n (lv' := [(2, .int (nI cap)), (0, .ref a4), (1, .int (nI (cap + 1)))]) hx hb d_AL_grow2_5 rfl hl (by decide) rfl (fun ls hl => ?_)
  refine lv_iload_n hx hb d_AL_grow2_6 rfl (lv_at hl 0 rfl) ?_
  refine lv_if_gt (tgt := 20) hx hb d_AL_grow2_7 (by decide) (fun c_7 => ?_) (fun c_7 => absurd ((nI_ltI (a := 0) (by omega) (by omega)).mpr (by omega)) c_7)
  refine lv_iload_n hx hb d_AL_grow2_20 rfl (lv_at hl 0 rfl) ?_
  refine lv_iload_n hx hb d_AL_grow2_21 rfl (lv_at hl 2 rfl) ?_
  refine lv_iload_n hx hb d_AL_grow2_22 rfl (lv_at hl 0 rfl) ?_
  refine lv_isub hx hb d_AL_grow2_23 ?_
  rw [cb_s1 cap (by omega)]
  refine lv_iload_n hx hb d_AL_grow2_24 rfl (lv_at hl 0 rfl) ?_
  refine lv_iconst (v := 1) hx hb d_AL_grow2_25 (by decide) ?_
  refine lv_ishr hx hb d_AL_grow2_26 ?_
  rw [cb_shr cap (by omega)]
  refine gx_readi (va_runS (As := [.int (nI cap), .int (nI 1), .int (nI (cap / 2))]) (rest := []) ⟨hx, hb, hml, hown, gx_nil⟩ (c_AS_newLength F _ _ cap hc0 hc1) ⟨gx_cb (hg _ k_410) (hg _ k_16) (hg _ k_408) nd_AS_newLength ⟨by decide, by decide⟩, hg _ k_409⟩ (gx_preS hV hP hD hS hA0) rfl rfl hl.1 rfl (lv_room (Nat.le_of_ble_eq_true rfl)) d_AL_grow2_27 ⟨by decide, by decide⟩) (fun r_27 h_27 => ?_)
  subst h_27
  refine lv_istore_n (lv' := [(3, .int (nI (cap + cap / 2))), (2, .int (nI cap)), (0, .ref a4), (1, .int (nI (cap + 1)))]) hx hb d_AL_grow2_30 rfl hl (by decide) rfl (fun ls hl => ?_)
  refine lv_aload_n hx hb d_AL_grow2_31 rfl (lv_at hl 2 rfl) ?_
  refine lv_aload_n hx hb d_AL_grow2_32 rfl (lv_at hl 2 rfl) ?_
  refine va_get (D := D) (ci := iAL) (v := .ref ea) (C := R_AL) (T := F_AL) (N := 3) hx hb (fl_AL hg) (fun _ h9 => h9) hown hK hP q (he) rfl 1 (by decide) (hg _ k_73) (fun _ h9 => h9) rfl d_AL_grow2_33 ?_
  refine lv_iload_n hx hb d_AL_grow2_36 rfl (lv_at hl 0 rfl) ?_
  refine gx_callr (va_runS (As := [.ref ea, .int (nI (cap + cap / 2))]) (rest := [.ref a4]) ⟨hx, hb, hml, hown, gx_nil⟩ (c_AR_copyOf F ha _ (cap + cap / 2) (by omega) (by omega) hel) ⟨gx_cb (hg _ k_418) (hg _ k_6) (hg _ k_416) nd_AR_copyOf ⟨by decide, by decide⟩, hg _ k_417⟩ (gx_preS hV hP hD hS hA0) rfl rfl hl.1 rfl (lv_room (Nat.le_of_ble_eq_true rfl)) d_AL_grow2_37 ⟨by decide, by decide⟩) hD hS hA (fun r_37 w1 H locs h_37 hP hD hS => ?_)
  have h37 : w1 = ws ++ [(r_37, .inl (cO, cap + cap / 2, .inr (.inr (.inr (.inr (va_cpy ef (fun _ => none) 0 0 cap))))))] := h_37
  rw [h37] at hP hD
  refine lv_dup_x1 hx hb d_AL_grow2_40 rfl rfl ?_
  refine va_put (D := D) (ci := iAL) (v := .ref r_37) (ty := .array (.object "java/lang/Object")) (C := R_AL) (T := F_AL) (N := 3) hx hb (fl_AL hg) (fun _ h9 => h9) t_AL t_AL_ok n_AL hown hK hP hD hS q (gx_ap he) rfl 1 (by decide) (hg _ k_73) (fun _ h9 => h9) rfl (by decide +kernel) rfl rfl (Nat.le_of_ble_eq_true rfl) d_AL_grow2_41 (fun H locs hP hD hS => ?_)
  obtain ⟨w_1, ew_1⟩ : ∃ x : va_W, x = (ws ++ ([(r_37, .inl (cO, cap + cap / 2, .inr (.inr (.inr (.inr (va_cpy ef (fun _ => none) 0 0 cap))))))] : va_W)).set q (a4, .inr (iAL, [.int md, .ref r_37, .int (nI cap)])) := ⟨_, rfl⟩
  replace hP : va_P D classes w_1 H := by rw [ew_1]; exact hP
  replace hD : va_D (va_A ws sz) w_1 := by rw [ew_1]; exact hD
  have hew_1 : w_1[q]? = some (a4, .inr (iAL, [.int md, .ref r_37, .int (nI cap)])) := by rw [ew_1]; exact gx_ss (gx_ap he)
  exact gx_aret hx hb hr (Or.inr ⟨_, rfl⟩) hlocks hS hP hD (by decide) (by decide) d_AL_grow2_44 (⟨_, _, by omega, by omega, by omega, fun j hj => (pk_cpy_in (Nat.zero_le j) (by omega)).trans (by rw [Nat.zero_add, Nat.sub_zero]), fun j hj => pk_cpy_out (Or.inr (by omega)), ew_1⟩)

set_option maxRecDepth 100000 in
set_option maxHeartbeats 4000000 in
theorem c_AL_grow2B {l : Launch} {s0 : State} {D : va_G} {cI cC cJ cII cO cZ : ClassId} (F : FX l s0 D cI cC cJ cII cO cZ) {ws : va_W} {q a4 : Nat} {md : Int32} {ef : Nat → Option Nat} (he : ws[q]? = some (a4, .inr (iAL, [.int md, .ref (fx_e0 F), .int (nI 0)]))) (sz : Nat)   : Met l y_AL_grow2 [.code y_AL_grow2 b_AL_grow2 4 (some (.array (.object "java/lang/Object")))] { frames := 4, cells := 1, slots := 400, locals := 130 } (gx_P s0 D classes ws sz [.ref a4, .int (nI (0 + 1))]) (va_Qr (fun u => cb_grown cO ws q a4 md 0 ef u) (gx_Bq D classes ws sz) (va_A ws sz)) 1 400 (va_A ws sz) := by
  refine gx_met (by decide +kernel) (Nat.le_of_ble_eq_true rfl) ?_
  intro p e s m below meth c ls hx hb hr hml hown hlocks hnm hsz hV hP hD hS hA hA0 hl
  have hg := fx_g F hV ([.ref a4, .int (nI (0 + 1))] : List Value).toArray
  have hK := fx_k F hV
  have hn9 := fx_n F hV
  have hl : lv_has ls 4 [(0, .ref a4), (1, .int (nI (0 + 1)))] := hl
  refine lv_aload_n hx hb d_AL_grow2_0 rfl (lv_at hl 0 rfl) ?_
  refine va_get (D := D) (ci := iAL) (v := .ref (fx_e0 F)) (C := R_AL) (T := F_AL) (N := 3) hx hb (fl_AL hg) (fun _ h9 => h9) hown hK hP q (he) rfl 1 (by decide) (hg _ k_73) (fun _ h9 => h9) rfl d_AL_grow2_1 ?_
  refine va_tlen hx hb (fx_et F hV hA0) hS (v := 0) rfl d_AL_grow2_4 ?_
  refine lv_istore_n (lv' := [(2, .int 0), (0, .ref a4), (1, .int (nI (0 + 1)))]) hx hb d_AL_grow2_5 rfl hl (by decide) rfl (fun ls hl => ?_)
  refine lv_iload_n hx hb d_AL_grow2_6 rfl (lv_at hl 0 rfl) ?_
  refine lv_if_gt (tgt := 20) hx hb d_AL_grow2_7 (by decide) (fun c_7 => absurd c_7 (by decide)) (fun c_7 => ?_)
  refine lv_aload_n hx hb d_AL_grow2_10 rfl (lv_at hl 1 rfl) ?_
  refine va_get (D := D) (ci := iAL) (v := .ref (fx_e0 F)) (C := R_AL) (T := F_AL) (N := 3) hx hb (fl_AL hg) (fun _ h9 => h9) hown hK hP q (he) rfl 1 (by decide) (hg _ k_73) (fun _ h9 => h9) rfl d_AL_grow2_11 ?_
  refine va_gets hx hb (fx_ez F hV hA0) hS hown (hg _ k_71) (fun _ h9 => h9) d_AL_grow2_14 ?_
  refine lv_acmp_eq (rx := some (fx_e0 F)) (ry := some (fx_e0 F)) (tgt := 45) hx hb d_AL_grow2_17 (by decide) (fun _ => ?_) (fun c => absurd rfl c)
  refine lv_aload_n hx hb d_AL_grow2_45 rfl (lv_at hl 1 rfl) ?_
  refine lv_bipush (v := 10) hx hb d_AL_grow2_46 (by decide) ?_
  refine lv_iload_n hx hb d_AL_grow2_48 rfl (lv_at hl 2 rfl) ?_
  refine va_mmax hx hb (by rw [hml]; exact hl.1.symm) hown (hg _ k_442) (hg _ k_340) (hg _ k_14) (hg _ k_341) (by decide) (Nat.le_of_ble_eq_true rfl) (by decide) (by decide) d_AL_grow2_49 ?_
  rw [show (if (10 : Int32) < nI (0 + 1) then nI (0 + 1) else 10) = nI 10 by decide]
  refine va_newq hx hb hown (hg _ k_443) (fx_ao F hV) hK hP hD hS hA (N' := 10) (by decide) (by decide) (by decide) (by decide) (by decide) d_AL_grow2_52 (fun qn cA H hK9 hP hD hS => ?_)
  have eA := gx_sameO hK9
  rw [eA] at hP hD
  refine lv_dup_x1 hx hb d_AL_grow2_55 rfl rfl ?_
  refine va_put (D := D) (ci := iAL) (v := .ref qn) (ty := .array (.object "java/lang/Object")) (C := R_AL) (T := F_AL) (N := 3) hx hb (fl_AL hg) (fun _ h9 => h9) t_AL t_AL_ok n_AL hown hK hP hD hS q (gx_ap he) rfl 1 (by decide) (hg _ k_73) (fun _ h9 => h9) rfl (by decide +kernel) rfl rfl (Nat.le_of_ble_eq_true rfl) d_AL_grow2_56 (fun H locs hP hD hS => ?_)
  obtain ⟨w_1, ew_1⟩ : ∃ x : va_W, x = (ws ++ ([(qn, .inl (cO, 10, .inr (.inr (.inr (.inr (fun _ => none))))))] : va_W)).set q (a4, .inr (iAL, [.int md, .ref qn, .int (nI 0)])) := ⟨_, rfl⟩
  replace hP : va_P D classes w_1 H := by rw [ew_1]; exact hP
  replace hD : va_D (va_A ws sz) w_1 := by rw [ew_1]; exact hD
  have hew_1 : w_1[q]? = some (a4, .inr (iAL, [.int md, .ref qn, .int (nI 0)])) := by rw [ew_1]; exact gx_ss (gx_ap he)
  exact gx_aret hx hb hr (Or.inr ⟨_, rfl⟩) hlocks hS hP hD (by decide) (by decide) d_AL_grow2_59 (⟨_, _, by decide, by decide, by decide, fun j hj => absurd hj (Nat.not_lt_zero j), fun j hj => rfl, ew_1⟩)

theorem c_AL_grow2 {l : Launch} {s0 : State} {D : va_G} {cI cC cJ cII cO cZ : ClassId} (F : FX l s0 D cI cC cJ cII cO cZ) {ws : va_W} {q a4 ea : Nat} {md : Int32} {n : Nat} {ef : Nat → Option Nat} (he : ws[q]? = some (a4, .inr (iAL, [.int md, .ref ea, .int (nI n)]))) (sz : Nat) (hc : ((n = 0 ∧ ea = fx_e0 F) ∨ (∃ (ep : Nat), ws[ep]? = some (ea, .inl (cO, n, .inr (.inr (.inr (.inr ef))))) ∧ 10 ≤ n ∧ n ≤ 200 ∧ ∀ i, i < n → ∀ y, ef i = some y → ∃ (k : Nat) (vs : List Value), ws[k]? = some (y, .inr (iLN, vs))))) : Met l y_AL_grow2 [.code y_AL_grow2 b_AL_grow2 4 (some (.array (.object "java/lang/Object")))] { frames := 4, cells := 1, slots := 400, locals := 130 } (gx_P s0 D classes ws sz [.ref a4, .int (nI (n + 1))]) (va_Qr (fun u => cb_grown cO ws q a4 md n ef u) (gx_Bq D classes ws sz) (va_A ws sz)) 1 400 (va_A ws sz) := by
  rcases hc with ⟨h1, h2⟩ | ⟨ep, h1, h2, h3, h4⟩
  · rw [h1] at he ⊢
    rw [h2] at he
    exact c_AL_grow2B F he sz
  · exact c_AL_grow2A F he h1 sz h2 h3 h4

set_option maxRecDepth 100000 in
set_option maxHeartbeats 4000000 in
theorem c_AL_grow {l : Launch} {s0 : State} {D : va_G} {cI cC cJ cII cO cZ : ClassId} (F : FX l s0 D cI cC cJ cII cO cZ) {ws : va_W} {q a4 ea : Nat} {md : Int32} {n : Nat} {ef : Nat → Option Nat} (he : ws[q]? = some (a4, .inr (iAL, [.int md, .ref ea, .int (nI n)]))) (sz : Nat) (hc : ((n = 0 ∧ ea = fx_e0 F) ∨ (∃ (ep : Nat), ws[ep]? = some (ea, .inl (cO, n, .inr (.inr (.inr (.inr ef))))) ∧ 10 ≤ n ∧ n ≤ 200 ∧ ∀ i, i < n → ∀ y, ef i = some y → ∃ (k : Nat) (vs : List Value), ws[k]? = some (y, .inr (iLN, vs)))))  : Met l y_AL_grow [.code y_AL_grow b_AL_grow 1 (some (.array (.object "java/lang/Object")))] { frames := 5, cells := 1, slots := 400, locals := 160 } (gx_P s0 D classes ws sz [.ref a4]) (va_Qr (fun u => cb_grown cO ws q a4 md n ef u) (gx_Bq D classes ws sz) (va_A ws sz)) 1 400 (va_A ws sz) := by
  refine gx_met (by decide +kernel) (Nat.le_of_ble_eq_true rfl) ?_
  intro p e s m below meth c ls hx hb hr hml hown hlocks hnm hsz hV hP hD hS hA hA0 hl
  have hg := fx_g F hV ([.ref a4] : List Value).toArray
  have hK := fx_k F hV
  have hn9 := fx_n F hV
  have hl : lv_has ls 1 [(0, .ref a4)] := hl
  refine lv_aload_n hx hb d_AL_grow_0 rfl (lv_at hl 0 rfl) ?_
  refine lv_aload_n hx hb d_AL_grow_1 rfl (lv_at hl 0 rfl) ?_
  refine va_get (D := D) (ci := iAL) (v := .int (nI n)) (C := R_AL) (T := F_AL) (N := 3) hx hb (fl_AL hg) (fun _ h9 => h9) hown hK hP q (he) rfl 2 (by decide) (hg _ k_74) (fun _ h9 => h9) rfl d_AL_grow_2 ?_
  refine lv_iconst (v := 1) hx hb d_AL_grow_5 (by decide) ?_
  refine lv_iadd hx hb d_AL_grow_6 ?_
  rw [nI_1]
  refine gx_callr (va_runV (As := [.int (nI (n + 1))]) (rest := []) ⟨hx, hb, hml, hown, gx_nil⟩ (c_AL_grow2 F he _ hc) ⟨gx_cb (hg _ k_407) (hg _ k_5) (hg _ k_404) nd_AL_grow2 ⟨by decide, by decide⟩, hg _ k_406, hg _ ks_16⟩ (gx_preV hV hP hD hS hA0 (va_recv hK hP rfl (he))) rfl rfl hl.1 rfl (lv_room (Nat.le_of_ble_eq_true rfl)) d_AL_grow_7 ⟨by decide, by decide⟩) hD hS hA (fun r_7 w1 H locs h_7 hP hD hS => ?_)
  exact gx_aret hx hb hr (Or.inr ⟨_, rfl⟩) hlocks hS hP hD (by decide) (by decide) d_AL_grow_10 (h_7)

set_option maxRecDepth 100000 in
set_option maxHeartbeats 4000000 in
theorem c_AL_add2N {l : Launch} {s0 : State} {D : va_G} {cI cC cJ cII cO cZ : ClassId} (F : FX l s0 D cI cC cJ cII cO cZ) {ws : va_W} {q a4 ea : Nat} {md : Int32} {n : Nat} {ef : Nat → Option Nat} (he : ws[q]? = some (a4, .inr (iAL, [.int md, .ref ea, .int (nI n)]))) {ep cap : Nat} (ha : ws[ep]? = some (ea, .inl (cO, cap, .inr (.inr (.inr (.inr ef)))))) {pk v : Nat} {vs : List Value} (hv : ws[pk]? = some (v, .inr (iLN, vs))) (hpq : pk ≠ q) (sz : Nat) (hn : n < cap) (hc0 : 10 ≤ cap) (hc1 : cap ≤ 400)  : Met l y_AL_add2 [.code y_AL_add2 b_AL_add2 4 none] { frames := 6, cells := 1, slots := 400, locals := 190 } (gx_P s0 D classes ws sz [.ref a4, .ref v, .ref ea, .int (nI n)]) (va_Qv (fun w1 => cb_added cO ws w1 q a4 md n ef v ep cap) (gx_B D classes ws sz) (va_A ws sz)) 1 400 (va_A ws sz) := by
  refine gx_met (by decide +kernel) (Nat.le_of_ble_eq_true rfl) ?_
  intro p e s m below meth c ls hx hb hr hml hown hlocks hnm hsz hV hP hD hS hA hA0 hl
  have hg := fx_g F hV ([.ref a4, .ref v, .ref ea, .int (nI n)] : List Value).toArray
  have hK := fx_k F hV
  have hn9 := fx_n F hV
  have hne : ep ≠ q := fun z => by
    rw [z, he] at ha
    cases ha
  have hl : lv_has ls 4 [(0, .ref a4), (1, .ref v), (2, .ref ea), (3, .int (nI n))] := hl
  refine lv_iload_n hx hb d_AL_add2_0 rfl (lv_at hl 3 rfl) ?_
  refine lv_aload_n hx hb d_AL_add2_1 rfl (lv_at hl 2 rfl) ?_
  refine va_alen hx hb hK hP ep 4 (ha) rfl (v := nI cap) rfl d_AL_add2_2 ?_
  refine lv_icmp_ne (tgt := 11) hx hb d_AL_add2_3 (by decide) (fun c_3 => ?_) (fun c_3 => absurd (gx_eqn c_3) (by omega))
  refine lv_aload_n hx hb d_AL_add2_11 rfl (lv_at hl 2 rfl) ?_
  refine lv_iload_n hx hb d_AL_add2_12 rfl (lv_at hl 3 rfl) ?_
  refine lv_aload_n hx hb d_AL_add2_13 rfl (lv_at hl 1 rfl) ?_
  refine va_astqO hx hb hK hP hD hS (r := (R_LN, F_LN, 9)) ep 4 pk iLN (ha) rfl (fx_lo F hV) (hv) rfl (vp_in_nI (by omega) (by omega)) d_AL_add2_14 (fun H locs hP hD hS => ?_)
  rw [nI_clamp (by omega)] at hP hD
  refine lv_aload_n hx hb d_AL_add2_15 rfl (lv_at hl 0 rfl) ?_
  refine lv_iload_n hx hb d_AL_add2_16 rfl (lv_at hl 3 rfl) ?_
  refine lv_iconst (v := 1) hx hb d_AL_add2_17 (by decide) ?_
  refine lv_iadd hx hb d_AL_add2_18 ?_
  rw [nI_1]
  refine va_put (D := D) (ci := iAL) (v := .int (nI (n + 1))) (ty := .int) (C := R_AL) (T := F_AL) (N := 3) hx hb (fl_AL hg) (fun _ h9 => h9) t_AL t_AL_ok n_AL hown hK hP hD hS q (gx_sn hne he) rfl 2 (by decide) (hg _ k_74) (fun _ h9 => h9) rfl (by decide +kernel) rfl rfl (Nat.le_of_ble_eq_true rfl) d_AL_add2_19 (fun H locs hP hD hS => ?_)
  obtain ⟨w_1, ew_1⟩ : ∃ x : va_W, x = (ws.set ep (ea, .inl (cO, cap, .inr (.inr (.inr (.inr (va_up ef n (some v)))))))).set q (a4, .inr (iAL, [.int md, .ref ea, .int (nI (n + 1))])) := ⟨_, rfl⟩
  replace hP : va_P D classes w_1 H := by rw [ew_1]; exact hP
  replace hD : va_D (va_A ws sz) w_1 := by rw [ew_1]; exact hD
  have hew_1 : w_1[q]? = some (a4, .inr (iAL, [.int md, .ref ea, .int (nI (n + 1))])) := by rw [ew_1]; exact gx_ss (gx_sn hne he)
  exact gx_vret hx hb hr hlocks hS hP hD (by decide) (by decide) d_AL_add2_22 (⟨ea, ep, cap, va_up ef n (some v), hew_1, by rw [ew_1]; exact gx_sn (Ne.symm hne) (gx_ss ha), Or.inl rfl, hn, hc0, hc1, fun j hj => if_neg (by omega), if_pos rfl, fun j hj hj2 => Or.inl ⟨if_neg hj, hj2⟩, fun k h1 h2 _ => by rw [ew_1, List.getElem?_set_ne (Ne.symm h1), List.getElem?_set_ne (Ne.symm h2)]⟩)

set_option maxRecDepth 100000 in
set_option maxHeartbeats 4000000 in
theorem c_AL_add2G {l : Launch} {s0 : State} {D : va_G} {cI cC cJ cII cO cZ : ClassId} (F : FX l s0 D cI cC cJ cII cO cZ) {ws : va_W} {q a4 ea : Nat} {md : Int32} {n : Nat} {ef : Nat → Option Nat} (he : ws[q]? = some (a4, .inr (iAL, [.int md, .ref ea, .int (nI n)]))) {pk v : Nat} {vs : List Value} (hv : ws[pk]? = some (v, .inr (iLN, vs))) (hpq : pk ≠ q) (sz : Nat) (hc : ((n = 0 ∧ ea = fx_e0 F) ∨ (∃ (ep : Nat), ws[ep]? = some (ea, .inl (cO, n, .inr (.inr (.inr (.inr ef))))) ∧ 10 ≤ n ∧ n ≤ 200 ∧ ∀ i, i < n → ∀ y, ef i = some y → ∃ (k : Nat) (vs : List Value), ws[k]? = some (y, .inr (iLN, vs)))))  : Met l y_AL_add2 [.code y_AL_add2 b_AL_add2 4 none] { frames := 6, cells := 1, slots := 400, locals := 190 } (gx_P s0 D classes ws sz [.ref a4, .ref v, .ref ea, .int (nI n)]) (va_Qv (fun w1 => cb_added cO ws w1 q a4 md n ef v ws.length n) (gx_B D classes ws sz) (va_A ws sz)) 1 400 (va_A ws sz) := by
  refine gx_met (by decide +kernel) (Nat.le_of_ble_eq_true rfl) ?_
  intro p e s m below meth c ls hx hb hr hml hown hlocks hnm hsz hV hP hD hS hA hA0 hl
  have hg := fx_g F hV ([.ref a4, .ref v, .ref ea, .int (nI n)] : List Value).toArray
  have hK := fx_k F hV
  have hn9 := fx_n F hV
  have hl : lv_has ls 4 [(0, .ref a4), (1, .ref v), (2, .ref ea), (3, .int (nI n))] := hl
  refine lv_iload_n hx hb d_AL_add2_0 rfl (lv_at hl 3 rfl) ?_
  refine lv_aload_n hx hb d_AL_add2_1 rfl (lv_at hl 2 rfl) ?_
  rcases hc with ⟨hn0, hea⟩ | ⟨ep, ha, hc0, hc1, hel⟩
  · skip
    have hc : ((n = 0 ∧ ea = fx_e0 F) ∨ (∃ (ep : Nat), ws[ep]? = some (ea, .inl (cO, n, .inr (.inr (.inr (.inr ef))))) ∧ 10 ≤ n ∧ n ≤ 200 ∧ ∀ i, i < n → ∀ y, ef i = some y → ∃ (k : Nat) (vs : List Value), ws[k]? = some (y, .inr (iLN, vs)))) := Or.inl ⟨hn0, hea⟩
    have hlen : n ≤ 200 := by omega
    refine va_tlen hx hb (by rw [hea]; exact fx_et F hV hA0) hS (v := nI n) (by rw [hn0]; rfl) d_AL_add2_2 ?_
    refine lv_icmp_ne (tgt := 11) hx hb d_AL_add2_3 (by decide) (fun c_3 => absurd rfl c_3) (fun c_3 => ?_)
    refine lv_aload_n hx hb d_AL_add2_6 rfl (lv_at hl 0 rfl) ?_
    refine gx_callr (va_runV (As := []) (rest := []) ⟨hx, hb, hml, hown, gx_nil⟩ (c_AL_grow F he _ hc) ⟨gx_cb (hg _ k_403) (hg _ k_5) (hg _ k_400) nd_AL_grow ⟨by decide, by decide⟩, hg _ k_402, hg _ ks_15⟩ (gx_preV hV hP hD hS hA0 (va_recv hK hP rfl (he))) rfl rfl hl.1 rfl (lv_room (Nat.le_of_ble_eq_true rfl)) d_AL_add2_7 ⟨by decide, by decide⟩) hD hS hA (fun r_7 w1 H locs h_7 hP hD hS => ?_)
    obtain ⟨cap', ef', g1, g2, g3, g4, g5, hw⟩ := h_7
    have hw : w1 = (ws ++ ([(r_7, .inl (cO, cap', .inr (.inr (.inr (.inr (ef'))))))] : va_W)).set q (a4, .inr (iAL, [.int md, .ref r_7, .int (nI n)])) := hw
    have hql : q < ws.length := (List.getElem?_eq_some_iff.mp he).1
    have ha2 : w1[ws.length]? = some (r_7, .inl (cO, cap', .inr (.inr (.inr (.inr (ef')))))) := by rw [hw]; exact gx_sn (by omega) (gx_lat _ _)
    have hv2 : w1[pk]? = some (v, .inr (iLN, vs)) := by rw [hw]; exact gx_sn (Ne.symm hpq) (gx_ap hv)
    have he2 : w1[q]? = some (a4, .inr (iAL, [.int md, .ref r_7, .int (nI n)])) := by rw [hw]; exact gx_ss (gx_ap he)
    refine lv_astore_n (lv' := [(2, .ref r_7), (0, .ref a4), (1, .ref v), (3, .int (nI n))]) hx hb d_AL_add2_10 rfl hl (by decide) rfl (fun ls hl => ?_)
    refine lv_aload_n hx hb d_AL_add2_11 rfl (lv_at hl 0 rfl) ?_
    refine lv_iload_n hx hb d_AL_add2_12 rfl (lv_at hl 3 rfl) ?_
    refine lv_aload_n hx hb d_AL_add2_13 rfl (lv_at hl 2 rfl) ?_
    refine va_astqO hx hb hK hP hD hS (r := (R_LN, F_LN, 9)) ws.length 4 pk iLN (ha2) rfl (fx_lo F hV) (hv2) rfl (vp_in_nI (by omega) (by omega)) d_AL_add2_14 (fun H locs hP hD hS => ?_)
    rw [nI_clamp (by omega)] at hP hD
    refine lv_aload_n hx hb d_AL_add2_15 rfl (lv_at hl 1 rfl) ?_
    refine lv_iload_n hx hb d_AL_add2_16 rfl (lv_at hl 3 rfl) ?_
    refine lv_iconst (v := 1) hx hb d_AL_add2_17 (by decide) ?_
    refine lv_iadd hx hb d_AL_add2_18 ?_
    rw [nI_1]
    refine va_put (D := D) (ci := iAL) (v := .int (nI (n + 1))) (ty := .int) (C := R_AL) (T := F_AL) (N := 3) hx hb (fl_AL hg) (fun _ h9 => h9) t_AL t_AL_ok n_AL hown hK hP hD hS q (gx_sn (by omega) he2) rfl 2 (by decide) (hg _ k_74) (fun _ h9 => h9) rfl (by decide +kernel) rfl rfl (Nat.le_of_ble_eq_true rfl) d_AL_add2_19 (fun H locs hP hD hS => ?_)
    obtain ⟨w_1, ew_1⟩ : ∃ x : va_W, x = (w1.set ws.length (r_7, .inl (cO, cap', .inr (.inr (.inr (.inr (va_up ef' n (some v)))))))).set q (a4, .inr (iAL, [.int md, .ref r_7, .int (nI (n + 1))])) := ⟨_, rfl⟩
    replace hP : va_P D classes w_1 H := by rw [ew_1]; exact hP
    replace hD : va_D (va_A ws sz) w_1 := by rw [ew_1]; exact hD
    have hew_1 : w_1[q]? = some (a4, .inr (iAL, [.int md, .ref r_7, .int (nI (n + 1))])) := by rw [ew_1]; exact gx_ss (gx_sn (by omega) he2)
    have hj9 : ∀ j, j ≠ n → j < cap' → (va_up ef' n (some v) j = ef j ∧ j < n) ∨ va_up ef' n (some v) j = none := by
      intro j hj _
      rcases Nat.lt_or_ge j n with z | z
      · exact Or.inl ⟨(if_neg hj).trans (g4 j z), z⟩
      · exact Or.inr ((if_neg hj).trans (g5 j z))
    exact gx_vret hx hb hr hlocks hS hP hD (by decide) (by decide) d_AL_add2_22 (⟨r_7, ws.length, cap', va_up ef' n (some v), hew_1, by rw [ew_1]; exact gx_sn (by omega) (gx_ss ha2), Or.inr rfl, g1, g2, g3, fun j hj => (if_neg (by omega)).trans (g4 j hj), if_pos rfl, hj9, fun k h1 h2 h3 => by rw [ew_1, List.getElem?_set_ne (Ne.symm h1), List.getElem?_set_ne (Ne.symm h2), hw, List.getElem?_set_ne (Ne.symm h1), List.getElem?_append_left h3]⟩)
  · skip
    have hc : ((n = 0 ∧ ea = fx_e0 F) ∨ (∃ (ep : Nat), ws[ep]? = some (ea, .inl (cO, n, .inr (.inr (.inr (.inr ef))))) ∧ 10 ≤ n ∧ n ≤ 200 ∧ ∀ i, i < n → ∀ y, ef i = some y → ∃ (k : Nat) (vs : List Value), ws[k]? = some (y, .inr (iLN, vs)))) := Or.inr ⟨ep, ha, hc0, hc1, hel⟩
    have hlen : n ≤ 200 := hc1
    refine va_alen hx hb hK hP ep 4 ha rfl (v := nI n) rfl d_AL_add2_2 ?_
    refine lv_icmp_ne (tgt := 11) hx hb d_AL_add2_3 (by decide) (fun c_3 => absurd rfl c_3) (fun c_3 => ?_)
    refine lv_aload_n hx hb d_AL_add2_6 rfl (lv_at hl 0 rfl) ?_
    refine gx_callr (va_runV (As := []) (rest := []) ⟨hx, hb, hml, hown, gx_nil⟩ (c_AL_grow F he _ hc) ⟨gx_cb (hg _ k_403) (hg _ k_5) (hg _ k_400) nd_AL_grow ⟨by decide, by decide⟩, hg _ k_402, hg _ ks_15⟩ (gx_preV hV hP hD hS hA0 (va_recv hK hP rfl (he))) rfl rfl hl.1 rfl (lv_room (Nat.le_of_ble_eq_true rfl)) d_AL_add2_7 ⟨by decide, by decide⟩) hD hS hA (fun r_7 w1 H locs h_7 hP hD hS => ?_)
    obtain ⟨cap', ef', g1, g2, g3, g4, g5, hw⟩ := h_7
    have hw : w1 = (ws ++ ([(r_7, .inl (cO, cap', .inr (.inr (.inr (.inr (ef'))))))] : va_W)).set q (a4, .inr (iAL, [.int md, .ref r_7, .int (nI n)])) := hw
    have hql : q < ws.length := (List.getElem?_eq_some_iff.mp he).1
    have ha2 : w1[ws.length]? = some (r_7, .inl (cO, cap', .inr (.inr (.inr (.inr (ef')))))) := by rw [hw]; exact gx_sn (by omega) (gx_lat _ _)
    have hv2 : w1[pk]? = some (v, .inr (iLN, vs)) := by rw [hw]; exact gx_sn (Ne.symm hpq) (gx_ap hv)
    have he2 : w1[q]? = some (a4, .inr (iAL, [.int md, .ref r_7, .int (nI n)])) := by rw [hw]; exact gx_ss (gx_ap he)
    refine lv_astore_n (lv' := [(2, .ref r_7), (0, .ref a4), (1, .ref v), (3, .int (nI n))]) hx hb d_AL_add2_10 rfl hl (by decide) rfl (fun ls hl => ?_)
    refine lv_aload_n hx hb d_AL_add2_11 rfl (lv_at hl 0 rfl) ?_
    refine lv_iload_n hx hb d_AL_add2_12 rfl (lv_at hl 3 rfl) ?_
    refine lv_aload_n hx hb d_AL_add2_13 rfl (lv_at hl 2 rfl) ?_
    refine va_astqO hx hb hK hP hD hS (r := (R_LN, F_LN, 9)) ws.length 4 pk iLN (ha2) rfl (fx_lo F hV) (hv2) rfl (vp_in_nI (by omega) (by omega)) d_AL_add2_14 (fun H locs hP hD hS => ?_)
    rw [nI_clamp (by omega)] at hP hD
    refine lv_aload_n hx hb d_AL_add2_15 rfl (lv_at hl 1 rfl) ?_
    refine lv_iload_n hx hb d_AL_add2_16 rfl (lv_at hl 3 rfl) ?_
    refine lv_iconst (v := 1) hx hb d_AL_add2_17 (by decide) ?_
    refine lv_iadd hx hb d_AL_add2_18 ?_
    rw [nI_1]
    refine va_put (D := D) (ci := iAL) (v := .int (nI (n + 1))) (ty := .int) (C := R_AL) (T := F_AL) (N := 3) hx hb (fl_AL hg) (fun _ h9 => h9) t_AL t_AL_ok n_AL hown hK hP hD hS q (gx_sn (by omega) he2) rfl 2 (by decide) (hg _ k_74) (fun _ h9 => h9) rfl (by decide +kernel) rfl rfl (Nat.le_of_ble_eq_true rfl) d_AL_add2_19 (fun H locs hP hD hS => ?_)
    obtain ⟨w_2, ew_2⟩ : ∃ x : va_W, x = (w1.set ws.length (r_7, .inl (cO, cap', .inr (.inr (.inr (.inr (va_up ef' n (some v)))))))).set q (a4, .inr (iAL, [.int md, .ref r_7, .int (nI (n + 1))])) := ⟨_, rfl⟩
    replace hP : va_P D classes w_2 H := by rw [ew_2]; exact hP
    replace hD : va_D (va_A ws sz) w_2 := by rw [ew_2]; exact hD
    have hew_2 : w_2[q]? = some (a4, .inr (iAL, [.int md, .ref r_7, .int (nI (n + 1))])) := by rw [ew_2]; exact gx_ss (gx_sn (by omega) he2)
    have hj9 : ∀ j, j ≠ n → j < cap' → (va_up ef' n (some v) j = ef j ∧ j < n) ∨ va_up ef' n (some v) j = none := by
      intro j hj _
      rcases Nat.lt_or_ge j n with z | z
      · exact Or.inl ⟨(if_neg hj).trans (g4 j z), z⟩
      · exact Or.inr ((if_neg hj).trans (g5 j z))
    exact gx_vret hx hb hr hlocks hS hP hD (by decide) (by decide) d_AL_add2_22 (⟨r_7, ws.length, cap', va_up ef' n (some v), hew_2, by rw [ew_2]; exact gx_sn (by omega) (gx_ss ha2), Or.inr rfl, g1, g2, g3, fun j hj => (if_neg (by omega)).trans (g4 j hj), if_pos rfl, hj9, fun k h1 h2 h3 => by rw [ew_2, List.getElem?_set_ne (Ne.symm h1), List.getElem?_set_ne (Ne.symm h2), hw, List.getElem?_set_ne (Ne.symm h1), List.getElem?_append_left h3]⟩)
end
section
/-! CONTRACTS, weaker -/
theorem gx_post {l : Launch} {y : MethodName} {ts : List Cond} {rm : Room} {Pc : Array Value → State → Prop} {Qc Qc' : Array Value → State → Outcome → State → Prop} {mc ms : Nat} {free : Addr → Prop} (h : Met l y ts rm Pc Qc mc ms free) (hQ : ∀ a s o t, Qc a s o t → Qc' a s o t) : Met l y ts rm Pc Qc' mc ms free := by
  intro p e ha hc hk s m args below hf happ hp hk'
  obtain ⟨n, o, h1, h2, h3, h4, h5⟩ := h p e ha hc hk s m args below hf happ hp hk'
  exact ⟨n, o, h1, h2, h3, hQ _ _ _ _ h4, h5⟩
theorem gx_posti {l : Launch} {y : MethodName} {ts : List Cond} {rm : Room} {Pc : Array Value → State → Prop} {post post' : Int32 → va_W → Prop} {B : va_W → State → Prop} {A : Nat → Prop} {mc ms : Nat} {free : Addr → Prop} (h : Met l y ts rm Pc (va_Qi post B A) mc ms free) (hQ : ∀ r w, post r w → post' r w) : Met l y ts rm Pc (va_Qi post' B A) mc ms free :=
  gx_post h (fun a s o t q => by
    obtain ⟨⟨v, u, h1, h2, h3⟩, h4⟩ := q
    exact ⟨⟨v, u, h1, hQ v u h2, h3⟩, h4⟩)
/-- the places with a fixed number are as they were: so is the picture -/
theorem cb_I.ext {cI cC cJ cII : ClassId} {ws w1 : va_W} {κ : Nat → Nat} {ra : Nat → Nat → Nat} {z sg : Nat → Int32} {G : Nat → Nat → Nat → Int32} {we : Nat → Int32} {pd : Nat → Int64} (he : ∀ k, k < 64 → k ≠ 62 → w1[k]? = ws[k]?) (h : cb_I cI cC cJ cII ws κ ra z sg G we pd) : cb_I cI cC cJ cII w1 κ ra z sg G we pd := by
  obtain ⟨h0, h1, h2, h3, h4, h5, h6⟩ := h
  exact ⟨(he 0 (by decide) (by decide)).trans h0, (he 1 (by decide) (by decide)).trans h1, (he 2 (by decide) (by decide)).trans h2, (he 28 (by decide) (by decide)).trans h3, (he 63 (by decide) (by decide)).trans h4, fun g hg => (he _ (by have := cb_gp_o g hg; omega) (by have := cb_gp_o g hg; omega)).trans (h5 g hg), fun g hg i hi => (he _ (by have := cb_gp_lt g hg i hi; omega) (by have := cb_gp_lt g hg i hi; omega)).trans (h6 g hg i hi)⟩
/-- the list has one line more -/
theorem cb_L.add {cI cC cJ cII cO : ClassId} {ws w0 w1 : va_W} {κ : Nat → Nat} {ra : Nat → Nat → Nat} {z sg : Nat → Int32} {G : Nat → Nat → Nat → Int32} {we : Nat → Int32} {pd : Nat → Int64} {a4 e0 nl ea : Nat} {md2 : Int32} {la lp : Nat → Nat} {li : Nat → Nat → Int32} {ll : Nat → Nat → Int64} {ef : Nat → Option Nat} {pk v ep0 cx : Nat} {fi : Nat → Int32} {fl : Nat → Int64} {vs : List Value}
    (hI : cb_I cI cC cJ cII ws κ ra z sg G we pd) (hL2 : ∀ j, j < nl → 64 ≤ lp j ∧ ws[lp j]? = some (la j, .inr (iLN, cb_ln (li j) (ll j)))) (hL3 : ∀ i j, i < nl → j < nl → lp i = lp j → i = j) (h62 : ws[62]? = some (a4, .inr (iAL, vs)))
    (hef : ∀ j, j < nl → ef j = some (la j)) (hef2 : ∀ j, j < cx → ∀ y, ef j = some y → (∃ i, i < nl ∧ y = la i)) (hep : (64 ≤ ep0 ∧ ∃ b x, ws[ep0]? = some (b, .inl x)) ∨ ep0 = w0.length)
    (hv : ws[pk]? = some (v, .inr (iLN, cb_ln fi fl))) (h64 : 64 ≤ pk) (hne : ∀ j, j < nl → lp j ≠ pk) (hw0 : w0 = ws.set 62 (a4, .inr (iAL, [.int md2, .ref ea, .int (nI nl)]))) (ha : cb_added cO w0 w1 62 a4 md2 nl ef v ep0 cx) :
    cb_I cI cC cJ cII w1 κ ra z sg G we pd ∧ cb_L cO w1 a4 md2 e0 (nl + 1) (cb_upr la nl v) (cb_upr lp nl pk) (cb_upr li nl fi) (cb_upr ll nl fl) := by
  obtain ⟨ea', ep', cap', ef', a1, a2, a3, a4', a5, a6, a7, a8, a9, a10⟩ := ha
  have hlen : w0.length = ws.length := by rw [hw0, List.length_set]
  have h63 : 63 < ws.length := (List.getElem?_eq_some_iff.mp hI.2.2.2.2.1).1
  have hep' : 64 ≤ ep' := by
    rcases a3 with q | q
    · rcases hep with z | z
      · omega
      · omega
    · omega
  have hk : ∀ k, k ≠ 62 → k ≠ ep' → k < ws.length → w1[k]? = ws[k]? := fun k h1 h2 h3 => by
    rw [a10 k h1 h2 (by omega), hw0, List.getElem?_set_ne (Ne.symm h1)]
  have hno : ∀ (k : Nat) (b : Nat) (o : Nat × List Value), ws[k]? = some (b, .inr o) → k ≠ ep' := fun k b o h q => by
    have hkl := (List.getElem?_eq_some_iff.mp h).1
    rcases a3 with z | z
    · rcases hep with y | y
      · obtain ⟨-, b9, x9, h9⟩ := y
        rw [q, z, h9] at h
        cases h
      · omega
    · omega
  refine ⟨cb_I.ext (fun k h1 h2 => hk k h2 (by omega) (by omega)) hI, ea', a1, ?_, ?_, Or.inr ⟨ep', cap', ef', hep', by omega, a5, a6, a2, ?_, ?_⟩⟩
  · intro j hj
    by_cases e : j = nl
    · subst e
      simp only [cb_upr, if_true]
      exact ⟨h64, (hk pk (by omega) (hno _ _ _ hv) (List.getElem?_eq_some_iff.mp hv).1).trans hv⟩
    · have hj2 : j < nl := by omega
      have h2 := hL2 j hj2
      simp only [cb_upr, if_neg e]
      exact ⟨h2.1, (hk _ (by omega) (hno _ _ _ h2.2) (List.getElem?_eq_some_iff.mp h2.2).1).trans h2.2⟩
  · intro i j hi hj h
    by_cases e1 : i = nl
    · by_cases e2 : j = nl
      · omega
      · simp only [cb_upr, if_pos e1, if_neg e2] at h
        exact absurd h.symm (hne j (by omega))
    · by_cases e2 : j = nl
      · simp only [cb_upr, if_neg e1, if_pos e2] at h
        exact absurd h (hne i (by omega))
      · simp only [cb_upr, if_neg e1, if_neg e2] at h
        exact hL3 i j (by omega) (by omega) h
  · intro j hj
    by_cases e : j = nl
    · subst e
      simp only [cb_upr, if_true]
      exact a8
    · simp only [cb_upr, if_neg e]
      exact (a7 j (by omega)).trans (hef j (by omega))
  · intro j hj y hy
    by_cases e : j = nl
    · refine ⟨nl, by omega, ?_⟩
      rw [e, a8] at hy
      simp only [cb_upr, if_true]
      exact (Option.some.inj hy).symm
    · rcases a9 j e hj with ⟨q, qx⟩ | q
      · rw [q] at hy
        obtain ⟨i, hi, h⟩ := hef2 j qx y hy
        refine ⟨i, by omega, ?_⟩
        simp only [cb_upr, if_neg (show ¬ i = nl by omega)]
        exact h
      · rw [q] at hy
        cases hy
end
section
set_option maxRecDepth 100000 in
set_option maxHeartbeats 4000000 in
theorem c_AL_addN {l : Launch} {s0 : State} {D : va_G} {cI cC cJ cII cO cZ : ClassId} (F : FX l s0 D cI cC cJ cII cO cZ) {ws : va_W} {q a4 ea : Nat} {md : Int32} {n : Nat} {ef : Nat → Option Nat} (he : ws[q]? = some (a4, .inr (iAL, [.int md, .ref ea, .int (nI n)]))) {ep cap : Nat} (ha : ws[ep]? = some (ea, .inl (cO, cap, .inr (.inr (.inr (.inr ef)))))) {pk v : Nat} {vs : List Value} (hv : ws[pk]? = some (v, .inr (iLN, vs))) (hpq : pk ≠ q) (sz : Nat) (hn : n < cap) (hc0 : 10 ≤ cap) (hc1 : cap ≤ 400)  : Met l y_AL_add [.code y_AL_add b_AL_add 2 (some .boolean)] { frames := 7, cells := 1, slots := 400, locals := 220 } (gx_P s0 D classes ws sz [.ref a4, .ref v]) (va_Qi (fun r w1 => r = 1 ∧ ∃ w0, w0 = ws.set q (a4, .inr (iAL, [.int (md + 1), .ref ea, .int (nI n)])) ∧ cb_added cO w0 w1 q a4 (md + 1) n ef v ep cap) (gx_B D classes ws sz) (va_A ws sz)) 1 400 (va_A ws sz) := by
  refine gx_met (by decide +kernel) (Nat.le_of_ble_eq_true rfl) ?_
  intro p e s m below meth c ls hx hb hr hml hown hlocks hnm hsz hV hP hD hS hA hA0 hl
  have hg := fx_g F hV ([.ref a4, .ref v] : List Value).toArray
  have hK := fx_k F hV
  have hn9 := fx_n F hV
  have hl : lv_has ls 2 [(0, .ref a4), (1, .ref v)] := hl
  refine lv_aload_n hx hb d_AL_add_0 rfl (lv_at hl 0 rfl) ?_
  refine lv_dup hx hb d_AL_add_1 rfl ?_
  refine va_get (D := D) (ci := iAL) (v := .int md) (C := R_AL) (T := F_AL) (N := 3) hx hb (fl_AL hg) (fun _ h9 => h9) hown hK hP q (he) rfl 0 (by decide) (hg _ k_76) (fun x9 h9 => u_same (hg _ k_77) x9 h9) rfl d_AL_add_2 ?_
  refine lv_iconst (v := 1) hx hb d_AL_add_5 (by decide) ?_
  refine lv_iadd hx hb d_AL_add_6 ?_
  refine va_put (D := D) (ci := iAL) (v := .int (md + 1)) (ty := .int) (C := R_AL) (T := F_AL) (N := 3) hx hb (fl_AL hg) (fun _ h9 => h9) t_AL t_AL_ok n_AL hown hK hP hD hS q (he) rfl 0 (by decide) (hg _ k_76) (fun x9 h9 => u_same (hg _ k_77) x9 h9) rfl (by decide +kernel) rfl rfl (Nat.le_of_ble_eq_true rfl) d_AL_add_7 (fun H locs hP hD hS => ?_)
  obtain ⟨w_1, ew_1⟩ : ∃ x : va_W, x = ws.set q (a4, .inr (iAL, [.int (md + 1), .ref ea, .int (nI n)])) := ⟨_, rfl⟩
  replace hP : va_P D classes w_1 H := by rw [ew_1]; exact hP
  replace hD : va_D (va_A ws sz) w_1 := by rw [ew_1]; exact hD
  have hew_1 : w_1[q]? = some (a4, .inr (iAL, [.int (md + 1), .ref ea, .int (nI n)])) := by rw [ew_1]; exact gx_ss he
  have hne : q ≠ ep := fun z => by
    rw [← z, he] at ha
    cases ha
  have ha1 : w_1[ep]? = some (ea, .inl (cO, cap, .inr (.inr (.inr (.inr ef))))) := by rw [ew_1]; exact gx_sn hne ha
  have hv1 : w_1[pk]? = some (v, .inr (iLN, vs)) := by rw [ew_1]; exact gx_sn (Ne.symm hpq) hv
  refine lv_aload_n hx hb d_AL_add_10 rfl (lv_at hl 0 rfl) ?_
  refine lv_aload_n hx hb d_AL_add_11 rfl (lv_at hl 1 rfl) ?_
  refine lv_aload_n hx hb d_AL_add_12 rfl (lv_at hl 0 rfl) ?_
  refine va_get (D := D) (ci := iAL) (v := .ref ea) (C := R_AL) (T := F_AL) (N := 3) hx hb (fl_AL hg) (fun _ h9 => h9) hown hK hP q (hew_1) rfl 1 (by decide) (hg _ k_73) (fun _ h9 => h9) rfl d_AL_add_13 ?_
  refine lv_aload_n hx hb d_AL_add_16 rfl (lv_at hl 0 rfl) ?_
  refine va_get (D := D) (ci := iAL) (v := .int (nI n)) (C := R_AL) (T := F_AL) (N := 3) hx hb (fl_AL hg) (fun _ h9 => h9) hown hK hP q (hew_1) rfl 2 (by decide) (hg _ k_74) (fun _ h9 => h9) rfl d_AL_add_17 ?_
  refine gx_callv (va_runV (As := [.ref v, .ref ea, .int (nI n)]) (rest := []) ⟨hx, hb, hml, hown, gx_nil⟩ (c_AL_add2N F hew_1 ha1 hv1 hpq _ hn hc0 hc1) ⟨gx_cb (hg _ k_399) (hg _ k_5) (hg _ k_396) nd_AL_add2 ⟨by decide, by decide⟩, hg _ k_398, hg _ ks_14⟩ (gx_preV hV hP hD hS hA0 (va_recv hK hP rfl (hew_1))) rfl rfl hl.1 rfl (lv_room (Nat.le_of_ble_eq_true rfl)) d_AL_add_20 ⟨by decide, by decide⟩) hD hS hA (fun w1 H locs h_20 hP hD hS => ?_)
  refine lv_iconst (v := 1) hx hb d_AL_add_23 (by decide) ?_
  exact gx_iret hx hb hr hlocks rfl hS hP hD (by decide) (by decide) d_AL_add_24 (⟨rfl, w_1, ew_1, h_20⟩)

set_option maxRecDepth 100000 in
set_option maxHeartbeats 4000000 in
theorem c_AL_addG {l : Launch} {s0 : State} {D : va_G} {cI cC cJ cII cO cZ : ClassId} (F : FX l s0 D cI cC cJ cII cO cZ) {ws : va_W} {q a4 ea : Nat} {md : Int32} {n : Nat} {ef : Nat → Option Nat} (he : ws[q]? = some (a4, .inr (iAL, [.int md, .ref ea, .int (nI n)]))) {pk v : Nat} {vs : List Value} (hv : ws[pk]? = some (v, .inr (iLN, vs))) (hpq : pk ≠ q) (sz : Nat) (hc : ((n = 0 ∧ ea = fx_e0 F) ∨ (∃ (ep : Nat), ws[ep]? = some (ea, .inl (cO, n, .inr (.inr (.inr (.inr ef))))) ∧ 10 ≤ n ∧ n ≤ 200 ∧ ∀ i, i < n → ∀ y, ef i = some y → ∃ (k : Nat) (vs : List Value), ws[k]? = some (y, .inr (iLN, vs)))))  : Met l y_AL_add [.code y_AL_add b_AL_add 2 (some .boolean)] { frames := 7, cells := 1, slots := 400, locals := 220 } (gx_P s0 D classes ws sz [.ref a4, .ref v]) (va_Qi (fun r w1 => r = 1 ∧ ∃ w0, w0 = ws.set q (a4, .inr (iAL, [.int (md + 1), .ref ea, .int (nI n)])) ∧ cb_added cO w0 w1 q a4 (md + 1) n ef v w0.length n) (gx_B D classes ws sz) (va_A ws sz)) 1 400 (va_A ws sz) := by
  refine gx_met (by decide +kernel) (Nat.le_of_ble_eq_true rfl) ?_
  intro p e s m below meth c ls hx hb hr hml hown hlocks hnm hsz hV hP hD hS hA hA0 hl
  have hg := fx_g F hV ([.ref a4, .ref v] : List Value).toArray
  have hK := fx_k F hV
  have hn9 := fx_n F hV
  have hl : lv_has ls 2 [(0, .ref a4), (1, .ref v)] := hl
  refine lv_aload_n hx hb d_AL_add_0 rfl (lv_at hl 0 rfl) ?_
  refine lv_dup hx hb d_AL_add_1 rfl ?_
  refine va_get (D := D) (ci := iAL) (v := .int md) (C := R_AL) (T := F_AL) (N := 3) hx hb (fl_AL hg) (fun _ h9 => h9) hown hK hP q (he) rfl 0 (by decide) (hg _ k_76) (fun x9 h9 => u_same (hg _ k_77) x9 h9) rfl d_AL_add_2 ?_
  refine lv_iconst (v := 1) hx hb d_AL_add_5 (by decide) ?_
  refine lv_iadd hx hb d_AL_add_6 ?_
  refine va_put (D := D) (ci := iAL) (v := .int (md + 1)) (ty := .int) (C := R_AL) (T := F_AL) (N := 3) hx hb (fl_AL hg) (fun _ h9 => h9) t_AL t_AL_ok n_AL hown hK hP hD hS q (he) rfl 0 (by decide) (hg _ k_76) (fun x9 h9 => u_same (hg _ k_77) x9 h9) rfl (by decide +kernel) rfl rfl (Nat.le_of_ble_eq_true rfl) d_AL_add_7 (fun H locs hP hD hS => ?_)
  obtain ⟨w_1, ew_1⟩ : ∃ x : va_W, x = ws.set q (a4, .inr (iAL, [.int (md + 1), .ref ea, .int (nI n)])) := ⟨_, rfl⟩
  replace hP : va_P D classes w_1 H := by rw [ew_1]; exact hP
  replace hD : va_D (va_A ws sz) w_1 := by rw [ew_1]; exact hD
  have hew_1 : w_1[q]? = some (a4, .inr (iAL, [.int (md + 1), .ref ea, .int (nI n)])) := by rw [ew_1]; exact gx_ss he
  have hv1 : w_1[pk]? = some (v, .inr (iLN, vs)) := by rw [ew_1]; exact gx_sn (Ne.symm hpq) hv
  have hc1 : ((n = 0 ∧ ea = fx_e0 F) ∨ (∃ (ep : Nat), w_1[ep]? = some (ea, .inl (cO, n, .inr (.inr (.inr (.inr ef))))) ∧ 10 ≤ n ∧ n ≤ 200 ∧ ∀ i, i < n → ∀ y, ef i = some y → ∃ (k : Nat) (vs : List Value), w_1[k]? = some (y, .inr (iLN, vs)))) := by
    rcases hc with h | ⟨ep, h1, h2, h3, h4⟩
    · exact Or.inl h
    · refine Or.inr ⟨ep, by rw [ew_1]; exact gx_sn (fun z => by rw [← z, he] at h1; cases h1) h1, h2, h3, fun i hi y hy => ?_⟩
      obtain ⟨k, vs9, h5⟩ := h4 i hi y hy
      exact ⟨k, vs9, by rw [ew_1]; exact gx_sn (fun z => by rw [← z, he] at h5; exact absurd (Prod.mk.inj (Sum.inr.inj (Prod.mk.inj (Option.some.inj h5)).2)).1 (by decide)) h5⟩
  refine lv_aload_n hx hb d_AL_add_10 rfl (lv_at hl 0 rfl) ?_
  refine lv_aload_n hx hb d_AL_add_11 rfl (lv_at hl 1 rfl) ?_
  refine lv_aload_n hx hb d_AL_add_12 rfl (lv_at hl 0 rfl) ?_
  refine va_get (D := D) (ci := iAL) (v := .ref ea) (C := R_AL) (T := F_AL) (N := 3) hx hb (fl_AL hg) (fun _ h9 => h9) hown hK hP q (hew_1) rfl 1 (by decide) (hg _ k_73) (fun _ h9 => h9) rfl d_AL_add_13 ?_
  refine lv_aload_n hx hb d_AL_add_16 rfl (lv_at hl 0 rfl) ?_
  refine va_get (D := D) (ci := iAL) (v := .int (nI n)) (C := R_AL) (T := F_AL) (N := 3) hx hb (fl_AL hg) (fun _ h9 => h9) hown hK hP q (hew_1) rfl 2 (by decide) (hg _ k_74) (fun _ h9 => h9) rfl d_AL_add_17 ?_
  refine gx_callv (va_runV (As := [.ref v, .ref ea, .int (nI n)]) (rest := []) ⟨hx, hb, hml, hown, gx_nil⟩ (c_AL_add2G F hew_1 hv1 hpq _ hc1) ⟨gx_cb (hg _ k_399) (hg _ k_5) (hg _ k_396) nd_AL_add2 ⟨by decide, by decide⟩, hg _ k_398, hg _ ks_14⟩ (gx_preV hV hP hD hS hA0 (va_recv hK hP rfl (hew_1))) rfl rfl hl.1 rfl (lv_room (Nat.le_of_ble_eq_true rfl)) d_AL_add_20 ⟨by decide, by decide⟩) hD hS hA (fun w1 H locs h_20 hP hD hS => ?_)
  refine lv_iconst (v := 1) hx hb d_AL_add_23 (by decide) ?_
  exact gx_iret hx hb hr hlocks rfl hS hP hD (by decide) (by decide) d_AL_add_24 (⟨rfl, w_1, ew_1, h_20⟩)

/-- a line is added to the object's list -/
theorem c_AL_addP {l : Launch} {s0 : State} {D : va_G} {cI cC cJ cII cO cZ : ClassId} (F : FX l s0 D cI cC cJ cII cO cZ) {ws : va_W} {κ : Nat → Nat} {ra : Nat → Nat → Nat} {z sg : Nat → Int32} {G : Nat → Nat → Nat → Int32} {we : Nat → Int32} {pd : Nat → Int64} (hI : cb_I cI cC cJ cII ws κ ra z sg G we pd) {nl : Nat} {la lp : Nat → Nat} {li : Nat → Nat → Int32} {ll : Nat → Nat → Int64} (hL : cb_L cO ws (κ 62) (z 5) (fx_e0 F) nl la lp li ll) (sz : Nat) {pk v : Nat} {fi : Nat → Int32} {fl : Nat → Int64} (hv : ws[pk]? = some (v, .inr (iLN, cb_ln fi fl))) (h64 : 64 ≤ pk) (hne : ∀ j, j < nl → lp j ≠ pk) (hnl : nl < 200) : Met l y_AL_add [.code y_AL_add b_AL_add 2 (some .boolean)] { frames := 7, cells := 1, slots := 400, locals := 220 } (gx_P s0 D classes ws sz [.ref (κ 62), .ref v]) (va_Qi (fun r w1 => r = 1 ∧ cb_I cI cC cJ cII w1 κ ra (upd z 5 (z 5 + 1)) sg G we pd ∧ cb_L cO w1 (κ 62) (z 5 + 1) (fx_e0 F) (nl + 1) (cb_upr la nl v) (cb_upr lp nl pk) (cb_upr li nl fi) (cb_upr ll nl fl)) (gx_B D classes ws sz) (va_A ws sz)) 1 400 (va_A ws sz) := by
  obtain ⟨ea, e62, eL, einj, earr⟩ := id hL
  rcases earr with ⟨hn0, hea⟩ | ⟨ep, cap, ef, ea0, ea5, ea6, ea7, ea1, ea2, ea3⟩
  · refine gx_posti (c_AL_addG (ef := fun _ => none) F e62 hv (by omega) sz (Or.inl ⟨hn0, hea⟩)) (fun r w1 q => ?_)
    obtain ⟨q1, w0, q2, q3⟩ := q
    exact ⟨q1, cb_L.add (cx := nl) hI eL einj e62 (fun j hj => absurd hj (by omega)) (fun j hj => absurd hj (by omega)) (Or.inr rfl) hv h64 hne q2 q3⟩
  · rcases Nat.lt_or_ge nl cap with hlt | hge
    · refine gx_posti (c_AL_addN F e62 ea1 hv (by omega) sz hlt ea6 ea7) (fun r w1 q => ?_)
      obtain ⟨q1, w0, q2, q3⟩ := q
      exact ⟨q1, cb_L.add (cx := cap) hI eL einj e62 ea2 ea3 (Or.inl ⟨ea0, _, _, ea1⟩) hv h64 hne q2 q3⟩
    · have hcap : cap = nl := by omega
      rw [hcap] at ea1 ea3 ea6
      refine gx_posti (c_AL_addG F e62 hv (by omega) sz (Or.inr ⟨ep, ea1, ea6, by omega, fun i hi y hy => ?_⟩)) (fun r w1 q => ?_)
      · obtain ⟨k, hk, hy2⟩ := ea3 i hi y hy
        exact ⟨lp k, _, by rw [hy2]; exact (eL k hk).2⟩
      · obtain ⟨q1, w0, q2, q3⟩ := q
        exact ⟨q1, cb_L.add (cx := nl) hI eL einj e62 ea2 ea3 (Or.inr rfl) hv h64 hne q2 q3⟩
end
section
set_option maxRecDepth 100000 in
set_option maxHeartbeats 4000000 in
theorem c_PB_forgetEvents {l : Launch} {s0 : State} {D : va_G} {cI cC cJ cII cO cZ : ClassId} (F : FX l s0 D cI cC cJ cII cO cZ) {ws : va_W} {κ : Nat → Nat} {ra : Nat → Nat → Nat} {z sg : Nat → Int32} {G : Nat → Nat → Nat → Int32} {we : Nat → Int32} {pd : Nat → Int64} (hI : cb_I cI cC cJ cII ws κ ra z sg G we pd) (sz : Nat) (k : Nat) (hk : k < 10)  : Met l y_PB_forgetEvents [.code y_PB_forgetEvents b_PB_forgetEvents 2 none] { frames := 1, cells := 0, slots := 0, locals := 40 } (gx_P s0 D classes ws sz [.ref (κ 0), .int (nI k)]) (va_Qv (fun w1 => cb_I cI cC cJ cII w1 κ ra (upd z 4 (z 4 - we k)) sg (cb_upg G 2 k (cb_fil (G 2 k) 0 6)) (upd we k 0) pd ∧ cb_hi ws w1) (gx_B D classes ws sz) (va_A ws sz)) 0 0 (va_A ws sz) := by
  refine gx_met (by decide +kernel) (Nat.le_of_ble_eq_true rfl) ?_
  intro p e s m below meth c ls hx hb hr hml hown hlocks hnm hsz hV hP hD hS hA hA0 hl
  have hg := fx_g F hV ([.ref (κ 0), .int (nI k)] : List Value).toArray
  have hK := fx_k F hV
  have hn9 := fx_n F hV
  have hl : lv_has ls 2 [(0, .ref (κ 0)), (1, .int (nI k))] := hl
  have hH : cb_hi ws ws := fun _ _ => rfl
  refine lv_aload_n hx hb d_PB_forgetEvents_0 rfl (lv_at hl 0 rfl) ?_
  refine va_get (D := D) (ci := iPB) (v := .ref (κ 17)) (C := R_PB) (T := F_PB) (N := 11) hx hb (fl_PB hg) (fun _ h9 => h9) hown hK hP 0 (hI.1) rfl 3 (by decide) (hg _ k_91) (fun _ h9 => h9) rfl d_PB_forgetEvents_1 ?_
  refine lv_iload_n hx hb d_PB_forgetEvents_4 rfl (lv_at hl 1 rfl) ?_
  refine gx_al hx hb hK hP 17 3 (hI.2.2.2.2.2.1 2 (by decide)) rfl rfl k (v := ra 2 k) (rfl) (hk) (by decide) (if_pos (hk)) d_PB_forgetEvents_5 ?_
  refine lv_iconst (v := 0) hx hb d_PB_forgetEvents_6 (by decide) ?_
  refine gx_callv (va_runS (As := [.ref (ra 2 k), .int 0]) (rest := []) ⟨hx, hb, hml, hown, gx_nil⟩ (c_AR_fill F (hI.2.2.2.2.2.2 2 (by decide) k hk) _ 0 (by decide)) ⟨gx_cb (hg _ k_87) (hg _ k_6) (hg _ k_85) nd_AR_fill ⟨by decide, by decide⟩, hg _ k_86⟩ (gx_preS hV hP hD hS hA0) rfl rfl hl.1 rfl (lv_room (Nat.le_of_ble_eq_true rfl)) d_PB_forgetEvents_7 ⟨by decide, by decide⟩) hD hS hA (fun w1 H locs h_7 hP hD hS => ?_)
  replace hI : cb_I cI cC cJ cII w1 κ ra z sg (cb_upg G 2 k (cb_fil (G 2 k) 0 6)) we pd := by rw [h_7]; exact cb_I.row (by decide) hk hI
  replace hH : cb_hi ws w1 := by rw [h_7]; exact cb_hi.set (by have := cb_gp_lt 2 (by decide) k hk; omega) hH
  refine lv_aload_n hx hb d_PB_forgetEvents_10 rfl (lv_at hl 0 rfl) ?_
  refine lv_dup hx hb d_PB_forgetEvents_11 rfl ?_
  refine va_get (D := D) (ci := iPB) (v := .int (z 4)) (C := R_PB) (T := F_PB) (N := 11) hx hb (fl_PB hg) (fun _ h9 => h9) hown hK hP 0 (hI.1) rfl 5 (by decide) (hg _ k_93) (fun _ h9 => h9) rfl d_PB_forgetEvents_12 ?_
  refine lv_aload_n hx hb d_PB_forgetEvents_15 rfl (lv_at hl 0 rfl) ?_
  refine va_get (D := D) (ci := iPB) (v := .ref (κ 28)) (C := R_PB) (T := F_PB) (N := 11) hx hb (fl_PB hg) (fun _ h9 => h9) hown hK hP 0 (hI.1) rfl 4 (by decide) (hg _ k_92) (fun _ h9 => h9) rfl d_PB_forgetEvents_16 ?_
  refine lv_iload_n hx hb d_PB_forgetEvents_19 rfl (lv_at hl 1 rfl) ?_
  refine gx_il hx hb hK hP 28 0 (hI.2.2.2.1) rfl k (rfl) (hk) (by decide) d_PB_forgetEvents_20 ?_
  refine lv_isub hx hb d_PB_forgetEvents_21 ?_
  refine va_put (D := D) (ci := iPB) (v := .int ((z 4) - (we k))) (ty := .int) (C := R_PB) (T := F_PB) (N := 11) hx hb (fl_PB hg) (fun _ h9 => h9) t_PB t_PB_ok n_PB hown hK hP hD hS 0 (hI.1) rfl 5 (by decide) (hg _ k_93) (fun _ h9 => h9) rfl (by decide +kernel) rfl rfl (Nat.le_of_ble_eq_true rfl) d_PB_forgetEvents_22 (fun H locs hP hD hS => ?_)
  obtain ⟨w_1, ew_1⟩ : ∃ x : va_W, x = w1.set 0 (κ 0, .inr (iPB, [.ref (κ 1), .ref (κ 10), .int (z 3), .ref (κ 17), .ref (κ 28), .int ((z 4) - (we k)), .ref (κ 29), .ref (κ 40), .ref (κ 51), .ref (κ 62), .ref (κ 63)])) := ⟨_, rfl⟩
  replace hP : va_P D classes w_1 H := by rw [ew_1]; exact hP
  replace hD : va_D (va_A ws sz) w_1 := by rw [ew_1]; exact hD
  replace hI : cb_I cI cC cJ cII w_1 κ ra (upd z 4 ((z 4) - (we k))) sg (cb_upg G 2 k (cb_fil (G 2 k) 0 6)) we pd := by rw [ew_1]; exact cb_I.obj (z := z) (z' := upd z 4 ((z 4) - (we k))) rfl rfl rfl hI
  replace hH : cb_hi ws w_1 := by rw [ew_1]; exact cb_hi.set (by decide) hH
  refine lv_aload_n hx hb d_PB_forgetEvents_25 rfl (lv_at hl 0 rfl) ?_
  refine va_get (D := D) (ci := iPB) (v := .ref (κ 28)) (C := R_PB) (T := F_PB) (N := 11) hx hb (fl_PB hg) (fun _ h9 => h9) hown hK hP 0 (hI.1) rfl 4 (by decide) (hg _ k_92) (fun _ h9 => h9) rfl d_PB_forgetEvents_26 ?_
  refine lv_iload_n hx hb d_PB_forgetEvents_29 rfl (lv_at hl 1 rfl) ?_
  refine lv_iconst (v := 0) hx hb d_PB_forgetEvents_30 (by decide) ?_
  refine gx_is hx hb hK hP hD hS 28 0 (hI.2.2.2.1) rfl k (rfl) (hk) (by decide) d_PB_forgetEvents_31 (fun H locs hP hD hS => ?_)
  obtain ⟨w_2, ew_2⟩ : ∃ x : va_W, x = w_1.set 28 (κ 28, .inl (cI, 10, .inl (upd we k 0))) := ⟨_, rfl⟩
  replace hP : va_P D classes w_2 H := by rw [ew_2]; exact hP
  replace hD : va_D (va_A ws sz) w_2 := by rw [ew_2]; exact hD
  replace hI : cb_I cI cC cJ cII w_2 κ ra (upd z 4 ((z 4) - (we k))) sg (cb_upg G 2 k (cb_fil (G 2 k) 0 6)) (upd we k 0) pd := by rw [ew_2]; exact cb_I.wev hI
  replace hH : cb_hi ws w_2 := by rw [ew_2]; exact cb_hi.set (by decide) hH
  exact gx_vret hx hb hr hlocks hS hP hD (by decide) (by decide) d_PB_forgetEvents_32 (⟨hI, hH⟩)

set_option maxRecDepth 100000 in
set_option maxHeartbeats 4000000 in
theorem c_PB_billedLine {l : Launch} {s0 : State} {D : va_G} {cI cC cJ cII cO cZ : ClassId} (F : FX l s0 D cI cC cJ cII cO cZ) {ws : va_W} {κ : Nat → Nat} {ra : Nat → Nat → Nat} {z sg : Nat → Int32} {G : Nat → Nat → Nat → Int32} {we : Nat → Int32} {pd : Nat → Int64} (hI : cb_I cI cC cJ cII ws κ ra z sg G we pd) (sz : Nat) (k j : Nat) (hk : k < 10) (hj : j < 6)  : Met l y_PB_billedLine [.code y_PB_billedLine b_PB_billedLine 5 (some (.object "PortBills$Line"))] { frames := 3, cells := 1, slots := 9, locals := 130 } (gx_P s0 D classes ws sz [.ref (κ 0), .int (nI k), .int (nI j)]) (va_Qr (fun u => u.1 = ws ++ [(u.2, .inr (iLN, cb_ln (cb_mli (nI k) (nI j) (G 2 k j) (if (0 : Int32) < G 2 k j - G 1 j 2 then G 2 k j - G 1 j 2 else 0) (-1) (if (z 3 >>> (nI j &&& 31)) &&& 1 = 1 then 0 else 1)) (fun _ => cb_cents (G 1 j) (G 4 k j) (G 5 k j) (if (0 : Int32) < G 2 k j - G 1 j 2 then G 2 k j - G 1 j 2 else 0))))]) (gx_Bq D classes ws sz) (va_A ws sz)) 1 9 (va_A ws sz) := by
  refine gx_met (by decide +kernel) (Nat.le_of_ble_eq_true rfl) ?_
  intro p e s m below meth c ls hx hb hr hml hown hlocks hnm hsz hV hP hD hS hA hA0 hl
  have hg := fx_g F hV ([.ref (κ 0), .int (nI k), .int (nI j)] : List Value).toArray
  have hK := fx_k F hV
  have hn9 := fx_n F hV
  have hl : lv_has ls 5 [(0, .ref (κ 0)), (1, .int (nI k)), (2, .int (nI j))] := hl
  refine lv_aload_n hx hb d_PB_billedLine_0 rfl (lv_at hl 0 rfl) ?_
  refine va_get (D := D) (ci := iPB) (v := .ref (κ 17)) (C := R_PB) (T := F_PB) (N := 11) hx hb (fl_PB hg) (fun _ h9 => h9) hown hK hP 0 (hI.1) rfl 3 (by decide) (hg _ k_91) (fun _ h9 => h9) rfl d_PB_billedLine_1 ?_
  refine lv_iload_n hx hb d_PB_billedLine_4 rfl (lv_at hl 1 rfl) ?_
  refine gx_al hx hb hK hP 17 3 (hI.2.2.2.2.2.1 2 (by decide)) rfl rfl k (v := ra 2 k) (rfl) (hk) (by decide) (if_pos (hk)) d_PB_billedLine_5 ?_
  refine lv_iload_n hx hb d_PB_billedLine_6 rfl (lv_at hl 2 rfl) ?_
  refine gx_il hx hb hK hP (cb_gp 2 + 1 + k) 0 (hI.2.2.2.2.2.2 2 (by decide) k (hk)) rfl j (rfl) (hj) (by decide) d_PB_billedLine_7 ?_
  refine lv_istore_n (lv' := [(3, .int ((G 2 k) j)), (0, .ref (κ 0)), (1, .int (nI k)), (2, .int (nI j))]) hx hb d_PB_billedLine_8 rfl hl (by decide) rfl (fun ls hl => ?_)
  refine lv_iconst (v := 0) hx hb d_PB_billedLine_9 (by decide) ?_
  refine lv_iload_n hx hb d_PB_billedLine_10 rfl (lv_at hl 0 rfl) ?_
  refine lv_aload_n hx hb d_PB_billedLine_11 rfl (lv_at hl 1 rfl) ?_
  refine va_get (D := D) (ci := iPB) (v := .ref (κ 10)) (C := R_PB) (T := F_PB) (N := 11) hx hb (fl_PB hg) (fun _ h9 => h9) hown hK hP 0 (hI.1) rfl 1 (by decide) (hg _ k_89) (fun _ h9 => h9) rfl d_PB_billedLine_12 ?_
  refine lv_iload_n hx hb d_PB_billedLine_15 rfl (lv_at hl 3 rfl) ?_
  refine gx_al hx hb hK hP 10 3 (hI.2.2.2.2.2.1 1 (by decide)) rfl rfl j (v := ra 1 j) (rfl) (hj) (by decide) (if_pos (hj)) d_PB_billedLine_16 ?_
  refine lv_iconst (v := 2) hx hb d_PB_billedLine_17 (by decide) ?_
  refine gx_il hx hb hK hP (cb_gp 1 + 1 + j) 0 (hI.2.2.2.2.2.2 1 (by decide) j (hj)) rfl 2 (by decide) (by decide) (by decide) d_PB_billedLine_18 ?_
  refine lv_isub hx hb d_PB_billedLine_19 ?_
  refine va_mmax hx hb (by rw [hml]; exact hl.1.symm) hown (hg _ k_339) (hg _ k_340) (hg _ k_14) (hg _ k_341) (by decide) (Nat.le_of_ble_eq_true rfl) (by decide) (by decide) d_PB_billedLine_20 ?_
  obtain ⟨ch, ech⟩ : ∃ x : Int32, x = (if (0 : Int32) < G 2 k j - G 1 j 2 then G 2 k j - G 1 j 2 else 0) := ⟨_, rfl⟩
  rw [← ech]
  refine lv_istore (lv' := [(4, .int ch), (3, .int ((G 2 k) j)), (0, .ref (κ 0)), (1, .int (nI k)), (2, .int (nI j))]) hx hb d_PB_billedLine_23 hl (by decide) rfl (fun ls hl => ?_)
  refine va_new (fs := [.int 0, .int 0, .int 0, .int 0, .long 0, .int 0, .int 0, .int 0, .long 0]) hx hb (fl_LN hg) (fun _ h9 => h9) t_LN t_LN_ok hown (hg _ k_206) (hg _ k_342) (hg _ k_15) hK hP hD hS hA (ci := iLN) rfl (by decide +kernel) (by decide) (by decide) d_PB_billedLine_25 (fun qn H hP hD hS => ?_)
  obtain ⟨w2, ew2⟩ : ∃ x : va_W, x = ws ++ [(qn, .inr (iLN, [.int 0, .int 0, .int 0, .int 0, .long 0, .int 0, .int 0, .int 0, .long 0]))] := ⟨_, rfl⟩
  rw [← ew2] at hP hD
  have hn2 : w2[ws.length]? = some (qn, .inr (iLN, [.int 0, .int 0, .int 0, .int 0, .long 0, .int 0, .int 0, .int 0, .long 0])) := by rw [ew2]; exact gx_lat _ _
  replace hI : cb_I cI cC cJ cII w2 κ ra z sg G we pd := by rw [ew2]; exact cb_I.app hI
  refine lv_dup hx hb d_PB_billedLine_28 rfl ?_
  refine lv_iload_n hx hb d_PB_billedLine_29 rfl (lv_at hl 3 rfl) ?_
  refine lv_iload_n hx hb d_PB_billedLine_30 rfl (lv_at hl 4 rfl) ?_
  refine lv_iload_n hx hb d_PB_billedLine_31 rfl (lv_at hl 1 rfl) ?_
  refine lv_iload hx hb d_PB_billedLine_32 (lv_at hl 0 rfl) ?_
  refine lv_aload_n hx hb d_PB_billedLine_34 rfl (lv_at hl 2 rfl) ?_
  refine lv_iload_n hx hb d_PB_billedLine_35 rfl (lv_at hl 3 rfl) ?_
  refine lv_iload_n hx hb d_PB_billedLine_36 rfl (lv_at hl 4 rfl) ?_
  refine lv_iload hx hb d_PB_billedLine_37 (lv_at hl 0 rfl) ?_
  refine gx_readl (va_runV (As := [.int (nI k), .int (nI j), .int ch]) (rest := [.int ch, .int ((G 2 k) j), .int (nI j), .int (nI k), .ref qn, .ref qn]) ⟨hx, hb, hml, hown, gx_nil⟩ (c_PB_centsFor F hI _ k j hk hj ch) ⟨gx_cb (hg _ k_346) (hg _ k_1) (hg _ k_343) nd_PB_centsFor ⟨by decide, by decide⟩, hg _ k_345, hg _ ks_13⟩ (gx_preV hV hP hD hS hA0 (va_recv hK hP rfl (hI.1))) rfl rfl hl.1 rfl (lv_room (Nat.le_of_ble_eq_true rfl)) d_PB_billedLine_39 ⟨by decide, by decide⟩) (fun r_39 h_39 => ?_)
  subst h_39
  refine lv_iconst (v := (-1)) hx hb d_PB_billedLine_42 (by decide) ?_
  refine lv_aload_n hx hb d_PB_billedLine_43 rfl (lv_at hl 2 rfl) ?_
  refine lv_iload_n hx hb d_PB_billedLine_44 rfl (lv_at hl 4 rfl) ?_
  refine gx_readi (gx_runV12 (As := [.int (nI j)]) (rest := [.int (-1), .long (cb_cents (G 1 j) (G 4 k j) (G 5 k j) ch), .int ch, .int ((G 2 k) j), .int (nI j), .int (nI k), .ref qn, .ref qn]) ⟨hx, hb, hml, hown, gx_nil⟩ (c_PB_hasTariff F hI _ _) ⟨gx_cb (hg _ k_287) (hg _ k_1) (hg _ k_284) nd_PB_hasTariff ⟨by decide, by decide⟩, hg _ k_286, hg _ ks_10⟩ (by decide) (gx_preV hV hP hD hS hA0 (va_recv hK hP rfl (hI.1))) rfl rfl hl.1 rfl (gx_room (Nat.le_of_ble_eq_true rfl)) d_PB_billedLine_45 ⟨by decide, by decide⟩) (fun r_45 h_45 => ?_)
  rcases h_45 with ⟨rfl, hbit⟩ | ⟨rfl, hbit⟩
  · skip
    refine lv_if_ne (tgt := 55) hx hb d_PB_billedLine_48 (by decide) (fun c_48 => ?_) (fun c_48 => absurd c_48 (by decide))
    refine lv_iconst (v := 0) hx hb d_PB_billedLine_55 (by decide) ?_
    refine gx_callv (va_runIN (As := [.int (nI k), .int (nI j), .int ((G 2 k) j), .int ch, .long (cb_cents (G 1 j) (G 4 k j) (G 5 k j) ch), .int (-1), .int 0]) (rest := [.ref qn]) ⟨hx, hb, hml, hown, gx_nil⟩ (c_LN_init F hn2 _ _ _ _ _ _ _ _ (by decide)) ⟨gx_cn (hg _ k_356) (hg _ k_15) (hn9 _ kn_354) nd_LN_init ⟨by decide, by decide⟩, rfl, hg _ k_355⟩ (gx_preS hV hP hD hS hA0) rfl rfl hl.1 rfl (lv_room (Nat.le_of_ble_eq_true rfl)) d_PB_billedLine_56 ⟨by decide, by decide⟩) hD hS hA (fun w1 H locs h_56 hP hD hS => ?_)
    exact gx_aret hx hb hr (Or.inl ⟨_, rfl⟩) hlocks hS hP hD (by decide) (by decide) d_PB_billedLine_59 (by show w1 = ws ++ [(qn, .inr (iLN, cb_ln (cb_mli (nI k) (nI j) (G 2 k j) ch (-1) (if (z 3 >>> (nI j &&& 31)) &&& 1 = 1 then 0 else 1)) (fun _ => cb_cents (G 1 j) (G 4 k j) (G 5 k j) ch)))]; rw [h_56, ew2, gx_las, if_pos hbit])
  · skip
    refine lv_if_ne (tgt := 55) hx hb d_PB_billedLine_48 (by decide) (fun c_48 => absurd c_48 (by decide)) (fun c_48 => ?_)
    refine lv_iconst (v := 1) hx hb d_PB_billedLine_51 (by decide) ?_
    refine lv_goto (tgt := 56) hx hb d_PB_billedLine_52 (by decide) ?_
    refine gx_callv (va_runIN (As := [.int (nI k), .int (nI j), .int ((G 2 k) j), .int ch, .long (cb_cents (G 1 j) (G 4 k j) (G 5 k j) ch), .int (-1), .int 1]) (rest := [.ref qn]) ⟨hx, hb, hml, hown, gx_nil⟩ (c_LN_init F hn2 _ _ _ _ _ _ _ _ (by decide)) ⟨gx_cn (hg _ k_356) (hg _ k_15) (hn9 _ kn_354) nd_LN_init ⟨by decide, by decide⟩, rfl, hg _ k_355⟩ (gx_preS hV hP hD hS hA0) rfl rfl hl.1 rfl (lv_room (Nat.le_of_ble_eq_true rfl)) d_PB_billedLine_56 ⟨by decide, by decide⟩) hD hS hA (fun w1 H locs h_56 hP hD hS => ?_)
    exact gx_aret hx hb hr (Or.inl ⟨_, rfl⟩) hlocks hS hP hD (by decide) (by decide) d_PB_billedLine_59 (by show w1 = ws ++ [(qn, .inr (iLN, cb_ln (cb_mli (nI k) (nI j) (G 2 k j) ch (-1) (if (z 3 >>> (nI j &&& 31)) &&& 1 = 1 then 0 else 1)) (fun _ => cb_cents (G 1 j) (G 4 k j) (G 5 k j) ch)))]; rw [h_56, ew2, gx_las, if_neg hbit])
end
section
/-! PURE, third part: the lines of a bill -/
def cb_bs (q : Nat → Bool) (fi : Nat → Nat → Int32) (fl : Nat → Nat → Int64) (nl : Nat) (li : Nat → Nat → Int32) (ll : Nat → Nat → Int64) : Nat → Nat × (Nat → Nat → Int32) × (Nat → Nat → Int64)
  | 0 => (nl, li, ll)
  | i + 1 => if q i = true then ((cb_bs q fi fl nl li ll i).1 + 1, cb_upr (cb_bs q fi fl nl li ll i).2.1 (cb_bs q fi fl nl li ll i).1 (fi i), cb_upr (cb_bs q fi fl nl li ll i).2.2 (cb_bs q fi fl nl li ll i).1 (fl i)) else cb_bs q fi fl nl li ll i
section CBS
variable {q : Nat → Bool} {fi : Nat → Nat → Int32} {fl : Nat → Nat → Int64} {nl : Nat} {li : Nat → Nat → Int32} {ll : Nat → Nat → Int64}
theorem cb_bs_s {i : Nat} (h : q i = true) : cb_bs q fi fl nl li ll (i + 1) = ((cb_bs q fi fl nl li ll i).1 + 1, cb_upr (cb_bs q fi fl nl li ll i).2.1 (cb_bs q fi fl nl li ll i).1 (fi i), cb_upr (cb_bs q fi fl nl li ll i).2.2 (cb_bs q fi fl nl li ll i).1 (fl i)) := if_pos h
theorem cb_bs_n {i : Nat} (h : ¬ q i = true) : cb_bs q fi fl nl li ll (i + 1) = cb_bs q fi fl nl li ll i := if_neg h
theorem cb_bs_1 : ∀ i, (cb_bs q fi fl nl li ll i).1 = nl + cb_cnt q i
  | 0 => rfl
  | i + 1 => by
    by_cases h : q i = true
    · rw [cb_bs_s h, cb_cnt_s h]
      show (cb_bs q fi fl nl li ll i).1 + 1 = _
      rw [cb_bs_1 i]
      omega
    · rw [cb_bs_n h, cb_cnt_n (by cases hq : q i <;> simp_all), cb_bs_1 i]
theorem cb_cnt_mono : ∀ {i n : Nat}, i ≤ n → cb_cnt q i ≤ cb_cnt q n := by
  intro i n h
  induction n with
  | zero => rw [show i = 0 by omega]; exact Nat.le_refl _
  | succ n ih =>
    rcases Nat.lt_or_ge i (n + 1) with z | z
    · have := ih (by omega)
      simp only [cb_cnt]
      omega
    · rw [show i = n + 1 by omega]; exact Nat.le_refl _
theorem cb_cnt_lt {i n : Nat} (h : i < n) (hq : q i = true) : cb_cnt q i < cb_cnt q n := by
  have h1 := cb_cnt_mono (q := q) (show i + 1 ≤ n by omega)
  rw [cb_cnt_s hq] at h1
  omega
end CBS
/-- the kinds that wait; a kind's line -/
def cb_qq (G : Nat → Nat → Nat → Int32) (k : Nat) : Nat → Bool := fun j => decide (¬ G 2 k j ≤ 0)
def cb_chg (G : Nat → Nat → Nat → Int32) (k j : Nat) : Int32 := if (0 : Int32) < G 2 k j - G 1 j 2 then G 2 k j - G 1 j 2 else 0
def cb_bfi (z3 : Int32) (G : Nat → Nat → Nat → Int32) (k : Nat) : Nat → Nat → Int32 := fun j => cb_mli (nI k) (nI j) (G 2 k j) (cb_chg G k j) (-1) (if (z3 >>> (nI j &&& 31)) &&& 1 = 1 then 0 else 1)
def cb_bfl (G : Nat → Nat → Nat → Int32) (k : Nat) : Nat → Nat → Int64 := fun j _ => cb_cents (G 1 j) (G 4 k j) (G 5 k j) (cb_chg G k j)
def cb_BS (z3 : Int32) (G : Nat → Nat → Nat → Int32) (k nl : Nat) (li : Nat → Nat → Int32) (ll : Nat → Nat → Int64) (i : Nat) : Nat × (Nat → Nat → Int32) × (Nat → Nat → Int64) := cb_bs (cb_qq G k) (cb_bfi z3 G k) (cb_bfl G k) nl li ll i
end
section
set_option maxRecDepth 100000 in
set_option maxHeartbeats 4000000 in
theorem c_PB_bill {l : Launch} {s0 : State} {D : va_G} {cI cC cJ cII cO cZ : ClassId} (F : FX l s0 D cI cC cJ cII cO cZ) {ws : va_W} {κ : Nat → Nat} {ra : Nat → Nat → Nat} {z sg : Nat → Int32} {G : Nat → Nat → Nat → Int32} {we : Nat → Int32} {pd : Nat → Int64} (hI : cb_I cI cC cJ cII ws κ ra z sg G we pd) {nl : Nat} {la lp : Nat → Nat} {li : Nat → Nat → Int32} {ll : Nat → Nat → Int64} (hL : cb_L cO ws (κ 62) (z 5) (fx_e0 F) nl la lp li ll) (sz : Nat) (hnl : nl ≤ 200) (p0 : Int32)  : gx_XM l y_PB_bill [.code y_PB_bill b_PB_bill 4 (some .int)] { frames := 9, cells := 13, slots := 2460, locals := 320 } (gx_P s0 D classes ws sz [.ref (κ 0), .int p0]) (va_Qi (fun r w1 => ∃ k9, k9 < 10 ∧ p0 = nI k9 ∧ nl + cb_cnt (cb_qq G k9) 6 ≤ 200 ∧ r = nI (cb_cnt (cb_qq G k9) 6) ∧ ∃ (z9 : Nat → Int32) (la9 lp9 : Nat → Nat), (∀ q, q < 4 → z9 q = z q) ∧ z9 4 = z 4 - we k9 ∧ cb_I cI cC cJ cII w1 κ ra z9 sg (cb_upg G 2 k9 (cb_fil (G 2 k9) 0 6)) (upd we k9 0) pd ∧ cb_L cO w1 (κ 62) (z9 5) (fx_e0 F) (cb_BS (z 3) G k9 nl li ll 6).1 la9 lp9 (cb_BS (z 3) G k9 nl li ll 6).2.1 (cb_BS (z 3) G k9 nl li ll 6).2.2) (gx_B D classes ws sz) (va_A ws sz)) (fun E => (E = "java/lang/IllegalArgumentException" ∧ (p0 < 0 ∨ nI 10 ≤ p0)) ∨ (E = "java/lang/IllegalStateException" ∧ ∃ k9, k9 < 10 ∧ p0 = nI k9 ∧ 200 < nl + cb_cnt (cb_qq G k9) 6)) 13 2460 (va_A ws sz) := by
  refine gx_xmet (by decide +kernel) (Nat.le_of_ble_eq_true rfl) ?_
  intro p e s m below meth c ls hx hb hr hml hown hlocks hex hsz hV hP hD hS hA hA0 hl
  have hg := fx_g F hV ([.ref (κ 0), .int p0] : List Value).toArray
  have hK := fx_k F hV
  have hn9 := fx_n F hV
  have hl : lv_has ls 4 [(0, .ref (κ 0)), (1, .int p0)] := hl
  obtain ⟨ea, e62, eL, einj, earr⟩ := id hL
  refine lv_iload_n hx hb d_PB_bill_0 rfl (lv_at hl 1 rfl) ?_
  refine gx_readi (va_runS (As := [.int p0]) (rest := []) ⟨hx, hb, hml, hown, gx_nil⟩ (c_PB_isCall F _ _ _) ⟨gx_cb (hg _ k_178) (hg _ k_1) (hg _ k_176) nd_PB_isCall ⟨by decide, by decide⟩, hg _ k_177⟩ (gx_preS hV hP hD hS hA0) rfl rfl hl.1 rfl (lv_room (Nat.le_of_ble_eq_true rfl)) d_PB_bill_1 ⟨by decide, by decide⟩) (fun r_1 h_1 => ?_)
  rcases h_1 with ⟨rfl, k, hk, rfl⟩ | ⟨rfl, hbad⟩
  · skip
    refine lv_if_ne (tgt := 17) hx hb d_PB_bill_4 (by decide) (fun c_4 => ?_) (fun c_4 => absurd c_4 (by decide))
    refine lv_aload_n hx hb d_PB_bill_17 rfl (lv_at hl 0 rfl) ?_
    refine lv_iload_n hx hb d_PB_bill_18 rfl (lv_at hl 1 rfl) ?_
    refine gx_readi (va_runV (As := [.int (nI k)]) (rest := []) ⟨hx, hb, hml, hown, gx_nil⟩ (c_PB_kindsThatWait F hI _ k hk) ⟨gx_cb (hg _ k_333) (hg _ k_1) (hg _ k_330) nd_PB_kindsThatWait ⟨by decide, by decide⟩, hg _ k_332, hg _ ks_11⟩ (gx_preV hV hP hD hS hA0 (va_recv hK hP rfl (hI.1))) rfl rfl hl.1 rfl (lv_room (Nat.le_of_ble_eq_true rfl)) d_PB_bill_19 ⟨by decide, by decide⟩) (fun r_19 h_19 => ?_)
    have h19 : r_19 = nI (cb_cnt (cb_qq G k) 6) := h_19
    subst h19
    refine lv_istore_n (lv' := [(2, .int (nI (cb_cnt (cb_qq G k) 6))), (0, .ref (κ 0)), (1, .int (nI k))]) hx hb d_PB_bill_22 rfl hl (by decide) rfl (fun ls hl => ?_)
    refine lv_aload_n hx hb d_PB_bill_23 rfl (lv_at hl 1 rfl) ?_
    refine va_get (D := D) (ci := iPB) (v := .ref (κ 62)) (C := R_PB) (T := F_PB) (N := 11) hx hb (fl_PB hg) (fun _ h9 => h9) hown hK hP 0 (hI.1) rfl 9 (by decide) (hg _ k_97) (fun _ h9 => h9) rfl d_PB_bill_24 ?_
    refine gx_readi (va_runV (As := []) (rest := []) ⟨hx, hb, hml, hown, gx_nil⟩ (c_AL_size F e62 _) ⟨gx_cb (hg _ k_191) (hg _ k_5) (hg _ k_188) nd_AL_size ⟨by decide, by decide⟩, hg _ k_189, hg _ k_190⟩ (gx_preV hV hP hD hS hA0 (va_recv hK hP rfl (e62))) rfl rfl hl.1 rfl (lv_room (Nat.le_of_ble_eq_true rfl)) d_PB_bill_27 ⟨by decide, by decide⟩) (fun r_27 h_27 => ?_)
    subst h_27
    refine lv_iload_n hx hb d_PB_bill_30 rfl (lv_at hl 0 rfl) ?_
    refine lv_iadd hx hb d_PB_bill_31 ?_
    rw [nI_add]
    refine lv_sipush (v := 200) hx hb d_PB_bill_32 (by decide) ?_
    refine lv_icmp_le (tgt := 48) hx hb d_PB_bill_35 (by decide) (fun c_35 => ?_) (fun c_35 => ?_)
    · skip
      have hcn : cb_cnt (cb_qq G k) 6 ≤ 6 := cb_cnt_le _ 6
      have hle : nl + cb_cnt (cb_qq G k) 6 ≤ 200 := gx_ngt (b := 200) c_35
      refine lv_iconst (v := 0) hx hb d_PB_bill_48 (by decide) ?_
      refine lv_istore_n (lv' := [(3, .int 0), (2, .int (nI (cb_cnt (cb_qq G k) 6))), (0, .ref (κ 0)), (1, .int (nI k))]) hx hb d_PB_bill_49 rfl hl (by decide) rfl (fun ls hl => ?_)
      have loop : ∀ (nn : Nat) (i : Nat) (z' : Nat → Int32) (la' lp' : Nat → Nat) (wx : va_W) (H : Heap) (locs : List Loc) (ls : Array Slot) (hi : i ≤ 6) (hf : 7 ≤ i + nn) (hz : ∀ q, q < 5 → z' q = z q) (hI : cb_I cI cC cJ cII wx κ ra z' sg G we pd) (hL : cb_L cO wx (κ 62) (z' 5) (fx_e0 F) (cb_BS (z 3) G k nl li ll i).1 la' lp' (cb_BS (z 3) G k nl li ll i).2.1 (cb_BS (z 3) G k nl li ll i).2.2) (hP : va_P D classes wx H) (hD : va_D (va_A ws sz) wx) (hS : va_S (va_A ws sz) s.heap H locs) (hl : lv_has ls 4 [(3, .int (nI i)), (0, .ref (κ 0)), (1, .int (nI k)), (2, .int (nI (cb_cnt (cb_qq G k) 6)))]), W p l e ({ frames := 9, cells := 13, slots := 2460, locals := 320 } : Room) s m ([.ref (κ 0), .int (nI k)] : List Value).toArray below meth c H locs (2 * i) (409 * i) (gx_MX below (va_Qi (fun r w1 => ∃ k9, k9 < 10 ∧ (nI k) = nI k9 ∧ nl + cb_cnt (cb_qq G k9) 6 ≤ 200 ∧ r = nI (cb_cnt (cb_qq G k9) 6) ∧ ∃ (z9 : Nat → Int32) (la9 lp9 : Nat → Nat), (∀ q, q < 4 → z9 q = z q) ∧ z9 4 = z 4 - we k9 ∧ cb_I cI cC cJ cII w1 κ ra z9 sg (cb_upg G 2 k9 (cb_fil (G 2 k9) 0 6)) (upd we k9 0) pd ∧ cb_L cO w1 (κ 62) (z9 5) (fx_e0 F) (cb_BS (z 3) G k9 nl li ll 6).1 la9 lp9 (cb_BS (z 3) G k9 nl li ll 6).2.1 (cb_BS (z 3) G k9 nl li ll 6).2.2) (gx_B D classes ws sz) (va_A ws sz)) (fun E => (E = "java/lang/IllegalArgumentException" ∧ ((nI k) < 0 ∨ nI 10 ≤ (nI k))) ∨ (E = "java/lang/IllegalStateException" ∧ ∃ k9, k9 < 10 ∧ (nI k) = nI k9 ∧ 200 < nl + cb_cnt (cb_qq G k9) 6)) ([.ref (κ 0), .int (nI k)] : List Value).toArray s 13 2460 (va_A ws sz)) (F0 m 50 ls []) := by
        intro nn
        induction nn with
        | zero =>
          intro i z' la' lp' wx H locs ls hi hf hz hI hL hP hD hS hl
          exact absurd hf (by omega)
        | succ nn ih =>
          intro i z' la' lp' wx H locs ls hi hf hz hI hL hP hD hS hl
          refine lv_iload_n hx hb d_PB_bill_50 rfl (lv_at hl 0 rfl) ?_
          refine lv_bipush (v := 6) hx hb d_PB_bill_51 (by decide) ?_
          refine lv_icmp_ge (tgt := 87) hx hb d_PB_bill_53 (by decide) (fun c_53 => ?_) (fun c_53 => ?_)
          · skip
            have hi6 : i = 6 := by have := gx_ngt (a := 6) c_53; omega
            refine lv_aload_n hx hb d_PB_bill_87 rfl (lv_at hl 1 rfl) ?_
            refine lv_iload_n hx hb d_PB_bill_88 rfl (lv_at hl 2 rfl) ?_
            refine gx_callv (va_runV (As := [.int (nI k)]) (rest := []) ⟨hx, hb, hml, hown, gx_nil⟩ (c_PB_forgetEvents F hI _ k hk) ⟨gx_cb (hg _ k_447) (hg _ k_1) (hg _ k_444) nd_PB_forgetEvents ⟨by decide, by decide⟩, hg _ k_446, hg _ ks_17⟩ (gx_preV hV hP hD hS hA0 (va_recv hK hP rfl (hI.1))) rfl rfl hl.1 rfl (lv_room (Nat.le_of_ble_eq_true rfl)) d_PB_bill_89 ⟨by show 2 * i + 0 ≤ 13; omega, by show 409 * i + 0 ≤ 2460; omega⟩) hD hS hA (fun w1 H locs h_89 hP hD hS => ?_)
            obtain ⟨hI, hh⟩ := h_89
            refine lv_iload_n hx hb d_PB_bill_92 rfl (lv_at hl 3 rfl) ?_
            exact gx_mx (gx_iret hx hb hr hlocks rfl hS hP hD (by omega) (by omega) d_PB_bill_93 (⟨k, hk, rfl, hle, rfl, upd z' 4 (z' 4 - we k), la', lp', fun q hq => (if_neg (by omega)).trans (hz q (by omega)), by show z' 4 - we k = _; rw [hz 4 (by decide)], hI, by have h9 := cb_L.of hh hL; rw [hi6] at h9; exact h9⟩))
          · skip
            have hi6 : i < 6 := gx_nlt (a := 6) c_53
            refine lv_aload_n hx hb d_PB_bill_56 rfl (lv_at hl 1 rfl) ?_
            refine va_get (D := D) (ci := iPB) (v := .ref (κ 17)) (C := R_PB) (T := F_PB) (N := 11) hx hb (fl_PB hg) (fun _ h9 => h9) hown hK hP 0 (hI.1) rfl 3 (by decide) (hg _ k_91) (fun _ h9 => h9) rfl d_PB_bill_57 ?_
            refine lv_iload_n hx hb d_PB_bill_60 rfl (lv_at hl 2 rfl) ?_
            refine gx_al hx hb hK hP 17 3 (hI.2.2.2.2.2.1 2 (by decide)) rfl rfl k (v := ra 2 k) (rfl) (hk) (by decide) (if_pos (hk)) d_PB_bill_61 ?_
            refine lv_iload_n hx hb d_PB_bill_62 rfl (lv_at hl 0 rfl) ?_
            refine gx_il hx hb hK hP (cb_gp 2 + 1 + k) 0 (hI.2.2.2.2.2.2 2 (by decide) k (hk)) rfl i (rfl) (hi6) (by decide) d_PB_bill_63 ?_
            refine lv_if_le (tgt := 81) hx hb d_PB_bill_64 (by decide) (fun c_64 => ?_) (fun c_64 => ?_)
            · skip
              have hq9 : ¬ cb_qq G k i = true := fun q => of_decide_eq_true q c_64
              refine lv_iinc (v := nI (i + 1)) (lv' := [(3, .int (nI (i + 1))), (0, .ref (κ 0)), (1, .int (nI k)), (2, .int (nI (cb_cnt (cb_qq G k) 6)))]) hx hb d_PB_bill_81 hl (k := 0) rfl (by rw [lit1]; exact nI_1 i) (by decide) rfl (fun ls hl => ?_)
              refine lv_goto (tgt := 50) hx hb d_PB_bill_84 (by decide) ?_
              exact W.widen (by omega) (by omega) (ih (i + 1) z' la' lp' _ _ _ ls (by omega) (by omega) hz hI (by rw [show cb_BS (z 3) G k nl li ll (i + 1) = _ from cb_bs_n hq9]; exact hL) hP hD hS (lv_sub hl [0, 1, 2, 3] rfl))
            · skip
              have hq9 : cb_qq G k i = true := decide_eq_true c_64
              refine lv_aload_n hx hb d_PB_bill_67 rfl (lv_at hl 1 rfl) ?_
              refine va_get (D := D) (ci := iPB) (v := .ref (κ 62)) (C := R_PB) (T := F_PB) (N := 11) hx hb (fl_PB hg) (fun _ h9 => h9) hown hK hP 0 (hI.1) rfl 9 (by decide) (hg _ k_97) (fun _ h9 => h9) rfl d_PB_bill_68 ?_
              refine lv_aload_n hx hb d_PB_bill_71 rfl (lv_at hl 1 rfl) ?_
              refine lv_iload_n hx hb d_PB_bill_72 rfl (lv_at hl 2 rfl) ?_
              refine lv_iload_n hx hb d_PB_bill_73 rfl (lv_at hl 0 rfl) ?_
              refine gx_callr (va_runV (As := [.int (nI k), .int (nI i)]) (rest := [.ref (κ 62)]) ⟨hx, hb, hml, hown, gx_nil⟩ (c_PB_billedLine F hI _ k i hk hi6) ⟨gx_cb (hg _ k_338) (hg _ k_1) (hg _ k_335) nd_PB_billedLine ⟨by decide, by decide⟩, hg _ k_337, hg _ ks_12⟩ (gx_preV hV hP hD hS hA0 (va_recv hK hP rfl (hI.1))) rfl rfl hl.1 rfl (lv_room (Nat.le_of_ble_eq_true rfl)) d_PB_bill_74 ⟨by show 2 * i + 1 ≤ 13; omega, by show 409 * i + 9 ≤ 2460; omega⟩) hD hS hA (fun r_74 w1 H locs h_74 hP hD hS => ?_)
              have h74 : w1 = wx ++ [(r_74, .inr (iLN, cb_ln (cb_bfi (z 3) G k i) (cb_bfl G k i)))] := by
                have h9 := h_74
                rw [hz 3 (by decide)] at h9
                exact h9
              have hv74 : w1[wx.length]? = some (r_74, .inr (iLN, cb_ln (cb_bfi (z 3) G k i) (cb_bfl G k i))) := by rw [h74]; exact gx_lat _ _
              have hlen : 63 < wx.length := (List.getElem?_eq_some_iff.mp hI.2.2.2.2.1).1
              obtain ⟨ea9, e629, eL9, -, -⟩ := id hL
              have hne9 : ∀ j, j < (cb_BS (z 3) G k nl li ll i).1 → lp' j ≠ wx.length := fun j hj => by have := (List.getElem?_eq_some_iff.mp (eL9 j hj).2).1; omega
              have hlt9 : (cb_BS (z 3) G k nl li ll i).1 < 200 := by have h9 : (cb_BS (z 3) G k nl li ll i).1 = nl + cb_cnt (cb_qq G k) i := cb_bs_1 i; have h8 := cb_cnt_lt hi6 hq9; omega
              replace hI : cb_I cI cC cJ cII w1 κ ra z' sg G we pd := by rw [h74]; exact cb_I.app hI
              replace hL : cb_L cO w1 (κ 62) (z' 5) (fx_e0 F) (cb_BS (z 3) G k nl li ll i).1 la' lp' (cb_BS (z 3) G k nl li ll i).2.1 (cb_BS (z 3) G k nl li ll i).2.2 := by rw [h74]; exact cb_L.app hL
              have e62w : w1[62]? = some (κ 62, .inr (iAL, [.int (z' 5), .ref ea9, .int (nI (cb_BS (z 3) G k nl li ll i).1)])) := by rw [h74]; exact gx_ap e629
              refine gx_calli (va_runV (As := [.ref r_74]) (rest := []) ⟨hx, hb, hml, hown, gx_nil⟩ (c_AL_addP F hI hL _ hv74 (by omega) hne9 hlt9) ⟨gx_cb (hg _ k_395) (hg _ k_5) (hg _ k_392) nd_AL_add ⟨by decide, by decide⟩, hg _ k_393, hg _ k_394⟩ (gx_preV hV hP hD hS hA0 (va_recv hK hP rfl (e62w))) rfl rfl hl.1 rfl (lv_room (Nat.le_of_ble_eq_true rfl)) d_PB_bill_77 ⟨by show 2 * i + 1 + 1 ≤ 13; omega, by show 409 * i + 9 + 400 ≤ 2460; omega⟩) hD hS hA (fun r_77 w1 H locs h_77 hP hD hS => ?_)
              obtain ⟨-, hI, hL⟩ := h_77
              refine lv_pop hx hb d_PB_bill_80 rfl ?_
              refine lv_iinc (v := nI (i + 1)) (lv' := [(3, .int (nI (i + 1))), (0, .ref (κ 0)), (1, .int (nI k)), (2, .int (nI (cb_cnt (cb_qq G k) 6)))]) hx hb d_PB_bill_81 hl (k := 0) rfl (by rw [lit1]; exact nI_1 i) (by decide) rfl (fun ls hl => ?_)
              refine lv_goto (tgt := 50) hx hb d_PB_bill_84 (by decide) ?_
              exact W.widen (by omega) (by omega) (ih (i + 1) (upd z' 5 (z' 5 + 1)) _ _ _ _ _ ls (by omega) (by omega) (fun q hq => (if_neg (by omega)).trans (hz q hq)) hI (by rw [show cb_BS (z 3) G k nl li ll (i + 1) = _ from cb_bs_s hq9]; exact hL) hP hD hS (lv_sub hl [0, 1, 2, 3] rfl))
      exact loop 7 0 z la lp ws s.heap [] ls (by decide) (by decide) (fun _ _ => rfl) hI hL hP hD hS (lv_sub hl [0, 2, 3, 1] rfl)
    · skip
      have hcn : cb_cnt (cb_qq G k) 6 ≤ 6 := cb_cnt_le _ 6
      have hgt : 200 < nl + cb_cnt (cb_qq G k) 6 := gx_nlt (b := 200) c_35
      exact gx_throw (own := "PortBills") (cls := "java/lang/IllegalStateException") (text := "no room for the lines") (names := fx_nm) (ik := 91) (is := 112) (ic := 95) hx hb (fx_tr F) hown (by decide +kernel) (by decide +kernel) (hg _ k_298) (hg _ k_13) (fx_str_112 F hV).choose_spec (fx_own_95 F hV _) (hl.1.trans hml.symm) d_PB_bill_38 d_PB_bill_41 d_PB_bill_42 d_PB_bill_44 d_PB_bill_47 hex (by decide) (by decide) (by decide) (by decide) hlocks (Or.inr ⟨rfl, k, hk, rfl, hgt⟩)
  · skip
    refine lv_if_ne (tgt := 17) hx hb d_PB_bill_4 (by decide) (fun c_4 => absurd c_4 (by decide)) (fun c_4 => ?_)
    exact gx_throw (own := "PortBills") (cls := "java/lang/IllegalArgumentException") (text := "no such call") (names := fx_nm) (ik := 71) (is := 103) (ic := 75) hx hb (fx_tr F) hown (by decide +kernel) (by decide +kernel) (hg _ k_215) (hg _ k_12) (fx_str_103 F hV).choose_spec (fx_own_75 F hV _) (hl.1.trans hml.symm) d_PB_bill_7 d_PB_bill_10 d_PB_bill_11 d_PB_bill_13 d_PB_bill_16 hex (by decide) (by decide) (by decide) (by decide) hlocks (Or.inl ⟨rfl, hbad⟩)
end
section
set_option maxRecDepth 100000 in
set_option maxHeartbeats 4000000 in
theorem c_PB_correct {l : Launch} {s0 : State} {D : va_G} {cI cC cJ cII cO cZ : ClassId} (F : FX l s0 D cI cC cJ cII cO cZ) {ws : va_W} {κ : Nat → Nat} {ra : Nat → Nat → Nat} {z sg : Nat → Int32} {G : Nat → Nat → Nat → Int32} {we : Nat → Int32} {pd : Nat → Int64} (hI : cb_I cI cC cJ cII ws κ ra z sg G we pd) {nl : Nat} {la lp : Nat → Nat} {li : Nat → Nat → Int32} {ll : Nat → Nat → Int64} (hL : cb_L cO ws (κ 62) (z 5) (fx_e0 F) nl la lp li ll) (sz : Nat) (hnl : nl ≤ 200) (hbz : ∀ j, j < nl → li j 6 = 0 ∨ li j 6 = 1) (p0 : Int32) (p1 : Int64)  : gx_XM l y_PB_correct [.code y_PB_correct b_PB_correct 6 (some .int)] { frames := 9, cells := 2, slots := 409, locals := 320 } (gx_P s0 D classes ws sz [.ref (κ 0), .int p0, .long p1]) (va_Qi (fun r w1 => ∃ t9, t9 < nl ∧ p0 = nI t9 ∧ ¬ p1 < 0 ∧ ¬ 1000000000000 < p1 ∧ nl < 200 ∧ ((r = -1 ∧ (¬ li t9 4 = -1 ∨ ll t9 1 = p1) ∧ w1 = ws) ∨ (r = nI nl ∧ li t9 4 = -1 ∧ ¬ ll t9 1 = p1 ∧ ∃ (la9 lp9 : Nat → Nat), cb_I cI cC cJ cII w1 κ ra (upd z 5 (z 5 + 1)) sg G we pd ∧ cb_L cO w1 (κ 62) (z 5 + 1) (fx_e0 F) (nl + 1) la9 lp9 (cb_upr li nl (upd (cb_mli (li t9 0) (li t9 1) 0 0 (nI t9) 0) 6 (li t9 6))) (cb_upr (cb_upr ll t9 (vp_updL (ll t9) 1 p1)) nl (fun _ => p1 - ll t9 1))))) (gx_B D classes ws sz) (va_A ws sz)) (fun E => (E = "java/lang/IllegalArgumentException" ∧ ((p0 < 0 ∨ nI nl ≤ p0) ∨ (p1 < 0 ∨ 1000000000000 < p1))) ∨ (E = "java/lang/IllegalStateException" ∧ ∃ t9, t9 < nl ∧ p0 = nI t9 ∧ ¬ p1 < 0 ∧ ¬ 1000000000000 < p1 ∧ ¬ nl < 200)) 2 409 (va_A ws sz) := by
  refine gx_xmet (by decide +kernel) (Nat.le_of_ble_eq_true rfl) ?_
  intro p e s m below meth c ls hx hb hr hml hown hlocks hex hsz hV hP hD hS hA hA0 hl
  have hg := fx_g F hV ([.ref (κ 0), .int p0, .long p1] : List Value).toArray
  have hK := fx_k F hV
  have hn9 := fx_n F hV
  have hl : lv_has ls 6 [(0, .ref (κ 0)), (1, .int p0), (2, .long p1)] := hl
  obtain ⟨ea, e62, eL, einj, earr⟩ := id hL
  refine lv_aload_n hx hb d_PB_correct_0 rfl (lv_at hl 0 rfl) ?_
  refine lv_iload_n hx hb d_PB_correct_1 rfl (lv_at hl 1 rfl) ?_
  refine gx_readi (va_runV (As := [.int p0]) (rest := []) ⟨hx, hb, hml, hown, gx_nil⟩ (c_PB_isLine F hI hL _ hnl _) ⟨gx_cb (hg _ k_458) (hg _ k_1) (hg _ k_455) nd_PB_isLine ⟨by decide, by decide⟩, hg _ k_457, hg _ ks_18⟩ (gx_preV hV hP hD hS hA0 (va_recv hK hP rfl (hI.1))) rfl rfl hl.1 rfl (lv_room (Nat.le_of_ble_eq_true rfl)) d_PB_correct_2 ⟨by decide, by decide⟩) (fun r_2 h_2 => ?_)
  rcases h_2 with ⟨rfl, t, ht, rfl⟩ | ⟨rfl, hbad⟩
  · skip
    refine lv_if_eq (tgt := 22) hx hb d_PB_correct_5 (by decide) (fun c_5 => absurd c_5 (by decide)) (fun c_5 => ?_)
    refine lv_lload_n hx hb d_PB_correct_8 rfl (lv_at hl 2 rfl) ?_
    refine lv_lconst (v := 0) hx hb d_PB_correct_9 (by decide) ?_
    refine W.lcmp hx hb d_PB_correct_10 ?_
    refine lv_if_lt (tgt := 22) hx hb d_PB_correct_11 (by decide) (fun c_11 => ?_) (fun c_11 => ?_)
    · skip
      have hbad : p1 < 0 ∨ 1000000000000 < p1 := Or.inl ((lg_cmp_lt _ _).mp c_11)
      exact gx_throw (own := "PortBills") (cls := "java/lang/IllegalArgumentException") (text := "no such line or cents") (names := fx_nm) (ik := 71) (is := 131) (ic := 75) hx hb (fx_tr F) hown (by decide +kernel) (by decide +kernel) (hg _ k_215) (hg _ k_12) (fx_str_131 F hV).choose_spec (fx_own_75 F hV _) (hl.1.trans hml.symm) d_PB_correct_22 d_PB_correct_25 d_PB_correct_26 d_PB_correct_28 d_PB_correct_31 hex (by decide) (by decide) (by decide) (by decide) hlocks (Or.inl ⟨rfl, Or.inr hbad⟩)
    · skip
      have hlo : ¬ p1 < 0 := fun q => c_11 ((lg_cmp_lt _ _).mpr q)
      refine lv_lload_n hx hb d_PB_correct_14 rfl (lv_at hl 2 rfl) ?_
      refine lv_ldc2 (v := 1000000000000) hx hb hown (hg _ k_459) d_PB_correct_15 ?_
      refine W.lcmp hx hb d_PB_correct_18 ?_
      refine lv_if_le (tgt := 32) hx hb d_PB_correct_19 (by decide) (fun c_19 => ?_) (fun c_19 => ?_)
      · skip
        have hmo : ¬ 1000000000000 < p1 := Int64.not_lt.mpr ((lg_cmp_le _ _).mp c_19)
        refine lv_aload_n hx hb d_PB_correct_32 rfl (lv_at hl 0 rfl) ?_
        refine va_get (D := D) (ci := iPB) (v := .ref (κ 62)) (C := R_PB) (T := F_PB) (N := 11) hx hb (fl_PB hg) (fun _ h9 => h9) hown hK hP 0 (hI.1) rfl 9 (by decide) (hg _ k_97) (fun _ h9 => h9) rfl d_PB_correct_33 ?_
        refine gx_readi (va_runV (As := []) (rest := []) ⟨hx, hb, hml, hown, gx_nil⟩ (c_AL_size F e62 _) ⟨gx_cb (hg _ k_191) (hg _ k_5) (hg _ k_188) nd_AL_size ⟨by decide, by decide⟩, hg _ k_189, hg _ k_190⟩ (gx_preV hV hP hD hS hA0 (va_recv hK hP rfl (e62))) rfl rfl hl.1 rfl (lv_room (Nat.le_of_ble_eq_true rfl)) d_PB_correct_36 ⟨by decide, by decide⟩) (fun r_36 h_36 => ?_)
        subst h_36
        refine lv_sipush (v := 200) hx hb d_PB_correct_39 (by decide) ?_
        refine lv_icmp_lt (tgt := 55) hx hb d_PB_correct_42 (by decide) (fun c_42 => ?_) (fun c_42 => ?_)
        · skip
          have hnl2 : nl < 200 := gx_ltn (b := 200) c_42
          obtain ⟨ep, cap, ef, ea0, ea5, ea6, ea7, ea1, ea2, ea3⟩ : ∃ (ep cap : Nat) (ef : Nat → Option Nat), 64 ≤ ep ∧ nl ≤ cap ∧ 10 ≤ cap ∧ cap ≤ 400 ∧ ws[ep]? = some (ea, .inl (cO, cap, .inr (.inr (.inr (.inr ef))))) ∧ (∀ j, j < nl → ef j = some (la j)) ∧ ∀ j, j < cap → ∀ y, ef j = some y → ∃ i, i < nl ∧ y = la i := earr.resolve_left (fun q => absurd q.1 (by omega))
          refine lv_aload_n hx hb d_PB_correct_55 rfl (lv_at hl 0 rfl) ?_
          refine va_get (D := D) (ci := iPB) (v := .ref (κ 62)) (C := R_PB) (T := F_PB) (N := 11) hx hb (fl_PB hg) (fun _ h9 => h9) hown hK hP 0 (hI.1) rfl 9 (by decide) (hg _ k_97) (fun _ h9 => h9) rfl d_PB_correct_56 ?_
          refine lv_iload_n hx hb d_PB_correct_59 rfl (lv_at hl 1 rfl) ?_
          refine gx_readr (va_runV (As := [.int (nI t)]) (rest := []) ⟨hx, hb, hml, hown, gx_nil⟩ (c_AL_get F e62 ea1 _ t (la t) (by omega) (by omega) (nI_lt (ht) (by omega)) (ea2 t (ht))) ⟨gx_cb (hg _ k_195) (hg _ k_5) (hg _ k_192) nd_AL_get ⟨by decide, by decide⟩, hg _ k_193, hg _ k_194⟩ (gx_preV hV hP hD hS hA0 (va_recv hK hP rfl (e62))) rfl rfl hl.1 rfl (lv_room (Nat.le_of_ble_eq_true rfl)) d_PB_correct_60 ⟨by decide, by decide⟩) (fun r_60 h_60 => ?_)
          subst h_60
          refine va_castS hx hb hown (hg _ k_206) (hK.1 iLN _ rfl).2 (va_recv hK hP rfl ((eL t (ht)).2)) d_PB_correct_63 ?_
          refine lv_astore (lv' := [(4, .ref (la t)), (0, .ref (κ 0)), (1, .int (nI t)), (2, .long p1)]) hx hb d_PB_correct_66 hl (by decide) rfl (fun ls hl => ?_)
          refine lv_aload hx hb d_PB_correct_68 (lv_at hl 0 rfl) ?_
          refine gx_readi (va_runVN (As := []) (rest := []) ⟨hx, hb, hml, hown, gx_nil⟩ (c_LN_isCorrection F (eL t ht).2 _) ⟨gx_cn (hg _ k_465) (hg _ k_15) (hn9 _ kn_462) nd_LN_isCorrection ⟨by decide, by decide⟩, hg _ k_464, hg _ ks_19⟩ (gx_preV hV hP hD hS hA0 (va_recv hK hP rfl ((eL t ht).2))) rfl rfl hl.1 rfl (lv_room (Nat.le_of_ble_eq_true rfl)) d_PB_correct_70 ⟨by decide, by decide⟩) (fun r_70 h_70 => ?_)
          rcases h_70 with ⟨rfl, hcor⟩ | ⟨rfl, hcor⟩
          · skip
            refine lv_if_ne (tgt := 86) hx hb d_PB_correct_73 (by decide) (fun c_73 => absurd c_73 (by decide)) (fun c_73 => ?_)
            refine lv_aload hx hb d_PB_correct_76 (lv_at hl 0 rfl) ?_
            refine va_getN (D := D) (ci := iLN) (v := .long (ll t 1)) (C := R_LN) (T := F_LN) (N := 9) hx hb (fl_LN hg) (fun _ h9 => h9) hown hK hP (lp t) ((eL t (ht)).2) rfl 8 (by decide) (va_Nw.use rfl (hn9 _ kn_372)) (fun _ h9 => h9) rfl d_PB_correct_78 ?_
            refine lv_lload_n hx hb d_PB_correct_81 rfl (lv_at hl 3 rfl) ?_
            refine W.lcmp hx hb d_PB_correct_82 ?_
            refine lv_if_ne (tgt := 88) hx hb d_PB_correct_83 (by decide) (fun c_83 => ?_) (fun c_83 => ?_)
            · skip
              have hdiff : ¬ ll t 1 = p1 := fun q => c_83 ((lg_cmp_eq _ _).mpr q)
              refine va_new (fs := [.int 0, .int 0, .int 0, .int 0, .long 0, .int 0, .int 0, .int 0, .long 0]) hx hb (fl_LN hg) (fun _ h9 => h9) t_LN t_LN_ok hown (hg _ k_206) (hg _ k_342) (hg _ k_15) hK hP hD hS hA (ci := iLN) rfl (by decide +kernel) (by decide) (by decide) d_PB_correct_88 (fun qn H hP hD hS => ?_)
              obtain ⟨w2, ew2⟩ : ∃ x : va_W, x = ws ++ [(qn, .inr (iLN, [.int 0, .int 0, .int 0, .int 0, .long 0, .int 0, .int 0, .int 0, .long 0]))] := ⟨_, rfl⟩
              rw [← ew2] at hP hD
              have hn2 : w2[ws.length]? = some (qn, .inr (iLN, [.int 0, .int 0, .int 0, .int 0, .long 0, .int 0, .int 0, .int 0, .long 0])) := by rw [ew2]; exact gx_lat _ _
              have ht2 : w2[lp t]? = some (la t, .inr (iLN, cb_ln (li t) (ll t))) := by rw [ew2]; exact gx_ap (eL t ht).2
              have hlen : 63 < ws.length := (List.getElem?_eq_some_iff.mp hI.2.2.2.2.1).1
              have htl : lp t < ws.length := (List.getElem?_eq_some_iff.mp (eL t ht).2).1
              refine lv_dup hx hb d_PB_correct_91 rfl ?_
              refine lv_aload hx hb d_PB_correct_92 (lv_at hl 0 rfl) ?_
              refine va_getN (D := D) (ci := iLN) (v := .int (li t 0)) (C := R_LN) (T := F_LN) (N := 9) hx hb (fl_LN hg) (fun _ h9 => h9) hown hK hP (lp t) (ht2) rfl 0 (by decide) (va_Nw.use rfl (hn9 _ kn_359)) (fun _ h9 => h9) rfl d_PB_correct_94 ?_
              refine lv_aload hx hb d_PB_correct_97 (lv_at hl 0 rfl) ?_
              refine va_getN (D := D) (ci := iLN) (v := .int (li t 1)) (C := R_LN) (T := F_LN) (N := 9) hx hb (fl_LN hg) (fun _ h9 => h9) hown hK hP (lp t) (ht2) rfl 1 (by decide) (va_Nw.use rfl (hn9 _ kn_361)) (fun _ h9 => h9) rfl d_PB_correct_99 ?_
              refine lv_iconst (v := 0) hx hb d_PB_correct_102 (by decide) ?_
              refine lv_iconst (v := 0) hx hb d_PB_correct_103 (by decide) ?_
              refine lv_lload_n hx hb d_PB_correct_104 rfl (lv_at hl 3 rfl) ?_
              refine lv_aload hx hb d_PB_correct_105 (lv_at hl 0 rfl) ?_
              refine va_getN (D := D) (ci := iLN) (v := .long (ll t 1)) (C := R_LN) (T := F_LN) (N := 9) hx hb (fl_LN hg) (fun _ h9 => h9) hown hK hP (lp t) (ht2) rfl 8 (by decide) (va_Nw.use rfl (hn9 _ kn_372)) (fun _ h9 => h9) rfl d_PB_correct_107 ?_
              refine lv_lsub hx hb d_PB_correct_110 ?_
              refine lv_iload_n hx hb d_PB_correct_111 rfl (lv_at hl 2 rfl) ?_
              refine lv_iconst (v := 0) hx hb d_PB_correct_112 (by decide) ?_
              refine gx_callv (va_runIN (As := [.int (li t 0), .int (li t 1), .int 0, .int 0, .long (p1 - (ll t 1)), .int (nI t), .int 0]) (rest := [.ref qn]) ⟨hx, hb, hml, hown, gx_nil⟩ (c_LN_init F hn2 _ _ _ _ _ _ _ _ (Or.inl rfl)) ⟨gx_cn (hg _ k_356) (hg _ k_15) (hn9 _ kn_354) nd_LN_init ⟨by decide, by decide⟩, rfl, hg _ k_355⟩ (gx_preS hV hP hD hS hA0) rfl rfl hl.1 rfl (lv_room (Nat.le_of_ble_eq_true rfl)) d_PB_correct_113 ⟨by decide, by decide⟩) hD hS hA (fun w1 H locs h_113 hP hD hS => ?_)
              have h113 : w1 = ws ++ [(qn, .inr (iLN, cb_ln (cb_mli (li t 0) (li t 1) 0 0 (nI t) 0) (fun _ => p1 - ll t 1)))] := by rw [h_113, ew2, gx_las]
              have hn3 : w1[ws.length]? = some (qn, .inr (iLN, cb_ln (cb_mli (li t 0) (li t 1) 0 0 (nI t) 0) (fun _ => p1 - ll t 1))) := by rw [h113]; exact gx_lat _ _
              have ht3 : w1[lp t]? = some (la t, .inr (iLN, cb_ln (li t) (ll t))) := by rw [h113]; exact gx_ap (eL t ht).2
              refine lv_astore (lv' := [(5, .ref qn), (4, .ref (la t)), (0, .ref (κ 0)), (1, .int (nI t)), (2, .long p1)]) hx hb d_PB_correct_116 hl (by decide) rfl (fun ls hl => ?_)
              refine lv_aload hx hb d_PB_correct_118 (lv_at hl 0 rfl) ?_
              refine lv_aload hx hb d_PB_correct_120 (lv_at hl 1 rfl) ?_
              refine va_getN (D := D) (ci := iLN) (v := .int (li t 6)) (C := R_LN) (T := F_LN) (N := 9) hx hb (fl_LN hg) (fun _ h9 => h9) hown hK hP (lp t) (ht3) rfl 7 (by decide) (va_Nw.use rfl (hn9 _ kn_370)) (fun _ h9 => h9) rfl d_PB_correct_122 ?_
              refine va_putN (D := D) (ci := iLN) (v := .int (li t 6)) (ty := .boolean) (C := R_LN) (T := F_LN) (N := 9) hx hb (fl_LN hg) (fun _ h9 => h9) t_LN t_LN_ok n_LN hown hK hP hD hS ws.length (hn3) rfl 7 (by decide) (va_Nw.use rfl (hn9 _ kn_370)) (fun _ h9 => h9) rfl (by decide +kernel) (by rcases hbz t ht with h | h <;> rw [h] <;> rfl) (by rcases hbz t ht with h | h <;> rw [h] <;> rfl) (Nat.le_of_ble_eq_true rfl) d_PB_correct_125 (fun H locs hP hD hS => ?_)
              obtain ⟨w3, ew3⟩ : ∃ x : va_W, x = ws ++ [(qn, .inr (iLN, cb_ln (upd (cb_mli (li t 0) (li t 1) 0 0 (nI t) 0) 6 (li t 6)) (fun _ => p1 - ll t 1)))] := ⟨_, rfl⟩
              have es3 : w1.set ws.length (qn, .inr (iLN, cb_ln (upd (cb_mli (li t 0) (li t 1) 0 0 (nI t) 0) 6 (li t 6)) (fun _ => p1 - ll t 1))) = w3 := by rw [h113, gx_las, ew3]
              replace hP : va_P D classes w3 H := by rw [← es3]; exact hP
              replace hD : va_D (va_A ws sz) w3 := by rw [← es3]; exact hD
              have ht4 : w3[lp t]? = some (la t, .inr (iLN, cb_ln (li t) (ll t))) := by rw [ew3]; exact gx_ap (eL t ht).2
              have hn4 : w3[ws.length]? = some (qn, .inr (iLN, cb_ln (upd (cb_mli (li t 0) (li t 1) 0 0 (nI t) 0) 6 (li t 6)) (fun _ => p1 - ll t 1))) := by rw [ew3]; exact gx_lat _ _
              refine lv_aload hx hb d_PB_correct_128 (lv_at hl 1 rfl) ?_
              refine lv_lload_n hx hb d_PB_correct_130 rfl (lv_at hl 4 rfl) ?_
              refine va_putN (D := D) (ci := iLN) (v := .long p1) (ty := .long) (C := R_LN) (T := F_LN) (N := 9) hx hb (fl_LN hg) (fun _ h9 => h9) t_LN t_LN_ok n_LN hown hK hP hD hS (lp t) (ht4) rfl 8 (by decide) (va_Nw.use rfl (hn9 _ kn_372)) (fun _ h9 => h9) rfl (by decide +kernel) rfl rfl (Nat.le_of_ble_eq_true rfl) d_PB_correct_131 (fun H locs hP hD hS => ?_)
              obtain ⟨w4, ew4⟩ : ∃ x : va_W, x = w3.set (lp t) (la t, .inr (iLN, cb_ln (li t) (vp_updL (ll t) 1 p1))) := ⟨_, rfl⟩
              replace hP : va_P D classes w4 H := by rw [ew4]; exact hP
              replace hD : va_D (va_A ws sz) w4 := by rw [ew4]; exact hD
              have h64 := (eL t ht).1
              have hn5 : w4[ws.length]? = some (qn, .inr (iLN, cb_ln (upd (cb_mli (li t 0) (li t 1) 0 0 (nI t) 0) 6 (li t 6)) (fun _ => p1 - ll t 1))) := by rw [ew4]; exact gx_sn (by omega) hn4
              have hI4 : cb_I cI cC cJ cII w4 κ ra z sg G we pd := by rw [ew4]; exact cb_I.hi (by omega) (by omega) (by rw [ew3]; exact cb_I.app hI)
              have hL4 := cb_L.line (a := li t) (b := vp_updL (ll t) 1 p1) ht (show cb_L cO w3 (κ 62) (z 5) (fx_e0 F) nl la lp li ll by rw [ew3]; exact cb_L.app hL)
              rw [← ew4, cb_upr_id] at hL4
              have hne9 : ∀ j, j < nl → lp j ≠ ws.length := fun j hj => by have := (List.getElem?_eq_some_iff.mp (eL j hj).2).1; omega
              obtain ⟨ea4, e624, -, -, -⟩ := id hL4
              replace hI := hI4
              refine lv_aload_n hx hb d_PB_correct_134 rfl (lv_at hl 2 rfl) ?_
              refine va_get (D := D) (ci := iPB) (v := .ref (κ 62)) (C := R_PB) (T := F_PB) (N := 11) hx hb (fl_PB hg) (fun _ h9 => h9) hown hK hP 0 (hI.1) rfl 9 (by decide) (hg _ k_97) (fun _ h9 => h9) rfl d_PB_correct_135 ?_
              refine lv_aload hx hb d_PB_correct_138 (lv_at hl 0 rfl) ?_
              refine gx_calli (va_runV (As := [.ref qn]) (rest := []) ⟨hx, hb, hml, hown, gx_nil⟩ (c_AL_addP F hI4 hL4 _ hn5 (by omega) hne9 hnl2) ⟨gx_cb (hg _ k_395) (hg _ k_5) (hg _ k_392) nd_AL_add ⟨by decide, by decide⟩, hg _ k_393, hg _ k_394⟩ (gx_preV hV hP hD hS hA0 (va_recv hK hP rfl (e624))) rfl rfl hl.1 rfl (lv_room (Nat.le_of_ble_eq_true rfl)) d_PB_correct_140 ⟨by decide, by decide⟩) hD hS hA (fun r_140 w1 H locs h_140 hP hD hS => ?_)
              obtain ⟨-, hI, hL⟩ := h_140
              obtain ⟨ea5, e625, -, -, -⟩ := id hL
              refine lv_pop hx hb d_PB_correct_143 rfl ?_
              refine lv_aload_n hx hb d_PB_correct_144 rfl (lv_at hl 2 rfl) ?_
              refine va_get (D := D) (ci := iPB) (v := .ref (κ 62)) (C := R_PB) (T := F_PB) (N := 11) hx hb (fl_PB hg) (fun _ h9 => h9) hown hK hP 0 (hI.1) rfl 9 (by decide) (hg _ k_97) (fun _ h9 => h9) rfl d_PB_correct_145 ?_
              refine gx_readi (va_runV (As := []) (rest := []) ⟨hx, hb, hml, hown, gx_nil⟩ (c_AL_size F e625 _) ⟨gx_cb (hg _ k_191) (hg _ k_5) (hg _ k_188) nd_AL_size ⟨by decide, by decide⟩, hg _ k_189, hg _ k_190⟩ (gx_preV hV hP hD hS hA0 (va_recv hK hP rfl (e625))) rfl rfl hl.1 rfl (lv_room (Nat.le_of_ble_eq_true rfl)) d_PB_correct_148 ⟨by decide, by decide⟩) (fun r_148 h_148 => ?_)
              subst h_148
              refine lv_iconst (v := 1) hx hb d_PB_correct_151 (by decide) ?_
              refine lv_isub hx hb d_PB_correct_152 ?_
              rw [nI_pred]
              exact gx_mx (gx_iret hx hb hr hlocks rfl hS hP hD (by decide) (by decide) d_PB_correct_153 (⟨t, ht, rfl, hlo, hmo, hnl2, Or.inr ⟨rfl, hcor, hdiff, _, _, hI, hL⟩⟩))
            · skip
              have hsame : ll t 1 = p1 := (lg_cmp_eq _ _).mp c_83
              refine lv_iconst (v := (-1)) hx hb d_PB_correct_86 (by decide) ?_
              exact gx_mx (gx_iret hx hb hr hlocks rfl hS hP hD (by decide) (by decide) d_PB_correct_87 (⟨t, ht, rfl, hlo, hmo, hnl2, Or.inl ⟨rfl, Or.inr hsame, rfl⟩⟩))
          · skip
            refine lv_if_ne (tgt := 86) hx hb d_PB_correct_73 (by decide) (fun c_73 => ?_) (fun c_73 => absurd c_73 (by decide))
            refine lv_iconst (v := (-1)) hx hb d_PB_correct_86 (by decide) ?_
            exact gx_mx (gx_iret hx hb hr hlocks rfl hS hP hD (by decide) (by decide) d_PB_correct_87 (⟨t, ht, rfl, hlo, hmo, hnl2, Or.inl ⟨rfl, Or.inl hcor, rfl⟩⟩))
        · skip
          have hnl2 : ¬ nl < 200 := gx_nltn (b := 200) c_42
          exact gx_throw (own := "PortBills") (cls := "java/lang/IllegalStateException") (text := "no room for the line") (names := fx_nm) (ik := 91) (is := 133) (ic := 95) hx hb (fx_tr F) hown (by decide +kernel) (by decide +kernel) (hg _ k_298) (hg _ k_13) (fx_str_133 F hV).choose_spec (fx_own_95 F hV _) (hl.1.trans hml.symm) d_PB_correct_45 d_PB_correct_48 d_PB_correct_49 d_PB_correct_51 d_PB_correct_54 hex (by decide) (by decide) (by decide) (by decide) hlocks (Or.inr ⟨rfl, t, ht, rfl, hlo, hmo, hnl2⟩)
      · skip
        have hbad : p1 < 0 ∨ 1000000000000 < p1 := Or.inr (Int64.not_le.mp (fun q => c_19 ((lg_cmp_le _ _).mpr q)))
        exact gx_throw (own := "PortBills") (cls := "java/lang/IllegalArgumentException") (text := "no such line or cents") (names := fx_nm) (ik := 71) (is := 131) (ic := 75) hx hb (fx_tr F) hown (by decide +kernel) (by decide +kernel) (hg _ k_215) (hg _ k_12) (fx_str_131 F hV).choose_spec (fx_own_75 F hV _) (hl.1.trans hml.symm) d_PB_correct_22 d_PB_correct_25 d_PB_correct_26 d_PB_correct_28 d_PB_correct_31 hex (by decide) (by decide) (by decide) (by decide) hlocks (Or.inl ⟨rfl, Or.inr hbad⟩)
  · skip
    refine lv_if_eq (tgt := 22) hx hb d_PB_correct_5 (by decide) (fun c_5 => ?_) (fun c_5 => absurd c_5 (by decide))
    exact gx_throw (own := "PortBills") (cls := "java/lang/IllegalArgumentException") (text := "no such line or cents") (names := fx_nm) (ik := 71) (is := 131) (ic := 75) hx hb (fx_tr F) hown (by decide +kernel) (by decide +kernel) (hg _ k_215) (hg _ k_12) (fx_str_131 F hV).choose_spec (fx_own_75 F hV _) (hl.1.trans hml.symm) d_PB_correct_22 d_PB_correct_25 d_PB_correct_26 d_PB_correct_28 d_PB_correct_31 hex (by decide) (by decide) (by decide) (by decide) hlocks (Or.inl ⟨rfl, Or.inl hbad⟩)
end
section
/-! A NEW OBJECT: what its making needs -/
section FXi
variable {s : State} {D : va_G} {cI cC cJ cII cO cZ cA : ClassId}
theorem gx_sameI (hK : va_K D classes (fx_ty cI cC cJ cII cO cZ ++ [(cA, .int)]) s) : cA = cI := by
  have h1 : s.vm.findClass ("[" ++ FieldType.int.toString) = some cA := (hK.2 6 _ rfl).2
  have h2 : s.vm.findClass ("[" ++ FieldType.int.toString) = some cI := (hK.2 0 _ rfl).2
  exact Option.some.inj (h1.symm.trans h2)
theorem gx_sameC (hK : va_K D classes (fx_ty cI cC cJ cII cO cZ ++ [(cA, .char)]) s) : cA = cC := by
  have h1 : s.vm.findClass ("[" ++ FieldType.char.toString) = some cA := (hK.2 6 _ rfl).2
  have h2 : s.vm.findClass ("[" ++ FieldType.char.toString) = some cC := (hK.2 1 _ rfl).2
  exact Option.some.inj (h1.symm.trans h2)
theorem gx_sameJ (hK : va_K D classes (fx_ty cI cC cJ cII cO cZ ++ [(cA, .long)]) s) : cA = cJ := by
  have h1 : s.vm.findClass ("[" ++ FieldType.long.toString) = some cA := (hK.2 6 _ rfl).2
  have h2 : s.vm.findClass ("[" ++ FieldType.long.toString) = some cJ := (hK.2 2 _ rfl).2
  exact Option.some.inj (h1.symm.trans h2)
theorem gx_sameZ (hK : va_K D classes (fx_ty cI cC cJ cII cO cZ ++ [(cA, .boolean)]) s) : cA = cZ := by
  have h1 : s.vm.findClass ("[" ++ FieldType.boolean.toString) = some cA := (hK.2 6 _ rfl).2
  have h2 : s.vm.findClass ("[" ++ FieldType.boolean.toString) = some cZ := (hK.2 5 _ rfl).2
  exact Option.some.inj (h1.symm.trans h2)
end FXi
def gx_grid (cI cII : ClassId) (h N K : Nat) : va_W := (h, .inl (cII, N, .inr (.inr (.inr (.inr (fun j => if j < N then some (h + 1 + j) else none)))))) :: (List.range N).map (fun j => (h + 1 + j, .inl (cI, K, .inl (fun _ => 0))))
theorem gx_grid_len {cI cII : ClassId} {h N K : Nat} : (gx_grid cI cII h N K).length = N + 1 := by simp [gx_grid]
theorem gx_grid_0 {w : va_W} {cI cII : ClassId} {h N K n : Nat} (hn : w.length = n) : (w ++ gx_grid cI cII h N K)[n]? = some (h, .inl (cII, N, .inr (.inr (.inr (.inr (fun j => if j < N then some (h + 1 + j) else none)))))) := by
  subst hn
  rw [List.getElem?_append_right (Nat.le_refl _), Nat.sub_self]
  rfl
theorem gx_grid_s {w : va_W} {cI cII : ClassId} {h N K n i : Nat} (hn : w.length = n) (hi : i < N) : (w ++ gx_grid cI cII h N K)[n + 1 + i]? = some (h + 1 + i, .inl (cI, K, .inl (fun _ => 0))) := by
  subst hn
  rw [List.getElem?_append_right (by omega), show w.length + 1 + i - w.length = i + 1 by omega]
  simp [gx_grid, hi]
theorem gx_lat2 {w : va_W} {x : Nat × va_E} {n : Nat} (hn : w.length = n) : (w ++ [x])[n]? = some x := by
  subst hn
  exact gx_lat _ _
def cb_κ0 (a tt qs h3 h10 h17 q28 h29 h40 h51 q62 q63 : Nat) : Nat → Nat := fun k => if k = 0 then a else if k = 1 then tt else if k = 2 then qs else if k = 3 then h3 else if k = 10 then h10 else if k = 17 then h17 else if k = 28 then q28 else if k = 29 then h29 else if k = 40 then h40 else if k = 51 then h51 else if k = 62 then q62 else q63
def cb_ra0 (h3 h10 h17 h29 h40 h51 : Nat) : Nat → Nat → Nat := fun g i => (if g = 0 then h3 else if g = 1 then h10 else if g = 2 then h17 else if g = 3 then h29 else if g = 4 then h40 else h51) + 1 + i
/-- a kind's row without a tariff -/
def cb_t0 : Nat → Int32 := upd (upd (fun _ => 0) 0 7) 1 1
theorem cb_t0_s {G : Nat → Nat → Nat → Int32} {i : Nat} {f : Nat → Int32} (h : ∀ k, G 1 k = if k < i then cb_t0 else fun _ => 0) : ∀ k, cb_upg (cb_upg G 1 i f) 1 i (upd (upd (G 1 i) 0 7) 1 1) 1 k = if k < i + 1 then cb_t0 else fun _ => 0 := by
  intro k
  rw [cb_gg]
  by_cases e : k = i
  · subst e
    rw [cb_upg_s, if_pos (by omega), h k, if_neg (by omega)]
    rfl
  · rw [cb_upg_n (fun q => e q.2), h k]
    by_cases q : k < i
    · rw [if_pos q, if_pos (by omega)]
    · rw [if_neg q, if_neg (by omega)]
theorem cb_f0_s {G : Nat → Nat → Nat → Int32} {g i : Nat} (h : ∀ k, G g k = if k < i then cb_fil (fun _ => 0) 1 6 else fun _ => 0) : ∀ k, cb_upg G g i (cb_fil (G g i) 1 6) g k = if k < i + 1 then cb_fil (fun _ => 0) 1 6 else fun _ => 0 := by
  intro k
  by_cases e : k = i
  · subst e
    rw [cb_upg_s, if_pos (by omega), h k, if_neg (by omega)]
  · rw [cb_upg_n (fun q => e q.2), h k]
    by_cases q : k < i
    · rw [if_pos q, if_pos (by omega)]
    · rw [if_neg q, if_neg (by omega)]
theorem cb_gk {G : Nat → Nat → Nat → Int32} {h i : Nat} {f : Nat → Int32} : ∀ g, g ≠ h → cb_upg G h i f g = G g := fun g hg => funext fun j => by simp [cb_upg, hg]
end
section
theorem gx_tti {ws : va_W} {q : Nat} {x c1 c2 : Nat × va_E} {g : va_W} (hq : q < ws.length) : (((ws ++ [x]).set q c1) ++ g).set q c2 = (ws.set q c2 ++ [x]) ++ g := by
  rw [List.set_append_left _ _ (by rw [List.length_set, List.length_append]; omega), List.set_set, List.set_append_left _ _ hq]

set_option maxRecDepth 100000 in
set_option maxHeartbeats 4000000 in
theorem c_TT_init {l : Launch} {s0 : State} {D : va_G} {cI cC cJ cII cO cZ : ClassId} (F : FX l s0 D cI cC cJ cII cO cZ) {ws : va_W} {q a : Nat} (he : ws[q]? = some (a, .inr (iTT, [.null, .int 0, .int 0, .null, .int 0]))) (sz : Nat)   : Met l y_TT_init [.code y_TT_init b_TT_init 1 none] { frames := 1, cells := 8, slots := 150, locals := 20 } (gx_P s0 D classes ws sz [.ref a]) (va_Qv (fun w1 => ∃ qs hh, w1 = (ws.set q (a, .inr (iTT, [.ref qs, .int 0, .int 0, .ref hh, .int 0])) ++ [(qs, .inl (cC, 120, .inl (fun _ => 0)))]) ++ gx_grid cI cII hh 6 4) (gx_B D classes ws sz) (va_A ws sz)) 8 150 (va_A ws sz) := by
  refine gx_met (by decide +kernel) (Nat.le_of_ble_eq_true rfl) ?_
  intro p e s m below meth c ls hx hb hr hml hown hlocks hnm hsz hV hP hD hS hA hA0 hl
  have hg := fx_g F hV ([.ref a] : List Value).toArray
  have hK := fx_k F hV
  have hn9 := fx_n F hV
  have hl : lv_has ls 1 [(0, .ref a)] := hl
  refine lv_aload_n hx hb d_TT_init_0 rfl (lv_at hl 0 rfl) ?_
  refine W.objInit hx hb hown (hg _ k_34) (hg _ k_27) (hg _ k_28) rfl (by rw [hml]; exact hl.1) rfl d_TT_init_1 (Nat.le_of_ble_eq_true rfl) (Nat.le_of_ble_eq_true rfl) ?_
  refine lv_aload_n hx hb d_TT_init_4 rfl (lv_at hl 0 rfl) ?_
  refine lv_bipush (v := 120) hx hb d_TT_init_5 (by decide) ?_
  refine va_newa (atype := .char) (ty := .char) (a0 := (120, .inl (fun _ => 0))) (N' := 120) hx hb (hg _ k_56) rfl hK hP hD hS hA (fun _ => rfl) (by decide) (by decide) (by decide) (by decide) (by decide) d_TT_init_7 (fun qs cA H hK9 hP hD hS => ?_)
  have eA := gx_sameC hK9
  rw [eA] at hP hD
  clear eA hK9 cA
  refine va_putF (D := D) (ci := iTT) (v := .ref qs) (ty := .array .char) (C := R_TT) (T := F_TT) (N := 5) hx hb (fl_TT hg) (fun _ h9 => h9) t_TT t_TT_ok n_TT hown hK hP hD hS q (gx_ap he) rfl 0 (by decide) (hg _ k_37) (fun _ h9 => h9) rfl hnm rfl (by decide +kernel) rfl rfl (Nat.le_of_ble_eq_true rfl) d_TT_init_9 (fun H locs hP hD hS => ?_)
  obtain ⟨w_1, ew_1⟩ : ∃ x : va_W, x = (ws ++ ([(qs, .inl (cC, 120, .inl (fun _ => 0)))] : va_W)).set q (a, .inr (iTT, [.ref qs, .int 0, .int 0, .null, .int 0])) := ⟨_, rfl⟩
  replace hP : va_P D classes w_1 H := by rw [ew_1]; exact hP
  replace hD : va_D (va_A ws sz) w_1 := by rw [ew_1]; exact hD
  have hew_1 : w_1[q]? = some (a, .inr (iTT, [.ref qs, .int 0, .int 0, .null, .int 0])) := by rw [ew_1]; exact gx_ss (gx_ap he)
  refine lv_aload_n hx hb d_TT_init_12 rfl (lv_at hl 0 rfl) ?_
  refine lv_bipush (v := 6) hx hb d_TT_init_13 (by decide) ?_
  refine lv_iconst (v := 4) hx hb d_TT_init_15 (by decide) ?_
  refine gx_mna hx hb hown (hg _ k_35) (fx_aoI F hV _) (hg _ k_57) (gx_nI hK) (gx_nII hK) hP hD hS hA (N := 6) (K := 4) (by decide) (by decide) (by decide) (by decide) (by decide) (by decide) (by decide) (by decide) d_TT_init_16 (fun hh H locs hP hD hS => ?_)
  replace hP : va_P D classes (w_1 ++ gx_grid cI cII hh 6 4) H := hP
  replace hD : va_D (va_A ws sz) (w_1 ++ gx_grid cI cII hh 6 4) := hD
  refine va_putF (D := D) (ci := iTT) (v := .ref hh) (ty := .array (.array .int)) (C := R_TT) (T := F_TT) (N := 5) hx hb (fl_TT hg) (fun _ h9 => h9) t_TT t_TT_ok n_TT hown hK hP hD hS q (gx_ap hew_1) rfl 3 (by decide) (hg _ k_41) (fun _ h9 => h9) rfl hnm rfl (by decide +kernel) rfl rfl (Nat.le_of_ble_eq_true rfl) d_TT_init_20 (fun H locs hP hD hS => ?_)
  obtain ⟨w_2, ew_2⟩ : ∃ x : va_W, x = (w_1 ++ gx_grid cI cII hh 6 4).set q (a, .inr (iTT, [.ref qs, .int 0, .int 0, .ref hh, .int 0])) := ⟨_, rfl⟩
  replace hP : va_P D classes w_2 H := by rw [ew_2]; exact hP
  replace hD : va_D (va_A ws sz) w_2 := by rw [ew_2]; exact hD
  have hew_2 : w_2[q]? = some (a, .inr (iTT, [.ref qs, .int 0, .int 0, .ref hh, .int 0])) := by rw [ew_2]; exact gx_ss (gx_ap hew_1)
  exact gx_vret hx hb hr hlocks hS hP hD (by decide) (by decide) d_TT_init_23 (⟨qs, hh, by rw [ew_2, ew_1]; exact gx_tti (List.getElem?_eq_some_iff.mp he).1⟩)
end
section
set_option maxRecDepth 100000 in
set_option maxHeartbeats 4000000 in
theorem c_PB_init {l : Launch} {s0 : State} {D : va_G} {cI cC cJ cII cO cZ : ClassId} (F : FX l s0 D cI cC cJ cII cO cZ) {ws : va_W} {a : Nat} (hws : ws = [(a, .inr (iPB, [.null, .null, .int 0, .null, .null, .int 0, .null, .null, .null, .null, .null]))]) (sz : Nat)   : Met l y_PB_init [.code y_PB_init b_PB_init 2 none] { frames := 4, cells := 72, slots := 613, locals := 120 } (gx_P s0 D classes ws sz [.ref a]) (va_Qv (fun w1 => ∃ (κ : Nat → Nat) (ra : Nat → Nat → Nat) (G : Nat → Nat → Nat → Int32), cb_I cI cC cJ cII w1 κ ra (fun _ => 0) (fun _ => 0) G (fun _ => 0) (fun _ => 0) ∧ (∀ (la lp : Nat → Nat) (li : Nat → Nat → Int32) (ll : Nat → Nat → Int64), cb_L cO w1 (κ 62) 0 (fx_e0 F) 0 la lp li ll) ∧ κ 0 = a ∧ (∀ k, k < 6 → G 1 k = cb_t0) ∧ G 2 = (fun _ _ => 0) ∧ G 3 = (fun _ _ => 0) ∧ (∀ k, k < 10 → G 4 k = cb_fil (fun _ => 0) 1 6) ∧ (∀ k, k < 10 → G 5 k = cb_fil (fun _ => 0) 1 6)) (gx_B D classes ws sz) (va_A ws sz)) 72 613 (va_A ws sz) := by
  refine gx_met (by decide +kernel) (Nat.le_of_ble_eq_true rfl) ?_
  intro p e s m below meth c ls hx hb hr hml hown hlocks hnm hsz hV hP hD hS hA hA0 hl
  have hg := fx_g F hV ([.ref a] : List Value).toArray
  have hK := fx_k F hV
  have hn9 := fx_n F hV
  have hl : lv_has ls 2 [(0, .ref a)] := hl
  refine lv_aload_n hx hb d_PB_init_0 rfl (lv_at hl 0 rfl) ?_
  have lws : ws.length = 1 := by rw [hws]; rfl
  have f0_ws : ws[0]? = some (a, .inr (iPB, [.null, .null, .int 0, .null, .null, .int 0, .null, .null, .null, .null, .null])) := by rw [hws]; rfl
  refine W.objInit hx hb hown (hg _ k_26) (hg _ k_27) (hg _ k_28) rfl (by rw [hml]; exact hl.1) rfl d_PB_init_1 (Nat.le_of_ble_eq_true rfl) (Nat.le_of_ble_eq_true rfl) ?_
  refine lv_aload_n hx hb d_PB_init_4 rfl (lv_at hl 0 rfl) ?_
  refine va_new (fs := [.null, .int 0, .int 0, .null, .int 0]) hx hb (fl_TT hg) (fun _ h9 => h9) t_TT t_TT_ok hown (hg _ k_29) (hg _ k_30) (hg _ k_2) hK hP hD hS hA (ci := iTT) rfl (by decide +kernel) (by decide) (by decide) d_PB_init_5 (fun tt H hP hD hS => ?_)
  obtain ⟨x1, ex1⟩ : ∃ x : va_W, x = ws ++ [(tt, .inr (iTT, [.null, .int 0, .int 0, .null, .int 0]))] := ⟨_, rfl⟩
  replace hP : va_P D classes x1 H := by rw [ex1]; exact hP
  replace hD : va_D (va_A ws sz) x1 := by rw [ex1]; exact hD
  have lx1 : x1.length = 2 := by rw [ex1, List.length_append, lws]; rfl
  have f0_x1 : x1[0]? = some (a, .inr (iPB, [.null, .null, .int 0, .null, .null, .int 0, .null, .null, .null, .null, .null])) := by rw [ex1]; exact gx_ap f0_ws
  have f1_x1 : x1[1]? = some (tt, .inr (iTT, [.null, .int 0, .int 0, .null, .int 0])) := by rw [ex1]; exact gx_lat2 lws
  refine lv_dup hx hb d_PB_init_8 rfl ?_
  refine gx_callv (va_runIN (As := []) (rest := [.ref tt, .ref a]) ⟨hx, hb, hml, hown, gx_nil⟩ (c_TT_init F f1_x1 _) ⟨gx_cn (hg _ k_33) (hg _ k_2) (hn9 _ kn_31) nd_TT_init ⟨by decide, by decide⟩, rfl, hg _ k_32⟩ (gx_preS hV hP hD hS hA0) rfl rfl hl.1 rfl (lv_room (Nat.le_of_ble_eq_true rfl)) d_PB_init_9 ⟨by decide, by decide⟩) hD hS hA (fun w1 H locs h_9 hP hD hS => ?_)
  obtain ⟨qs, h3, h9⟩ := h_9
  rw [h9] at hP hD
  obtain ⟨x2, ex2⟩ : ∃ x : va_W, x = x1.set 1 (tt, .inr (iTT, [.ref qs, .int 0, .int 0, .ref h3, .int 0])) := ⟨_, rfl⟩
  rw [← ex2] at hP hD
  have lx2 : x2.length = 2 := by rw [ex2, List.length_set, lx1]
  have f0_x2 : x2[0]? = some (a, .inr (iPB, [.null, .null, .int 0, .null, .null, .int 0, .null, .null, .null, .null, .null])) := by rw [ex2]; exact gx_sn (by decide) f0_x1
  have f1_x2 : x2[1]? = some (tt, .inr (iTT, [.ref qs, .int 0, .int 0, .ref h3, .int 0])) := by rw [ex2]; exact gx_ss f1_x1
  obtain ⟨x3, ex3⟩ : ∃ x : va_W, x = x2 ++ [(qs, .inl (cC, 120, .inl (fun _ => 0)))] := ⟨_, rfl⟩
  rw [← ex3] at hP hD
  have lx3 : x3.length = 3 := by rw [ex3, List.length_append, lx2]; rfl
  have f0_x3 : x3[0]? = some (a, .inr (iPB, [.null, .null, .int 0, .null, .null, .int 0, .null, .null, .null, .null, .null])) := by rw [ex3]; exact gx_ap f0_x2
  have f1_x3 : x3[1]? = some (tt, .inr (iTT, [.ref qs, .int 0, .int 0, .ref h3, .int 0])) := by rw [ex3]; exact gx_ap f1_x2
  have f2_x3 : x3[2]? = some (qs, .inl (cC, 120, .inl (fun _ => 0))) := by rw [ex3]; exact gx_lat2 lx2
  obtain ⟨x4, ex4⟩ : ∃ x : va_W, x = x3 ++ gx_grid cI cII h3 6 4 := ⟨_, rfl⟩
  replace hP : va_P D classes x4 H := by rw [ex4]; exact hP
  replace hD : va_D (va_A ws sz) x4 := by rw [ex4]; exact hD
  have lx4 : x4.length = 10 := by rw [ex4, List.length_append, lx3, gx_grid_len]
  have f0_x4 : x4[0]? = some (a, .inr (iPB, [.null, .null, .int 0, .null, .null, .int 0, .null, .null, .null, .null, .null])) := by rw [ex4]; exact gx_ap f0_x3
  have f1_x4 : x4[1]? = some (tt, .inr (iTT, [.ref qs, .int 0, .int 0, .ref h3, .int 0])) := by rw [ex4]; exact gx_ap f1_x3
  have f2_x4 : x4[2]? = some (qs, .inl (cC, 120, .inl (fun _ => 0))) := by rw [ex4]; exact gx_ap f2_x3
  have f3_x4 : x4[3]? = some (h3, .inl (cII, 6, .inr (.inr (.inr (.inr (fun j => if j < 6 then some (h3 + 1 + j) else none)))))) := by rw [ex4]; exact gx_grid_0 lx3
  have g3_x4 : ∀ i : Nat, i < 6 → x4[3 + 1 + i]? = some (h3 + 1 + i, .inl (cI, 4, .inl (fun _ => 0))) := fun (i : Nat) hi => by rw [ex4]; exact gx_grid_s lx3 hi
  refine va_putF (D := D) (ci := iPB) (v := .ref tt) (ty := .object "PortBills$TariffText") (C := R_PB) (T := F_PB) (N := 11) hx hb (fl_PB hg) (fun _ h9 => h9) t_PB t_PB_ok n_PB hown hK hP hD hS 0 (f0_x4) rfl 0 (by decide) (hg _ k_88) (fun _ h9 => h9) rfl hnm rfl (by decide +kernel) rfl rfl (Nat.le_of_ble_eq_true rfl) d_PB_init_12 (fun H locs hP hD hS => ?_)
  obtain ⟨x5, ex5⟩ : ∃ x : va_W, x = x4.set 0 (a, .inr (iPB, [.ref tt, .null, .int 0, .null, .null, .int 0, .null, .null, .null, .null, .null])) := ⟨_, rfl⟩
  replace hP : va_P D classes x5 H := by rw [ex5]; exact hP
  replace hD : va_D (va_A ws sz) x5 := by rw [ex5]; exact hD
  have lx5 : x5.length = 10 := by rw [ex5, List.length_set, lx4]
  have f1_x5 : x5[1]? = some (tt, .inr (iTT, [.ref qs, .int 0, .int 0, .ref h3, .int 0])) := by rw [ex5]; exact gx_sn (by decide) f1_x4
  have f2_x5 : x5[2]? = some (qs, .inl (cC, 120, .inl (fun _ => 0))) := by rw [ex5]; exact gx_sn (by decide) f2_x4
  have f3_x5 : x5[3]? = some (h3, .inl (cII, 6, .inr (.inr (.inr (.inr (fun j => if j < 6 then some (h3 + 1 + j) else none)))))) := by rw [ex5]; exact gx_sn (by decide) f3_x4
  have g3_x5 : ∀ i : Nat, i < 6 → x5[3 + 1 + i]? = some (h3 + 1 + i, .inl (cI, 4, .inl (fun _ => 0))) := fun (i : Nat) hi => by rw [ex5]; exact gx_sn (show 0 ≠ 3 + 1 + i by omega) (g3_x4 i hi)
  have f0_x5 : x5[0]? = some (a, .inr (iPB, [.ref tt, .null, .int 0, .null, .null, .int 0, .null, .null, .null, .null, .null])) := by rw [ex5]; exact gx_ss f0_x4
  refine lv_aload_n hx hb d_PB_init_15 rfl (lv_at hl 0 rfl) ?_
  refine lv_bipush (v := 6) hx hb d_PB_init_16 (by decide) ?_
  refine lv_iconst (v := 4) hx hb d_PB_init_18 (by decide) ?_
  refine gx_mna hx hb hown (hg _ k_58) (fx_aoI F hV _) (hg _ k_57) (gx_nI hK) (gx_nII hK) hP hD hS hA (N := 6) (K := 4) (by decide) (by decide) (by decide) (by decide) (by decide) (by decide) (by decide) (by decide) d_PB_init_19 (fun h10 H locs hP hD hS => ?_)
  obtain ⟨x6, ex6⟩ : ∃ x : va_W, x = x5 ++ gx_grid cI cII h10 6 4 := ⟨_, rfl⟩
  replace hP : va_P D classes x6 H := by rw [ex6]; exact hP
  replace hD : va_D (va_A ws sz) x6 := by rw [ex6]; exact hD
  have lx6 : x6.length = 17 := by rw [ex6, List.length_append, lx5, gx_grid_len]
  have f0_x6 : x6[0]? = some (a, .inr (iPB, [.ref tt, .null, .int 0, .null, .null, .int 0, .null, .null, .null, .null, .null])) := by rw [ex6]; exact gx_ap f0_x5
  have f1_x6 : x6[1]? = some (tt, .inr (iTT, [.ref qs, .int 0, .int 0, .ref h3, .int 0])) := by rw [ex6]; exact gx_ap f1_x5
  have f2_x6 : x6[2]? = some (qs, .inl (cC, 120, .inl (fun _ => 0))) := by rw [ex6]; exact gx_ap f2_x5
  have f3_x6 : x6[3]? = some (h3, .inl (cII, 6, .inr (.inr (.inr (.inr (fun j => if j < 6 then some (h3 + 1 + j) else none)))))) := by rw [ex6]; exact gx_ap f3_x5
  have g3_x6 : ∀ i : Nat, i < 6 → x6[3 + 1 + i]? = some (h3 + 1 + i, .inl (cI, 4, .inl (fun _ => 0))) := fun (i : Nat) hi => by rw [ex6]; exact gx_ap (g3_x5 i hi)
  have f10_x6 : x6[10]? = some (h10, .inl (cII, 6, .inr (.inr (.inr (.inr (fun j => if j < 6 then some (h10 + 1 + j) else none)))))) := by rw [ex6]; exact gx_grid_0 lx5
  have g10_x6 : ∀ i : Nat, i < 6 → x6[10 + 1 + i]? = some (h10 + 1 + i, .inl (cI, 4, .inl (fun _ => 0))) := fun (i : Nat) hi => by rw [ex6]; exact gx_grid_s lx5 hi
  refine va_putF (D := D) (ci := iPB) (v := .ref h10) (ty := .array (.array .int)) (C := R_PB) (T := F_PB) (N := 11) hx hb (fl_PB hg) (fun _ h9 => h9) t_PB t_PB_ok n_PB hown hK hP hD hS 0 (f0_x6) rfl 1 (by decide) (hg _ k_89) (fun _ h9 => h9) rfl hnm rfl (by decide +kernel) rfl rfl (Nat.le_of_ble_eq_true rfl) d_PB_init_23 (fun H locs hP hD hS => ?_)
  obtain ⟨x7, ex7⟩ : ∃ x : va_W, x = x6.set 0 (a, .inr (iPB, [.ref tt, .ref h10, .int 0, .null, .null, .int 0, .null, .null, .null, .null, .null])) := ⟨_, rfl⟩
  replace hP : va_P D classes x7 H := by rw [ex7]; exact hP
  replace hD : va_D (va_A ws sz) x7 := by rw [ex7]; exact hD
  have lx7 : x7.length = 17 := by rw [ex7, List.length_set, lx6]
  have f1_x7 : x7[1]? = some (tt, .inr (iTT, [.ref qs, .int 0, .int 0, .ref h3, .int 0])) := by rw [ex7]; exact gx_sn (by decide) f1_x6
  have f2_x7 : x7[2]? = some (qs, .inl (cC, 120, .inl (fun _ => 0))) := by rw [ex7]; exact gx_sn (by decide) f2_x6
  have f3_x7 : x7[3]? = some (h3, .inl (cII, 6, .inr (.inr (.inr (.inr (fun j => if j < 6 then some (h3 + 1 + j) else none)))))) := by rw [ex7]; exact gx_sn (by decide) f3_x6
  have f10_x7 : x7[10]? = some (h10, .inl (cII, 6, .inr (.inr (.inr (.inr (fun j => if j < 6 then some (h10 + 1 + j) else none)))))) := by rw [ex7]; exact gx_sn (by decide) f10_x6
  have g3_x7 : ∀ i : Nat, i < 6 → x7[3 + 1 + i]? = some (h3 + 1 + i, .inl (cI, 4, .inl (fun _ => 0))) := fun (i : Nat) hi => by rw [ex7]; exact gx_sn (show 0 ≠ 3 + 1 + i by omega) (g3_x6 i hi)
  have g10_x7 : ∀ i : Nat, i < 6 → x7[10 + 1 + i]? = some (h10 + 1 + i, .inl (cI, 4, .inl (fun _ => 0))) := fun (i : Nat) hi => by rw [ex7]; exact gx_sn (show 0 ≠ 10 + 1 + i by omega) (g10_x6 i hi)
  have f0_x7 : x7[0]? = some (a, .inr (iPB, [.ref tt, .ref h10, .int 0, .null, .null, .int 0, .null, .null, .null, .null, .null])) := by rw [ex7]; exact gx_ss f0_x6
  refine lv_aload_n hx hb d_PB_init_26 rfl (lv_at hl 0 rfl) ?_
  refine lv_bipush (v := 10) hx hb d_PB_init_27 (by decide) ?_
  refine lv_bipush (v := 6) hx hb d_PB_init_29 (by decide) ?_
  refine gx_mna hx hb hown (hg _ k_58) (fx_aoI F hV _) (hg _ k_57) (gx_nI hK) (gx_nII hK) hP hD hS hA (N := 10) (K := 6) (by decide) (by decide) (by decide) (by decide) (by decide) (by decide) (by decide) (by decide) d_PB_init_31 (fun h17 H locs hP hD hS => ?_)
  obtain ⟨x8, ex8⟩ : ∃ x : va_W, x = x7 ++ gx_grid cI cII h17 10 6 := ⟨_, rfl⟩
  replace hP : va_P D classes x8 H := by rw [ex8]; exact hP
  replace hD : va_D (va_A ws sz) x8 := by rw [ex8]; exact hD
  have lx8 : x8.length = 28 := by rw [ex8, List.length_append, lx7, gx_grid_len]
  have f0_x8 : x8[0]? = some (a, .inr (iPB, [.ref tt, .ref h10, .int 0, .null, .null, .int 0, .null, .null, .null, .null, .null])) := by rw [ex8]; exact gx_ap f0_x7
  have f1_x8 : x8[1]? = some (tt, .inr (iTT, [.ref qs, .int 0, .int 0, .ref h3, .int 0])) := by rw [ex8]; exact gx_ap f1_x7
  have f2_x8 : x8[2]? = some (qs, .inl (cC, 120, .inl (fun _ => 0))) := by rw [ex8]; exact gx_ap f2_x7
  have f3_x8 : x8[3]? = some (h3, .inl (cII, 6, .inr (.inr (.inr (.inr (fun j => if j < 6 then some (h3 + 1 + j) else none)))))) := by rw [ex8]; exact gx_ap f3_x7
  have f10_x8 : x8[10]? = some (h10, .inl (cII, 6, .inr (.inr (.inr (.inr (fun j => if j < 6 then some (h10 + 1 + j) else none)))))) := by rw [ex8]; exact gx_ap f10_x7
  have g3_x8 : ∀ i : Nat, i < 6 → x8[3 + 1 + i]? = some (h3 + 1 + i, .inl (cI, 4, .inl (fun _ => 0))) := fun (i : Nat) hi => by rw [ex8]; exact gx_ap (g3_x7 i hi)
  have g10_x8 : ∀ i : Nat, i < 6 → x8[10 + 1 + i]? = some (h10 + 1 + i, .inl (cI, 4, .inl (fun _ => 0))) := fun (i : Nat) hi => by rw [ex8]; exact gx_ap (g10_x7 i hi)
  have f17_x8 : x8[17]? = some (h17, .inl (cII, 10, .inr (.inr (.inr (.inr (fun j => if j < 10 then some (h17 + 1 + j) else none)))))) := by rw [ex8]; exact gx_grid_0 lx7
  have g17_x8 : ∀ i : Nat, i < 10 → x8[17 + 1 + i]? = some (h17 + 1 + i, .inl (cI, 6, .inl (fun _ => 0))) := fun (i : Nat) hi => by rw [ex8]; exact gx_grid_s lx7 hi
  refine va_putF (D := D) (ci := iPB) (v := .ref h17) (ty := .array (.array .int)) (C := R_PB) (T := F_PB) (N := 11) hx hb (fl_PB hg) (fun _ h9 => h9) t_PB t_PB_ok n_PB hown hK hP hD hS 0 (f0_x8) rfl 3 (by decide) (hg _ k_91) (fun _ h9 => h9) rfl hnm rfl (by decide +kernel) rfl rfl (Nat.le_of_ble_eq_true rfl) d_PB_init_35 (fun H locs hP hD hS => ?_)
  obtain ⟨x9, ex9⟩ : ∃ x : va_W, x = x8.set 0 (a, .inr (iPB, [.ref tt, .ref h10, .int 0, .ref h17, .null, .int 0, .null, .null, .null, .null, .null])) := ⟨_, rfl⟩
  replace hP : va_P D classes x9 H := by rw [ex9]; exact hP
  replace hD : va_D (va_A ws sz) x9 := by rw [ex9]; exact hD
  have lx9 : x9.length = 28 := by rw [ex9, List.length_set, lx8]
  have f1_x9 : x9[1]? = some (tt, .inr (iTT, [.ref qs, .int 0, .int 0, .ref h3, .int 0])) := by rw [ex9]; exact gx_sn (by decide) f1_x8
  have f2_x9 : x9[2]? = some (qs, .inl (cC, 120, .inl (fun _ => 0))) := by rw [ex9]; exact gx_sn (by decide) f2_x8
  have f3_x9 : x9[3]? = some (h3, .inl (cII, 6, .inr (.inr (.inr (.inr (fun j => if j < 6 then some (h3 + 1 + j) else none)))))) := by rw [ex9]; exact gx_sn (by decide) f3_x8
  have f10_x9 : x9[10]? = some (h10, .inl (cII, 6, .inr (.inr (.inr (.inr (fun j => if j < 6 then some (h10 + 1 + j) else none)))))) := by rw [ex9]; exact gx_sn (by decide) f10_x8
  have f17_x9 : x9[17]? = some (h17, .inl (cII, 10, .inr (.inr (.inr (.inr (fun j => if j < 10 then some (h17 + 1 + j) else none)))))) := by rw [ex9]; exact gx_sn (by decide) f17_x8
  have g3_x9 : ∀ i : Nat, i < 6 → x9[3 + 1 + i]? = some (h3 + 1 + i, .inl (cI, 4, .inl (fun _ => 0))) := fun (i : Nat) hi => by rw [ex9]; exact gx_sn (show 0 ≠ 3 + 1 + i by omega) (g3_x8 i hi)
  have g10_x9 : ∀ i : Nat, i < 6 → x9[10 + 1 + i]? = some (h10 + 1 + i, .inl (cI, 4, .inl (fun _ => 0))) := fun (i : Nat) hi => by rw [ex9]; exact gx_sn (show 0 ≠ 10 + 1 + i by omega) (g10_x8 i hi)
  have g17_x9 : ∀ i : Nat, i < 10 → x9[17 + 1 + i]? = some (h17 + 1 + i, .inl (cI, 6, .inl (fun _ => 0))) := fun (i : Nat) hi => by rw [ex9]; exact gx_sn (show 0 ≠ 17 + 1 + i by omega) (g17_x8 i hi)
  have f0_x9 : x9[0]? = some (a, .inr (iPB, [.ref tt, .ref h10, .int 0, .ref h17, .null, .int 0, .null, .null, .null, .null, .null])) := by rw [ex9]; exact gx_ss f0_x8
  refine lv_aload_n hx hb d_PB_init_38 rfl (lv_at hl 0 rfl) ?_
  refine lv_bipush (v := 10) hx hb d_PB_init_39 (by decide) ?_
  refine va_newa (atype := .int) (ty := .int) (a0 := (10, .inl (fun _ => 0))) (N' := 10) hx hb (hg _ k_57) rfl hK hP hD hS hA (fun _ => rfl) (by decide) (by decide) (by decide) (by decide) (by decide) d_PB_init_41 (fun q28 cA H hK9 hP hD hS => ?_)
  have eA := gx_sameI hK9
  rw [eA] at hP hD
  clear eA hK9 cA
  obtain ⟨x10, ex10⟩ : ∃ x : va_W, x = x9 ++ [(q28, .inl (cI, 10, .inl (fun _ => 0)))] := ⟨_, rfl⟩
  replace hP : va_P D classes x10 H := by rw [ex10]; exact hP
  replace hD : va_D (va_A ws sz) x10 := by rw [ex10]; exact hD
  have lx10 : x10.length = 29 := by rw [ex10, List.length_append, lx9]; rfl
  have f0_x10 : x10[0]? = some (a, .inr (iPB, [.ref tt, .ref h10, .int 0, .ref h17, .null, .int 0, .null, .null, .null, .null, .null])) := by rw [ex10]; exact gx_ap f0_x9
  have f1_x10 : x10[1]? = some (tt, .inr (iTT, [.ref qs, .int 0, .int 0, .ref h3, .int 0])) := by rw [ex10]; exact gx_ap f1_x9
  have f2_x10 : x10[2]? = some (qs, .inl (cC, 120, .inl (fun _ => 0))) := by rw [ex10]; exact gx_ap f2_x9
  have f3_x10 : x10[3]? = some (h3, .inl (cII, 6, .inr (.inr (.inr (.inr (fun j => if j < 6 then some (h3 + 1 + j) else none)))))) := by rw [ex10]; exact gx_ap f3_x9
  have f10_x10 : x10[10]? = some (h10, .inl (cII, 6, .inr (.inr (.inr (.inr (fun j => if j < 6 then some (h10 + 1 + j) else none)))))) := by rw [ex10]; exact gx_ap f10_x9
  have f17_x10 : x10[17]? = some (h17, .inl (cII, 10, .inr (.inr (.inr (.inr (fun j => if j < 10 then some (h17 + 1 + j) else none)))))) := by rw [ex10]; exact gx_ap f17_x9
  have g3_x10 : ∀ i : Nat, i < 6 → x10[3 + 1 + i]? = some (h3 + 1 + i, .inl (cI, 4, .inl (fun _ => 0))) := fun (i : Nat) hi => by rw [ex10]; exact gx_ap (g3_x9 i hi)
  have g10_x10 : ∀ i : Nat, i < 6 → x10[10 + 1 + i]? = some (h10 + 1 + i, .inl (cI, 4, .inl (fun _ => 0))) := fun (i : Nat) hi => by rw [ex10]; exact gx_ap (g10_x9 i hi)
  have g17_x10 : ∀ i : Nat, i < 10 → x10[17 + 1 + i]? = some (h17 + 1 + i, .inl (cI, 6, .inl (fun _ => 0))) := fun (i : Nat) hi => by rw [ex10]; exact gx_ap (g17_x9 i hi)
  have f28_x10 : x10[28]? = some (q28, .inl (cI, 10, .inl (fun _ => 0))) := by rw [ex10]; exact gx_lat2 lx9
  refine va_putF (D := D) (ci := iPB) (v := .ref q28) (ty := .array .int) (C := R_PB) (T := F_PB) (N := 11) hx hb (fl_PB hg) (fun _ h9 => h9) t_PB t_PB_ok n_PB hown hK hP hD hS 0 (f0_x10) rfl 4 (by decide) (hg _ k_92) (fun _ h9 => h9) rfl hnm rfl (by decide +kernel) rfl rfl (Nat.le_of_ble_eq_true rfl) d_PB_init_43 (fun H locs hP hD hS => ?_)
  obtain ⟨x11, ex11⟩ : ∃ x : va_W, x = x10.set 0 (a, .inr (iPB, [.ref tt, .ref h10, .int 0, .ref h17, .ref q28, .int 0, .null, .null, .null, .null, .null])) := ⟨_, rfl⟩
  replace hP : va_P D classes x11 H := by rw [ex11]; exact hP
  replace hD : va_D (va_A ws sz) x11 := by rw [ex11]; exact hD
  have lx11 : x11.length = 29 := by rw [ex11, List.length_set, lx10]
  have f1_x11 : x11[1]? = some (tt, .inr (iTT, [.ref qs, .int 0, .int 0, .ref h3, .int 0])) := by rw [ex11]; exact gx_sn (by decide) f1_x10
  have f2_x11 : x11[2]? = some (qs, .inl (cC, 120, .inl (fun _ => 0))) := by rw [ex11]; exact gx_sn (by decide) f2_x10
  have f3_x11 : x11[3]? = some (h3, .inl (cII, 6, .inr (.inr (.inr (.inr (fun j => if j < 6 then some (h3 + 1 + j) else none)))))) := by rw [ex11]; exact gx_sn (by decide) f3_x10
  have f10_x11 : x11[10]? = some (h10, .inl (cII, 6, .inr (.inr (.inr (.inr (fun j => if j < 6 then some (h10 + 1 + j) else none)))))) := by rw [ex11]; exact gx_sn (by decide) f10_x10
  have f17_x11 : x11[17]? = some (h17, .inl (cII, 10, .inr (.inr (.inr (.inr (fun j => if j < 10 then some (h17 + 1 + j) else none)))))) := by rw [ex11]; exact gx_sn (by decide) f17_x10
  have f28_x11 : x11[28]? = some (q28, .inl (cI, 10, .inl (fun _ => 0))) := by rw [ex11]; exact gx_sn (by decide) f28_x10
  have g3_x11 : ∀ i : Nat, i < 6 → x11[3 + 1 + i]? = some (h3 + 1 + i, .inl (cI, 4, .inl (fun _ => 0))) := fun (i : Nat) hi => by rw [ex11]; exact gx_sn (show 0 ≠ 3 + 1 + i by omega) (g3_x10 i hi)
  have g10_x11 : ∀ i : Nat, i < 6 → x11[10 + 1 + i]? = some (h10 + 1 + i, .inl (cI, 4, .inl (fun _ => 0))) := fun (i : Nat) hi => by rw [ex11]; exact gx_sn (show 0 ≠ 10 + 1 + i by omega) (g10_x10 i hi)
  have g17_x11 : ∀ i : Nat, i < 10 → x11[17 + 1 + i]? = some (h17 + 1 + i, .inl (cI, 6, .inl (fun _ => 0))) := fun (i : Nat) hi => by rw [ex11]; exact gx_sn (show 0 ≠ 17 + 1 + i by omega) (g17_x10 i hi)
  have f0_x11 : x11[0]? = some (a, .inr (iPB, [.ref tt, .ref h10, .int 0, .ref h17, .ref q28, .int 0, .null, .null, .null, .null, .null])) := by rw [ex11]; exact gx_ss f0_x10
  refine lv_aload_n hx hb d_PB_init_46 rfl (lv_at hl 0 rfl) ?_
  refine lv_bipush (v := 10) hx hb d_PB_init_47 (by decide) ?_
  refine lv_bipush (v := 6) hx hb d_PB_init_49 (by decide) ?_
  refine gx_mna hx hb hown (hg _ k_58) (fx_aoI F hV _) (hg _ k_57) (gx_nI hK) (gx_nII hK) hP hD hS hA (N := 10) (K := 6) (by decide) (by decide) (by decide) (by decide) (by decide) (by decide) (by decide) (by decide) d_PB_init_51 (fun h29 H locs hP hD hS => ?_)
  obtain ⟨x12, ex12⟩ : ∃ x : va_W, x = x11 ++ gx_grid cI cII h29 10 6 := ⟨_, rfl⟩
  replace hP : va_P D classes x12 H := by rw [ex12]; exact hP
  replace hD : va_D (va_A ws sz) x12 := by rw [ex12]; exact hD
  have lx12 : x12.length = 40 := by rw [ex12, List.length_append, lx11, gx_grid_len]
  have f0_x12 : x12[0]? = some (a, .inr (iPB, [.ref tt, .ref h10, .int 0, .ref h17, .ref q28, .int 0, .null, .null, .null, .null, .null])) := by rw [ex12]; exact gx_ap f0_x11
  have f1_x12 : x12[1]? = some (tt, .inr (iTT, [.ref qs, .int 0, .int 0, .ref h3, .int 0])) := by rw [ex12]; exact gx_ap f1_x11
  have f2_x12 : x12[2]? = some (qs, .inl (cC, 120, .inl (fun _ => 0))) := by rw [ex12]; exact gx_ap f2_x11
  have f3_x12 : x12[3]? = some (h3, .inl (cII, 6, .inr (.inr (.inr (.inr (fun j => if j < 6 then some (h3 + 1 + j) else none)))))) := by rw [ex12]; exact gx_ap f3_x11
  have f10_x12 : x12[10]? = some (h10, .inl (cII, 6, .inr (.inr (.inr (.inr (fun j => if j < 6 then some (h10 + 1 + j) else none)))))) := by rw [ex12]; exact gx_ap f10_x11
  have f17_x12 : x12[17]? = some (h17, .inl (cII, 10, .inr (.inr (.inr (.inr (fun j => if j < 10 then some (h17 + 1 + j) else none)))))) := by rw [ex12]; exact gx_ap f17_x11
  have f28_x12 : x12[28]? = some (q28, .inl (cI, 10, .inl (fun _ => 0))) := by rw [ex12]; exact gx_ap f28_x11
  have g3_x12 : ∀ i : Nat, i < 6 → x12[3 + 1 + i]? = some (h3 + 1 + i, .inl (cI, 4, .inl (fun _ => 0))) := fun (i : Nat) hi => by rw [ex12]; exact gx_ap (g3_x11 i hi)
  have g10_x12 : ∀ i : Nat, i < 6 → x12[10 + 1 + i]? = some (h10 + 1 + i, .inl (cI, 4, .inl (fun _ => 0))) := fun (i : Nat) hi => by rw [ex12]; exact gx_ap (g10_x11 i hi)
  have g17_x12 : ∀ i : Nat, i < 10 → x12[17 + 1 + i]? = some (h17 + 1 + i, .inl (cI, 6, .inl (fun _ => 0))) := fun (i : Nat) hi => by rw [ex12]; exact gx_ap (g17_x11 i hi)
  have f29_x12 : x12[29]? = some (h29, .inl (cII, 10, .inr (.inr (.inr (.inr (fun j => if j < 10 then some (h29 + 1 + j) else none)))))) := by rw [ex12]; exact gx_grid_0 lx11
  have g29_x12 : ∀ i : Nat, i < 10 → x12[29 + 1 + i]? = some (h29 + 1 + i, .inl (cI, 6, .inl (fun _ => 0))) := fun (i : Nat) hi => by rw [ex12]; exact gx_grid_s lx11 hi
  refine va_putF (D := D) (ci := iPB) (v := .ref h29) (ty := .array (.array .int)) (C := R_PB) (T := F_PB) (N := 11) hx hb (fl_PB hg) (fun _ h9 => h9) t_PB t_PB_ok n_PB hown hK hP hD hS 0 (f0_x12) rfl 6 (by decide) (hg _ k_94) (fun _ h9 => h9) rfl hnm rfl (by decide +kernel) rfl rfl (Nat.le_of_ble_eq_true rfl) d_PB_init_55 (fun H locs hP hD hS => ?_)
  obtain ⟨x13, ex13⟩ : ∃ x : va_W, x = x12.set 0 (a, .inr (iPB, [.ref tt, .ref h10, .int 0, .ref h17, .ref q28, .int 0, .ref h29, .null, .null, .null, .null])) := ⟨_, rfl⟩
  replace hP : va_P D classes x13 H := by rw [ex13]; exact hP
  replace hD : va_D (va_A ws sz) x13 := by rw [ex13]; exact hD
  have lx13 : x13.length = 40 := by rw [ex13, List.length_set, lx12]
  have f1_x13 : x13[1]? = some (tt, .inr (iTT, [.ref qs, .int 0, .int 0, .ref h3, .int 0])) := by rw [ex13]; exact gx_sn (by decide) f1_x12
  have f2_x13 : x13[2]? = some (qs, .inl (cC, 120, .inl (fun _ => 0))) := by rw [ex13]; exact gx_sn (by decide) f2_x12
  have f3_x13 : x13[3]? = some (h3, .inl (cII, 6, .inr (.inr (.inr (.inr (fun j => if j < 6 then some (h3 + 1 + j) else none)))))) := by rw [ex13]; exact gx_sn (by decide) f3_x12
  have f10_x13 : x13[10]? = some (h10, .inl (cII, 6, .inr (.inr (.inr (.inr (fun j => if j < 6 then some (h10 + 1 + j) else none)))))) := by rw [ex13]; exact gx_sn (by decide) f10_x12
  have f17_x13 : x13[17]? = some (h17, .inl (cII, 10, .inr (.inr (.inr (.inr (fun j => if j < 10 then some (h17 + 1 + j) else none)))))) := by rw [ex13]; exact gx_sn (by decide) f17_x12
  have f28_x13 : x13[28]? = some (q28, .inl (cI, 10, .inl (fun _ => 0))) := by rw [ex13]; exact gx_sn (by decide) f28_x12
  have f29_x13 : x13[29]? = some (h29, .inl (cII, 10, .inr (.inr (.inr (.inr (fun j => if j < 10 then some (h29 + 1 + j) else none)))))) := by rw [ex13]; exact gx_sn (by decide) f29_x12
  have g3_x13 : ∀ i : Nat, i < 6 → x13[3 + 1 + i]? = some (h3 + 1 + i, .inl (cI, 4, .inl (fun _ => 0))) := fun (i : Nat) hi => by rw [ex13]; exact gx_sn (show 0 ≠ 3 + 1 + i by omega) (g3_x12 i hi)
  have g10_x13 : ∀ i : Nat, i < 6 → x13[10 + 1 + i]? = some (h10 + 1 + i, .inl (cI, 4, .inl (fun _ => 0))) := fun (i : Nat) hi => by rw [ex13]; exact gx_sn (show 0 ≠ 10 + 1 + i by omega) (g10_x12 i hi)
  have g17_x13 : ∀ i : Nat, i < 10 → x13[17 + 1 + i]? = some (h17 + 1 + i, .inl (cI, 6, .inl (fun _ => 0))) := fun (i : Nat) hi => by rw [ex13]; exact gx_sn (show 0 ≠ 17 + 1 + i by omega) (g17_x12 i hi)
  have g29_x13 : ∀ i : Nat, i < 10 → x13[29 + 1 + i]? = some (h29 + 1 + i, .inl (cI, 6, .inl (fun _ => 0))) := fun (i : Nat) hi => by rw [ex13]; exact gx_sn (show 0 ≠ 29 + 1 + i by omega) (g29_x12 i hi)
  have f0_x13 : x13[0]? = some (a, .inr (iPB, [.ref tt, .ref h10, .int 0, .ref h17, .ref q28, .int 0, .ref h29, .null, .null, .null, .null])) := by rw [ex13]; exact gx_ss f0_x12
  refine lv_aload_n hx hb d_PB_init_58 rfl (lv_at hl 0 rfl) ?_
  refine lv_bipush (v := 10) hx hb d_PB_init_59 (by decide) ?_
  refine lv_bipush (v := 6) hx hb d_PB_init_61 (by decide) ?_
  refine gx_mna hx hb hown (hg _ k_58) (fx_aoI F hV _) (hg _ k_57) (gx_nI hK) (gx_nII hK) hP hD hS hA (N := 10) (K := 6) (by decide) (by decide) (by decide) (by decide) (by decide) (by decide) (by decide) (by decide) d_PB_init_63 (fun h40 H locs hP hD hS => ?_)
  obtain ⟨x14, ex14⟩ : ∃ x : va_W, x = x13 ++ gx_grid cI cII h40 10 6 := ⟨_, rfl⟩
  replace hP : va_P D classes x14 H := by rw [ex14]; exact hP
  replace hD : va_D (va_A ws sz) x14 := by rw [ex14]; exact hD
  have lx14 : x14.length = 51 := by rw [ex14, List.length_append, lx13, gx_grid_len]
  have f0_x14 : x14[0]? = some (a, .inr (iPB, [.ref tt, .ref h10, .int 0, .ref h17, .ref q28, .int 0, .ref h29, .null, .null, .null, .null])) := by rw [ex14]; exact gx_ap f0_x13
  have f1_x14 : x14[1]? = some (tt, .inr (iTT, [.ref qs, .int 0, .int 0, .ref h3, .int 0])) := by rw [ex14]; exact gx_ap f1_x13
  have f2_x14 : x14[2]? = some (qs, .inl (cC, 120, .inl (fun _ => 0))) := by rw [ex14]; exact gx_ap f2_x13
  have f3_x14 : x14[3]? = some (h3, .inl (cII, 6, .inr (.inr (.inr (.inr (fun j => if j < 6 then some (h3 + 1 + j) else none)))))) := by rw [ex14]; exact gx_ap f3_x13
  have f10_x14 : x14[10]? = some (h10, .inl (cII, 6, .inr (.inr (.inr (.inr (fun j => if j < 6 then some (h10 + 1 + j) else none)))))) := by rw [ex14]; exact gx_ap f10_x13
  have f17_x14 : x14[17]? = some (h17, .inl (cII, 10, .inr (.inr (.inr (.inr (fun j => if j < 10 then some (h17 + 1 + j) else none)))))) := by rw [ex14]; exact gx_ap f17_x13
  have f28_x14 : x14[28]? = some (q28, .inl (cI, 10, .inl (fun _ => 0))) := by rw [ex14]; exact gx_ap f28_x13
  have f29_x14 : x14[29]? = some (h29, .inl (cII, 10, .inr (.inr (.inr (.inr (fun j => if j < 10 then some (h29 + 1 + j) else none)))))) := by rw [ex14]; exact gx_ap f29_x13
  have g3_x14 : ∀ i : Nat, i < 6 → x14[3 + 1 + i]? = some (h3 + 1 + i, .inl (cI, 4, .inl (fun _ => 0))) := fun (i : Nat) hi => by rw [ex14]; exact gx_ap (g3_x13 i hi)
  have g10_x14 : ∀ i : Nat, i < 6 → x14[10 + 1 + i]? = some (h10 + 1 + i, .inl (cI, 4, .inl (fun _ => 0))) := fun (i : Nat) hi => by rw [ex14]; exact gx_ap (g10_x13 i hi)
  have g17_x14 : ∀ i : Nat, i < 10 → x14[17 + 1 + i]? = some (h17 + 1 + i, .inl (cI, 6, .inl (fun _ => 0))) := fun (i : Nat) hi => by rw [ex14]; exact gx_ap (g17_x13 i hi)
  have g29_x14 : ∀ i : Nat, i < 10 → x14[29 + 1 + i]? = some (h29 + 1 + i, .inl (cI, 6, .inl (fun _ => 0))) := fun (i : Nat) hi => by rw [ex14]; exact gx_ap (g29_x13 i hi)
  have f40_x14 : x14[40]? = some (h40, .inl (cII, 10, .inr (.inr (.inr (.inr (fun j => if j < 10 then some (h40 + 1 + j) else none)))))) := by rw [ex14]; exact gx_grid_0 lx13
  have g40_x14 : ∀ i : Nat, i < 10 → x14[40 + 1 + i]? = some (h40 + 1 + i, .inl (cI, 6, .inl (fun _ => 0))) := fun (i : Nat) hi => by rw [ex14]; exact gx_grid_s lx13 hi
  refine va_putF (D := D) (ci := iPB) (v := .ref h40) (ty := .array (.array .int)) (C := R_PB) (T := F_PB) (N := 11) hx hb (fl_PB hg) (fun _ h9 => h9) t_PB t_PB_ok n_PB hown hK hP hD hS 0 (f0_x14) rfl 7 (by decide) (hg _ k_95) (fun _ h9 => h9) rfl hnm rfl (by decide +kernel) rfl rfl (Nat.le_of_ble_eq_true rfl) d_PB_init_67 (fun H locs hP hD hS => ?_)
  obtain ⟨x15, ex15⟩ : ∃ x : va_W, x = x14.set 0 (a, .inr (iPB, [.ref tt, .ref h10, .int 0, .ref h17, .ref q28, .int 0, .ref h29, .ref h40, .null, .null, .null])) := ⟨_, rfl⟩
  replace hP : va_P D classes x15 H := by rw [ex15]; exact hP
  replace hD : va_D (va_A ws sz) x15 := by rw [ex15]; exact hD
  have lx15 : x15.length = 51 := by rw [ex15, List.length_set, lx14]
  have f1_x15 : x15[1]? = some (tt, .inr (iTT, [.ref qs, .int 0, .int 0, .ref h3, .int 0])) := by rw [ex15]; exact gx_sn (by decide) f1_x14
  have f2_x15 : x15[2]? = some (qs, .inl (cC, 120, .inl (fun _ => 0))) := by rw [ex15]; exact gx_sn (by decide) f2_x14
  have f3_x15 : x15[3]? = some (h3, .inl (cII, 6, .inr (.inr (.inr (.inr (fun j => if j < 6 then some (h3 + 1 + j) else none)))))) := by rw [ex15]; exact gx_sn (by decide) f3_x14
  have f10_x15 : x15[10]? = some (h10, .inl (cII, 6, .inr (.inr (.inr (.inr (fun j => if j < 6 then some (h10 + 1 + j) else none)))))) := by rw [ex15]; exact gx_sn (by decide) f10_x14
  have f17_x15 : x15[17]? = some (h17, .inl (cII, 10, .inr (.inr (.inr (.inr (fun j => if j < 10 then some (h17 + 1 + j) else none)))))) := by rw [ex15]; exact gx_sn (by decide) f17_x14
  have f28_x15 : x15[28]? = some (q28, .inl (cI, 10, .inl (fun _ => 0))) := by rw [ex15]; exact gx_sn (by decide) f28_x14
  have f29_x15 : x15[29]? = some (h29, .inl (cII, 10, .inr (.inr (.inr (.inr (fun j => if j < 10 then some (h29 + 1 + j) else none)))))) := by rw [ex15]; exact gx_sn (by decide) f29_x14
  have f40_x15 : x15[40]? = some (h40, .inl (cII, 10, .inr (.inr (.inr (.inr (fun j => if j < 10 then some (h40 + 1 + j) else none)))))) := by rw [ex15]; exact gx_sn (by decide) f40_x14
  have g3_x15 : ∀ i : Nat, i < 6 → x15[3 + 1 + i]? = some (h3 + 1 + i, .inl (cI, 4, .inl (fun _ => 0))) := fun (i : Nat) hi => by rw [ex15]; exact gx_sn (show 0 ≠ 3 + 1 + i by omega) (g3_x14 i hi)
  have g10_x15 : ∀ i : Nat, i < 6 → x15[10 + 1 + i]? = some (h10 + 1 + i, .inl (cI, 4, .inl (fun _ => 0))) := fun (i : Nat) hi => by rw [ex15]; exact gx_sn (show 0 ≠ 10 + 1 + i by omega) (g10_x14 i hi)
  have g17_x15 : ∀ i : Nat, i < 10 → x15[17 + 1 + i]? = some (h17 + 1 + i, .inl (cI, 6, .inl (fun _ => 0))) := fun (i : Nat) hi => by rw [ex15]; exact gx_sn (show 0 ≠ 17 + 1 + i by omega) (g17_x14 i hi)
  have g29_x15 : ∀ i : Nat, i < 10 → x15[29 + 1 + i]? = some (h29 + 1 + i, .inl (cI, 6, .inl (fun _ => 0))) := fun (i : Nat) hi => by rw [ex15]; exact gx_sn (show 0 ≠ 29 + 1 + i by omega) (g29_x14 i hi)
  have g40_x15 : ∀ i : Nat, i < 10 → x15[40 + 1 + i]? = some (h40 + 1 + i, .inl (cI, 6, .inl (fun _ => 0))) := fun (i : Nat) hi => by rw [ex15]; exact gx_sn (show 0 ≠ 40 + 1 + i by omega) (g40_x14 i hi)
  have f0_x15 : x15[0]? = some (a, .inr (iPB, [.ref tt, .ref h10, .int 0, .ref h17, .ref q28, .int 0, .ref h29, .ref h40, .null, .null, .null])) := by rw [ex15]; exact gx_ss f0_x14
  refine lv_aload_n hx hb d_PB_init_70 rfl (lv_at hl 0 rfl) ?_
  refine lv_bipush (v := 10) hx hb d_PB_init_71 (by decide) ?_
  refine lv_bipush (v := 6) hx hb d_PB_init_73 (by decide) ?_
  refine gx_mna hx hb hown (hg _ k_58) (fx_aoI F hV _) (hg _ k_57) (gx_nI hK) (gx_nII hK) hP hD hS hA (N := 10) (K := 6) (by decide) (by decide) (by decide) (by decide) (by decide) (by decide) (by decide) (by decide) d_PB_init_75 (fun h51 H locs hP hD hS => ?_)
  obtain ⟨x16, ex16⟩ : ∃ x : va_W, x = x15 ++ gx_grid cI cII h51 10 6 := ⟨_, rfl⟩
  replace hP : va_P D classes x16 H := by rw [ex16]; exact hP
  replace hD : va_D (va_A ws sz) x16 := by rw [ex16]; exact hD
  have lx16 : x16.length = 62 := by rw [ex16, List.length_append, lx15, gx_grid_len]
  have f0_x16 : x16[0]? = some (a, .inr (iPB, [.ref tt, .ref h10, .int 0, .ref h17, .ref q28, .int 0, .ref h29, .ref h40, .null, .null, .null])) := by rw [ex16]; exact gx_ap f0_x15
  have f1_x16 : x16[1]? = some (tt, .inr (iTT, [.ref qs, .int 0, .int 0, .ref h3, .int 0])) := by rw [ex16]; exact gx_ap f1_x15
  have f2_x16 : x16[2]? = some (qs, .inl (cC, 120, .inl (fun _ => 0))) := by rw [ex16]; exact gx_ap f2_x15
  have f3_x16 : x16[3]? = some (h3, .inl (cII, 6, .inr (.inr (.inr (.inr (fun j => if j < 6 then some (h3 + 1 + j) else none)))))) := by rw [ex16]; exact gx_ap f3_x15
  have f10_x16 : x16[10]? = some (h10, .inl (cII, 6, .inr (.inr (.inr (.inr (fun j => if j < 6 then some (h10 + 1 + j) else none)))))) := by rw [ex16]; exact gx_ap f10_x15
  have f17_x16 : x16[17]? = some (h17, .inl (cII, 10, .inr (.inr (.inr (.inr (fun j => if j < 10 then some (h17 + 1 + j) else none)))))) := by rw [ex16]; exact gx_ap f17_x15
  have f28_x16 : x16[28]? = some (q28, .inl (cI, 10, .inl (fun _ => 0))) := by rw [ex16]; exact gx_ap f28_x15
  have f29_x16 : x16[29]? = some (h29, .inl (cII, 10, .inr (.inr (.inr (.inr (fun j => if j < 10 then some (h29 + 1 + j) else none)))))) := by rw [ex16]; exact gx_ap f29_x15
  have f40_x16 : x16[40]? = some (h40, .inl (cII, 10, .inr (.inr (.inr (.inr (fun j => if j < 10 then some (h40 + 1 + j) else none)))))) := by rw [ex16]; exact gx_ap f40_x15
  have g3_x16 : ∀ i : Nat, i < 6 → x16[3 + 1 + i]? = some (h3 + 1 + i, .inl (cI, 4, .inl (fun _ => 0))) := fun (i : Nat) hi => by rw [ex16]; exact gx_ap (g3_x15 i hi)
  have g10_x16 : ∀ i : Nat, i < 6 → x16[10 + 1 + i]? = some (h10 + 1 + i, .inl (cI, 4, .inl (fun _ => 0))) := fun (i : Nat) hi => by rw [ex16]; exact gx_ap (g10_x15 i hi)
  have g17_x16 : ∀ i : Nat, i < 10 → x16[17 + 1 + i]? = some (h17 + 1 + i, .inl (cI, 6, .inl (fun _ => 0))) := fun (i : Nat) hi => by rw [ex16]; exact gx_ap (g17_x15 i hi)
  have g29_x16 : ∀ i : Nat, i < 10 → x16[29 + 1 + i]? = some (h29 + 1 + i, .inl (cI, 6, .inl (fun _ => 0))) := fun (i : Nat) hi => by rw [ex16]; exact gx_ap (g29_x15 i hi)
  have g40_x16 : ∀ i : Nat, i < 10 → x16[40 + 1 + i]? = some (h40 + 1 + i, .inl (cI, 6, .inl (fun _ => 0))) := fun (i : Nat) hi => by rw [ex16]; exact gx_ap (g40_x15 i hi)
  have f51_x16 : x16[51]? = some (h51, .inl (cII, 10, .inr (.inr (.inr (.inr (fun j => if j < 10 then some (h51 + 1 + j) else none)))))) := by rw [ex16]; exact gx_grid_0 lx15
  have g51_x16 : ∀ i : Nat, i < 10 → x16[51 + 1 + i]? = some (h51 + 1 + i, .inl (cI, 6, .inl (fun _ => 0))) := fun (i : Nat) hi => by rw [ex16]; exact gx_grid_s lx15 hi
  refine va_putF (D := D) (ci := iPB) (v := .ref h51) (ty := .array (.array .int)) (C := R_PB) (T := F_PB) (N := 11) hx hb (fl_PB hg) (fun _ h9 => h9) t_PB t_PB_ok n_PB hown hK hP hD hS 0 (f0_x16) rfl 8 (by decide) (hg _ k_96) (fun _ h9 => h9) rfl hnm rfl (by decide +kernel) rfl rfl (Nat.le_of_ble_eq_true rfl) d_PB_init_79 (fun H locs hP hD hS => ?_)
  obtain ⟨x17, ex17⟩ : ∃ x : va_W, x = x16.set 0 (a, .inr (iPB, [.ref tt, .ref h10, .int 0, .ref h17, .ref q28, .int 0, .ref h29, .ref h40, .ref h51, .null, .null])) := ⟨_, rfl⟩
  replace hP : va_P D classes x17 H := by rw [ex17]; exact hP
  replace hD : va_D (va_A ws sz) x17 := by rw [ex17]; exact hD
  have lx17 : x17.length = 62 := by rw [ex17, List.length_set, lx16]
  have f1_x17 : x17[1]? = some (tt, .inr (iTT, [.ref qs, .int 0, .int 0, .ref h3, .int 0])) := by rw [ex17]; exact gx_sn (by decide) f1_x16
  have f2_x17 : x17[2]? = some (qs, .inl (cC, 120, .inl (fun _ => 0))) := by rw [ex17]; exact gx_sn (by decide) f2_x16
  have f3_x17 : x17[3]? = some (h3, .inl (cII, 6, .inr (.inr (.inr (.inr (fun j => if j < 6 then some (h3 + 1 + j) else none)))))) := by rw [ex17]; exact gx_sn (by decide) f3_x16
  have f10_x17 : x17[10]? = some (h10, .inl (cII, 6, .inr (.inr (.inr (.inr (fun j => if j < 6 then some (h10 + 1 + j) else none)))))) := by rw [ex17]; exact gx_sn (by decide) f10_x16
  have f17_x17 : x17[17]? = some (h17, .inl (cII, 10, .inr (.inr (.inr (.inr (fun j => if j < 10 then some (h17 + 1 + j) else none)))))) := by rw [ex17]; exact gx_sn (by decide) f17_x16
  have f28_x17 : x17[28]? = some (q28, .inl (cI, 10, .inl (fun _ => 0))) := by rw [ex17]; exact gx_sn (by decide) f28_x16
  have f29_x17 : x17[29]? = some (h29, .inl (cII, 10, .inr (.inr (.inr (.inr (fun j => if j < 10 then some (h29 + 1 + j) else none)))))) := by rw [ex17]; exact gx_sn (by decide) f29_x16
  have f40_x17 : x17[40]? = some (h40, .inl (cII, 10, .inr (.inr (.inr (.inr (fun j => if j < 10 then some (h40 + 1 + j) else none)))))) := by rw [ex17]; exact gx_sn (by decide) f40_x16
  have f51_x17 : x17[51]? = some (h51, .inl (cII, 10, .inr (.inr (.inr (.inr (fun j => if j < 10 then some (h51 + 1 + j) else none)))))) := by rw [ex17]; exact gx_sn (by decide) f51_x16
  have g3_x17 : ∀ i : Nat, i < 6 → x17[3 + 1 + i]? = some (h3 + 1 + i, .inl (cI, 4, .inl (fun _ => 0))) := fun (i : Nat) hi => by rw [ex17]; exact gx_sn (show 0 ≠ 3 + 1 + i by omega) (g3_x16 i hi)
  have g10_x17 : ∀ i : Nat, i < 6 → x17[10 + 1 + i]? = some (h10 + 1 + i, .inl (cI, 4, .inl (fun _ => 0))) := fun (i : Nat) hi => by rw [ex17]; exact gx_sn (show 0 ≠ 10 + 1 + i by omega) (g10_x16 i hi)
  have g17_x17 : ∀ i : Nat, i < 10 → x17[17 + 1 + i]? = some (h17 + 1 + i, .inl (cI, 6, .inl (fun _ => 0))) := fun (i : Nat) hi => by rw [ex17]; exact gx_sn (show 0 ≠ 17 + 1 + i by omega) (g17_x16 i hi)
  have g29_x17 : ∀ i : Nat, i < 10 → x17[29 + 1 + i]? = some (h29 + 1 + i, .inl (cI, 6, .inl (fun _ => 0))) := fun (i : Nat) hi => by rw [ex17]; exact gx_sn (show 0 ≠ 29 + 1 + i by omega) (g29_x16 i hi)
  have g40_x17 : ∀ i : Nat, i < 10 → x17[40 + 1 + i]? = some (h40 + 1 + i, .inl (cI, 6, .inl (fun _ => 0))) := fun (i : Nat) hi => by rw [ex17]; exact gx_sn (show 0 ≠ 40 + 1 + i by omega) (g40_x16 i hi)
  have g51_x17 : ∀ i : Nat, i < 10 → x17[51 + 1 + i]? = some (h51 + 1 + i, .inl (cI, 6, .inl (fun _ => 0))) := fun (i : Nat) hi => by rw [ex17]; exact gx_sn (show 0 ≠ 51 + 1 + i by omega) (g51_x16 i hi)
  have f0_x17 : x17[0]? = some (a, .inr (iPB, [.ref tt, .ref h10, .int 0, .ref h17, .ref q28, .int 0, .ref h29, .ref h40, .ref h51, .null, .null])) := by rw [ex17]; exact gx_ss f0_x16
  refine lv_aload_n hx hb d_PB_init_82 rfl (lv_at hl 0 rfl) ?_
  refine va_new (fs := [.int 0, .null, .int 0]) hx hb (fl_AL hg) (fun _ h9 => h9) t_AL t_AL_ok hown (hg _ k_59) (hg _ k_60) (hg _ k_5) hK hP hD hS hA (ci := iAL) rfl (by decide +kernel) (by decide) (by decide) d_PB_init_83 (fun q62 H hP hD hS => ?_)
  obtain ⟨x18, ex18⟩ : ∃ x : va_W, x = x17 ++ [(q62, .inr (iAL, [.int 0, .null, .int 0]))] := ⟨_, rfl⟩
  replace hP : va_P D classes x18 H := by rw [ex18]; exact hP
  replace hD : va_D (va_A ws sz) x18 := by rw [ex18]; exact hD
  have lx18 : x18.length = 63 := by rw [ex18, List.length_append, lx17]; rfl
  have f0_x18 : x18[0]? = some (a, .inr (iPB, [.ref tt, .ref h10, .int 0, .ref h17, .ref q28, .int 0, .ref h29, .ref h40, .ref h51, .null, .null])) := by rw [ex18]; exact gx_ap f0_x17
  have f1_x18 : x18[1]? = some (tt, .inr (iTT, [.ref qs, .int 0, .int 0, .ref h3, .int 0])) := by rw [ex18]; exact gx_ap f1_x17
  have f2_x18 : x18[2]? = some (qs, .inl (cC, 120, .inl (fun _ => 0))) := by rw [ex18]; exact gx_ap f2_x17
  have f3_x18 : x18[3]? = some (h3, .inl (cII, 6, .inr (.inr (.inr (.inr (fun j => if j < 6 then some (h3 + 1 + j) else none)))))) := by rw [ex18]; exact gx_ap f3_x17
  have f10_x18 : x18[10]? = some (h10, .inl (cII, 6, .inr (.inr (.inr (.inr (fun j => if j < 6 then some (h10 + 1 + j) else none)))))) := by rw [ex18]; exact gx_ap f10_x17
  have f17_x18 : x18[17]? = some (h17, .inl (cII, 10, .inr (.inr (.inr (.inr (fun j => if j < 10 then some (h17 + 1 + j) else none)))))) := by rw [ex18]; exact gx_ap f17_x17
  have f28_x18 : x18[28]? = some (q28, .inl (cI, 10, .inl (fun _ => 0))) := by rw [ex18]; exact gx_ap f28_x17
  have f29_x18 : x18[29]? = some (h29, .inl (cII, 10, .inr (.inr (.inr (.inr (fun j => if j < 10 then some (h29 + 1 + j) else none)))))) := by rw [ex18]; exact gx_ap f29_x17
  have f40_x18 : x18[40]? = some (h40, .inl (cII, 10, .inr (.inr (.inr (.inr (fun j => if j < 10 then some (h40 + 1 + j) else none)))))) := by rw [ex18]; exact gx_ap f40_x17
  have f51_x18 : x18[51]? = some (h51, .inl (cII, 10, .inr (.inr (.inr (.inr (fun j => if j < 10 then some (h51 + 1 + j) else none)))))) := by rw [ex18]; exact gx_ap f51_x17
  have g3_x18 : ∀ i : Nat, i < 6 → x18[3 + 1 + i]? = some (h3 + 1 + i, .inl (cI, 4, .inl (fun _ => 0))) := fun (i : Nat) hi => by rw [ex18]; exact gx_ap (g3_x17 i hi)
  have g10_x18 : ∀ i : Nat, i < 6 → x18[10 + 1 + i]? = some (h10 + 1 + i, .inl (cI, 4, .inl (fun _ => 0))) := fun (i : Nat) hi => by rw [ex18]; exact gx_ap (g10_x17 i hi)
  have g17_x18 : ∀ i : Nat, i < 10 → x18[17 + 1 + i]? = some (h17 + 1 + i, .inl (cI, 6, .inl (fun _ => 0))) := fun (i : Nat) hi => by rw [ex18]; exact gx_ap (g17_x17 i hi)
  have g29_x18 : ∀ i : Nat, i < 10 → x18[29 + 1 + i]? = some (h29 + 1 + i, .inl (cI, 6, .inl (fun _ => 0))) := fun (i : Nat) hi => by rw [ex18]; exact gx_ap (g29_x17 i hi)
  have g40_x18 : ∀ i : Nat, i < 10 → x18[40 + 1 + i]? = some (h40 + 1 + i, .inl (cI, 6, .inl (fun _ => 0))) := fun (i : Nat) hi => by rw [ex18]; exact gx_ap (g40_x17 i hi)
  have g51_x18 : ∀ i : Nat, i < 10 → x18[51 + 1 + i]? = some (h51 + 1 + i, .inl (cI, 6, .inl (fun _ => 0))) := fun (i : Nat) hi => by rw [ex18]; exact gx_ap (g51_x17 i hi)
  have f62_x18 : x18[62]? = some (q62, .inr (iAL, [.int 0, .null, .int 0])) := by rw [ex18]; exact gx_lat2 lx17
  refine lv_dup hx hb d_PB_init_86 rfl ?_
  refine gx_callv (va_runI (As := []) (rest := [.ref q62, .ref a]) ⟨hx, hb, hml, hown, gx_nil⟩ (c_AL_init F f62_x18 _) ⟨gx_cb (hg _ k_63) (hg _ k_5) (hg _ k_61) nd_AL_init ⟨by decide, by decide⟩, rfl, hg _ k_62⟩ (gx_preS hV hP hD hS hA0) rfl rfl hl.1 rfl (lv_room (Nat.le_of_ble_eq_true rfl)) d_PB_init_87 ⟨by decide, by decide⟩) hD hS hA (fun w1 H locs h_87 hP hD hS => ?_)
  rw [h_87] at hP hD
  obtain ⟨x19, ex19⟩ : ∃ x : va_W, x = x18.set 62 (q62, .inr (iAL, [.int 0, .ref (fx_e0 F), .int 0])) := ⟨_, rfl⟩
  replace hP : va_P D classes x19 H := by rw [ex19]; exact hP
  replace hD : va_D (va_A ws sz) x19 := by rw [ex19]; exact hD
  have lx19 : x19.length = 63 := by rw [ex19, List.length_set, lx18]
  have f0_x19 : x19[0]? = some (a, .inr (iPB, [.ref tt, .ref h10, .int 0, .ref h17, .ref q28, .int 0, .ref h29, .ref h40, .ref h51, .null, .null])) := by rw [ex19]; exact gx_sn (by decide) f0_x18
  have f1_x19 : x19[1]? = some (tt, .inr (iTT, [.ref qs, .int 0, .int 0, .ref h3, .int 0])) := by rw [ex19]; exact gx_sn (by decide) f1_x18
  have f2_x19 : x19[2]? = some (qs, .inl (cC, 120, .inl (fun _ => 0))) := by rw [ex19]; exact gx_sn (by decide) f2_x18
  have f3_x19 : x19[3]? = some (h3, .inl (cII, 6, .inr (.inr (.inr (.inr (fun j => if j < 6 then some (h3 + 1 + j) else none)))))) := by rw [ex19]; exact gx_sn (by decide) f3_x18
  have f10_x19 : x19[10]? = some (h10, .inl (cII, 6, .inr (.inr (.inr (.inr (fun j => if j < 6 then some (h10 + 1 + j) else none)))))) := by rw [ex19]; exact gx_sn (by decide) f10_x18
  have f17_x19 : x19[17]? = some (h17, .inl (cII, 10, .inr (.inr (.inr (.inr (fun j => if j < 10 then some (h17 + 1 + j) else none)))))) := by rw [ex19]; exact gx_sn (by decide) f17_x18
  have f28_x19 : x19[28]? = some (q28, .inl (cI, 10, .inl (fun _ => 0))) := by rw [ex19]; exact gx_sn (by decide) f28_x18
  have f29_x19 : x19[29]? = some (h29, .inl (cII, 10, .inr (.inr (.inr (.inr (fun j => if j < 10 then some (h29 + 1 + j) else none)))))) := by rw [ex19]; exact gx_sn (by decide) f29_x18
  have f40_x19 : x19[40]? = some (h40, .inl (cII, 10, .inr (.inr (.inr (.inr (fun j => if j < 10 then some (h40 + 1 + j) else none)))))) := by rw [ex19]; exact gx_sn (by decide) f40_x18
  have f51_x19 : x19[51]? = some (h51, .inl (cII, 10, .inr (.inr (.inr (.inr (fun j => if j < 10 then some (h51 + 1 + j) else none)))))) := by rw [ex19]; exact gx_sn (by decide) f51_x18
  have g3_x19 : ∀ i : Nat, i < 6 → x19[3 + 1 + i]? = some (h3 + 1 + i, .inl (cI, 4, .inl (fun _ => 0))) := fun (i : Nat) hi => by rw [ex19]; exact gx_sn (show 62 ≠ 3 + 1 + i by omega) (g3_x18 i hi)
  have g10_x19 : ∀ i : Nat, i < 6 → x19[10 + 1 + i]? = some (h10 + 1 + i, .inl (cI, 4, .inl (fun _ => 0))) := fun (i : Nat) hi => by rw [ex19]; exact gx_sn (show 62 ≠ 10 + 1 + i by omega) (g10_x18 i hi)
  have g17_x19 : ∀ i : Nat, i < 10 → x19[17 + 1 + i]? = some (h17 + 1 + i, .inl (cI, 6, .inl (fun _ => 0))) := fun (i : Nat) hi => by rw [ex19]; exact gx_sn (show 62 ≠ 17 + 1 + i by omega) (g17_x18 i hi)
  have g29_x19 : ∀ i : Nat, i < 10 → x19[29 + 1 + i]? = some (h29 + 1 + i, .inl (cI, 6, .inl (fun _ => 0))) := fun (i : Nat) hi => by rw [ex19]; exact gx_sn (show 62 ≠ 29 + 1 + i by omega) (g29_x18 i hi)
  have g40_x19 : ∀ i : Nat, i < 10 → x19[40 + 1 + i]? = some (h40 + 1 + i, .inl (cI, 6, .inl (fun _ => 0))) := fun (i : Nat) hi => by rw [ex19]; exact gx_sn (show 62 ≠ 40 + 1 + i by omega) (g40_x18 i hi)
  have g51_x19 : ∀ i : Nat, i < 10 → x19[51 + 1 + i]? = some (h51 + 1 + i, .inl (cI, 6, .inl (fun _ => 0))) := fun (i : Nat) hi => by rw [ex19]; exact gx_sn (show 62 ≠ 51 + 1 + i by omega) (g51_x18 i hi)
  have f62_x19 : x19[62]? = some (q62, .inr (iAL, [.int 0, .ref (fx_e0 F), .int 0])) := by rw [ex19]; exact gx_ss f62_x18
  refine va_putF (D := D) (ci := iPB) (v := .ref q62) (ty := .object "java/util/ArrayList") (C := R_PB) (T := F_PB) (N := 11) hx hb (fl_PB hg) (fun _ h9 => h9) t_PB t_PB_ok n_PB hown hK hP hD hS 0 (f0_x19) rfl 9 (by decide) (hg _ k_97) (fun _ h9 => h9) rfl hnm rfl (by decide +kernel) rfl rfl (Nat.le_of_ble_eq_true rfl) d_PB_init_90 (fun H locs hP hD hS => ?_)
  obtain ⟨x20, ex20⟩ : ∃ x : va_W, x = x19.set 0 (a, .inr (iPB, [.ref tt, .ref h10, .int 0, .ref h17, .ref q28, .int 0, .ref h29, .ref h40, .ref h51, .ref q62, .null])) := ⟨_, rfl⟩
  replace hP : va_P D classes x20 H := by rw [ex20]; exact hP
  replace hD : va_D (va_A ws sz) x20 := by rw [ex20]; exact hD
  have lx20 : x20.length = 63 := by rw [ex20, List.length_set, lx19]
  have f1_x20 : x20[1]? = some (tt, .inr (iTT, [.ref qs, .int 0, .int 0, .ref h3, .int 0])) := by rw [ex20]; exact gx_sn (by decide) f1_x19
  have f2_x20 : x20[2]? = some (qs, .inl (cC, 120, .inl (fun _ => 0))) := by rw [ex20]; exact gx_sn (by decide) f2_x19
  have f3_x20 : x20[3]? = some (h3, .inl (cII, 6, .inr (.inr (.inr (.inr (fun j => if j < 6 then some (h3 + 1 + j) else none)))))) := by rw [ex20]; exact gx_sn (by decide) f3_x19
  have f10_x20 : x20[10]? = some (h10, .inl (cII, 6, .inr (.inr (.inr (.inr (fun j => if j < 6 then some (h10 + 1 + j) else none)))))) := by rw [ex20]; exact gx_sn (by decide) f10_x19
  have f17_x20 : x20[17]? = some (h17, .inl (cII, 10, .inr (.inr (.inr (.inr (fun j => if j < 10 then some (h17 + 1 + j) else none)))))) := by rw [ex20]; exact gx_sn (by decide) f17_x19
  have f28_x20 : x20[28]? = some (q28, .inl (cI, 10, .inl (fun _ => 0))) := by rw [ex20]; exact gx_sn (by decide) f28_x19
  have f29_x20 : x20[29]? = some (h29, .inl (cII, 10, .inr (.inr (.inr (.inr (fun j => if j < 10 then some (h29 + 1 + j) else none)))))) := by rw [ex20]; exact gx_sn (by decide) f29_x19
  have f40_x20 : x20[40]? = some (h40, .inl (cII, 10, .inr (.inr (.inr (.inr (fun j => if j < 10 then some (h40 + 1 + j) else none)))))) := by rw [ex20]; exact gx_sn (by decide) f40_x19
  have f51_x20 : x20[51]? = some (h51, .inl (cII, 10, .inr (.inr (.inr (.inr (fun j => if j < 10 then some (h51 + 1 + j) else none)))))) := by rw [ex20]; exact gx_sn (by decide) f51_x19
  have f62_x20 : x20[62]? = some (q62, .inr (iAL, [.int 0, .ref (fx_e0 F), .int 0])) := by rw [ex20]; exact gx_sn (by decide) f62_x19
  have g3_x20 : ∀ i : Nat, i < 6 → x20[3 + 1 + i]? = some (h3 + 1 + i, .inl (cI, 4, .inl (fun _ => 0))) := fun (i : Nat) hi => by rw [ex20]; exact gx_sn (show 0 ≠ 3 + 1 + i by omega) (g3_x19 i hi)
  have g10_x20 : ∀ i : Nat, i < 6 → x20[10 + 1 + i]? = some (h10 + 1 + i, .inl (cI, 4, .inl (fun _ => 0))) := fun (i : Nat) hi => by rw [ex20]; exact gx_sn (show 0 ≠ 10 + 1 + i by omega) (g10_x19 i hi)
  have g17_x20 : ∀ i : Nat, i < 10 → x20[17 + 1 + i]? = some (h17 + 1 + i, .inl (cI, 6, .inl (fun _ => 0))) := fun (i : Nat) hi => by rw [ex20]; exact gx_sn (show 0 ≠ 17 + 1 + i by omega) (g17_x19 i hi)
  have g29_x20 : ∀ i : Nat, i < 10 → x20[29 + 1 + i]? = some (h29 + 1 + i, .inl (cI, 6, .inl (fun _ => 0))) := fun (i : Nat) hi => by rw [ex20]; exact gx_sn (show 0 ≠ 29 + 1 + i by omega) (g29_x19 i hi)
  have g40_x20 : ∀ i : Nat, i < 10 → x20[40 + 1 + i]? = some (h40 + 1 + i, .inl (cI, 6, .inl (fun _ => 0))) := fun (i : Nat) hi => by rw [ex20]; exact gx_sn (show 0 ≠ 40 + 1 + i by omega) (g40_x19 i hi)
  have g51_x20 : ∀ i : Nat, i < 10 → x20[51 + 1 + i]? = some (h51 + 1 + i, .inl (cI, 6, .inl (fun _ => 0))) := fun (i : Nat) hi => by rw [ex20]; exact gx_sn (show 0 ≠ 51 + 1 + i by omega) (g51_x19 i hi)
  have f0_x20 : x20[0]? = some (a, .inr (iPB, [.ref tt, .ref h10, .int 0, .ref h17, .ref q28, .int 0, .ref h29, .ref h40, .ref h51, .ref q62, .null])) := by rw [ex20]; exact gx_ss f0_x19
  refine lv_aload_n hx hb d_PB_init_93 rfl (lv_at hl 0 rfl) ?_
  refine lv_bipush (v := 10) hx hb d_PB_init_94 (by decide) ?_
  refine va_newa (atype := .long) (ty := .long) (a0 := (10, .inr (.inl (fun _ => 0)))) (N' := 10) hx hb (hg _ k_122) rfl hK hP hD hS hA (fun _ => rfl) (by decide) (by decide) (by decide) (by decide) (by decide) d_PB_init_96 (fun q63 cA H hK9 hP hD hS => ?_)
  have eA := gx_sameJ hK9
  rw [eA] at hP hD
  clear eA hK9 cA
  obtain ⟨x21, ex21⟩ : ∃ x : va_W, x = x20 ++ [(q63, .inl (cJ, 10, .inr (.inl (fun _ => 0))))] := ⟨_, rfl⟩
  replace hP : va_P D classes x21 H := by rw [ex21]; exact hP
  replace hD : va_D (va_A ws sz) x21 := by rw [ex21]; exact hD
  have lx21 : x21.length = 64 := by rw [ex21, List.length_append, lx20]; rfl
  have f0_x21 : x21[0]? = some (a, .inr (iPB, [.ref tt, .ref h10, .int 0, .ref h17, .ref q28, .int 0, .ref h29, .ref h40, .ref h51, .ref q62, .null])) := by rw [ex21]; exact gx_ap f0_x20
  have f1_x21 : x21[1]? = some (tt, .inr (iTT, [.ref qs, .int 0, .int 0, .ref h3, .int 0])) := by rw [ex21]; exact gx_ap f1_x20
  have f2_x21 : x21[2]? = some (qs, .inl (cC, 120, .inl (fun _ => 0))) := by rw [ex21]; exact gx_ap f2_x20
  have f3_x21 : x21[3]? = some (h3, .inl (cII, 6, .inr (.inr (.inr (.inr (fun j => if j < 6 then some (h3 + 1 + j) else none)))))) := by rw [ex21]; exact gx_ap f3_x20
  have f10_x21 : x21[10]? = some (h10, .inl (cII, 6, .inr (.inr (.inr (.inr (fun j => if j < 6 then some (h10 + 1 + j) else none)))))) := by rw [ex21]; exact gx_ap f10_x20
  have f17_x21 : x21[17]? = some (h17, .inl (cII, 10, .inr (.inr (.inr (.inr (fun j => if j < 10 then some (h17 + 1 + j) else none)))))) := by rw [ex21]; exact gx_ap f17_x20
  have f28_x21 : x21[28]? = some (q28, .inl (cI, 10, .inl (fun _ => 0))) := by rw [ex21]; exact gx_ap f28_x20
  have f29_x21 : x21[29]? = some (h29, .inl (cII, 10, .inr (.inr (.inr (.inr (fun j => if j < 10 then some (h29 + 1 + j) else none)))))) := by rw [ex21]; exact gx_ap f29_x20
  have f40_x21 : x21[40]? = some (h40, .inl (cII, 10, .inr (.inr (.inr (.inr (fun j => if j < 10 then some (h40 + 1 + j) else none)))))) := by rw [ex21]; exact gx_ap f40_x20
  have f51_x21 : x21[51]? = some (h51, .inl (cII, 10, .inr (.inr (.inr (.inr (fun j => if j < 10 then some (h51 + 1 + j) else none)))))) := by rw [ex21]; exact gx_ap f51_x20
  have f62_x21 : x21[62]? = some (q62, .inr (iAL, [.int 0, .ref (fx_e0 F), .int 0])) := by rw [ex21]; exact gx_ap f62_x20
  have g3_x21 : ∀ i : Nat, i < 6 → x21[3 + 1 + i]? = some (h3 + 1 + i, .inl (cI, 4, .inl (fun _ => 0))) := fun (i : Nat) hi => by rw [ex21]; exact gx_ap (g3_x20 i hi)
  have g10_x21 : ∀ i : Nat, i < 6 → x21[10 + 1 + i]? = some (h10 + 1 + i, .inl (cI, 4, .inl (fun _ => 0))) := fun (i : Nat) hi => by rw [ex21]; exact gx_ap (g10_x20 i hi)
  have g17_x21 : ∀ i : Nat, i < 10 → x21[17 + 1 + i]? = some (h17 + 1 + i, .inl (cI, 6, .inl (fun _ => 0))) := fun (i : Nat) hi => by rw [ex21]; exact gx_ap (g17_x20 i hi)
  have g29_x21 : ∀ i : Nat, i < 10 → x21[29 + 1 + i]? = some (h29 + 1 + i, .inl (cI, 6, .inl (fun _ => 0))) := fun (i : Nat) hi => by rw [ex21]; exact gx_ap (g29_x20 i hi)
  have g40_x21 : ∀ i : Nat, i < 10 → x21[40 + 1 + i]? = some (h40 + 1 + i, .inl (cI, 6, .inl (fun _ => 0))) := fun (i : Nat) hi => by rw [ex21]; exact gx_ap (g40_x20 i hi)
  have g51_x21 : ∀ i : Nat, i < 10 → x21[51 + 1 + i]? = some (h51 + 1 + i, .inl (cI, 6, .inl (fun _ => 0))) := fun (i : Nat) hi => by rw [ex21]; exact gx_ap (g51_x20 i hi)
  have f63_x21 : x21[63]? = some (q63, .inl (cJ, 10, .inr (.inl (fun _ => 0)))) := by rw [ex21]; exact gx_lat2 lx20
  refine va_putF (D := D) (ci := iPB) (v := .ref q63) (ty := .array .long) (C := R_PB) (T := F_PB) (N := 11) hx hb (fl_PB hg) (fun _ h9 => h9) t_PB t_PB_ok n_PB hown hK hP hD hS 0 (f0_x21) rfl 10 (by decide) (hg _ k_98) (fun _ h9 => h9) rfl hnm rfl (by decide +kernel) rfl rfl (Nat.le_of_ble_eq_true rfl) d_PB_init_98 (fun H locs hP hD hS => ?_)
  obtain ⟨x22, ex22⟩ : ∃ x : va_W, x = x21.set 0 (a, .inr (iPB, [.ref tt, .ref h10, .int 0, .ref h17, .ref q28, .int 0, .ref h29, .ref h40, .ref h51, .ref q62, .ref q63])) := ⟨_, rfl⟩
  replace hP : va_P D classes x22 H := by rw [ex22]; exact hP
  replace hD : va_D (va_A ws sz) x22 := by rw [ex22]; exact hD
  have lx22 : x22.length = 64 := by rw [ex22, List.length_set, lx21]
  have f1_x22 : x22[1]? = some (tt, .inr (iTT, [.ref qs, .int 0, .int 0, .ref h3, .int 0])) := by rw [ex22]; exact gx_sn (by decide) f1_x21
  have f2_x22 : x22[2]? = some (qs, .inl (cC, 120, .inl (fun _ => 0))) := by rw [ex22]; exact gx_sn (by decide) f2_x21
  have f3_x22 : x22[3]? = some (h3, .inl (cII, 6, .inr (.inr (.inr (.inr (fun j => if j < 6 then some (h3 + 1 + j) else none)))))) := by rw [ex22]; exact gx_sn (by decide) f3_x21
  have f10_x22 : x22[10]? = some (h10, .inl (cII, 6, .inr (.inr (.inr (.inr (fun j => if j < 6 then some (h10 + 1 + j) else none)))))) := by rw [ex22]; exact gx_sn (by decide) f10_x21
  have f17_x22 : x22[17]? = some (h17, .inl (cII, 10, .inr (.inr (.inr (.inr (fun j => if j < 10 then some (h17 + 1 + j) else none)))))) := by rw [ex22]; exact gx_sn (by decide) f17_x21
  have f28_x22 : x22[28]? = some (q28, .inl (cI, 10, .inl (fun _ => 0))) := by rw [ex22]; exact gx_sn (by decide) f28_x21
  have f29_x22 : x22[29]? = some (h29, .inl (cII, 10, .inr (.inr (.inr (.inr (fun j => if j < 10 then some (h29 + 1 + j) else none)))))) := by rw [ex22]; exact gx_sn (by decide) f29_x21
  have f40_x22 : x22[40]? = some (h40, .inl (cII, 10, .inr (.inr (.inr (.inr (fun j => if j < 10 then some (h40 + 1 + j) else none)))))) := by rw [ex22]; exact gx_sn (by decide) f40_x21
  have f51_x22 : x22[51]? = some (h51, .inl (cII, 10, .inr (.inr (.inr (.inr (fun j => if j < 10 then some (h51 + 1 + j) else none)))))) := by rw [ex22]; exact gx_sn (by decide) f51_x21
  have f62_x22 : x22[62]? = some (q62, .inr (iAL, [.int 0, .ref (fx_e0 F), .int 0])) := by rw [ex22]; exact gx_sn (by decide) f62_x21
  have f63_x22 : x22[63]? = some (q63, .inl (cJ, 10, .inr (.inl (fun _ => 0)))) := by rw [ex22]; exact gx_sn (by decide) f63_x21
  have g3_x22 : ∀ i : Nat, i < 6 → x22[3 + 1 + i]? = some (h3 + 1 + i, .inl (cI, 4, .inl (fun _ => 0))) := fun (i : Nat) hi => by rw [ex22]; exact gx_sn (show 0 ≠ 3 + 1 + i by omega) (g3_x21 i hi)
  have g10_x22 : ∀ i : Nat, i < 6 → x22[10 + 1 + i]? = some (h10 + 1 + i, .inl (cI, 4, .inl (fun _ => 0))) := fun (i : Nat) hi => by rw [ex22]; exact gx_sn (show 0 ≠ 10 + 1 + i by omega) (g10_x21 i hi)
  have g17_x22 : ∀ i : Nat, i < 10 → x22[17 + 1 + i]? = some (h17 + 1 + i, .inl (cI, 6, .inl (fun _ => 0))) := fun (i : Nat) hi => by rw [ex22]; exact gx_sn (show 0 ≠ 17 + 1 + i by omega) (g17_x21 i hi)
  have g29_x22 : ∀ i : Nat, i < 10 → x22[29 + 1 + i]? = some (h29 + 1 + i, .inl (cI, 6, .inl (fun _ => 0))) := fun (i : Nat) hi => by rw [ex22]; exact gx_sn (show 0 ≠ 29 + 1 + i by omega) (g29_x21 i hi)
  have g40_x22 : ∀ i : Nat, i < 10 → x22[40 + 1 + i]? = some (h40 + 1 + i, .inl (cI, 6, .inl (fun _ => 0))) := fun (i : Nat) hi => by rw [ex22]; exact gx_sn (show 0 ≠ 40 + 1 + i by omega) (g40_x21 i hi)
  have g51_x22 : ∀ i : Nat, i < 10 → x22[51 + 1 + i]? = some (h51 + 1 + i, .inl (cI, 6, .inl (fun _ => 0))) := fun (i : Nat) hi => by rw [ex22]; exact gx_sn (show 0 ≠ 51 + 1 + i by omega) (g51_x21 i hi)
  have f0_x22 : x22[0]? = some (a, .inr (iPB, [.ref tt, .ref h10, .int 0, .ref h17, .ref q28, .int 0, .ref h29, .ref h40, .ref h51, .ref q62, .ref q63])) := by rw [ex22]; exact gx_ss f0_x21
  obtain ⟨κ, eκ⟩ : ∃ x : Nat → Nat, x = cb_κ0 a tt qs h3 h10 h17 q28 h29 h40 h51 q62 q63 := ⟨_, rfl⟩
  obtain ⟨ra, era⟩ : ∃ x : Nat → Nat → Nat, x = cb_ra0 h3 h10 h17 h29 h40 h51 := ⟨_, rfl⟩
  have hI : cb_I cI cC cJ cII x22 κ ra (fun _ => 0) (fun _ => 0) (fun _ _ _ => 0) (fun _ => 0) (fun _ => 0) := by
    rw [eκ, era]
    refine ⟨f0_x22, f1_x22, f2_x22, f28_x22, f63_x22, fun g hg9 => ?_, fun g hg9 i hi => ?_⟩
    · rcases (show g = 0 ∨ g = 1 ∨ g = 2 ∨ g = 3 ∨ g = 4 ∨ g = 5 by omega) with rfl | rfl | rfl | rfl | rfl | rfl
      · exact f3_x22
      · exact f10_x22
      · exact f17_x22
      · exact f29_x22
      · exact f40_x22
      · exact f51_x22
    · rcases (show g = 0 ∨ g = 1 ∨ g = 2 ∨ g = 3 ∨ g = 4 ∨ g = 5 by omega) with rfl | rfl | rfl | rfl | rfl | rfl
      · exact g3_x22 i hi
      · exact g10_x22 i hi
      · exact g17_x22 i hi
      · exact g29_x22 i hi
      · exact g40_x22 i hi
      · exact g51_x22 i hi
  have hL : ∀ (la lp : Nat → Nat) (li : Nat → Nat → Int32) (ll : Nat → Nat → Int64), cb_L cO x22 (κ 62) 0 (fx_e0 F) 0 la lp li ll := fun la lp li ll => ⟨fx_e0 F, by rw [eκ]; exact f62_x22, fun j hj => absurd hj (Nat.not_lt_zero j), fun i j hi => absurd hi (Nat.not_lt_zero i), Or.inl ⟨rfl, rfl⟩⟩
  have hκ0 : κ 0 = a := by rw [eκ]; rfl
  rw [← hκ0] at hl
  obtain ⟨wb, ewb⟩ : ∃ x : va_W, x = x22 := ⟨_, rfl⟩
  rw [← ewb] at hP hD hI hL
  have hH : cb_hi wb wb := fun _ _ => rfl
  clear f0_x22 f1_x22 f2_x22 f3_x22 f10_x22 f17_x22 f28_x22 f29_x22 f40_x22 f51_x22 f62_x22 f63_x22 g3_x22 g10_x22 g17_x22 g29_x22 g40_x22 g51_x22
  refine lv_iconst (v := 0) hx hb d_PB_init_101 (by decide) ?_
  refine lv_istore_n (lv' := [(1, .int 0), (0, .ref (κ 0))]) hx hb d_PB_init_102 rfl hl (by decide) rfl (fun ls hl => ?_)
  have loop1 : ∀ (nn : Nat) (i : Nat) (G' : Nat → Nat → Nat → Int32) (wx : va_W) (H : Heap) (locs : List Loc) (ls : Array Slot) (hi : i ≤ 6) (hf : 7 ≤ i + nn) (hG : ∀ g, g ≠ 1 → G' g = fun _ _ => 0) (hG1 : ∀ k, G' 1 k = if k < i then cb_t0 else fun _ => 0) (hI : cb_I cI cC cJ cII wx κ ra (fun _ => 0) (fun _ => 0) G' (fun _ => 0) (fun _ => 0)) (hH : cb_hi wb wx) (hP : va_P D classes wx H) (hD : va_D (va_A ws sz) wx) (hS : va_S (va_A ws sz) s.heap H locs) (hl : lv_has ls 2 [(1, .int (nI i)), (0, .ref (κ 0))]), W p l e ({ frames := 4, cells := 72, slots := 613, locals := 120 } : Room) s m ([.ref a] : List Value).toArray below meth c H locs 72 613 (MQ below (va_Qv (fun w1 => ∃ (κ : Nat → Nat) (ra : Nat → Nat → Nat) (G : Nat → Nat → Nat → Int32), cb_I cI cC cJ cII w1 κ ra (fun _ => 0) (fun _ => 0) G (fun _ => 0) (fun _ => 0) ∧ (∀ (la lp : Nat → Nat) (li : Nat → Nat → Int32) (ll : Nat → Nat → Int64), cb_L cO w1 (κ 62) 0 (fx_e0 F) 0 la lp li ll) ∧ κ 0 = a ∧ (∀ k, k < 6 → G 1 k = cb_t0) ∧ G 2 = (fun _ _ => 0) ∧ G 3 = (fun _ _ => 0) ∧ (∀ k, k < 10 → G 4 k = cb_fil (fun _ => 0) 1 6) ∧ (∀ k, k < 10 → G 5 k = cb_fil (fun _ => 0) 1 6)) (gx_B D classes ws sz) (va_A ws sz)) ([.ref a] : List Value).toArray s 72 613 (va_A ws sz)) (F0 m 103 ls []) := by
    intro nn
    induction nn with
    | zero =>
      intro i G' wx H locs ls hi hf hG hG1 hI hH hP hD hS hl
      exact absurd hf (by omega)
    | succ nn ih =>
      intro i G' wx H locs ls hi hf hG hG1 hI hH hP hD hS hl
      refine lv_iload_n hx hb d_PB_init_103 rfl (lv_at hl 0 rfl) ?_
      refine lv_bipush (v := 6) hx hb d_PB_init_104 (by decide) ?_
      refine lv_icmp_ge (tgt := 134) hx hb d_PB_init_106 (by decide) (fun c_106 => ?_) (fun c_106 => ?_)
      · skip
        have hi6 : i = 6 := by have := gx_ngt (a := 6) c_106; omega
        obtain ⟨G1, eG1⟩ : ∃ x : Nat → Nat → Nat → Int32, x = G' := ⟨_, rfl⟩
        rw [hi6] at hG1
        have hGa := hG
        rw [← eG1] at hI hG hG1 hGa
        refine lv_iconst (v := 0) hx hb d_PB_init_134 (by decide) ?_
        refine lv_istore_n (lv' := [(1, .int 0), (0, .ref (κ 0))]) hx hb d_PB_init_135 rfl hl (by decide) rfl (fun ls hl => ?_)
        have loop2 : ∀ (nn : Nat) (i : Nat) (G2 : Nat → Nat → Nat → Int32) (wx : va_W) (H : Heap) (locs : List Loc) (ls : Array Slot) (hi : i ≤ 10) (hf : 11 ≤ i + nn) (hG : ∀ g, g < 4 → G2 g = G1 g) (hG4 : ∀ k, G2 4 k = if k < i then cb_fil (fun _ => 0) 1 6 else fun _ => 0) (hG5 : ∀ k, G2 5 k = if k < i then cb_fil (fun _ => 0) 1 6 else fun _ => 0) (hI : cb_I cI cC cJ cII wx κ ra (fun _ => 0) (fun _ => 0) G2 (fun _ => 0) (fun _ => 0)) (hH : cb_hi wb wx) (hP : va_P D classes wx H) (hD : va_D (va_A ws sz) wx) (hS : va_S (va_A ws sz) s.heap H locs) (hl : lv_has ls 2 [(1, .int (nI i)), (0, .ref (κ 0))]), W p l e ({ frames := 4, cells := 72, slots := 613, locals := 120 } : Room) s m ([.ref a] : List Value).toArray below meth c H locs 72 613 (MQ below (va_Qv (fun w1 => ∃ (κ : Nat → Nat) (ra : Nat → Nat → Nat) (G : Nat → Nat → Nat → Int32), cb_I cI cC cJ cII w1 κ ra (fun _ => 0) (fun _ => 0) G (fun _ => 0) (fun _ => 0) ∧ (∀ (la lp : Nat → Nat) (li : Nat → Nat → Int32) (ll : Nat → Nat → Int64), cb_L cO w1 (κ 62) 0 (fx_e0 F) 0 la lp li ll) ∧ κ 0 = a ∧ (∀ k, k < 6 → G 1 k = cb_t0) ∧ G 2 = (fun _ _ => 0) ∧ G 3 = (fun _ _ => 0) ∧ (∀ k, k < 10 → G 4 k = cb_fil (fun _ => 0) 1 6) ∧ (∀ k, k < 10 → G 5 k = cb_fil (fun _ => 0) 1 6)) (gx_B D classes ws sz) (va_A ws sz)) ([.ref a] : List Value).toArray s 72 613 (va_A ws sz)) (F0 m 136 ls []) := by
          intro nn
          induction nn with
          | zero =>
            intro i G2 wx H locs ls hi hf hG hG4 hG5 hI hH hP hD hS hl
            exact absurd hf (by omega)
          | succ nn ih =>
            intro i G2 wx H locs ls hi hf hG hG4 hG5 hI hH hP hD hS hl
            refine lv_iload_n hx hb d_PB_init_136 rfl (lv_at hl 0 rfl) ?_
            refine lv_bipush (v := 10) hx hb d_PB_init_137 (by decide) ?_
            refine lv_icmp_ge (tgt := 168) hx hb d_PB_init_139 (by decide) (fun c_139 => ?_) (fun c_139 => ?_)
            · skip
              have hi10 : i = 10 := by have := gx_ngt (a := 10) c_139; omega
              exact gx_vret hx hb hr hlocks hS hP hD (by decide) (by decide) d_PB_init_168 (⟨κ, ra, G2, hI, fun la lp li ll => cb_L.of hH (hL la lp li ll), hκ0, fun k hk => by rw [hG 1 (by decide), hG1 k, if_pos hk], by rw [hG 2 (by decide)]; exact hGa 2 (by decide), by rw [hG 3 (by decide)]; exact hGa 3 (by decide), fun k hk => by rw [hG4 k, hi10]; exact if_pos hk, fun k hk => by rw [hG5 k, hi10]; exact if_pos hk⟩)
            · skip
              have hi10 : i < 10 := gx_nlt (a := 10) c_139
              refine lv_aload_n hx hb d_PB_init_142 rfl (lv_at hl 1 rfl) ?_
              refine va_get (D := D) (ci := iPB) (v := .ref (κ 40)) (C := R_PB) (T := F_PB) (N := 11) hx hb (fl_PB hg) (fun _ h9 => h9) hown hK hP 0 (hI.1) rfl 7 (by decide) (hg _ k_95) (fun _ h9 => h9) rfl d_PB_init_143 ?_
              refine lv_iload_n hx hb d_PB_init_146 rfl (lv_at hl 0 rfl) ?_
              refine gx_al hx hb hK hP 40 3 (hI.2.2.2.2.2.1 4 (by decide)) rfl rfl i (v := ra 4 i) (rfl) (hi10) (by decide) (if_pos (hi10)) d_PB_init_147 ?_
              refine lv_iconst (v := 1) hx hb d_PB_init_148 (by decide) ?_
              refine gx_callv (va_runS (As := [.ref (ra 4 i), .int 1]) (rest := []) ⟨hx, hb, hml, hown, gx_nil⟩ (c_AR_fill F (hI.2.2.2.2.2.2 4 (by decide) i hi10) _ 1 (by decide)) ⟨gx_cb (hg _ k_87) (hg _ k_6) (hg _ k_85) nd_AR_fill ⟨by decide, by decide⟩, hg _ k_86⟩ (gx_preS hV hP hD hS hA0) rfl rfl hl.1 rfl (lv_room (Nat.le_of_ble_eq_true rfl)) d_PB_init_149 ⟨by decide, by decide⟩) hD hS hA (fun w1 H locs h_149 hP hD hS => ?_)
              replace hI : cb_I cI cC cJ cII w1 κ ra (fun _ => 0) (fun _ => 0) (cb_upg G2 4 i (cb_fil (G2 4 i) 1 6)) (fun _ => 0) (fun _ => 0) := by rw [h_149]; exact cb_I.row (by decide) hi10 hI
              replace hH : cb_hi wb w1 := by rw [h_149]; exact cb_hi.set (by have := cb_gp_lt 4 (by decide) i hi10; omega) hH
              refine lv_aload_n hx hb d_PB_init_152 rfl (lv_at hl 1 rfl) ?_
              refine va_get (D := D) (ci := iPB) (v := .ref (κ 51)) (C := R_PB) (T := F_PB) (N := 11) hx hb (fl_PB hg) (fun _ h9 => h9) hown hK hP 0 (hI.1) rfl 8 (by decide) (hg _ k_96) (fun _ h9 => h9) rfl d_PB_init_153 ?_
              refine lv_iload_n hx hb d_PB_init_156 rfl (lv_at hl 0 rfl) ?_
              refine gx_al hx hb hK hP 51 3 (hI.2.2.2.2.2.1 5 (by decide)) rfl rfl i (v := ra 5 i) (rfl) (hi10) (by decide) (if_pos (hi10)) d_PB_init_157 ?_
              refine lv_iconst (v := 1) hx hb d_PB_init_158 (by decide) ?_
              refine gx_callv (va_runS (As := [.ref (ra 5 i), .int 1]) (rest := []) ⟨hx, hb, hml, hown, gx_nil⟩ (c_AR_fill F (hI.2.2.2.2.2.2 5 (by decide) i hi10) _ 1 (by decide)) ⟨gx_cb (hg _ k_87) (hg _ k_6) (hg _ k_85) nd_AR_fill ⟨by decide, by decide⟩, hg _ k_86⟩ (gx_preS hV hP hD hS hA0) rfl rfl hl.1 rfl (lv_room (Nat.le_of_ble_eq_true rfl)) d_PB_init_159 ⟨by decide, by decide⟩) hD hS hA (fun w1 H locs h_159 hP hD hS => ?_)
              replace hI : cb_I cI cC cJ cII w1 κ ra (fun _ => 0) (fun _ => 0) (cb_upg (cb_upg G2 4 i (cb_fil (G2 4 i) 1 6)) 5 i (cb_fil ((cb_upg G2 4 i (cb_fil (G2 4 i) 1 6)) 5 i) 1 6)) (fun _ => 0) (fun _ => 0) := by rw [h_159]; exact cb_I.row (by decide) hi10 hI
              replace hH : cb_hi wb w1 := by rw [h_159]; exact cb_hi.set (by have := cb_gp_lt 5 (by decide) i hi10; omega) hH
              refine lv_iinc (v := nI (i + 1)) (lv' := [(1, .int (nI (i + 1))), (0, .ref (κ 0))]) hx hb d_PB_init_162 hl (k := 0) rfl (by rw [lit1]; exact nI_1 i) (by decide) rfl (fun ls hl => ?_)
              refine lv_goto (tgt := 136) hx hb d_PB_init_165 (by decide) ?_
              exact ih (i + 1) _ _ _ _ ls (by omega) (by omega) (fun g hg9 => by rw [cb_gk g (by omega), cb_gk g (by omega)]; exact hG g hg9) (fun k => by rw [cb_gk 4 (by decide)]; exact cb_f0_s hG4 k) (cb_f0_s (fun k => by rw [cb_gk 5 (by decide)]; exact hG5 k)) hI hH hP hD hS (lv_sub hl [0, 1] rfl)
        exact loop2 11 0 G1 _ _ _ ls (by decide) (by decide) (fun _ _ => rfl) (fun k => by rw [hG 4 (by decide)]; exact (if_neg (Nat.not_lt_zero k)).symm) (fun k => by rw [hG 5 (by decide)]; exact (if_neg (Nat.not_lt_zero k)).symm) hI hH hP hD hS (lv_sub hl [0, 1] rfl)
      · skip
        have hi6 : i < 6 := gx_nlt (a := 6) c_106
        refine lv_aload_n hx hb d_PB_init_109 rfl (lv_at hl 1 rfl) ?_
        refine va_get (D := D) (ci := iPB) (v := .ref (κ 10)) (C := R_PB) (T := F_PB) (N := 11) hx hb (fl_PB hg) (fun _ h9 => h9) hown hK hP 0 (hI.1) rfl 1 (by decide) (hg _ k_89) (fun _ h9 => h9) rfl d_PB_init_110 ?_
        refine lv_iload_n hx hb d_PB_init_113 rfl (lv_at hl 0 rfl) ?_
        refine gx_al hx hb hK hP 10 3 (hI.2.2.2.2.2.1 1 (by decide)) rfl rfl i (v := ra 1 i) (rfl) (hi6) (by decide) (if_pos (hi6)) d_PB_init_114 ?_
        refine lv_iconst (v := 0) hx hb d_PB_init_115 (by decide) ?_
        refine lv_bipush (v := 7) hx hb d_PB_init_116 (by decide) ?_
        refine gx_is hx hb hK hP hD hS (cb_gp 1 + 1 + i) 0 (hI.2.2.2.2.2.2 1 (by decide) i (hi6)) rfl 0 (by decide) (by decide) (by decide) d_PB_init_118 (fun H locs hP hD hS => ?_)
        obtain ⟨w_1, ew_1⟩ : ∃ x : va_W, x = wx.set (cb_gp 1 + 1 + i) (ra 1 i, .inl (cI, cb_wd 1, .inl (upd (G' 1 i) 0 7))) := ⟨_, rfl⟩
        replace hP : va_P D classes w_1 H := by rw [ew_1]; exact hP
        replace hD : va_D (va_A ws sz) w_1 := by rw [ew_1]; exact hD
        replace hI : cb_I cI cC cJ cII w_1 κ ra (fun _ => 0) (fun _ => 0) (cb_upg G' 1 i (upd (G' 1 i) 0 7)) (fun _ => 0) (fun _ => 0) := by rw [ew_1]; exact cb_I.row (by decide) (hi6) hI
        replace hH : cb_hi wb w_1 := by rw [ew_1]; exact cb_hi.set (by have := cb_gp_lt 1 (by decide) i (hi6); omega) hH
        refine lv_aload_n hx hb d_PB_init_119 rfl (lv_at hl 1 rfl) ?_
        refine va_get (D := D) (ci := iPB) (v := .ref (κ 10)) (C := R_PB) (T := F_PB) (N := 11) hx hb (fl_PB hg) (fun _ h9 => h9) hown hK hP 0 (hI.1) rfl 1 (by decide) (hg _ k_89) (fun _ h9 => h9) rfl d_PB_init_120 ?_
        refine lv_iload_n hx hb d_PB_init_123 rfl (lv_at hl 0 rfl) ?_
        refine gx_al hx hb hK hP 10 3 (hI.2.2.2.2.2.1 1 (by decide)) rfl rfl i (v := ra 1 i) (rfl) (hi6) (by decide) (if_pos (hi6)) d_PB_init_124 ?_
        refine lv_iconst (v := 1) hx hb d_PB_init_125 (by decide) ?_
        refine lv_iconst (v := 1) hx hb d_PB_init_126 (by decide) ?_
        refine gx_is hx hb hK hP hD hS (cb_gp 1 + 1 + i) 0 (by have h9 := hI.2.2.2.2.2.2 1 (by decide) i (hi6); rw [cb_upg_s] at h9; exact h9) rfl 1 (by decide) (by decide) (by decide) d_PB_init_127 (fun H locs hP hD hS => ?_)
        obtain ⟨w_2, ew_2⟩ : ∃ x : va_W, x = w_1.set (cb_gp 1 + 1 + i) (ra 1 i, .inl (cI, cb_wd 1, .inl (upd (upd (G' 1 i) 0 7) 1 1))) := ⟨_, rfl⟩
        replace hP : va_P D classes w_2 H := by rw [ew_2]; exact hP
        replace hD : va_D (va_A ws sz) w_2 := by rw [ew_2]; exact hD
        replace hI : cb_I cI cC cJ cII w_2 κ ra (fun _ => 0) (fun _ => 0) (cb_upg (cb_upg G' 1 i (upd (G' 1 i) 0 7)) 1 i (upd (upd (G' 1 i) 0 7) 1 1)) (fun _ => 0) (fun _ => 0) := by rw [ew_2]; exact cb_I.row (by decide) (hi6) hI
        replace hH : cb_hi wb w_2 := by rw [ew_2]; exact cb_hi.set (by have := cb_gp_lt 1 (by decide) i (hi6); omega) hH
        refine lv_iinc (v := nI (i + 1)) (lv' := [(1, .int (nI (i + 1))), (0, .ref (κ 0))]) hx hb d_PB_init_128 hl (k := 0) rfl (by rw [lit1]; exact nI_1 i) (by decide) rfl (fun ls hl => ?_)
        refine lv_goto (tgt := 103) hx hb d_PB_init_131 (by decide) ?_
        exact ih (i + 1) _ _ _ _ ls (by omega) (by omega) (fun g hg9 => by rw [cb_gk g hg9, cb_gk g hg9]; exact hG g hg9) (cb_t0_s hG1) hI hH hP hD hS (lv_sub hl [0, 1] rfl)
  exact W.widen (by decide) (by decide) (loop1 7 0 (fun _ _ _ => 0) _ _ _ ls (by decide) (by decide) (fun _ _ => rfl) (fun k => (if_neg (Nat.not_lt_zero k)).symm) hI hH hP hD hS (lv_sub hl [0, 1] rfl))
end
