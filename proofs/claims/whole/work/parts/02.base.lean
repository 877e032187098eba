/-! BASE: contracts over any world ws whose cells lie behind a fixed early state s0; calls that take the whole world, or its right half -/
/-- a state behind s0: its tables are warmer, what was there at s0 is as it was -/
def gx_V (s0 U : State) : Prop := s0.WarmedH U.vm ∧ s0.heap.size ≤ U.heap.size ∧ ∀ q : Nat, q < s0.heap.size → U.heap[q]? = s0.heap[q]?
def gx_A0 (s0 : State) : Nat → Prop := fun q => s0.heap.size ≤ q
def gx_P (s0 : State) (D : va_G) (cl : List vw_C) (ws : va_W) (sz : Nat) (av : List Value) : Array Value → State → Prop := va_Pc av (fun U => U.heap.size = sz ∧ va_P D cl ws U.heap ∧ va_D (gx_A0 s0) ws ∧ gx_V s0 U)
def gx_B (D : va_G) (cl : List vw_C) (ws : va_W) (sz : Nat) (w1 : va_W) (t : State) : Prop := va_P D cl w1 t.heap ∧ va_D (va_A ws sz) w1
def gx_Bq (D : va_G) (cl : List vw_C) (ws : va_W) (sz : Nat) (u : va_W × Nat) (a : Nat) (t : State) : Prop := a = u.2 ∧ va_P D cl u.1 t.heap ∧ va_D (va_A ws sz) u.1
theorem gx_all {A : Nat → Prop} {ws : va_W} {H0 H : Heap} {locs : List Loc} (hD : va_D A ws) (hS : va_S A H0 H locs) (hA : ∀ q, H0.size ≤ q → A q) : ∀ q, va_A ws H.size q → A q := by
  intro q h
  rcases h with ⟨k, e, h⟩ | h
  · exact hD.2 k (q, e) h
  · exact hA q (Nat.le_trans hS.1 h)
theorem gx_nil {args : Array Value} {s : State} : ∀ w ∈ ([] : List Cond), w.before args s = true := fun _ h => nomatch h
theorem gx_join {A0 : Nat → Prop} {D : va_G} {cl : List vw_C} {wr wc w1 : va_W} {H H1 : Heap} (hP : va_P D cl (wr ++ wc) H) (hD : va_D A0 (wr ++ wc)) (hk : ∀ q : Nat, q < H.size → ¬ va_A wc H.size q → H1[q]? = H[q]?) (hF : ∀ q, va_A wc H.size q → A0 q) (hP1 : va_P D cl w1 H1) (hD1 : va_D (va_A wc H.size) w1) : va_P D cl (wr ++ w1) H1 ∧ va_D A0 (wr ++ w1) := by
  have hl : ∀ (k : Nat) (q : Nat × va_E), wr[k]? = some q → (wr ++ wc)[k]? = some q := fun k q h => by
    rw [List.getElem?_append_left (List.getElem?_eq_some_iff.mp h).1]; exact h
  have hr : ∀ (k : Nat) (q : Nat × va_E), wc[k]? = some q → (wr ++ wc)[wr.length + k]? = some q := fun k q h => by
    rw [List.getElem?_append_right (Nat.le_add_right _ _), Nat.add_sub_cancel_left]; exact h
  have ap : ∀ (k : Nat) (q : Nat × va_E), wr[k]? = some q → q.1 < H.size ∧ ¬ va_A wc H.size q.1 := by
    intro k q h
    have hlt := (hP k q (hl k q h)).lt
    refine ⟨hlt, fun z => ?_⟩
    rcases z with ⟨j, e, z⟩ | z
    · have h1 := hD.1 k (wr.length + j) q (q.1, e) (hl k q h) (hr j _ z) rfl
      have h2 := (List.getElem?_eq_some_iff.mp h).1
      omega
    · omega
  have hDr : va_D A0 wr := ⟨fun i j p q h1 h2 h3 => hD.1 i j p q (hl i p h1) (hl j q h2) h3, fun k q h => hD.2 k q (hl k q h)⟩
  refine ⟨va_P.app (fun k q h => ?_) hP1, va_D.app hDr (hD1.weaken (fun k q _ h => hF q.1 h)) (fun i j x y hx hy hxy => ?_)⟩
  · obtain ⟨g1, g2⟩ := ap k q h
    exact (hP k q (hl k q h)).kept (hk q.1 g1 g2)
  · exact (ap i x hx).2 (by rw [hxy]; exact hD1.2 j y hy)
theorem gx_left {D : va_G} {cl : List vw_C} {w1 w2 : va_W} {H : Heap} (h : va_P D cl (w1 ++ w2) H) : va_P D cl w1 H := fun k q hk => h k q (by
  rw [List.getElem?_append_left (List.getElem?_eq_some_iff.mp hk).1]; exact hk)
theorem gx_right {D : va_G} {cl : List vw_C} {w1 w2 : va_W} {H : Heap} (h : va_P D cl (w1 ++ w2) H) : va_P D cl w2 H := fun k q hk => h (w1.length + k) q (by
  rw [List.getElem?_append_right (Nat.le_add_right _ _), Nat.add_sub_cancel_left]; exact hk)
theorem gx_leftD {A : Nat → Prop} {w1 w2 : va_W} (h : va_D A (w1 ++ w2)) : va_D A w1 := by
  have e : ∀ (k : Nat) (q : Nat × va_E), w1[k]? = some q → (w1 ++ w2)[k]? = some q := fun k q hk => by
    rw [List.getElem?_append_left (List.getElem?_eq_some_iff.mp hk).1]; exact hk
  exact ⟨fun i j p q h1 h2 h3 => h.1 i j p q (e i p h1) (e j q h2) h3, fun k q hk => h.2 k q (e k q hk)⟩
theorem gx_rightD {A : Nat → Prop} {w1 w2 : va_W} (h : va_D A (w1 ++ w2)) : va_D A w2 := by
  have e : ∀ (k : Nat) (q : Nat × va_E), w2[k]? = some q → (w1 ++ w2)[w1.length + k]? = some q := fun k q hk => by
    rw [List.getElem?_append_right (Nat.le_add_right _ _), Nat.add_sub_cancel_left]; exact hk
  exact ⟨fun i j p q h1 h2 h3 => by have := h.1 _ _ p q (e i p h1) (e j q h2) h3; omega, fun k q hk => h.2 _ q (e k q hk)⟩
section GXb
variable {p : Program} {l : Launch} {e : Env} {R : Room} {s : State} {m : MethodId} {args : Array Value} {below : List Frame} {meth : Method} {c : Code} {H : Heap} {locs : List Loc} {cells slots : Nat} {Q : State → Prop}
variable {cc : ByteArray} {pc : Nat} {ls : Array Slot} {rest st0 : List Value} {D : va_G} {cl : List vw_C} {A : Nat → Prop} {ws wr : va_W} {H0 : Heap} {mc ms : Nat} {a : Array Value} {s0 : State}
/-- what a call asks of the world -/
theorem gx_preS {av : List Value} (hV : gx_V s0 s) (hP : va_P D cl ws H) (hD : va_D A ws) (hS : va_S A s.heap H locs) (hA0 : ∀ q, A q → s0.heap.size ≤ q) : PreS s H (gx_P s0 D cl ws H.size av) av := by
  refine ⟨fun a U g mk h => h, fun U hU hW => ⟨rfl, by rw [hU], by rw [hU]; exact hP, hD.weaken (fun _ q _ h => hA0 q.1 h), State.WarmedH.trans hV.1 hW, ?_, ?_⟩⟩
  · rw [hU]; exact Nat.le_trans hV.2.1 hS.1
  · intro q hq
    rw [hU, hS.2.1 q (Nat.lt_of_lt_of_le hq hV.2.1) (fun h => Nat.not_le.mpr hq (hA0 q h))]
    exact hV.2.2 q hq
theorem gx_preV {As : List Value} {b : Nat} {C : String} (hV : gx_V s0 s) (hP : va_P D cl ws H) (hD : va_D A ws) (hS : va_S A s.heap H locs) (hA0 : ∀ q, A q → s0.heap.size ≤ q) (hr : ∃ cell : Cell, H[b]? = some cell ∧ cell.vm.isStatics = false ∧ s.vm.findClass C = some cell.cls) : PreV s H C b (gx_P s0 D cl ws H.size (.ref b :: As)) As := by
  have h := gx_preS (av := .ref b :: As) hV hP hD hS hA0
  exact ⟨h.1, hr, h.2⟩
theorem gx_cb {own : String} {index maxL n : Nat} {y : MethodName} {bytes : ByteArray} {ret : Option FieldType} {rm : Room} (hcode : (Cond.code y bytes maxL ret).before args s = true) (hini : (Cond.initialized y.cls).before args s = true) (hl : (Cond.methodLink own index y).before args s = true)
    (hd : y.cls ≠ "java/lang/invoke/MethodHandle" ∧ y.cls ≠ "java/lang/invoke/VarHandle" ∧ (parseMethodDescriptor y.desc).map (fun d => d.parameters.length) = some n) (hR : rm.frames + 1 ≤ R.frames ∧ 8 + (maxL + 11) + rm.locals ≤ R.locals) :
    CallB R s args own index y bytes maxL ret [.code y bytes maxL ret] rm rm.cells rm.slots n := by
  refine ⟨rfl, rfl, hR.1, hR.2, fun w hw a' U hW => ?_, List.mem_cons_self, hcode, hini, ⟨hd.1, hd.2.1⟩, fun sig h => ?_, hl⟩
  · rw [List.mem_singleton] at hw
    subst hw
    exact word_at hW (Or.inl rfl) hcode
  · have h2 := hd.2.2
    rw [h] at h2
    exact (Option.some.inj h2).symm
theorem gx_cn {own host : String} {index maxL n : Nat} {y : MethodName} {bytes : ByteArray} {ret : Option FieldType} {rm : Room} (hcode : (Cond.code y bytes maxL ret).before args s = true) (hini : (Cond.initialized y.cls).before args s = true) (hl : va_Nw (.methodLinkNest own index y host) s)
    (hd : y.cls ≠ "java/lang/invoke/MethodHandle" ∧ y.cls ≠ "java/lang/invoke/VarHandle" ∧ (parseMethodDescriptor y.desc).map (fun d => d.parameters.length) = some n) (hR : rm.frames + 1 ≤ R.frames ∧ 8 + (maxL + 11) + rm.locals ≤ R.locals) :
    va_CN R s args own index y host bytes maxL ret [.code y bytes maxL ret] rm rm.cells rm.slots n :=
  va_cnB (Ts := [.code y bytes maxL ret]) (ws' := []) n (fun w hw => by rw [List.mem_singleton] at hw; subst hw; exact hcode) (fun w hw => ⟨hw, by rw [List.mem_singleton] at hw; subst hw; exact Or.inl rfl⟩) rfl rfl rfl hl hini hd hR
/-- behind a call that took the whole world -/
theorem gx_calli {post : Int32 → va_W → Prop} (hr : va_Run p l e R s m args below meth c H locs cells slots mc ms (F0 m pc ls st0) rest (va_Qi post (gx_B D cl ws H.size) (va_A ws H.size) a) (va_A ws H.size)) (hD : va_D A ws) (hS : va_S A H0 H locs) (hA : ∀ q, H0.size ≤ q → A q)
    (kk : ∀ (r : Int32) (w1 : va_W) (H1 : Heap) (locs1 : List Loc), post r w1 → va_P D cl w1 H1 → va_D A w1 → va_S A H0 H1 locs1 → W p l e R s m args below meth c H1 locs1 (cells + mc) (slots + ms) Q (F0 m (pc + 3) ls (.int r :: rest))) : W p l e R s m args below meth c H locs cells slots Q (F0 m pc ls st0) :=
  va_calli hr hS (fun q _ h => gx_all hD hS hA q h) (gx_all hD hS hA) (fun r u t H1 locs1 ht hvm hp hB hz hk hS1 => kk r u H1 locs1 hp (by rw [← ht]; exact hB.1) (hB.2.weaken (fun k q _ h => gx_all hD hS hA q.1 h)) hS1)
theorem gx_calll {post : Int64 → va_W → Prop} (hr : va_Run p l e R s m args below meth c H locs cells slots mc ms (F0 m pc ls st0) rest (va_Ql post (gx_B D cl ws H.size) (va_A ws H.size) a) (va_A ws H.size)) (hD : va_D A ws) (hS : va_S A H0 H locs) (hA : ∀ q, H0.size ≤ q → A q)
    (kk : ∀ (r : Int64) (w1 : va_W) (H1 : Heap) (locs1 : List Loc), post r w1 → va_P D cl w1 H1 → va_D A w1 → va_S A H0 H1 locs1 → W p l e R s m args below meth c H1 locs1 (cells + mc) (slots + ms) Q (F0 m (pc + 3) ls (.long r :: rest))) : W p l e R s m args below meth c H locs cells slots Q (F0 m pc ls st0) :=
  va_calll hr hS (fun q _ h => gx_all hD hS hA q h) (gx_all hD hS hA) (fun r u t H1 locs1 ht hvm hp hB hz hk hS1 => kk r u H1 locs1 hp (by rw [← ht]; exact hB.1) (hB.2.weaken (fun k q _ h => gx_all hD hS hA q.1 h)) hS1)
theorem gx_callv {post : va_W → Prop} (hr : va_Run p l e R s m args below meth c H locs cells slots mc ms (F0 m pc ls st0) rest (va_Qv post (gx_B D cl ws H.size) (va_A ws H.size) a) (va_A ws H.size)) (hD : va_D A ws) (hS : va_S A H0 H locs) (hA : ∀ q, H0.size ≤ q → A q)
    (kk : ∀ (w1 : va_W) (H1 : Heap) (locs1 : List Loc), post w1 → va_P D cl w1 H1 → va_D A w1 → va_S A H0 H1 locs1 → W p l e R s m args below meth c H1 locs1 (cells + mc) (slots + ms) Q (F0 m (pc + 3) ls rest)) : W p l e R s m args below meth c H locs cells slots Q (F0 m pc ls st0) :=
  va_callv hr hS (fun q _ h => gx_all hD hS hA q h) (gx_all hD hS hA) (fun u t H1 locs1 ht hvm hp hB hz hk hS1 => kk u H1 locs1 hp (by rw [← ht]; exact hB.1) (hB.2.weaken (fun k q _ h => gx_all hD hS hA q.1 h)) hS1)
theorem gx_callr {post : va_W × Nat → Prop} (hr : va_Run p l e R s m args below meth c H locs cells slots mc ms (F0 m pc ls st0) rest (va_Qr post (gx_Bq D cl ws H.size) (va_A ws H.size) a) (va_A ws H.size)) (hD : va_D A ws) (hS : va_S A H0 H locs) (hA : ∀ q, H0.size ≤ q → A q)
    (kk : ∀ (ra : Nat) (w1 : va_W) (H1 : Heap) (locs1 : List Loc), post (w1, ra) → va_P D cl w1 H1 → va_D A w1 → va_S A H0 H1 locs1 → W p l e R s m args below meth c H1 locs1 (cells + mc) (slots + ms) Q (F0 m (pc + 3) ls (.ref ra :: rest))) : W p l e R s m args below meth c H locs cells slots Q (F0 m pc ls st0) :=
  va_callr hr hS (fun q _ h => gx_all hD hS hA q h) (gx_all hD hS hA) (fun u ra t H1 locs1 ht hvm hp hB hz hk hS1 => by
    obtain ⟨w1, a1⟩ := u
    obtain ⟨e1, e2, e3⟩ := hB
    dsimp only at e1 e2 e3
    subst e1
    exact kk ra w1 H1 locs1 hp (by rw [← ht]; exact e2) (e3.weaken (fun k q _ h => gx_all hD hS hA q.1 h)) hS1)
/-- ends -/
theorem gx_iret {post : Int32 → va_W → Prop} {w1 : va_W} {sz : Nat} {v : Int32} {ty : FieldType} (hexec : p.tables.exec = Jvm.exec) (hb : c.code = cc) (hr : meth.sig.returnType = some ty) (hlocks : meth.locks = false) (hn : narrow ty (.int v) = .int v) (hS : va_S (va_A ws sz) s.heap H locs) (hP : va_P D cl w1 H) (hD : va_D (va_A ws sz) w1) (hc : cells ≤ mc) (hs : slots ≤ ms) (hdg : decode cc pc = .ok (.ireturn, 1)) (hp : post v w1) :
    W p l e R s m args below meth c H locs cells slots (MQ below (va_Qi post (gx_B D cl ws sz) (va_A ws sz)) args s mc ms (va_A ws sz)) (F0 m pc ls [.int v]) :=
  W.widen hc hs (W.zret hexec hb hr hn (fun t ht hW => ⟨⟨v, w1, rfl, hp, by rw [ht]; exact hP, hD⟩, hS.F ht⟩) hS.2.2 hdg hlocks)
theorem gx_lret {post : Int64 → va_W → Prop} {w1 : va_W} {sz : Nat} {v : Int64} (hexec : p.tables.exec = Jvm.exec) (hb : c.code = cc) (hr : meth.sig.returnType = some .long) (hlocks : meth.locks = false) (hS : va_S (va_A ws sz) s.heap H locs) (hP : va_P D cl w1 H) (hD : va_D (va_A ws sz) w1) (hc : cells ≤ mc) (hs : slots ≤ ms) (hdg : decode cc pc = .ok (.lreturn, 1)) (hp : post v w1) :
    W p l e R s m args below meth c H locs cells slots (MQ below (va_Ql post (gx_B D cl ws sz) (va_A ws sz)) args s mc ms (va_A ws sz)) (F0 m pc ls [.long v]) :=
  W.widen hc hs (W.lret hexec hb hr (fun t ht hW => ⟨⟨v, w1, rfl, hp, by rw [ht]; exact hP, hD⟩, hS.F ht⟩) hS.2.2 hdg hlocks)
theorem gx_vret {post : va_W → Prop} {w1 : va_W} {sz : Nat} (hexec : p.tables.exec = Jvm.exec) (hb : c.code = cc) (hr : meth.sig.returnType = none) (hlocks : meth.locks = false) (hS : va_S (va_A ws sz) s.heap H locs) (hP : va_P D cl w1 H) (hD : va_D (va_A ws sz) w1) (hc : cells ≤ mc) (hs : slots ≤ ms) (hdg : decode cc pc = .ok (.return_, 1)) (hp : post w1) :
    W p l e R s m args below meth c H locs cells slots (MQ below (va_Qv post (gx_B D cl ws sz) (va_A ws sz)) args s mc ms (va_A ws sz)) (F0 m pc ls []) :=
  W.widen hc hs (W.vret hexec hb hr (fun t ht hW => ⟨⟨w1, rfl, hp, by rw [ht]; exact hP, hD⟩, hS.F ht⟩) hS.2.2 hdg hlocks)
theorem gx_aret {post : va_W × Nat → Prop} {w1 : va_W} {sz ra : Nat} {rt : FieldType} (hexec : p.tables.exec = Jvm.exec) (hb : c.code = cc) (hr : meth.sig.returnType = some rt) (hrt : (∃ n, rt = .object n) ∨ ∃ t, rt = .array t) (hlocks : meth.locks = false) (hS : va_S (va_A ws sz) s.heap H locs) (hP : va_P D cl w1 H) (hD : va_D (va_A ws sz) w1) (hc : cells ≤ mc) (hs : slots ≤ ms) (hdg : decode cc pc = .ok (.areturn, 1)) (hp : post (w1, ra)) :
    W p l e R s m args below meth c H locs cells slots (MQ below (va_Qr post (gx_Bq D cl ws sz) (va_A ws sz)) args s mc ms (va_A ws sz)) (F0 m pc ls [.ref ra]) :=
  W.widen hc hs (W.aret hexec hb hr hrt (Or.inr ⟨ra, rfl⟩) (fun t ht hW => ⟨⟨(w1, ra), ra, rfl, hp, rfl, by rw [ht]; exact hP, hD⟩, hS.F ht⟩) hS.2.2 hdg hlocks)
theorem gx_mono {Q' : State → Prop} {g : JFrame} (h : ∀ t, Q t → Q' t) (k : W p l e R s m args below meth c H locs cells slots Q g) : W p l e R s m args below meth c H locs cells slots Q' g := fun T hT X => by
  obtain ⟨t, a1, b1⟩ := k T hT X
  exact ⟨t, a1, h t b1⟩
/-- an array of arrays is read -/
theorem gx_aald {tys : List (ClassId × FieldType)} {ty : FieldType} {b : Nat} (hexec : p.tables.exec = Jvm.exec) (hb : c.code = cc) (hK : va_K D cl tys s) (hP : va_P D cl ws H) (q0 t0 : Nat) {cA : ClassId} {n : Nat} {f : Nat → Option Nat} (ha : ws[q0]? = some (b, .inl (cA, n, .inr (.inr (.inr (.inr f)))))) (ht : tys[t0]? = some (cA, ty)) (href : ty.isReference = true) {i : Int32} {v : Nat} (hin : vp_in i n) (hv : f i.toNatClampNeg = some v) (hdg : decode cc pc = .ok (.aaload, 1))
    (kk : W p l e R s m args below meth c H locs cells slots Q (F0 m (pc + 1) ls (.ref v :: rest))) : W p l e R s m args below meth c H locs cells slots Q (F0 m pc ls (.int i :: .ref b :: rest)) := by
  have hc : H[b]? = some (vp_cell cA (n, .inr (.inr (.inr (.inr f))))) := hP q0 _ ha
  rw [vp_cell_q] at hc
  have hlt : i.toNatClampNeg < n := by
    unfold vp_in at hin
    omega
  refine W.aald hexec hb hc ((hK.2 t0 _ ht).1 n _) href (fun h => by cases h) ?_ ?_ rfl rfl hdg kk
  all_goals first
    | (rw [arrV_size]; exact hin)
    | (rw [arrV_read cA _ hlt, hv]; rfl)
end GXb
/-- a contract's walk -/
theorem gx_met {l : Launch} {y : MethodName} {rm : Room} {s0 : State} {D : va_G} {cl : List vw_C} {ws : va_W} {sz : Nat} {av : List Value} {Qc : Array Value → State → Outcome → State → Prop} {mc ms : Nat} {free : Addr → Prop} {cc : ByteArray} {maxL : Nat} {ret : Option FieldType} (hy : plainName y.cls = true) (hav : (lg_sl av).length ≤ maxL)
    (body : ∀ (p : Program) (e : Env) (s : State) (m : MethodId) (below : List Frame) (meth : Method) (c : Code) (ls : Array Slot), p.tables.exec = Jvm.exec → c.code = cc → meth.sig.returnType = ret → c.maxLocals = maxL → s.vm.findClass y.cls = some m.cls → meth.locks = false → meth.name = y.name → s.heap.size = sz → gx_V s0 s → va_P D cl ws s.heap → va_D (va_A ws sz) ws → va_S (va_A ws sz) s.heap s.heap [] → (∀ q, s.heap.size ≤ q → va_A ws sz q) → (∀ q, va_A ws sz q → s0.heap.size ≤ q) → lv_has ls maxL (lv_args 0 av) →
      W p l e rm s m av.toArray below meth c s.heap [] 0 0 (MQ below Qc av.toArray s mc ms free) (F0 m 0 ls [])) : Met l y [.code y cc maxL ret] rm (gx_P s0 D cl ws sz av) Qc mc ms free := by
  refine Met.ofW (cc := cc) (maxL := maxL) (ret := ret) hy rfl ?_
  intro p e s m args below meth c s₁ B hml hv
  obtain ⟨rfl, hsz, hP, hD0, hV⟩ := hv
  have hl := lv_entry av (n := maxL) hav
  rw [lg_entry_eq]
  exact body p e s m below meth c _ B.exec B.bytes B.returns hml (findClass_of_methodNamed B.named) B.notSynchronized (name_of_methodNamed B.named B.method).1 hsz hV hP hD0.self va_S.rf (fun q h => Or.inr (hsz ▸ h)) (fun q h => by
    rcases h with ⟨k, e9, h⟩ | h
    · exact hD0.2 k _ h
    · exact Nat.le_trans hV.2.1 (hsz ▸ h)) hl
