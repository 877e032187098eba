/-! GRID: new int[n][k]: the outer array, and behind it its n rows of zeros -/
def gx_oc (c : ClassId) (N h i : Nat) : Cell := arrV c N (fun j => va_rf (if j < i then some (h + 1 + j) else none))
def gx_ic (c : ClassId) (K : Nat) : Cell := arrV c K (fun _ => .int 0)
def gx_gr (T : State) (c ci : ClassId) (N K : Nat) : Nat → State
  | 0 => T.pushCell (gx_oc c N T.heap.size 0)
  | i + 1 => ((gx_gr T c ci N K i).pushCell (gx_ic ci K)).setCell T.heap.size (gx_oc c N T.heap.size (i + 1))
theorem gx_oc_put (c : ClassId) (N h i : Nat) : (gx_oc c N h i).setSlot i (.ref (h + 1 + i)) = gx_oc c N h (i + 1) := by
  unfold gx_oc
  rw [arrV_store]
  refine congrArg (arrV c N) (funext fun j => ?_)
  unfold updV
  by_cases e : j = i
  · subst e
    simp [va_rf]
  · have h1 : (j < i + 1) = (j < i) := propext ⟨fun h => by omega, fun h => by omega⟩
    simp [e, h1]
theorem gx_oc_0 (c : ClassId) (N h : Nat) : ({ cls := c, slots := Array.replicate N .null, vm := .none } : Cell) = gx_oc c N h 0 := by
  rw [arrV_new]
  exact congrArg (arrV c N) (funext fun j => by simp [va_rf])
theorem gx_ic_0 (c : ClassId) (K : Nat) : ({ cls := c, slots := Array.replicate K (.int 0), vm := .none } : Cell) = gx_ic c K := arrV_new c K (.int 0)
theorem gx_oc_sz (c : ClassId) (N h i : Nat) : (gx_oc c N h i).slots.size = N := arrV_size _ _ _
theorem gx_ic_sz (c : ClassId) (K : Nat) : (gx_ic c K).slots.size = K := arrV_size _ _ _
theorem gx_gr_f (T : State) (c ci : ClassId) (N K : Nat) : ∀ i : Nat, (gx_gr T c ci N K i).heap.size = T.heap.size + 1 + i ∧ (gx_gr T c ci N K i).heap[T.heap.size]? = some (gx_oc c N T.heap.size i) ∧ (gx_gr T c ci N K i).vm = T.vm ∧ (gx_gr T c ci N K i).slotsUsed = T.slotsUsed + N + i * K
    ∧ (∀ a : Nat, a < T.heap.size → (gx_gr T c ci N K i).heap[a]? = T.heap[a]?) ∧ (∀ j : Nat, j < i → (gx_gr T c ci N K i).heap[T.heap.size + 1 + j]? = some (gx_ic ci K)) ∧ (∀ f : JFrame, gx_gr (T.setTop f) c ci N K i = (gx_gr T c ci N K i).setTop f)
  | 0 => ⟨by simp [gx_gr], by simp [gx_gr], rfl, by simp [gx_gr, gx_oc_sz], fun a h => State.heap_pushCell_of_lt _ _ h, fun j h => absurd h (Nat.not_lt_zero j), fun f => rfl⟩
  | i + 1 => by
    obtain ⟨h1, h2, h3, h4, h5, h6, h7⟩ := gx_gr_f T c ci N K i
    have hl : T.heap.size < ((gx_gr T c ci N K i).pushCell (gx_ic ci K)).heap.size := by rw [size_pushCell, h1]; omega
    refine ⟨?_, ?_, ?_, ?_, ?_, ?_, ?_⟩
    · show (((gx_gr T c ci N K i).pushCell (gx_ic ci K)).setCell T.heap.size (gx_oc c N T.heap.size (i + 1))).heap.size = _
      rw [size_setCell, size_pushCell, h1]; omega
    · exact heapAt_setCell_self _ hl
    · exact h3
    · show (gx_gr T c ci N K i).slotsUsed + (gx_ic ci K).slots.size = _
      rw [h4, gx_ic_sz, Nat.succ_mul]; omega
    · intro a ha
      show (((gx_gr T c ci N K i).pushCell (gx_ic ci K)).setCell T.heap.size (gx_oc c N T.heap.size (i + 1))).heap[a]? = _
      rw [heapAt_setCell_ne _ (Nat.ne_of_gt ha), State.heap_pushCell_of_lt _ _ (show a < (gx_gr T c ci N K i).heap.size by rw [h1]; omega)]
      exact h5 a ha
    · intro j hj
      show (((gx_gr T c ci N K i).pushCell (gx_ic ci K)).setCell T.heap.size (gx_oc c N T.heap.size (i + 1))).heap[T.heap.size + 1 + j]? = _
      rw [heapAt_setCell_ne _ (show T.heap.size ≠ T.heap.size + 1 + j by omega)]
      rcases Nat.lt_or_ge j i with g | g
      · rw [State.heap_pushCell_of_lt _ _ (show T.heap.size + 1 + j < (gx_gr T c ci N K i).heap.size by rw [h1]; omega)]
        exact h6 j g
      · rw [show T.heap.size + 1 + j = (gx_gr T c ci N K i).heap.size by rw [h1]; omega]
        exact State.heap_pushCell_size _ _
    · intro f
      show ((gx_gr (T.setTop f) c ci N K i).pushCell (gx_ic ci K)).setCell T.heap.size (gx_oc c N T.heap.size (i + 1)) = _
      rw [h7 f]
      rfl
section GXm
variable {E : CtlPost} {e : Env} {d : Bool} {acts : List Action} {s : State}
theorem gx_make1 {ci cp : ClassId} {ki : Class} {k : Int32} {K : Nat} (hk : s.vm.classes[ci]? = some ki) (hkind : ki.kind = .array cp .int) (h0 : ¬ k < 0) (hK : k.toNatClampNeg = K) (hl : ¬ K > e.platform.arrayLengthLimit) (hh : ¬ K * componentBytes .int > e.platform.maxHeapBytes) (h1 : s.heap.size < e.platform.maxCells) (h2 : s.slotsUsed + K ≤ e.platform.maxSlots)
    {Q : Addr → Pre} (hq : ∀ acts', Q s.heap.size d acts' (s.pushCell (gx_ic ci K))) : wp (multianewarray.make ci [k]) Q E e d acts s := by
  rw [multianewarray.make]
  simp only [wp_bind', W.ite, h0, if_false, wp_pure', W.theClass, hk, hkind, Option.some.injEq, exists_eq_left', hK]
  exact W.newArray_of hk hkind hl hh h1 h2 rfl (fun acts' => by
    have := hq acts'
    rw [← gx_ic_0] at this
    exact this)
theorem gx_make2 {c ci cp : ClassId} {kc ki : Class} {n k : Int32} {N K : Nat} (hkc : s.vm.classes[c]? = some kc) (hkindc : kc.kind = .array ci (.array .int)) (hki : s.vm.classes[ci]? = some ki) (hkindi : ki.kind = .array cp .int) (hn0 : ¬ n < 0) (hN : n.toNatClampNeg = N) (hk0 : ¬ k < 0) (hK : k.toNatClampNeg = K)
    (hl1 : ¬ N > e.platform.arrayLengthLimit) (hh1 : ¬ N * componentBytes (.array .int) > e.platform.maxHeapBytes) (hl2 : ¬ K > e.platform.arrayLengthLimit) (hh2 : ¬ K * componentBytes .int > e.platform.maxHeapBytes) (h1 : s.heap.size + 1 + N ≤ e.platform.maxCells) (h2 : s.slotsUsed + N + N * K ≤ e.platform.maxSlots)
    {Q : Addr → Pre} (hq : ∀ d' acts', Q s.heap.size d' acts' (gx_gr s c ci N K N)) : wp (multianewarray.make c [n, k]) Q E e d acts s := by
  have hb : ([k].find? (· < 0)) = none := by simp [hk0]
  rw [multianewarray.make]
  simp only [wp_bind', W.ite, hn0, if_false, wp_pure', W.theClass, hkc, hkindc, Option.some.injEq, exists_eq_left', hN]
  refine W.newArray_of hkc hkindc hl1 hh1 (by omega) (by have := Nat.zero_le (N * K); omega) rfl (fun acts' => ?_)
  rw [gx_oc_0 c N s.heap.size]
  simp only [hb]
  rw [ite_self, wp_bind', Std.Legacy.Range.forIn_eq_forIn_range']
  have hsz : ([:N] : Std.Legacy.Range).size = N := by simp [Std.Legacy.Range.size]
  rw [hsz]
  show wp (forIn (List.range' 0 N 1) PUnit.unit _) _ E e d acts' _
  refine wp_forIn_inv (fun l u => ∃ i : Nat, i + l.length = N ∧ l = List.range' i l.length ∧ u = gx_gr s c ci N K i) _ _ ⟨0, by simp, by simp, rfl⟩ ?_ ?_
  · rintro x l u d1 a1 Q1 ⟨i, hi, hl, rfl⟩ next
    rw [List.length_cons] at hi hl
    rw [List.range'_succ] at hl
    obtain ⟨rfl, hl⟩ := List.cons.inj hl
    obtain ⟨f1, f2, f3, f4, -⟩ := gx_gr_f s c ci N K x
    have hmul : x * K + K ≤ N * K := by
      have := Nat.mul_le_mul_right K (show x + 1 ≤ N by omega)
      rw [Nat.succ_mul] at this
      exact this
    simp only [wp_bind']
    refine gx_make1 (by rw [f3]; exact hki) hkindi hk0 hK hl2 hh2 (by rw [f1]; omega) (by rw [f4]; omega) (fun acts2 => ?_)
    simp only [wp_bind', W.writeLoc, wp_pure']
    refine ⟨gx_oc c N s.heap.size x, by rw [State.heap_pushCell_of_lt _ _ (show s.heap.size < (gx_gr s c ci N K x).heap.size by rw [f1]; omega)]; exact f2, (by intro h; cases h), by rw [gx_oc_sz]; omega, ?_, next _ _ _ ⟨x + 1, by omega, hl, ?_⟩⟩
    · have hfit : fits (FieldType.array .int) (.ref (gx_gr s c ci N K x).heap.size) = true := rfl
      simp [State.fitsSlot, State.slotType?, gx_oc, arrV, f3, hkc, hkindc, hfit]
    · rw [f1, gx_oc_put]
      rfl
  · rintro u d1 a1 ⟨i, hi, -, rfl⟩
    rw [List.length_nil] at hi
    have hi : i = N := by omega
    subst hi
    simp only [wp_pure']
    exact hq _ _
end GXm
section GXn
variable {p : Program} {l : Launch} {e : Env} {R : Room} {s : State} {m : MethodId} {args : Array Value} {below : List Frame} {meth : Method} {c : Code} {H : Heap} {locs : List Loc} {cells slots : Nat} {Q : State → Prop}
theorem gx_gr_st {T : State} (X : Stand p l e R s m args below meth c T locs cells slots) (cA ci : ClassId) (N K : Nat) : ∀ i : Nat, ∃ L : List Loc, (∀ x ∈ L, x.base = T.heap.size) ∧ Stand p l e R s m args below meth c (gx_gr T cA ci N K i) (locs ++ L) (cells + 1 + i) (slots + N + i * K)
  | 0 => ⟨[], fun _ h => (by cases h), by
      have h := X.pushed (gx_oc cA N T.heap.size 0)
      rw [gx_oc_sz] at h
      simpa [gx_gr] using h⟩
  | i + 1 => by
    obtain ⟨L, hL, Y⟩ := gx_gr_st X cA ci N K i
    obtain ⟨f1, f2, -⟩ := gx_gr_f T cA ci N K i
    have hc : ((gx_gr T cA ci N K i).pushCell (gx_ic ci K)).heap[T.heap.size]? = some (gx_oc cA N T.heap.size i) := by rw [State.heap_pushCell_of_lt _ _ (show T.heap.size < (gx_gr T cA ci N K i).heap.size by rw [f1]; omega)]; exact f2
    have h := (Y.pushed (gx_ic ci K)).stored hc i (.ref (T.heap.size + 1 + i))
    rw [gx_ic_sz, gx_oc_put] at h
    refine ⟨L ++ [⟨T.heap.size, i⟩], ?_, ?_⟩
    · intro x hx
      rcases List.mem_append.mp hx with q | q
      · exact hL x q
      · rw [List.mem_singleton] at q; rw [q]
    · rw [show slots + N + (i + 1) * K = slots + N + i * K + K by rw [Nat.succ_mul]; omega, ← List.append_assoc]
      exact h
variable {cc : ByteArray} {pc : Nat} {ls : Array Slot} {rest : List Value} {D : va_G} {cl : List vw_C} {A : Nat → Prop} {ws : va_W} {H0 : Heap}
theorem gx_mna (hexec : p.tables.exec = Jvm.exec) (hb : c.code = cc) {own : String} {index : Nat} {cI cII : ClassId} (hown : s.vm.findClass own = some m.cls) (hclink : (Cond.classLink own index "[[I").before args s = true) (hover : (Cond.arrayOver (.array .int)).before args s = true) (harr : (Cond.arrayClass .int).before args s = true) (hcI : s.vm.findClass "[I" = some cI) (hcII : s.vm.findClass "[[I" = some cII)
    (hP : va_P D cl ws H) (hD : va_D A ws) (hS : va_S A H0 H locs) (hA : ∀ q, H0.size ≤ q → A q) {n k : Int32} {N K : Nat} (hn0 : ¬ n < 0) (hN : n.toNatClampNeg = N) (hk0 : ¬ k < 0) (hK : k.toNatClampNeg = K) (hN9 : N ≤ 1000) (hK9 : K ≤ 1000) (hcells : cells + (1 + N) ≤ R.cells) (hslots : slots + (N + N * K) ≤ R.slots) (hdg : decode cc pc = .ok (.multianewarray index 2, 4))
    (kk : ∀ (h : Nat) (H1 : Heap) (locs1 : List Loc), va_P D cl (ws ++ ((h, .inl (cII, N, .inr (.inr (.inr (.inr (fun j => if j < N then some (h + 1 + j) else none)))))) :: (List.range N).map (fun j => (h + 1 + j, .inl (cI, K, .inl (fun _ => 0)))))) H1 → va_D A (ws ++ ((h, .inl (cII, N, .inr (.inr (.inr (.inr (fun j => if j < N then some (h + 1 + j) else none)))))) :: (List.range N).map (fun j => (h + 1 + j, .inl (cI, K, .inl (fun _ => 0)))))) → va_S A H0 H1 locs1 →
      W p l e R s m args below meth c H1 locs1 (cells + 1 + N) (slots + N + N * K) Q (F0 m (pc + 4) ls (.ref h :: rest))) : W p l e R s m args below meth c H locs cells slots Q (F0 m pc ls (.int k :: .int n :: rest)) := by
  intro T hT X
  have hpl : e.platform.magicAccessors = ({} : Platform).magicAccessors := by rw [X.admits.platform]
  obtain ⟨ci, cA, kA, hci, -, hkA, hkindA, hnameA⟩ := arrayOverA_spec hover
  obtain ⟨ci', kI, cp, hci', hkI, hkindI⟩ := Cond.arrayClass_spec harr
  have e1 : ci' = ci := Option.some.inj (hci'.symm.trans hci)
  subst e1
  have e2 : cI = ci' := Option.some.inj (hcI.symm.trans hci')
  subst e2
  have e3 : cII = cA := Option.some.inj (hcII.symm.trans hnameA)
  subst e3
  obtain ⟨c0, hfc0, hcl⟩ := Cond.classLink_spec hown hclink e.platform hpl
  cases hcII.symm.trans hfc0
  obtain ⟨hg₁, hwarm₁, hready₁⟩ := State.classEntry (e := e) X.warmed hcl
  generalize T.vm.noted m.cls index (.cls cII) = vm₁ at hg₁ hwarm₁ hready₁
  obtain ⟨kA₁, hkA₁, heA⟩ := hwarm₁.alike.2.2 _ _ hkA
  obtain ⟨kI₁, hkI₁, heI⟩ := hwarm₁.alike.2.2 _ _ hkI
  have hkindA₁ : kA₁.kind = .array cI (.array .int) := by rw [heA]; exact hkindA
  have hkindI₁ : kI₁.kind = .array cp .int := by rw [heI]; exact hkindI
  have X₁ := X.noted hwarm₁
  obtain ⟨hr1, hr2⟩ := X.roomAbove hcells hslots
  obtain ⟨L, hL, Y⟩ := gx_gr_st X₁ cII cI N K N
  obtain ⟨f1, f2, f3, f4, f5, f6, f7⟩ := gx_gr_f (T.setVm vm₁) cII cI N K N
  have hl1 : ¬ N > e.platform.arrayLengthLimit := by rw [Launch.admits_arrayLengthLimit X.admits]; omega
  have hh1 : ¬ N * componentBytes (.array .int) > e.platform.maxHeapBytes := by
    rw [Launch.admits_maxHeapBytes X.admits]; show ¬ N * 4 > 536870912; omega
  have hl2 : ¬ K > e.platform.arrayLengthLimit := by rw [Launch.admits_arrayLengthLimit X.admits]; omega
  have hh2 : ¬ K * componentBytes .int > e.platform.maxHeapBytes := by
    rw [Launch.admits_maxHeapBytes X.admits]; show ¬ K * 4 > 536870912; omega
  have hh : (T.setVm vm₁).heap = H := hT
  rw [hh] at f1 f2 f5 f6
  have hlt : ∀ (i : Nat) (q : Nat × va_E), ws[i]? = some q → q.1 < H.size := fun i q h => (hP i q h).lt
  generalize hGe : gx_gr (T.setVm vm₁) cII cI N K N = G at f1 f2 f3 f4 f5 f6 Y
  have row : ∀ (i : Nat) (q : Nat × va_E), ((H.size, .inl (cII, N, .inr (.inr (.inr (.inr (fun j => if j < N then some (H.size + 1 + j) else none)))))) :: (List.range N).map (fun j => (H.size + 1 + j, (.inl (cI, K, .inl (fun _ => 0)) : va_E))))[i]? = some q → q.1 = H.size + i ∧ va_at D cl q G.heap := by
    intro i q hq
    match i, hq with
    | 0, hq =>
      cases hq
      exact ⟨rfl, by show G.heap[H.size]? = _; rw [f2]; rfl⟩
    | i + 1, hq =>
      rw [List.getElem?_cons_succ, List.getElem?_map] at hq
      rcases Nat.lt_or_ge i N with hi | hi
      · rw [List.getElem?_range hi] at hq
        cases hq
        exact ⟨by show H.size + 1 + i = _; omega, by show G.heap[H.size + 1 + i]? = _; rw [f6 i hi]; rfl⟩
      · rw [List.getElem?_eq_none (by simpa using hi)] at hq
        cases hq
  obtain ⟨t, a1, b1⟩ := kk H.size G.heap (locs ++ L) (va_P.app (hP.kept (fun i q h => f5 q.1 (hlt i q h))) (fun i q h => (row i q h).2))
    (va_D.app hD ⟨fun i j x y hx hy hxy => by have := (row i x hx).1; have := (row j y hy).1; omega, fun i q h => by rw [(row i q h).1]; exact hA _ (Nat.le_trans hS.1 (Nat.le_add_right _ _))⟩ (fun i j x y hx hy hxy => by have := hlt i x hx; have := (row j y hy).1; omega))
    ⟨Nat.le_trans hS.1 (by rw [f1]; omega), fun q g1 g2 => by rw [f5 q (Nat.lt_of_lt_of_le g1 hS.1)]; exact hS.2.1 q g1 g2, fun x hx => by
      rcases List.mem_append.mp hx with h | h
      · exact hS.2.2 x h
      · rw [hL x h, hh]; exact hA _ hS.1⟩ G rfl Y
  refine ⟨t, ?_, b1⟩
  subst hb
  have hX := X.here
  jvm_step hX [hexec, hdg]
  simp only [multianewarray.sem, wp_bind', W.resolveClassAt_links (State.method?_setTop (F0 m pc ls (.int k :: .int n :: rest)) X.here.top) hg₁]
  rw [W.popN, if_neg (by decide)]
  refine ⟨F0 m pc ls (.int k :: .int n :: rest), State.topJava?_setTop' (s := T.setVm vm₁) _ X.here.top, [.int n, .int k], rest, rfl, rfl, ?_⟩
  simp only [List.mapM_cons, List.mapM_nil, wp_bind', wp_pure']
  refine gx_make2 (kc := kA₁) (ki := kI₁) (ci := cI) (cp := cp) hkA₁ hkindA₁ hkI₁ hkindI₁ hn0 hN hk0 hK hl1 hh1 hl2 hh2 (by show T.heap.size + 1 + _ ≤ _; omega) (by show T.slotsUsed + _ + _ ≤ _; omega) (fun d' acts' => ?_)
  have eS : ((T.setTop (F0 m pc ls (.int k :: .int n :: rest))).setVm vm₁).setTop { F0 m pc ls (.int k :: .int n :: rest) with stack := rest } = (T.setVm vm₁).setTop { F0 m pc ls (.int k :: .int n :: rest) with stack := rest } := by
    show ((T.setVm vm₁).setTop _).setTop _ = _
    rw [State.setTop_setTop]
  rw [eS, f7, hGe]
  simp only [wp_bind', W.mark, W.pushRef, State.topJava?_setTop' _ Y.here.top, Option.some.injEq, exists_eq_left', State.setTop_setTop, State.heap_setTop]
  intro acts2
  simp [jvm, Y.here.top]
  have hTs : T.heap.size = H.size := by rw [hT]
  rw [hTs]
  exact a1
end GXn
