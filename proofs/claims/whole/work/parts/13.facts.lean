/-! FACTS: what the law's entry gives, and what of it stays true behind it -/
abbrev fx_ty (cI cC cJ cII cO cZ : ClassId) : List (ClassId × FieldType) := [(cI, .int), (cC, .char), (cJ, .long), (cII, .array .int), (cO, .object "java/lang/Object"), (cZ, .boolean)]
def FX (l : Launch) (s0 : State) (D : va_G) (cI cC cJ cII cO cZ : ClassId) : Prop :=
  l.stackTraces = false ∧ (∃ a0 : Array Value, (∀ w ∈ lw_tbl, w.before a0 s0 = true) ∧ (Jvm.Cond.and given_1 narrow_1).before a0 s0 = true) ∧ va_K D classes (fx_ty cI cC cJ cII cO cZ) s0
def fx_unit : Nat → Int32 := fun j => if j = 2 then 60 else if j = 3 then 1440 else if j = 4 then 1000 else 1
/-- the words of a throw but the four that speak of the heap -/
def vx_no (w : Cond) : Bool := decide (w ≠ .isRef (.static Bundle.tN "UNASSIGNED_STACK" Bundle.steD)) && decide (w ≠ .isRef (.static Bundle.tN "SUPPRESSED_SENTINEL" Bundle.listD)) && decide (w ≠ .laysStatic Bundle.tN "UNASSIGNED_STACK" Bundle.steD) && decide (w ≠ .laysStatic Bundle.tN "SUPPRESSED_SENTINEL" Bundle.listD)
theorem vx_own {args : Array Value} {s : State} {L : List Cond} (h1 : ∀ w ∈ L.filter vx_no, w.before args s = true)
    (hU : (Cond.isRef (.static Bundle.tN "UNASSIGNED_STACK" Bundle.steD)).before args s = true) (hN : (Cond.isRef (.static Bundle.tN "SUPPRESSED_SENTINEL" Bundle.listD)).before args s = true)
    (lU : (Cond.laysStatic Bundle.tN "UNASSIGNED_STACK" Bundle.steD).before args s = true) (lN : (Cond.laysStatic Bundle.tN "SUPPRESSED_SENTINEL" Bundle.listD).before args s = true) : ∀ w ∈ L, w.before args s = true := by
  intro w hw
  by_cases e1 : w = .isRef (.static Bundle.tN "UNASSIGNED_STACK" Bundle.steD)
  · rw [e1]; exact hU
  · by_cases e2 : w = .isRef (.static Bundle.tN "SUPPRESSED_SENTINEL" Bundle.listD)
    · rw [e2]; exact hN
    · by_cases e3 : w = .laysStatic Bundle.tN "UNASSIGNED_STACK" Bundle.steD
      · rw [e3]; exact lU
      · by_cases e4 : w = .laysStatic Bundle.tN "SUPPRESSED_SENTINEL" Bundle.listD
        · rw [e4]; exact lN
        · exact h1 w (List.mem_filter.mpr ⟨hw, by unfold vx_no; rw [decide_eq_true e1, decide_eq_true e2, decide_eq_true e3, decide_eq_true e4]; rfl⟩)
def vx_L (C n d : String) (A : Nat → Prop) (U : State) (H : Heap) : Prop := ∃ (c : ClassId) (k : Class) (i : Nat) (f : Field) (a : Nat) (cell : Cell), U.vm.findClass C = some c ∧ U.fieldFound? C n d = some (c, k, i, f) ∧ f.isStatic = true ∧ k.statics = some a ∧ H[a]? = some cell ∧ cell.vm.isStatics = true ∧ cell.cls = c ∧ f.slot < cell.slots.size ∧ k.staticTypes[f.slot]? = some f.type ∧ ¬ A a
theorem vx_L.moved {C n d : String} {A : Nat → Prop} {u U : State} {H : Heap} (hvm : u.vm.Alike U.vm) (h : vx_L C n d A u H) : vx_L C n d A U H := by
  obtain ⟨c, k, i, f, a, cell, h1, h2, h3, h4, h5, h6, h7, h8, h9, h10⟩ := h
  obtain ⟨k', hi', he⟩ := State.fieldFound?_setVm hvm h2
  exact ⟨c, k', i, f, a, cell, by rw [hvm.findClass]; exact h1, hi', h3, by rw [he]; exact h4, h5, h6, h7, h8, by rw [he]; exact h9, h10⟩
theorem vx_L.kept {C n d : String} {A : Nat → Prop} {U : State} {H H1 : Heap} (h : vx_L C n d A U H) (hq : ∀ a : Nat, a < H.size → ¬ A a → H1[a]? = H[a]?) : vx_L C n d A U H1 := by
  obtain ⟨c, k, i, f, a, cell, h1, h2, h3, h4, h5, h6, h7, h8, h9, h10⟩ := h
  exact ⟨c, k, i, f, a, cell, h1, h2, h3, h4, by rw [hq a (Array.getElem?_eq_some_iff.mp h5).1 h10]; exact h5, h6, h7, h8, h9, h10⟩
theorem vx_L.narrow {C n d : String} {A B : Nat → Prop} {U : State} {H : Heap} (h : vx_L C n d A U H) (hAB : ∀ q, B q → A q) : vx_L C n d B U H := by
  obtain ⟨c, k, i, f, a, cell, h1, h2, h3, h4, h5, h6, h7, h8, h9, h10⟩ := h
  exact ⟨c, k, i, f, a, cell, h1, h2, h3, h4, h5, h6, h7, h8, h9, fun z => h10 (hAB _ z)⟩
theorem vx_L.word {C n d : String} {A : Nat → Prop} {s : State} {args : Array Value} (h : vx_L C n d A s s.heap) : (Cond.laysStatic C n d).before args s = true := by
  obtain ⟨c, k, i, f, a, cell, h1, h2, h3, h4, h5, h6, h7, h8, h9, -⟩ := h
  show (Cond.laysStatic C n d).holds args s none s [] = true
  exact Cond.laysStatic_of h1 h2 h3 h4 h5 h6 h7 h8 h9
/-- .. and what it holds: null or some reference -/
def vx_Zq (C n d : String) (A : Nat → Prop) (U : State) (H : Heap) : Prop := va_Zq C n d A U H ∧ vx_L C n d A U H
theorem vx_Zq.moved {C n d : String} {A : Nat → Prop} {u U : State} {H : Heap} (hvm : u.vm.Alike U.vm) (h : vx_Zq C n d A u H) : vx_Zq C n d A U H := ⟨va_Zq.moved hvm h.1, vx_L.moved hvm h.2⟩
theorem vx_Zq.kept {C n d : String} {A : Nat → Prop} {U : State} {H H1 : Heap} (h : vx_Zq C n d A U H) (hq : ∀ a : Nat, a < H.size → ¬ A a → H1[a]? = H[a]?) : vx_Zq C n d A U H1 := ⟨va_Zq.kept h.1 hq, vx_L.kept h.2 hq⟩
theorem vx_Zq.narrow {C n d : String} {A B : Nat → Prop} {U : State} {H : Heap} (h : vx_Zq C n d A U H) (hAB : ∀ q, B q → A q) : vx_Zq C n d B U H := ⟨va_Zq.narrow h.1 hAB, vx_L.narrow h.2 hAB⟩
theorem vx_Zqof {args : Array Value} {s : State} {C n d : String} {A : Nat → Prop} (hl : (Cond.laysStatic C n d).before args s = true) (hini : (Cond.initialized C).before args s = true) (h : (Cond.isRef (.static C n d)).before args s = true) (hA : ∀ a : Nat, a < s.heap.size → ¬ A a) : vx_Zq C n d A s s.heap := by
  refine ⟨va_Zqof hl hini h hA, ?_⟩
  obtain ⟨c, k, i, f, a, cell, h1, h2, h3, h4, h5, h6, h7, h8, h9⟩ := Cond.laysStatic_spec hl
  exact ⟨c, k, i, f, a, cell, h1, h2, h3, h4, h5, h6, h7, h8, h9, hA a (Array.getElem?_eq_some_iff.mp h5).1⟩
theorem vx_isRef {C n d : String} {v : Value} {A : Nat → Prop} {s : State} {args : Array Value} (h : va_Z C n d v A s s.heap) (hv : v.isRef = true) : (Cond.isRef (.static C n d)).before args s = true := by
  obtain ⟨cf, kf, fi, f, a, cell, h1, h2, h3, h4, h5, h6, h7, -⟩ := h
  have he : (Term.static C n d).eval args s none [] s = some v := by
    simp [Term.eval, State.fieldNamed?, h1, h2, h4, h5, h6, h7]
  simp only [Cond.before, Cond.holds, Cond.value, he]
  cases v <;> simp_all [Value.isRef]
theorem vx_isRefq {C n d : String} {A : Nat → Prop} {s : State} {args : Array Value} (h : va_Zq C n d A s s.heap) : (Cond.isRef (.static C n d)).before args s = true := by
  rcases h with h | ⟨t, h⟩
  · exact vx_isRef h rfl
  · exact vx_isRef h rfl
section FXs
variable {l : Launch} {s0 s : State} {D : va_G} {cI cC cJ cII cO cZ : ClassId}
theorem fx_g (F : FX l s0 D cI cC cJ cII cO cZ) (hV : gx_V s0 s) (args : Array Value) : ∀ w, gw w → w.before args s = true := fun w h => by
  obtain ⟨-, ⟨a0, h1, -⟩, -⟩ := F
  exact word_at hV.1 (good_of_word h.2) (h1 w h.1)
theorem fx_k (F : FX l s0 D cI cC cJ cII cO cZ) (hV : gx_V s0 s) : va_K D classes (fx_ty cI cC cJ cII cO cZ) s := va_K.moved hV.1.alike F.2.2
theorem fx_n (F : FX l s0 D cI cC cJ cII cO cZ) (hV : gx_V s0 s) : ∀ w, gn w → va_Nw w s := fun w h => by
  obtain ⟨-, ⟨a0, h1, -⟩, -⟩ := F
  have h0 := h1 w h.1
  have h2 := h.2
  cases w <;> first | exact va_Nw.warmF hV.1 (va_Nw.of rfl h0) | exact va_Nw.warmM hV.1 (va_Nw.of rfl h0) | exact absurd h2 (fun z => Bool.noConfusion z)
theorem fx_tr (F : FX l s0 D cI cC cJ cII cO cZ) : l.stackTraces = false := F.1
theorem fx_A (a : Nat) (h : a < s0.heap.size) : ¬ gx_A0 s0 a := fun z => absurd z (Nat.not_le.mpr h)
theorem fx_stat (F : FX l s0 D cI cC cJ cII cO cZ) : ∃ e0 u0 : Nat, va_Z "java/util/ArrayList" "DEFAULTCAPACITY_EMPTY_ELEMENTDATA" "[Ljava/lang/Object;" (.ref e0) (gx_A0 s0) s0 s0.heap ∧ va_T (.object "java/lang/Object") e0 0 (fun _ => .null) (gx_A0 s0) s0 s0.heap ∧ va_O "[Ljava/lang/Object;" e0 (gx_A0 s0) s0 s0.heap ∧ va_Z "PortBills" "UNIT" "[I" (.ref u0) (gx_A0 s0) s0 s0.heap ∧ va_T .int u0 6 (fun j => .int (fx_unit j)) (gx_A0 s0) s0 s0.heap := by
  obtain ⟨-, ⟨a0, h1, h2⟩, -⟩ := F
  have hs := flat_of_before _ h2
  obtain ⟨e0, he, hT⟩ := va_Tof (tm := .static "java/util/ArrayList" "DEFAULTCAPACITY_EMPTY_ELEMENTDATA" "[Ljava/lang/Object;") (ty := .object "java/lang/Object") (N := 0) (f := fun _ => .null) (A := gx_A0 s0) (by decide) (hs _ (by decide +kernel)) (va_eqt (hs _ (by decide +kernel))) (fun j hj => absurd hj (Nat.not_lt_zero j)) fx_A
  obtain ⟨u0, hu, hU⟩ := va_Tof (tm := .static "PortBills" "UNIT" "[I") (ty := .int) (N := 6) (f := fun j => .int (fx_unit j)) (A := gx_A0 s0) (by decide) (hs _ (by decide +kernel)) (va_eqt (hs _ (by decide +kernel))) (fun j hj => by
    rcases (show j = 0 ∨ j = 1 ∨ j = 2 ∨ j = 3 ∨ j = 4 ∨ j = 5 by omega) with rfl | rfl | rfl | rfl | rfl | rfl
    all_goals exact va_eqt (hs _ (by decide +kernel))) fx_A
  exact ⟨e0, u0, va_Zof (h1 _ (tw_1 (by decide +kernel))) (h1 _ (tw_1 (by decide +kernel))) he fx_A, hT, va_Oof (hs _ (by decide +kernel)) he fx_A, va_Zof (h1 _ (List.mem_append.mpr (Or.inr (by decide +kernel)))) (h1 _ (tw_1 (by decide +kernel))) hu fx_A, hU⟩
noncomputable def fx_e0 (F : FX l s0 D cI cC cJ cII cO cZ) : Nat := (fx_stat F).choose
noncomputable def fx_u0 (F : FX l s0 D cI cC cJ cII cO cZ) : Nat := (fx_stat F).choose_spec.choose
section
variable {A : Nat → Prop}
theorem fx_kept (hV : gx_V s0 s) : ∀ a : Nat, a < s0.heap.size → ¬ gx_A0 s0 a → s.heap[a]? = s0.heap[a]? := fun a h _ => hV.2.2 a h
theorem fx_ez (F : FX l s0 D cI cC cJ cII cO cZ) (hV : gx_V s0 s) (hA0 : ∀ q, A q → s0.heap.size ≤ q) : va_Z "java/util/ArrayList" "DEFAULTCAPACITY_EMPTY_ELEMENTDATA" "[Ljava/lang/Object;" (.ref (fx_e0 F)) A s s.heap := va_Z.narrow (va_Z.kept (va_Z.moved hV.1.alike (fx_stat F).choose_spec.choose_spec.1) (fx_kept hV)) hA0
theorem fx_et (F : FX l s0 D cI cC cJ cII cO cZ) (hV : gx_V s0 s) (hA0 : ∀ q, A q → s0.heap.size ≤ q) : va_T (.object "java/lang/Object") (fx_e0 F) 0 (fun _ => .null) A s s.heap := va_T.narrow (va_T.kept (va_T.moved hV.1.alike (fx_stat F).choose_spec.choose_spec.2.1) (fx_kept hV)) hA0
theorem fx_eo (F : FX l s0 D cI cC cJ cII cO cZ) (hV : gx_V s0 s) (hA0 : ∀ q, A q → s0.heap.size ≤ q) : va_O "[Ljava/lang/Object;" (fx_e0 F) A s s.heap := va_O.narrow (va_O.kept (va_O.moved hV.1.alike (fx_stat F).choose_spec.choose_spec.2.2.1) (fx_kept hV)) hA0
theorem fx_uz (F : FX l s0 D cI cC cJ cII cO cZ) (hV : gx_V s0 s) (hA0 : ∀ q, A q → s0.heap.size ≤ q) : va_Z "PortBills" "UNIT" "[I" (.ref (fx_u0 F)) A s s.heap := va_Z.narrow (va_Z.kept (va_Z.moved hV.1.alike (fx_stat F).choose_spec.choose_spec.2.2.2.1) (fx_kept hV)) hA0
theorem fx_ut (F : FX l s0 D cI cC cJ cII cO cZ) (hV : gx_V s0 s) (hA0 : ∀ q, A q → s0.heap.size ≤ q) : va_T .int (fx_u0 F) 6 (fun j => .int (fx_unit j)) A s s.heap := va_T.narrow (va_T.kept (va_T.moved hV.1.alike (fx_stat F).choose_spec.choose_spec.2.2.2.2) (fx_kept hV)) hA0
end
/-- Throwable's two statics -/
theorem fx_tU (F : FX l s0 D cI cC cJ cII cO cZ) (hV : gx_V s0 s) : vx_Zq Bundle.tN "UNASSIGNED_STACK" Bundle.steD (gx_A0 s0) s s.heap := by
  obtain ⟨-, ⟨a0, h1, h2⟩, -⟩ := F
  have hs := flat_of_before _ h2
  exact vx_Zq.kept (vx_Zq.moved hV.1.alike (vx_Zqof (args := a0) (h1 _ (tw_2 (by decide +kernel))) (h1 _ (tw_1 (by decide +kernel))) (hs _ (by decide +kernel)) fx_A)) (fx_kept hV)
theorem fx_tN (F : FX l s0 D cI cC cJ cII cO cZ) (hV : gx_V s0 s) : vx_Zq Bundle.tN "SUPPRESSED_SENTINEL" Bundle.listD (gx_A0 s0) s s.heap := by
  obtain ⟨-, ⟨a0, h1, h2⟩, -⟩ := F
  have hs := flat_of_before _ h2
  exact vx_Zq.kept (vx_Zq.moved hV.1.alike (vx_Zqof (args := a0) (h1 _ (tw_2 (by decide +kernel))) (h1 _ (tw_1 (by decide +kernel))) (hs _ (by decide +kernel)) fx_A)) (fx_kept hV)
def fx_c : Cond → Bool
  | .castable .. => true
  | .declares .. => true
  | _ => false
theorem fx_gc (F : FX l s0 D cI cC cJ cII cO cZ) (hV : gx_V s0 s) : ∀ w, w ∈ lw_tbl → fx_c w = true → va_Nw w s := fun w h h2 => by
  obtain ⟨-, ⟨a0, h1, -⟩, -⟩ := F
  have h0 := h1 w h
  cases w <;> first | exact va_Nw.warmC hV.1 (va_Nw.of rfl h0) | exact va_tabs rfl (rfl : (s0.setVm s.vm).vm = s.vm) (by rw [Cond.declares_setVm (args := a0) hV.1.alike]; exact h0) | exact absurd h2 (fun z => Bool.noConfusion z)
theorem fx_gc2 (F : FX l s0 D cI cC cJ cII cO cZ) (hV : gx_V s0 s) (args : Array Value) : ∀ w, w ∈ lw_tbl → fx_c w = true → w.before args s = true := fun w h h2 => by
  have h3 := fx_gc F hV w h h2
  cases w <;> first | exact va_Nw.use rfl h3 | exact absurd h2 (fun z => Bool.noConfusion z)
theorem fx_ownw (F : FX l s0 D cI cC cJ cII cO cZ) (hV : gx_V s0 s) (args : Array Value) {L : List Cond} (h : (L.filter vx_no).all (fun w => decide (w ∈ lw_tbl) && (goodWord w || fx_c w)) = true) : ∀ w ∈ L, w.before args s = true := by
  refine vx_own (fun w hw => ?_) (vx_isRefq (fx_tU F hV).1) (vx_isRefq (fx_tN F hV).1) (fx_tU F hV).2.word (fx_tN F hV).2.word
  have h1 := List.all_eq_true.mp h w hw
  simp only [Bool.and_eq_true, Bool.or_eq_true, decide_eq_true_eq] at h1
  exact h1.2.elim (fun z => fx_g F hV args w ⟨h1.1, z⟩) (fun z => fx_gc2 F hV args w h1.1 z)
theorem fx_str (F : FX l s0 D cI cC cJ cII cO cZ) (hV : gx_V s0 s) (is : Nat) (tx : String) (hw : (Cond.stringRef "PortBills" is tx) ∈ lw_tbl) (hx : (Cond.exactly (.string "PortBills" is) "java/lang/String") ∈ flatC (Jvm.Cond.and given_1 narrow_1)) : ∃ sa, vk_R "PortBills" is tx sa s := by
  obtain ⟨-, ⟨a0, h1, h2⟩, -⟩ := F
  have hs := flat_of_before _ h2
  obtain ⟨a, c, cell, k, q1, -⟩ := Cond.exactly_spec (hs _ hx)
  exact ⟨a, vk_R.warm hV.1 (vk_R.of (h1 _ hw) q1)⟩
end FXs
def fx_nm : List String := ["java/lang/RuntimeException", "java/lang/Exception"]
