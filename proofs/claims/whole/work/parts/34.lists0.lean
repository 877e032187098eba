/-! LISTS: what the growing needs -/
section FXl
variable {l : Launch} {s0 s : State} {D : va_G} {cI cC cJ cII cO cZ : ClassId}
theorem fx_mi0 (F : FX l s0 D cI cC cJ cII cO cZ) : ∃ mi, ∀ s, gx_V s0 s → va_Mi "[Ljava/lang/Object;" mi s := by
  obtain ⟨-, ⟨a0, h1, h2⟩, -⟩ := F
  have hs := flat_of_before _ h2
  obtain ⟨mi, h⟩ := va_Mi.of (hs (.isRef (.mirror "[Ljava/lang/Object;")) (by decide +kernel))
  exact ⟨mi, fun s hV => va_Mi.moved hV.1.alike h⟩
theorem fx_ao (F : FX l s0 D cI cC cJ cII cO cZ) (hV : gx_V s0 s) : va_AO "java/lang/Object" s := by
  obtain ⟨-, ⟨a0, h1, h2⟩, -⟩ := F
  exact va_AO.moved hV.1.alike (va_AO.of (h1 _ kt_436))
theorem fx_aoI (F : FX l s0 D cI cC cJ cII cO cZ) (hV : gx_V s0 s) (args : Array Value) : (Cond.arrayOver (.array .int)).before args s = true := by
  obtain ⟨-, ⟨a0, h1, h2⟩, -⟩ := F
  have h : (Cond.arrayOver (.array .int)).before a0 (s0.setVm s.vm) = true := by rw [Cond.arrayOver_setVmC (args := a0) hV.1.alike]; exact h1 _ kt_36
  exact h
theorem fx_lo (F : FX l s0 D cI cC cJ cII cO cZ) (hV : gx_V s0 s) : va_Nw (.castable "PortBills$Line" "java/lang/Object") s := fx_gc F hV _ kt_755 rfl
theorem fx_dc (F : FX l s0 D cI cC cJ cII cO cZ) (hV : gx_V s0 s) (args : Array Value) : (Cond.declares ⟨"java/lang/Object", "getClass", "()Ljava/lang/Class;"⟩).before args s = true := fx_gc2 F hV args _ kt_751 rfl
theorem gx_nO (hK : va_K D classes (fx_ty cI cC cJ cII cO cZ) s) : s.vm.findClass "[Ljava/lang/Object;" = some cO := va_nmO (hK.2 4 _ rfl).2 (by decide +kernel)
theorem gx_nI (hK : va_K D classes (fx_ty cI cC cJ cII cO cZ) s) : s.vm.findClass "[I" = some cI := by
  have h : s.vm.findClass ("[" ++ FieldType.int.toString) = some cI := (hK.2 0 _ rfl).2
  rw [show "[I" = "[" ++ FieldType.int.toString by decide +kernel]
  exact h
theorem gx_nII (hK : va_K D classes (fx_ty cI cC cJ cII cO cZ) s) : s.vm.findClass "[[I" = some cII := by
  have h : s.vm.findClass ("[" ++ (FieldType.array .int).toString) = some cII := (hK.2 3 _ rfl).2
  rw [show "[[I" = "[" ++ (FieldType.array .int).toString by decide +kernel]
  exact h
/-- a new array's number is the one that is known -/
theorem gx_sameO {cA : ClassId} (hK : va_K D classes (fx_ty cI cC cJ cII cO cZ ++ [(cA, .object "java/lang/Object")]) s) : cA = cO := by
  have h1 := va_nmO (nm := "[Ljava/lang/Object;") (hK.2 4 _ rfl).2 (by decide +kernel)
  have h2 := va_nmO (nm := "[Ljava/lang/Object;") (hK.2 6 _ rfl).2 (by decide +kernel)
  exact Option.some.inj (h2.symm.trans h1)
theorem gx_recO {ws : va_W} {H : Heap} {ea ep cap : Nat} {ef : Nat → Option Nat} (hK : va_K D classes (fx_ty cI cC cJ cII cO cZ) s) (hP : va_P D classes ws H) (ha : ws[ep]? = some (ea, .inl (cO, cap, .inr (.inr (.inr (.inr ef)))))) : ∃ cell : Cell, H[ea]? = some cell ∧ cell.vm.isStatics = false ∧ s.vm.findClass "[Ljava/lang/Object;" = some cell.cls := by
  have h : H[ea]? = some (vp_cell cO (cap, .inr (.inr (.inr (.inr ef))))) := hP ep _ ha
  rw [vp_cell_q] at h
  exact ⟨_, h, rfl, gx_nO hK⟩
end FXl
theorem gx_sid {ws : va_W} {q : Nat} {c : Nat × va_E} (h : ws[q]? = some c) : ws.set q c = ws := by
  apply List.ext_getElem?
  intro k
  by_cases e : q = k
  · subst e
    rw [gx_ss h, h]
  · rw [List.getElem?_set_ne e]
theorem gx_las (ws : va_W) (x y : Nat × va_E) : (ws ++ [x]).set ws.length y = ws ++ [y] := by simp
theorem gx_lat (ws : va_W) (x : Nat × va_E) : (ws ++ [x])[ws.length]? = some x := by simp
theorem gx_room {m : MethodId} {pc : Nat} {ls : Array Slot} {rest st : List Value} (h : (st.map fun v => v.category).sum ≤ 12) : 2 * (F0 m pc ls rest).monitorRoom + (st.map fun v => v.category).sum ≤ 12 := by
  show 2 * 0 + _ ≤ 12
  omega
section GX12
variable {p : Program} {l : Launch} {e : Env} {R : Room} {s : State} {m : MethodId} {args : Array Value} {below : List Frame} {meth : Method} {c : Code} {H : Heap} {locs : List Loc} {cells slots : Nat}
/-- a call with twelve words below its arguments -/
theorem gx_runV12 {y : MethodName} {bytes cc : ByteArray} {maxL nL mc ms n index : Nat} {ret : Option FieldType} {ws : List Cond} {rm : Room} {Pc : Array Value → State → Prop} {Qc : Array Value → State → Outcome → State → Prop} {free : Addr → Prop} {Ts : List Cond} {own C : String} {b : Addr} {As rest : List Value} {g : JFrame}
    (S : CallFix p m c cc nL s args Ts own) (hM : Met l y ws rm Pc Qc mc ms free) (cw : CallW R s args own C index y bytes maxL ret ws rm mc ms n) (hlo : 12 + (maxL + 11) + rm.locals ≤ R.locals) (hp : PreV s H C b Pc As)
    (hg : g.method = m) (hn : As.length = n) (hsize : g.locals.size = nL) (hstack : g.stack = As.reverse ++ .ref b :: rest) (hW : 2 * g.monitorRoom + (rest.map fun v => v.category).sum ≤ 12) (hdg : decode cc g.pc = .ok (.invokevirtual index, 3)) (hf : cells + mc ≤ R.cells ∧ slots + ms ≤ R.slots) :
    va_Run p l e R s m args below meth c H locs cells slots mc ms g rest (Qc (Value.ref b :: As).toArray) (free) := by
  have hK : Back l R p e below s args y 3 12 (PreOf R mc ms Pc) (PostOf Qc mc ms free) := by
    obtain ⟨hrc, hrs, hfr, -, hws, hcw, -, hini, -⟩ := cw.1
    exact back_of (bytes := bytes) (maxL := maxL) (ret := ret) hM hp.1 hrc hrs hfr hlo hws hcw (fun a' U hW => word_at hW (Or.inl (by first | rfl | simp [Cond.onTables, Cond.keeps, Cond.steady])) hini)
  obtain ⟨⟨-, -, -, -, -, -, hcode, -, hy, hlen, hl⟩, hin, hse⟩ := cw
  obtain ⟨hx, hb, hml, ho, -⟩ := S
  obtain ⟨-, ⟨cellB, hcB, hoB, hclB⟩, hPc⟩ := hp
  intro T hT X
  obtain ⟨v, vm₁, ⟨U', l2, c2, s2⟩, hW₁, X', ⟨g', mk, t, L, e1, e2, hq, h1, hL, h2, h3⟩, st⟩ := callV X hx (C := C) (bytes := bytes) (maxL := maxL) (ret := ret) ho hl hin hse hcode hy hK (by rw [hT]; exact hcB) hoB hclB hg (hsize.trans hml.symm) (argsL := As) (rest := rest) (fun sig h => hn.trans (hlen sig h)) hstack hW (by rw [hb]; exact hdg)
    (fun vm₁ hW₁ => ⟨hf.1, hf.2, hPc (T.setVm vm₁) hT hW₁⟩)
  dsimp only [Pt.U, Pt.locs, Pt.cells, Pt.slots] at X' e1 e2 h1 h2 h3 st
  subst h1; subst h2; subst h3
  exact ⟨v, (T.setVm vm₁).calling g' mk (Value.ref b :: As).toArray, t, U', L, hT, X', hL, e1, e2, hq, st⟩
end GX12
/-- the first n places hold v -/
def cb_fil (f : Nat → Int32) (v : Int32) (n : Nat) : Nat → Int32 := fun j => if j < n then v else f j
theorem cb_fil_0 {f : Nat → Int32} {v : Int32} : cb_fil f v 0 = f := funext fun j => if_neg (Nat.not_lt_zero j)
theorem cb_fil_s {f : Nat → Int32} {v : Int32} {i : Nat} : upd (cb_fil f v i) i v = cb_fil f v (i + 1) := funext fun j => by
  unfold upd cb_fil
  by_cases e : j = i
  · subst e; rw [if_pos rfl, if_pos (by omega)]
  · rw [if_neg e]
    by_cases q : j < i
    · rw [if_pos q, if_pos (by omega)]
    · rw [if_neg q, if_neg (by omega)]
/-- a new line's numbers -/
def cb_mli (c k u ch co fb : Int32) : Nat → Int32 := fun q => if q = 0 then c else if q = 1 then k else if q = 2 then u else if q = 3 then ch else if q = 4 then co else if q = 5 then fb else 0
theorem cb_shr : ∀ c, c < 401 → nI c >>> ((1 : Int32) &&& 31) = nI (c / 2) := by decide +kernel
theorem cb_s1 : ∀ n, n < 401 → nI (n + 1) - nI n = nI 1 := by decide +kernel
