set_option maxRecDepth 100000 in
set_option maxHeartbeats 4000000 in
theorem c_AR_fill {l : Launch} {s0 : State} {D : va_G} {cI cC cJ cII cO cZ : ClassId} (F : FX l s0 D cI cC cJ cII cO cZ) {ws : va_W} {q a n : Nat} {f : Nat → Int32} (he : ws[q]? = some (a, .inl (cI, n, .inl f))) (sz : Nat) (v : Int32) (hn : n ≤ 1000)  : Met l y_AR_fill [.code y_AR_fill b_AR_fill 4 none] { frames := 0, cells := 0, slots := 0, locals := 0 } (gx_P s0 D classes ws sz [.ref a, .int v]) (va_Qv (fun w1 => w1 = ws.set q (a, .inl (cI, n, .inl (cb_fil f v n)))) (gx_B D classes ws sz) (va_A ws sz)) 0 0 (va_A ws sz) := by
  refine gx_met (by decide +kernel) (Nat.le_of_ble_eq_true rfl) ?_
  intro p e s m below meth c ls hx hb hr hml hown hlocks hnm hsz hV hP hD hS hA hA0 hl
  have hg := fx_g F hV ([.ref a, .int v] : List Value).toArray
  have hK := fx_k F hV
  have hn9 := fx_n F hV
  have hl : lv_has ls 4 [(0, .ref a), (1, .int v)] := hl
  refine lv_iconst (v := 0) hx hb d_AR_fill_0 (by decide) ?_
  refine lv_istore_n (lv' := [(2, .int 0), (0, .ref a), (1, .int v)]) hx hb d_AR_fill_1 rfl hl (by decide) rfl (fun ls hl => ?_)
  refine lv_aload_n hx hb d_AR_fill_2 rfl (lv_at hl 1 rfl) ?_
  refine va_alen hx hb hK hP q 0 (he) rfl (v := nI n) rfl d_AR_fill_3 ?_
  refine lv_istore_n (lv' := [(3, .int (nI n)), (2, .int 0), (0, .ref a), (1, .int v)]) hx hb d_AR_fill_4 rfl hl (by decide) rfl (fun ls hl => ?_)
  have loop : ∀ (nn : Nat) (i : Nat) (H : Heap) (locs : List Loc) (ls : Array Slot) (hi : i ≤ n) (hf : n + 1 ≤ i + nn) (hP : va_P D classes (ws.set q (a, .inl (cI, n, .inl (cb_fil f v i)))) H) (hD : va_D (va_A ws sz) (ws.set q (a, .inl (cI, n, .inl (cb_fil f v i))))) (hS : va_S (va_A ws sz) s.heap H locs) (hl : lv_has ls 4 [(2, .int (nI i)), (3, .int (nI n)), (0, .ref a), (1, .int v)]), W p l e ({ frames := 0, cells := 0, slots := 0, locals := 0 } : Room) s m ([.ref a, .int v] : List Value).toArray below meth c H locs 0 0 (MQ below (va_Qv (fun w1 => w1 = ws.set q (a, .inl (cI, n, .inl (cb_fil f v n)))) (gx_B D classes ws sz) (va_A ws sz)) ([.ref a, .int v] : List Value).toArray s 0 0 (va_A ws sz)) (F0 m 5 ls []) := by
    intro nn
    induction nn with
    | zero =>
      intro i H locs ls hi hf hP hD hS hl
      exact absurd hf (by omega)
    | succ nn ih =>
      intro i H locs ls hi hf hP hD hS hl
      refine lv_iload_n hx hb d_AR_fill_5 rfl (lv_at hl 0 rfl) ?_
      refine lv_iload_n hx hb d_AR_fill_6 rfl (lv_at hl 1 rfl) ?_
      refine lv_icmp_ge (tgt := 20) hx hb d_AR_fill_7 (by decide) (fun c_7 => ?_) (fun c_7 => ?_)
      · skip
        have hin : i = n := by have := gx_ngt c_7; omega
        subst hin
        exact gx_vret hx hb hr hlocks hS hP hD (by decide) (by decide) d_AR_fill_20 (rfl)
      · skip
        have hin : i < n := gx_nlt c_7
        refine lv_aload_n hx hb d_AR_fill_10 rfl (lv_at hl 2 rfl) ?_
        refine lv_iload_n hx hb d_AR_fill_11 rfl (lv_at hl 0 rfl) ?_
        refine lv_iload_n hx hb d_AR_fill_12 rfl (lv_at hl 3 rfl) ?_
        refine gx_is hx hb hK hP hD hS q 0 (gx_ss he) rfl i (rfl) (hin) (by omega) d_AR_fill_13 (fun H locs hP hD hS => ?_)
        refine lv_iinc (v := nI (i + 1)) (lv' := [(2, .int (nI (i + 1))), (3, .int (nI n)), (0, .ref a), (1, .int v)]) hx hb d_AR_fill_14 hl (k := 0) rfl (by rw [lit1]; exact nI_1 i) (by decide) rfl (fun ls hl => ?_)
        refine lv_goto (tgt := 5) hx hb d_AR_fill_17 (by decide) ?_
        exact ih (i + 1) _ _ ls (by omega) (by omega) (by rw [List.set_set, cb_fil_s] at hP; exact hP) (by rw [List.set_set, cb_fil_s] at hD; exact hD) hS (lv_sub hl [0, 1, 2, 3] rfl)
  exact loop (n + 1) 0 _ _ ls (by omega) (by omega) (by rw [cb_fil_0, gx_sid he]; exact hP) (by rw [cb_fil_0, gx_sid he]; exact hD) hS (lv_sub hl [1, 0, 2, 3] rfl)

