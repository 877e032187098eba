set_option maxRecDepth 100000 in
set_option maxHeartbeats 4000000 in
theorem c_PB_isCall {l : Launch} {s0 : State} {D : va_G} {cI cC cJ cII cO cZ : ClassId} (F : FX l s0 D cI cC cJ cII cO cZ) (ws : va_W) (sz : Nat) (p0 : Int32)  : Met l y_PB_isCall [.code y_PB_isCall b_PB_isCall 1 (some .boolean)] { frames := 0, cells := 0, slots := 0, locals := 0 } (gx_P s0 D classes ws sz [.int p0]) (gx_Ri (fun r => (r = 1 ∧ ∃ k, k < 10 ∧ p0 = nI k) ∨ (r = 0 ∧ (p0 < 0 ∨ nI 10 ≤ p0)))) 0 0 (fun _ => False) := by
  refine gx_met (by decide +kernel) (Nat.le_of_ble_eq_true rfl) ?_
  intro p e s m below meth c ls hx hb hr hml hown hlocks hnm hsz hV hP hD hS hA hA0 hl
  have hg := fx_g F hV ([.int p0] : List Value).toArray
  have hK := fx_k F hV
  have hn9 := fx_n F hV
  have hl : lv_has ls 1 [(0, .int p0)] := hl
  refine lv_iload_n hx hb d_PB_isCall_0 rfl (lv_at hl 0 rfl) ?_
  refine lv_if_lt (tgt := 14) hx hb d_PB_isCall_1 (by decide) (fun c_1 => ?_) (fun c_1 => ?_)
  · skip
    refine lv_iconst (v := 0) hx hb d_PB_isCall_14 (by decide) ?_
    exact gx_ireti hx hb hr hlocks rfl d_PB_isCall_15 (Or.inr ⟨rfl, Or.inl c_1⟩)
  · skip
    refine lv_iload_n hx hb d_PB_isCall_4 rfl (lv_at hl 0 rfl) ?_
    refine lv_bipush (v := 10) hx hb d_PB_isCall_5 (by decide) ?_
    refine lv_icmp_ge (tgt := 14) hx hb d_PB_isCall_7 (by decide) (fun c_7 => ?_) (fun c_7 => ?_)
    · skip
      refine lv_iconst (v := 0) hx hb d_PB_isCall_14 (by decide) ?_
      exact gx_ireti hx hb hr hlocks rfl d_PB_isCall_15 (Or.inr ⟨rfl, Or.inr c_7⟩)
    · skip
      refine lv_iconst (v := 1) hx hb d_PB_isCall_10 (by decide) ?_
      refine lv_goto (tgt := 15) hx hb d_PB_isCall_11 (by decide) ?_
      exact gx_ireti hx hb hr hlocks rfl d_PB_isCall_15 (Or.inl ⟨rfl, gx_rng (by decide) c_1 c_7⟩)

set_option maxRecDepth 100000 in
set_option maxHeartbeats 4000000 in
theorem c_PB_isKind {l : Launch} {s0 : State} {D : va_G} {cI cC cJ cII cO cZ : ClassId} (F : FX l s0 D cI cC cJ cII cO cZ) (ws : va_W) (sz : Nat) (p0 : Int32)  : Met l y_PB_isKind [.code y_PB_isKind b_PB_isKind 1 (some .boolean)] { frames := 0, cells := 0, slots := 0, locals := 0 } (gx_P s0 D classes ws sz [.int p0]) (gx_Ri (fun r => (r = 1 ∧ ∃ k, k < 6 ∧ p0 = nI k) ∨ (r = 0 ∧ (p0 < 0 ∨ nI 6 ≤ p0)))) 0 0 (fun _ => False) := by
  refine gx_met (by decide +kernel) (Nat.le_of_ble_eq_true rfl) ?_
  intro p e s m below meth c ls hx hb hr hml hown hlocks hnm hsz hV hP hD hS hA hA0 hl
  have hg := fx_g F hV ([.int p0] : List Value).toArray
  have hK := fx_k F hV
  have hn9 := fx_n F hV
  have hl : lv_has ls 1 [(0, .int p0)] := hl
  refine lv_iload_n hx hb d_PB_isKind_0 rfl (lv_at hl 0 rfl) ?_
  refine lv_if_lt (tgt := 14) hx hb d_PB_isKind_1 (by decide) (fun c_1 => ?_) (fun c_1 => ?_)
  · skip
    refine lv_iconst (v := 0) hx hb d_PB_isKind_14 (by decide) ?_
    exact gx_ireti hx hb hr hlocks rfl d_PB_isKind_15 (Or.inr ⟨rfl, Or.inl c_1⟩)
  · skip
    refine lv_iload_n hx hb d_PB_isKind_4 rfl (lv_at hl 0 rfl) ?_
    refine lv_bipush (v := 6) hx hb d_PB_isKind_5 (by decide) ?_
    refine lv_icmp_ge (tgt := 14) hx hb d_PB_isKind_7 (by decide) (fun c_7 => ?_) (fun c_7 => ?_)
    · skip
      refine lv_iconst (v := 0) hx hb d_PB_isKind_14 (by decide) ?_
      exact gx_ireti hx hb hr hlocks rfl d_PB_isKind_15 (Or.inr ⟨rfl, Or.inr c_7⟩)
    · skip
      refine lv_iconst (v := 1) hx hb d_PB_isKind_10 (by decide) ?_
      refine lv_goto (tgt := 15) hx hb d_PB_isKind_11 (by decide) ?_
      exact gx_ireti hx hb hr hlocks rfl d_PB_isKind_15 (Or.inl ⟨rfl, gx_rng (by decide) c_1 c_7⟩)

set_option maxRecDepth 100000 in
set_option maxHeartbeats 4000000 in
theorem c_PB_isKey {l : Launch} {s0 : State} {D : va_G} {cI cC cJ cII cO cZ : ClassId} (F : FX l s0 D cI cC cJ cII cO cZ) (ws : va_W) (sz : Nat) (p0 : Int32)  : Met l y_PB_isKey [.code y_PB_isKey b_PB_isKey 1 (some .boolean)] { frames := 0, cells := 0, slots := 0, locals := 0 } (gx_P s0 D classes ws sz [.int p0]) (gx_Ri (fun r => (r = 1 ∧ ∃ k, k ≤ 1000000 ∧ p0 = nI k) ∨ (r = 0 ∧ (p0 < 0 ∨ nI 1000000 < p0)))) 0 0 (fun _ => False) := by
  refine gx_met (by decide +kernel) (Nat.le_of_ble_eq_true rfl) ?_
  intro p e s m below meth c ls hx hb hr hml hown hlocks hnm hsz hV hP hD hS hA hA0 hl
  have hg := fx_g F hV ([.int p0] : List Value).toArray
  have hK := fx_k F hV
  have hn9 := fx_n F hV
  have hl : lv_has ls 1 [(0, .int p0)] := hl
  refine lv_iload_n hx hb d_PB_isKey_0 rfl (lv_at hl 0 rfl) ?_
  refine lv_if_lt (tgt := 14) hx hb d_PB_isKey_1 (by decide) (fun c_1 => ?_) (fun c_1 => ?_)
  · skip
    refine lv_iconst (v := 0) hx hb d_PB_isKey_14 (by decide) ?_
    exact gx_ireti hx hb hr hlocks rfl d_PB_isKey_15 (Or.inr ⟨rfl, Or.inl c_1⟩)
  · skip
    refine lv_iload_n hx hb d_PB_isKey_4 rfl (lv_at hl 0 rfl) ?_
    refine lv_ldc (v := 1000000) hx hb hown (hg _ k_504) d_PB_isKey_5 ?_
    refine lv_icmp_gt (tgt := 14) hx hb d_PB_isKey_7 (by decide) (fun c_7 => ?_) (fun c_7 => ?_)
    · skip
      refine lv_iconst (v := 0) hx hb d_PB_isKey_14 (by decide) ?_
      exact gx_ireti hx hb hr hlocks rfl d_PB_isKey_15 (Or.inr ⟨rfl, Or.inr c_7⟩)
    · skip
      refine lv_iconst (v := 1) hx hb d_PB_isKey_10 (by decide) ?_
      refine lv_goto (tgt := 15) hx hb d_PB_isKey_11 (by decide) ?_
      exact gx_ireti hx hb hr hlocks rfl d_PB_isKey_15 (Or.inl ⟨rfl, gx_rnk c_1 c_7⟩)

set_option maxRecDepth 100000 in
set_option maxHeartbeats 4000000 in
theorem c_TT_isDigit {l : Launch} {s0 : State} {D : va_G} {cI cC cJ cII cO cZ : ClassId} (F : FX l s0 D cI cC cJ cII cO cZ) (ws : va_W) (sz : Nat) (p0 : Int32)  : Met l y_TT_isDigit [.code y_TT_isDigit b_TT_isDigit 1 (some .boolean)] { frames := 0, cells := 0, slots := 0, locals := 0 } (gx_P s0 D classes ws sz [.int p0]) (gx_Ri (fun r => (r = 1 ∧ ¬ p0 < 48 ∧ ¬ 57 < p0) ∨ (r = 0 ∧ (p0 < 48 ∨ 57 < p0)))) 0 0 (fun _ => False) := by
  refine gx_met (by decide +kernel) (Nat.le_of_ble_eq_true rfl) ?_
  intro p e s m below meth c ls hx hb hr hml hown hlocks hnm hsz hV hP hD hS hA hA0 hl
  have hg := fx_g F hV ([.int p0] : List Value).toArray
  have hK := fx_k F hV
  have hn9 := fx_n F hV
  have hl : lv_has ls 1 [(0, .int p0)] := hl
  refine lv_iload_n hx hb d_TT_isDigit_0 rfl (lv_at hl 0 rfl) ?_
  refine lv_bipush (v := 48) hx hb d_TT_isDigit_1 (by decide) ?_
  refine lv_icmp_lt (tgt := 16) hx hb d_TT_isDigit_3 (by decide) (fun c_3 => ?_) (fun c_3 => ?_)
  · skip
    refine lv_iconst (v := 0) hx hb d_TT_isDigit_16 (by decide) ?_
    exact gx_ireti hx hb hr hlocks rfl d_TT_isDigit_17 (Or.inr ⟨rfl, Or.inl c_3⟩)
  · skip
    refine lv_iload_n hx hb d_TT_isDigit_6 rfl (lv_at hl 0 rfl) ?_
    refine lv_bipush (v := 57) hx hb d_TT_isDigit_7 (by decide) ?_
    refine lv_icmp_gt (tgt := 16) hx hb d_TT_isDigit_9 (by decide) (fun c_9 => ?_) (fun c_9 => ?_)
    · skip
      refine lv_iconst (v := 0) hx hb d_TT_isDigit_16 (by decide) ?_
      exact gx_ireti hx hb hr hlocks rfl d_TT_isDigit_17 (Or.inr ⟨rfl, Or.inr c_9⟩)
    · skip
      refine lv_iconst (v := 1) hx hb d_TT_isDigit_12 (by decide) ?_
      refine lv_goto (tgt := 17) hx hb d_TT_isDigit_13 (by decide) ?_
      exact gx_ireti hx hb hr hlocks rfl d_TT_isDigit_17 (Or.inl ⟨rfl, c_3, c_9⟩)

set_option maxRecDepth 100000 in
set_option maxHeartbeats 4000000 in
theorem c_PB_quotient {l : Launch} {s0 : State} {D : va_G} {cI cC cJ cII cO cZ : ClassId} (F : FX l s0 D cI cC cJ cII cO cZ) (ws : va_W) (sz : Nat) (x y : Int64)  : Met l y_PB_quotient [.code y_PB_quotient b_PB_quotient 4 (some .long)] { frames := 0, cells := 0, slots := 0, locals := 0 } (gx_P s0 D classes ws sz [.long x, .long y]) (gx_Rl (fun r => r = cb_quo x y)) 0 0 (fun _ => False) := by
  refine gx_met (by decide +kernel) (Nat.le_of_ble_eq_true rfl) ?_
  intro p e s m below meth c ls hx hb hr hml hown hlocks hnm hsz hV hP hD hS hA hA0 hl
  have hg := fx_g F hV ([.long x, .long y] : List Value).toArray
  have hK := fx_k F hV
  have hn9 := fx_n F hV
  have hl : lv_has ls 4 [(0, .long x), (2, .long y)] := hl
  refine lv_lload_n hx hb d_PB_quotient_0 rfl (lv_at hl 1 rfl) ?_
  refine lv_lconst (v := 1) hx hb d_PB_quotient_1 (by decide) ?_
  refine W.lcmp hx hb d_PB_quotient_2 ?_
  refine lv_if_ge (tgt := 10) hx hb d_PB_quotient_3 (by decide) (fun c_3 => ?_) (fun c_3 => ?_)
  · skip
    refine lv_lload_n hx hb d_PB_quotient_10 rfl (lv_at hl 0 rfl) ?_
    refine lv_lload_n hx hb d_PB_quotient_11 rfl (lv_at hl 1 rfl) ?_
    refine lv_ldiv hx hb d_PB_quotient_12 (gx_lne c_3) ?_
    exact gx_iretl hx hb hr hlocks d_PB_quotient_13 ((cb_quo_ge c_3).symm)
  · skip
    refine lv_lconst (v := 0) hx hb d_PB_quotient_6 (by decide) ?_
    refine lv_goto (tgt := 13) hx hb d_PB_quotient_7 (by decide) ?_
    exact gx_iretl hx hb hr hlocks d_PB_quotient_13 ((cb_quo_lt c_3).symm)

set_option maxRecDepth 100000 in
set_option maxHeartbeats 4000000 in
theorem c_PB_hasTariff {l : Launch} {s0 : State} {D : va_G} {cI cC cJ cII cO cZ : ClassId} (F : FX l s0 D cI cC cJ cII cO cZ) {ws : va_W} {κ : Nat → Nat} {ra : Nat → Nat → Nat} {z sg : Nat → Int32} {G : Nat → Nat → Nat → Int32} {we : Nat → Int32} {pd : Nat → Int64} (hI : cb_I cI cC cJ cII ws κ ra z sg G we pd) (sz : Nat) (p0 : Int32)  : Met l y_PB_hasTariff [.code y_PB_hasTariff b_PB_hasTariff 2 (some .boolean)] { frames := 0, cells := 0, slots := 0, locals := 0 } (gx_P s0 D classes ws sz [.ref (κ 0), .int p0]) (gx_Ri (fun r => (r = 1 ∧ (z 3 >>> (p0 &&& 31)) &&& 1 = 1) ∨ (r = 0 ∧ ¬ (z 3 >>> (p0 &&& 31)) &&& 1 = 1))) 0 0 (fun _ => False) := by
  refine gx_met (by decide +kernel) (Nat.le_of_ble_eq_true rfl) ?_
  intro p e s m below meth c ls hx hb hr hml hown hlocks hnm hsz hV hP hD hS hA hA0 hl
  have hg := fx_g F hV ([.ref (κ 0), .int p0] : List Value).toArray
  have hK := fx_k F hV
  have hn9 := fx_n F hV
  have hl : lv_has ls 2 [(0, .ref (κ 0)), (1, .int p0)] := hl
  refine lv_aload_n hx hb d_PB_hasTariff_0 rfl (lv_at hl 0 rfl) ?_
  refine va_get (D := D) (ci := iPB) (v := .int (z 3)) (C := R_PB) (T := F_PB) (N := 11) hx hb (fl_PB hg) (fun _ h9 => h9) hown hK hP 0 (hI.1) rfl 2 (by decide) (hg _ k_90) (fun _ h9 => h9) rfl d_PB_hasTariff_1 ?_
  refine lv_iload_n hx hb d_PB_hasTariff_4 rfl (lv_at hl 1 rfl) ?_
  refine lv_ishr hx hb d_PB_hasTariff_5 ?_
  refine lv_iconst (v := 1) hx hb d_PB_hasTariff_6 (by decide) ?_
  refine lv_iand hx hb d_PB_hasTariff_7 ?_
  refine lv_iconst (v := 1) hx hb d_PB_hasTariff_8 (by decide) ?_
  refine lv_icmp_ne (tgt := 16) hx hb d_PB_hasTariff_9 (by decide) (fun c_9 => ?_) (fun c_9 => ?_)
  · skip
    refine lv_iconst (v := 0) hx hb d_PB_hasTariff_16 (by decide) ?_
    exact gx_ireti hx hb hr hlocks rfl d_PB_hasTariff_17 (Or.inr ⟨rfl, c_9⟩)
  · skip
    refine lv_iconst (v := 1) hx hb d_PB_hasTariff_12 (by decide) ?_
    refine lv_goto (tgt := 17) hx hb d_PB_hasTariff_13 (by decide) ?_
    exact gx_ireti hx hb hr hlocks rfl d_PB_hasTariff_17 (Or.inl ⟨rfl, c_9⟩)

