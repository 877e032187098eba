set_option maxRecDepth 100000 in
set_option maxHeartbeats 4000000 in
theorem c_PB_begunUnits {l : Launch} {s0 : State} {D : va_G} {cI cC cJ cII cO cZ : ClassId} (F : FX l s0 D cI cC cJ cII cO cZ) (ws : va_W) (sz : Nat) (x y : Int32)  : Met l y_PB_begunUnits [.code y_PB_begunUnits b_PB_begunUnits 2 (some .int)] { frames := 1, cells := 0, slots := 0, locals := 40 } (gx_P s0 D classes ws sz [.int x, .int y]) (gx_Ri (fun r => r = cb_bu x y)) 0 0 (fun _ => False) := by
  refine gx_met (by decide +kernel) (Nat.le_of_ble_eq_true rfl) ?_
  intro p e s m below meth c ls hx hb hr hml hown hlocks hnm hsz hV hP hD hS hA hA0 hl
  have hg := fx_g F hV ([.int x, .int y] : List Value).toArray
  have hK := fx_k F hV
  have hn9 := fx_n F hV
  have hl : lv_has ls 2 [(0, .int x), (1, .int y)] := hl
  refine lv_iload_n hx hb d_PB_begunUnits_0 rfl (lv_at hl 0 rfl) ?_
  refine lv_iconst (v := 1) hx hb d_PB_begunUnits_1 (by decide) ?_
  refine lv_isub hx hb d_PB_begunUnits_2 ?_
  refine lv_i2l (v := (x - 1).toInt64) hx hb d_PB_begunUnits_3 (rfl) ?_
  refine lv_iload_n hx hb d_PB_begunUnits_4 rfl (lv_at hl 1 rfl) ?_
  refine lv_i2l (v := y.toInt64) hx hb d_PB_begunUnits_5 (rfl) ?_
  refine gx_readl (va_runS (As := [.long ((x - 1).toInt64), .long y.toInt64]) (rest := []) ⟨hx, hb, hml, hown, gx_nil⟩ (c_PB_quotient F _ _ ((x - 1).toInt64) y.toInt64) ⟨gx_cb (hg _ k_321) (hg _ k_1) (hg _ k_319) nd_PB_quotient ⟨by decide, by decide⟩, hg _ k_320⟩ (gx_preS hV hP hD hS hA0) rfl rfl hl.1 rfl (lv_room (Nat.le_of_ble_eq_true rfl)) d_PB_begunUnits_6 ⟨by decide, by decide⟩) (fun r_6 h_6 => ?_)
  subst h_6
  refine lv_l2i (v := (cb_quo ((x - 1).toInt64) y.toInt64).toInt32) hx hb d_PB_begunUnits_9 (rfl) ?_
  refine lv_iconst (v := 1) hx hb d_PB_begunUnits_10 (by decide) ?_
  refine lv_iadd hx hb d_PB_begunUnits_11 ?_
  exact gx_ireti hx hb hr hlocks rfl d_PB_begunUnits_12 (rfl)

set_option maxRecDepth 100000 in
set_option maxHeartbeats 4000000 in
theorem c_PB_roundedHalfUp {l : Launch} {s0 : State} {D : va_G} {cI cC cJ cII cO cZ : ClassId} (F : FX l s0 D cI cC cJ cII cO cZ) (ws : va_W) (sz : Nat) (x y : Int64)  : Met l y_PB_roundedHalfUp [.code y_PB_roundedHalfUp b_PB_roundedHalfUp 8 (some .long)] { frames := 1, cells := 0, slots := 0, locals := 40 } (gx_P s0 D classes ws sz [.long x, .long y]) (gx_Rl (fun r => r = cb_rhu x y)) 0 0 (fun _ => False) := by
  refine gx_met (by decide +kernel) (Nat.le_of_ble_eq_true rfl) ?_
  intro p e s m below meth c ls hx hb hr hml hown hlocks hnm hsz hV hP hD hS hA hA0 hl
  have hg := fx_g F hV ([.long x, .long y] : List Value).toArray
  have hK := fx_k F hV
  have hn9 := fx_n F hV
  have hl : lv_has ls 8 [(0, .long x), (2, .long y)] := hl
  refine lv_lload_n hx hb d_PB_roundedHalfUp_0 rfl (lv_at hl 0 rfl) ?_
  refine lv_lload_n hx hb d_PB_roundedHalfUp_1 rfl (lv_at hl 1 rfl) ?_
  refine gx_readl (va_runS (As := [.long x, .long y]) (rest := []) ⟨hx, hb, hml, hown, gx_nil⟩ (c_PB_quotient F _ _ x y) ⟨gx_cb (hg _ k_321) (hg _ k_1) (hg _ k_319) nd_PB_quotient ⟨by decide, by decide⟩, hg _ k_320⟩ (gx_preS hV hP hD hS hA0) rfl rfl hl.1 rfl (lv_room (Nat.le_of_ble_eq_true rfl)) d_PB_roundedHalfUp_2 ⟨by decide, by decide⟩) (fun r_2 h_2 => ?_)
  subst h_2
  refine lv_lstore (lv' := [(4, .long (cb_quo x y)), (0, .long x), (2, .long y)]) hx hb d_PB_roundedHalfUp_5 hl (by decide) rfl (fun ls hl => ?_)
  refine lv_lload_n hx hb d_PB_roundedHalfUp_7 rfl (lv_at hl 1 rfl) ?_
  refine lv_lload hx hb d_PB_roundedHalfUp_8 (lv_at hl 0 rfl) ?_
  refine lv_lload_n hx hb d_PB_roundedHalfUp_10 rfl (lv_at hl 2 rfl) ?_
  refine lv_lmul hx hb d_PB_roundedHalfUp_11 ?_
  refine lv_lsub hx hb d_PB_roundedHalfUp_12 ?_
  refine lv_lstore (lv' := [(6, .long (x - ((cb_quo x y) * y))), (4, .long (cb_quo x y)), (0, .long x), (2, .long y)]) hx hb d_PB_roundedHalfUp_13 hl (by decide) rfl (fun ls hl => ?_)
  refine lv_ldc2 (v := 2) hx hb hown (hg _ k_350) d_PB_roundedHalfUp_15 ?_
  refine lv_lload hx hb d_PB_roundedHalfUp_18 (lv_at hl 0 rfl) ?_
  refine lv_lmul hx hb d_PB_roundedHalfUp_20 ?_
  refine lv_lload_n hx hb d_PB_roundedHalfUp_21 rfl (lv_at hl 3 rfl) ?_
  refine W.lcmp hx hb d_PB_roundedHalfUp_22 ?_
  refine lv_if_lt (tgt := 33) hx hb d_PB_roundedHalfUp_23 (by decide) (fun c_23 => ?_) (fun c_23 => ?_)
  · skip
    refine lv_lload hx hb d_PB_roundedHalfUp_33 (lv_at hl 1 rfl) ?_
    exact gx_iretl hx hb hr hlocks d_PB_roundedHalfUp_35 (cb_rhu_lt c_23)
  · skip
    refine lv_lload hx hb d_PB_roundedHalfUp_26 (lv_at hl 1 rfl) ?_
    refine lv_lconst (v := 1) hx hb d_PB_roundedHalfUp_28 (by decide) ?_
    refine lv_ladd hx hb d_PB_roundedHalfUp_29 ?_
    refine lv_goto (tgt := 35) hx hb d_PB_roundedHalfUp_30 (by decide) ?_
    exact gx_iretl hx hb hr hlocks d_PB_roundedHalfUp_35 (cb_rhu_ge c_23)

set_option maxRecDepth 100000 in
set_option maxHeartbeats 4000000 in
theorem c_PB_centsFor {l : Launch} {s0 : State} {D : va_G} {cI cC cJ cII cO cZ : ClassId} (F : FX l s0 D cI cC cJ cII cO cZ) {ws : va_W} {κ : Nat → Nat} {ra : Nat → Nat → Nat} {z sg : Nat → Int32} {G : Nat → Nat → Nat → Int32} {we : Nat → Int32} {pd : Nat → Int64} (hI : cb_I cI cC cJ cII ws κ ra z sg G we pd) (sz : Nat) (k j : Nat) (hk : k < 10) (hj : j < 6) (p2 : Int32)  : Met l y_PB_centsFor [.code y_PB_centsFor b_PB_centsFor 8 (some .long)] { frames := 2, cells := 0, slots := 0, locals := 80 } (gx_P s0 D classes ws sz [.ref (κ 0), .int (nI k), .int (nI j), .int p2]) (gx_Rl (fun r => r = cb_cents (G 1 j) (G 4 k j) (G 5 k j) p2)) 0 0 (fun _ => False) := by
  refine gx_met (by decide +kernel) (Nat.le_of_ble_eq_true rfl) ?_
  intro p e s m below meth c ls hx hb hr hml hown hlocks hnm hsz hV hP hD hS hA hA0 hl
  have hg := fx_g F hV ([.ref (κ 0), .int (nI k), .int (nI j), .int p2] : List Value).toArray
  have hK := fx_k F hV
  have hn9 := fx_n F hV
  have hl : lv_has ls 8 [(0, .ref (κ 0)), (1, .int (nI k)), (2, .int (nI j)), (3, .int p2)] := hl
  refine lv_iload_n hx hb d_PB_centsFor_0 rfl (lv_at hl 3 rfl) ?_
  refine lv_if_ne (tgt := 6) hx hb d_PB_centsFor_1 (by decide) (fun c_1 => ?_) (fun c_1 => ?_)
  · skip
    refine lv_aload_n hx hb d_PB_centsFor_6 rfl (lv_at hl 0 rfl) ?_
    refine va_get (D := D) (ci := iPB) (v := .ref (κ 10)) (C := R_PB) (T := F_PB) (N := 11) hx hb (fl_PB hg) (fun _ h9 => h9) hown hK hP 0 (hI.1) rfl 1 (by decide) (hg _ k_89) (fun _ h9 => h9) rfl d_PB_centsFor_7 ?_
    refine lv_iload_n hx hb d_PB_centsFor_10 rfl (lv_at hl 2 rfl) ?_
    refine gx_al hx hb hK hP 10 3 (hI.2.2.2.2.2.1 1 (by decide)) rfl rfl j (v := ra 1 j) (rfl) (hj) (by decide) (if_pos (hj)) d_PB_centsFor_11 ?_
    refine lv_iconst (v := 0) hx hb d_PB_centsFor_12 (by decide) ?_
    refine gx_il hx hb hK hP (cb_gp 1 + 1 + j) 0 (hI.2.2.2.2.2.2 1 (by decide) j (hj)) rfl 0 (by decide) (by decide) (by decide) d_PB_centsFor_13 ?_
    refine lv_i2l (v := ((G 1 j) 0).toInt64) hx hb d_PB_centsFor_14 (rfl) ?_
    refine lv_iload_n hx hb d_PB_centsFor_15 rfl (lv_at hl 3 rfl) ?_
    refine lv_i2l (v := p2.toInt64) hx hb d_PB_centsFor_16 (rfl) ?_
    refine lv_lmul hx hb d_PB_centsFor_17 ?_
    refine lv_aload_n hx hb d_PB_centsFor_18 rfl (lv_at hl 0 rfl) ?_
    refine va_get (D := D) (ci := iPB) (v := .ref (κ 40)) (C := R_PB) (T := F_PB) (N := 11) hx hb (fl_PB hg) (fun _ h9 => h9) hown hK hP 0 (hI.1) rfl 7 (by decide) (hg _ k_95) (fun _ h9 => h9) rfl d_PB_centsFor_19 ?_
    refine lv_iload_n hx hb d_PB_centsFor_22 rfl (lv_at hl 1 rfl) ?_
    refine gx_al hx hb hK hP 40 3 (hI.2.2.2.2.2.1 4 (by decide)) rfl rfl k (v := ra 4 k) (rfl) (hk) (by decide) (if_pos (hk)) d_PB_centsFor_23 ?_
    refine lv_iload_n hx hb d_PB_centsFor_24 rfl (lv_at hl 2 rfl) ?_
    refine gx_il hx hb hK hP (cb_gp 4 + 1 + k) 0 (hI.2.2.2.2.2.2 4 (by decide) k (hk)) rfl j (rfl) (hj) (by decide) d_PB_centsFor_25 ?_
    refine lv_i2l (v := ((G 4 k) j).toInt64) hx hb d_PB_centsFor_26 (rfl) ?_
    refine lv_lmul hx hb d_PB_centsFor_27 ?_
    refine lv_lstore (lv' := [(4, .long (((((G 1 j) 0).toInt64) * p2.toInt64) * (((G 4 k) j).toInt64))), (0, .ref (κ 0)), (1, .int (nI k)), (2, .int (nI j)), (3, .int p2)]) hx hb d_PB_centsFor_28 hl (by decide) rfl (fun ls hl => ?_)
    refine lv_aload_n hx hb d_PB_centsFor_30 rfl (lv_at hl 1 rfl) ?_
    refine va_get (D := D) (ci := iPB) (v := .ref (κ 10)) (C := R_PB) (T := F_PB) (N := 11) hx hb (fl_PB hg) (fun _ h9 => h9) hown hK hP 0 (hI.1) rfl 1 (by decide) (hg _ k_89) (fun _ h9 => h9) rfl d_PB_centsFor_31 ?_
    refine lv_iload_n hx hb d_PB_centsFor_34 rfl (lv_at hl 3 rfl) ?_
    refine gx_al hx hb hK hP 10 3 (hI.2.2.2.2.2.1 1 (by decide)) rfl rfl j (v := ra 1 j) (rfl) (hj) (by decide) (if_pos (hj)) d_PB_centsFor_35 ?_
    refine lv_iconst (v := 1) hx hb d_PB_centsFor_36 (by decide) ?_
    refine gx_il hx hb hK hP (cb_gp 1 + 1 + j) 0 (hI.2.2.2.2.2.2 1 (by decide) j (hj)) rfl 1 (by decide) (by decide) (by decide) d_PB_centsFor_37 ?_
    refine lv_i2l (v := ((G 1 j) 1).toInt64) hx hb d_PB_centsFor_38 (rfl) ?_
    refine lv_aload_n hx hb d_PB_centsFor_39 rfl (lv_at hl 1 rfl) ?_
    refine va_get (D := D) (ci := iPB) (v := .ref (κ 51)) (C := R_PB) (T := F_PB) (N := 11) hx hb (fl_PB hg) (fun _ h9 => h9) hown hK hP 0 (hI.1) rfl 8 (by decide) (hg _ k_96) (fun _ h9 => h9) rfl d_PB_centsFor_40 ?_
    refine lv_iload_n hx hb d_PB_centsFor_43 rfl (lv_at hl 2 rfl) ?_
    refine gx_al hx hb hK hP 51 3 (hI.2.2.2.2.2.1 5 (by decide)) rfl rfl k (v := ra 5 k) (rfl) (hk) (by decide) (if_pos (hk)) d_PB_centsFor_44 ?_
    refine lv_iload_n hx hb d_PB_centsFor_45 rfl (lv_at hl 3 rfl) ?_
    refine gx_il hx hb hK hP (cb_gp 5 + 1 + k) 0 (hI.2.2.2.2.2.2 5 (by decide) k (hk)) rfl j (rfl) (hj) (by decide) d_PB_centsFor_46 ?_
    refine lv_i2l (v := ((G 5 k) j).toInt64) hx hb d_PB_centsFor_47 (rfl) ?_
    refine lv_lmul hx hb d_PB_centsFor_48 ?_
    refine lv_lstore (lv' := [(6, .long ((((G 1 j) 1).toInt64) * (((G 5 k) j).toInt64))), (4, .long (((((G 1 j) 0).toInt64) * p2.toInt64) * (((G 4 k) j).toInt64))), (0, .ref (κ 0)), (1, .int (nI k)), (2, .int (nI j)), (3, .int p2)]) hx hb d_PB_centsFor_49 hl (by decide) rfl (fun ls hl => ?_)
    refine lv_lload hx hb d_PB_centsFor_51 (lv_at hl 1 rfl) ?_
    refine lv_lload hx hb d_PB_centsFor_53 (lv_at hl 0 rfl) ?_
    refine gx_readl (va_runS (As := [.long (((((G 1 j) 0).toInt64) * p2.toInt64) * (((G 4 k) j).toInt64)), .long ((((G 1 j) 1).toInt64) * (((G 5 k) j).toInt64))]) (rest := []) ⟨hx, hb, hml, hown, gx_nil⟩ (c_PB_roundedHalfUp F _ _ _ _) ⟨gx_cb (hg _ k_349) (hg _ k_1) (hg _ k_347) nd_PB_roundedHalfUp ⟨by decide, by decide⟩, hg _ k_348⟩ (gx_preS hV hP hD hS hA0) rfl rfl hl.1 rfl (lv_room (Nat.le_of_ble_eq_true rfl)) d_PB_centsFor_55 ⟨by decide, by decide⟩) (fun r_55 h_55 => ?_)
    refine lv_aload_n hx hb d_PB_centsFor_58 rfl (lv_at hl 2 rfl) ?_
    refine va_get (D := D) (ci := iPB) (v := .ref (κ 10)) (C := R_PB) (T := F_PB) (N := 11) hx hb (fl_PB hg) (fun _ h9 => h9) hown hK hP 0 (hI.1) rfl 1 (by decide) (hg _ k_89) (fun _ h9 => h9) rfl d_PB_centsFor_59 ?_
    refine lv_iload_n hx hb d_PB_centsFor_62 rfl (lv_at hl 4 rfl) ?_
    refine gx_al hx hb hK hP 10 3 (hI.2.2.2.2.2.1 1 (by decide)) rfl rfl j (v := ra 1 j) (rfl) (hj) (by decide) (if_pos (hj)) d_PB_centsFor_63 ?_
    refine lv_iconst (v := 3) hx hb d_PB_centsFor_64 (by decide) ?_
    refine gx_il hx hb hK hP (cb_gp 1 + 1 + j) 0 (hI.2.2.2.2.2.2 1 (by decide) j (hj)) rfl 3 (by decide) (by decide) (by decide) d_PB_centsFor_65 ?_
    refine lv_i2l (v := ((G 1 j) 3).toInt64) hx hb d_PB_centsFor_66 (rfl) ?_
    refine va_mmax_long hx hb (by rw [hml]; exact hl.1.symm) hown (hg _ k_351) (hg _ k_352) (hg _ k_14) (hg _ k_353) (by decide) (by decide) (by decide) (by decide) d_PB_centsFor_67 ?_
    exact gx_iretl hx hb hr hlocks d_PB_centsFor_70 (cb_cents_1 c_1 h_55)
  · skip
    refine lv_lconst (v := 0) hx hb d_PB_centsFor_4 (by decide) ?_
    exact gx_iretl hx hb hr hlocks d_PB_centsFor_5 (cb_cents_0 c_1)

