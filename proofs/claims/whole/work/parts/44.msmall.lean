set_option maxRecDepth 100000 in
set_option maxHeartbeats 4000000 in
theorem c_MD_thrown {l : Launch} {s0 : State} {D : va_G} {cI cC cJ cII cO cZ : ClassId} (F : FX l s0 D cI cC cJ cII cO cZ) {ws : va_W} {μ : Nat → Nat} {x : Nat → Int32} {A : Nat → Nat → Int32} {B : Nat → Nat → Int64} (hM : md_I cI cJ cZ ws μ x A B) (sz : Nat)   : Met l y_MD_thrown [.code y_MD_thrown b_MD_thrown 1 (some .int)] { frames := 0, cells := 0, slots := 0, locals := 0 } (gx_P s0 D classes ws sz [.ref (μ 0)]) (gx_Ri (fun r => r = x 0)) 0 0 (fun _ => False) := by
  refine gx_met (by decide +kernel) (Nat.le_of_ble_eq_true rfl) ?_
  intro p e s m below meth c ls hx hb hr hml hown hlocks hnm hsz hV hP hD hS hA hA0 hl
  have hg := fx_g F hV ([.ref (μ 0)] : List Value).toArray
  have hK := fx_k F hV
  have hn9 := fx_n F hV
  have hl : lv_has ls 1 [(0, .ref (μ 0))] := hl
  refine lv_aload_n hx hb d_MD_thrown_0 rfl (lv_at hl 0 rfl) ?_
  refine va_get (D := D) (ci := iMD) (v := .int (x 0)) (C := R_MD) (T := F_MD) (N := 23) hx hb (fl_MD hg) (fun _ h9 => h9) hown hK hP 0 (hM.1) rfl 0 (by decide) (hg _ k_556) (fun _ h9 => h9) rfl d_MD_thrown_1 ?_
  exact gx_ireti hx hb hr hlocks rfl d_MD_thrown_4 (rfl)

set_option maxRecDepth 100000 in
set_option maxHeartbeats 4000000 in
theorem c_MD_fails {l : Launch} {s0 : State} {D : va_G} {cI cC cJ cII cO cZ : ClassId} (F : FX l s0 D cI cC cJ cII cO cZ) {ws : va_W} {μ : Nat → Nat} {x : Nat → Int32} {A : Nat → Nat → Int32} {B : Nat → Nat → Int64} (hM : md_I cI cJ cZ ws μ x A B) (sz : Nat) (p0 : Int32)  : Met l y_MD_fails [.code y_MD_fails b_MD_fails 2 (some .int)] { frames := 0, cells := 0, slots := 0, locals := 0 } (gx_P s0 D classes ws sz [.ref (μ 0), .int p0]) (va_Qi (fun r w1 => r = 0 ∧ md_I cI cJ cZ w1 μ (upd x 0 p0) A B) (gx_B D classes ws sz) (va_A ws sz)) 0 0 (va_A ws sz) := by
  refine gx_met (by decide +kernel) (Nat.le_of_ble_eq_true rfl) ?_
  intro p e s m below meth c ls hx hb hr hml hown hlocks hnm hsz hV hP hD hS hA hA0 hl
  have hg := fx_g F hV ([.ref (μ 0), .int p0] : List Value).toArray
  have hK := fx_k F hV
  have hn9 := fx_n F hV
  have hl : lv_has ls 2 [(0, .ref (μ 0)), (1, .int p0)] := hl
  refine lv_aload_n hx hb d_MD_fails_0 rfl (lv_at hl 0 rfl) ?_
  refine lv_iload_n hx hb d_MD_fails_1 rfl (lv_at hl 1 rfl) ?_
  refine va_put (D := D) (ci := iMD) (v := .int p0) (ty := .int) (C := R_MD) (T := F_MD) (N := 23) hx hb (fl_MD hg) (fun _ h9 => h9) t_MD t_MD_ok n_MD hown hK hP hD hS 0 (hM.1) rfl 0 (by decide) (hg _ k_556) (fun _ h9 => h9) rfl (by decide +kernel) rfl rfl (Nat.le_of_ble_eq_true rfl) d_MD_fails_2 (fun H locs hP hD hS => ?_)
  obtain ⟨w_1, ew_1⟩ : ∃ y : va_W, y = ws.set 0 (μ 0, .inr (iMD, md_o μ (upd x 0 p0))) := ⟨_, rfl⟩
  replace hP : va_P D classes w_1 H := by rw [ew_1]; exact hP
  replace hD : va_D (va_A ws sz) w_1 := by rw [ew_1]; exact hD
  replace hM : md_I cI cJ cZ w_1 μ (upd x 0 p0) A B := by rw [ew_1]; exact md_I.obj (x := x) (x' := upd x 0 p0) hM
  refine lv_iconst (v := 0) hx hb d_MD_fails_5 (by decide) ?_
  exact gx_iret hx hb hr hlocks rfl hS hP hD (by decide) (by decide) d_MD_fails_6 (⟨rfl, hM⟩)

set_option maxRecDepth 100000 in
set_option maxHeartbeats 4000000 in
theorem c_MD_in {l : Launch} {s0 : State} {D : va_G} {cI cC cJ cII cO cZ : ClassId} (F : FX l s0 D cI cC cJ cII cO cZ) (ws : va_W) (sz : Nat) (v a b : Int64)  : Met l y_MD_in [.code y_MD_in b_MD_in 6 (some .boolean)] { frames := 0, cells := 0, slots := 0, locals := 0 } (gx_P s0 D classes ws sz [.long v, .long a, .long b]) (gx_Ri (fun r => (r = 1 ∧ ¬ v < a ∧ ¬ b < v) ∨ (r = 0 ∧ (v < a ∨ b < v)))) 0 0 (fun _ => False) := by
  refine gx_met (by decide +kernel) (Nat.le_of_ble_eq_true rfl) ?_
  intro p e s m below meth c ls hx hb hr hml hown hlocks hnm hsz hV hP hD hS hA hA0 hl
  have hg := fx_g F hV ([.long v, .long a, .long b] : List Value).toArray
  have hK := fx_k F hV
  have hn9 := fx_n F hV
  have hl : lv_has ls 6 [(0, .long v), (2, .long a), (4, .long b)] := hl
  refine lv_lload_n hx hb d_MD_in_0 rfl (lv_at hl 0 rfl) ?_
  refine lv_lload_n hx hb d_MD_in_1 rfl (lv_at hl 1 rfl) ?_
  refine W.lcmp hx hb d_MD_in_2 ?_
  refine lv_if_lt (tgt := 17) hx hb d_MD_in_3 (by decide) (fun c_3 => ?_) (fun c_3 => ?_)
  · skip
    refine lv_iconst (v := 0) hx hb d_MD_in_17 (by decide) ?_
    exact gx_ireti hx hb hr hlocks rfl d_MD_in_18 (Or.inr ⟨rfl, Or.inl ((lg_cmp_lt _ _).mp c_3)⟩)
  · skip
    refine lv_lload_n hx hb d_MD_in_6 rfl (lv_at hl 0 rfl) ?_
    refine lv_lload hx hb d_MD_in_7 (lv_at hl 2 rfl) ?_
    refine W.lcmp hx hb d_MD_in_9 ?_
    refine lv_if_gt (tgt := 17) hx hb d_MD_in_10 (by decide) (fun c_10 => ?_) (fun c_10 => ?_)
    · skip
      refine lv_iconst (v := 0) hx hb d_MD_in_17 (by decide) ?_
      exact gx_ireti hx hb hr hlocks rfl d_MD_in_18 (Or.inr ⟨rfl, Or.inr ((lg_cmp_gt _ _).mp c_10)⟩)
    · skip
      refine lv_iconst (v := 1) hx hb d_MD_in_13 (by decide) ?_
      refine lv_goto (tgt := 18) hx hb d_MD_in_14 (by decide) ?_
      exact gx_ireti hx hb hr hlocks rfl d_MD_in_18 (Or.inl ⟨rfl, fun q => c_3 ((lg_cmp_lt _ _).mpr q), fun q => c_10 ((lg_cmp_gt _ _).mpr q)⟩)

set_option maxRecDepth 100000 in
set_option maxHeartbeats 4000000 in
theorem c_MD_isCall {l : Launch} {s0 : State} {D : va_G} {cI cC cJ cII cO cZ : ClassId} (F : FX l s0 D cI cC cJ cII cO cZ) (ws : va_W) (sz : Nat) (p0 : Int32)  : Met l y_MD_isCall [.code y_MD_isCall b_MD_isCall 1 (some .boolean)] { frames := 0, cells := 0, slots := 0, locals := 0 } (gx_P s0 D classes ws sz [.int p0]) (gx_Ri (fun r => (r = 1 ∧ ∃ k, k < 10 ∧ p0 = nI k) ∨ (r = 0 ∧ (p0 < 0 ∨ nI 10 ≤ p0)))) 0 0 (fun _ => False) := by
  refine gx_met (by decide +kernel) (Nat.le_of_ble_eq_true rfl) ?_
  intro p e s m below meth c ls hx hb hr hml hown hlocks hnm hsz hV hP hD hS hA hA0 hl
  have hg := fx_g F hV ([.int p0] : List Value).toArray
  have hK := fx_k F hV
  have hn9 := fx_n F hV
  have hl : lv_has ls 1 [(0, .int p0)] := hl
  refine lv_iload_n hx hb d_MD_isCall_0 rfl (lv_at hl 0 rfl) ?_
  refine lv_if_lt (tgt := 14) hx hb d_MD_isCall_1 (by decide) (fun c_1 => ?_) (fun c_1 => ?_)
  · skip
    refine lv_iconst (v := 0) hx hb d_MD_isCall_14 (by decide) ?_
    exact gx_ireti hx hb hr hlocks rfl d_MD_isCall_15 (Or.inr ⟨rfl, Or.inl c_1⟩)
  · skip
    refine lv_iload_n hx hb d_MD_isCall_4 rfl (lv_at hl 0 rfl) ?_
    refine lv_bipush (v := 10) hx hb d_MD_isCall_5 (by decide) ?_
    refine lv_icmp_ge (tgt := 14) hx hb d_MD_isCall_7 (by decide) (fun c_7 => ?_) (fun c_7 => ?_)
    · skip
      refine lv_iconst (v := 0) hx hb d_MD_isCall_14 (by decide) ?_
      exact gx_ireti hx hb hr hlocks rfl d_MD_isCall_15 (Or.inr ⟨rfl, Or.inr c_7⟩)
    · skip
      refine lv_iconst (v := 1) hx hb d_MD_isCall_10 (by decide) ?_
      refine lv_goto (tgt := 15) hx hb d_MD_isCall_11 (by decide) ?_
      exact gx_ireti hx hb hr hlocks rfl d_MD_isCall_15 (Or.inl ⟨rfl, gx_rng (by decide) c_1 c_7⟩)

set_option maxRecDepth 100000 in
set_option maxHeartbeats 4000000 in
theorem c_MD_isKind {l : Launch} {s0 : State} {D : va_G} {cI cC cJ cII cO cZ : ClassId} (F : FX l s0 D cI cC cJ cII cO cZ) (ws : va_W) (sz : Nat) (p0 : Int32)  : Met l y_MD_isKind [.code y_MD_isKind b_MD_isKind 1 (some .boolean)] { frames := 0, cells := 0, slots := 0, locals := 0 } (gx_P s0 D classes ws sz [.int p0]) (gx_Ri (fun r => (r = 1 ∧ ∃ k, k < 6 ∧ p0 = nI k) ∨ (r = 0 ∧ (p0 < 0 ∨ nI 6 ≤ p0)))) 0 0 (fun _ => False) := by
  refine gx_met (by decide +kernel) (Nat.le_of_ble_eq_true rfl) ?_
  intro p e s m below meth c ls hx hb hr hml hown hlocks hnm hsz hV hP hD hS hA hA0 hl
  have hg := fx_g F hV ([.int p0] : List Value).toArray
  have hK := fx_k F hV
  have hn9 := fx_n F hV
  have hl : lv_has ls 1 [(0, .int p0)] := hl
  refine lv_iload_n hx hb d_MD_isKind_0 rfl (lv_at hl 0 rfl) ?_
  refine lv_if_lt (tgt := 14) hx hb d_MD_isKind_1 (by decide) (fun c_1 => ?_) (fun c_1 => ?_)
  · skip
    refine lv_iconst (v := 0) hx hb d_MD_isKind_14 (by decide) ?_
    exact gx_ireti hx hb hr hlocks rfl d_MD_isKind_15 (Or.inr ⟨rfl, Or.inl c_1⟩)
  · skip
    refine lv_iload_n hx hb d_MD_isKind_4 rfl (lv_at hl 0 rfl) ?_
    refine lv_bipush (v := 6) hx hb d_MD_isKind_5 (by decide) ?_
    refine lv_icmp_ge (tgt := 14) hx hb d_MD_isKind_7 (by decide) (fun c_7 => ?_) (fun c_7 => ?_)
    · skip
      refine lv_iconst (v := 0) hx hb d_MD_isKind_14 (by decide) ?_
      exact gx_ireti hx hb hr hlocks rfl d_MD_isKind_15 (Or.inr ⟨rfl, Or.inr c_7⟩)
    · skip
      refine lv_iconst (v := 1) hx hb d_MD_isKind_10 (by decide) ?_
      refine lv_goto (tgt := 15) hx hb d_MD_isKind_11 (by decide) ?_
      exact gx_ireti hx hb hr hlocks rfl d_MD_isKind_15 (Or.inl ⟨rfl, gx_rng (by decide) c_1 c_7⟩)

set_option maxRecDepth 100000 in
set_option maxHeartbeats 4000000 in
theorem c_MD_unitOf {l : Launch} {s0 : State} {D : va_G} {cI cC cJ cII cO cZ : ClassId} (F : FX l s0 D cI cC cJ cII cO cZ) (ws : va_W) (sz : Nat) (j : Nat) (hj : j < 6)  : Met l y_MD_unitOf [.code y_MD_unitOf b_MD_unitOf 1 (some .int)] { frames := 0, cells := 0, slots := 0, locals := 0 } (gx_P s0 D classes ws sz [.int (nI j)]) (gx_Ri (fun r => r = fx_unit j)) 0 0 (fun _ => False) := by
  refine gx_met (by decide +kernel) (Nat.le_of_ble_eq_true rfl) ?_
  intro p e s m below meth c ls hx hb hr hml hown hlocks hnm hsz hV hP hD hS hA hA0 hl
  have hg := fx_g F hV ([.int (nI j)] : List Value).toArray
  have hK := fx_k F hV
  have hn9 := fx_n F hV
  have hl : lv_has ls 1 [(0, .int (nI j))] := hl
  refine lv_iload_n hx hb d_MD_unitOf_0 rfl (lv_at hl 0 rfl) ?_
  refine lv_iconst (v := 2) hx hb d_MD_unitOf_1 (by decide) ?_
  refine lv_icmp_ne (tgt := 10) hx hb d_MD_unitOf_2 (by decide) (fun c_2 => ?_) (fun c_2 => ?_)
  · skip
    refine lv_iload_n hx hb d_MD_unitOf_10 rfl (lv_at hl 0 rfl) ?_
    refine lv_iconst (v := 3) hx hb d_MD_unitOf_11 (by decide) ?_
    refine lv_icmp_ne (tgt := 21) hx hb d_MD_unitOf_12 (by decide) (fun c_12 => ?_) (fun c_12 => ?_)
    · skip
      refine lv_iload_n hx hb d_MD_unitOf_21 rfl (lv_at hl 0 rfl) ?_
      refine lv_iconst (v := 4) hx hb d_MD_unitOf_22 (by decide) ?_
      refine lv_icmp_ne (tgt := 32) hx hb d_MD_unitOf_23 (by decide) (fun c_23 => ?_) (fun c_23 => ?_)
      · skip
        refine lv_iconst (v := 1) hx hb d_MD_unitOf_32 (by decide) ?_
        exact gx_ireti hx hb hr hlocks rfl d_MD_unitOf_33 (by rw [show fx_unit j = 1 from md_unit1 (fun q => c_2 (by rw [q]; rfl)) (fun q => c_12 (by rw [q]; rfl)) (fun q => c_23 (by rw [q]; rfl))])
      · skip
        refine lv_sipush (v := 1000) hx hb d_MD_unitOf_26 (by decide) ?_
        refine lv_goto (tgt := 33) hx hb d_MD_unitOf_29 (by decide) ?_
        exact gx_ireti hx hb hr hlocks rfl d_MD_unitOf_33 (by rw [show j = 4 from gx_eqn (b := 4) c_23]; rfl)
    · skip
      refine lv_sipush (v := 1440) hx hb d_MD_unitOf_15 (by decide) ?_
      refine lv_goto (tgt := 33) hx hb d_MD_unitOf_18 (by decide) ?_
      exact gx_ireti hx hb hr hlocks rfl d_MD_unitOf_33 (by rw [show j = 3 from gx_eqn (b := 3) c_12]; rfl)
  · skip
    refine lv_bipush (v := 60) hx hb d_MD_unitOf_5 (by decide) ?_
    refine lv_goto (tgt := 33) hx hb d_MD_unitOf_7 (by decide) ?_
    exact gx_ireti hx hb hr hlocks rfl d_MD_unitOf_33 (by rw [show j = 2 from gx_eqn (b := 2) c_2]; rfl)

set_option maxRecDepth 100000 in
set_option maxHeartbeats 4000000 in
theorem c_MD_begins {l : Launch} {s0 : State} {D : va_G} {cI cC cJ cII cO cZ : ClassId} (F : FX l s0 D cI cC cJ cII cO cZ) (ws : va_W) (sz : Nat) (p0 : Int32)  : Met l y_MD_begins [.code y_MD_begins b_MD_begins 1 (some .int)] { frames := 0, cells := 0, slots := 0, locals := 0 } (gx_P s0 D classes ws sz [.int p0]) (gx_Ri (fun r => r = md_bg p0)) 0 0 (fun _ => False) := by
  refine gx_met (by decide +kernel) (Nat.le_of_ble_eq_true rfl) ?_
  intro p e s m below meth c ls hx hb hr hml hown hlocks hnm hsz hV hP hD hS hA hA0 hl
  have hg := fx_g F hV ([.int p0] : List Value).toArray
  have hK := fx_k F hV
  have hn9 := fx_n F hV
  have hl : lv_has ls 1 [(0, .int p0)] := hl
  refine lv_iload_n hx hb d_MD_begins_0 rfl (lv_at hl 0 rfl) ?_
  refine lv_bipush (v := 47) hx hb d_MD_begins_1 (by decide) ?_
  refine lv_icmp_ne (tgt := 10) hx hb d_MD_begins_3 (by decide) (fun c_3 => ?_) (fun c_3 => ?_)
  · skip
    refine lv_iload_n hx hb d_MD_begins_10 rfl (lv_at hl 0 rfl) ?_
    refine lv_bipush (v := 45) hx hb d_MD_begins_11 (by decide) ?_
    refine lv_icmp_ne (tgt := 20) hx hb d_MD_begins_13 (by decide) (fun c_13 => ?_) (fun c_13 => ?_)
    · skip
      refine lv_iload_n hx hb d_MD_begins_20 rfl (lv_at hl 0 rfl) ?_
      refine lv_bipush (v := 62) hx hb d_MD_begins_21 (by decide) ?_
      refine lv_icmp_ne (tgt := 30) hx hb d_MD_begins_23 (by decide) (fun c_23 => ?_) (fun c_23 => ?_)
      · skip
        refine lv_iconst (v := 0) hx hb d_MD_begins_30 (by decide) ?_
        exact gx_ireti hx hb hr hlocks rfl d_MD_begins_31 (((if_neg c_3).trans ((if_neg c_13).trans (if_neg c_23))).symm)
      · skip
        refine lv_iconst (v := 5) hx hb d_MD_begins_26 (by decide) ?_
        refine lv_goto (tgt := 31) hx hb d_MD_begins_27 (by decide) ?_
        exact gx_ireti hx hb hr hlocks rfl d_MD_begins_31 (((if_neg c_3).trans ((if_neg c_13).trans (if_pos c_23))).symm)
    · skip
      refine lv_iconst (v := 4) hx hb d_MD_begins_16 (by decide) ?_
      refine lv_goto (tgt := 31) hx hb d_MD_begins_17 (by decide) ?_
      exact gx_ireti hx hb hr hlocks rfl d_MD_begins_31 (((if_neg c_3).trans (if_pos c_13)).symm)
  · skip
    refine lv_iconst (v := 3) hx hb d_MD_begins_6 (by decide) ?_
    refine lv_goto (tgt := 31) hx hb d_MD_begins_7 (by decide) ?_
    exact gx_ireti hx hb hr hlocks rfl d_MD_begins_31 ((if_pos c_3).symm)

set_option maxRecDepth 100000 in
set_option maxHeartbeats 4000000 in
theorem c_MD_isLine {l : Launch} {s0 : State} {D : va_G} {cI cC cJ cII cO cZ : ClassId} (F : FX l s0 D cI cC cJ cII cO cZ) {ws : va_W} {μ : Nat → Nat} {x : Nat → Int32} {A : Nat → Nat → Int32} {B : Nat → Nat → Int64} (hM : md_I cI cJ cZ ws μ x A B) (sz : Nat) (nl : Nat) (hnl : nl ≤ 200) (hx5 : x 5 = nI nl) (p0 : Int32)  : Met l y_MD_isLine [.code y_MD_isLine b_MD_isLine 2 (some .boolean)] { frames := 0, cells := 0, slots := 0, locals := 0 } (gx_P s0 D classes ws sz [.ref (μ 0), .int p0]) (gx_Ri (fun r => (r = 1 ∧ ∃ j, j < nl ∧ p0 = nI j) ∨ (r = 0 ∧ (p0 < 0 ∨ nI nl ≤ p0)))) 0 0 (fun _ => False) := by
  refine gx_met (by decide +kernel) (Nat.le_of_ble_eq_true rfl) ?_
  intro p e s m below meth c ls hx hb hr hml hown hlocks hnm hsz hV hP hD hS hA hA0 hl
  have hg := fx_g F hV ([.ref (μ 0), .int p0] : List Value).toArray
  have hK := fx_k F hV
  have hn9 := fx_n F hV
  have hl : lv_has ls 2 [(0, .ref (μ 0)), (1, .int p0)] := hl
  refine lv_iload_n hx hb d_MD_isLine_0 rfl (lv_at hl 1 rfl) ?_
  refine lv_if_lt (tgt := 16) hx hb d_MD_isLine_1 (by decide) (fun c_1 => ?_) (fun c_1 => ?_)
  · skip
    refine lv_iconst (v := 0) hx hb d_MD_isLine_16 (by decide) ?_
    exact gx_ireti hx hb hr hlocks rfl d_MD_isLine_17 (Or.inr ⟨rfl, Or.inl c_1⟩)
  · skip
    refine lv_iload_n hx hb d_MD_isLine_4 rfl (lv_at hl 1 rfl) ?_
    refine lv_aload_n hx hb d_MD_isLine_5 rfl (lv_at hl 0 rfl) ?_
    refine va_get (D := D) (ci := iMD) (v := .int (x 5)) (C := R_MD) (T := F_MD) (N := 23) hx hb (fl_MD hg) (fun _ h9 => h9) hown hK hP 0 (hM.1) rfl 13 (by decide) (hg _ k_569) (fun _ h9 => h9) rfl d_MD_isLine_6 ?_
    refine lv_icmp_ge (tgt := 16) hx hb d_MD_isLine_9 (by decide) (fun c_9 => ?_) (fun c_9 => ?_)
    · skip
      rw [hx5] at c_9
      refine lv_iconst (v := 0) hx hb d_MD_isLine_16 (by decide) ?_
      exact gx_ireti hx hb hr hlocks rfl d_MD_isLine_17 (Or.inr ⟨rfl, Or.inr c_9⟩)
    · skip
      rw [hx5] at c_9
      refine lv_iconst (v := 1) hx hb d_MD_isLine_12 (by decide) ?_
      refine lv_goto (tgt := 17) hx hb d_MD_isLine_13 (by decide) ?_
      exact gx_ireti hx hb hr hlocks rfl d_MD_isLine_17 (Or.inl ⟨rfl, gx_rng (by omega) c_1 c_9⟩)

