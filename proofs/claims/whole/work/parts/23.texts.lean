set_option maxRecDepth 100000 in
set_option maxHeartbeats 4000000 in
theorem c_TT_next {l : Launch} {s0 : State} {D : va_G} {cI cC cJ cII cO cZ : ClassId} (F : FX l s0 D cI cC cJ cII cO cZ) {ws : va_W} {κ : Nat → Nat} {ra : Nat → Nat → Nat} {z sg : Nat → Int32} {G : Nat → Nat → Nat → Int32} {we : Nat → Int32} {pd : Nat → Int64} (hI : cb_I cI cC cJ cII ws κ ra z sg G we pd) (sz : Nat) (n a : Nat) (hn : n ≤ 120) (ha : a ≤ 400) (h0 : z 0 = nI n) (h1 : z 1 = nI a) (hc : ∀ j, narrow .char (.int (sg j)) = .int (sg j))  : Met l y_TT_next [.code y_TT_next b_TT_next 1 (some .char)] { frames := 0, cells := 0, slots := 0, locals := 0 } (gx_P s0 D classes ws sz [.ref (κ 1)]) (gx_Ri (fun r => r = cb_nx sg n a)) 0 0 (fun _ => False) := by
  refine gx_met (by decide +kernel) (Nat.le_of_ble_eq_true rfl) ?_
  intro p e s m below meth c ls hx hb hr hml hown hlocks hnm hsz hV hP hD hS hA hA0 hl
  have hg := fx_g F hV ([.ref (κ 1)] : List Value).toArray
  have hK := fx_k F hV
  have hn9 := fx_n F hV
  have hl : lv_has ls 1 [(0, .ref (κ 1))] := hl
  refine lv_aload_n hx hb d_TT_next_0 rfl (lv_at hl 0 rfl) ?_
  refine va_get (D := D) (ci := iTT) (v := .int (z 1)) (C := R_TT) (T := F_TT) (N := 5) hx hb (fl_TT hg) (fun _ h9 => h9) hown hK hP 1 (hI.2.1) rfl 2 (by decide) (hg _ k_40) (fun _ h9 => h9) rfl d_TT_next_1 ?_
  refine lv_aload_n hx hb d_TT_next_4 rfl (lv_at hl 0 rfl) ?_
  refine va_get (D := D) (ci := iTT) (v := .int (z 0)) (C := R_TT) (T := F_TT) (N := 5) hx hb (fl_TT hg) (fun _ h9 => h9) hown hK hP 1 (hI.2.1) rfl 1 (by decide) (hg _ k_38) (fun _ h9 => h9) rfl d_TT_next_5 ?_
  refine lv_icmp_ge (tgt := 23) hx hb d_TT_next_8 (by decide) (fun c_8 => ?_) (fun c_8 => ?_)
  · skip
    rw [h0, h1] at c_8
    have hge := gx_ngt c_8
    refine lv_iconst (v := 0) hx hb d_TT_next_23 (by decide) ?_
    exact gx_ireti hx hb hr hlocks rfl d_TT_next_24 ((if_neg (by omega)).symm)
  · skip
    rw [h0, h1] at c_8
    have hlt : a < n := gx_nlt c_8
    refine lv_aload_n hx hb d_TT_next_11 rfl (lv_at hl 0 rfl) ?_
    refine va_get (D := D) (ci := iTT) (v := .ref (κ 2)) (C := R_TT) (T := F_TT) (N := 5) hx hb (fl_TT hg) (fun _ h9 => h9) hown hK hP 1 (hI.2.1) rfl 0 (by decide) (hg _ k_37) (fun _ h9 => h9) rfl d_TT_next_12 ?_
    refine lv_aload_n hx hb d_TT_next_15 rfl (lv_at hl 0 rfl) ?_
    refine va_get (D := D) (ci := iTT) (v := .int (z 1)) (C := R_TT) (T := F_TT) (N := 5) hx hb (fl_TT hg) (fun _ h9 => h9) hown hK hP 1 (hI.2.1) rfl 2 (by decide) (hg _ k_40) (fun _ h9 => h9) rfl d_TT_next_16 ?_
    refine gx_cl hx hb hK hP 2 1 (hI.2.2.1) rfl a (h1) (by omega) (by decide) d_TT_next_19 ?_
    refine lv_goto (tgt := 24) hx hb d_TT_next_20 (by decide) ?_
    exact gx_ireti hx hb hr hlocks (hc a) d_TT_next_24 ((if_pos hlt).symm)

set_option maxRecDepth 100000 in
set_option maxHeartbeats 4000000 in
theorem c_TT_passes {l : Launch} {s0 : State} {D : va_G} {cI cC cJ cII cO cZ : ClassId} (F : FX l s0 D cI cC cJ cII cO cZ) {ws : va_W} {κ : Nat → Nat} {ra : Nat → Nat → Nat} {z sg : Nat → Int32} {G : Nat → Nat → Nat → Int32} {we : Nat → Int32} {pd : Nat → Int64} (hI : cb_I cI cC cJ cII ws κ ra z sg G we pd) (sz : Nat) (n a : Nat) (hn : n ≤ 120) (ha : a ≤ 400) (h0 : z 0 = nI n) (h1 : z 1 = nI a) (hc : ∀ j, narrow .char (.int (sg j)) = .int (sg j)) (p0 : Int32)  : Met l y_TT_passes [.code y_TT_passes b_TT_passes 2 (some .boolean)] { frames := 1, cells := 0, slots := 0, locals := 40 } (gx_P s0 D classes ws sz [.ref (κ 1), .int p0]) (va_Qi (fun r w1 => (r = 0 ∧ ¬ cb_nx sg n a = p0 ∧ w1 = ws) ∨ (r = 1 ∧ cb_nx sg n a = p0 ∧ cb_I cI cC cJ cII w1 κ ra (upd z 1 (nI (a + 1))) sg G we pd ∧ cb_hi ws w1)) (gx_B D classes ws sz) (va_A ws sz)) 0 0 (va_A ws sz) := by
  refine gx_met (by decide +kernel) (Nat.le_of_ble_eq_true rfl) ?_
  intro p e s m below meth c ls hx hb hr hml hown hlocks hnm hsz hV hP hD hS hA hA0 hl
  have hg := fx_g F hV ([.ref (κ 1), .int p0] : List Value).toArray
  have hK := fx_k F hV
  have hn9 := fx_n F hV
  have hl : lv_has ls 2 [(0, .ref (κ 1)), (1, .int p0)] := hl
  have hH : cb_hi ws ws := fun _ _ => rfl
  refine lv_aload_n hx hb d_TT_passes_0 rfl (lv_at hl 0 rfl) ?_
  refine gx_readi (va_runV (As := []) (rest := []) ⟨hx, hb, hml, hown, gx_nil⟩ (c_TT_next F hI _ n a hn ha h0 h1 hc) ⟨gx_cb (hg _ k_146) (hg _ k_2) (hg _ k_143) nd_TT_next ⟨by decide, by decide⟩, hg _ k_145, hg _ ks_3⟩ (gx_preV hV hP hD hS hA0 (va_recv hK hP rfl (hI.2.1))) rfl rfl hl.1 rfl (lv_room (Nat.le_of_ble_eq_true rfl)) d_TT_passes_1 ⟨by decide, by decide⟩) (fun r_1 h_1 => ?_)
  refine lv_iload_n hx hb d_TT_passes_4 rfl (lv_at hl 1 rfl) ?_
  refine lv_icmp_eq (tgt := 10) hx hb d_TT_passes_5 (by decide) (fun c_5 => ?_) (fun c_5 => ?_)
  · skip
    refine lv_aload_n hx hb d_TT_passes_10 rfl (lv_at hl 0 rfl) ?_
    refine lv_dup hx hb d_TT_passes_11 rfl ?_
    refine va_get (D := D) (ci := iTT) (v := .int (z 1)) (C := R_TT) (T := F_TT) (N := 5) hx hb (fl_TT hg) (fun _ h9 => h9) hown hK hP 1 (hI.2.1) rfl 2 (by decide) (hg _ k_40) (fun _ h9 => h9) rfl d_TT_passes_12 ?_
    refine lv_iconst (v := 1) hx hb d_TT_passes_15 (by decide) ?_
    refine lv_iadd hx hb d_TT_passes_16 ?_
    refine va_put (D := D) (ci := iTT) (v := .int ((z 1) + 1)) (ty := .int) (C := R_TT) (T := F_TT) (N := 5) hx hb (fl_TT hg) (fun _ h9 => h9) t_TT t_TT_ok n_TT hown hK hP hD hS 1 (hI.2.1) rfl 2 (by decide) (hg _ k_40) (fun _ h9 => h9) rfl (by decide +kernel) rfl rfl (Nat.le_of_ble_eq_true rfl) d_TT_passes_17 (fun H locs hP hD hS => ?_)
    obtain ⟨w_1, ew_1⟩ : ∃ x : va_W, x = ws.set 1 (κ 1, .inr (iTT, [.ref (κ 2), .int (z 0), .int ((z 1) + 1), .ref (κ 3), .int (z 2)])) := ⟨_, rfl⟩
    replace hP : va_P D classes w_1 H := by rw [ew_1]; exact hP
    replace hD : va_D (va_A ws sz) w_1 := by rw [ew_1]; exact hD
    replace hI : cb_I cI cC cJ cII w_1 κ ra (upd z 1 ((z 1) + 1)) sg G we pd := by rw [ew_1]; exact cb_I.text (z := z) (z' := upd z 1 ((z 1) + 1)) rfl rfl hI
    replace hH : cb_hi ws w_1 := by rw [ew_1]; exact cb_hi.set (by decide) hH
    refine lv_iconst (v := 1) hx hb d_TT_passes_20 (by decide) ?_
    exact gx_iret hx hb hr hlocks rfl hS hP hD (by decide) (by decide) d_TT_passes_21 (Or.inr ⟨rfl, h_1 ▸ c_5, by have h9 := hI; rw [h1, nI_1] at h9; exact h9, hH⟩)
  · skip
    refine lv_iconst (v := 0) hx hb d_TT_passes_8 (by decide) ?_
    exact gx_iret hx hb hr hlocks rfl hS hP hD (by decide) (by decide) d_TT_passes_9 (Or.inl ⟨rfl, h_1 ▸ c_5, rfl⟩)

set_option maxRecDepth 100000 in
set_option maxHeartbeats 4000000 in
theorem c_TT_clear {l : Launch} {s0 : State} {D : va_G} {cI cC cJ cII cO cZ : ClassId} (F : FX l s0 D cI cC cJ cII cO cZ) {ws : va_W} {κ : Nat → Nat} {ra : Nat → Nat → Nat} {z sg : Nat → Int32} {G : Nat → Nat → Nat → Int32} {we : Nat → Int32} {pd : Nat → Int64} (hI : cb_I cI cC cJ cII ws κ ra z sg G we pd) (sz : Nat)   : Met l y_TT_clear [.code y_TT_clear b_TT_clear 1 none] { frames := 0, cells := 0, slots := 0, locals := 0 } (gx_P s0 D classes ws sz [.ref (κ 1)]) (va_Qv (fun w1 => cb_I cI cC cJ cII w1 κ ra (upd z 0 0) sg G we pd ∧ cb_hi ws w1) (gx_B D classes ws sz) (va_A ws sz)) 0 0 (va_A ws sz) := by
  refine gx_met (by decide +kernel) (Nat.le_of_ble_eq_true rfl) ?_
  intro p e s m below meth c ls hx hb hr hml hown hlocks hnm hsz hV hP hD hS hA hA0 hl
  have hg := fx_g F hV ([.ref (κ 1)] : List Value).toArray
  have hK := fx_k F hV
  have hn9 := fx_n F hV
  have hl : lv_has ls 1 [(0, .ref (κ 1))] := hl
  have hH : cb_hi ws ws := fun _ _ => rfl
  refine lv_aload_n hx hb d_TT_clear_0 rfl (lv_at hl 0 rfl) ?_
  refine lv_iconst (v := 0) hx hb d_TT_clear_1 (by decide) ?_
  refine va_put (D := D) (ci := iTT) (v := .int 0) (ty := .int) (C := R_TT) (T := F_TT) (N := 5) hx hb (fl_TT hg) (fun _ h9 => h9) t_TT t_TT_ok n_TT hown hK hP hD hS 1 (hI.2.1) rfl 1 (by decide) (hg _ k_38) (fun _ h9 => h9) rfl (by decide +kernel) rfl rfl (Nat.le_of_ble_eq_true rfl) d_TT_clear_2 (fun H locs hP hD hS => ?_)
  obtain ⟨w_1, ew_1⟩ : ∃ x : va_W, x = ws.set 1 (κ 1, .inr (iTT, [.ref (κ 2), .int 0, .int (z 1), .ref (κ 3), .int (z 2)])) := ⟨_, rfl⟩
  replace hP : va_P D classes w_1 H := by rw [ew_1]; exact hP
  replace hD : va_D (va_A ws sz) w_1 := by rw [ew_1]; exact hD
  replace hI : cb_I cI cC cJ cII w_1 κ ra (upd z 0 0) sg G we pd := by rw [ew_1]; exact cb_I.text (z := z) (z' := upd z 0 0) rfl rfl hI
  replace hH : cb_hi ws w_1 := by rw [ew_1]; exact cb_hi.set (by decide) hH
  exact gx_vret hx hb hr hlocks hS hP hD (by decide) (by decide) d_TT_clear_5 (⟨hI, hH⟩)

set_option maxRecDepth 100000 in
set_option maxHeartbeats 4000000 in
theorem c_TT_takes {l : Launch} {s0 : State} {D : va_G} {cI cC cJ cII cO cZ : ClassId} (F : FX l s0 D cI cC cJ cII cO cZ) {ws : va_W} {κ : Nat → Nat} {ra : Nat → Nat → Nat} {z sg : Nat → Int32} {G : Nat → Nat → Nat → Int32} {we : Nat → Int32} {pd : Nat → Int64} (hI : cb_I cI cC cJ cII ws κ ra z sg G we pd) (sz : Nat) (n : Nat) (hn : n ≤ 120) (h0 : z 0 = nI n) (p0 : Int32)  : Met l y_TT_takes [.code y_TT_takes b_TT_takes 2 (some .boolean)] { frames := 0, cells := 0, slots := 0, locals := 0 } (gx_P s0 D classes ws sz [.ref (κ 1), .int p0]) (va_Qi (fun r w1 => (r = 0 ∧ (p0 < 33 ∨ 126 < p0 ∨ n = 120) ∧ w1 = ws) ∨ (r = 1 ∧ ¬ p0 < 33 ∧ ¬ 126 < p0 ∧ n < 120 ∧ cb_I cI cC cJ cII w1 κ ra (upd z 0 (z 0 + 1)) (upd sg n p0) G we pd ∧ cb_hi ws w1)) (gx_B D classes ws sz) (va_A ws sz)) 0 0 (va_A ws sz) := by
  refine gx_met (by decide +kernel) (Nat.le_of_ble_eq_true rfl) ?_
  intro p e s m below meth c ls hx hb hr hml hown hlocks hnm hsz hV hP hD hS hA hA0 hl
  have hg := fx_g F hV ([.ref (κ 1), .int p0] : List Value).toArray
  have hK := fx_k F hV
  have hn9 := fx_n F hV
  have hl : lv_has ls 2 [(0, .ref (κ 1)), (1, .int p0)] := hl
  have hH : cb_hi ws ws := fun _ _ => rfl
  refine lv_iload_n hx hb d_TT_takes_0 rfl (lv_at hl 1 rfl) ?_
  refine lv_bipush (v := 33) hx hb d_TT_takes_1 (by decide) ?_
  refine lv_icmp_lt (tgt := 21) hx hb d_TT_takes_3 (by decide) (fun c_3 => ?_) (fun c_3 => ?_)
  · skip
    refine lv_iconst (v := 0) hx hb d_TT_takes_21 (by decide) ?_
    exact gx_iret hx hb hr hlocks rfl hS hP hD (by decide) (by decide) d_TT_takes_22 (Or.inl ⟨rfl, Or.inl c_3, rfl⟩)
  · skip
    refine lv_iload_n hx hb d_TT_takes_6 rfl (lv_at hl 1 rfl) ?_
    refine lv_bipush (v := 126) hx hb d_TT_takes_7 (by decide) ?_
    refine lv_icmp_gt (tgt := 21) hx hb d_TT_takes_9 (by decide) (fun c_9 => ?_) (fun c_9 => ?_)
    · skip
      refine lv_iconst (v := 0) hx hb d_TT_takes_21 (by decide) ?_
      exact gx_iret hx hb hr hlocks rfl hS hP hD (by decide) (by decide) d_TT_takes_22 (Or.inl ⟨rfl, Or.inr (Or.inl c_9), rfl⟩)
    · skip
      refine lv_aload_n hx hb d_TT_takes_12 rfl (lv_at hl 0 rfl) ?_
      refine va_get (D := D) (ci := iTT) (v := .int (z 0)) (C := R_TT) (T := F_TT) (N := 5) hx hb (fl_TT hg) (fun _ h9 => h9) hown hK hP 1 (hI.2.1) rfl 1 (by decide) (hg _ k_38) (fun _ h9 => h9) rfl d_TT_takes_13 ?_
      refine lv_bipush (v := 120) hx hb d_TT_takes_16 (by decide) ?_
      refine lv_icmp_lt (tgt := 23) hx hb d_TT_takes_18 (by decide) (fun c_18 => ?_) (fun c_18 => ?_)
      · skip
        rw [h0] at c_18
        have hlt : n < 120 := gx_ltn (b := 120) c_18
        refine lv_aload_n hx hb d_TT_takes_23 rfl (lv_at hl 0 rfl) ?_
        refine va_get (D := D) (ci := iTT) (v := .ref (κ 2)) (C := R_TT) (T := F_TT) (N := 5) hx hb (fl_TT hg) (fun _ h9 => h9) hown hK hP 1 (hI.2.1) rfl 0 (by decide) (hg _ k_37) (fun _ h9 => h9) rfl d_TT_takes_24 ?_
        refine lv_aload_n hx hb d_TT_takes_27 rfl (lv_at hl 0 rfl) ?_
        refine va_get (D := D) (ci := iTT) (v := .int (z 0)) (C := R_TT) (T := F_TT) (N := 5) hx hb (fl_TT hg) (fun _ h9 => h9) hown hK hP 1 (hI.2.1) rfl 1 (by decide) (hg _ k_38) (fun _ h9 => h9) rfl d_TT_takes_28 ?_
        refine lv_iload_n hx hb d_TT_takes_31 rfl (lv_at hl 1 rfl) ?_
        refine lv_i2c (v := p0) hx hb d_TT_takes_32 (cb_i2c c_3 c_9) ?_
        refine gx_cs hx hb hK hP hD hS 2 1 (hI.2.2.1) rfl n (h0) (by omega) (by decide) (cb_nar c_3 c_9) d_TT_takes_33 (fun H locs hP hD hS => ?_)
        obtain ⟨w_1, ew_1⟩ : ∃ x : va_W, x = ws.set 2 (κ 2, .inl (cC, 120, .inl (upd sg n p0))) := ⟨_, rfl⟩
        replace hP : va_P D classes w_1 H := by rw [ew_1]; exact hP
        replace hD : va_D (va_A ws sz) w_1 := by rw [ew_1]; exact hD
        replace hI : cb_I cI cC cJ cII w_1 κ ra z (upd sg n p0) G we pd := by rw [ew_1]; exact cb_I.signs hI
        replace hH : cb_hi ws w_1 := by rw [ew_1]; exact cb_hi.set (by decide) hH
        refine lv_aload_n hx hb d_TT_takes_34 rfl (lv_at hl 0 rfl) ?_
        refine lv_dup hx hb d_TT_takes_35 rfl ?_
        refine va_get (D := D) (ci := iTT) (v := .int (z 0)) (C := R_TT) (T := F_TT) (N := 5) hx hb (fl_TT hg) (fun _ h9 => h9) hown hK hP 1 (hI.2.1) rfl 1 (by decide) (hg _ k_38) (fun _ h9 => h9) rfl d_TT_takes_36 ?_
        refine lv_iconst (v := 1) hx hb d_TT_takes_39 (by decide) ?_
        refine lv_iadd hx hb d_TT_takes_40 ?_
        refine va_put (D := D) (ci := iTT) (v := .int ((z 0) + 1)) (ty := .int) (C := R_TT) (T := F_TT) (N := 5) hx hb (fl_TT hg) (fun _ h9 => h9) t_TT t_TT_ok n_TT hown hK hP hD hS 1 (hI.2.1) rfl 1 (by decide) (hg _ k_38) (fun _ h9 => h9) rfl (by decide +kernel) rfl rfl (Nat.le_of_ble_eq_true rfl) d_TT_takes_41 (fun H locs hP hD hS => ?_)
        obtain ⟨w_2, ew_2⟩ : ∃ x : va_W, x = w_1.set 1 (κ 1, .inr (iTT, [.ref (κ 2), .int ((z 0) + 1), .int (z 1), .ref (κ 3), .int (z 2)])) := ⟨_, rfl⟩
        replace hP : va_P D classes w_2 H := by rw [ew_2]; exact hP
        replace hD : va_D (va_A ws sz) w_2 := by rw [ew_2]; exact hD
        replace hI : cb_I cI cC cJ cII w_2 κ ra (upd z 0 ((z 0) + 1)) (upd sg n p0) G we pd := by rw [ew_2]; exact cb_I.text (z := z) (z' := upd z 0 ((z 0) + 1)) rfl rfl hI
        replace hH : cb_hi ws w_2 := by rw [ew_2]; exact cb_hi.set (by decide) hH
        refine lv_iconst (v := 1) hx hb d_TT_takes_44 (by decide) ?_
        exact gx_iret hx hb hr hlocks rfl hS hP hD (by decide) (by decide) d_TT_takes_45 (Or.inr ⟨rfl, c_3, c_9, hlt, hI, hH⟩)
      · skip
        rw [h0] at c_18
        have hge : ¬ n < 120 := gx_nltn (b := 120) c_18
        refine lv_iconst (v := 0) hx hb d_TT_takes_21 (by decide) ?_
        exact gx_iret hx hb hr hlocks rfl hS hP hD (by decide) (by decide) d_TT_takes_22 (Or.inl ⟨rfl, Or.inr (Or.inr (by omega)), rfl⟩)

