set_option maxRecDepth 100000 in
set_option maxHeartbeats 4000000 in
theorem c_AC_init {l : Launch} {s0 : State} {D : va_G} {cI cC cJ cII cO cZ : ClassId} (F : FX l s0 D cI cC cJ cII cO cZ) (ws : va_W) (sz : Nat) (a : Nat)  : Met l y_AC_init [.code y_AC_init b_AC_init 1 none] { frames := 1, cells := 0, slots := 0, locals := 20 } (gx_P s0 D classes ws sz [.ref a]) (va_Qv (fun w1 => w1 = ws) (gx_B D classes ws sz) (va_A ws sz)) 0 0 (va_A ws sz) := by
  refine gx_met (by decide +kernel) (Nat.le_of_ble_eq_true rfl) ?_
  intro p e s m below meth c ls hx hb hr hml hown hlocks hnm hsz hV hP hD hS hA hA0 hl
  have hg := fx_g F hV ([.ref a] : List Value).toArray
  have hK := fx_k F hV
  have hn9 := fx_n F hV
  have hl : lv_has ls 1 [(0, .ref a)] := hl
  refine lv_aload_n hx hb d_AC_init_0 rfl (lv_at hl 0 rfl) ?_
  refine W.objInit hx hb hown (hg _ k_70) (hg _ k_27) (hg _ k_28) rfl (by rw [hml]; exact hl.1) rfl d_AC_init_1 (Nat.le_of_ble_eq_true rfl) (Nat.le_of_ble_eq_true rfl) ?_
  exact gx_vret hx hb hr hlocks hS hP hD (by decide) (by decide) d_AC_init_4 (rfl)

set_option maxRecDepth 100000 in
set_option maxHeartbeats 4000000 in
theorem c_AB_init {l : Launch} {s0 : State} {D : va_G} {cI cC cJ cII cO cZ : ClassId} (F : FX l s0 D cI cC cJ cII cO cZ) {ws : va_W} {q a4 : Nat} {v1 : Value} {md n : Int32} (he : ws[q]? = some (a4, .inr (iAL, [.int md, v1, .int n]))) (sz : Nat)   : Met l y_AB_init [.code y_AB_init b_AB_init 1 none] { frames := 2, cells := 0, slots := 0, locals := 50 } (gx_P s0 D classes ws sz [.ref a4]) (va_Qv (fun w1 => w1 = ws.set q (a4, .inr (iAL, [.int 0, v1, .int n]))) (gx_B D classes ws sz) (va_A ws sz)) 0 0 (va_A ws sz) := by
  refine gx_met (by decide +kernel) (Nat.le_of_ble_eq_true rfl) ?_
  intro p e s m below meth c ls hx hb hr hml hown hlocks hnm hsz hV hP hD hS hA hA0 hl
  have hg := fx_g F hV ([.ref a4] : List Value).toArray
  have hK := fx_k F hV
  have hn9 := fx_n F hV
  have hl : lv_has ls 1 [(0, .ref a4)] := hl
  refine lv_aload_n hx hb d_AB_init_0 rfl (lv_at hl 0 rfl) ?_
  refine gx_callv (va_runI (As := []) (rest := []) ⟨hx, hb, hml, hown, gx_nil⟩ (c_AC_init F _ _ a4) ⟨gx_cb (hg _ k_69) (hg _ k_3) (hg _ k_67) nd_AC_init ⟨by decide, by decide⟩, rfl, hg _ k_68⟩ (gx_preS hV hP hD hS hA0) rfl rfl hl.1 rfl (lv_room (Nat.le_of_ble_eq_true rfl)) d_AB_init_1 ⟨by decide, by decide⟩) hD hS hA (fun w1 H locs h_1 hP hD hS => ?_)
  rw [h_1] at hP hD
  refine lv_aload_n hx hb d_AB_init_4 rfl (lv_at hl 0 rfl) ?_
  refine lv_iconst (v := 0) hx hb d_AB_init_5 (by decide) ?_
  refine va_put (D := D) (ci := iAL) (v := .int 0) (ty := .int) (C := R_AL) (T := F_AL) (N := 3) hx hb (fl_AL hg) (fun _ h9 => h9) t_AL t_AL_ok n_AL hown hK hP hD hS q (he) rfl 0 (by decide) (hg _ k_75) (fun _ h9 => h9) rfl (by decide +kernel) rfl rfl (Nat.le_of_ble_eq_true rfl) d_AB_init_6 (fun H locs hP hD hS => ?_)
  obtain ⟨w_1, ew_1⟩ : ∃ x : va_W, x = ws.set q (a4, .inr (iAL, [.int 0, v1, .int n])) := ⟨_, rfl⟩
  replace hP : va_P D classes w_1 H := by rw [ew_1]; exact hP
  replace hD : va_D (va_A ws sz) w_1 := by rw [ew_1]; exact hD
  have hew_1 : w_1[q]? = some (a4, .inr (iAL, [.int 0, v1, .int n])) := by rw [ew_1]; exact gx_ss he
  exact gx_vret hx hb hr hlocks hS hP hD (by decide) (by decide) d_AB_init_9 (ew_1)

set_option maxRecDepth 100000 in
set_option maxHeartbeats 4000000 in
theorem c_AL_init {l : Launch} {s0 : State} {D : va_G} {cI cC cJ cII cO cZ : ClassId} (F : FX l s0 D cI cC cJ cII cO cZ) {ws : va_W} {q a4 : Nat} {v1 : Value} {md n : Int32} (he : ws[q]? = some (a4, .inr (iAL, [.int md, v1, .int n]))) (sz : Nat)   : Met l y_AL_init [.code y_AL_init b_AL_init 1 none] { frames := 3, cells := 0, slots := 0, locals := 80 } (gx_P s0 D classes ws sz [.ref a4]) (va_Qv (fun w1 => w1 = ws.set q (a4, .inr (iAL, [.int 0, .ref (fx_e0 F), .int n]))) (gx_B D classes ws sz) (va_A ws sz)) 0 0 (va_A ws sz) := by
  refine gx_met (by decide +kernel) (Nat.le_of_ble_eq_true rfl) ?_
  intro p e s m below meth c ls hx hb hr hml hown hlocks hnm hsz hV hP hD hS hA hA0 hl
  have hg := fx_g F hV ([.ref a4] : List Value).toArray
  have hK := fx_k F hV
  have hn9 := fx_n F hV
  have hl : lv_has ls 1 [(0, .ref a4)] := hl
  refine lv_aload_n hx hb d_AL_init_0 rfl (lv_at hl 0 rfl) ?_
  refine gx_callv (va_runI (As := []) (rest := []) ⟨hx, hb, hml, hown, gx_nil⟩ (c_AB_init F he _) ⟨gx_cb (hg _ k_66) (hg _ k_4) (hg _ k_64) nd_AB_init ⟨by decide, by decide⟩, rfl, hg _ k_65⟩ (gx_preS hV hP hD hS hA0) rfl rfl hl.1 rfl (lv_room (Nat.le_of_ble_eq_true rfl)) d_AL_init_1 ⟨by decide, by decide⟩) hD hS hA (fun w1 H locs h_1 hP hD hS => ?_)
  have he1 : w1[q]? = some (a4, .inr (iAL, [.int 0, v1, .int n])) := by rw [h_1]; exact gx_ss he
  refine lv_aload_n hx hb d_AL_init_4 rfl (lv_at hl 0 rfl) ?_
  refine va_gets hx hb (fx_ez F hV hA0) hS hown (hg _ k_71) (fun _ h9 => h9) d_AL_init_5 ?_
  refine va_put (D := D) (ci := iAL) (v := .ref (fx_e0 F)) (ty := .array (.object "java/lang/Object")) (C := R_AL) (T := F_AL) (N := 3) hx hb (fl_AL hg) (fun _ h9 => h9) t_AL t_AL_ok n_AL hown hK hP hD hS q (he1) rfl 1 (by decide) (hg _ k_73) (fun _ h9 => h9) rfl (by decide +kernel) rfl rfl (Nat.le_of_ble_eq_true rfl) d_AL_init_8 (fun H locs hP hD hS => ?_)
  obtain ⟨w_1, ew_1⟩ : ∃ x : va_W, x = ws.set q (a4, .inr (iAL, [.int 0, .ref (fx_e0 F), .int n])) := ⟨_, rfl⟩
  replace hP : va_P D classes w_1 H := by rw [ew_1]; have h9 := hP; rw [h_1, List.set_set] at h9; exact h9
  replace hD : va_D (va_A ws sz) w_1 := by rw [ew_1]; have h9 := hD; rw [h_1, List.set_set] at h9; exact h9
  have hew_1 : w_1[q]? = some (a4, .inr (iAL, [.int 0, .ref (fx_e0 F), .int n])) := by rw [ew_1]; exact gx_ss he
  exact gx_vret hx hb hr hlocks hS hP hD (by decide) (by decide) d_AL_init_11 (ew_1)

set_option maxRecDepth 100000 in
set_option maxHeartbeats 4000000 in
theorem c_LN_init {l : Launch} {s0 : State} {D : va_G} {cI cC cJ cII cO cZ : ClassId} (F : FX l s0 D cI cC cJ cII cO cZ) {ws : va_W} {q a : Nat} (he : ws[q]? = some (a, .inr (iLN, [.int 0, .int 0, .int 0, .int 0, .long 0, .int 0, .int 0, .int 0, .long 0]))) (sz : Nat) (p0 p1 p2 p3 : Int32) (p4 : Int64) (p5 p6 : Int32) (hb01 : p6 = 0 ∨ p6 = 1)  : Met l y_LN_init [.code y_LN_init b_LN_init 9 none] { frames := 1, cells := 0, slots := 0, locals := 20 } (gx_P s0 D classes ws sz [.ref a, .int p0, .int p1, .int p2, .int p3, .long p4, .int p5, .int p6]) (va_Qv (fun w1 => w1 = ws.set q (a, .inr (iLN, cb_ln (cb_mli p0 p1 p2 p3 p5 p6) (fun _ => p4)))) (gx_B D classes ws sz) (va_A ws sz)) 0 0 (va_A ws sz) := by
  refine gx_met (by decide +kernel) (Nat.le_of_ble_eq_true rfl) ?_
  intro p e s m below meth c ls hx hb hr hml hown hlocks hnm hsz hV hP hD hS hA hA0 hl
  have hg := fx_g F hV ([.ref a, .int p0, .int p1, .int p2, .int p3, .long p4, .int p5, .int p6] : List Value).toArray
  have hK := fx_k F hV
  have hn9 := fx_n F hV
  have hl : lv_has ls 9 [(0, .ref a), (1, .int p0), (2, .int p1), (3, .int p2), (4, .int p3), (5, .long p4), (7, .int p5), (8, .int p6)] := hl
  refine lv_aload_n hx hb d_LN_init_0 rfl (lv_at hl 0 rfl) ?_
  refine W.objInit hx hb hown (hg _ k_357) (hg _ k_27) (hg _ k_28) rfl (by rw [hml]; exact hl.1) rfl d_LN_init_1 (Nat.le_of_ble_eq_true rfl) (Nat.le_of_ble_eq_true rfl) ?_
  refine lv_aload_n hx hb d_LN_init_4 rfl (lv_at hl 0 rfl) ?_
  refine lv_iload_n hx hb d_LN_init_5 rfl (lv_at hl 1 rfl) ?_
  refine va_putF (D := D) (ci := iLN) (v := .int p0) (ty := .int) (C := R_LN) (T := F_LN) (N := 9) hx hb (fl_LN hg) (fun _ h9 => h9) t_LN t_LN_ok n_LN hown hK hP hD hS q (he) rfl 0 (by decide) (hg _ k_358) (fun _ h9 => h9) rfl hnm rfl (by decide +kernel) rfl rfl (Nat.le_of_ble_eq_true rfl) d_LN_init_6 (fun H locs hP hD hS => ?_)
  obtain ⟨w_1, ew_1⟩ : ∃ x : va_W, x = ws.set q (a, .inr (iLN, [.int p0, .int 0, .int 0, .int 0, .long 0, .int 0, .int 0, .int 0, .long 0])) := ⟨_, rfl⟩
  replace hP : va_P D classes w_1 H := by rw [ew_1]; exact hP
  replace hD : va_D (va_A ws sz) w_1 := by rw [ew_1]; exact hD
  have hew_1 : w_1[q]? = some (a, .inr (iLN, [.int p0, .int 0, .int 0, .int 0, .long 0, .int 0, .int 0, .int 0, .long 0])) := by rw [ew_1]; exact gx_ss he
  refine lv_aload_n hx hb d_LN_init_9 rfl (lv_at hl 0 rfl) ?_
  refine lv_iload_n hx hb d_LN_init_10 rfl (lv_at hl 2 rfl) ?_
  refine va_putF (D := D) (ci := iLN) (v := .int p1) (ty := .int) (C := R_LN) (T := F_LN) (N := 9) hx hb (fl_LN hg) (fun _ h9 => h9) t_LN t_LN_ok n_LN hown hK hP hD hS q (hew_1) rfl 1 (by decide) (hg _ k_360) (fun _ h9 => h9) rfl hnm rfl (by decide +kernel) rfl rfl (Nat.le_of_ble_eq_true rfl) d_LN_init_11 (fun H locs hP hD hS => ?_)
  obtain ⟨w_2, ew_2⟩ : ∃ x : va_W, x = ws.set q (a, .inr (iLN, [.int p0, .int p1, .int 0, .int 0, .long 0, .int 0, .int 0, .int 0, .long 0])) := ⟨_, rfl⟩
  replace hP : va_P D classes w_2 H := by rw [ew_2]; have h9 := hP; rw [ew_1, List.set_set] at h9; exact h9
  replace hD : va_D (va_A ws sz) w_2 := by rw [ew_2]; have h9 := hD; rw [ew_1, List.set_set] at h9; exact h9
  have hew_2 : w_2[q]? = some (a, .inr (iLN, [.int p0, .int p1, .int 0, .int 0, .long 0, .int 0, .int 0, .int 0, .long 0])) := by rw [ew_2]; exact gx_ss he
  refine lv_aload_n hx hb d_LN_init_14 rfl (lv_at hl 0 rfl) ?_
  refine lv_iload_n hx hb d_LN_init_15 rfl (lv_at hl 3 rfl) ?_
  refine va_putF (D := D) (ci := iLN) (v := .int p2) (ty := .int) (C := R_LN) (T := F_LN) (N := 9) hx hb (fl_LN hg) (fun _ h9 => h9) t_LN t_LN_ok n_LN hown hK hP hD hS q (hew_2) rfl 2 (by decide) (hg _ k_362) (fun _ h9 => h9) rfl hnm rfl (by decide +kernel) rfl rfl (Nat.le_of_ble_eq_true rfl) d_LN_init_16 (fun H locs hP hD hS => ?_)
  obtain ⟨w_3, ew_3⟩ : ∃ x : va_W, x = ws.set q (a, .inr (iLN, [.int p0, .int p1, .int p2, .int 0, .long 0, .int 0, .int 0, .int 0, .long 0])) := ⟨_, rfl⟩
  replace hP : va_P D classes w_3 H := by rw [ew_3]; have h9 := hP; rw [ew_2, List.set_set] at h9; exact h9
  replace hD : va_D (va_A ws sz) w_3 := by rw [ew_3]; have h9 := hD; rw [ew_2, List.set_set] at h9; exact h9
  have hew_3 : w_3[q]? = some (a, .inr (iLN, [.int p0, .int p1, .int p2, .int 0, .long 0, .int 0, .int 0, .int 0, .long 0])) := by rw [ew_3]; exact gx_ss he
  refine lv_aload_n hx hb d_LN_init_19 rfl (lv_at hl 0 rfl) ?_
  refine lv_iload hx hb d_LN_init_20 (lv_at hl 4 rfl) ?_
  refine va_putF (D := D) (ci := iLN) (v := .int p3) (ty := .int) (C := R_LN) (T := F_LN) (N := 9) hx hb (fl_LN hg) (fun _ h9 => h9) t_LN t_LN_ok n_LN hown hK hP hD hS q (hew_3) rfl 3 (by decide) (hg _ k_363) (fun _ h9 => h9) rfl hnm rfl (by decide +kernel) rfl rfl (Nat.le_of_ble_eq_true rfl) d_LN_init_22 (fun H locs hP hD hS => ?_)
  obtain ⟨w_4, ew_4⟩ : ∃ x : va_W, x = ws.set q (a, .inr (iLN, [.int p0, .int p1, .int p2, .int p3, .long 0, .int 0, .int 0, .int 0, .long 0])) := ⟨_, rfl⟩
  replace hP : va_P D classes w_4 H := by rw [ew_4]; have h9 := hP; rw [ew_3, List.set_set] at h9; exact h9
  replace hD : va_D (va_A ws sz) w_4 := by rw [ew_4]; have h9 := hD; rw [ew_3, List.set_set] at h9; exact h9
  have hew_4 : w_4[q]? = some (a, .inr (iLN, [.int p0, .int p1, .int p2, .int p3, .long 0, .int 0, .int 0, .int 0, .long 0])) := by rw [ew_4]; exact gx_ss he
  refine lv_aload_n hx hb d_LN_init_25 rfl (lv_at hl 0 rfl) ?_
  refine lv_lload hx hb d_LN_init_26 (lv_at hl 5 rfl) ?_
  refine va_putF (D := D) (ci := iLN) (v := .long p4) (ty := .long) (C := R_LN) (T := F_LN) (N := 9) hx hb (fl_LN hg) (fun _ h9 => h9) t_LN t_LN_ok n_LN hown hK hP hD hS q (hew_4) rfl 4 (by decide) (hg _ k_364) (fun _ h9 => h9) rfl hnm rfl (by decide +kernel) rfl rfl (Nat.le_of_ble_eq_true rfl) d_LN_init_28 (fun H locs hP hD hS => ?_)
  obtain ⟨w_5, ew_5⟩ : ∃ x : va_W, x = ws.set q (a, .inr (iLN, [.int p0, .int p1, .int p2, .int p3, .long p4, .int 0, .int 0, .int 0, .long 0])) := ⟨_, rfl⟩
  replace hP : va_P D classes w_5 H := by rw [ew_5]; have h9 := hP; rw [ew_4, List.set_set] at h9; exact h9
  replace hD : va_D (va_A ws sz) w_5 := by rw [ew_5]; have h9 := hD; rw [ew_4, List.set_set] at h9; exact h9
  have hew_5 : w_5[q]? = some (a, .inr (iLN, [.int p0, .int p1, .int p2, .int p3, .long p4, .int 0, .int 0, .int 0, .long 0])) := by rw [ew_5]; exact gx_ss he
  refine lv_aload_n hx hb d_LN_init_31 rfl (lv_at hl 0 rfl) ?_
  refine lv_iload hx hb d_LN_init_32 (lv_at hl 6 rfl) ?_
  refine va_putF (D := D) (ci := iLN) (v := .int p5) (ty := .int) (C := R_LN) (T := F_LN) (N := 9) hx hb (fl_LN hg) (fun _ h9 => h9) t_LN t_LN_ok n_LN hown hK hP hD hS q (hew_5) rfl 5 (by decide) (hg _ k_366) (fun _ h9 => h9) rfl hnm rfl (by decide +kernel) rfl rfl (Nat.le_of_ble_eq_true rfl) d_LN_init_34 (fun H locs hP hD hS => ?_)
  obtain ⟨w_6, ew_6⟩ : ∃ x : va_W, x = ws.set q (a, .inr (iLN, [.int p0, .int p1, .int p2, .int p3, .long p4, .int p5, .int 0, .int 0, .long 0])) := ⟨_, rfl⟩
  replace hP : va_P D classes w_6 H := by rw [ew_6]; have h9 := hP; rw [ew_5, List.set_set] at h9; exact h9
  replace hD : va_D (va_A ws sz) w_6 := by rw [ew_6]; have h9 := hD; rw [ew_5, List.set_set] at h9; exact h9
  have hew_6 : w_6[q]? = some (a, .inr (iLN, [.int p0, .int p1, .int p2, .int p3, .long p4, .int p5, .int 0, .int 0, .long 0])) := by rw [ew_6]; exact gx_ss he
  refine lv_aload_n hx hb d_LN_init_37 rfl (lv_at hl 0 rfl) ?_
  refine lv_iload hx hb d_LN_init_38 (lv_at hl 7 rfl) ?_
  refine va_putF (D := D) (ci := iLN) (v := .int p6) (ty := .boolean) (C := R_LN) (T := F_LN) (N := 9) hx hb (fl_LN hg) (fun _ h9 => h9) t_LN t_LN_ok n_LN hown hK hP hD hS q (hew_6) rfl 6 (by decide) (hg _ k_368) (fun _ h9 => h9) rfl hnm rfl (by decide +kernel) (by rcases hb01 with rfl | rfl <;> rfl) (by rcases hb01 with rfl | rfl <;> rfl) (Nat.le_of_ble_eq_true rfl) d_LN_init_40 (fun H locs hP hD hS => ?_)
  obtain ⟨w_7, ew_7⟩ : ∃ x : va_W, x = ws.set q (a, .inr (iLN, [.int p0, .int p1, .int p2, .int p3, .long p4, .int p5, .int p6, .int 0, .long 0])) := ⟨_, rfl⟩
  replace hP : va_P D classes w_7 H := by rw [ew_7]; have h9 := hP; rw [ew_6, List.set_set] at h9; exact h9
  replace hD : va_D (va_A ws sz) w_7 := by rw [ew_7]; have h9 := hD; rw [ew_6, List.set_set] at h9; exact h9
  have hew_7 : w_7[q]? = some (a, .inr (iLN, [.int p0, .int p1, .int p2, .int p3, .long p4, .int p5, .int p6, .int 0, .long 0])) := by rw [ew_7]; exact gx_ss he
  refine lv_aload_n hx hb d_LN_init_43 rfl (lv_at hl 0 rfl) ?_
  refine lv_lload hx hb d_LN_init_44 (lv_at hl 5 rfl) ?_
  refine va_put (D := D) (ci := iLN) (v := .long p4) (ty := .long) (C := R_LN) (T := F_LN) (N := 9) hx hb (fl_LN hg) (fun _ h9 => h9) t_LN t_LN_ok n_LN hown hK hP hD hS q (hew_7) rfl 8 (by decide) (hg _ k_371) (fun _ h9 => h9) rfl (by decide +kernel) rfl rfl (Nat.le_of_ble_eq_true rfl) d_LN_init_46 (fun H locs hP hD hS => ?_)
  obtain ⟨w_8, ew_8⟩ : ∃ x : va_W, x = ws.set q (a, .inr (iLN, [.int p0, .int p1, .int p2, .int p3, .long p4, .int p5, .int p6, .int 0, .long p4])) := ⟨_, rfl⟩
  replace hP : va_P D classes w_8 H := by rw [ew_8]; have h9 := hP; rw [ew_7, List.set_set] at h9; exact h9
  replace hD : va_D (va_A ws sz) w_8 := by rw [ew_8]; have h9 := hD; rw [ew_7, List.set_set] at h9; exact h9
  have hew_8 : w_8[q]? = some (a, .inr (iLN, [.int p0, .int p1, .int p2, .int p3, .long p4, .int p5, .int p6, .int 0, .long p4])) := by rw [ew_8]; exact gx_ss he
  exact gx_vret hx hb hr hlocks hS hP hD (by decide) (by decide) d_LN_init_49 (ew_8)

