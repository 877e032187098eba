set_option maxRecDepth 100000 in
set_option maxHeartbeats 4000000 in
theorem c_PB_init {l : Launch} {s0 : State} {D : va_G} {cI cC cJ cII cO cZ : ClassId} (F : FX l s0 D cI cC cJ cII cO cZ) {ws : va_W} {a : Nat} (hws : ws = [(a, .inr (iPB, [.null, .null, .int 0, .null, .null, .int 0, .null, .null, .null, .null, .null]))]) (sz : Nat)   : Met l y_PB_init [.code y_PB_init b_PB_init 2 none] { frames := 4, cells := 72, slots := 613, locals := 120 } (gx_P s0 D classes ws sz [.ref a]) (va_Qv (fun w1 => ∃ (κ : Nat → Nat) (ra : Nat → Nat → Nat) (G : Nat → Nat → Nat → Int32), cb_I cI cC cJ cII w1 κ ra (fun _ => 0) (fun _ => 0) G (fun _ => 0) (fun _ => 0) ∧ (∀ (la lp : Nat → Nat) (li : Nat → Nat → Int32) (ll : Nat → Nat → Int64), cb_L cO w1 (κ 62) 0 (fx_e0 F) 0 la lp li ll) ∧ κ 0 = a ∧ (∀ k, k < 6 → G 1 k = cb_t0) ∧ G 2 = (fun _ _ => 0) ∧ G 3 = (fun _ _ => 0) ∧ (∀ k, k < 10 → G 4 k = cb_fil (fun _ => 0) 1 6) ∧ (∀ k, k < 10 → G 5 k = cb_fil (fun _ => 0) 1 6)) (gx_B D classes ws sz) (va_A ws sz)) 72 613 (va_A ws sz) := by
  refine gx_met (by decide +kernel) (Nat.le_of_ble_eq_true rfl) ?_
  intro p e s m below meth c ls hx hb hr hml hown hlocks hnm hsz hV hP hD hS hA hA0 hl
  have hg := fx_g F hV ([.ref a] : List Value).toArray
  have hK := fx_k F hV
  have hn9 := fx_n F hV
  have hl : lv_has ls 2 [(0, .ref a)] := hl
  refine lv_aload_n hx hb d_PB_init_0 rfl (lv_at hl 0 rfl) ?_
  have lws : ws.length = 1 := by rw [hws]; rfl
  have f0_ws : ws[0]? = some (a, .inr (iPB, [.null, .null, .int 0, .null, .null, .int 0, .null, .null, .null, .null, .null])) := by rw [hws]; rfl
  refine W.objInit hx hb hown (hg _ k_26) (hg _ k_27) (hg _ k_28) rfl (by rw [hml]; exact hl.1) rfl d_PB_init_1 (Nat.le_of_ble_eq_true rfl) (Nat.le_of_ble_eq_true rfl) ?_
  refine lv_aload_n hx hb d_PB_init_4 rfl (lv_at hl 0 rfl) ?_
  refine va_new (fs := [.null, .int 0, .int 0, .null, .int 0]) hx hb (fl_TT hg) (fun _ h9 => h9) t_TT t_TT_ok hown (hg _ k_29) (hg _ k_30) (hg _ k_2) hK hP hD hS hA (ci := iTT) rfl (by decide +kernel) (by decide) (by decide) d_PB_init_5 (fun tt H hP hD hS => ?_)
  obtain ⟨x1, ex1⟩ : ∃ x : va_W, x = ws ++ [(tt, .inr (iTT, [.null, .int 0, .int 0, .null, .int 0]))] := ⟨_, rfl⟩
  replace hP : va_P D classes x1 H := by rw [ex1]; exact hP
  replace hD : va_D (va_A ws sz) x1 := by rw [ex1]; exact hD
  have lx1 : x1.length = 2 := by rw [ex1, List.length_append, lws]; rfl
  have f0_x1 : x1[0]? = some (a, .inr (iPB, [.null, .null, .int 0, .null, .null, .int 0, .null, .null, .null, .null, .null])) := by rw [ex1]; exact gx_ap f0_ws
  have f1_x1 : x1[1]? = some (tt, .inr (iTT, [.null, .int 0, .int 0, .null, .int 0])) := by rw [ex1]; exact gx_lat2 lws
  refine lv_dup hx hb d_PB_init_8 rfl ?_
  refine gx_callv (va_runIN (As := []) (rest := [.ref tt, .ref a]) ⟨hx, hb, hml, hown, gx_nil⟩ (c_TT_init F f1_x1 _) ⟨gx_cn (hg _ k_33) (hg _ k_2) (hn9 _ kn_31) nd_TT_init ⟨by decide, by decide⟩, rfl, hg _ k_32⟩ (gx_preS hV hP hD hS hA0) rfl rfl hl.1 rfl (lv_room (Nat.le_of_ble_eq_true rfl)) d_PB_init_9 ⟨by decide, by decide⟩) hD hS hA (fun w1 H locs h_9 hP hD hS => ?_)
  obtain ⟨qs, h3, h9⟩ := h_9
  rw [h9] at hP hD
  obtain ⟨x2, ex2⟩ : ∃ x : va_W, x = x1.set 1 (tt, .inr (iTT, [.ref qs, .int 0, .int 0, .ref h3, .int 0])) := ⟨_, rfl⟩
  rw [← ex2] at hP hD
  have lx2 : x2.length = 2 := by rw [ex2, List.length_set, lx1]
  have f0_x2 : x2[0]? = some (a, .inr (iPB, [.null, .null, .int 0, .null, .null, .int 0, .null, .null, .null, .null, .null])) := by rw [ex2]; exact gx_sn (by decide) f0_x1
  have f1_x2 : x2[1]? = some (tt, .inr (iTT, [.ref qs, .int 0, .int 0, .ref h3, .int 0])) := by rw [ex2]; exact gx_ss f1_x1
  obtain ⟨x3, ex3⟩ : ∃ x : va_W, x = x2 ++ [(qs, .inl (cC, 120, .inl (fun _ => 0)))] := ⟨_, rfl⟩
  rw [← ex3] at hP hD
  have lx3 : x3.length = 3 := by rw [ex3, List.length_append, lx2]; rfl
  have f0_x3 : x3[0]? = some (a, .inr (iPB, [.null, .null, .int 0, .null, .null, .int 0, .null, .null, .null, .null, .null])) := by rw [ex3]; exact gx_ap f0_x2
  have f1_x3 : x3[1]? = some (tt, .inr (iTT, [.ref qs, .int 0, .int 0, .ref h3, .int 0])) := by rw [ex3]; exact gx_ap f1_x2
  have f2_x3 : x3[2]? = some (qs, .inl (cC, 120, .inl (fun _ => 0))) := by rw [ex3]; exact gx_lat2 lx2
  obtain ⟨x4, ex4⟩ : ∃ x : va_W, x = x3 ++ gx_grid cI cII h3 6 4 := ⟨_, rfl⟩
  replace hP : va_P D classes x4 H := by rw [ex4]; exact hP
  replace hD : va_D (va_A ws sz) x4 := by rw [ex4]; exact hD
  have lx4 : x4.length = 10 := by rw [ex4, List.length_append, lx3, gx_grid_len]
  have f0_x4 : x4[0]? = some (a, .inr (iPB, [.null, .null, .int 0, .null, .null, .int 0, .null, .null, .null, .null, .null])) := by rw [ex4]; exact gx_ap f0_x3
  have f1_x4 : x4[1]? = some (tt, .inr (iTT, [.ref qs, .int 0, .int 0, .ref h3, .int 0])) := by rw [ex4]; exact gx_ap f1_x3
  have f2_x4 : x4[2]? = some (qs, .inl (cC, 120, .inl (fun _ => 0))) := by rw [ex4]; exact gx_ap f2_x3
  have f3_x4 : x4[3]? = some (h3, .inl (cII, 6, .inr (.inr (.inr (.inr (fun j => if j < 6 then some (h3 + 1 + j) else none)))))) := by rw [ex4]; exact gx_grid_0 lx3
  have g3_x4 : ∀ i : Nat, i < 6 → x4[3 + 1 + i]? = some (h3 + 1 + i, .inl (cI, 4, .inl (fun _ => 0))) := fun (i : Nat) hi => by rw [ex4]; exact gx_grid_s lx3 hi
  refine va_putF (D := D) (ci := iPB) (v := .ref tt) (ty := .object "PortBills$TariffText") (C := R_PB) (T := F_PB) (N := 11) hx hb (fl_PB hg) (fun _ h9 => h9) t_PB t_PB_ok n_PB hown hK hP hD hS 0 (f0_x4) rfl 0 (by decide) (hg _ k_88) (fun _ h9 => h9) rfl hnm rfl (by decide +kernel) rfl rfl (Nat.le_of_ble_eq_true rfl) d_PB_init_12 (fun H locs hP hD hS => ?_)
  obtain ⟨x5, ex5⟩ : ∃ x : va_W, x = x4.set 0 (a, .inr (iPB, [.ref tt, .null, .int 0, .null, .null, .int 0, .null, .null, .null, .null, .null])) := ⟨_, rfl⟩
  replace hP : va_P D classes x5 H := by rw [ex5]; exact hP
  replace hD : va_D (va_A ws sz) x5 := by rw [ex5]; exact hD
  have lx5 : x5.length = 10 := by rw [ex5, List.length_set, lx4]
  have f1_x5 : x5[1]? = some (tt, .inr (iTT, [.ref qs, .int 0, .int 0, .ref h3, .int 0])) := by rw [ex5]; exact gx_sn (by decide) f1_x4
  have f2_x5 : x5[2]? = some (qs, .inl (cC, 120, .inl (fun _ => 0))) := by rw [ex5]; exact gx_sn (by decide) f2_x4
  have f3_x5 : x5[3]? = some (h3, .inl (cII, 6, .inr (.inr (.inr (.inr (fun j => if j < 6 then some (h3 + 1 + j) else none)))))) := by rw [ex5]; exact gx_sn (by decide) f3_x4
  have g3_x5 : ∀ i : Nat, i < 6 → x5[3 + 1 + i]? = some (h3 + 1 + i, .inl (cI, 4, .inl (fun _ => 0))) := fun (i : Nat) hi => by rw [ex5]; exact gx_sn (show 0 ≠ 3 + 1 + i by omega) (g3_x4 i hi)
  have f0_x5 : x5[0]? = some (a, .inr (iPB, [.ref tt, .null, .int 0, .null, .null, .int 0, .null, .null, .null, .null, .null])) := by rw [ex5]; exact gx_ss f0_x4
  refine lv_aload_n hx hb d_PB_init_15 rfl (lv_at hl 0 rfl) ?_
  refine lv_bipush (v := 6) hx hb d_PB_init_16 (by decide) ?_
  refine lv_iconst (v := 4) hx hb d_PB_init_18 (by decide) ?_
  refine gx_mna hx hb hown (hg _ k_58) (fx_aoI F hV _) (hg _ k_57) (gx_nI hK) (gx_nII hK) hP hD hS hA (N := 6) (K := 4) (by decide) (by decide) (by decide) (by decide) (by decide) (by decide) (by decide) (by decide) d_PB_init_19 (fun h10 H locs hP hD hS => ?_)
  obtain ⟨x6, ex6⟩ : ∃ x : va_W, x = x5 ++ gx_grid cI cII h10 6 4 := ⟨_, rfl⟩
  replace hP : va_P D classes x6 H := by rw [ex6]; exact hP
  replace hD : va_D (va_A ws sz) x6 := by rw [ex6]; exact hD
  have lx6 : x6.length = 17 := by rw [ex6, List.length_append, lx5, gx_grid_len]
  have f0_x6 : x6[0]? = some (a, .inr (iPB, [.ref tt, .null, .int 0, .null, .null, .int 0, .null, .null, .null, .null, .null])) := by rw [ex6]; exact gx_ap f0_x5
  have f1_x6 : x6[1]? = some (tt, .inr (iTT, [.ref qs, .int 0, .int 0, .ref h3, .int 0])) := by rw [ex6]; exact gx_ap f1_x5
  have f2_x6 : x6[2]? = some (qs, .inl (cC, 120, .inl (fun _ => 0))) := by rw [ex6]; exact gx_ap f2_x5
  have f3_x6 : x6[3]? = some (h3, .inl (cII, 6, .inr (.inr (.inr (.inr (fun j => if j < 6 then some (h3 + 1 + j) else none)))))) := by rw [ex6]; exact gx_ap f3_x5
  have g3_x6 : ∀ i : Nat, i < 6 → x6[3 + 1 + i]? = some (h3 + 1 + i, .inl (cI, 4, .inl (fun _ => 0))) := fun (i : Nat) hi => by rw [ex6]; exact gx_ap (g3_x5 i hi)
  have f10_x6 : x6[10]? = some (h10, .inl (cII, 6, .inr (.inr (.inr (.inr (fun j => if j < 6 then some (h10 + 1 + j) else none)))))) := by rw [ex6]; exact gx_grid_0 lx5
  have g10_x6 : ∀ i : Nat, i < 6 → x6[10 + 1 + i]? = some (h10 + 1 + i, .inl (cI, 4, .inl (fun _ => 0))) := fun (i : Nat) hi => by rw [ex6]; exact gx_grid_s lx5 hi
  refine va_putF (D := D) (ci := iPB) (v := .ref h10) (ty := .array (.array .int)) (C := R_PB) (T := F_PB) (N := 11) hx hb (fl_PB hg) (fun _ h9 => h9) t_PB t_PB_ok n_PB hown hK hP hD hS 0 (f0_x6) rfl 1 (by decide) (hg _ k_89) (fun _ h9 => h9) rfl hnm rfl (by decide +kernel) rfl rfl (Nat.le_of_ble_eq_true rfl) d_PB_init_23 (fun H locs hP hD hS => ?_)
  obtain ⟨x7, ex7⟩ : ∃ x : va_W, x = x6.set 0 (a, .inr (iPB, [.ref tt, .ref h10, .int 0, .null, .null, .int 0, .null, .null, .null, .null, .null])) := ⟨_, rfl⟩
  replace hP : va_P D classes x7 H := by rw [ex7]; exact hP
  replace hD : va_D (va_A ws sz) x7 := by rw [ex7]; exact hD
  have lx7 : x7.length = 17 := by rw [ex7, List.length_set, lx6]
  have f1_x7 : x7[1]? = some (tt, .inr (iTT, [.ref qs, .int 0, .int 0, .ref h3, .int 0])) := by rw [ex7]; exact gx_sn (by decide) f1_x6
  have f2_x7 : x7[2]? = some (qs, .inl (cC, 120, .inl (fun _ => 0))) := by rw [ex7]; exact gx_sn (by decide) f2_x6
  have f3_x7 : x7[3]? = some (h3, .inl (cII, 6, .inr (.inr (.inr (.inr (fun j => if j < 6 then some (h3 + 1 + j) else none)))))) := by rw [ex7]; exact gx_sn (by decide) f3_x6
  have f10_x7 : x7[10]? = some (h10, .inl (cII, 6, .inr (.inr (.inr (.inr (fun j => if j < 6 then some (h10 + 1 + j) else none)))))) := by rw [ex7]; exact gx_sn (by decide) f10_x6
  have g3_x7 : ∀ i : Nat, i < 6 → x7[3 + 1 + i]? = some (h3 + 1 + i, .inl (cI, 4, .inl (fun _ => 0))) := fun (i : Nat) hi => by rw [ex7]; exact gx_sn (show 0 ≠ 3 + 1 + i by omega) (g3_x6 i hi)
  have g10_x7 : ∀ i : Nat, i < 6 → x7[10 + 1 + i]? = some (h10 + 1 + i, .inl (cI, 4, .inl (fun _ => 0))) := fun (i : Nat) hi => by rw [ex7]; exact gx_sn (show 0 ≠ 10 + 1 + i by omega) (g10_x6 i hi)
  have f0_x7 : x7[0]? = some (a, .inr (iPB, [.ref tt, .ref h10, .int 0, .null, .null, .int 0, .null, .null, .null, .null, .null])) := by rw [ex7]; exact gx_ss f0_x6
  refine lv_aload_n hx hb d_PB_init_26 rfl (lv_at hl 0 rfl) ?_
  refine lv_bipush (v := 10) hx hb d_PB_init_27 (by decide) ?_
  refine lv_bipush (v := 6) hx hb d_PB_init_29 (by decide) ?_
  refine gx_mna hx hb hown (hg _ k_58) (fx_aoI F hV _) (hg _ k_57) (gx_nI hK) (gx_nII hK) hP hD hS hA (N := 10) (K := 6) (by decide) (by decide) (by decide) (by decide) (by decide) (by decide) (by decide) (by decide) d_PB_init_31 (fun h17 H locs hP hD hS => ?_)
  obtain ⟨x8, ex8⟩ : ∃ x : va_W, x = x7 ++ gx_grid cI cII h17 10 6 := ⟨_, rfl⟩
  replace hP : va_P D classes x8 H := by rw [ex8]; exact hP
  replace hD : va_D (va_A ws sz) x8 := by rw [ex8]; exact hD
  have lx8 : x8.length = 28 := by rw [ex8, List.length_append, lx7, gx_grid_len]
  have f0_x8 : x8[0]? = some (a, .inr (iPB, [.ref tt, .ref h10, .int 0, .null, .null, .int 0, .null, .null, .null, .null, .null])) := by rw [ex8]; exact gx_ap f0_x7
  have f1_x8 : x8[1]? = some (tt, .inr (iTT, [.ref qs, .int 0, .int 0, .ref h3, .int 0])) := by rw [ex8]; exact gx_ap f1_x7
  have f2_x8 : x8[2]? = some (qs, .inl (cC, 120, .inl (fun _ => 0))) := by rw [ex8]; exact gx_ap f2_x7
  have f3_x8 : x8[3]? = some (h3, .inl (cII, 6, .inr (.inr (.inr (.inr (fun j => if j < 6 then some (h3 + 1 + j) else none)))))) := by rw [ex8]; exact gx_ap f3_x7
  have f10_x8 : x8[10]? = some (h10, .inl (cII, 6, .inr (.inr (.inr (.inr (fun j => if j < 6 then some (h10 + 1 + j) else none)))))) := by rw [ex8]; exact gx_ap f10_x7
  have g3_x8 : ∀ i : Nat, i < 6 → x8[3 + 1 + i]? = some (h3 + 1 + i, .inl (cI, 4, .inl (fun _ => 0))) := fun (i : Nat) hi => by rw [ex8]; exact gx_ap (g3_x7 i hi)
  have g10_x8 : ∀ i : Nat, i < 6 → x8[10 + 1 + i]? = some (h10 + 1 + i, .inl (cI, 4, .inl (fun _ => 0))) := fun (i : Nat) hi => by rw [ex8]; exact gx_ap (g10_x7 i hi)
  have f17_x8 : x8[17]? = some (h17, .inl (cII, 10, .inr (.inr (.inr (.inr (fun j => if j < 10 then some (h17 + 1 + j) else none)))))) := by rw [ex8]; exact gx_grid_0 lx7
  have g17_x8 : ∀ i : Nat, i < 10 → x8[17 + 1 + i]? = some (h17 + 1 + i, .inl (cI, 6, .inl (fun _ => 0))) := fun (i : Nat) hi => by rw [ex8]; exact gx_grid_s lx7 hi
  refine va_putF (D := D) (ci := iPB) (v := .ref h17) (ty := .array (.array .int)) (C := R_PB) (T := F_PB) (N := 11) hx hb (fl_PB hg) (fun _ h9 => h9) t_PB t_PB_ok n_PB hown hK hP hD hS 0 (f0_x8) rfl 3 (by decide) (hg _ k_91) (fun _ h9 => h9) rfl hnm rfl (by decide +kernel) rfl rfl (Nat.le_of_ble_eq_true rfl) d_PB_init_35 (fun H locs hP hD hS => ?_)
  obtain ⟨x9, ex9⟩ : ∃ x : va_W, x = x8.set 0 (a, .inr (iPB, [.ref tt, .ref h10, .int 0, .ref h17, .null, .int 0, .null, .null, .null, .null, .null])) := ⟨_, rfl⟩
  replace hP : va_P D classes x9 H := by rw [ex9]; exact hP
  replace hD : va_D (va_A ws sz) x9 := by rw [ex9]; exact hD
  have lx9 : x9.length = 28 := by rw [ex9, List.length_set, lx8]
  have f1_x9 : x9[1]? = some (tt, .inr (iTT, [.ref qs, .int 0, .int 0, .ref h3, .int 0])) := by rw [ex9]; exact gx_sn (by decide) f1_x8
  have f2_x9 : x9[2]? = some (qs, .inl (cC, 120, .inl (fun _ => 0))) := by rw [ex9]; exact gx_sn (by decide) f2_x8
  have f3_x9 : x9[3]? = some (h3, .inl (cII, 6, .inr (.inr (.inr (.inr (fun j => if j < 6 then some (h3 + 1 + j) else none)))))) := by rw [ex9]; exact gx_sn (by decide) f3_x8
  have f10_x9 : x9[10]? = some (h10, .inl (cII, 6, .inr (.inr (.inr (.inr (fun j => if j < 6 then some (h10 + 1 + j) else none)))))) := by rw [ex9]; exact gx_sn (by decide) f10_x8
  have f17_x9 : x9[17]? = some (h17, .inl (cII, 10, .inr (.inr (.inr (.inr (fun j => if j < 10 then some (h17 + 1 + j) else none)))))) := by rw [ex9]; exact gx_sn (by decide) f17_x8
  have g3_x9 : ∀ i : Nat, i < 6 → x9[3 + 1 + i]? = some (h3 + 1 + i, .inl (cI, 4, .inl (fun _ => 0))) := fun (i : Nat) hi => by rw [ex9]; exact gx_sn (show 0 ≠ 3 + 1 + i by omega) (g3_x8 i hi)
  have g10_x9 : ∀ i : Nat, i < 6 → x9[10 + 1 + i]? = some (h10 + 1 + i, .inl (cI, 4, .inl (fun _ => 0))) := fun (i : Nat) hi => by rw [ex9]; exact gx_sn (show 0 ≠ 10 + 1 + i by omega) (g10_x8 i hi)
  have g17_x9 : ∀ i : Nat, i < 10 → x9[17 + 1 + i]? = some (h17 + 1 + i, .inl (cI, 6, .inl (fun _ => 0))) := fun (i : Nat) hi => by rw [ex9]; exact gx_sn (show 0 ≠ 17 + 1 + i by omega) (g17_x8 i hi)
  have f0_x9 : x9[0]? = some (a, .inr (iPB, [.ref tt, .ref h10, .int 0, .ref h17, .null, .int 0, .null, .null, .null, .null, .null])) := by rw [ex9]; exact gx_ss f0_x8
  refine lv_aload_n hx hb d_PB_init_38 rfl (lv_at hl 0 rfl) ?_
  refine lv_bipush (v := 10) hx hb d_PB_init_39 (by decide) ?_
  refine va_newa (atype := .int) (ty := .int) (a0 := (10, .inl (fun _ => 0))) (N' := 10) hx hb (hg _ k_57) rfl hK hP hD hS hA (fun _ => rfl) (by decide) (by decide) (by decide) (by decide) (by decide) d_PB_init_41 (fun q28 cA H hK9 hP hD hS => ?_)
  have eA := gx_sameI hK9
  rw [eA] at hP hD
  clear eA hK9 cA
  obtain ⟨x10, ex10⟩ : ∃ x : va_W, x = x9 ++ [(q28, .inl (cI, 10, .inl (fun _ => 0)))] := ⟨_, rfl⟩
  replace hP : va_P D classes x10 H := by rw [ex10]; exact hP
  replace hD : va_D (va_A ws sz) x10 := by rw [ex10]; exact hD
  have lx10 : x10.length = 29 := by rw [ex10, List.length_append, lx9]; rfl
  have f0_x10 : x10[0]? = some (a, .inr (iPB, [.ref tt, .ref h10, .int 0, .ref h17, .null, .int 0, .null, .null, .null, .null, .null])) := by rw [ex10]; exact gx_ap f0_x9
  have f1_x10 : x10[1]? = some (tt, .inr (iTT, [.ref qs, .int 0, .int 0, .ref h3, .int 0])) := by rw [ex10]; exact gx_ap f1_x9
  have f2_x10 : x10[2]? = some (qs, .inl (cC, 120, .inl (fun _ => 0))) := by rw [ex10]; exact gx_ap f2_x9
  have f3_x10 : x10[3]? = some (h3, .inl (cII, 6, .inr (.inr (.inr (.inr (fun j => if j < 6 then some (h3 + 1 + j) else none)))))) := by rw [ex10]; exact gx_ap f3_x9
  have f10_x10 : x10[10]? = some (h10, .inl (cII, 6, .inr (.inr (.inr (.inr (fun j => if j < 6 then some (h10 + 1 + j) else none)))))) := by rw [ex10]; exact gx_ap f10_x9
  have f17_x10 : x10[17]? = some (h17, .inl (cII, 10, .inr (.inr (.inr (.inr (fun j => if j < 10 then some (h17 + 1 + j) else none)))))) := by rw [ex10]; exact gx_ap f17_x9
  have g3_x10 : ∀ i : Nat, i < 6 → x10[3 + 1 + i]? = some (h3 + 1 + i, .inl (cI, 4, .inl (fun _ => 0))) := fun (i : Nat) hi => by rw [ex10]; exact gx_ap (g3_x9 i hi)
  have g10_x10 : ∀ i : Nat, i < 6 → x10[10 + 1 + i]? = some (h10 + 1 + i, .inl (cI, 4, .inl (fun _ => 0))) := fun (i : Nat) hi => by rw [ex10]; exact gx_ap (g10_x9 i hi)
  have g17_x10 : ∀ i : Nat, i < 10 → x10[17 + 1 + i]? = some (h17 + 1 + i, .inl (cI, 6, .inl (fun _ => 0))) := fun (i : Nat) hi => by rw [ex10]; exact gx_ap (g17_x9 i hi)
  have f28_x10 : x10[28]? = some (q28, .inl (cI, 10, .inl (fun _ => 0))) := by rw [ex10]; exact gx_lat2 lx9
  refine va_putF (D := D) (ci := iPB) (v := .ref q28) (ty := .array .int) (C := R_PB) (T := F_PB) (N := 11) hx hb (fl_PB hg) (fun _ h9 => h9) t_PB t_PB_ok n_PB hown hK hP hD hS 0 (f0_x10) rfl 4 (by decide) (hg _ k_92) (fun _ h9 => h9) rfl hnm rfl (by decide +kernel) rfl rfl (Nat.le_of_ble_eq_true rfl) d_PB_init_43 (fun H locs hP hD hS => ?_)
  obtain ⟨x11, ex11⟩ : ∃ x : va_W, x = x10.set 0 (a, .inr (iPB, [.ref tt, .ref h10, .int 0, .ref h17, .ref q28, .int 0, .null, .null, .null, .null, .null])) := ⟨_, rfl⟩
  replace hP : va_P D classes x11 H := by rw [ex11]; exact hP
  replace hD : va_D (va_A ws sz) x11 := by rw [ex11]; exact hD
  have lx11 : x11.length = 29 := by rw [ex11, List.length_set, lx10]
  have f1_x11 : x11[1]? = some (tt, .inr (iTT, [.ref qs, .int 0, .int 0, .ref h3, .int 0])) := by rw [ex11]; exact gx_sn (by decide) f1_x10
  have f2_x11 : x11[2]? = some (qs, .inl (cC, 120, .inl (fun _ => 0))) := by rw [ex11]; exact gx_sn (by decide) f2_x10
  have f3_x11 : x11[3]? = some (h3, .inl (cII, 6, .inr (.inr (.inr (.inr (fun j => if j < 6 then some (h3 + 1 + j) else none)))))) := by rw [ex11]; exact gx_sn (by decide) f3_x10
  have f10_x11 : x11[10]? = some (h10, .inl (cII, 6, .inr (.inr (.inr (.inr (fun j => if j < 6 then some (h10 + 1 + j) else none)))))) := by rw [ex11]; exact gx_sn (by decide) f10_x10
  have f17_x11 : x11[17]? = some (h17, .inl (cII, 10, .inr (.inr (.inr (.inr (fun j => if j < 10 then some (h17 + 1 + j) else none)))))) := by rw [ex11]; exact gx_sn (by decide) f17_x10
  have f28_x11 : x11[28]? = some (q28, .inl (cI, 10, .inl (fun _ => 0))) := by rw [ex11]; exact gx_sn (by decide) f28_x10
  have g3_x11 : ∀ i : Nat, i < 6 → x11[3 + 1 + i]? = some (h3 + 1 + i, .inl (cI, 4, .inl (fun _ => 0))) := fun (i : Nat) hi => by rw [ex11]; exact gx_sn (show 0 ≠ 3 + 1 + i by omega) (g3_x10 i hi)
  have g10_x11 : ∀ i : Nat, i < 6 → x11[10 + 1 + i]? = some (h10 + 1 + i, .inl (cI, 4, .inl (fun _ => 0))) := fun (i : Nat) hi => by rw [ex11]; exact gx_sn (show 0 ≠ 10 + 1 + i by omega) (g10_x10 i hi)
  have g17_x11 : ∀ i : Nat, i < 10 → x11[17 + 1 + i]? = some (h17 + 1 + i, .inl (cI, 6, .inl (fun _ => 0))) := fun (i : Nat) hi => by rw [ex11]; exact gx_sn (show 0 ≠ 17 + 1 + i by omega) (g17_x10 i hi)
  have f0_x11 : x11[0]? = some (a, .inr (iPB, [.ref tt, .ref h10, .int 0, .ref h17, .ref q28, .int 0, .null, .null, .null, .null, .null])) := by rw [ex11]; exact gx_ss f0_x10
  refine lv_aload_n hx hb d_PB_init_46 rfl (lv_at hl 0 rfl) ?_
  refine lv_bipush (v := 10) hx hb d_PB_init_47 (by decide) ?_
  refine lv_bipush (v := 6) hx hb d_PB_init_49 (by decide) ?_
  refine gx_mna hx hb hown (hg _ k_58) (fx_aoI F hV _) (hg _ k_57) (gx_nI hK) (gx_nII hK) hP hD hS hA (N := 10) (K := 6) (by decide) (by decide) (by decide) (by decide) (by decide) (by decide) (by decide) (by decide) d_PB_init_51 (fun h29 H locs hP hD hS => ?_)
  obtain ⟨x12, ex12⟩ : ∃ x : va_W, x = x11 ++ gx_grid cI cII h29 10 6 := ⟨_, rfl⟩
  replace hP : va_P D classes x12 H := by rw [ex12]; exact hP
  replace hD : va_D (va_A ws sz) x12 := by rw [ex12]; exact hD
  have lx12 : x12.length = 40 := by rw [ex12, List.length_append, lx11, gx_grid_len]
  have f0_x12 : x12[0]? = some (a, .inr (iPB, [.ref tt, .ref h10, .int 0, .ref h17, .ref q28, .int 0, .null, .null, .null, .null, .null])) := by rw [ex12]; exact gx_ap f0_x11
  have f1_x12 : x12[1]? = some (tt, .inr (iTT, [.ref qs, .int 0, .int 0, .ref h3, .int 0])) := by rw [ex12]; exact gx_ap f1_x11
  have f2_x12 : x12[2]? = some (qs, .inl (cC, 120, .inl (fun _ => 0))) := by rw [ex12]; exact gx_ap f2_x11
  have f3_x12 : x12[3]? = some (h3, .inl (cII, 6, .inr (.inr (.inr (.inr (fun j => if j < 6 then some (h3 + 1 + j) else none)))))) := by rw [ex12]; exact gx_ap f3_x11
  have f10_x12 : x12[10]? = some (h10, .inl (cII, 6, .inr (.inr (.inr (.inr (fun j => if j < 6 then some (h10 + 1 + j) else none)))))) := by rw [ex12]; exact gx_ap f10_x11
  have f17_x12 : x12[17]? = some (h17, .inl (cII, 10, .inr (.inr (.inr (.inr (fun j => if j < 10 then some (h17 + 1 + j) else none)))))) := by rw [ex12]; exact gx_ap f17_x11
  have f28_x12 : x12[28]? = some (q28, .inl (cI, 10, .inl (fun _ => 0))) := by rw [ex12]; exact gx_ap f28_x11
  have g3_x12 : ∀ i : Nat, i < 6 → x12[3 + 1 + i]? = some (h3 + 1 + i, .inl (cI, 4, .inl (fun _ => 0))) := fun (i : Nat) hi => by rw [ex12]; exact gx_ap (g3_x11 i hi)
  have g10_x12 : ∀ i : Nat, i < 6 → x12[10 + 1 + i]? = some (h10 + 1 + i, .inl (cI, 4, .inl (fun _ => 0))) := fun (i : Nat) hi => by rw [ex12]; exact gx_ap (g10_x11 i hi)
  have g17_x12 : ∀ i : Nat, i < 10 → x12[17 + 1 + i]? = some (h17 + 1 + i, .inl (cI, 6, .inl (fun _ => 0))) := fun (i : Nat) hi => by rw [ex12]; exact gx_ap (g17_x11 i hi)
  have f29_x12 : x12[29]? = some (h29, .inl (cII, 10, .inr (.inr (.inr (.inr (fun j => if j < 10 then some (h29 + 1 + j) else none)))))) := by rw [ex12]; exact gx_grid_0 lx11
  have g29_x12 : ∀ i : Nat, i < 10 → x12[29 + 1 + i]? = some (h29 + 1 + i, .inl (cI, 6, .inl (fun _ => 0))) := fun (i : Nat) hi => by rw [ex12]; exact gx_grid_s lx11 hi
  refine va_putF (D := D) (ci := iPB) (v := .ref h29) (ty := .array (.array .int)) (C := R_PB) (T := F_PB) (N := 11) hx hb (fl_PB hg) (fun _ h9 => h9) t_PB t_PB_ok n_PB hown hK hP hD hS 0 (f0_x12) rfl 6 (by decide) (hg _ k_94) (fun _ h9 => h9) rfl hnm rfl (by decide +kernel) rfl rfl (Nat.le_of_ble_eq_true rfl) d_PB_init_55 (fun H locs hP hD hS => ?_)
  obtain ⟨x13, ex13⟩ : ∃ x : va_W, x = x12.set 0 (a, .inr (iPB, [.ref tt, .ref h10, .int 0, .ref h17, .ref q28, .int 0, .ref h29, .null, .null, .null, .null])) := ⟨_, rfl⟩
  replace hP : va_P D classes x13 H := by rw [ex13]; exact hP
  replace hD : va_D (va_A ws sz) x13 := by rw [ex13]; exact hD
  have lx13 : x13.length = 40 := by rw [ex13, List.length_set, lx12]
  have f1_x13 : x13[1]? = some (tt, .inr (iTT, [.ref qs, .int 0, .int 0, .ref h3, .int 0])) := by rw [ex13]; exact gx_sn (by decide) f1_x12
  have f2_x13 : x13[2]? = some (qs, .inl (cC, 120, .inl (fun _ => 0))) := by rw [ex13]; exact gx_sn (by decide) f2_x12
  have f3_x13 : x13[3]? = some (h3, .inl (cII, 6, .inr (.inr (.inr (.inr (fun j => if j < 6 then some (h3 + 1 + j) else none)))))) := by rw [ex13]; exact gx_sn (by decide) f3_x12
  have f10_x13 : x13[10]? = some (h10, .inl (cII, 6, .inr (.inr (.inr (.inr (fun j => if j < 6 then some (h10 + 1 + j) else none)))))) := by rw [ex13]; exact gx_sn (by decide) f10_x12
  have f17_x13 : x13[17]? = some (h17, .inl (cII, 10, .inr (.inr (.inr (.inr (fun j => if j < 10 then some (h17 + 1 + j) else none)))))) := by rw [ex13]; exact gx_sn (by decide) f17_x12
  have f28_x13 : x13[28]? = some (q28, .inl (cI, 10, .inl (fun _ => 0))) := by rw [ex13]; exact gx_sn (by decide) f28_x12
  have f29_x13 : x13[29]? = some (h29, .inl (cII, 10, .inr (.inr (.inr (.inr (fun j => if j < 10 then some (h29 + 1 + j) else none)))))) := by rw [ex13]; exact gx_sn (by decide) f29_x12
  have g3_x13 : ∀ i : Nat, i < 6 → x13[3 + 1 + i]? = some (h3 + 1 + i, .inl (cI, 4, .inl (fun _ => 0))) := fun (i : Nat) hi => by rw [ex13]; exact gx_sn (show 0 ≠ 3 + 1 + i by omega) (g3_x12 i hi)
  have g10_x13 : ∀ i : Nat, i < 6 → x13[10 + 1 + i]? = some (h10 + 1 + i, .inl (cI, 4, .inl (fun _ => 0))) := fun (i : Nat) hi => by rw [ex13]; exact gx_sn (show 0 ≠ 10 + 1 + i by omega) (g10_x12 i hi)
  have g17_x13 : ∀ i : Nat, i < 10 → x13[17 + 1 + i]? = some (h17 + 1 + i, .inl (cI, 6, .inl (fun _ => 0))) := fun (i : Nat) hi => by rw [ex13]; exact gx_sn (show 0 ≠ 17 + 1 + i by omega) (g17_x12 i hi)
  have g29_x13 : ∀ i : Nat, i < 10 → x13[29 + 1 + i]? = some (h29 + 1 + i, .inl (cI, 6, .inl (fun _ => 0))) := fun (i : Nat) hi => by rw [ex13]; exact gx_sn (show 0 ≠ 29 + 1 + i by omega) (g29_x12 i hi)
  have f0_x13 : x13[0]? = some (a, .inr (iPB, [.ref tt, .ref h10, .int 0, .ref h17, .ref q28, .int 0, .ref h29, .null, .null, .null, .null])) := by rw [ex13]; exact gx_ss f0_x12
  refine lv_aload_n hx hb d_PB_init_58 rfl (lv_at hl 0 rfl) ?_
  refine lv_bipush (v := 10) hx hb d_PB_init_59 (by decide) ?_
  refine lv_bipush (v := 6) hx hb d_PB_init_61 (by decide) ?_
  refine gx_mna hx hb hown (hg _ k_58) (fx_aoI F hV _) (hg _ k_57) (gx_nI hK) (gx_nII hK) hP hD hS hA (N := 10) (K := 6) (by decide) (by decide) (by decide) (by decide) (by decide) (by decide) (by decide) (by decide) d_PB_init_63 (fun h40 H locs hP hD hS => ?_)
  obtain ⟨x14, ex14⟩ : ∃ x : va_W, x = x13 ++ gx_grid cI cII h40 10 6 := ⟨_, rfl⟩
  replace hP : va_P D classes x14 H := by rw [ex14]; exact hP
  replace hD : va_D (va_A ws sz) x14 := by rw [ex14]; exact hD
  have lx14 : x14.length = 51 := by rw [ex14, List.length_append, lx13, gx_grid_len]
  have f0_x14 : x14[0]? = some (a, .inr (iPB, [.ref tt, .ref h10, .int 0, .ref h17, .ref q28, .int 0, .ref h29, .null, .null, .null, .null])) := by rw [ex14]; exact gx_ap f0_x13
  have f1_x14 : x14[1]? = some (tt, .inr (iTT, [.ref qs, .int 0, .int 0, .ref h3, .int 0])) := by rw [ex14]; exact gx_ap f1_x13
  have f2_x14 : x14[2]? = some (qs, .inl (cC, 120, .inl (fun _ => 0))) := by rw [ex14]; exact gx_ap f2_x13
  have f3_x14 : x14[3]? = some (h3, .inl (cII, 6, .inr (.inr (.inr (.inr (fun j => if j < 6 then some (h3 + 1 + j) else none)))))) := by rw [ex14]; exact gx_ap f3_x13
  have f10_x14 : x14[10]? = some (h10, .inl (cII, 6, .inr (.inr (.inr (.inr (fun j => if j < 6 then some (h10 + 1 + j) else none)))))) := by rw [ex14]; exact gx_ap f10_x13
  have f17_x14 : x14[17]? = some (h17, .inl (cII, 10, .inr (.inr (.inr (.inr (fun j => if j < 10 then some (h17 + 1 + j) else none)))))) := by rw [ex14]; exact gx_ap f17_x13
  have f28_x14 : x14[28]? = some (q28, .inl (cI, 10, .inl (fun _ => 0))) := by rw [ex14]; exact gx_ap f28_x13
  have f29_x14 : x14[29]? = some (h29, .inl (cII, 10, .inr (.inr (.inr (.inr (fun j => if j < 10 then some (h29 + 1 + j) else none)))))) := by rw [ex14]; exact gx_ap f29_x13
  have g3_x14 : ∀ i : Nat, i < 6 → x14[3 + 1 + i]? = some (h3 + 1 + i, .inl (cI, 4, .inl (fun _ => 0))) := fun (i : Nat) hi => by rw [ex14]; exact gx_ap (g3_x13 i hi)
  have g10_x14 : ∀ i : Nat, i < 6 → x14[10 + 1 + i]? = some (h10 + 1 + i, .inl (cI, 4, .inl (fun _ => 0))) := fun (i : Nat) hi => by rw [ex14]; exact gx_ap (g10_x13 i hi)
  have g17_x14 : ∀ i : Nat, i < 10 → x14[17 + 1 + i]? = some (h17 + 1 + i, .inl (cI, 6, .inl (fun _ => 0))) := fun (i : Nat) hi => by rw [ex14]; exact gx_ap (g17_x13 i hi)
  have g29_x14 : ∀ i : Nat, i < 10 → x14[29 + 1 + i]? = some (h29 + 1 + i, .inl (cI, 6, .inl (fun _ => 0))) := fun (i : Nat) hi => by rw [ex14]; exact gx_ap (g29_x13 i hi)
  have f40_x14 : x14[40]? = some (h40, .inl (cII, 10, .inr (.inr (.inr (.inr (fun j => if j < 10 then some (h40 + 1 + j) else none)))))) := by rw [ex14]; exact gx_grid_0 lx13
  have g40_x14 : ∀ i : Nat, i < 10 → x14[40 + 1 + i]? = some (h40 + 1 + i, .inl (cI, 6, .inl (fun _ => 0))) := fun (i : Nat) hi => by rw [ex14]; exact gx_grid_s lx13 hi
  refine va_putF (D := D) (ci := iPB) (v := .ref h40) (ty := .array (.array .int)) (C := R_PB) (T := F_PB) (N := 11) hx hb (fl_PB hg) (fun _ h9 => h9) t_PB t_PB_ok n_PB hown hK hP hD hS 0 (f0_x14) rfl 7 (by decide) (hg _ k_95) (fun _ h9 => h9) rfl hnm rfl (by decide +kernel) rfl rfl (Nat.le_of_ble_eq_true rfl) d_PB_init_67 (fun H locs hP hD hS => ?_)
  obtain ⟨x15, ex15⟩ : ∃ x : va_W, x = x14.set 0 (a, .inr (iPB, [.ref tt, .ref h10, .int 0, .ref h17, .ref q28, .int 0, .ref h29, .ref h40, .null, .null, .null])) := ⟨_, rfl⟩
  replace hP : va_P D classes x15 H := by rw [ex15]; exact hP
  replace hD : va_D (va_A ws sz) x15 := by rw [ex15]; exact hD
  have lx15 : x15.length = 51 := by rw [ex15, List.length_set, lx14]
  have f1_x15 : x15[1]? = some (tt, .inr (iTT, [.ref qs, .int 0, .int 0, .ref h3, .int 0])) := by rw [ex15]; exact gx_sn (by decide) f1_x14
  have f2_x15 : x15[2]? = some (qs, .inl (cC, 120, .inl (fun _ => 0))) := by rw [ex15]; exact gx_sn (by decide) f2_x14
  have f3_x15 : x15[3]? = some (h3, .inl (cII, 6, .inr (.inr (.inr (.inr (fun j => if j < 6 then some (h3 + 1 + j) else none)))))) := by rw [ex15]; exact gx_sn (by decide) f3_x14
  have f10_x15 : x15[10]? = some (h10, .inl (cII, 6, .inr (.inr (.inr (.inr (fun j => if j < 6 then some (h10 + 1 + j) else none)))))) := by rw [ex15]; exact gx_sn (by decide) f10_x14
  have f17_x15 : x15[17]? = some (h17, .inl (cII, 10, .inr (.inr (.inr (.inr (fun j => if j < 10 then some (h17 + 1 + j) else none)))))) := by rw [ex15]; exact gx_sn (by decide) f17_x14
  have f28_x15 : x15[28]? = some (q28, .inl (cI, 10, .inl (fun _ => 0))) := by rw [ex15]; exact gx_sn (by decide) f28_x14
  have f29_x15 : x15[29]? = some (h29, .inl (cII, 10, .inr (.inr (.inr (.inr (fun j => if j < 10 then some (h29 + 1 + j) else none)))))) := by rw [ex15]; exact gx_sn (by decide) f29_x14
  have f40_x15 : x15[40]? = some (h40, .inl (cII, 10, .inr (.inr (.inr (.inr (fun j => if j < 10 then some (h40 + 1 + j) else none)))))) := by rw [ex15]; exact gx_sn (by decide) f40_x14
  have g3_x15 : ∀ i : Nat, i < 6 → x15[3 + 1 + i]? = some (h3 + 1 + i, .inl (cI, 4, .inl (fun _ => 0))) := fun (i : Nat) hi => by rw [ex15]; exact gx_sn (show 0 ≠ 3 + 1 + i by omega) (g3_x14 i hi)
  have g10_x15 : ∀ i : Nat, i < 6 → x15[10 + 1 + i]? = some (h10 + 1 + i, .inl (cI, 4, .inl (fun _ => 0))) := fun (i : Nat) hi => by rw [ex15]; exact gx_sn (show 0 ≠ 10 + 1 + i by omega) (g10_x14 i hi)
  have g17_x15 : ∀ i : Nat, i < 10 → x15[17 + 1 + i]? = some (h17 + 1 + i, .inl (cI, 6, .inl (fun _ => 0))) := fun (i : Nat) hi => by rw [ex15]; exact gx_sn (show 0 ≠ 17 + 1 + i by omega) (g17_x14 i hi)
  have g29_x15 : ∀ i : Nat, i < 10 → x15[29 + 1 + i]? = some (h29 + 1 + i, .inl (cI, 6, .inl (fun _ => 0))) := fun (i : Nat) hi => by rw [ex15]; exact gx_sn (show 0 ≠ 29 + 1 + i by omega) (g29_x14 i hi)
  have g40_x15 : ∀ i : Nat, i < 10 → x15[40 + 1 + i]? = some (h40 + 1 + i, .inl (cI, 6, .inl (fun _ => 0))) := fun (i : Nat) hi => by rw [ex15]; exact gx_sn (show 0 ≠ 40 + 1 + i by omega) (g40_x14 i hi)
  have f0_x15 : x15[0]? = some (a, .inr (iPB, [.ref tt, .ref h10, .int 0, .ref h17, .ref q28, .int 0, .ref h29, .ref h40, .null, .null, .null])) := by rw [ex15]; exact gx_ss f0_x14
  refine lv_aload_n hx hb d_PB_init_70 rfl (lv_at hl 0 rfl) ?_
  refine lv_bipush (v := 10) hx hb d_PB_init_71 (by decide) ?_
  refine lv_bipush (v := 6) hx hb d_PB_init_73 (by decide) ?_
  refine gx_mna hx hb hown (hg _ k_58) (fx_aoI F hV _) (hg _ k_57) (gx_nI hK) (gx_nII hK) hP hD hS hA (N := 10) (K := 6) (by decide) (by decide) (by decide) (by decide) (by decide) (by decide) (by decide) (by decide) d_PB_init_75 (fun h51 H locs hP hD hS => ?_)
  obtain ⟨x16, ex16⟩ : ∃ x : va_W, x = x15 ++ gx_grid cI cII h51 10 6 := ⟨_, rfl⟩
  replace hP : va_P D classes x16 H := by rw [ex16]; exact hP
  replace hD : va_D (va_A ws sz) x16 := by rw [ex16]; exact hD
  have lx16 : x16.length = 62 := by rw [ex16, List.length_append, lx15, gx_grid_len]
  have f0_x16 : x16[0]? = some (a, .inr (iPB, [.ref tt, .ref h10, .int 0, .ref h17, .ref q28, .int 0, .ref h29, .ref h40, .null, .null, .null])) := by rw [ex16]; exact gx_ap f0_x15
  have f1_x16 : x16[1]? = some (tt, .inr (iTT, [.ref qs, .int 0, .int 0, .ref h3, .int 0])) := by rw [ex16]; exact gx_ap f1_x15
  have f2_x16 : x16[2]? = some (qs, .inl (cC, 120, .inl (fun _ => 0))) := by rw [ex16]; exact gx_ap f2_x15
  have f3_x16 : x16[3]? = some (h3, .inl (cII, 6, .inr (.inr (.inr (.inr (fun j => if j < 6 then some (h3 + 1 + j) else none)))))) := by rw [ex16]; exact gx_ap f3_x15
  have f10_x16 : x16[10]? = some (h10, .inl (cII, 6, .inr (.inr (.inr (.inr (fun j => if j < 6 then some (h10 + 1 + j) else none)))))) := by rw [ex16]; exact gx_ap f10_x15
  have f17_x16 : x16[17]? = some (h17, .inl (cII, 10, .inr (.inr (.inr (.inr (fun j => if j < 10 then some (h17 + 1 + j) else none)))))) := by rw [ex16]; exact gx_ap f17_x15
  have f28_x16 : x16[28]? = some (q28, .inl (cI, 10, .inl (fun _ => 0))) := by rw [ex16]; exact gx_ap f28_x15
  have f29_x16 : x16[29]? = some (h29, .inl (cII, 10, .inr (.inr (.inr (.inr (fun j => if j < 10 then some (h29 + 1 + j) else none)))))) := by rw [ex16]; exact gx_ap f29_x15
  have f40_x16 : x16[40]? = some (h40, .inl (cII, 10, .inr (.inr (.inr (.inr (fun j => if j < 10 then some (h40 + 1 + j) else none)))))) := by rw [ex16]; exact gx_ap f40_x15
  have g3_x16 : ∀ i : Nat, i < 6 → x16[3 + 1 + i]? = some (h3 + 1 + i, .inl (cI, 4, .inl (fun _ => 0))) := fun (i : Nat) hi => by rw [ex16]; exact gx_ap (g3_x15 i hi)
  have g10_x16 : ∀ i : Nat, i < 6 → x16[10 + 1 + i]? = some (h10 + 1 + i, .inl (cI, 4, .inl (fun _ => 0))) := fun (i : Nat) hi => by rw [ex16]; exact gx_ap (g10_x15 i hi)
  have g17_x16 : ∀ i : Nat, i < 10 → x16[17 + 1 + i]? = some (h17 + 1 + i, .inl (cI, 6, .inl (fun _ => 0))) := fun (i : Nat) hi => by rw [ex16]; exact gx_ap (g17_x15 i hi)
  have g29_x16 : ∀ i : Nat, i < 10 → x16[29 + 1 + i]? = some (h29 + 1 + i, .inl (cI, 6, .inl (fun _ => 0))) := fun (i : Nat) hi => by rw [ex16]; exact gx_ap (g29_x15 i hi)
  have g40_x16 : ∀ i : Nat, i < 10 → x16[40 + 1 + i]? = some (h40 + 1 + i, .inl (cI, 6, .inl (fun _ => 0))) := fun (i : Nat) hi => by rw [ex16]; exact gx_ap (g40_x15 i hi)
  have f51_x16 : x16[51]? = some (h51, .inl (cII, 10, .inr (.inr (.inr (.inr (fun j => if j < 10 then some (h51 + 1 + j) else none)))))) := by rw [ex16]; exact gx_grid_0 lx15
  have g51_x16 : ∀ i : Nat, i < 10 → x16[51 + 1 + i]? = some (h51 + 1 + i, .inl (cI, 6, .inl (fun _ => 0))) := fun (i : Nat) hi => by rw [ex16]; exact gx_grid_s lx15 hi
  refine va_putF (D := D) (ci := iPB) (v := .ref h51) (ty := .array (.array .int)) (C := R_PB) (T := F_PB) (N := 11) hx hb (fl_PB hg) (fun _ h9 => h9) t_PB t_PB_ok n_PB hown hK hP hD hS 0 (f0_x16) rfl 8 (by decide) (hg _ k_96) (fun _ h9 => h9) rfl hnm rfl (by decide +kernel) rfl rfl (Nat.le_of_ble_eq_true rfl) d_PB_init_79 (fun H locs hP hD hS => ?_)
  obtain ⟨x17, ex17⟩ : ∃ x : va_W, x = x16.set 0 (a, .inr (iPB, [.ref tt, .ref h10, .int 0, .ref h17, .ref q28, .int 0, .ref h29, .ref h40, .ref h51, .null, .null])) := ⟨_, rfl⟩
  replace hP : va_P D classes x17 H := by rw [ex17]; exact hP
  replace hD : va_D (va_A ws sz) x17 := by rw [ex17]; exact hD
  have lx17 : x17.length = 62 := by rw [ex17, List.length_set, lx16]
  have f1_x17 : x17[1]? = some (tt, .inr (iTT, [.ref qs, .int 0, .int 0, .ref h3, .int 0])) := by rw [ex17]; exact gx_sn (by decide) f1_x16
  have f2_x17 : x17[2]? = some (qs, .inl (cC, 120, .inl (fun _ => 0))) := by rw [ex17]; exact gx_sn (by decide) f2_x16
  have f3_x17 : x17[3]? = some (h3, .inl (cII, 6, .inr (.inr (.inr (.inr (fun j => if j < 6 then some (h3 + 1 + j) else none)))))) := by rw [ex17]; exact gx_sn (by decide) f3_x16
  have f10_x17 : x17[10]? = some (h10, .inl (cII, 6, .inr (.inr (.inr (.inr (fun j => if j < 6 then some (h10 + 1 + j) else none)))))) := by rw [ex17]; exact gx_sn (by decide) f10_x16
  have f17_x17 : x17[17]? = some (h17, .inl (cII, 10, .inr (.inr (.inr (.inr (fun j => if j < 10 then some (h17 + 1 + j) else none)))))) := by rw [ex17]; exact gx_sn (by decide) f17_x16
  have f28_x17 : x17[28]? = some (q28, .inl (cI, 10, .inl (fun _ => 0))) := by rw [ex17]; exact gx_sn (by decide) f28_x16
  have f29_x17 : x17[29]? = some (h29, .inl (cII, 10, .inr (.inr (.inr (.inr (fun j => if j < 10 then some (h29 + 1 + j) else none)))))) := by rw [ex17]; exact gx_sn (by decide) f29_x16
  have f40_x17 : x17[40]? = some (h40, .inl (cII, 10, .inr (.inr (.inr (.inr (fun j => if j < 10 then some (h40 + 1 + j) else none)))))) := by rw [ex17]; exact gx_sn (by decide) f40_x16
  have f51_x17 : x17[51]? = some (h51, .inl (cII, 10, .inr (.inr (.inr (.inr (fun j => if j < 10 then some (h51 + 1 + j) else none)))))) := by rw [ex17]; exact gx_sn (by decide) f51_x16
  have g3_x17 : ∀ i : Nat, i < 6 → x17[3 + 1 + i]? = some (h3 + 1 + i, .inl (cI, 4, .inl (fun _ => 0))) := fun (i : Nat) hi => by rw [ex17]; exact gx_sn (show 0 ≠ 3 + 1 + i by omega) (g3_x16 i hi)
  have g10_x17 : ∀ i : Nat, i < 6 → x17[10 + 1 + i]? = some (h10 + 1 + i, .inl (cI, 4, .inl (fun _ => 0))) := fun (i : Nat) hi => by rw [ex17]; exact gx_sn (show 0 ≠ 10 + 1 + i by omega) (g10_x16 i hi)
  have g17_x17 : ∀ i : Nat, i < 10 → x17[17 + 1 + i]? = some (h17 + 1 + i, .inl (cI, 6, .inl (fun _ => 0))) := fun (i : Nat) hi => by rw [ex17]; exact gx_sn (show 0 ≠ 17 + 1 + i by omega) (g17_x16 i hi)
  have g29_x17 : ∀ i : Nat, i < 10 → x17[29 + 1 + i]? = some (h29 + 1 + i, .inl (cI, 6, .inl (fun _ => 0))) := fun (i : Nat) hi => by rw [ex17]; exact gx_sn (show 0 ≠ 29 + 1 + i by omega) (g29_x16 i hi)
  have g40_x17 : ∀ i : Nat, i < 10 → x17[40 + 1 + i]? = some (h40 + 1 + i, .inl (cI, 6, .inl (fun _ => 0))) := fun (i : Nat) hi => by rw [ex17]; exact gx_sn (show 0 ≠ 40 + 1 + i by omega) (g40_x16 i hi)
  have g51_x17 : ∀ i : Nat, i < 10 → x17[51 + 1 + i]? = some (h51 + 1 + i, .inl (cI, 6, .inl (fun _ => 0))) := fun (i : Nat) hi => by rw [ex17]; exact gx_sn (show 0 ≠ 51 + 1 + i by omega) (g51_x16 i hi)
  have f0_x17 : x17[0]? = some (a, .inr (iPB, [.ref tt, .ref h10, .int 0, .ref h17, .ref q28, .int 0, .ref h29, .ref h40, .ref h51, .null, .null])) := by rw [ex17]; exact gx_ss f0_x16
  refine lv_aload_n hx hb d_PB_init_82 rfl (lv_at hl 0 rfl) ?_
  refine va_new (fs := [.int 0, .null, .int 0]) hx hb (fl_AL hg) (fun _ h9 => h9) t_AL t_AL_ok hown (hg _ k_59) (hg _ k_60) (hg _ k_5) hK hP hD hS hA (ci := iAL) rfl (by decide +kernel) (by decide) (by decide) d_PB_init_83 (fun q62 H hP hD hS => ?_)
  obtain ⟨x18, ex18⟩ : ∃ x : va_W, x = x17 ++ [(q62, .inr (iAL, [.int 0, .null, .int 0]))] := ⟨_, rfl⟩
  replace hP : va_P D classes x18 H := by rw [ex18]; exact hP
  replace hD : va_D (va_A ws sz) x18 := by rw [ex18]; exact hD
  have lx18 : x18.length = 63 := by rw [ex18, List.length_append, lx17]; rfl
  have f0_x18 : x18[0]? = some (a, .inr (iPB, [.ref tt, .ref h10, .int 0, .ref h17, .ref q28, .int 0, .ref h29, .ref h40, .ref h51, .null, .null])) := by rw [ex18]; exact gx_ap f0_x17
  have f1_x18 : x18[1]? = some (tt, .inr (iTT, [.ref qs, .int 0, .int 0, .ref h3, .int 0])) := by rw [ex18]; exact gx_ap f1_x17
  have f2_x18 : x18[2]? = some (qs, .inl (cC, 120, .inl (fun _ => 0))) := by rw [ex18]; exact gx_ap f2_x17
  have f3_x18 : x18[3]? = some (h3, .inl (cII, 6, .inr (.inr (.inr (.inr (fun j => if j < 6 then some (h3 + 1 + j) else none)))))) := by rw [ex18]; exact gx_ap f3_x17
  have f10_x18 : x18[10]? = some (h10, .inl (cII, 6, .inr (.inr (.inr (.inr (fun j => if j < 6 then some (h10 + 1 + j) else none)))))) := by rw [ex18]; exact gx_ap f10_x17
  have f17_x18 : x18[17]? = some (h17, .inl (cII, 10, .inr (.inr (.inr (.inr (fun j => if j < 10 then some (h17 + 1 + j) else none)))))) := by rw [ex18]; exact gx_ap f17_x17
  have f28_x18 : x18[28]? = some (q28, .inl (cI, 10, .inl (fun _ => 0))) := by rw [ex18]; exact gx_ap f28_x17
  have f29_x18 : x18[29]? = some (h29, .inl (cII, 10, .inr (.inr (.inr (.inr (fun j => if j < 10 then some (h29 + 1 + j) else none)))))) := by rw [ex18]; exact gx_ap f29_x17
  have f40_x18 : x18[40]? = some (h40, .inl (cII, 10, .inr (.inr (.inr (.inr (fun j => if j < 10 then some (h40 + 1 + j) else none)))))) := by rw [ex18]; exact gx_ap f40_x17
  have f51_x18 : x18[51]? = some (h51, .inl (cII, 10, .inr (.inr (.inr (.inr (fun j => if j < 10 then some (h51 + 1 + j) else none)))))) := by rw [ex18]; exact gx_ap f51_x17
  have g3_x18 : ∀ i : Nat, i < 6 → x18[3 + 1 + i]? = some (h3 + 1 + i, .inl (cI, 4, .inl (fun _ => 0))) := fun (i : Nat) hi => by rw [ex18]; exact gx_ap (g3_x17 i hi)
  have g10_x18 : ∀ i : Nat, i < 6 → x18[10 + 1 + i]? = some (h10 + 1 + i, .inl (cI, 4, .inl (fun _ => 0))) := fun (i : Nat) hi => by rw [ex18]; exact gx_ap (g10_x17 i hi)
  have g17_x18 : ∀ i : Nat, i < 10 → x18[17 + 1 + i]? = some (h17 + 1 + i, .inl (cI, 6, .inl (fun _ => 0))) := fun (i : Nat) hi => by rw [ex18]; exact gx_ap (g17_x17 i hi)
  have g29_x18 : ∀ i : Nat, i < 10 → x18[29 + 1 + i]? = some (h29 + 1 + i, .inl (cI, 6, .inl (fun _ => 0))) := fun (i : Nat) hi => by rw [ex18]; exact gx_ap (g29_x17 i hi)
  have g40_x18 : ∀ i : Nat, i < 10 → x18[40 + 1 + i]? = some (h40 + 1 + i, .inl (cI, 6, .inl (fun _ => 0))) := fun (i : Nat) hi => by rw [ex18]; exact gx_ap (g40_x17 i hi)
  have g51_x18 : ∀ i : Nat, i < 10 → x18[51 + 1 + i]? = some (h51 + 1 + i, .inl (cI, 6, .inl (fun _ => 0))) := fun (i : Nat) hi => by rw [ex18]; exact gx_ap (g51_x17 i hi)
  have f62_x18 : x18[62]? = some (q62, .inr (iAL, [.int 0, .null, .int 0])) := by rw [ex18]; exact gx_lat2 lx17
  refine lv_dup hx hb d_PB_init_86 rfl ?_
  refine gx_callv (va_runI (As := []) (rest := [.ref q62, .ref a]) ⟨hx, hb, hml, hown, gx_nil⟩ (c_AL_init F f62_x18 _) ⟨gx_cb (hg _ k_63) (hg _ k_5) (hg _ k_61) nd_AL_init ⟨by decide, by decide⟩, rfl, hg _ k_62⟩ (gx_preS hV hP hD hS hA0) rfl rfl hl.1 rfl (lv_room (Nat.le_of_ble_eq_true rfl)) d_PB_init_87 ⟨by decide, by decide⟩) hD hS hA (fun w1 H locs h_87 hP hD hS => ?_)
  rw [h_87] at hP hD
  obtain ⟨x19, ex19⟩ : ∃ x : va_W, x = x18.set 62 (q62, .inr (iAL, [.int 0, .ref (fx_e0 F), .int 0])) := ⟨_, rfl⟩
  replace hP : va_P D classes x19 H := by rw [ex19]; exact hP
  replace hD : va_D (va_A ws sz) x19 := by rw [ex19]; exact hD
  have lx19 : x19.length = 63 := by rw [ex19, List.length_set, lx18]
  have f0_x19 : x19[0]? = some (a, .inr (iPB, [.ref tt, .ref h10, .int 0, .ref h17, .ref q28, .int 0, .ref h29, .ref h40, .ref h51, .null, .null])) := by rw [ex19]; exact gx_sn (by decide) f0_x18
  have f1_x19 : x19[1]? = some (tt, .inr (iTT, [.ref qs, .int 0, .int 0, .ref h3, .int 0])) := by rw [ex19]; exact gx_sn (by decide) f1_x18
  have f2_x19 : x19[2]? = some (qs, .inl (cC, 120, .inl (fun _ => 0))) := by rw [ex19]; exact gx_sn (by decide) f2_x18
  have f3_x19 : x19[3]? = some (h3, .inl (cII, 6, .inr (.inr (.inr (.inr (fun j => if j < 6 then some (h3 + 1 + j) else none)))))) := by rw [ex19]; exact gx_sn (by decide) f3_x18
  have f10_x19 : x19[10]? = some (h10, .inl (cII, 6, .inr (.inr (.inr (.inr (fun j => if j < 6 then some (h10 + 1 + j) else none)))))) := by rw [ex19]; exact gx_sn (by decide) f10_x18
  have f17_x19 : x19[17]? = some (h17, .inl (cII, 10, .inr (.inr (.inr (.inr (fun j => if j < 10 then some (h17 + 1 + j) else none)))))) := by rw [ex19]; exact gx_sn (by decide) f17_x18
  have f28_x19 : x19[28]? = some (q28, .inl (cI, 10, .inl (fun _ => 0))) := by rw [ex19]; exact gx_sn (by decide) f28_x18
  have f29_x19 : x19[29]? = some (h29, .inl (cII, 10, .inr (.inr (.inr (.inr (fun j => if j < 10 then some (h29 + 1 + j) else none)))))) := by rw [ex19]; exact gx_sn (by decide) f29_x18
  have f40_x19 : x19[40]? = some (h40, .inl (cII, 10, .inr (.inr (.inr (.inr (fun j => if j < 10 then some (h40 + 1 + j) else none)))))) := by rw [ex19]; exact gx_sn (by decide) f40_x18
  have f51_x19 : x19[51]? = some (h51, .inl (cII, 10, .inr (.inr (.inr (.inr (fun j => if j < 10 then some (h51 + 1 + j) else none)))))) := by rw [ex19]; exact gx_sn (by decide) f51_x18
  have g3_x19 : ∀ i : Nat, i < 6 → x19[3 + 1 + i]? = some (h3 + 1 + i, .inl (cI, 4, .inl (fun _ => 0))) := fun (i : Nat) hi => by rw [ex19]; exact gx_sn (show 62 ≠ 3 + 1 + i by omega) (g3_x18 i hi)
  have g10_x19 : ∀ i : Nat, i < 6 → x19[10 + 1 + i]? = some (h10 + 1 + i, .inl (cI, 4, .inl (fun _ => 0))) := fun (i : Nat) hi => by rw [ex19]; exact gx_sn (show 62 ≠ 10 + 1 + i by omega) (g10_x18 i hi)
  have g17_x19 : ∀ i : Nat, i < 10 → x19[17 + 1 + i]? = some (h17 + 1 + i, .inl (cI, 6, .inl (fun _ => 0))) := fun (i : Nat) hi => by rw [ex19]; exact gx_sn (show 62 ≠ 17 + 1 + i by omega) (g17_x18 i hi)
  have g29_x19 : ∀ i : Nat, i < 10 → x19[29 + 1 + i]? = some (h29 + 1 + i, .inl (cI, 6, .inl (fun _ => 0))) := fun (i : Nat) hi => by rw [ex19]; exact gx_sn (show 62 ≠ 29 + 1 + i by omega) (g29_x18 i hi)
  have g40_x19 : ∀ i : Nat, i < 10 → x19[40 + 1 + i]? = some (h40 + 1 + i, .inl (cI, 6, .inl (fun _ => 0))) := fun (i : Nat) hi => by rw [ex19]; exact gx_sn (show 62 ≠ 40 + 1 + i by omega) (g40_x18 i hi)
  have g51_x19 : ∀ i : Nat, i < 10 → x19[51 + 1 + i]? = some (h51 + 1 + i, .inl (cI, 6, .inl (fun _ => 0))) := fun (i : Nat) hi => by rw [ex19]; exact gx_sn (show 62 ≠ 51 + 1 + i by omega) (g51_x18 i hi)
  have f62_x19 : x19[62]? = some (q62, .inr (iAL, [.int 0, .ref (fx_e0 F), .int 0])) := by rw [ex19]; exact gx_ss f62_x18
  refine va_putF (D := D) (ci := iPB) (v := .ref q62) (ty := .object "java/util/ArrayList") (C := R_PB) (T := F_PB) (N := 11) hx hb (fl_PB hg) (fun _ h9 => h9) t_PB t_PB_ok n_PB hown hK hP hD hS 0 (f0_x19) rfl 9 (by decide) (hg _ k_97) (fun _ h9 => h9) rfl hnm rfl (by decide +kernel) rfl rfl (Nat.le_of_ble_eq_true rfl) d_PB_init_90 (fun H locs hP hD hS => ?_)
  obtain ⟨x20, ex20⟩ : ∃ x : va_W, x = x19.set 0 (a, .inr (iPB, [.ref tt, .ref h10, .int 0, .ref h17, .ref q28, .int 0, .ref h29, .ref h40, .ref h51, .ref q62, .null])) := ⟨_, rfl⟩
  replace hP : va_P D classes x20 H := by rw [ex20]; exact hP
  replace hD : va_D (va_A ws sz) x20 := by rw [ex20]; exact hD
  have lx20 : x20.length = 63 := by rw [ex20, List.length_set, lx19]
  have f1_x20 : x20[1]? = some (tt, .inr (iTT, [.ref qs, .int 0, .int 0, .ref h3, .int 0])) := by rw [ex20]; exact gx_sn (by decide) f1_x19
  have f2_x20 : x20[2]? = some (qs, .inl (cC, 120, .inl (fun _ => 0))) := by rw [ex20]; exact gx_sn (by decide) f2_x19
  have f3_x20 : x20[3]? = some (h3, .inl (cII, 6, .inr (.inr (.inr (.inr (fun j => if j < 6 then some (h3 + 1 + j) else none)))))) := by rw [ex20]; exact gx_sn (by decide) f3_x19
  have f10_x20 : x20[10]? = some (h10, .inl (cII, 6, .inr (.inr (.inr (.inr (fun j => if j < 6 then some (h10 + 1 + j) else none)))))) := by rw [ex20]; exact gx_sn (by decide) f10_x19
  have f17_x20 : x20[17]? = some (h17, .inl (cII, 10, .inr (.inr (.inr (.inr (fun j => if j < 10 then some (h17 + 1 + j) else none)))))) := by rw [ex20]; exact gx_sn (by decide) f17_x19
  have f28_x20 : x20[28]? = some (q28, .inl (cI, 10, .inl (fun _ => 0))) := by rw [ex20]; exact gx_sn (by decide) f28_x19
  have f29_x20 : x20[29]? = some (h29, .inl (cII, 10, .inr (.inr (.inr (.inr (fun j => if j < 10 then some (h29 + 1 + j) else none)))))) := by rw [ex20]; exact gx_sn (by decide) f29_x19
  have f40_x20 : x20[40]? = some (h40, .inl (cII, 10, .inr (.inr (.inr (.inr (fun j => if j < 10 then some (h40 + 1 + j) else none)))))) := by rw [ex20]; exact gx_sn (by decide) f40_x19
  have f51_x20 : x20[51]? = some (h51, .inl (cII, 10, .inr (.inr (.inr (.inr (fun j => if j < 10 then some (h51 + 1 + j) else none)))))) := by rw [ex20]; exact gx_sn (by decide) f51_x19
  have f62_x20 : x20[62]? = some (q62, .inr (iAL, [.int 0, .ref (fx_e0 F), .int 0])) := by rw [ex20]; exact gx_sn (by decide) f62_x19
  have g3_x20 : ∀ i : Nat, i < 6 → x20[3 + 1 + i]? = some (h3 + 1 + i, .inl (cI, 4, .inl (fun _ => 0))) := fun (i : Nat) hi => by rw [ex20]; exact gx_sn (show 0 ≠ 3 + 1 + i by omega) (g3_x19 i hi)
  have g10_x20 : ∀ i : Nat, i < 6 → x20[10 + 1 + i]? = some (h10 + 1 + i, .inl (cI, 4, .inl (fun _ => 0))) := fun (i : Nat) hi => by rw [ex20]; exact gx_sn (show 0 ≠ 10 + 1 + i by omega) (g10_x19 i hi)
  have g17_x20 : ∀ i : Nat, i < 10 → x20[17 + 1 + i]? = some (h17 + 1 + i, .inl (cI, 6, .inl (fun _ => 0))) := fun (i : Nat) hi => by rw [ex20]; exact gx_sn (show 0 ≠ 17 + 1 + i by omega) (g17_x19 i hi)
  have g29_x20 : ∀ i : Nat, i < 10 → x20[29 + 1 + i]? = some (h29 + 1 + i, .inl (cI, 6, .inl (fun _ => 0))) := fun (i : Nat) hi => by rw [ex20]; exact gx_sn (show 0 ≠ 29 + 1 + i by omega) (g29_x19 i hi)
  have g40_x20 : ∀ i : Nat, i < 10 → x20[40 + 1 + i]? = some (h40 + 1 + i, .inl (cI, 6, .inl (fun _ => 0))) := fun (i : Nat) hi => by rw [ex20]; exact gx_sn (show 0 ≠ 40 + 1 + i by omega) (g40_x19 i hi)
  have g51_x20 : ∀ i : Nat, i < 10 → x20[51 + 1 + i]? = some (h51 + 1 + i, .inl (cI, 6, .inl (fun _ => 0))) := fun (i : Nat) hi => by rw [ex20]; exact gx_sn (show 0 ≠ 51 + 1 + i by omega) (g51_x19 i hi)
  have f0_x20 : x20[0]? = some (a, .inr (iPB, [.ref tt, .ref h10, .int 0, .ref h17, .ref q28, .int 0, .ref h29, .ref h40, .ref h51, .ref q62, .null])) := by rw [ex20]; exact gx_ss f0_x19
  refine lv_aload_n hx hb d_PB_init_93 rfl (lv_at hl 0 rfl) ?_
  refine lv_bipush (v := 10) hx hb d_PB_init_94 (by decide) ?_
  refine va_newa (atype := .long) (ty := .long) (a0 := (10, .inr (.inl (fun _ => 0)))) (N' := 10) hx hb (hg _ k_122) rfl hK hP hD hS hA (fun _ => rfl) (by decide) (by decide) (by decide) (by decide) (by decide) d_PB_init_96 (fun q63 cA H hK9 hP hD hS => ?_)
  have eA := gx_sameJ hK9
  rw [eA] at hP hD
  clear eA hK9 cA
  obtain ⟨x21, ex21⟩ : ∃ x : va_W, x = x20 ++ [(q63, .inl (cJ, 10, .inr (.inl (fun _ => 0))))] := ⟨_, rfl⟩
  replace hP : va_P D classes x21 H := by rw [ex21]; exact hP
  replace hD : va_D (va_A ws sz) x21 := by rw [ex21]; exact hD
  have lx21 : x21.length = 64 := by rw [ex21, List.length_append, lx20]; rfl
  have f0_x21 : x21[0]? = some (a, .inr (iPB, [.ref tt, .ref h10, .int 0, .ref h17, .ref q28, .int 0, .ref h29, .ref h40, .ref h51, .ref q62, .null])) := by rw [ex21]; exact gx_ap f0_x20
  have f1_x21 : x21[1]? = some (tt, .inr (iTT, [.ref qs, .int 0, .int 0, .ref h3, .int 0])) := by rw [ex21]; exact gx_ap f1_x20
  have f2_x21 : x21[2]? = some (qs, .inl (cC, 120, .inl (fun _ => 0))) := by rw [ex21]; exact gx_ap f2_x20
  have f3_x21 : x21[3]? = some (h3, .inl (cII, 6, .inr (.inr (.inr (.inr (fun j => if j < 6 then some (h3 + 1 + j) else none)))))) := by rw [ex21]; exact gx_ap f3_x20
  have f10_x21 : x21[10]? = some (h10, .inl (cII, 6, .inr (.inr (.inr (.inr (fun j => if j < 6 then some (h10 + 1 + j) else none)))))) := by rw [ex21]; exact gx_ap f10_x20
  have f17_x21 : x21[17]? = some (h17, .inl (cII, 10, .inr (.inr (.inr (.inr (fun j => if j < 10 then some (h17 + 1 + j) else none)))))) := by rw [ex21]; exact gx_ap f17_x20
  have f28_x21 : x21[28]? = some (q28, .inl (cI, 10, .inl (fun _ => 0))) := by rw [ex21]; exact gx_ap f28_x20
  have f29_x21 : x21[29]? = some (h29, .inl (cII, 10, .inr (.inr (.inr (.inr (fun j => if j < 10 then some (h29 + 1 + j) else none)))))) := by rw [ex21]; exact gx_ap f29_x20
  have f40_x21 : x21[40]? = some (h40, .inl (cII, 10, .inr (.inr (.inr (.inr (fun j => if j < 10 then some (h40 + 1 + j) else none)))))) := by rw [ex21]; exact gx_ap f40_x20
  have f51_x21 : x21[51]? = some (h51, .inl (cII, 10, .inr (.inr (.inr (.inr (fun j => if j < 10 then some (h51 + 1 + j) else none)))))) := by rw [ex21]; exact gx_ap f51_x20
  have f62_x21 : x21[62]? = some (q62, .inr (iAL, [.int 0, .ref (fx_e0 F), .int 0])) := by rw [ex21]; exact gx_ap f62_x20
  have g3_x21 : ∀ i : Nat, i < 6 → x21[3 + 1 + i]? = some (h3 + 1 + i, .inl (cI, 4, .inl (fun _ => 0))) := fun (i : Nat) hi => by rw [ex21]; exact gx_ap (g3_x20 i hi)
  have g10_x21 : ∀ i : Nat, i < 6 → x21[10 + 1 + i]? = some (h10 + 1 + i, .inl (cI, 4, .inl (fun _ => 0))) := fun (i : Nat) hi => by rw [ex21]; exact gx_ap (g10_x20 i hi)
  have g17_x21 : ∀ i : Nat, i < 10 → x21[17 + 1 + i]? = some (h17 + 1 + i, .inl (cI, 6, .inl (fun _ => 0))) := fun (i : Nat) hi => by rw [ex21]; exact gx_ap (g17_x20 i hi)
  have g29_x21 : ∀ i : Nat, i < 10 → x21[29 + 1 + i]? = some (h29 + 1 + i, .inl (cI, 6, .inl (fun _ => 0))) := fun (i : Nat) hi => by rw [ex21]; exact gx_ap (g29_x20 i hi)
  have g40_x21 : ∀ i : Nat, i < 10 → x21[40 + 1 + i]? = some (h40 + 1 + i, .inl (cI, 6, .inl (fun _ => 0))) := fun (i : Nat) hi => by rw [ex21]; exact gx_ap (g40_x20 i hi)
  have g51_x21 : ∀ i : Nat, i < 10 → x21[51 + 1 + i]? = some (h51 + 1 + i, .inl (cI, 6, .inl (fun _ => 0))) := fun (i : Nat) hi => by rw [ex21]; exact gx_ap (g51_x20 i hi)
  have f63_x21 : x21[63]? = some (q63, .inl (cJ, 10, .inr (.inl (fun _ => 0)))) := by rw [ex21]; exact gx_lat2 lx20
  refine va_putF (D := D) (ci := iPB) (v := .ref q63) (ty := .array .long) (C := R_PB) (T := F_PB) (N := 11) hx hb (fl_PB hg) (fun _ h9 => h9) t_PB t_PB_ok n_PB hown hK hP hD hS 0 (f0_x21) rfl 10 (by decide) (hg _ k_98) (fun _ h9 => h9) rfl hnm rfl (by decide +kernel) rfl rfl (Nat.le_of_ble_eq_true rfl) d_PB_init_98 (fun H locs hP hD hS => ?_)
  obtain ⟨x22, ex22⟩ : ∃ x : va_W, x = x21.set 0 (a, .inr (iPB, [.ref tt, .ref h10, .int 0, .ref h17, .ref q28, .int 0, .ref h29, .ref h40, .ref h51, .ref q62, .ref q63])) := ⟨_, rfl⟩
  replace hP : va_P D classes x22 H := by rw [ex22]; exact hP
  replace hD : va_D (va_A ws sz) x22 := by rw [ex22]; exact hD
  have lx22 : x22.length = 64 := by rw [ex22, List.length_set, lx21]
  have f1_x22 : x22[1]? = some (tt, .inr (iTT, [.ref qs, .int 0, .int 0, .ref h3, .int 0])) := by rw [ex22]; exact gx_sn (by decide) f1_x21
  have f2_x22 : x22[2]? = some (qs, .inl (cC, 120, .inl (fun _ => 0))) := by rw [ex22]; exact gx_sn (by decide) f2_x21
  have f3_x22 : x22[3]? = some (h3, .inl (cII, 6, .inr (.inr (.inr (.inr (fun j => if j < 6 then some (h3 + 1 + j) else none)))))) := by rw [ex22]; exact gx_sn (by decide) f3_x21
  have f10_x22 : x22[10]? = some (h10, .inl (cII, 6, .inr (.inr (.inr (.inr (fun j => if j < 6 then some (h10 + 1 + j) else none)))))) := by rw [ex22]; exact gx_sn (by decide) f10_x21
  have f17_x22 : x22[17]? = some (h17, .inl (cII, 10, .inr (.inr (.inr (.inr (fun j => if j < 10 then some (h17 + 1 + j) else none)))))) := by rw [ex22]; exact gx_sn (by decide) f17_x21
  have f28_x22 : x22[28]? = some (q28, .inl (cI, 10, .inl (fun _ => 0))) := by rw [ex22]; exact gx_sn (by decide) f28_x21
  have f29_x22 : x22[29]? = some (h29, .inl (cII, 10, .inr (.inr (.inr (.inr (fun j => if j < 10 then some (h29 + 1 + j) else none)))))) := by rw [ex22]; exact gx_sn (by decide) f29_x21
  have f40_x22 : x22[40]? = some (h40, .inl (cII, 10, .inr (.inr (.inr (.inr (fun j => if j < 10 then some (h40 + 1 + j) else none)))))) := by rw [ex22]; exact gx_sn (by decide) f40_x21
  have f51_x22 : x22[51]? = some (h51, .inl (cII, 10, .inr (.inr (.inr (.inr (fun j => if j < 10 then some (h51 + 1 + j) else none)))))) := by rw [ex22]; exact gx_sn (by decide) f51_x21
  have f62_x22 : x22[62]? = some (q62, .inr (iAL, [.int 0, .ref (fx_e0 F), .int 0])) := by rw [ex22]; exact gx_sn (by decide) f62_x21
  have f63_x22 : x22[63]? = some (q63, .inl (cJ, 10, .inr (.inl (fun _ => 0)))) := by rw [ex22]; exact gx_sn (by decide) f63_x21
  have g3_x22 : ∀ i : Nat, i < 6 → x22[3 + 1 + i]? = some (h3 + 1 + i, .inl (cI, 4, .inl (fun _ => 0))) := fun (i : Nat) hi => by rw [ex22]; exact gx_sn (show 0 ≠ 3 + 1 + i by omega) (g3_x21 i hi)
  have g10_x22 : ∀ i : Nat, i < 6 → x22[10 + 1 + i]? = some (h10 + 1 + i, .inl (cI, 4, .inl (fun _ => 0))) := fun (i : Nat) hi => by rw [ex22]; exact gx_sn (show 0 ≠ 10 + 1 + i by omega) (g10_x21 i hi)
  have g17_x22 : ∀ i : Nat, i < 10 → x22[17 + 1 + i]? = some (h17 + 1 + i, .inl (cI, 6, .inl (fun _ => 0))) := fun (i : Nat) hi => by rw [ex22]; exact gx_sn (show 0 ≠ 17 + 1 + i by omega) (g17_x21 i hi)
  have g29_x22 : ∀ i : Nat, i < 10 → x22[29 + 1 + i]? = some (h29 + 1 + i, .inl (cI, 6, .inl (fun _ => 0))) := fun (i : Nat) hi => by rw [ex22]; exact gx_sn (show 0 ≠ 29 + 1 + i by omega) (g29_x21 i hi)
  have g40_x22 : ∀ i : Nat, i < 10 → x22[40 + 1 + i]? = some (h40 + 1 + i, .inl (cI, 6, .inl (fun _ => 0))) := fun (i : Nat) hi => by rw [ex22]; exact gx_sn (show 0 ≠ 40 + 1 + i by omega) (g40_x21 i hi)
  have g51_x22 : ∀ i : Nat, i < 10 → x22[51 + 1 + i]? = some (h51 + 1 + i, .inl (cI, 6, .inl (fun _ => 0))) := fun (i : Nat) hi => by rw [ex22]; exact gx_sn (show 0 ≠ 51 + 1 + i by omega) (g51_x21 i hi)
  have f0_x22 : x22[0]? = some (a, .inr (iPB, [.ref tt, .ref h10, .int 0, .ref h17, .ref q28, .int 0, .ref h29, .ref h40, .ref h51, .ref q62, .ref q63])) := by rw [ex22]; exact gx_ss f0_x21
  obtain ⟨κ, eκ⟩ : ∃ x : Nat → Nat, x = cb_κ0 a tt qs h3 h10 h17 q28 h29 h40 h51 q62 q63 := ⟨_, rfl⟩
  obtain ⟨ra, era⟩ : ∃ x : Nat → Nat → Nat, x = cb_ra0 h3 h10 h17 h29 h40 h51 := ⟨_, rfl⟩
  have hI : cb_I cI cC cJ cII x22 κ ra (fun _ => 0) (fun _ => 0) (fun _ _ _ => 0) (fun _ => 0) (fun _ => 0) := by
    rw [eκ, era]
    refine ⟨f0_x22, f1_x22, f2_x22, f28_x22, f63_x22, fun g hg9 => ?_, fun g hg9 i hi => ?_⟩
    · rcases (show g = 0 ∨ g = 1 ∨ g = 2 ∨ g = 3 ∨ g = 4 ∨ g = 5 by omega) with rfl | rfl | rfl | rfl | rfl | rfl
      · exact f3_x22
      · exact f10_x22
      · exact f17_x22
      · exact f29_x22
      · exact f40_x22
      · exact f51_x22
    · rcases (show g = 0 ∨ g = 1 ∨ g = 2 ∨ g = 3 ∨ g = 4 ∨ g = 5 by omega) with rfl | rfl | rfl | rfl | rfl | rfl
      · exact g3_x22 i hi
      · exact g10_x22 i hi
      · exact g17_x22 i hi
      · exact g29_x22 i hi
      · exact g40_x22 i hi
      · exact g51_x22 i hi
  have hL : ∀ (la lp : Nat → Nat) (li : Nat → Nat → Int32) (ll : Nat → Nat → Int64), cb_L cO x22 (κ 62) 0 (fx_e0 F) 0 la lp li ll := fun la lp li ll => ⟨fx_e0 F, by rw [eκ]; exact f62_x22, fun j hj => absurd hj (Nat.not_lt_zero j), fun i j hi => absurd hi (Nat.not_lt_zero i), Or.inl ⟨rfl, rfl⟩⟩
  have hκ0 : κ 0 = a := by rw [eκ]; rfl
  rw [← hκ0] at hl
  obtain ⟨wb, ewb⟩ : ∃ x : va_W, x = x22 := ⟨_, rfl⟩
  rw [← ewb] at hP hD hI hL
  have hH : cb_hi wb wb := fun _ _ => rfl
  clear f0_x22 f1_x22 f2_x22 f3_x22 f10_x22 f17_x22 f28_x22 f29_x22 f40_x22 f51_x22 f62_x22 f63_x22 g3_x22 g10_x22 g17_x22 g29_x22 g40_x22 g51_x22
  refine lv_iconst (v := 0) hx hb d_PB_init_101 (by decide) ?_
  refine lv_istore_n (lv' := [(1, .int 0), (0, .ref (κ 0))]) hx hb d_PB_init_102 rfl hl (by decide) rfl (fun ls hl => ?_)
  have loop1 : ∀ (nn : Nat) (i : Nat) (G' : Nat → Nat → Nat → Int32) (wx : va_W) (H : Heap) (locs : List Loc) (ls : Array Slot) (hi : i ≤ 6) (hf : 7 ≤ i + nn) (hG : ∀ g, g ≠ 1 → G' g = fun _ _ => 0) (hG1 : ∀ k, G' 1 k = if k < i then cb_t0 else fun _ => 0) (hI : cb_I cI cC cJ cII wx κ ra (fun _ => 0) (fun _ => 0) G' (fun _ => 0) (fun _ => 0)) (hH : cb_hi wb wx) (hP : va_P D classes wx H) (hD : va_D (va_A ws sz) wx) (hS : va_S (va_A ws sz) s.heap H locs) (hl : lv_has ls 2 [(1, .int (nI i)), (0, .ref (κ 0))]), W p l e ({ frames := 4, cells := 72, slots := 613, locals := 120 } : Room) s m ([.ref a] : List Value).toArray below meth c H locs 72 613 (MQ below (va_Qv (fun w1 => ∃ (κ : Nat → Nat) (ra : Nat → Nat → Nat) (G : Nat → Nat → Nat → Int32), cb_I cI cC cJ cII w1 κ ra (fun _ => 0) (fun _ => 0) G (fun _ => 0) (fun _ => 0) ∧ (∀ (la lp : Nat → Nat) (li : Nat → Nat → Int32) (ll : Nat → Nat → Int64), cb_L cO w1 (κ 62) 0 (fx_e0 F) 0 la lp li ll) ∧ κ 0 = a ∧ (∀ k, k < 6 → G 1 k = cb_t0) ∧ G 2 = (fun _ _ => 0) ∧ G 3 = (fun _ _ => 0) ∧ (∀ k, k < 10 → G 4 k = cb_fil (fun _ => 0) 1 6) ∧ (∀ k, k < 10 → G 5 k = cb_fil (fun _ => 0) 1 6)) (gx_B D classes ws sz) (va_A ws sz)) ([.ref a] : List Value).toArray s 72 613 (va_A ws sz)) (F0 m 103 ls []) := by
    intro nn
    induction nn with
    | zero =>
      intro i G' wx H locs ls hi hf hG hG1 hI hH hP hD hS hl
      exact absurd hf (by omega)
    | succ nn ih =>
      intro i G' wx H locs ls hi hf hG hG1 hI hH hP hD hS hl
      refine lv_iload_n hx hb d_PB_init_103 rfl (lv_at hl 0 rfl) ?_
      refine lv_bipush (v := 6) hx hb d_PB_init_104 (by decide) ?_
      refine lv_icmp_ge (tgt := 134) hx hb d_PB_init_106 (by decide) (fun c_106 => ?_) (fun c_106 => ?_)
      · skip
        have hi6 : i = 6 := by have := gx_ngt (a := 6) c_106; omega
        obtain ⟨G1, eG1⟩ : ∃ x : Nat → Nat → Nat → Int32, x = G' := ⟨_, rfl⟩
        rw [hi6] at hG1
        have hGa := hG
        rw [← eG1] at hI hG hG1 hGa
        refine lv_iconst (v := 0) hx hb d_PB_init_134 (by decide) ?_
        refine lv_istore_n (lv' := [(1, .int 0), (0, .ref (κ 0))]) hx hb d_PB_init_135 rfl hl (by decide) rfl (fun ls hl => ?_)
        have loop2 : ∀ (nn : Nat) (i : Nat) (G2 : Nat → Nat → Nat → Int32) (wx : va_W) (H : Heap) (locs : List Loc) (ls : Array Slot) (hi : i ≤ 10) (hf : 11 ≤ i + nn) (hG : ∀ g, g < 4 → G2 g = G1 g) (hG4 : ∀ k, G2 4 k = if k < i then cb_fil (fun _ => 0) 1 6 else fun _ => 0) (hG5 : ∀ k, G2 5 k = if k < i then cb_fil (fun _ => 0) 1 6 else fun _ => 0) (hI : cb_I cI cC cJ cII wx κ ra (fun _ => 0) (fun _ => 0) G2 (fun _ => 0) (fun _ => 0)) (hH : cb_hi wb wx) (hP : va_P D classes wx H) (hD : va_D (va_A ws sz) wx) (hS : va_S (va_A ws sz) s.heap H locs) (hl : lv_has ls 2 [(1, .int (nI i)), (0, .ref (κ 0))]), W p l e ({ frames := 4, cells := 72, slots := 613, locals := 120 } : Room) s m ([.ref a] : List Value).toArray below meth c H locs 72 613 (MQ below (va_Qv (fun w1 => ∃ (κ : Nat → Nat) (ra : Nat → Nat → Nat) (G : Nat → Nat → Nat → Int32), cb_I cI cC cJ cII w1 κ ra (fun _ => 0) (fun _ => 0) G (fun _ => 0) (fun _ => 0) ∧ (∀ (la lp : Nat → Nat) (li : Nat → Nat → Int32) (ll : Nat → Nat → Int64), cb_L cO w1 (κ 62) 0 (fx_e0 F) 0 la lp li ll) ∧ κ 0 = a ∧ (∀ k, k < 6 → G 1 k = cb_t0) ∧ G 2 = (fun _ _ => 0) ∧ G 3 = (fun _ _ => 0) ∧ (∀ k, k < 10 → G 4 k = cb_fil (fun _ => 0) 1 6) ∧ (∀ k, k < 10 → G 5 k = cb_fil (fun _ => 0) 1 6)) (gx_B D classes ws sz) (va_A ws sz)) ([.ref a] : List Value).toArray s 72 613 (va_A ws sz)) (F0 m 136 ls []) := by
          intro nn
          induction nn with
          | zero =>
            intro i G2 wx H locs ls hi hf hG hG4 hG5 hI hH hP hD hS hl
            exact absurd hf (by omega)
          | succ nn ih =>
            intro i G2 wx H locs ls hi hf hG hG4 hG5 hI hH hP hD hS hl
            refine lv_iload_n hx hb d_PB_init_136 rfl (lv_at hl 0 rfl) ?_
            refine lv_bipush (v := 10) hx hb d_PB_init_137 (by decide) ?_
            refine lv_icmp_ge (tgt := 168) hx hb d_PB_init_139 (by decide) (fun c_139 => ?_) (fun c_139 => ?_)
            · skip
              have hi10 : i = 10 := by have := gx_ngt (a := 10) c_139; omega
              exact gx_vret hx hb hr hlocks hS hP hD (by decide) (by decide) d_PB_init_168 (⟨κ, ra, G2, hI, fun la lp li ll => cb_L.of hH (hL la lp li ll), hκ0, fun k hk => by rw [hG 1 (by decide), hG1 k, if_pos hk], by rw [hG 2 (by decide)]; exact hGa 2 (by decide), by rw [hG 3 (by decide)]; exact hGa 3 (by decide), fun k hk => by rw [hG4 k, hi10]; exact if_pos hk, fun k hk => by rw [hG5 k, hi10]; exact if_pos hk⟩)
            · skip
              have hi10 : i < 10 := gx_nlt (a := 10) c_139
              refine lv_aload_n hx hb d_PB_init_142 rfl (lv_at hl 1 rfl) ?_
              refine va_get (D := D) (ci := iPB) (v := .ref (κ 40)) (C := R_PB) (T := F_PB) (N := 11) hx hb (fl_PB hg) (fun _ h9 => h9) hown hK hP 0 (hI.1) rfl 7 (by decide) (hg _ k_95) (fun _ h9 => h9) rfl d_PB_init_143 ?_
              refine lv_iload_n hx hb d_PB_init_146 rfl (lv_at hl 0 rfl) ?_
              refine gx_al hx hb hK hP 40 3 (hI.2.2.2.2.2.1 4 (by decide)) rfl rfl i (v := ra 4 i) (rfl) (hi10) (by decide) (if_pos (hi10)) d_PB_init_147 ?_
              refine lv_iconst (v := 1) hx hb d_PB_init_148 (by decide) ?_
              refine gx_callv (va_runS (As := [.ref (ra 4 i), .int 1]) (rest := []) ⟨hx, hb, hml, hown, gx_nil⟩ (c_AR_fill F (hI.2.2.2.2.2.2 4 (by decide) i hi10) _ 1 (by decide)) ⟨gx_cb (hg _ k_87) (hg _ k_6) (hg _ k_85) nd_AR_fill ⟨by decide, by decide⟩, hg _ k_86⟩ (gx_preS hV hP hD hS hA0) rfl rfl hl.1 rfl (lv_room (Nat.le_of_ble_eq_true rfl)) d_PB_init_149 ⟨by decide, by decide⟩) hD hS hA (fun w1 H locs h_149 hP hD hS => ?_)
              replace hI : cb_I cI cC cJ cII w1 κ ra (fun _ => 0) (fun _ => 0) (cb_upg G2 4 i (cb_fil (G2 4 i) 1 6)) (fun _ => 0) (fun _ => 0) := by rw [h_149]; exact cb_I.row (by decide) hi10 hI
              replace hH : cb_hi wb w1 := by rw [h_149]; exact cb_hi.set (by have := cb_gp_lt 4 (by decide) i hi10; omega) hH
              refine lv_aload_n hx hb d_PB_init_152 rfl (lv_at hl 1 rfl) ?_
              refine va_get (D := D) (ci := iPB) (v := .ref (κ 51)) (C := R_PB) (T := F_PB) (N := 11) hx hb (fl_PB hg) (fun _ h9 => h9) hown hK hP 0 (hI.1) rfl 8 (by decide) (hg _ k_96) (fun _ h9 => h9) rfl d_PB_init_153 ?_
              refine lv_iload_n hx hb d_PB_init_156 rfl (lv_at hl 0 rfl) ?_
              refine gx_al hx hb hK hP 51 3 (hI.2.2.2.2.2.1 5 (by decide)) rfl rfl i (v := ra 5 i) (rfl) (hi10) (by decide) (if_pos (hi10)) d_PB_init_157 ?_
              refine lv_iconst (v := 1) hx hb d_PB_init_158 (by decide) ?_
              refine gx_callv (va_runS (As := [.ref (ra 5 i), .int 1]) (rest := []) ⟨hx, hb, hml, hown, gx_nil⟩ (c_AR_fill F (hI.2.2.2.2.2.2 5 (by decide) i hi10) _ 1 (by decide)) ⟨gx_cb (hg _ k_87) (hg _ k_6) (hg _ k_85) nd_AR_fill ⟨by decide, by decide⟩, hg _ k_86⟩ (gx_preS hV hP hD hS hA0) rfl rfl hl.1 rfl (lv_room (Nat.le_of_ble_eq_true rfl)) d_PB_init_159 ⟨by decide, by decide⟩) hD hS hA (fun w1 H locs h_159 hP hD hS => ?_)
              replace hI : cb_I cI cC cJ cII w1 κ ra (fun _ => 0) (fun _ => 0) (cb_upg (cb_upg G2 4 i (cb_fil (G2 4 i) 1 6)) 5 i (cb_fil ((cb_upg G2 4 i (cb_fil (G2 4 i) 1 6)) 5 i) 1 6)) (fun _ => 0) (fun _ => 0) := by rw [h_159]; exact cb_I.row (by decide) hi10 hI
              replace hH : cb_hi wb w1 := by rw [h_159]; exact cb_hi.set (by have := cb_gp_lt 5 (by decide) i hi10; omega) hH
              refine lv_iinc (v := nI (i + 1)) (lv' := [(1, .int (nI (i + 1))), (0, .ref (κ 0))]) hx hb d_PB_init_162 hl (k := 0) rfl (by rw [lit1]; exact nI_1 i) (by decide) rfl (fun ls hl => ?_)
              refine lv_goto (tgt := 136) hx hb d_PB_init_165 (by decide) ?_
              exact ih (i + 1) _ _ _ _ ls (by omega) (by omega) (fun g hg9 => by rw [cb_gk g (by omega), cb_gk g (by omega)]; exact hG g hg9) (fun k => by rw [cb_gk 4 (by decide)]; exact cb_f0_s hG4 k) (cb_f0_s (fun k => by rw [cb_gk 5 (by decide)]; exact hG5 k)) hI hH hP hD hS (lv_sub hl [0, 1] rfl)
        exact loop2 11 0 G1 _ _ _ ls (by decide) (by decide) (fun _ _ => rfl) (fun k => by rw [hG 4 (by decide)]; exact (if_neg (Nat.not_lt_zero k)).symm) (fun k => by rw [hG 5 (by decide)]; exact (if_neg (Nat.not_lt_zero k)).symm) hI hH hP hD hS (lv_sub hl [0, 1] rfl)
      · skip
        have hi6 : i < 6 := gx_nlt (a := 6) c_106
        refine lv_aload_n hx hb d_PB_init_109 rfl (lv_at hl 1 rfl) ?_
        refine va_get (D := D) (ci := iPB) (v := .ref (κ 10)) (C := R_PB) (T := F_PB) (N := 11) hx hb (fl_PB hg) (fun _ h9 => h9) hown hK hP 0 (hI.1) rfl 1 (by decide) (hg _ k_89) (fun _ h9 => h9) rfl d_PB_init_110 ?_
        refine lv_iload_n hx hb d_PB_init_113 rfl (lv_at hl 0 rfl) ?_
        refine gx_al hx hb hK hP 10 3 (hI.2.2.2.2.2.1 1 (by decide)) rfl rfl i (v := ra 1 i) (rfl) (hi6) (by decide) (if_pos (hi6)) d_PB_init_114 ?_
        refine lv_iconst (v := 0) hx hb d_PB_init_115 (by decide) ?_
        refine lv_bipush (v := 7) hx hb d_PB_init_116 (by decide) ?_
        refine gx_is hx hb hK hP hD hS (cb_gp 1 + 1 + i) 0 (hI.2.2.2.2.2.2 1 (by decide) i (hi6)) rfl 0 (by decide) (by decide) (by decide) d_PB_init_118 (fun H locs hP hD hS => ?_)
        obtain ⟨w_1, ew_1⟩ : ∃ x : va_W, x = wx.set (cb_gp 1 + 1 + i) (ra 1 i, .inl (cI, cb_wd 1, .inl (upd (G' 1 i) 0 7))) := ⟨_, rfl⟩
        replace hP : va_P D classes w_1 H := by rw [ew_1]; exact hP
        replace hD : va_D (va_A ws sz) w_1 := by rw [ew_1]; exact hD
        replace hI : cb_I cI cC cJ cII w_1 κ ra (fun _ => 0) (fun _ => 0) (cb_upg G' 1 i (upd (G' 1 i) 0 7)) (fun _ => 0) (fun _ => 0) := by rw [ew_1]; exact cb_I.row (by decide) (hi6) hI
        replace hH : cb_hi wb w_1 := by rw [ew_1]; exact cb_hi.set (by have := cb_gp_lt 1 (by decide) i (hi6); omega) hH
        refine lv_aload_n hx hb d_PB_init_119 rfl (lv_at hl 1 rfl) ?_
        refine va_get (D := D) (ci := iPB) (v := .ref (κ 10)) (C := R_PB) (T := F_PB) (N := 11) hx hb (fl_PB hg) (fun _ h9 => h9) hown hK hP 0 (hI.1) rfl 1 (by decide) (hg _ k_89) (fun _ h9 => h9) rfl d_PB_init_120 ?_
        refine lv_iload_n hx hb d_PB_init_123 rfl (lv_at hl 0 rfl) ?_
        refine gx_al hx hb hK hP 10 3 (hI.2.2.2.2.2.1 1 (by decide)) rfl rfl i (v := ra 1 i) (rfl) (hi6) (by decide) (if_pos (hi6)) d_PB_init_124 ?_
        refine lv_iconst (v := 1) hx hb d_PB_init_125 (by decide) ?_
        refine lv_iconst (v := 1) hx hb d_PB_init_126 (by decide) ?_
        refine gx_is hx hb hK hP hD hS (cb_gp 1 + 1 + i) 0 (by have h9 := hI.2.2.2.2.2.2 1 (by decide) i (hi6); rw [cb_upg_s] at h9; exact h9) rfl 1 (by decide) (by decide) (by decide) d_PB_init_127 (fun H locs hP hD hS => ?_)
        obtain ⟨w_2, ew_2⟩ : ∃ x : va_W, x = w_1.set (cb_gp 1 + 1 + i) (ra 1 i, .inl (cI, cb_wd 1, .inl (upd (upd (G' 1 i) 0 7) 1 1))) := ⟨_, rfl⟩
        replace hP : va_P D classes w_2 H := by rw [ew_2]; exact hP
        replace hD : va_D (va_A ws sz) w_2 := by rw [ew_2]; exact hD
        replace hI : cb_I cI cC cJ cII w_2 κ ra (fun _ => 0) (fun _ => 0) (cb_upg (cb_upg G' 1 i (upd (G' 1 i) 0 7)) 1 i (upd (upd (G' 1 i) 0 7) 1 1)) (fun _ => 0) (fun _ => 0) := by rw [ew_2]; exact cb_I.row (by decide) (hi6) hI
        replace hH : cb_hi wb w_2 := by rw [ew_2]; exact cb_hi.set (by have := cb_gp_lt 1 (by decide) i (hi6); omega) hH
        refine lv_iinc (v := nI (i + 1)) (lv' := [(1, .int (nI (i + 1))), (0, .ref (κ 0))]) hx hb d_PB_init_128 hl (k := 0) rfl (by rw [lit1]; exact nI_1 i) (by decide) rfl (fun ls hl => ?_)
        refine lv_goto (tgt := 103) hx hb d_PB_init_131 (by decide) ?_
        exact ih (i + 1) _ _ _ _ ls (by omega) (by omega) (fun g hg9 => by rw [cb_gk g hg9, cb_gk g hg9]; exact hG g hg9) (cb_t0_s hG1) hI hH hP hD hS (lv_sub hl [0, 1] rfl)
  exact W.widen (by decide) (by decide) (loop1 7 0 (fun _ _ _ => 0) _ _ _ ls (by decide) (by decide) (fun _ _ => rfl) (fun k => (if_neg (Nat.not_lt_zero k)).symm) hI hH hP hD hS (lv_sub hl [0, 1] rfl))

