theorem gx_tti {ws : va_W} {q : Nat} {x c1 c2 : Nat × va_E} {g : va_W} (hq : q < ws.length) : (((ws ++ [x]).set q c1) ++ g).set q c2 = (ws.set q c2 ++ [x]) ++ g := by
  rw [List.set_append_left _ _ (by rw [List.length_set, List.length_append]; omega), List.set_set, List.set_append_left _ _ hq]

set_option maxRecDepth 100000 in
set_option maxHeartbeats 4000000 in
theorem c_TT_init {l : Launch} {s0 : State} {D : va_G} {cI cC cJ cII cO cZ : ClassId} (F : FX l s0 D cI cC cJ cII cO cZ) {ws : va_W} {q a : Nat} (he : ws[q]? = some (a, .inr (iTT, [.null, .int 0, .int 0, .null, .int 0]))) (sz : Nat)   : Met l y_TT_init [.code y_TT_init b_TT_init 1 none] { frames := 1, cells := 8, slots := 150, locals := 20 } (gx_P s0 D classes ws sz [.ref a]) (va_Qv (fun w1 => ∃ qs hh, w1 = (ws.set q (a, .inr (iTT, [.ref qs, .int 0, .int 0, .ref hh, .int 0])) ++ [(qs, .inl (cC, 120, .inl (fun _ => 0)))]) ++ gx_grid cI cII hh 6 4) (gx_B D classes ws sz) (va_A ws sz)) 8 150 (va_A ws sz) := by
  refine gx_met (by decide +kernel) (Nat.le_of_ble_eq_true rfl) ?_
  intro p e s m below meth c ls hx hb hr hml hown hlocks hnm hsz hV hP hD hS hA hA0 hl
  have hg := fx_g F hV ([.ref a] : List Value).toArray
  have hK := fx_k F hV
  have hn9 := fx_n F hV
  have hl : lv_has ls 1 [(0, .ref a)] := hl
  refine lv_aload_n hx hb d_TT_init_0 rfl (lv_at hl 0 rfl) ?_
  refine W.objInit hx hb hown (hg _ k_34) (hg _ k_27) (hg _ k_28) rfl (by rw [hml]; exact hl.1) rfl d_TT_init_1 (Nat.le_of_ble_eq_true rfl) (Nat.le_of_ble_eq_true rfl) ?_
  refine lv_aload_n hx hb d_TT_init_4 rfl (lv_at hl 0 rfl) ?_
  refine lv_bipush (v := 120) hx hb d_TT_init_5 (by decide) ?_
  refine va_newa (atype := .char) (ty := .char) (a0 := (120, .inl (fun _ => 0))) (N' := 120) hx hb (hg _ k_56) rfl hK hP hD hS hA (fun _ => rfl) (by decide) (by decide) (by decide) (by decide) (by decide) d_TT_init_7 (fun qs cA H hK9 hP hD hS => ?_)
  have eA := gx_sameC hK9
  rw [eA] at hP hD
  clear eA hK9 cA
  refine va_putF (D := D) (ci := iTT) (v := .ref qs) (ty := .array .char) (C := R_TT) (T := F_TT) (N := 5) hx hb (fl_TT hg) (fun _ h9 => h9) t_TT t_TT_ok n_TT hown hK hP hD hS q (gx_ap he) rfl 0 (by decide) (hg _ k_37) (fun _ h9 => h9) rfl hnm rfl (by decide +kernel) rfl rfl (Nat.le_of_ble_eq_true rfl) d_TT_init_9 (fun H locs hP hD hS => ?_)
  obtain ⟨w_1, ew_1⟩ : ∃ x : va_W, x = (ws ++ ([(qs, .inl (cC, 120, .inl (fun _ => 0)))] : va_W)).set q (a, .inr (iTT, [.ref qs, .int 0, .int 0, .null, .int 0])) := ⟨_, rfl⟩
  replace hP : va_P D classes w_1 H := by rw [ew_1]; exact hP
  replace hD : va_D (va_A ws sz) w_1 := by rw [ew_1]; exact hD
  have hew_1 : w_1[q]? = some (a, .inr (iTT, [.ref qs, .int 0, .int 0, .null, .int 0])) := by rw [ew_1]; exact gx_ss (gx_ap he)
  refine lv_aload_n hx hb d_TT_init_12 rfl (lv_at hl 0 rfl) ?_
  refine lv_bipush (v := 6) hx hb d_TT_init_13 (by decide) ?_
  refine lv_iconst (v := 4) hx hb d_TT_init_15 (by decide) ?_
  refine gx_mna hx hb hown (hg _ k_35) (fx_aoI F hV _) (hg _ k_57) (gx_nI hK) (gx_nII hK) hP hD hS hA (N := 6) (K := 4) (by decide) (by decide) (by decide) (by decide) (by decide) (by decide) (by decide) (by decide) d_TT_init_16 (fun hh H locs hP hD hS => ?_)
  replace hP : va_P D classes (w_1 ++ gx_grid cI cII hh 6 4) H := hP
  replace hD : va_D (va_A ws sz) (w_1 ++ gx_grid cI cII hh 6 4) := hD
  refine va_putF (D := D) (ci := iTT) (v := .ref hh) (ty := .array (.array .int)) (C := R_TT) (T := F_TT) (N := 5) hx hb (fl_TT hg) (fun _ h9 => h9) t_TT t_TT_ok n_TT hown hK hP hD hS q (gx_ap hew_1) rfl 3 (by decide) (hg _ k_41) (fun _ h9 => h9) rfl hnm rfl (by decide +kernel) rfl rfl (Nat.le_of_ble_eq_true rfl) d_TT_init_20 (fun H locs hP hD hS => ?_)
  obtain ⟨w_2, ew_2⟩ : ∃ x : va_W, x = (w_1 ++ gx_grid cI cII hh 6 4).set q (a, .inr (iTT, [.ref qs, .int 0, .int 0, .ref hh, .int 0])) := ⟨_, rfl⟩
  replace hP : va_P D classes w_2 H := by rw [ew_2]; exact hP
  replace hD : va_D (va_A ws sz) w_2 := by rw [ew_2]; exact hD
  have hew_2 : w_2[q]? = some (a, .inr (iTT, [.ref qs, .int 0, .int 0, .ref hh, .int 0])) := by rw [ew_2]; exact gx_ss (gx_ap hew_1)
  exact gx_vret hx hb hr hlocks hS hP hD (by decide) (by decide) d_TT_init_23 (⟨qs, hh, by rw [ew_2, ew_1]; exact gx_tti (List.getElem?_eq_some_iff.mp he).1⟩)

