set_option maxRecDepth 100000 in
set_option maxHeartbeats 4000000 in
theorem c_AL_size {l : Launch} {s0 : State} {D : va_G} {cI cC cJ cII cO cZ : ClassId} (F : FX l s0 D cI cC cJ cII cO cZ) {ws : va_W} {q a4 ea : Nat} {md n : Int32} (he : ws[q]? = some (a4, .inr (iAL, [.int md, .ref ea, .int n]))) (sz : Nat)   : Met l y_AL_size [.code y_AL_size b_AL_size 1 (some .int)] { frames := 0, cells := 0, slots := 0, locals := 0 } (gx_P s0 D classes ws sz [.ref a4]) (gx_Ri (fun r => r = n)) 0 0 (fun _ => False) := by
  refine gx_met (by decide +kernel) (Nat.le_of_ble_eq_true rfl) ?_
  intro p e s m below meth c ls hx hb hr hml hown hlocks hnm hsz hV hP hD hS hA hA0 hl
  have hg := fx_g F hV ([.ref a4] : List Value).toArray
  have hK := fx_k F hV
  have hn9 := fx_n F hV
  have hl : lv_has ls 1 [(0, .ref a4)] := hl
  refine lv_aload_n hx hb d_AL_size_0 rfl (lv_at hl 0 rfl) ?_
  refine va_get (D := D) (ci := iAL) (v := .int n) (C := R_AL) (T := F_AL) (N := 3) hx hb (fl_AL hg) (fun _ h9 => h9) hown hK hP q (he) rfl 2 (by decide) (hg _ k_74) (fun _ h9 => h9) rfl d_AL_size_1 ?_
  exact gx_ireti hx hb hr hlocks rfl d_AL_size_4 (rfl)

set_option maxRecDepth 100000 in
set_option maxHeartbeats 4000000 in
theorem c_PC_checkIndex {l : Launch} {s0 : State} {D : va_G} {cI cC cJ cII cO cZ : ClassId} (F : FX l s0 D cI cC cJ cII cO cZ) (ws : va_W) (sz : Nat) (x y : Int32) (h0 : ¬ x < 0) (h1 : x < y)  : Met l y_PC_checkIndex [.code y_PC_checkIndex b_PC_checkIndex 3 (some .int)] { frames := 0, cells := 0, slots := 0, locals := 0 } (gx_P s0 D classes ws sz [.int x, .int y, .null]) (gx_Ri (fun r => r = x)) 0 0 (fun _ => False) := by
  refine gx_met (by decide +kernel) (Nat.le_of_ble_eq_true rfl) ?_
  intro p e s m below meth c ls hx hb hr hml hown hlocks hnm hsz hV hP hD hS hA hA0 hl
  have hg := fx_g F hV ([.int x, .int y, .null] : List Value).toArray
  have hK := fx_k F hV
  have hn9 := fx_n F hV
  have hl : lv_has ls 3 [(0, .int x), (1, .int y), (2, .null)] := hl
  refine lv_iload_n hx hb d_PC_checkIndex_0 rfl (lv_at hl 0 rfl) ?_
  refine lv_if_lt (tgt := 9) hx hb d_PC_checkIndex_1 (by decide) (fun c_1 => absurd c_1 h0) (fun c_1 => ?_)
  refine lv_iload_n hx hb d_PC_checkIndex_4 rfl (lv_at hl 0 rfl) ?_
  refine lv_iload_n hx hb d_PC_checkIndex_5 rfl (lv_at hl 1 rfl) ?_
  refine lv_icmp_lt (tgt := 16) hx hb d_PC_checkIndex_6 (by decide) (fun c_6 => ?_) (fun c_6 => absurd h1 c_6)
  refine lv_iload_n hx hb d_PC_checkIndex_16 rfl (lv_at hl 0 rfl) ?_
  exact gx_ireti hx hb hr hlocks rfl d_PC_checkIndex_17 (rfl)

set_option maxRecDepth 100000 in
set_option maxHeartbeats 4000000 in
theorem c_OB_checkIndex {l : Launch} {s0 : State} {D : va_G} {cI cC cJ cII cO cZ : ClassId} (F : FX l s0 D cI cC cJ cII cO cZ) (ws : va_W) (sz : Nat) (x y : Int32) (h0 : ¬ x < 0) (h1 : x < y)  : Met l y_OB_checkIndex [.code y_OB_checkIndex b_OB_checkIndex 2 (some .int)] { frames := 1, cells := 0, slots := 0, locals := 40 } (gx_P s0 D classes ws sz [.int x, .int y]) (gx_Ri (fun r => r = x)) 0 0 (fun _ => False) := by
  refine gx_met (by decide +kernel) (Nat.le_of_ble_eq_true rfl) ?_
  intro p e s m below meth c ls hx hb hr hml hown hlocks hnm hsz hV hP hD hS hA hA0 hl
  have hg := fx_g F hV ([.int x, .int y] : List Value).toArray
  have hK := fx_k F hV
  have hn9 := fx_n F hV
  have hl : lv_has ls 2 [(0, .int x), (1, .int y)] := hl
  refine lv_iload_n hx hb d_OB_checkIndex_0 rfl (lv_at hl 0 rfl) ?_
  refine lv_iload_n hx hb d_OB_checkIndex_1 rfl (lv_at hl 1 rfl) ?_
  refine lv_null hx hb d_OB_checkIndex_2 ?_
  refine gx_readi (va_runS (As := [.int x, .int y, .null]) (rest := []) ⟨hx, hb, hml, hown, gx_nil⟩ (c_PC_checkIndex F _ _ x y h0 h1) ⟨gx_cb (hg _ k_201) (hg _ k_18) (hg _ k_199) nd_PC_checkIndex ⟨by decide, by decide⟩, hg _ k_200⟩ (gx_preS hV hP hD hS hA0) rfl rfl hl.1 rfl (lv_room (Nat.le_of_ble_eq_true rfl)) d_OB_checkIndex_3 ⟨by decide, by decide⟩) (fun r_3 h_3 => ?_)
  exact gx_ireti hx hb hr hlocks rfl d_OB_checkIndex_6 (h_3)

set_option maxRecDepth 100000 in
set_option maxHeartbeats 4000000 in
theorem c_AL_elementData {l : Launch} {s0 : State} {D : va_G} {cI cC cJ cII cO cZ : ClassId} (F : FX l s0 D cI cC cJ cII cO cZ) {ws : va_W} {q a4 ea : Nat} {md n : Int32} (he : ws[q]? = some (a4, .inr (iAL, [.int md, .ref ea, .int n]))) {ep cap : Nat} {ef : Nat → Option Nat} (ha : ws[ep]? = some (ea, .inl (cO, cap, .inr (.inr (.inr (.inr ef)))))) (sz : Nat) (j v : Nat) (hj : j < cap) (hcap : cap < 2 ^ 31) (hv : ef j = some v)  : Met l y_AL_elementData [.code y_AL_elementData b_AL_elementData 2 (some (.object "java/lang/Object"))] { frames := 0, cells := 0, slots := 0, locals := 0 } (gx_P s0 D classes ws sz [.ref a4, .int (nI j)]) (gx_Rr (fun r => r = v)) 0 0 (fun _ => False) := by
  refine gx_met (by decide +kernel) (Nat.le_of_ble_eq_true rfl) ?_
  intro p e s m below meth c ls hx hb hr hml hown hlocks hnm hsz hV hP hD hS hA hA0 hl
  have hg := fx_g F hV ([.ref a4, .int (nI j)] : List Value).toArray
  have hK := fx_k F hV
  have hn9 := fx_n F hV
  have hl : lv_has ls 2 [(0, .ref a4), (1, .int (nI j))] := hl
  refine lv_aload_n hx hb d_AL_elementData_0 rfl (lv_at hl 0 rfl) ?_
  refine va_get (D := D) (ci := iAL) (v := .ref ea) (C := R_AL) (T := F_AL) (N := 3) hx hb (fl_AL hg) (fun _ h9 => h9) hown hK hP q (he) rfl 1 (by decide) (hg _ k_73) (fun _ h9 => h9) rfl d_AL_elementData_1 ?_
  refine lv_iload_n hx hb d_AL_elementData_4 rfl (lv_at hl 1 rfl) ?_
  refine gx_al hx hb hK hP ep 4 (ha) rfl rfl j (v := v) (rfl) (hj) hcap (hv) d_AL_elementData_5 ?_
  exact gx_iretr hx hb hr (Or.inl ⟨_, rfl⟩) hlocks d_AL_elementData_6 (rfl)

set_option maxRecDepth 100000 in
set_option maxHeartbeats 4000000 in
theorem c_AL_get {l : Launch} {s0 : State} {D : va_G} {cI cC cJ cII cO cZ : ClassId} (F : FX l s0 D cI cC cJ cII cO cZ) {ws : va_W} {q a4 ea : Nat} {md n : Int32} (he : ws[q]? = some (a4, .inr (iAL, [.int md, .ref ea, .int n]))) {ep cap : Nat} {ef : Nat → Option Nat} (ha : ws[ep]? = some (ea, .inl (cO, cap, .inr (.inr (.inr (.inr ef)))))) (sz : Nat) (j v : Nat) (hj : j < cap) (hcap : cap < 2 ^ 31) (hjn : nI j < n) (hv : ef j = some v)  : Met l y_AL_get [.code y_AL_get b_AL_get 2 (some (.object "java/lang/Object"))] { frames := 2, cells := 0, slots := 0, locals := 80 } (gx_P s0 D classes ws sz [.ref a4, .int (nI j)]) (gx_Rr (fun r => r = v)) 0 0 (fun _ => False) := by
  refine gx_met (by decide +kernel) (Nat.le_of_ble_eq_true rfl) ?_
  intro p e s m below meth c ls hx hb hr hml hown hlocks hnm hsz hV hP hD hS hA hA0 hl
  have hg := fx_g F hV ([.ref a4, .int (nI j)] : List Value).toArray
  have hK := fx_k F hV
  have hn9 := fx_n F hV
  have hl : lv_has ls 2 [(0, .ref a4), (1, .int (nI j))] := hl
  refine lv_iload_n hx hb d_AL_get_0 rfl (lv_at hl 1 rfl) ?_
  refine lv_aload_n hx hb d_AL_get_1 rfl (lv_at hl 0 rfl) ?_
  refine va_get (D := D) (ci := iAL) (v := .int n) (C := R_AL) (T := F_AL) (N := 3) hx hb (fl_AL hg) (fun _ h9 => h9) hown hK hP q (he) rfl 2 (by decide) (hg _ k_74) (fun _ h9 => h9) rfl d_AL_get_2 ?_
  refine gx_readi (va_runS (As := [.int (nI j), .int n]) (rest := []) ⟨hx, hb, hml, hown, gx_nil⟩ (c_OB_checkIndex F _ _ _ _ (nI_pos (by omega)) hjn) ⟨gx_cb (hg _ k_198) (hg _ k_17) (hg _ k_196) nd_OB_checkIndex ⟨by decide, by decide⟩, hg _ k_197⟩ (gx_preS hV hP hD hS hA0) rfl rfl hl.1 rfl (lv_room (Nat.le_of_ble_eq_true rfl)) d_AL_get_5 ⟨by decide, by decide⟩) (fun r_5 h_5 => ?_)
  refine lv_pop hx hb d_AL_get_8 rfl ?_
  refine lv_aload_n hx hb d_AL_get_9 rfl (lv_at hl 0 rfl) ?_
  refine lv_iload_n hx hb d_AL_get_10 rfl (lv_at hl 1 rfl) ?_
  refine gx_readr (va_runV (As := [.int (nI j)]) (rest := []) ⟨hx, hb, hml, hown, gx_nil⟩ (c_AL_elementData F he ha _ j v hj hcap hv) ⟨gx_cb (hg _ k_205) (hg _ k_5) (hg _ k_202) nd_AL_elementData ⟨by decide, by decide⟩, hg _ k_203, hg _ k_204⟩ (gx_preV hV hP hD hS hA0 (va_recv hK hP rfl (he))) rfl rfl hl.1 rfl (lv_room (Nat.le_of_ble_eq_true rfl)) d_AL_get_11 ⟨by decide, by decide⟩) (fun r_11 h_11 => ?_)
  exact gx_iretr hx hb hr (Or.inl ⟨_, rfl⟩) hlocks d_AL_get_14 (h_11)

