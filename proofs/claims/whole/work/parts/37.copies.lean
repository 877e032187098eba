set_option maxRecDepth 100000 in
set_option maxHeartbeats 4000000 in
theorem c_AR_copyOf2 {l : Launch} {s0 : State} {D : va_G} {cI cC cJ cII cO cZ : ClassId} (F : FX l s0 D cI cC cJ cII cO cZ) {ws : va_W} {ep ea cap : Nat} {ef : Nat → Option Nat} (ha : ws[ep]? = some (ea, .inl (cO, cap, .inr (.inr (.inr (.inr ef)))))) (sz : Nat) (nc : Nat) (hnc : cap ≤ nc) (hnc2 : nc ≤ 400) (hel : ∀ i, i < cap → ∀ y, ef i = some y → ∃ (k : Nat) (vs : List Value), ws[k]? = some (y, .inr (iLN, vs))) (mi : Nat) (hmi0 : ∀ s, gx_V s0 s → va_Mi "[Ljava/lang/Object;" mi s)  : Met l y_AR_copyOf2 [.code y_AR_copyOf2 b_AR_copyOf2 4 (some (.array (.object "java/lang/Object")))] { frames := 2, cells := 1, slots := 400, locals := 60 } (gx_P s0 D classes ws sz [.ref ea, .int (nI nc), .ref mi]) (va_Qr (fun u => u.1 = ws ++ [(u.2, .inl (cO, nc, .inr (.inr (.inr (.inr (va_cpy ef (fun _ => none) 0 0 cap))))))]) (gx_Bq D classes ws sz) (va_A ws sz)) 1 400 (va_A ws sz) := by
  refine gx_met (by decide +kernel) (Nat.le_of_ble_eq_true rfl) ?_
  intro p e s m below meth c ls hx hb hr hml hown hlocks hnm hsz hV hP hD hS hA hA0 hl
  have hg := fx_g F hV ([.ref ea, .int (nI nc), .ref mi] : List Value).toArray
  have hK := fx_k F hV
  have hn9 := fx_n F hV
  have hmi := hmi0 s hV
  have hl : lv_has ls 4 [(0, .ref ea), (1, .int (nI nc)), (2, .ref mi)] := hl
  refine lv_aload_n hx hb d_AR_copyOf2_0 rfl (lv_at hl 2 rfl) ?_
  refine va_ldcM hx hb hown (hg _ k_435) hmi d_AR_copyOf2_1 ?_
  refine lv_acmp_ne (rx := some mi) (ry := some mi) (tgt := 13) hx hb d_AR_copyOf2_3 (by decide) (fun c => absurd rfl c) (fun _ => ?_)
  refine lv_iload_n hx hb d_AR_copyOf2_6 rfl (lv_at hl 1 rfl) ?_
  refine va_newq hx hb hown (hg _ k_437) (fx_ao F hV) hK hP hD hS hA (N' := nc) (nI_pos (by omega)) (nI_clamp (by omega)) (by omega) (by decide) (show 0 + nc ≤ 400 by omega) d_AR_copyOf2_7 (fun qn cA H hK9 hP hD hS => ?_)
  have eA := gx_sameO hK9
  rw [eA] at hP hD
  refine W.widen (show 0 + 1 ≤ 1 by omega) (show 0 + nc ≤ 400 by omega) ?_
  obtain ⟨w2, ew2⟩ : ∃ x : va_W, x = ws ++ [(qn, .inl (cO, nc, .inr (.inr (.inr (.inr (fun _ => none))))))] := ⟨_, rfl⟩
  rw [← ew2] at hP hD
  have ha2 : w2[ep]? = some (ea, .inl (cO, cap, .inr (.inr (.inr (.inr ef))))) := by rw [ew2]; exact gx_ap ha
  have hn2 : w2[ws.length]? = some (qn, .inl (cO, nc, .inr (.inr (.inr (.inr (fun _ => none)))))) := by rw [ew2]; exact gx_lat _ _
  refine lv_goto (tgt := 24) hx hb d_AR_copyOf2_10 (by decide) ?_
  refine lv_astore_n (lv' := [(3, .ref qn), (0, .ref ea), (1, .int (nI nc)), (2, .ref mi)]) hx hb d_AR_copyOf2_24 rfl hl (by decide) rfl (fun ls hl => ?_)
  refine lv_aload_n hx hb d_AR_copyOf2_25 rfl (lv_at hl 1 rfl) ?_
  refine lv_iconst (v := 0) hx hb d_AR_copyOf2_26 (by decide) ?_
  refine lv_aload_n hx hb d_AR_copyOf2_27 rfl (lv_at hl 0 rfl) ?_
  refine lv_iconst (v := 0) hx hb d_AR_copyOf2_28 (by decide) ?_
  refine lv_aload_n hx hb d_AR_copyOf2_29 rfl (lv_at hl 1 rfl) ?_
  refine va_alen hx hb hK hP ep 4 (ha2) rfl (v := nI cap) rfl d_AR_copyOf2_30 ?_
  refine lv_iload_n hx hb d_AR_copyOf2_31 rfl (lv_at hl 2 rfl) ?_
  refine va_mmin hx hb (by rw [hml]; exact hl.1.symm) hown (hg _ k_438) (hg _ k_439) (hg _ k_14) (hg _ k_440) (by decide) (Nat.le_of_ble_eq_true rfl) (by decide) (by decide) d_AR_copyOf2_32 ?_
  rw [show (if nI nc < nI cap then nI nc else nI cap) = nI cap from if_neg (fun q => absurd (gx_ltn q) (by omega))]
  refine va_copyq (C := "PortBills$Line") hx hb (by rw [hml]; exact hl.1.symm) hown (hg _ k_441) (hg _ k_167) (hg _ k_166) (hg _ k_8) hK hP hD hS ep ws.length 4 4 ha2 hn2 rfl rfl (by decide) (by decide) (nI_pos (by omega)) (by rw [nI_clamp (by omega)]; show 0 + cap ≤ cap; omega) (by rw [nI_clamp (by omega)]; show 0 + cap ≤ nc; omega) (fun i hi y hy => ?_) (vb_asgC (fx_lo F hV)) (by decide) (Nat.le_of_ble_eq_true rfl) d_AR_copyOf2_35 (fun H locs hP hD hS => ?_)
  · rw [nI_clamp (by omega)] at hi
    obtain ⟨k9, vs9, h9⟩ := hel i hi y (by have h8 := hy; rw [show (0 : Int32).toNatClampNeg + i = i from Nat.zero_add i] at h8; exact h8)
    exact va_recv (q := (R_LN, F_LN, 9)) hK hP rfl (show w2[k9]? = some (y, .inr (iLN, vs9)) by rw [ew2]; exact gx_ap h9)
  rw [ew2, gx_las, nI_clamp (by omega)] at hP hD
  refine lv_aload_n hx hb d_AR_copyOf2_38 rfl (lv_at hl 0 rfl) ?_
  exact gx_aret hx hb hr (Or.inr ⟨_, rfl⟩) hlocks hS hP hD (by decide) (by decide) d_AR_copyOf2_39 (rfl)

set_option maxRecDepth 100000 in
set_option maxHeartbeats 4000000 in
theorem c_AR_copyOf {l : Launch} {s0 : State} {D : va_G} {cI cC cJ cII cO cZ : ClassId} (F : FX l s0 D cI cC cJ cII cO cZ) {ws : va_W} {ep ea cap : Nat} {ef : Nat → Option Nat} (ha : ws[ep]? = some (ea, .inl (cO, cap, .inr (.inr (.inr (.inr ef)))))) (sz : Nat) (nc : Nat) (hnc : cap ≤ nc) (hnc2 : nc ≤ 400) (hel : ∀ i, i < cap → ∀ y, ef i = some y → ∃ (k : Nat) (vs : List Value), ws[k]? = some (y, .inr (iLN, vs)))  : Met l y_AR_copyOf [.code y_AR_copyOf b_AR_copyOf 2 (some (.array (.object "java/lang/Object")))] { frames := 3, cells := 1, slots := 400, locals := 90 } (gx_P s0 D classes ws sz [.ref ea, .int (nI nc)]) (va_Qr (fun u => u.1 = ws ++ [(u.2, .inl (cO, nc, .inr (.inr (.inr (.inr (va_cpy ef (fun _ => none) 0 0 cap))))))]) (gx_Bq D classes ws sz) (va_A ws sz)) 1 400 (va_A ws sz) := by
  refine gx_met (by decide +kernel) (Nat.le_of_ble_eq_true rfl) ?_
  intro p e s m below meth c ls hx hb hr hml hown hlocks hnm hsz hV hP hD hS hA hA0 hl
  have hg := fx_g F hV ([.ref ea, .int (nI nc)] : List Value).toArray
  have hK := fx_k F hV
  have hn9 := fx_n F hV
  obtain ⟨mi, hmi0⟩ := fx_mi0 F
  have hmi := hmi0 s hV
  have hl : lv_has ls 2 [(0, .ref ea), (1, .int (nI nc))] := hl
  refine lv_aload_n hx hb d_AR_copyOf_0 rfl (lv_at hl 0 rfl) ?_
  refine lv_iload_n hx hb d_AR_copyOf_1 rfl (lv_at hl 1 rfl) ?_
  refine lv_aload_n hx hb d_AR_copyOf_2 rfl (lv_at hl 0 rfl) ?_
  refine va_getC (C := "[Ljava/lang/Object;") hx hb (by rw [hml]; exact hl.1.symm) hown (hg _ k_419) (fx_dc F hV _) (hg _ k_750) (hg _ k_420) (hg _ k_431) hmi (gx_recO hK hP ha) (by decide) (Nat.le_of_ble_eq_true rfl) d_AR_copyOf_3 ?_
  refine gx_callr (va_runS (As := [.ref ea, .int (nI nc), .ref mi]) (rest := []) ⟨hx, hb, hml, hown, gx_nil⟩ (c_AR_copyOf2 F ha _ nc hnc hnc2 hel mi (fun s1 h1 => hmi0 s1 h1)) ⟨gx_cb (hg _ k_434) (hg _ k_6) (hg _ k_432) nd_AR_copyOf2 ⟨by decide, by decide⟩, hg _ k_433⟩ (gx_preS hV hP hD hS hA0) rfl rfl hl.1 rfl (lv_room (Nat.le_of_ble_eq_true rfl)) d_AR_copyOf_6 ⟨by decide, by decide⟩) hD hS hA (fun r_6 w1 H locs h_6 hP hD hS => ?_)
  exact gx_aret hx hb hr (Or.inr ⟨_, rfl⟩) hlocks hS hP hD (by decide) (by decide) d_AR_copyOf_9 (h_6)

set_option maxRecDepth 100000 in
set_option maxHeartbeats 4000000 in
theorem c_AS_newLength {l : Launch} {s0 : State} {D : va_G} {cI cC cJ cII cO cZ : ClassId} (F : FX l s0 D cI cC cJ cII cO cZ) (ws : va_W) (sz : Nat) (c0 : Nat) (hc0 : 10 ≤ c0) (hc1 : c0 ≤ 200)  : Met l y_AS_newLength [.code y_AS_newLength b_AS_newLength 4 (some .int)] { frames := 1, cells := 0, slots := 0, locals := 40 } (gx_P s0 D classes ws sz [.int (nI c0), .int (nI 1), .int (nI (c0 / 2))]) (gx_Ri (fun r => r = nI (c0 + c0 / 2))) 0 0 (fun _ => False) := by
  refine gx_met (by decide +kernel) (Nat.le_of_ble_eq_true rfl) ?_
  intro p e s m below meth c ls hx hb hr hml hown hlocks hnm hsz hV hP hD hS hA hA0 hl
  have hg := fx_g F hV ([.int (nI c0), .int (nI 1), .int (nI (c0 / 2))] : List Value).toArray
  have hK := fx_k F hV
  have hn9 := fx_n F hV
  have hl : lv_has ls 4 [(0, .int (nI c0)), (1, .int (nI 1)), (2, .int (nI (c0 / 2)))] := hl
  refine lv_iload_n hx hb d_AS_newLength_0 rfl (lv_at hl 0 rfl) ?_
  refine lv_iload_n hx hb d_AS_newLength_1 rfl (lv_at hl 1 rfl) ?_
  refine lv_iload_n hx hb d_AS_newLength_2 rfl (lv_at hl 2 rfl) ?_
  refine va_mmax hx hb (by rw [hml]; exact hl.1.symm) hown (hg _ k_411) (hg _ k_340) (hg _ k_14) (hg _ k_341) (by decide) (Nat.le_of_ble_eq_true rfl) (by decide) (by decide) d_AS_newLength_3 ?_
  rw [show (if nI 1 < nI (c0 / 2) then nI (c0 / 2) else nI 1) = nI (c0 / 2) from if_pos ((nI_ltI (by omega) (by omega)).mpr (by omega))]
  refine lv_iadd hx hb d_AS_newLength_6 ?_
  rw [nI_add]
  refine lv_istore_n (lv' := [(3, .int (nI (c0 + c0 / 2))), (0, .int (nI c0)), (1, .int (nI 1)), (2, .int (nI (c0 / 2)))]) hx hb d_AS_newLength_7 rfl hl (by decide) rfl (fun ls hl => ?_)
  refine lv_iconst (v := 0) hx hb d_AS_newLength_8 (by decide) ?_
  refine lv_iload_n hx hb d_AS_newLength_9 rfl (lv_at hl 0 rfl) ?_
  refine lv_icmp_ge (tgt := 21) hx hb d_AS_newLength_10 (by decide) (fun c_10 => absurd (gx_ngt (b := 0) c_10) (by omega)) (fun c_10 => ?_)
  refine lv_iload_n hx hb d_AS_newLength_13 rfl (lv_at hl 0 rfl) ?_
  refine lv_ldc (v := 2147483639) hx hb hown (hg _ k_412) d_AS_newLength_14 ?_
  refine lv_icmp_gt (tgt := 21) hx hb d_AS_newLength_16 (by decide) (fun c_16 => absurd ((nI_ltI (a := 2147483639) (by omega) (by omega)).mp c_16) (by omega)) (fun c_16 => ?_)
  refine lv_iload_n hx hb d_AS_newLength_19 rfl (lv_at hl 0 rfl) ?_
  exact gx_ireti hx hb hr hlocks rfl d_AS_newLength_20 (rfl)

