set_option maxRecDepth 100000 in
set_option maxHeartbeats 4000000 in
theorem c_PB_forgetEvents {l : Launch} {s0 : State} {D : va_G} {cI cC cJ cII cO cZ : ClassId} (F : FX l s0 D cI cC cJ cII cO cZ) {ws : va_W} {κ : Nat → Nat} {ra : Nat → Nat → Nat} {z sg : Nat → Int32} {G : Nat → Nat → Nat → Int32} {we : Nat → Int32} {pd : Nat → Int64} (hI : cb_I cI cC cJ cII ws κ ra z sg G we pd) (sz : Nat) (k : Nat) (hk : k < 10)  : Met l y_PB_forgetEvents [.code y_PB_forgetEvents b_PB_forgetEvents 2 none] { frames := 1, cells := 0, slots := 0, locals := 40 } (gx_P s0 D classes ws sz [.ref (κ 0), .int (nI k)]) (va_Qv (fun w1 => cb_I cI cC cJ cII w1 κ ra (upd z 4 (z 4 - we k)) sg (cb_upg G 2 k (cb_fil (G 2 k) 0 6)) (upd we k 0) pd ∧ cb_hi ws w1) (gx_B D classes ws sz) (va_A ws sz)) 0 0 (va_A ws sz) := by
  refine gx_met (by decide +kernel) (Nat.le_of_ble_eq_true rfl) ?_
  intro p e s m below meth c ls hx hb hr hml hown hlocks hnm hsz hV hP hD hS hA hA0 hl
  have hg := fx_g F hV ([.ref (κ 0), .int (nI k)] : List Value).toArray
  have hK := fx_k F hV
  have hn9 := fx_n F hV
  have hl : lv_has ls 2 [(0, .ref (κ 0)), (1, .int (nI k))] := hl
  have hH : cb_hi ws ws := fun _ _ => rfl
  refine lv_aload_n hx hb d_PB_forgetEvents_0 rfl (lv_at hl 0 rfl) ?_
  refine va_get (D := D) (ci := iPB) (v := .ref (κ 17)) (C := R_PB) (T := F_PB) (N := 11) hx hb (fl_PB hg) (fun _ h9 => h9) hown hK hP 0 (hI.1) rfl 3 (by decide) (hg _ k_91) (fun _ h9 => h9) rfl d_PB_forgetEvents_1 ?_
  refine lv_iload_n hx hb d_PB_forgetEvents_4 rfl (lv_at hl 1 rfl) ?_
  refine gx_al hx hb hK hP 17 3 (hI.2.2.2.2.2.1 2 (by decide)) rfl rfl k (v := ra 2 k) (rfl) (hk) (by decide) (if_pos (hk)) d_PB_forgetEvents_5 ?_
  refine lv_iconst (v := 0) hx hb d_PB_forgetEvents_6 (by decide) ?_
  refine gx_callv (va_runS (As := [.ref (ra 2 k), .int 0]) (rest := []) ⟨hx, hb, hml, hown, gx_nil⟩ (c_AR_fill F (hI.2.2.2.2.2.2 2 (by decide) k hk) _ 0 (by decide)) ⟨gx_cb (hg _ k_87) (hg _ k_6) (hg _ k_85) nd_AR_fill ⟨by decide, by decide⟩, hg _ k_86⟩ (gx_preS hV hP hD hS hA0) rfl rfl hl.1 rfl (lv_room (Nat.le_of_ble_eq_true rfl)) d_PB_forgetEvents_7 ⟨by decide, by decide⟩) hD hS hA (fun w1 H locs h_7 hP hD hS => ?_)
  replace hI : cb_I cI cC cJ cII w1 κ ra z sg (cb_upg G 2 k (cb_fil (G 2 k) 0 6)) we pd := by rw [h_7]; exact cb_I.row (by decide) hk hI
  replace hH : cb_hi ws w1 := by rw [h_7]; exact cb_hi.set (by have := cb_gp_lt 2 (by decide) k hk; omega) hH
  refine lv_aload_n hx hb d_PB_forgetEvents_10 rfl (lv_at hl 0 rfl) ?_
  refine lv_dup hx hb d_PB_forgetEvents_11 rfl ?_
  refine va_get (D := D) (ci := iPB) (v := .int (z 4)) (C := R_PB) (T := F_PB) (N := 11) hx hb (fl_PB hg) (fun _ h9 => h9) hown hK hP 0 (hI.1) rfl 5 (by decide) (hg _ k_93) (fun _ h9 => h9) rfl d_PB_forgetEvents_12 ?_
  refine lv_aload_n hx hb d_PB_forgetEvents_15 rfl (lv_at hl 0 rfl) ?_
  refine va_get (D := D) (ci := iPB) (v := .ref (κ 28)) (C := R_PB) (T := F_PB) (N := 11) hx hb (fl_PB hg) (fun _ h9 => h9) hown hK hP 0 (hI.1) rfl 4 (by decide) (hg _ k_92) (fun _ h9 => h9) rfl d_PB_forgetEvents_16 ?_
  refine lv_iload_n hx hb d_PB_forgetEvents_19 rfl (lv_at hl 1 rfl) ?_
  refine gx_il hx hb hK hP 28 0 (hI.2.2.2.1) rfl k (rfl) (hk) (by decide) d_PB_forgetEvents_20 ?_
  refine lv_isub hx hb d_PB_forgetEvents_21 ?_
  refine va_put (D := D) (ci := iPB) (v := .int ((z 4) - (we k))) (ty := .int) (C := R_PB) (T := F_PB) (N := 11) hx hb (fl_PB hg) (fun _ h9 => h9) t_PB t_PB_ok n_PB hown hK hP hD hS 0 (hI.1) rfl 5 (by decide) (hg _ k_93) (fun _ h9 => h9) rfl (by decide +kernel) rfl rfl (Nat.le_of_ble_eq_true rfl) d_PB_forgetEvents_22 (fun H locs hP hD hS => ?_)
  obtain ⟨w_1, ew_1⟩ : ∃ x : va_W, x = w1.set 0 (κ 0, .inr (iPB, [.ref (κ 1), .ref (κ 10), .int (z 3), .ref (κ 17), .ref (κ 28), .int ((z 4) - (we k)), .ref (κ 29), .ref (κ 40), .ref (κ 51), .ref (κ 62), .ref (κ 63)])) := ⟨_, rfl⟩
  replace hP : va_P D classes w_1 H := by rw [ew_1]; exact hP
  replace hD : va_D (va_A ws sz) w_1 := by rw [ew_1]; exact hD
  replace hI : cb_I cI cC cJ cII w_1 κ ra (upd z 4 ((z 4) - (we k))) sg (cb_upg G 2 k (cb_fil (G 2 k) 0 6)) we pd := by rw [ew_1]; exact cb_I.obj (z := z) (z' := upd z 4 ((z 4) - (we k))) rfl rfl rfl hI
  replace hH : cb_hi ws w_1 := by rw [ew_1]; exact cb_hi.set (by decide) hH
  refine lv_aload_n hx hb d_PB_forgetEvents_25 rfl (lv_at hl 0 rfl) ?_
  refine va_get (D := D) (ci := iPB) (v := .ref (κ 28)) (C := R_PB) (T := F_PB) (N := 11) hx hb (fl_PB hg) (fun _ h9 => h9) hown hK hP 0 (hI.1) rfl 4 (by decide) (hg _ k_92) (fun _ h9 => h9) rfl d_PB_forgetEvents_26 ?_
  refine lv_iload_n hx hb d_PB_forgetEvents_29 rfl (lv_at hl 1 rfl) ?_
  refine lv_iconst (v := 0) hx hb d_PB_forgetEvents_30 (by decide) ?_
  refine gx_is hx hb hK hP hD hS 28 0 (hI.2.2.2.1) rfl k (rfl) (hk) (by decide) d_PB_forgetEvents_31 (fun H locs hP hD hS => ?_)
  obtain ⟨w_2, ew_2⟩ : ∃ x : va_W, x = w_1.set 28 (κ 28, .inl (cI, 10, .inl (upd we k 0))) := ⟨_, rfl⟩
  replace hP : va_P D classes w_2 H := by rw [ew_2]; exact hP
  replace hD : va_D (va_A ws sz) w_2 := by rw [ew_2]; exact hD
  replace hI : cb_I cI cC cJ cII w_2 κ ra (upd z 4 ((z 4) - (we k))) sg (cb_upg G 2 k (cb_fil (G 2 k) 0 6)) (upd we k 0) pd := by rw [ew_2]; exact cb_I.wev hI
  replace hH : cb_hi ws w_2 := by rw [ew_2]; exact cb_hi.set (by decide) hH
  exact gx_vret hx hb hr hlocks hS hP hD (by decide) (by decide) d_PB_forgetEvents_32 (⟨hI, hH⟩)

set_option maxRecDepth 100000 in
set_option maxHeartbeats 4000000 in
theorem c_PB_billedLine {l : Launch} {s0 : State} {D : va_G} {cI cC cJ cII cO cZ : ClassId} (F : FX l s0 D cI cC cJ cII cO cZ) {ws : va_W} {κ : Nat → Nat} {ra : Nat → Nat → Nat} {z sg : Nat → Int32} {G : Nat → Nat → Nat → Int32} {we : Nat → Int32} {pd : Nat → Int64} (hI : cb_I cI cC cJ cII ws κ ra z sg G we pd) (sz : Nat) (k j : Nat) (hk : k < 10) (hj : j < 6)  : Met l y_PB_billedLine [.code y_PB_billedLine b_PB_billedLine 5 (some (.object "PortBills$Line"))] { frames := 3, cells := 1, slots := 9, locals := 130 } (gx_P s0 D classes ws sz [.ref (κ 0), .int (nI k), .int (nI j)]) (va_Qr (fun u => u.1 = ws ++ [(u.2, .inr (iLN, cb_ln (cb_mli (nI k) (nI j) (G 2 k j) (if (0 : Int32) < G 2 k j - G 1 j 2 then G 2 k j - G 1 j 2 else 0) (-1) (if (z 3 >>> (nI j &&& 31)) &&& 1 = 1 then 0 else 1)) (fun _ => cb_cents (G 1 j) (G 4 k j) (G 5 k j) (if (0 : Int32) < G 2 k j - G 1 j 2 then G 2 k j - G 1 j 2 else 0))))]) (gx_Bq D classes ws sz) (va_A ws sz)) 1 9 (va_A ws sz) := by
  refine gx_met (by decide +kernel) (Nat.le_of_ble_eq_true rfl) ?_
  intro p e s m below meth c ls hx hb hr hml hown hlocks hnm hsz hV hP hD hS hA hA0 hl
  have hg := fx_g F hV ([.ref (κ 0), .int (nI k), .int (nI j)] : List Value).toArray
  have hK := fx_k F hV
  have hn9 := fx_n F hV
  have hl : lv_has ls 5 [(0, .ref (κ 0)), (1, .int (nI k)), (2, .int (nI j))] := hl
  refine lv_aload_n hx hb d_PB_billedLine_0 rfl (lv_at hl 0 rfl) ?_
  refine va_get (D := D) (ci := iPB) (v := .ref (κ 17)) (C := R_PB) (T := F_PB) (N := 11) hx hb (fl_PB hg) (fun _ h9 => h9) hown hK hP 0 (hI.1) rfl 3 (by decide) (hg _ k_91) (fun _ h9 => h9) rfl d_PB_billedLine_1 ?_
  refine lv_iload_n hx hb d_PB_billedLine_4 rfl (lv_at hl 1 rfl) ?_
  refine gx_al hx hb hK hP 17 3 (hI.2.2.2.2.2.1 2 (by decide)) rfl rfl k (v := ra 2 k) (rfl) (hk) (by decide) (if_pos (hk)) d_PB_billedLine_5 ?_
  refine lv_iload_n hx hb d_PB_billedLine_6 rfl (lv_at hl 2 rfl) ?_
  refine gx_il hx hb hK hP (cb_gp 2 + 1 + k) 0 (hI.2.2.2.2.2.2 2 (by decide) k (hk)) rfl j (rfl) (hj) (by decide) d_PB_billedLine_7 ?_
  refine lv_istore_n (lv' := [(3, .int ((G 2 k) j)), (0, .ref (κ 0)), (1, .int (nI k)), (2, .int (nI j))]) hx hb d_PB_billedLine_8 rfl hl (by decide) rfl (fun ls hl => ?_)
  refine lv_iconst (v := 0) hx hb d_PB_billedLine_9 (by decide) ?_
  refine lv_iload_n hx hb d_PB_billedLine_10 rfl (lv_at hl 0 rfl) ?_
  refine lv_aload_n hx hb d_PB_billedLine_11 rfl (lv_at hl 1 rfl) ?_
  refine va_get (D := D) (ci := iPB) (v := .ref (κ 10)) (C := R_PB) (T := F_PB) (N := 11) hx hb (fl_PB hg) (fun _ h9 => h9) hown hK hP 0 (hI.1) rfl 1 (by decide) (hg _ k_89) (fun _ h9 => h9) rfl d_PB_billedLine_12 ?_
  refine lv_iload_n hx hb d_PB_billedLine_15 rfl (lv_at hl 3 rfl) ?_
  refine gx_al hx hb hK hP 10 3 (hI.2.2.2.2.2.1 1 (by decide)) rfl rfl j (v := ra 1 j) (rfl) (hj) (by decide) (if_pos (hj)) d_PB_billedLine_16 ?_
  refine lv_iconst (v := 2) hx hb d_PB_billedLine_17 (by decide) ?_
  refine gx_il hx hb hK hP (cb_gp 1 + 1 + j) 0 (hI.2.2.2.2.2.2 1 (by decide) j (hj)) rfl 2 (by decide) (by decide) (by decide) d_PB_billedLine_18 ?_
  refine lv_isub hx hb d_PB_billedLine_19 ?_
  refine va_mmax hx hb (by rw [hml]; exact hl.1.symm) hown (hg _ k_339) (hg _ k_340) (hg _ k_14) (hg _ k_341) (by decide) (Nat.le_of_ble_eq_true rfl) (by decide) (by decide) d_PB_billedLine_20 ?_
  obtain ⟨ch, ech⟩ : ∃ x : Int32, x = (if (0 : Int32) < G 2 k j - G 1 j 2 then G 2 k j - G 1 j 2 else 0) := ⟨_, rfl⟩
  rw [← ech]
  refine lv_istore (lv' := [(4, .int ch), (3, .int ((G 2 k) j)), (0, .ref (κ 0)), (1, .int (nI k)), (2, .int (nI j))]) hx hb d_PB_billedLine_23 hl (by decide) rfl (fun ls hl => ?_)
  refine va_new (fs := [.int 0, .int 0, .int 0, .int 0, .long 0, .int 0, .int 0, .int 0, .long 0]) hx hb (fl_LN hg) (fun _ h9 => h9) t_LN t_LN_ok hown (hg _ k_206) (hg _ k_342) (hg _ k_15) hK hP hD hS hA (ci := iLN) rfl (by decide +kernel) (by decide) (by decide) d_PB_billedLine_25 (fun qn H hP hD hS => ?_)
  obtain ⟨w2, ew2⟩ : ∃ x : va_W, x = ws ++ [(qn, .inr (iLN, [.int 0, .int 0, .int 0, .int 0, .long 0, .int 0, .int 0, .int 0, .long 0]))] := ⟨_, rfl⟩
  rw [← ew2] at hP hD
  have hn2 : w2[ws.length]? = some (qn, .inr (iLN, [.int 0, .int 0, .int 0, .int 0, .long 0, .int 0, .int 0, .int 0, .long 0])) := by rw [ew2]; exact gx_lat _ _
  replace hI : cb_I cI cC cJ cII w2 κ ra z sg G we pd := by rw [ew2]; exact cb_I.app hI
  refine lv_dup hx hb d_PB_billedLine_28 rfl ?_
  refine lv_iload_n hx hb d_PB_billedLine_29 rfl (lv_at hl 3 rfl) ?_
  refine lv_iload_n hx hb d_PB_billedLine_30 rfl (lv_at hl 4 rfl) ?_
  refine lv_iload_n hx hb d_PB_billedLine_31 rfl (lv_at hl 1 rfl) ?_
  refine lv_iload hx hb d_PB_billedLine_32 (lv_at hl 0 rfl) ?_
  refine lv_aload_n hx hb d_PB_billedLine_34 rfl (lv_at hl 2 rfl) ?_
  refine lv_iload_n hx hb d_PB_billedLine_35 rfl (lv_at hl 3 rfl) ?_
  refine lv_iload_n hx hb d_PB_billedLine_36 rfl (lv_at hl 4 rfl) ?_
  refine lv_iload hx hb d_PB_billedLine_37 (lv_at hl 0 rfl) ?_
  refine gx_readl (va_runV (As := [.int (nI k), .int (nI j), .int ch]) (rest := [.int ch, .int ((G 2 k) j), .int (nI j), .int (nI k), .ref qn, .ref qn]) ⟨hx, hb, hml, hown, gx_nil⟩ (c_PB_centsFor F hI _ k j hk hj ch) ⟨gx_cb (hg _ k_346) (hg _ k_1) (hg _ k_343) nd_PB_centsFor ⟨by decide, by decide⟩, hg _ k_345, hg _ ks_13⟩ (gx_preV hV hP hD hS hA0 (va_recv hK hP rfl (hI.1))) rfl rfl hl.1 rfl (lv_room (Nat.le_of_ble_eq_true rfl)) d_PB_billedLine_39 ⟨by decide, by decide⟩) (fun r_39 h_39 => ?_)
  subst h_39
  refine lv_iconst (v := (-1)) hx hb d_PB_billedLine_42 (by decide) ?_
  refine lv_aload_n hx hb d_PB_billedLine_43 rfl (lv_at hl 2 rfl) ?_
  refine lv_iload_n hx hb d_PB_billedLine_44 rfl (lv_at hl 4 rfl) ?_
  refine gx_readi (gx_runV12 (As := [.int (nI j)]) (rest := [.int (-1), .long (cb_cents (G 1 j) (G 4 k j) (G 5 k j) ch), .int ch, .int ((G 2 k) j), .int (nI j), .int (nI k), .ref qn, .ref qn]) ⟨hx, hb, hml, hown, gx_nil⟩ (c_PB_hasTariff F hI _ _) ⟨gx_cb (hg _ k_287) (hg _ k_1) (hg _ k_284) nd_PB_hasTariff ⟨by decide, by decide⟩, hg _ k_286, hg _ ks_10⟩ (by decide) (gx_preV hV hP hD hS hA0 (va_recv hK hP rfl (hI.1))) rfl rfl hl.1 rfl (gx_room (Nat.le_of_ble_eq_true rfl)) d_PB_billedLine_45 ⟨by decide, by decide⟩) (fun r_45 h_45 => ?_)
  rcases h_45 with ⟨rfl, hbit⟩ | ⟨rfl, hbit⟩
  · skip
    refine lv_if_ne (tgt := 55) hx hb d_PB_billedLine_48 (by decide) (fun c_48 => ?_) (fun c_48 => absurd c_48 (by decide))
    refine lv_iconst (v := 0) hx hb d_PB_billedLine_55 (by decide) ?_
    refine gx_callv (va_runIN (As := [.int (nI k), .int (nI j), .int ((G 2 k) j), .int ch, .long (cb_cents (G 1 j) (G 4 k j) (G 5 k j) ch), .int (-1), .int 0]) (rest := [.ref qn]) ⟨hx, hb, hml, hown, gx_nil⟩ (c_LN_init F hn2 _ _ _ _ _ _ _ _ (by decide)) ⟨gx_cn (hg _ k_356) (hg _ k_15) (hn9 _ kn_354) nd_LN_init ⟨by decide, by decide⟩, rfl, hg _ k_355⟩ (gx_preS hV hP hD hS hA0) rfl rfl hl.1 rfl (lv_room (Nat.le_of_ble_eq_true rfl)) d_PB_billedLine_56 ⟨by decide, by decide⟩) hD hS hA (fun w1 H locs h_56 hP hD hS => ?_)
    exact gx_aret hx hb hr (Or.inl ⟨_, rfl⟩) hlocks hS hP hD (by decide) (by decide) d_PB_billedLine_59 (by show w1 = ws ++ [(qn, .inr (iLN, cb_ln (cb_mli (nI k) (nI j) (G 2 k j) ch (-1) (if (z 3 >>> (nI j &&& 31)) &&& 1 = 1 then 0 else 1)) (fun _ => cb_cents (G 1 j) (G 4 k j) (G 5 k j) ch)))]; rw [h_56, ew2, gx_las, if_pos hbit])
  · skip
    refine lv_if_ne (tgt := 55) hx hb d_PB_billedLine_48 (by decide) (fun c_48 => absurd c_48 (by decide)) (fun c_48 => ?_)
    refine lv_iconst (v := 1) hx hb d_PB_billedLine_51 (by decide) ?_
    refine lv_goto (tgt := 56) hx hb d_PB_billedLine_52 (by decide) ?_
    refine gx_callv (va_runIN (As := [.int (nI k), .int (nI j), .int ((G 2 k) j), .int ch, .long (cb_cents (G 1 j) (G 4 k j) (G 5 k j) ch), .int (-1), .int 1]) (rest := [.ref qn]) ⟨hx, hb, hml, hown, gx_nil⟩ (c_LN_init F hn2 _ _ _ _ _ _ _ _ (by decide)) ⟨gx_cn (hg _ k_356) (hg _ k_15) (hn9 _ kn_354) nd_LN_init ⟨by decide, by decide⟩, rfl, hg _ k_355⟩ (gx_preS hV hP hD hS hA0) rfl rfl hl.1 rfl (lv_room (Nat.le_of_ble_eq_true rfl)) d_PB_billedLine_56 ⟨by decide, by decide⟩) hD hS hA (fun w1 H locs h_56 hP hD hS => ?_)
    exact gx_aret hx hb hr (Or.inl ⟨_, rfl⟩) hlocks hS hP hD (by decide) (by decide) d_PB_billedLine_59 (by show w1 = ws ++ [(qn, .inr (iLN, cb_ln (cb_mli (nI k) (nI j) (G 2 k j) ch (-1) (if (z 3 >>> (nI j &&& 31)) &&& 1 = 1 then 0 else 1)) (fun _ => cb_cents (G 1 j) (G 4 k j) (G 5 k j) ch)))]; rw [h_56, ew2, gx_las, if_neg hbit])

