set_option maxRecDepth 100000 in
set_option maxHeartbeats 4000000 in
theorem c_PB_unpaid {l : Launch} {s0 : State} {D : va_G} {cI cC cJ cII cO cZ : ClassId} (F : FX l s0 D cI cC cJ cII cO cZ) {ws : va_W} {κ : Nat → Nat} {ra : Nat → Nat → Nat} {z sg : Nat → Int32} {G : Nat → Nat → Nat → Int32} {we : Nat → Int32} {pd : Nat → Int64} (hI : cb_I cI cC cJ cII ws κ ra z sg G we pd) {nl : Nat} {la lp : Nat → Nat} {li : Nat → Nat → Int32} {ll : Nat → Nat → Int64} (hL : cb_L cO ws (κ 62) (z 5) (fx_e0 F) nl la lp li ll) (sz : Nat) (hnl : nl ≤ 200) (p0 : Int32)  : gx_XM l y_PB_unpaid [.code y_PB_unpaid b_PB_unpaid 2 (some .long)] { frames := 9, cells := 1, slots := 6, locals := 320 } (gx_P s0 D classes ws sz [.ref (κ 0), .int p0]) (gx_Rl (fun r => ∃ k, k < 10 ∧ p0 = nI k ∧ r = cb_ow (nI k) li ll (-(pd k)) nl)) (fun E => E = "java/lang/IllegalArgumentException" ∧ (p0 < 0 ∨ nI 10 ≤ p0)) 1 6 (fun _ => False) := by
  refine gx_xmet (by decide +kernel) (Nat.le_of_ble_eq_true rfl) ?_
  intro p e s m below meth c ls hx hb hr hml hown hlocks hex hsz hV hP hD hS hA hA0 hl
  have hg := fx_g F hV ([.ref (κ 0), .int p0] : List Value).toArray
  have hK := fx_k F hV
  have hn9 := fx_n F hV
  have hl : lv_has ls 2 [(0, .ref (κ 0)), (1, .int p0)] := hl
  refine lv_iload_n hx hb d_PB_unpaid_0 rfl (lv_at hl 1 rfl) ?_
  refine gx_readi (va_runS (As := [.int p0]) (rest := []) ⟨hx, hb, hml, hown, gx_nil⟩ (c_PB_isCall F _ _ _) ⟨gx_cb (hg _ k_178) (hg _ k_1) (hg _ k_176) nd_PB_isCall ⟨by decide, by decide⟩, hg _ k_177⟩ (gx_preS hV hP hD hS hA0) rfl rfl hl.1 rfl (lv_room (Nat.le_of_ble_eq_true rfl)) d_PB_unpaid_1 ⟨by decide, by decide⟩) (fun r_1 h_1 => ?_)
  rcases h_1 with ⟨rfl, k, hk, rfl⟩ | ⟨rfl, hbad⟩
  · skip
    refine lv_if_ne (tgt := 17) hx hb d_PB_unpaid_4 (by decide) (fun c_4 => ?_) (fun c_4 => absurd c_4 (by decide))
    refine lv_aload_n hx hb d_PB_unpaid_17 rfl (lv_at hl 0 rfl) ?_
    refine lv_iload_n hx hb d_PB_unpaid_18 rfl (lv_at hl 1 rfl) ?_
    refine gx_readl (va_runV (As := [.int (nI k)]) (rest := []) ⟨hx, hb, hml, hown, gx_nil⟩ (c_PB_owedNow F hI hL _ hnl k hk) ⟨gx_cb (hg _ k_485) (hg _ k_1) (hg _ k_482) nd_PB_owedNow ⟨by decide, by decide⟩, hg _ k_484, hg _ ks_20⟩ (gx_preV hV hP hD hS hA0 (va_recv hK hP rfl (hI.1))) rfl rfl hl.1 rfl (lv_room (Nat.le_of_ble_eq_true rfl)) d_PB_unpaid_19 ⟨by decide, by decide⟩) (fun r_19 h_19 => ?_)
    exact gx_mx (gx_iretl hx hb hr hlocks d_PB_unpaid_22 (⟨k, hk, rfl, h_19⟩))
  · skip
    refine lv_if_ne (tgt := 17) hx hb d_PB_unpaid_4 (by decide) (fun c_4 => absurd c_4 (by decide)) (fun c_4 => ?_)
    exact gx_throw (own := "PortBills") (cls := "java/lang/IllegalArgumentException") (text := "no such call") (names := fx_nm) (ik := 71) (is := 103) (ic := 75) hx hb (fx_tr F) hown (by decide +kernel) (by decide +kernel) (hg _ k_215) (hg _ k_12) (fx_str_103 F hV).choose_spec (fx_own_75 F hV _) (hl.1.trans hml.symm) d_PB_unpaid_7 d_PB_unpaid_10 d_PB_unpaid_11 d_PB_unpaid_13 d_PB_unpaid_16 hex (by decide) (by decide) (by decide) (by decide) hlocks (⟨rfl, hbad⟩)

set_option maxRecDepth 100000 in
set_option maxHeartbeats 4000000 in
theorem c_PB_pay {l : Launch} {s0 : State} {D : va_G} {cI cC cJ cII cO cZ : ClassId} (F : FX l s0 D cI cC cJ cII cO cZ) {ws : va_W} {κ : Nat → Nat} {ra : Nat → Nat → Nat} {z sg : Nat → Int32} {G : Nat → Nat → Nat → Int32} {we : Nat → Int32} {pd : Nat → Int64} (hI : cb_I cI cC cJ cII ws κ ra z sg G we pd) {nl : Nat} {la lp : Nat → Nat} {li : Nat → Nat → Int32} {ll : Nat → Nat → Int64} (hL : cb_L cO ws (κ 62) (z 5) (fx_e0 F) nl la lp li ll) (sz : Nat) (hnl : nl ≤ 200) (p0 : Int32) (p1 : Int64)  : gx_XM l y_PB_pay [.code y_PB_pay b_PB_pay 4 (some .long)] { frames := 9, cells := 1, slots := 6, locals := 320 } (gx_P s0 D classes ws sz [.ref (κ 0), .int p0, .long p1]) (va_Ql (fun r w1 => ∃ k, k < 10 ∧ p0 = nI k ∧ ¬ p1 < 1 ∧ ¬ 1000000000000 < p1 ∧ r = cb_ow (nI k) li ll (-(vp_updL pd k (pd k + p1) k)) nl ∧ cb_I cI cC cJ cII w1 κ ra z sg G we (vp_updL pd k (pd k + p1)) ∧ cb_hi ws w1) (gx_B D classes ws sz) (va_A ws sz)) (fun E => E = "java/lang/IllegalArgumentException" ∧ ((p0 < 0 ∨ nI 10 ≤ p0) ∨ (p1 < 1 ∨ 1000000000000 < p1))) 1 6 (va_A ws sz) := by
  refine gx_xmet (by decide +kernel) (Nat.le_of_ble_eq_true rfl) ?_
  intro p e s m below meth c ls hx hb hr hml hown hlocks hex hsz hV hP hD hS hA hA0 hl
  have hg := fx_g F hV ([.ref (κ 0), .int p0, .long p1] : List Value).toArray
  have hK := fx_k F hV
  have hn9 := fx_n F hV
  have hl : lv_has ls 4 [(0, .ref (κ 0)), (1, .int p0), (2, .long p1)] := hl
  have hH : cb_hi ws ws := fun _ _ => rfl
  refine lv_iload_n hx hb d_PB_pay_0 rfl (lv_at hl 1 rfl) ?_
  refine gx_readi (va_runS (As := [.int p0]) (rest := []) ⟨hx, hb, hml, hown, gx_nil⟩ (c_PB_isCall F _ _ _) ⟨gx_cb (hg _ k_178) (hg _ k_1) (hg _ k_176) nd_PB_isCall ⟨by decide, by decide⟩, hg _ k_177⟩ (gx_preS hV hP hD hS hA0) rfl rfl hl.1 rfl (lv_room (Nat.le_of_ble_eq_true rfl)) d_PB_pay_1 ⟨by decide, by decide⟩) (fun r_1 h_1 => ?_)
  rcases h_1 with ⟨rfl, k, hk, rfl⟩ | ⟨rfl, hbad⟩
  · skip
    refine lv_if_eq (tgt := 21) hx hb d_PB_pay_4 (by decide) (fun c_4 => absurd c_4 (by decide)) (fun c_4 => ?_)
    refine lv_lload_n hx hb d_PB_pay_7 rfl (lv_at hl 2 rfl) ?_
    refine lv_lconst (v := 1) hx hb d_PB_pay_8 (by decide) ?_
    refine W.lcmp hx hb d_PB_pay_9 ?_
    refine lv_if_lt (tgt := 21) hx hb d_PB_pay_10 (by decide) (fun c_10 => ?_) (fun c_10 => ?_)
    · skip
      have hbad : p1 < 1 ∨ 1000000000000 < p1 := Or.inl ((lg_cmp_lt _ _).mp c_10)
      exact gx_throw (own := "PortBills") (cls := "java/lang/IllegalArgumentException") (text := "no such call or cents") (names := fx_nm) (ik := 71) (is := 167) (ic := 75) hx hb (fx_tr F) hown (by decide +kernel) (by decide +kernel) (hg _ k_215) (hg _ k_12) (fx_str_167 F hV).choose_spec (fx_own_75 F hV _) (hl.1.trans hml.symm) d_PB_pay_21 d_PB_pay_24 d_PB_pay_25 d_PB_pay_27 d_PB_pay_30 hex (by decide) (by decide) (by decide) (by decide) hlocks (⟨rfl, Or.inr hbad⟩)
    · skip
      have hlo : ¬ p1 < 1 := fun q => c_10 ((lg_cmp_lt _ _).mpr q)
      refine lv_lload_n hx hb d_PB_pay_13 rfl (lv_at hl 2 rfl) ?_
      refine lv_ldc2 (v := 1000000000000) hx hb hown (hg _ k_459) d_PB_pay_14 ?_
      refine W.lcmp hx hb d_PB_pay_17 ?_
      refine lv_if_le (tgt := 31) hx hb d_PB_pay_18 (by decide) (fun c_18 => ?_) (fun c_18 => ?_)
      · skip
        have hmo : ¬ 1000000000000 < p1 := Int64.not_lt.mpr ((lg_cmp_le _ _).mp c_18)
        refine lv_aload_n hx hb d_PB_pay_31 rfl (lv_at hl 0 rfl) ?_
        refine va_get (D := D) (ci := iPB) (v := .ref (κ 63)) (C := R_PB) (T := F_PB) (N := 11) hx hb (fl_PB hg) (fun _ h9 => h9) hown hK hP 0 (hI.1) rfl 10 (by decide) (hg _ k_98) (fun _ h9 => h9) rfl d_PB_pay_32 ?_
        refine lv_iload_n hx hb d_PB_pay_35 rfl (lv_at hl 1 rfl) ?_
        refine lv_dup2_11 hx hb d_PB_pay_36 rfl rfl ?_
        refine gx_ll hx hb hK hP 63 2 (hI.2.2.2.2.1) rfl k (rfl) (hk) (by decide) d_PB_pay_37 ?_
        refine lv_lload_n hx hb d_PB_pay_38 rfl (lv_at hl 2 rfl) ?_
        refine lv_ladd hx hb d_PB_pay_39 ?_
        refine gx_ls hx hb hK hP hD hS 63 2 (hI.2.2.2.2.1) rfl k (rfl) (hk) (by decide) d_PB_pay_40 (fun H locs hP hD hS => ?_)
        obtain ⟨w_1, ew_1⟩ : ∃ x : va_W, x = ws.set 63 (κ 63, .inl (cJ, 10, .inr (.inl (vp_updL pd k ((pd k) + p1))))) := ⟨_, rfl⟩
        replace hP : va_P D classes w_1 H := by rw [ew_1]; exact hP
        replace hD : va_D (va_A ws sz) w_1 := by rw [ew_1]; exact hD
        replace hI : cb_I cI cC cJ cII w_1 κ ra z sg G we (vp_updL pd k ((pd k) + p1)) := by rw [ew_1]; exact cb_I.paid hI
        replace hH : cb_hi ws w_1 := by rw [ew_1]; exact cb_hi.set63 hH
        replace hL : cb_L cO w_1 (κ 62) (z 5) (fx_e0 F) nl la lp li ll := by rw [ew_1]; exact cb_L.low (by decide) (by decide) hL
        refine lv_aload_n hx hb d_PB_pay_41 rfl (lv_at hl 0 rfl) ?_
        refine lv_iload_n hx hb d_PB_pay_42 rfl (lv_at hl 1 rfl) ?_
        refine gx_readl (va_runV (As := [.int (nI k)]) (rest := []) ⟨hx, hb, hml, hown, gx_nil⟩ (c_PB_owedNow F hI hL _ hnl k hk) ⟨gx_cb (hg _ k_485) (hg _ k_1) (hg _ k_482) nd_PB_owedNow ⟨by decide, by decide⟩, hg _ k_484, hg _ ks_20⟩ (gx_preV hV hP hD hS hA0 (va_recv hK hP rfl (hI.1))) rfl rfl hl.1 rfl (lv_room (Nat.le_of_ble_eq_true rfl)) d_PB_pay_43 ⟨by decide, by decide⟩) (fun r_43 h_43 => ?_)
        exact gx_mx (gx_lret hx hb hr hlocks hS hP hD (by decide) (by decide) d_PB_pay_46 (⟨k, hk, rfl, hlo, hmo, h_43, hI, hH⟩))
      · skip
        have hbad : p1 < 1 ∨ 1000000000000 < p1 := Or.inr (Int64.not_le.mp (fun q => c_18 ((lg_cmp_le _ _).mpr q)))
        exact gx_throw (own := "PortBills") (cls := "java/lang/IllegalArgumentException") (text := "no such call or cents") (names := fx_nm) (ik := 71) (is := 167) (ic := 75) hx hb (fx_tr F) hown (by decide +kernel) (by decide +kernel) (hg _ k_215) (hg _ k_12) (fx_str_167 F hV).choose_spec (fx_own_75 F hV _) (hl.1.trans hml.symm) d_PB_pay_21 d_PB_pay_24 d_PB_pay_25 d_PB_pay_27 d_PB_pay_30 hex (by decide) (by decide) (by decide) (by decide) hlocks (⟨rfl, Or.inr hbad⟩)
  · skip
    refine lv_if_eq (tgt := 21) hx hb d_PB_pay_4 (by decide) (fun c_4 => ?_) (fun c_4 => absurd c_4 (by decide))
    exact gx_throw (own := "PortBills") (cls := "java/lang/IllegalArgumentException") (text := "no such call or cents") (names := fx_nm) (ik := 71) (is := 167) (ic := 75) hx hb (fx_tr F) hown (by decide +kernel) (by decide +kernel) (hg _ k_215) (hg _ k_12) (fx_str_167 F hV).choose_spec (fx_own_75 F hV _) (hl.1.trans hml.symm) d_PB_pay_21 d_PB_pay_24 d_PB_pay_25 d_PB_pay_27 d_PB_pay_30 hex (by decide) (by decide) (by decide) (by decide) hlocks (⟨rfl, Or.inl hbad⟩)

set_option maxRecDepth 100000 in
set_option maxHeartbeats 4000000 in
theorem c_PB_share {l : Launch} {s0 : State} {D : va_G} {cI cC cJ cII cO cZ : ClassId} (F : FX l s0 D cI cC cJ cII cO cZ) {ws : va_W} {κ : Nat → Nat} {ra : Nat → Nat → Nat} {z sg : Nat → Int32} {G : Nat → Nat → Nat → Int32} {we : Nat → Int32} {pd : Nat → Int64} (hI : cb_I cI cC cJ cII ws κ ra z sg G we pd) (sz : Nat) (p0 : Int64) (p1 p2 : Int32)  : gx_XM l y_PB_share [.code y_PB_share b_PB_share 5 (some .long)] { frames := 9, cells := 1, slots := 6, locals := 320 } (gx_P s0 D classes ws sz [.ref (κ 0), .long p0, .int p1, .int p2]) (gx_Rl (fun r => ¬ p0 < 0 ∧ ¬ 1000000000000 < p0 ∧ ∃ k j, k ≤ 1000000 ∧ j ≤ 1000000 ∧ p1 = nI k ∧ p2 = nI j ∧ ¬ nI j = 0 ∧ r = cb_quo (p0 * (nI k).toInt64) (nI j).toInt64)) (fun E => (E = "java/lang/IllegalArgumentException" ∧ ((p0 < 0 ∨ 1000000000000 < p0) ∨ (p1 < 0 ∨ nI 1000000 < p1) ∨ (p2 < 0 ∨ nI 1000000 < p2))) ∨ (E = "java/lang/ArithmeticException" ∧ ¬ p0 < 0 ∧ ¬ 1000000000000 < p0 ∧ ∃ k j, k ≤ 1000000 ∧ j ≤ 1000000 ∧ p1 = nI k ∧ p2 = nI j ∧ nI j = 0)) 1 6 (fun _ => False) := by
  refine gx_xmet (by decide +kernel) (Nat.le_of_ble_eq_true rfl) ?_
  intro p e s m below meth c ls hx hb hr hml hown hlocks hex hsz hV hP hD hS hA hA0 hl
  have hg := fx_g F hV ([.ref (κ 0), .long p0, .int p1, .int p2] : List Value).toArray
  have hK := fx_k F hV
  have hn9 := fx_n F hV
  have hl : lv_has ls 5 [(0, .ref (κ 0)), (1, .long p0), (3, .int p1), (4, .int p2)] := hl
  refine lv_lload_n hx hb d_PB_share_0 rfl (lv_at hl 1 rfl) ?_
  refine lv_lconst (v := 0) hx hb d_PB_share_1 (by decide) ?_
  refine W.lcmp hx hb d_PB_share_2 ?_
  refine lv_if_lt (tgt := 29) hx hb d_PB_share_3 (by decide) (fun c_3 => ?_) (fun c_3 => ?_)
  · skip
    have hbad : p0 < 0 ∨ 1000000000000 < p0 := Or.inl ((lg_cmp_lt _ _).mp c_3)
    exact gx_throw (own := "PortBills") (cls := "java/lang/IllegalArgumentException") (text := "no such cents or keys") (names := fx_nm) (ik := 71) (is := 176) (ic := 75) hx hb (fx_tr F) hown (by decide +kernel) (by decide +kernel) (hg _ k_215) (hg _ k_12) (fx_str_176 F hV).choose_spec (fx_own_75 F hV _) (hl.1.trans hml.symm) d_PB_share_29 d_PB_share_32 d_PB_share_33 d_PB_share_35 d_PB_share_38 hex (by decide) (by decide) (by decide) (by decide) hlocks (Or.inl ⟨rfl, Or.inl hbad⟩)
  · skip
    have hlo : ¬ p0 < 0 := fun q => c_3 ((lg_cmp_lt _ _).mpr q)
    refine lv_lload_n hx hb d_PB_share_6 rfl (lv_at hl 1 rfl) ?_
    refine lv_ldc2 (v := 1000000000000) hx hb hown (hg _ k_459) d_PB_share_7 ?_
    refine W.lcmp hx hb d_PB_share_10 ?_
    refine lv_if_gt (tgt := 29) hx hb d_PB_share_11 (by decide) (fun c_11 => ?_) (fun c_11 => ?_)
    · skip
      have hbad : p0 < 0 ∨ 1000000000000 < p0 := Or.inr ((lg_cmp_gt _ _).mp c_11)
      exact gx_throw (own := "PortBills") (cls := "java/lang/IllegalArgumentException") (text := "no such cents or keys") (names := fx_nm) (ik := 71) (is := 176) (ic := 75) hx hb (fx_tr F) hown (by decide +kernel) (by decide +kernel) (hg _ k_215) (hg _ k_12) (fx_str_176 F hV).choose_spec (fx_own_75 F hV _) (hl.1.trans hml.symm) d_PB_share_29 d_PB_share_32 d_PB_share_33 d_PB_share_35 d_PB_share_38 hex (by decide) (by decide) (by decide) (by decide) hlocks (Or.inl ⟨rfl, Or.inl hbad⟩)
    · skip
      have hmo : ¬ 1000000000000 < p0 := fun q => c_11 ((lg_cmp_gt _ _).mpr q)
      refine lv_iload_n hx hb d_PB_share_14 rfl (lv_at hl 2 rfl) ?_
      refine gx_readi (va_runS (As := [.int p1]) (rest := []) ⟨hx, hb, hml, hown, gx_nil⟩ (c_PB_isKey F _ _ _) ⟨gx_cb (hg _ k_503) (hg _ k_1) (hg _ k_501) nd_PB_isKey ⟨by decide, by decide⟩, hg _ k_502⟩ (gx_preS hV hP hD hS hA0) rfl rfl hl.1 rfl (lv_room (Nat.le_of_ble_eq_true rfl)) d_PB_share_15 ⟨by decide, by decide⟩) (fun r_15 h_15 => ?_)
      rcases h_15 with ⟨rfl, k, hk, rfl⟩ | ⟨rfl, hbad⟩
      · skip
        refine lv_if_eq (tgt := 29) hx hb d_PB_share_18 (by decide) (fun c_18 => absurd c_18 (by decide)) (fun c_18 => ?_)
        refine lv_iload hx hb d_PB_share_21 (lv_at hl 3 rfl) ?_
        refine gx_readi (va_runS (As := [.int p2]) (rest := []) ⟨hx, hb, hml, hown, gx_nil⟩ (c_PB_isKey F _ _ _) ⟨gx_cb (hg _ k_503) (hg _ k_1) (hg _ k_501) nd_PB_isKey ⟨by decide, by decide⟩, hg _ k_502⟩ (gx_preS hV hP hD hS hA0) rfl rfl hl.1 rfl (lv_room (Nat.le_of_ble_eq_true rfl)) d_PB_share_23 ⟨by decide, by decide⟩) (fun r_23 h_23 => ?_)
        rcases h_23 with ⟨rfl, j, hj, rfl⟩ | ⟨rfl, hbad⟩
        · skip
          refine lv_if_ne (tgt := 39) hx hb d_PB_share_26 (by decide) (fun c_26 => ?_) (fun c_26 => absurd c_26 (by decide))
          refine lv_iload hx hb d_PB_share_39 (lv_at hl 3 rfl) ?_
          refine lv_if_ne (tgt := 54) hx hb d_PB_share_41 (by decide) (fun c_41 => ?_) (fun c_41 => ?_)
          · skip
            refine lv_lload_n hx hb d_PB_share_54 rfl (lv_at hl 1 rfl) ?_
            refine lv_iload_n hx hb d_PB_share_55 rfl (lv_at hl 2 rfl) ?_
            refine lv_i2l (v := (nI k).toInt64) hx hb d_PB_share_56 (rfl) ?_
            refine lv_lmul hx hb d_PB_share_57 ?_
            refine lv_iload hx hb d_PB_share_58 (lv_at hl 3 rfl) ?_
            refine lv_i2l (v := (nI j).toInt64) hx hb d_PB_share_60 (rfl) ?_
            refine gx_readl (va_runS (As := [.long (p0 * ((nI k).toInt64)), .long ((nI j).toInt64)]) (rest := []) ⟨hx, hb, hml, hown, gx_nil⟩ (c_PB_quotient F _ _ _ _) ⟨gx_cb (hg _ k_321) (hg _ k_1) (hg _ k_319) nd_PB_quotient ⟨by decide, by decide⟩, hg _ k_320⟩ (gx_preS hV hP hD hS hA0) rfl rfl hl.1 rfl (lv_room (Nat.le_of_ble_eq_true rfl)) d_PB_share_61 ⟨by decide, by decide⟩) (fun r_61 h_61 => ?_)
            exact gx_mx (gx_iretl hx hb hr hlocks d_PB_share_64 (⟨hlo, hmo, k, j, hk, hj, rfl, rfl, c_41, h_61⟩))
          · skip
            exact gx_throw (own := "PortBills") (cls := "java/lang/ArithmeticException") (text := "no keys at all") (names := fx_nm) (ik := 178) (is := 180) (ic := 182) hx hb (fx_tr F) hown (by decide +kernel) (by decide +kernel) (hg _ k_506) (hg _ k_19) (fx_str_180 F hV).choose_spec (fx_own_182 F hV _) (hl.1.trans hml.symm) d_PB_share_44 d_PB_share_47 d_PB_share_48 d_PB_share_50 d_PB_share_53 hex (by decide) (by decide) (by decide) (by decide) hlocks (Or.inr ⟨rfl, hlo, hmo, k, j, hk, hj, rfl, rfl, c_41⟩)
        · skip
          refine lv_if_ne (tgt := 39) hx hb d_PB_share_26 (by decide) (fun c_26 => absurd c_26 (by decide)) (fun c_26 => ?_)
          exact gx_throw (own := "PortBills") (cls := "java/lang/IllegalArgumentException") (text := "no such cents or keys") (names := fx_nm) (ik := 71) (is := 176) (ic := 75) hx hb (fx_tr F) hown (by decide +kernel) (by decide +kernel) (hg _ k_215) (hg _ k_12) (fx_str_176 F hV).choose_spec (fx_own_75 F hV _) (hl.1.trans hml.symm) d_PB_share_29 d_PB_share_32 d_PB_share_33 d_PB_share_35 d_PB_share_38 hex (by decide) (by decide) (by decide) (by decide) hlocks (Or.inl ⟨rfl, Or.inr (Or.inr hbad)⟩)
      · skip
        refine lv_if_eq (tgt := 29) hx hb d_PB_share_18 (by decide) (fun c_18 => ?_) (fun c_18 => absurd c_18 (by decide))
        exact gx_throw (own := "PortBills") (cls := "java/lang/IllegalArgumentException") (text := "no such cents or keys") (names := fx_nm) (ik := 71) (is := 176) (ic := 75) hx hb (fx_tr F) hown (by decide +kernel) (by decide +kernel) (hg _ k_215) (hg _ k_12) (fx_str_176 F hV).choose_spec (fx_own_75 F hV _) (hl.1.trans hml.symm) d_PB_share_29 d_PB_share_32 d_PB_share_33 d_PB_share_35 d_PB_share_38 hex (by decide) (by decide) (by decide) (by decide) hlocks (Or.inl ⟨rfl, Or.inr (Or.inl hbad)⟩)

set_option maxRecDepth 100000 in
set_option maxHeartbeats 4000000 in
theorem c_PB_line {l : Launch} {s0 : State} {D : va_G} {cI cC cJ cII cO cZ : ClassId} (F : FX l s0 D cI cC cJ cII cO cZ) {ws : va_W} {κ : Nat → Nat} {ra : Nat → Nat → Nat} {z sg : Nat → Int32} {G : Nat → Nat → Nat → Int32} {we : Nat → Int32} {pd : Nat → Int64} (hI : cb_I cI cC cJ cII ws κ ra z sg G we pd) {nl : Nat} {la lp : Nat → Nat} {li : Nat → Nat → Int32} {ll : Nat → Nat → Int64} (hL : cb_L cO ws (κ 62) (z 5) (fx_e0 F) nl la lp li ll) (sz : Nat) (hnl : nl ≤ 200) (p0 p1 : Int32)  : gx_XM l y_PB_line [.code y_PB_line b_PB_line 3 (some .long)] { frames := 9, cells := 1, slots := 6, locals := 320 } (gx_P s0 D classes ws sz [.ref (κ 0), .int p0, .int p1]) (gx_Rl (fun r => ∃ j w, j < nl ∧ w < 9 ∧ p0 = nI j ∧ p1 = nI w ∧ r = cb_part (li j) (ll j) w)) (fun E => E = "java/lang/IndexOutOfBoundsException" ∧ ((p0 < 0 ∨ nI nl ≤ p0) ∨ (p1 < 0 ∨ nI 9 ≤ p1))) 1 6 (fun _ => False) := by
  refine gx_xmet (by decide +kernel) (Nat.le_of_ble_eq_true rfl) ?_
  intro p e s m below meth c ls hx hb hr hml hown hlocks hex hsz hV hP hD hS hA hA0 hl
  have hg := fx_g F hV ([.ref (κ 0), .int p0, .int p1] : List Value).toArray
  have hK := fx_k F hV
  have hn9 := fx_n F hV
  have hl : lv_has ls 3 [(0, .ref (κ 0)), (1, .int p0), (2, .int p1)] := hl
  obtain ⟨ea, e62, eL, einj, earr⟩ := id hL
  refine lv_aload_n hx hb d_PB_line_0 rfl (lv_at hl 0 rfl) ?_
  refine lv_iload_n hx hb d_PB_line_1 rfl (lv_at hl 1 rfl) ?_
  refine gx_readi (va_runV (As := [.int p0]) (rest := []) ⟨hx, hb, hml, hown, gx_nil⟩ (c_PB_isLine F hI hL _ hnl _) ⟨gx_cb (hg _ k_458) (hg _ k_1) (hg _ k_455) nd_PB_isLine ⟨by decide, by decide⟩, hg _ k_457, hg _ ks_18⟩ (gx_preV hV hP hD hS hA0 (va_recv hK hP rfl (hI.1))) rfl rfl hl.1 rfl (lv_room (Nat.le_of_ble_eq_true rfl)) d_PB_line_2 ⟨by decide, by decide⟩) (fun r_2 h_2 => ?_)
  rcases h_2 with ⟨rfl, j, hj, rfl⟩ | ⟨rfl, hbad⟩
  · skip
    refine lv_if_eq (tgt := 18) hx hb d_PB_line_5 (by decide) (fun c_5 => absurd c_5 (by decide)) (fun c_5 => ?_)
    refine lv_iload_n hx hb d_PB_line_8 rfl (lv_at hl 2 rfl) ?_
    refine lv_if_lt (tgt := 18) hx hb d_PB_line_9 (by decide) (fun c_9 => ?_) (fun c_9 => ?_)
    · skip
      have hbad : p1 < 0 ∨ nI 9 ≤ p1 := Or.inl c_9
      exact gx_throw (own := "PortBills") (cls := "java/lang/IndexOutOfBoundsException") (text := "no such line or what") (names := fx_nm) (ik := 187) (is := 189) (ic := 191) hx hb (fx_tr F) hown (by decide +kernel) (by decide +kernel) (hg _ k_530) (hg _ k_20) (fx_str_189 F hV).choose_spec (fx_own_191 F hV _) (hl.1.trans hml.symm) d_PB_line_18 d_PB_line_21 d_PB_line_22 d_PB_line_24 d_PB_line_27 hex (by decide) (by decide) (by decide) (by decide) hlocks (⟨rfl, Or.inr hbad⟩)
    · skip
      refine lv_iload_n hx hb d_PB_line_12 rfl (lv_at hl 2 rfl) ?_
      refine lv_bipush (v := 9) hx hb d_PB_line_13 (by decide) ?_
      refine lv_icmp_lt (tgt := 28) hx hb d_PB_line_15 (by decide) (fun c_15 => ?_) (fun c_15 => ?_)
      · skip
        obtain ⟨w, hw, hwe⟩ : ∃ w, w < 9 ∧ p1 = nI w := gx_rng (by decide) c_9 (fun q => absurd c_15 (Int32.not_lt.mpr q))
        subst hwe
        obtain ⟨ep, cap, ef, ea0, ea5, ea6, ea7, ea1, ea2, ea3⟩ : ∃ (ep cap : Nat) (ef : Nat → Option Nat), 64 ≤ ep ∧ nl ≤ cap ∧ 10 ≤ cap ∧ cap ≤ 400 ∧ ws[ep]? = some (ea, .inl (cO, cap, .inr (.inr (.inr (.inr ef))))) ∧ (∀ j, j < nl → ef j = some (la j)) ∧ ∀ j, j < cap → ∀ y, ef j = some y → ∃ i, i < nl ∧ y = la i := earr.resolve_left (fun q => absurd q.1 (by omega))
        refine lv_aload_n hx hb d_PB_line_28 rfl (lv_at hl 0 rfl) ?_
        refine va_get (D := D) (ci := iPB) (v := .ref (κ 62)) (C := R_PB) (T := F_PB) (N := 11) hx hb (fl_PB hg) (fun _ h9 => h9) hown hK hP 0 (hI.1) rfl 9 (by decide) (hg _ k_97) (fun _ h9 => h9) rfl d_PB_line_29 ?_
        refine lv_iload_n hx hb d_PB_line_32 rfl (lv_at hl 1 rfl) ?_
        refine gx_readr (va_runV (As := [.int (nI j)]) (rest := []) ⟨hx, hb, hml, hown, gx_nil⟩ (c_AL_get F e62 ea1 _ j (la j) (by omega) (by omega) (nI_lt (hj) (by omega)) (ea2 j (hj))) ⟨gx_cb (hg _ k_195) (hg _ k_5) (hg _ k_192) nd_AL_get ⟨by decide, by decide⟩, hg _ k_193, hg _ k_194⟩ (gx_preV hV hP hD hS hA0 (va_recv hK hP rfl (e62))) rfl rfl hl.1 rfl (lv_room (Nat.le_of_ble_eq_true rfl)) d_PB_line_33 ⟨by decide, by decide⟩) (fun r_33 h_33 => ?_)
        subst h_33
        refine va_castS hx hb hown (hg _ k_206) (hK.1 iLN _ rfl).2 (va_recv hK hP rfl ((eL j (hj)).2)) d_PB_line_36 ?_
        refine lv_iload_n hx hb d_PB_line_39 rfl (lv_at hl 2 rfl) ?_
        refine gx_readl (va_runVN (As := [.int (nI w)]) (rest := []) ⟨hx, hb, hml, hown, gx_nil⟩ (c_LN_part F (eL j hj).2 _ w hw) ⟨gx_cn (hg _ k_549) (hg _ k_15) (hn9 _ kn_546) nd_LN_part ⟨by decide, by decide⟩, hg _ k_548, hg _ ks_21⟩ (gx_preV hV hP hD hS hA0 (va_recv hK hP rfl ((eL j hj).2))) rfl rfl hl.1 rfl (lv_room (Nat.le_of_ble_eq_true rfl)) d_PB_line_40 ⟨by decide, by decide⟩) (fun r_40 h_40 => ?_)
        exact gx_mx (gx_iretl hx hb hr hlocks d_PB_line_43 (⟨j, w, hj, hw, rfl, rfl, h_40⟩))
      · skip
        have hbad : p1 < 0 ∨ nI 9 ≤ p1 := Or.inr (Int32.not_lt.mp c_15)
        exact gx_throw (own := "PortBills") (cls := "java/lang/IndexOutOfBoundsException") (text := "no such line or what") (names := fx_nm) (ik := 187) (is := 189) (ic := 191) hx hb (fx_tr F) hown (by decide +kernel) (by decide +kernel) (hg _ k_530) (hg _ k_20) (fx_str_189 F hV).choose_spec (fx_own_191 F hV _) (hl.1.trans hml.symm) d_PB_line_18 d_PB_line_21 d_PB_line_22 d_PB_line_24 d_PB_line_27 hex (by decide) (by decide) (by decide) (by decide) hlocks (⟨rfl, Or.inr hbad⟩)
  · skip
    refine lv_if_eq (tgt := 18) hx hb d_PB_line_5 (by decide) (fun c_5 => ?_) (fun c_5 => absurd c_5 (by decide))
    exact gx_throw (own := "PortBills") (cls := "java/lang/IndexOutOfBoundsException") (text := "no such line or what") (names := fx_nm) (ik := 187) (is := 189) (ic := 191) hx hb (fx_tr F) hown (by decide +kernel) (by decide +kernel) (hg _ k_530) (hg _ k_20) (fx_str_189 F hV).choose_spec (fx_own_191 F hV _) (hl.1.trans hml.symm) d_PB_line_18 d_PB_line_21 d_PB_line_22 d_PB_line_24 d_PB_line_27 hex (by decide) (by decide) (by decide) (by decide) hlocks (⟨rfl, Or.inl hbad⟩)

set_option maxRecDepth 100000 in
set_option maxHeartbeats 4000000 in
theorem c_PB_count {l : Launch} {s0 : State} {D : va_G} {cI cC cJ cII cO cZ : ClassId} (F : FX l s0 D cI cC cJ cII cO cZ) {ws : va_W} {κ : Nat → Nat} {ra : Nat → Nat → Nat} {z sg : Nat → Int32} {G : Nat → Nat → Nat → Int32} {we : Nat → Int32} {pd : Nat → Int64} (hI : cb_I cI cC cJ cII ws κ ra z sg G we pd) {nl : Nat} {la lp : Nat → Nat} {li : Nat → Nat → Int32} {ll : Nat → Nat → Int64} (hL : cb_L cO ws (κ 62) (z 5) (fx_e0 F) nl la lp li ll) (sz : Nat) (hnl : nl ≤ 200) (p0 : Int32)  : Met l y_PB_count [.code y_PB_count b_PB_count 2 (some .int)] { frames := 4, cells := 0, slots := 0, locals := 160 } (gx_P s0 D classes ws sz [.ref (κ 0), .int p0]) (gx_Ri (fun r => (∃ k, k < 10 ∧ p0 - 10 = nI k ∧ r = nI (cb_cnt (fun j => decide (li j 0 = p0 - 10)) nl)) ∨ (∃ k, k < 10 ∧ p0 - 20 = nI k ∧ r = we k) ∨ (p0 = 0 ∧ r = z 0) ∨ (p0 = 1 ∧ r = z 4) ∨ (p0 = 2 ∧ r = nI nl) ∨ (p0 = 3 ∧ r = z 3) ∨ ((p0 - 10 < 0 ∨ nI 10 ≤ p0 - 10) ∧ (p0 - 20 < 0 ∨ nI 10 ≤ p0 - 20) ∧ (p0.toInt < 0 ∨ 3 < p0.toInt) ∧ r = -1))) 0 0 (fun _ => False) := by
  refine gx_met (by decide +kernel) (Nat.le_of_ble_eq_true rfl) ?_
  intro p e s m below meth c ls hx hb hr hml hown hlocks hnm hsz hV hP hD hS hA hA0 hl
  have hg := fx_g F hV ([.ref (κ 0), .int p0] : List Value).toArray
  have hK := fx_k F hV
  have hn9 := fx_n F hV
  have hl : lv_has ls 2 [(0, .ref (κ 0)), (1, .int p0)] := hl
  obtain ⟨ea, e62, eL, einj, earr⟩ := id hL
  refine lv_iload_n hx hb d_PB_count_0 rfl (lv_at hl 1 rfl) ?_
  refine lv_bipush (v := 10) hx hb d_PB_count_1 (by decide) ?_
  refine lv_isub hx hb d_PB_count_3 ?_
  refine gx_readi (va_runS (As := [.int (p0 - 10)]) (rest := []) ⟨hx, hb, hml, hown, gx_nil⟩ (c_PB_isCall F _ _ _) ⟨gx_cb (hg _ k_178) (hg _ k_1) (hg _ k_176) nd_PB_isCall ⟨by decide, by decide⟩, hg _ k_177⟩ (gx_preS hV hP hD hS hA0) rfl rfl hl.1 rfl (lv_room (Nat.le_of_ble_eq_true rfl)) d_PB_count_4 ⟨by decide, by decide⟩) (fun r_4 h_4 => ?_)
  rcases h_4 with ⟨rfl, k, hk, hkk⟩ | ⟨rfl, hb1⟩
  · skip
    refine lv_if_eq (tgt := 19) hx hb d_PB_count_7 (by decide) (fun c_7 => absurd c_7 (by decide)) (fun c_7 => ?_)
    refine lv_aload_n hx hb d_PB_count_10 rfl (lv_at hl 0 rfl) ?_
    refine lv_iload_n hx hb d_PB_count_11 rfl (lv_at hl 1 rfl) ?_
    refine lv_bipush (v := 10) hx hb d_PB_count_12 (by decide) ?_
    refine lv_isub hx hb d_PB_count_14 ?_
    refine gx_readi (va_runV (As := [.int (p0 - 10)]) (rest := []) ⟨hx, hb, hml, hown, gx_nil⟩ (c_PB_linesOf F hI hL _ hnl _) ⟨gx_cb (hg _ k_187) (hg _ k_1) (hg _ k_184) nd_PB_linesOf ⟨by decide, by decide⟩, hg _ k_186, hg _ ks_8⟩ (gx_preV hV hP hD hS hA0 (va_recv hK hP rfl (hI.1))) rfl rfl hl.1 rfl (lv_room (Nat.le_of_ble_eq_true rfl)) d_PB_count_15 ⟨by decide, by decide⟩) (fun r_15 h_15 => ?_)
    exact gx_ireti hx hb hr hlocks rfl d_PB_count_18 (Or.inl ⟨k, hk, hkk, h_15⟩)
  · skip
    refine lv_if_eq (tgt := 19) hx hb d_PB_count_7 (by decide) (fun c_7 => ?_) (fun c_7 => absurd c_7 (by decide))
    refine lv_iload_n hx hb d_PB_count_19 rfl (lv_at hl 1 rfl) ?_
    refine lv_bipush (v := 20) hx hb d_PB_count_20 (by decide) ?_
    refine lv_isub hx hb d_PB_count_22 ?_
    refine gx_readi (va_runS (As := [.int (p0 - 20)]) (rest := []) ⟨hx, hb, hml, hown, gx_nil⟩ (c_PB_isCall F _ _ _) ⟨gx_cb (hg _ k_178) (hg _ k_1) (hg _ k_176) nd_PB_isCall ⟨by decide, by decide⟩, hg _ k_177⟩ (gx_preS hV hP hD hS hA0) rfl rfl hl.1 rfl (lv_room (Nat.le_of_ble_eq_true rfl)) d_PB_count_23 ⟨by decide, by decide⟩) (fun r_23 h_23 => ?_)
    rcases h_23 with ⟨rfl, k, hk, hkk⟩ | ⟨rfl, hb2⟩
    · skip
      refine lv_if_eq (tgt := 39) hx hb d_PB_count_26 (by decide) (fun c_26 => absurd c_26 (by decide)) (fun c_26 => ?_)
      refine lv_aload_n hx hb d_PB_count_29 rfl (lv_at hl 0 rfl) ?_
      refine va_get (D := D) (ci := iPB) (v := .ref (κ 28)) (C := R_PB) (T := F_PB) (N := 11) hx hb (fl_PB hg) (fun _ h9 => h9) hown hK hP 0 (hI.1) rfl 4 (by decide) (hg _ k_92) (fun _ h9 => h9) rfl d_PB_count_30 ?_
      refine lv_iload_n hx hb d_PB_count_33 rfl (lv_at hl 1 rfl) ?_
      refine lv_bipush (v := 20) hx hb d_PB_count_34 (by decide) ?_
      refine lv_isub hx hb d_PB_count_36 ?_
      refine gx_il hx hb hK hP 28 0 (hI.2.2.2.1) rfl k (hkk) (hk) (by decide) d_PB_count_37 ?_
      exact gx_ireti hx hb hr hlocks rfl d_PB_count_38 (Or.inr (Or.inl ⟨k, hk, hkk, rfl⟩))
    · skip
      refine lv_if_eq (tgt := 39) hx hb d_PB_count_26 (by decide) (fun c_26 => ?_) (fun c_26 => absurd c_26 (by decide))
      refine lv_iload_n hx hb d_PB_count_39 rfl (lv_at hl 1 rfl) ?_
      rcases cb_sw4 p0 with hs0 | hs0 | hs0 | hs0 | hout
      · skip
        refine lv_tableIn (off := 32) (tgt := 72) hx hb d_PB_count_40 (by rw [hs0]; decide) (by rw [hs0]; decide) (by rw [hs0]; decide) (by decide) ?_
        refine lv_aload_n hx hb d_PB_count_72 rfl (lv_at hl 0 rfl) ?_
        refine va_get (D := D) (ci := iPB) (v := .ref (κ 1)) (C := R_PB) (T := F_PB) (N := 11) hx hb (fl_PB hg) (fun _ h9 => h9) hown hK hP 0 (hI.1) rfl 0 (by decide) (hg _ k_88) (fun _ h9 => h9) rfl d_PB_count_73 ?_
        refine va_getN (D := D) (ci := iTT) (v := .int (z 0)) (C := R_TT) (T := F_TT) (N := 5) hx hb (fl_TT hg) (fun _ h9 => h9) hown hK hP 1 (hI.2.1) rfl 1 (by decide) (va_Nw.use rfl (hn9 _ kn_39)) (fun _ h9 => h9) rfl d_PB_count_76 ?_
        exact gx_ireti hx hb hr hlocks rfl d_PB_count_79 (Or.inr (Or.inr (Or.inl ⟨hs0, rfl⟩)))
      · skip
        refine lv_tableIn (off := 40) (tgt := 80) hx hb d_PB_count_40 (by rw [hs0]; decide) (by rw [hs0]; decide) (by rw [hs0]; decide) (by decide) ?_
        refine lv_aload_n hx hb d_PB_count_80 rfl (lv_at hl 0 rfl) ?_
        refine va_get (D := D) (ci := iPB) (v := .int (z 4)) (C := R_PB) (T := F_PB) (N := 11) hx hb (fl_PB hg) (fun _ h9 => h9) hown hK hP 0 (hI.1) rfl 5 (by decide) (hg _ k_93) (fun _ h9 => h9) rfl d_PB_count_81 ?_
        exact gx_ireti hx hb hr hlocks rfl d_PB_count_84 (Or.inr (Or.inr (Or.inr (Or.inl ⟨hs0, rfl⟩))))
      · skip
        refine lv_tableIn (off := 45) (tgt := 85) hx hb d_PB_count_40 (by rw [hs0]; decide) (by rw [hs0]; decide) (by rw [hs0]; decide) (by decide) ?_
        refine lv_aload_n hx hb d_PB_count_85 rfl (lv_at hl 0 rfl) ?_
        refine va_get (D := D) (ci := iPB) (v := .ref (κ 62)) (C := R_PB) (T := F_PB) (N := 11) hx hb (fl_PB hg) (fun _ h9 => h9) hown hK hP 0 (hI.1) rfl 9 (by decide) (hg _ k_97) (fun _ h9 => h9) rfl d_PB_count_86 ?_
        refine gx_readi (va_runV (As := []) (rest := []) ⟨hx, hb, hml, hown, gx_nil⟩ (c_AL_size F e62 _) ⟨gx_cb (hg _ k_191) (hg _ k_5) (hg _ k_188) nd_AL_size ⟨by decide, by decide⟩, hg _ k_189, hg _ k_190⟩ (gx_preV hV hP hD hS hA0 (va_recv hK hP rfl (e62))) rfl rfl hl.1 rfl (lv_room (Nat.le_of_ble_eq_true rfl)) d_PB_count_89 ⟨by decide, by decide⟩) (fun r_89 h_89 => ?_)
        subst h_89
        exact gx_ireti hx hb hr hlocks rfl d_PB_count_92 (Or.inr (Or.inr (Or.inr (Or.inr (Or.inl ⟨hs0, rfl⟩)))))
      · skip
        refine lv_tableIn (off := 53) (tgt := 93) hx hb d_PB_count_40 (by rw [hs0]; decide) (by rw [hs0]; decide) (by rw [hs0]; decide) (by decide) ?_
        refine lv_aload_n hx hb d_PB_count_93 rfl (lv_at hl 0 rfl) ?_
        refine va_get (D := D) (ci := iPB) (v := .int (z 3)) (C := R_PB) (T := F_PB) (N := 11) hx hb (fl_PB hg) (fun _ h9 => h9) hown hK hP 0 (hI.1) rfl 2 (by decide) (hg _ k_90) (fun _ h9 => h9) rfl d_PB_count_94 ?_
        exact gx_ireti hx hb hr hlocks rfl d_PB_count_97 (Or.inr (Or.inr (Or.inr (Or.inr (Or.inr (Or.inl ⟨hs0, rfl⟩))))))
      · skip
        refine lv_tableOut (tgt := 98) hx hb d_PB_count_40 hout (by decide) ?_
        refine lv_iconst (v := (-1)) hx hb d_PB_count_98 (by decide) ?_
        exact gx_ireti hx hb hr hlocks rfl d_PB_count_99 (Or.inr (Or.inr (Or.inr (Or.inr (Or.inr (Or.inr ⟨hb1, hb2, hout, rfl⟩))))))

