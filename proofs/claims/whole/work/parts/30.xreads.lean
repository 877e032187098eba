set_option maxRecDepth 100000 in
set_option maxHeartbeats 4000000 in
theorem c_PB_tariff {l : Launch} {s0 : State} {D : va_G} {cI cC cJ cII cO cZ : ClassId} (F : FX l s0 D cI cC cJ cII cO cZ) {ws : va_W} {κ : Nat → Nat} {ra : Nat → Nat → Nat} {z sg : Nat → Int32} {G : Nat → Nat → Nat → Int32} {we : Nat → Int32} {pd : Nat → Int64} (hI : cb_I cI cC cJ cII ws κ ra z sg G we pd) (sz : Nat) (p0 p1 : Int32)  : gx_XM l y_PB_tariff [.code y_PB_tariff b_PB_tariff 3 (some .int)] { frames := 9, cells := 1, slots := 6, locals := 320 } (gx_P s0 D classes ws sz [.ref (κ 0), .int p0, .int p1]) (gx_Ri (fun r => ∃ k j, k < 6 ∧ j < 4 ∧ p0 = nI k ∧ p1 = nI j ∧ r = if (z 3 >>> (nI k &&& 31)) &&& 1 = 1 then G 1 k j else -1)) (fun E => E = "java/lang/IllegalArgumentException" ∧ ((p0 < 0 ∨ nI 6 ≤ p0) ∨ (p1 < 0 ∨ nI 4 ≤ p1))) 1 6 (fun _ => False) := by
  refine gx_xmet (by decide +kernel) (Nat.le_of_ble_eq_true rfl) ?_
  intro p e s m below meth c ls hx hb hr hml hown hlocks hex hsz hV hP hD hS hA hA0 hl
  have hg := fx_g F hV ([.ref (κ 0), .int p0, .int p1] : List Value).toArray
  have hK := fx_k F hV
  have hn9 := fx_n F hV
  have hl : lv_has ls 3 [(0, .ref (κ 0)), (1, .int p0), (2, .int p1)] := hl
  refine lv_iload_n hx hb d_PB_tariff_0 rfl (lv_at hl 1 rfl) ?_
  refine gx_readi (va_runS (As := [.int p0]) (rest := []) ⟨hx, hb, hml, hown, gx_nil⟩ (c_PB_isKind F _ _ _) ⟨gx_cb (hg _ k_149) (hg _ k_1) (hg _ k_179) nd_PB_isKind ⟨by decide, by decide⟩, hg _ k_148⟩ (gx_preS hV hP hD hS hA0) rfl rfl hl.1 rfl (lv_room (Nat.le_of_ble_eq_true rfl)) d_PB_tariff_1 ⟨by decide, by decide⟩) (fun r_1 h_1 => ?_)
  rcases h_1 with ⟨rfl, k, hk, rfl⟩ | ⟨rfl, hbad⟩
  · skip
    refine lv_if_eq (tgt := 16) hx hb d_PB_tariff_4 (by decide) (fun c_4 => absurd c_4 (by decide)) (fun c_4 => ?_)
    refine lv_iload_n hx hb d_PB_tariff_7 rfl (lv_at hl 2 rfl) ?_
    refine lv_if_lt (tgt := 16) hx hb d_PB_tariff_8 (by decide) (fun c_8 => ?_) (fun c_8 => ?_)
    · skip
      have hbad : p1 < 0 ∨ nI 4 ≤ p1 := Or.inl c_8
      exact gx_throw (own := "PortBills") (cls := "java/lang/IllegalArgumentException") (text := "no such kind or what") (names := fx_nm) (ik := 71) (is := 73) (ic := 75) hx hb (fx_tr F) hown (by decide +kernel) (by decide +kernel) (hg _ k_215) (hg _ k_12) (fx_str_73 F hV).choose_spec (fx_own_75 F hV _) (hl.1.trans hml.symm) d_PB_tariff_16 d_PB_tariff_19 d_PB_tariff_20 d_PB_tariff_22 d_PB_tariff_25 hex (by decide) (by decide) (by decide) (by decide) hlocks (⟨rfl, Or.inr hbad⟩)
    · skip
      refine lv_iload_n hx hb d_PB_tariff_11 rfl (lv_at hl 2 rfl) ?_
      refine lv_iconst (v := 4) hx hb d_PB_tariff_12 (by decide) ?_
      refine lv_icmp_lt (tgt := 26) hx hb d_PB_tariff_13 (by decide) (fun c_13 => ?_) (fun c_13 => ?_)
      · skip
        obtain ⟨j, hj, hje⟩ : ∃ j, j < 4 ∧ p1 = nI j := gx_rng (by decide) c_8 (fun q => absurd c_13 (Int32.not_lt.mpr q))
        subst hje
        refine lv_aload_n hx hb d_PB_tariff_26 rfl (lv_at hl 0 rfl) ?_
        refine lv_iload_n hx hb d_PB_tariff_27 rfl (lv_at hl 1 rfl) ?_
        refine gx_readi (va_runV (As := [.int (nI k)]) (rest := []) ⟨hx, hb, hml, hown, gx_nil⟩ (c_PB_hasTariff F hI _ _) ⟨gx_cb (hg _ k_287) (hg _ k_1) (hg _ k_284) nd_PB_hasTariff ⟨by decide, by decide⟩, hg _ k_286, hg _ ks_10⟩ (gx_preV hV hP hD hS hA0 (va_recv hK hP rfl (hI.1))) rfl rfl hl.1 rfl (lv_room (Nat.le_of_ble_eq_true rfl)) d_PB_tariff_28 ⟨by decide, by decide⟩) (fun r_28 h_28 => ?_)
        rcases h_28 with ⟨rfl, hbit⟩ | ⟨rfl, hbit⟩
        · skip
          refine lv_if_eq (tgt := 45) hx hb d_PB_tariff_31 (by decide) (fun c_31 => absurd c_31 (by decide)) (fun c_31 => ?_)
          refine lv_aload_n hx hb d_PB_tariff_34 rfl (lv_at hl 0 rfl) ?_
          refine va_get (D := D) (ci := iPB) (v := .ref (κ 10)) (C := R_PB) (T := F_PB) (N := 11) hx hb (fl_PB hg) (fun _ h9 => h9) hown hK hP 0 (hI.1) rfl 1 (by decide) (hg _ k_89) (fun _ h9 => h9) rfl d_PB_tariff_35 ?_
          refine lv_iload_n hx hb d_PB_tariff_38 rfl (lv_at hl 1 rfl) ?_
          refine gx_al hx hb hK hP 10 3 (hI.2.2.2.2.2.1 1 (by decide)) rfl rfl k (v := ra 1 k) (rfl) (hk) (by decide) (if_pos (hk)) d_PB_tariff_39 ?_
          refine lv_iload_n hx hb d_PB_tariff_40 rfl (lv_at hl 2 rfl) ?_
          refine gx_il hx hb hK hP (cb_gp 1 + 1 + k) 0 (hI.2.2.2.2.2.2 1 (by decide) k (hk)) rfl j (rfl) (hj) (by decide) d_PB_tariff_41 ?_
          refine lv_goto (tgt := 46) hx hb d_PB_tariff_42 (by decide) ?_
          exact gx_mx (gx_ireti hx hb hr hlocks rfl d_PB_tariff_46 (⟨k, j, hk, hj, rfl, rfl, (if_pos hbit).symm⟩))
        · skip
          refine lv_if_eq (tgt := 45) hx hb d_PB_tariff_31 (by decide) (fun c_31 => ?_) (fun c_31 => absurd c_31 (by decide))
          refine lv_iconst (v := (-1)) hx hb d_PB_tariff_45 (by decide) ?_
          exact gx_mx (gx_ireti hx hb hr hlocks rfl d_PB_tariff_46 (⟨k, j, hk, hj, rfl, rfl, (if_neg hbit).symm⟩))
      · skip
        have hbad : p1 < 0 ∨ nI 4 ≤ p1 := Or.inr (Int32.not_lt.mp c_13)
        exact gx_throw (own := "PortBills") (cls := "java/lang/IllegalArgumentException") (text := "no such kind or what") (names := fx_nm) (ik := 71) (is := 73) (ic := 75) hx hb (fx_tr F) hown (by decide +kernel) (by decide +kernel) (hg _ k_215) (hg _ k_12) (fx_str_73 F hV).choose_spec (fx_own_75 F hV _) (hl.1.trans hml.symm) d_PB_tariff_16 d_PB_tariff_19 d_PB_tariff_20 d_PB_tariff_22 d_PB_tariff_25 hex (by decide) (by decide) (by decide) (by decide) hlocks (⟨rfl, Or.inr hbad⟩)
  · skip
    refine lv_if_eq (tgt := 16) hx hb d_PB_tariff_4 (by decide) (fun c_4 => ?_) (fun c_4 => absurd c_4 (by decide))
    exact gx_throw (own := "PortBills") (cls := "java/lang/IllegalArgumentException") (text := "no such kind or what") (names := fx_nm) (ik := 71) (is := 73) (ic := 75) hx hb (fx_tr F) hown (by decide +kernel) (by decide +kernel) (hg _ k_215) (hg _ k_12) (fx_str_73 F hV).choose_spec (fx_own_75 F hV _) (hl.1.trans hml.symm) d_PB_tariff_16 d_PB_tariff_19 d_PB_tariff_20 d_PB_tariff_22 d_PB_tariff_25 hex (by decide) (by decide) (by decide) (by decide) hlocks (⟨rfl, Or.inl hbad⟩)

