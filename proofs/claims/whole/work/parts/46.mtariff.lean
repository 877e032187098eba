set_option maxRecDepth 100000 in
set_option maxHeartbeats 4000000 in
theorem c_MD_tariff {l : Launch} {s0 : State} {D : va_G} {cI cC cJ cII cO cZ : ClassId} (F : FX l s0 D cI cC cJ cII cO cZ) {ws : va_W} {μ : Nat → Nat} {x : Nat → Int32} {A : Nat → Nat → Int32} {B : Nat → Nat → Int64} (hM : md_I cI cJ cZ ws μ x A B) (sz : Nat) (p0 p1 : Int32)  : Met l y_MD_tariff [.code y_MD_tariff b_MD_tariff 3 (some .int)] { frames := 1, cells := 0, slots := 0, locals := 40 } (gx_P s0 D classes ws sz [.ref (μ 0), .int p0, .int p1]) (va_Qi (fun r w1 => (((p0 < 0 ∨ nI 6 ≤ p0) ∨ (p1 < 0 ∨ 3 < p1)) ∧ md_I cI cJ cZ w1 μ (upd x 0 1) A B) ∨ (∃ k9 j9, k9 < 6 ∧ j9 < 4 ∧ p0 = nI k9 ∧ p1 = nI j9 ∧ r = (if (x 2 >>> (nI k9 &&& 31)) &&& 1 = 0 then -1 else A 2 (4 * k9 + j9)) ∧ md_I cI cJ cZ w1 μ (upd x 0 0) A B)) (gx_B D classes ws sz) (va_A ws sz)) 0 0 (va_A ws sz) := by
  refine gx_met (by decide +kernel) (Nat.le_of_ble_eq_true rfl) ?_
  intro p e s m below meth c ls hx hb hr hml hown hlocks hnm hsz hV hP hD hS hA hA0 hl
  have hg := fx_g F hV ([.ref (μ 0), .int p0, .int p1] : List Value).toArray
  have hK := fx_k F hV
  have hn9 := fx_n F hV
  have hl : lv_has ls 3 [(0, .ref (μ 0)), (1, .int p0), (2, .int p1)] := hl
  refine lv_iload_n hx hb d_MD_tariff_0 rfl (lv_at hl 1 rfl) ?_
  refine gx_readi (va_runS (As := [.int p0]) (rest := []) ⟨hx, hb, hml, hown, gx_nil⟩ (c_MD_isKind F _ _ _) ⟨gx_cb (hg _ k_657) (hg _ k_7) (hg _ k_655) nd_MD_isKind ⟨by decide, by decide⟩, hg _ k_656⟩ (gx_preS hV hP hD hS hA0) rfl rfl hl.1 rfl (lv_room (Nat.le_of_ble_eq_true rfl)) d_MD_tariff_1 ⟨by decide, by decide⟩) (fun r_1 h_1 => ?_)
  rcases h_1 with ⟨rfl, k, hk, rfl⟩ | ⟨rfl, hbad⟩
  · skip
    refine lv_if_eq (tgt := 19) hx hb d_MD_tariff_4 (by decide) (fun c_4 => absurd c_4 (by decide)) (fun c_4 => ?_)
    refine lv_iload_n hx hb d_MD_tariff_7 rfl (lv_at hl 2 rfl) ?_
    refine lv_i2l (v := p1.toInt64) hx hb d_MD_tariff_8 (rfl) ?_
    refine lv_lconst (v := 0) hx hb d_MD_tariff_9 (by decide) ?_
    refine lv_ldc2 (v := 3) hx hb hown (hg _ k_658) d_MD_tariff_10 ?_
    refine gx_readi (va_runS (As := [.long p1.toInt64, .long (0 : Int64), .long (3 : Int64)]) (rest := []) ⟨hx, hb, hml, hown, gx_nil⟩ (c_MD_in F _ _ _ _ _) ⟨gx_cb (hg _ k_639) (hg _ k_7) (hg _ k_637) nd_MD_in ⟨by decide, by decide⟩, hg _ k_638⟩ (gx_preS hV hP hD hS hA0) rfl rfl hl.1 rfl (lv_room (Nat.le_of_ble_eq_true rfl)) d_MD_tariff_13 ⟨by decide, by decide⟩) (fun r_13 h_13 => ?_)
    rcases h_13 with ⟨rfl, hi1, hi2⟩ | ⟨rfl, hib⟩
    · skip
      obtain ⟨hlo, hhi⟩ := md_good (p := p1) (lo := 0) (hi := 3) hi1 hi2
      obtain ⟨j, hj, hje⟩ : ∃ j, j < 4 ∧ p1 = nI j := gx_rng (by decide) hlo (fun q => hhi (md_34 q))
      subst hje
      refine lv_if_ne (tgt := 25) hx hb d_MD_tariff_16 (by decide) (fun c_16 => ?_) (fun c_16 => absurd c_16 (by decide))
      refine lv_aload_n hx hb d_MD_tariff_25 rfl (lv_at hl 0 rfl) ?_
      refine lv_iconst (v := 0) hx hb d_MD_tariff_26 (by decide) ?_
      refine va_put (D := D) (ci := iMD) (v := .int 0) (ty := .int) (C := R_MD) (T := F_MD) (N := 23) hx hb (fl_MD hg) (fun _ h9 => h9) t_MD t_MD_ok n_MD hown hK hP hD hS 0 (hM.1) rfl 0 (by decide) (hg _ k_556) (fun _ h9 => h9) rfl (by decide +kernel) rfl rfl (Nat.le_of_ble_eq_true rfl) d_MD_tariff_27 (fun H locs hP hD hS => ?_)
      obtain ⟨w_1, ew_1⟩ : ∃ y : va_W, y = ws.set 0 (μ 0, .inr (iMD, md_o μ (upd x 0 0))) := ⟨_, rfl⟩
      replace hP : va_P D classes w_1 H := by rw [ew_1]; exact hP
      replace hD : va_D (va_A ws sz) w_1 := by rw [ew_1]; exact hD
      replace hM : md_I cI cJ cZ w_1 μ (upd x 0 0) A B := by rw [ew_1]; exact md_I.obj (x := x) (x' := upd x 0 0) hM
      refine lv_aload_n hx hb d_MD_tariff_30 rfl (lv_at hl 0 rfl) ?_
      refine va_get (D := D) (ci := iMD) (v := .int (x 2)) (C := R_MD) (T := F_MD) (N := 23) hx hb (fl_MD hg) (fun _ h9 => h9) hown hK hP 0 (hM.1) rfl 3 (by decide) (hg _ k_559) (fun _ h9 => h9) rfl d_MD_tariff_31 ?_
      refine lv_iload_n hx hb d_MD_tariff_34 rfl (lv_at hl 1 rfl) ?_
      refine lv_ishr hx hb d_MD_tariff_35 ?_
      refine lv_iconst (v := 1) hx hb d_MD_tariff_36 (by decide) ?_
      refine lv_iand hx hb d_MD_tariff_37 ?_
      refine lv_if_ne (tgt := 45) hx hb d_MD_tariff_38 (by decide) (fun c_38 => ?_) (fun c_38 => ?_)
      · skip
        refine lv_aload_n hx hb d_MD_tariff_45 rfl (lv_at hl 0 rfl) ?_
        refine va_get (D := D) (ci := iMD) (v := .ref (μ 2)) (C := R_MD) (T := F_MD) (N := 23) hx hb (fl_MD hg) (fun _ h9 => h9) hown hK hP 0 (hM.1) rfl 4 (by decide) (hg _ k_560) (fun _ h9 => h9) rfl d_MD_tariff_46 ?_
        refine lv_iconst (v := 4) hx hb d_MD_tariff_49 (by decide) ?_
        refine lv_iload_n hx hb d_MD_tariff_50 rfl (lv_at hl 1 rfl) ?_
        refine lv_imul hx hb d_MD_tariff_51 ?_
        refine lv_iload_n hx hb d_MD_tariff_52 rfl (lv_at hl 2 rfl) ?_
        refine lv_iadd hx hb d_MD_tariff_53 ?_
        refine gx_il (f := A 2) hx hb hK hP 2 0 (hM.2.1 2 (by decide) (by decide)) rfl (4 * k + j) (by rw [show (4 : Int32) = nI 4 from rfl, md_mul, nI_add]) (show 4 * k + j < 48 by omega) (by decide) d_MD_tariff_54 ?_
        exact gx_iret hx hb hr hlocks rfl hS hP hD (by decide) (by decide) d_MD_tariff_55 (Or.inr ⟨k, j, hk, hj, rfl, rfl, (if_neg c_38).symm, hM⟩)
      · skip
        refine lv_iconst (v := (-1)) hx hb d_MD_tariff_41 (by decide) ?_
        refine lv_goto (tgt := 55) hx hb d_MD_tariff_42 (by decide) ?_
        exact gx_iret hx hb hr hlocks rfl hS hP hD (by decide) (by decide) d_MD_tariff_55 (Or.inr ⟨k, j, hk, hj, rfl, rfl, (if_pos c_38).symm, hM⟩)
    · skip
      have hbad := md_bad (p := p1) (lo := 0) (hi := 3) hib
      refine lv_if_ne (tgt := 25) hx hb d_MD_tariff_16 (by decide) (fun c_16 => absurd c_16 (by decide)) (fun c_16 => ?_)
      refine lv_aload_n hx hb d_MD_tariff_19 rfl (lv_at hl 0 rfl) ?_
      refine lv_iconst (v := 1) hx hb d_MD_tariff_20 (by decide) ?_
      refine gx_calli (va_runV (As := [.int 1]) (rest := []) ⟨hx, hb, hml, hown, gx_nil⟩ (c_MD_fails F hM _ _) ⟨gx_cb (hg _ k_662) (hg _ k_7) (hg _ k_659) nd_MD_fails ⟨by decide, by decide⟩, hg _ k_661, hg _ ks_22⟩ (gx_preV hV hP hD hS hA0 (va_recv hK hP rfl (hM.1))) rfl rfl hl.1 rfl (lv_room (Nat.le_of_ble_eq_true rfl)) d_MD_tariff_21 ⟨by decide, by decide⟩) hD hS hA (fun r_21 w1 H locs h_21 hP hD hS => ?_)
      obtain ⟨hr0, hM⟩ := h_21
      subst hr0
      exact gx_iret hx hb hr hlocks rfl hS hP hD (by decide) (by decide) d_MD_tariff_24 (Or.inl ⟨Or.inr hbad, hM⟩)
  · skip
    refine lv_if_eq (tgt := 19) hx hb d_MD_tariff_4 (by decide) (fun c_4 => ?_) (fun c_4 => absurd c_4 (by decide))
    refine lv_aload_n hx hb d_MD_tariff_19 rfl (lv_at hl 0 rfl) ?_
    refine lv_iconst (v := 1) hx hb d_MD_tariff_20 (by decide) ?_
    refine gx_calli (va_runV (As := [.int 1]) (rest := []) ⟨hx, hb, hml, hown, gx_nil⟩ (c_MD_fails F hM _ _) ⟨gx_cb (hg _ k_662) (hg _ k_7) (hg _ k_659) nd_MD_fails ⟨by decide, by decide⟩, hg _ k_661, hg _ ks_22⟩ (gx_preV hV hP hD hS hA0 (va_recv hK hP rfl (hM.1))) rfl rfl hl.1 rfl (lv_room (Nat.le_of_ble_eq_true rfl)) d_MD_tariff_21 ⟨by decide, by decide⟩) hD hS hA (fun r_21 w1 H locs h_21 hP hD hS => ?_)
    obtain ⟨hr0, hM⟩ := h_21
    subst hr0
    exact gx_iret hx hb hr hlocks rfl hS hP hD (by decide) (by decide) d_MD_tariff_24 (Or.inl ⟨Or.inl hbad, hM⟩)

