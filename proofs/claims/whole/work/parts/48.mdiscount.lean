set_option maxRecDepth 100000 in
set_option maxHeartbeats 4000000 in
theorem c_MD_discount {l : Launch} {s0 : State} {D : va_G} {cI cC cJ cII cO cZ : ClassId} (F : FX l s0 D cI cC cJ cII cO cZ) {ws : va_W} {μ : Nat → Nat} {x : Nat → Int32} {A : Nat → Nat → Int32} {B : Nat → Nat → Int64} (hM : md_I cI cJ cZ ws μ x A B) (sz : Nat) (hdc : ∀ q, q < 60 → ∃ d, d ≤ 3 ∧ A 6 q = nI d) (p0 p1 p2 p3 : Int32)  : Met l y_MD_discount [.code y_MD_discount b_MD_discount 6 (some .boolean)] { frames := 1, cells := 0, slots := 0, locals := 40 } (gx_P s0 D classes ws sz [.ref (μ 0), .int p0, .int p1, .int p2, .int p3]) (va_Qi (fun r w1 => (r = 0 ∧ ((p0 < 0 ∨ nI 10 ≤ p0) ∨ (p1 < 0 ∨ nI 6 ≤ p1) ∨ (p3 < 1 ∨ 100 < p3) ∨ (p2 < 0 ∨ p3 < p2)) ∧ md_I cI cJ cZ w1 μ (upd x 0 0) A B) ∨ (∃ k9 j9, k9 < 10 ∧ j9 < 6 ∧ p0 = nI k9 ∧ p1 = nI j9 ∧ ¬ p3 < 1 ∧ ¬ 100 < p3 ∧ ¬ p2 < 0 ∧ ¬ p3 < p2 ∧ A 6 (6 * k9 + j9) = 3 ∧ r = 0 ∧ md_I cI cJ cZ w1 μ (upd x 0 0) A B) ∨ (∃ k9 j9, k9 < 10 ∧ j9 < 6 ∧ p0 = nI k9 ∧ p1 = nI j9 ∧ ¬ p3 < 1 ∧ ¬ 100 < p3 ∧ ¬ p2 < 0 ∧ ¬ p3 < p2 ∧ ∃ d9, d9 < 3 ∧ A 6 (6 * k9 + j9) = nI d9 ∧ r = 1 ∧ md_I cI cJ cZ w1 μ (upd x 0 0) (cb_upr (cb_upr (cb_upr A 7 (upd (A 7) (3 * (6 * k9 + j9) + d9) p2)) 8 (upd (A 8) (3 * (6 * k9 + j9) + d9) p3)) 6 (upd (A 6) (6 * k9 + j9) (nI d9 + 1))) B)) (gx_B D classes ws sz) (va_A ws sz)) 0 0 (va_A ws sz) := by
  refine gx_met (by decide +kernel) (Nat.le_of_ble_eq_true rfl) ?_
  intro p e s m below meth c ls hx hb hr hml hown hlocks hnm hsz hV hP hD hS hA hA0 hl
  have hg := fx_g F hV ([.ref (μ 0), .int p0, .int p1, .int p2, .int p3] : List Value).toArray
  have hK := fx_k F hV
  have hn9 := fx_n F hV
  have hl : lv_has ls 6 [(0, .ref (μ 0)), (1, .int p0), (2, .int p1), (3, .int p2), (4, .int p3)] := hl
  refine lv_aload_n hx hb d_MD_discount_0 rfl (lv_at hl 0 rfl) ?_
  refine lv_iconst (v := 0) hx hb d_MD_discount_1 (by decide) ?_
  refine va_put (D := D) (ci := iMD) (v := .int 0) (ty := .int) (C := R_MD) (T := F_MD) (N := 23) hx hb (fl_MD hg) (fun _ h9 => h9) t_MD t_MD_ok n_MD hown hK hP hD hS 0 (hM.1) rfl 0 (by decide) (hg _ k_556) (fun _ h9 => h9) rfl (by decide +kernel) rfl rfl (Nat.le_of_ble_eq_true rfl) d_MD_discount_2 (fun H locs hP hD hS => ?_)
  obtain ⟨w_1, ew_1⟩ : ∃ y : va_W, y = ws.set 0 (μ 0, .inr (iMD, md_o μ (upd x 0 0))) := ⟨_, rfl⟩
  replace hP : va_P D classes w_1 H := by rw [ew_1]; exact hP
  replace hD : va_D (va_A ws sz) w_1 := by rw [ew_1]; exact hD
  replace hM : md_I cI cJ cZ w_1 μ (upd x 0 0) A B := by rw [ew_1]; exact md_I.obj (x := x) (x' := upd x 0 0) hM
  refine lv_iload_n hx hb d_MD_discount_5 rfl (lv_at hl 1 rfl) ?_
  refine gx_readi (va_runS (As := [.int p0]) (rest := []) ⟨hx, hb, hml, hown, gx_nil⟩ (c_MD_isCall F _ _ _) ⟨gx_cb (hg _ k_669) (hg _ k_7) (hg _ k_667) nd_MD_isCall ⟨by decide, by decide⟩, hg _ k_668⟩ (gx_preS hV hP hD hS hA0) rfl rfl hl.1 rfl (lv_room (Nat.le_of_ble_eq_true rfl)) d_MD_discount_6 ⟨by decide, by decide⟩) (fun r_6 h_6 => ?_)
  rcases h_6 with ⟨rfl, k, hk, rfl⟩ | ⟨rfl, hbad⟩
  · skip
    refine lv_if_eq (tgt := 44) hx hb d_MD_discount_9 (by decide) (fun c_9 => absurd c_9 (by decide)) (fun c_9 => ?_)
    refine lv_iload_n hx hb d_MD_discount_12 rfl (lv_at hl 2 rfl) ?_
    refine gx_readi (va_runS (As := [.int p1]) (rest := []) ⟨hx, hb, hml, hown, gx_nil⟩ (c_MD_isKind F _ _ _) ⟨gx_cb (hg _ k_657) (hg _ k_7) (hg _ k_655) nd_MD_isKind ⟨by decide, by decide⟩, hg _ k_656⟩ (gx_preS hV hP hD hS hA0) rfl rfl hl.1 rfl (lv_room (Nat.le_of_ble_eq_true rfl)) d_MD_discount_13 ⟨by decide, by decide⟩) (fun r_13 h_13 => ?_)
    rcases h_13 with ⟨rfl, j, hj, rfl⟩ | ⟨rfl, hbad⟩
    · skip
      refine lv_if_eq (tgt := 44) hx hb d_MD_discount_16 (by decide) (fun c_16 => absurd c_16 (by decide)) (fun c_16 => ?_)
      refine lv_iload hx hb d_MD_discount_19 (lv_at hl 4 rfl) ?_
      refine lv_i2l (v := p3.toInt64) hx hb d_MD_discount_21 (rfl) ?_
      refine lv_lconst (v := 1) hx hb d_MD_discount_22 (by decide) ?_
      refine lv_ldc2 (v := 100) hx hb hown (hg _ k_678) d_MD_discount_23 ?_
      refine gx_readi (va_runS (As := [.long p3.toInt64, .long (1 : Int64), .long (100 : Int64)]) (rest := []) ⟨hx, hb, hml, hown, gx_nil⟩ (c_MD_in F _ _ _ _ _) ⟨gx_cb (hg _ k_639) (hg _ k_7) (hg _ k_637) nd_MD_in ⟨by decide, by decide⟩, hg _ k_638⟩ (gx_preS hV hP hD hS hA0) rfl rfl hl.1 rfl (lv_room (Nat.le_of_ble_eq_true rfl)) d_MD_discount_26 ⟨by decide, by decide⟩) (fun r_26 h_26 => ?_)
      rcases h_26 with ⟨rfl, hi1, hi2⟩ | ⟨rfl, hib⟩
      · skip
        obtain ⟨hd1, hd2⟩ := md_good (p := p3) (lo := 1) (hi := 100) hi1 hi2
        refine lv_if_eq (tgt := 44) hx hb d_MD_discount_29 (by decide) (fun c_29 => absurd c_29 (by decide)) (fun c_29 => ?_)
        refine lv_iload_n hx hb d_MD_discount_32 rfl (lv_at hl 3 rfl) ?_
        refine lv_i2l (v := p2.toInt64) hx hb d_MD_discount_33 (rfl) ?_
        refine lv_lconst (v := 0) hx hb d_MD_discount_34 (by decide) ?_
        refine lv_iload hx hb d_MD_discount_35 (lv_at hl 4 rfl) ?_
        refine lv_i2l (v := p3.toInt64) hx hb d_MD_discount_37 (rfl) ?_
        refine gx_readi (va_runS (As := [.long p2.toInt64, .long (0 : Int64), .long p3.toInt64]) (rest := []) ⟨hx, hb, hml, hown, gx_nil⟩ (c_MD_in F _ _ _ _ _) ⟨gx_cb (hg _ k_639) (hg _ k_7) (hg _ k_637) nd_MD_in ⟨by decide, by decide⟩, hg _ k_638⟩ (gx_preS hV hP hD hS hA0) rfl rfl hl.1 rfl (lv_room (Nat.le_of_ble_eq_true rfl)) d_MD_discount_38 ⟨by decide, by decide⟩) (fun r_38 h_38 => ?_)
        rcases h_38 with ⟨rfl, hi1, hi2⟩ | ⟨rfl, hib⟩
        · skip
          obtain ⟨hu1, hu2⟩ := md_good (p := p2) (lo := 0) (hi := p3) hi1 hi2
          refine lv_if_ne (tgt := 46) hx hb d_MD_discount_41 (by decide) (fun c_41 => ?_) (fun c_41 => absurd c_41 (by decide))
          refine lv_bipush (v := 6) hx hb d_MD_discount_46 (by decide) ?_
          refine lv_iload_n hx hb d_MD_discount_48 rfl (lv_at hl 1 rfl) ?_
          refine lv_imul hx hb d_MD_discount_49 ?_
          refine lv_iload_n hx hb d_MD_discount_50 rfl (lv_at hl 2 rfl) ?_
          refine lv_iadd hx hb d_MD_discount_51 ?_
          rw [show (6 : Int32) * nI k + nI j = nI (6 * k + j) by rw [show (6 : Int32) = nI 6 from rfl, md_mul, nI_add]]
          refine lv_istore (lv' := [(5, .int (nI (6 * k + j))), (0, .ref (μ 0)), (1, .int (nI k)), (2, .int (nI j)), (3, .int p2), (4, .int p3)]) hx hb d_MD_discount_52 hl (by decide) rfl (fun ls hl => ?_)
          refine lv_aload_n hx hb d_MD_discount_54 rfl (lv_at hl 1 rfl) ?_
          refine va_get (D := D) (ci := iMD) (v := .ref (μ 6)) (C := R_MD) (T := F_MD) (N := 23) hx hb (fl_MD hg) (fun _ h9 => h9) hown hK hP 0 (hM.1) rfl 10 (by decide) (hg _ k_566) (fun _ h9 => h9) rfl d_MD_discount_55 ?_
          refine lv_iload hx hb d_MD_discount_58 (lv_at hl 0 rfl) ?_
          refine gx_il (f := A 6) hx hb hK hP 6 0 (hM.2.1 6 (by decide) (by decide)) rfl (6 * k + j) (rfl) (show 6 * k + j < 60 by omega) (by decide) d_MD_discount_60 ?_
          refine lv_iconst (v := 3) hx hb d_MD_discount_61 (by decide) ?_
          refine lv_icmp_ne (tgt := 67) hx hb d_MD_discount_62 (by decide) (fun c_62 => ?_) (fun c_62 => ?_)
          · skip
            obtain ⟨d, hd3, hd9⟩ := hdc (6 * k + j) (by omega)
            have hdl : d < 3 := by
              rcases Nat.lt_or_ge d 3 with z | z
              · exact z
              · exact absurd (show A 6 (6 * k + j) = 3 by rw [hd9, show d = 3 by omega]; rfl) c_62
            refine lv_aload_n hx hb d_MD_discount_67 rfl (lv_at hl 1 rfl) ?_
            refine va_get (D := D) (ci := iMD) (v := .ref (μ 7)) (C := R_MD) (T := F_MD) (N := 23) hx hb (fl_MD hg) (fun _ h9 => h9) hown hK hP 0 (hM.1) rfl 11 (by decide) (hg _ k_567) (fun _ h9 => h9) rfl d_MD_discount_68 ?_
            refine lv_iconst (v := 3) hx hb d_MD_discount_71 (by decide) ?_
            refine lv_iload hx hb d_MD_discount_72 (lv_at hl 0 rfl) ?_
            refine lv_imul hx hb d_MD_discount_74 ?_
            refine lv_aload_n hx hb d_MD_discount_75 rfl (lv_at hl 1 rfl) ?_
            refine va_get (D := D) (ci := iMD) (v := .ref (μ 6)) (C := R_MD) (T := F_MD) (N := 23) hx hb (fl_MD hg) (fun _ h9 => h9) hown hK hP 0 (hM.1) rfl 10 (by decide) (hg _ k_566) (fun _ h9 => h9) rfl d_MD_discount_76 ?_
            refine lv_iload hx hb d_MD_discount_79 (lv_at hl 0 rfl) ?_
            refine gx_il (f := A 6) hx hb hK hP 6 0 (hM.2.1 6 (by decide) (by decide)) rfl (6 * k + j) (rfl) (show 6 * k + j < 60 by omega) (by decide) d_MD_discount_81 ?_
            refine lv_iadd hx hb d_MD_discount_82 ?_
            refine lv_iload_n hx hb d_MD_discount_83 rfl (lv_at hl 4 rfl) ?_
            refine gx_is (f := A 7) hx hb hK hP hD hS 7 0 (hM.2.1 7 (by decide) (by decide)) rfl (3 * (6 * k + j) + d) (by rw [hd9, show (3 : Int32) = nI 3 from rfl, md_mul, nI_add]) (show 3 * (6 * k + j) + d < 180 by omega) (by decide) d_MD_discount_84 (fun H locs hP hD hS => ?_)
            obtain ⟨w_2, ew_2⟩ : ∃ y : va_W, y = w_1.set 7 (μ 7, .inl (cI, md_n 7, .inl (upd (A 7) (3 * (6 * k + j) + d) p2))) := ⟨_, rfl⟩
            replace hP : va_P D classes w_2 H := by rw [ew_2]; exact hP
            replace hD : va_D (va_A ws sz) w_2 := by rw [ew_2]; exact hD
            replace hM : md_I cI cJ cZ w_2 μ (upd x 0 0) (cb_upr A 7 (upd (A 7) (3 * (6 * k + j) + d) p2)) B := by rw [ew_2]; exact md_I.int (by decide) (by decide) hM
            refine lv_aload_n hx hb d_MD_discount_85 rfl (lv_at hl 1 rfl) ?_
            refine va_get (D := D) (ci := iMD) (v := .ref (μ 8)) (C := R_MD) (T := F_MD) (N := 23) hx hb (fl_MD hg) (fun _ h9 => h9) hown hK hP 0 (hM.1) rfl 12 (by decide) (hg _ k_568) (fun _ h9 => h9) rfl d_MD_discount_86 ?_
            refine lv_iconst (v := 3) hx hb d_MD_discount_89 (by decide) ?_
            refine lv_iload hx hb d_MD_discount_90 (lv_at hl 0 rfl) ?_
            refine lv_imul hx hb d_MD_discount_92 ?_
            refine lv_aload_n hx hb d_MD_discount_93 rfl (lv_at hl 1 rfl) ?_
            refine va_get (D := D) (ci := iMD) (v := .ref (μ 6)) (C := R_MD) (T := F_MD) (N := 23) hx hb (fl_MD hg) (fun _ h9 => h9) hown hK hP 0 (hM.1) rfl 10 (by decide) (hg _ k_566) (fun _ h9 => h9) rfl d_MD_discount_94 ?_
            refine lv_iload hx hb d_MD_discount_97 (lv_at hl 0 rfl) ?_
            refine gx_il (f := A 6) hx hb hK hP 6 0 (hM.2.1 6 (by decide) (by decide)) rfl (6 * k + j) (rfl) (show 6 * k + j < 60 by omega) (by decide) d_MD_discount_99 ?_
            refine lv_iadd hx hb d_MD_discount_100 ?_
            refine lv_iload hx hb d_MD_discount_101 (lv_at hl 5 rfl) ?_
            refine gx_is (f := A 8) hx hb hK hP hD hS 8 0 (hM.2.1 8 (by decide) (by decide)) rfl (3 * (6 * k + j) + d) (by rw [hd9, show (3 : Int32) = nI 3 from rfl, md_mul, nI_add]) (show 3 * (6 * k + j) + d < 180 by omega) (by decide) d_MD_discount_103 (fun H locs hP hD hS => ?_)
            obtain ⟨w_3, ew_3⟩ : ∃ y : va_W, y = w_2.set 8 (μ 8, .inl (cI, md_n 8, .inl (upd (A 8) (3 * (6 * k + j) + d) p3))) := ⟨_, rfl⟩
            replace hP : va_P D classes w_3 H := by rw [ew_3]; exact hP
            replace hD : va_D (va_A ws sz) w_3 := by rw [ew_3]; exact hD
            replace hM : md_I cI cJ cZ w_3 μ (upd x 0 0) (cb_upr (cb_upr A 7 (upd (A 7) (3 * (6 * k + j) + d) p2)) 8 (upd (A 8) (3 * (6 * k + j) + d) p3)) B := by rw [ew_3]; exact md_I.int (by decide) (by decide) hM
            refine lv_aload_n hx hb d_MD_discount_104 rfl (lv_at hl 1 rfl) ?_
            refine va_get (D := D) (ci := iMD) (v := .ref (μ 6)) (C := R_MD) (T := F_MD) (N := 23) hx hb (fl_MD hg) (fun _ h9 => h9) hown hK hP 0 (hM.1) rfl 10 (by decide) (hg _ k_566) (fun _ h9 => h9) rfl d_MD_discount_105 ?_
            refine lv_iload hx hb d_MD_discount_108 (lv_at hl 0 rfl) ?_
            refine lv_dup2_11 hx hb d_MD_discount_110 rfl rfl ?_
            refine gx_il (f := A 6) hx hb hK hP 6 0 (hM.2.1 6 (by decide) (by decide)) rfl (6 * k + j) (rfl) (show 6 * k + j < 60 by omega) (by decide) d_MD_discount_111 ?_
            refine lv_iconst (v := 1) hx hb d_MD_discount_112 (by decide) ?_
            refine lv_iadd hx hb d_MD_discount_113 ?_
            refine gx_is (f := A 6) hx hb hK hP hD hS 6 0 (hM.2.1 6 (by decide) (by decide)) rfl (6 * k + j) (rfl) (show 6 * k + j < 60 by omega) (by decide) d_MD_discount_114 (fun H locs hP hD hS => ?_)
            obtain ⟨w_4, ew_4⟩ : ∃ y : va_W, y = w_3.set 6 (μ 6, .inl (cI, md_n 6, .inl (upd (A 6) (6 * k + j) (((A 6) (6 * k + j)) + 1)))) := ⟨_, rfl⟩
            replace hP : va_P D classes w_4 H := by rw [ew_4]; exact hP
            replace hD : va_D (va_A ws sz) w_4 := by rw [ew_4]; exact hD
            replace hM : md_I cI cJ cZ w_4 μ (upd x 0 0) (cb_upr (cb_upr (cb_upr A 7 (upd (A 7) (3 * (6 * k + j) + d) p2)) 8 (upd (A 8) (3 * (6 * k + j) + d) p3)) 6 (upd (A 6) (6 * k + j) (((A 6) (6 * k + j)) + 1))) B := by rw [ew_4]; exact md_I.int (by decide) (by decide) hM
            refine lv_iconst (v := 1) hx hb d_MD_discount_115 (by decide) ?_
            exact gx_iret hx hb hr hlocks rfl hS hP hD (by decide) (by decide) d_MD_discount_116 (Or.inr (Or.inr ⟨k, j, hk, hj, rfl, rfl, hd1, hd2, hu1, hu2, d, hdl, hd9, rfl, by rw [← hd9]; exact hM⟩))
          · skip
            refine lv_iconst (v := 0) hx hb d_MD_discount_65 (by decide) ?_
            exact gx_iret hx hb hr hlocks rfl hS hP hD (by decide) (by decide) d_MD_discount_66 (Or.inr (Or.inl ⟨k, j, hk, hj, rfl, rfl, hd1, hd2, hu1, hu2, c_62, rfl, hM⟩))
        · skip
          have hbad := md_bad (p := p2) (lo := 0) (hi := p3) hib
          refine lv_if_ne (tgt := 46) hx hb d_MD_discount_41 (by decide) (fun c_41 => absurd c_41 (by decide)) (fun c_41 => ?_)
          refine lv_iconst (v := 0) hx hb d_MD_discount_44 (by decide) ?_
          exact gx_iret hx hb hr hlocks rfl hS hP hD (by decide) (by decide) d_MD_discount_45 (Or.inl ⟨rfl, Or.inr (Or.inr (Or.inr hbad)), hM⟩)
      · skip
        have hbad := md_bad (p := p3) (lo := 1) (hi := 100) hib
        refine lv_if_eq (tgt := 44) hx hb d_MD_discount_29 (by decide) (fun c_29 => ?_) (fun c_29 => absurd c_29 (by decide))
        refine lv_iconst (v := 0) hx hb d_MD_discount_44 (by decide) ?_
        exact gx_iret hx hb hr hlocks rfl hS hP hD (by decide) (by decide) d_MD_discount_45 (Or.inl ⟨rfl, Or.inr (Or.inr (Or.inl hbad)), hM⟩)
    · skip
      refine lv_if_eq (tgt := 44) hx hb d_MD_discount_16 (by decide) (fun c_16 => ?_) (fun c_16 => absurd c_16 (by decide))
      refine lv_iconst (v := 0) hx hb d_MD_discount_44 (by decide) ?_
      exact gx_iret hx hb hr hlocks rfl hS hP hD (by decide) (by decide) d_MD_discount_45 (Or.inl ⟨rfl, Or.inr (Or.inl hbad), hM⟩)
  · skip
    refine lv_if_eq (tgt := 44) hx hb d_MD_discount_9 (by decide) (fun c_9 => ?_) (fun c_9 => absurd c_9 (by decide))
    refine lv_iconst (v := 0) hx hb d_MD_discount_44 (by decide) ?_
    exact gx_iret hx hb hr hlocks rfl hS hP hD (by decide) (by decide) d_MD_discount_45 (Or.inl ⟨rfl, Or.inl hbad, hM⟩)

