set_option maxRecDepth 100000 in
set_option maxHeartbeats 4000000 in
theorem c_MD_sign {l : Launch} {s0 : State} {D : va_G} {cI cC cJ cII cO cZ : ClassId} (F : FX l s0 D cI cC cJ cII cO cZ) {ws : va_W} {μ : Nat → Nat} {x : Nat → Int32} {A : Nat → Nat → Int32} {B : Nat → Nat → Int64} (hM : md_I cI cJ cZ ws μ x A B) (sz : Nat) (n : Nat) (hn : n ≤ 120) (hx1 : x 1 = nI n) (p0 : Int32)  : Met l y_MD_sign [.code y_MD_sign b_MD_sign 2 (some .boolean)] { frames := 1, cells := 0, slots := 0, locals := 40 } (gx_P s0 D classes ws sz [.ref (μ 0), .int p0]) (va_Qi (fun r w1 => (r = 0 ∧ (p0 < 33 ∨ 126 < p0 ∨ n = 120) ∧ md_I cI cJ cZ w1 μ (upd x 0 0) A B) ∨ (r = 1 ∧ ¬ p0 < 33 ∧ ¬ 126 < p0 ∧ n < 120 ∧ md_I cI cJ cZ w1 μ (upd (upd x 0 0) 1 (x 1 + 1)) (cb_upr A 1 (upd (A 1) n p0)) B)) (gx_B D classes ws sz) (va_A ws sz)) 0 0 (va_A ws sz) := by
  refine gx_met (by decide +kernel) (Nat.le_of_ble_eq_true rfl) ?_
  intro p e s m below meth c ls hx hb hr hml hown hlocks hnm hsz hV hP hD hS hA hA0 hl
  have hg := fx_g F hV ([.ref (μ 0), .int p0] : List Value).toArray
  have hK := fx_k F hV
  have hn9 := fx_n F hV
  have hl : lv_has ls 2 [(0, .ref (μ 0)), (1, .int p0)] := hl
  refine lv_aload_n hx hb d_MD_sign_0 rfl (lv_at hl 0 rfl) ?_
  refine lv_iconst (v := 0) hx hb d_MD_sign_1 (by decide) ?_
  refine va_put (D := D) (ci := iMD) (v := .int 0) (ty := .int) (C := R_MD) (T := F_MD) (N := 23) hx hb (fl_MD hg) (fun _ h9 => h9) t_MD t_MD_ok n_MD hown hK hP hD hS 0 (hM.1) rfl 0 (by decide) (hg _ k_556) (fun _ h9 => h9) rfl (by decide +kernel) rfl rfl (Nat.le_of_ble_eq_true rfl) d_MD_sign_2 (fun H locs hP hD hS => ?_)
  obtain ⟨w_1, ew_1⟩ : ∃ y : va_W, y = ws.set 0 (μ 0, .inr (iMD, md_o μ (upd x 0 0))) := ⟨_, rfl⟩
  replace hP : va_P D classes w_1 H := by rw [ew_1]; exact hP
  replace hD : va_D (va_A ws sz) w_1 := by rw [ew_1]; exact hD
  replace hM : md_I cI cJ cZ w_1 μ (upd x 0 0) A B := by rw [ew_1]; exact md_I.obj (x := x) (x' := upd x 0 0) hM
  refine lv_iload_n hx hb d_MD_sign_5 rfl (lv_at hl 1 rfl) ?_
  refine lv_i2l (v := p0.toInt64) hx hb d_MD_sign_6 (rfl) ?_
  refine lv_ldc2 (v := 33) hx hb hown (hg _ k_635) d_MD_sign_7 ?_
  refine lv_ldc2 (v := 126) hx hb hown (hg _ k_636) d_MD_sign_10 ?_
  refine gx_readi (va_runS (As := [.long p0.toInt64, .long (33 : Int64), .long (126 : Int64)]) (rest := []) ⟨hx, hb, hml, hown, gx_nil⟩ (c_MD_in F _ _ _ _ _) ⟨gx_cb (hg _ k_639) (hg _ k_7) (hg _ k_637) nd_MD_in ⟨by decide, by decide⟩, hg _ k_638⟩ (gx_preS hV hP hD hS hA0) rfl rfl hl.1 rfl (lv_room (Nat.le_of_ble_eq_true rfl)) d_MD_sign_13 ⟨by decide, by decide⟩) (fun r_13 h_13 => ?_)
  rcases h_13 with ⟨rfl, hi1, hi2⟩ | ⟨rfl, hib⟩
  · skip
    obtain ⟨hlo, hhi⟩ := md_good (p := p0) (lo := 33) (hi := 126) hi1 hi2
    refine lv_if_eq (tgt := 28) hx hb d_MD_sign_16 (by decide) (fun c_16 => absurd c_16 (by decide)) (fun c_16 => ?_)
    refine lv_aload_n hx hb d_MD_sign_19 rfl (lv_at hl 0 rfl) ?_
    refine va_get (D := D) (ci := iMD) (v := .int (x 1)) (C := R_MD) (T := F_MD) (N := 23) hx hb (fl_MD hg) (fun _ h9 => h9) hown hK hP 0 (hM.1) rfl 2 (by decide) (hg _ k_558) (fun _ h9 => h9) rfl d_MD_sign_20 ?_
    refine lv_bipush (v := 120) hx hb d_MD_sign_23 (by decide) ?_
    refine lv_icmp_ne (tgt := 30) hx hb d_MD_sign_25 (by decide) (fun c_25 => ?_) (fun c_25 => ?_)
    · skip
      have hlt : n < 120 := by
        rcases Nat.lt_or_ge n 120 with z | z
        · exact z
        · exact absurd (show x 1 = 120 by rw [hx1, show n = 120 by omega]; rfl) c_25
      refine lv_aload_n hx hb d_MD_sign_30 rfl (lv_at hl 0 rfl) ?_
      refine va_get (D := D) (ci := iMD) (v := .ref (μ 1)) (C := R_MD) (T := F_MD) (N := 23) hx hb (fl_MD hg) (fun _ h9 => h9) hown hK hP 0 (hM.1) rfl 1 (by decide) (hg _ k_557) (fun _ h9 => h9) rfl d_MD_sign_31 ?_
      refine lv_aload_n hx hb d_MD_sign_34 rfl (lv_at hl 0 rfl) ?_
      refine va_get (D := D) (ci := iMD) (v := .int (x 1)) (C := R_MD) (T := F_MD) (N := 23) hx hb (fl_MD hg) (fun _ h9 => h9) hown hK hP 0 (hM.1) rfl 2 (by decide) (hg _ k_558) (fun _ h9 => h9) rfl d_MD_sign_35 ?_
      refine lv_iload_n hx hb d_MD_sign_38 rfl (lv_at hl 1 rfl) ?_
      refine gx_is (f := A 1) hx hb hK hP hD hS 1 0 (hM.2.1 1 (by decide) (by decide)) rfl n (hx1) (hlt) (by decide) d_MD_sign_39 (fun H locs hP hD hS => ?_)
      obtain ⟨w_2, ew_2⟩ : ∃ y : va_W, y = w_1.set 1 (μ 1, .inl (cI, md_n 1, .inl (upd (A 1) n p0))) := ⟨_, rfl⟩
      replace hP : va_P D classes w_2 H := by rw [ew_2]; exact hP
      replace hD : va_D (va_A ws sz) w_2 := by rw [ew_2]; exact hD
      replace hM : md_I cI cJ cZ w_2 μ (upd x 0 0) (cb_upr A 1 (upd (A 1) n p0)) B := by rw [ew_2]; exact md_I.int (by decide) (by decide) hM
      refine lv_aload_n hx hb d_MD_sign_40 rfl (lv_at hl 0 rfl) ?_
      refine lv_dup hx hb d_MD_sign_41 rfl ?_
      refine va_get (D := D) (ci := iMD) (v := .int (x 1)) (C := R_MD) (T := F_MD) (N := 23) hx hb (fl_MD hg) (fun _ h9 => h9) hown hK hP 0 (hM.1) rfl 2 (by decide) (hg _ k_558) (fun _ h9 => h9) rfl d_MD_sign_42 ?_
      refine lv_iconst (v := 1) hx hb d_MD_sign_45 (by decide) ?_
      refine lv_iadd hx hb d_MD_sign_46 ?_
      refine va_put (D := D) (ci := iMD) (v := .int ((x 1) + 1)) (ty := .int) (C := R_MD) (T := F_MD) (N := 23) hx hb (fl_MD hg) (fun _ h9 => h9) t_MD t_MD_ok n_MD hown hK hP hD hS 0 (hM.1) rfl 2 (by decide) (hg _ k_558) (fun _ h9 => h9) rfl (by decide +kernel) rfl rfl (Nat.le_of_ble_eq_true rfl) d_MD_sign_47 (fun H locs hP hD hS => ?_)
      obtain ⟨w_3, ew_3⟩ : ∃ y : va_W, y = w_2.set 0 (μ 0, .inr (iMD, md_o μ (upd (upd x 0 0) 1 ((x 1) + 1)))) := ⟨_, rfl⟩
      replace hP : va_P D classes w_3 H := by rw [ew_3]; exact hP
      replace hD : va_D (va_A ws sz) w_3 := by rw [ew_3]; exact hD
      replace hM : md_I cI cJ cZ w_3 μ (upd (upd x 0 0) 1 ((x 1) + 1)) (cb_upr A 1 (upd (A 1) n p0)) B := by rw [ew_3]; exact md_I.obj (x := (upd x 0 0)) (x' := upd (upd x 0 0) 1 ((x 1) + 1)) hM
      refine lv_iconst (v := 1) hx hb d_MD_sign_50 (by decide) ?_
      exact gx_iret hx hb hr hlocks rfl hS hP hD (by decide) (by decide) d_MD_sign_51 (Or.inr ⟨rfl, hlo, hhi, hlt, hM⟩)
    · skip
      have hfull : n = 120 := gx_eqn (b := 120) (hx1.symm.trans c_25)
      refine lv_iconst (v := 0) hx hb d_MD_sign_28 (by decide) ?_
      exact gx_iret hx hb hr hlocks rfl hS hP hD (by decide) (by decide) d_MD_sign_29 (Or.inl ⟨rfl, Or.inr (Or.inr hfull), hM⟩)
  · skip
    have hbad := md_bad (p := p0) (lo := 33) (hi := 126) hib
    refine lv_if_eq (tgt := 28) hx hb d_MD_sign_16 (by decide) (fun c_16 => ?_) (fun c_16 => absurd c_16 (by decide))
    refine lv_iconst (v := 0) hx hb d_MD_sign_28 (by decide) ?_
    exact gx_iret hx hb hr hlocks rfl hS hP hD (by decide) (by decide) d_MD_sign_29 (Or.inl ⟨rfl, hbad.elim Or.inl (fun q => Or.inr (Or.inl q)), hM⟩)

