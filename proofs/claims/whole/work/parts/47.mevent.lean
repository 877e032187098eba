set_option maxRecDepth 100000 in
set_option maxHeartbeats 4000000 in
theorem c_MD_event {l : Launch} {s0 : State} {D : va_G} {cI cC cJ cII cO cZ : ClassId} (F : FX l s0 D cI cC cJ cII cO cZ) {ws : va_W} {μ : Nat → Nat} {x : Nat → Int32} {A : Nat → Nat → Int32} {B : Nat → Nat → Int64} (hM : md_I cI cJ cZ ws μ x A B) (sz : Nat) (nw : Nat) (hnw : nw ≤ 100) (hx4 : x 4 = nI nw) (p0 p1 p2 : Int32)  : Met l y_MD_event [.code y_MD_event b_MD_event 4 (some .int)] { frames := 1, cells := 0, slots := 0, locals := 40 } (gx_P s0 D classes ws sz [.ref (μ 0), .int p0, .int p1, .int p2]) (va_Qi (fun r w1 => (((p0 < 0 ∨ nI 10 ≤ p0) ∨ (p1 < 0 ∨ nI 6 ≤ p1) ∨ (p2 < 1 ∨ 50000 < p2)) ∧ md_I cI cJ cZ w1 μ (upd x 0 1) A B) ∨ (∃ k9 j9, k9 < 10 ∧ j9 < 6 ∧ p0 = nI k9 ∧ p1 = nI j9 ∧ ¬ p2 < 1 ∧ ¬ 50000 < p2 ∧ nw = 100 ∧ md_I cI cJ cZ w1 μ (upd x 0 2) A B) ∨ (∃ k9 j9, k9 < 10 ∧ j9 < 6 ∧ p0 = nI k9 ∧ p1 = nI j9 ∧ ¬ p2 < 1 ∧ ¬ 50000 < p2 ∧ nw < 100 ∧ r = md_ev p2 (fx_unit j9) ∧ md_I cI cJ cZ w1 μ (upd (upd x 0 0) 4 (x 4 + 1)) (cb_upr (cb_upr (cb_upr A 3 (upd (A 3) nw (nI k9))) 4 (upd (A 4) nw (nI j9))) 5 (upd (A 5) nw (md_ev p2 (fx_unit j9)))) B)) (gx_B D classes ws sz) (va_A ws sz)) 0 0 (va_A ws sz) := by
  refine gx_met (by decide +kernel) (Nat.le_of_ble_eq_true rfl) ?_
  intro p e s m below meth c ls hx hb hr hml hown hlocks hnm hsz hV hP hD hS hA hA0 hl
  have hg := fx_g F hV ([.ref (μ 0), .int p0, .int p1, .int p2] : List Value).toArray
  have hK := fx_k F hV
  have hn9 := fx_n F hV
  have hl : lv_has ls 4 [(0, .ref (μ 0)), (1, .int p0), (2, .int p1), (3, .int p2)] := hl
  refine lv_iload_n hx hb d_MD_event_0 rfl (lv_at hl 1 rfl) ?_
  refine gx_readi (va_runS (As := [.int p0]) (rest := []) ⟨hx, hb, hml, hown, gx_nil⟩ (c_MD_isCall F _ _ _) ⟨gx_cb (hg _ k_669) (hg _ k_7) (hg _ k_667) nd_MD_isCall ⟨by decide, by decide⟩, hg _ k_668⟩ (gx_preS hV hP hD hS hA0) rfl rfl hl.1 rfl (lv_room (Nat.le_of_ble_eq_true rfl)) d_MD_event_1 ⟨by decide, by decide⟩) (fun r_1 h_1 => ?_)
  rcases h_1 with ⟨rfl, k, hk, rfl⟩ | ⟨rfl, hbad⟩
  · skip
    refine lv_if_eq (tgt := 26) hx hb d_MD_event_4 (by decide) (fun c_4 => absurd c_4 (by decide)) (fun c_4 => ?_)
    refine lv_iload_n hx hb d_MD_event_7 rfl (lv_at hl 2 rfl) ?_
    refine gx_readi (va_runS (As := [.int p1]) (rest := []) ⟨hx, hb, hml, hown, gx_nil⟩ (c_MD_isKind F _ _ _) ⟨gx_cb (hg _ k_657) (hg _ k_7) (hg _ k_655) nd_MD_isKind ⟨by decide, by decide⟩, hg _ k_656⟩ (gx_preS hV hP hD hS hA0) rfl rfl hl.1 rfl (lv_room (Nat.le_of_ble_eq_true rfl)) d_MD_event_8 ⟨by decide, by decide⟩) (fun r_8 h_8 => ?_)
    rcases h_8 with ⟨rfl, j, hj, rfl⟩ | ⟨rfl, hbad⟩
    · skip
      refine lv_if_eq (tgt := 26) hx hb d_MD_event_11 (by decide) (fun c_11 => absurd c_11 (by decide)) (fun c_11 => ?_)
      refine lv_iload_n hx hb d_MD_event_14 rfl (lv_at hl 3 rfl) ?_
      refine lv_i2l (v := p2.toInt64) hx hb d_MD_event_15 (rfl) ?_
      refine lv_lconst (v := 1) hx hb d_MD_event_16 (by decide) ?_
      refine lv_ldc2 (v := 50000) hx hb hown (hg _ k_670) d_MD_event_17 ?_
      refine gx_readi (va_runS (As := [.long p2.toInt64, .long (1 : Int64), .long (50000 : Int64)]) (rest := []) ⟨hx, hb, hml, hown, gx_nil⟩ (c_MD_in F _ _ _ _ _) ⟨gx_cb (hg _ k_639) (hg _ k_7) (hg _ k_637) nd_MD_in ⟨by decide, by decide⟩, hg _ k_638⟩ (gx_preS hV hP hD hS hA0) rfl rfl hl.1 rfl (lv_room (Nat.le_of_ble_eq_true rfl)) d_MD_event_20 ⟨by decide, by decide⟩) (fun r_20 h_20 => ?_)
      rcases h_20 with ⟨rfl, hi1, hi2⟩ | ⟨rfl, hib⟩
      · skip
        obtain ⟨hlo, hhi⟩ := md_good (p := p2) (lo := 1) (hi := 50000) hi1 hi2
        refine lv_if_ne (tgt := 32) hx hb d_MD_event_23 (by decide) (fun c_23 => ?_) (fun c_23 => absurd c_23 (by decide))
        refine lv_aload_n hx hb d_MD_event_32 rfl (lv_at hl 0 rfl) ?_
        refine va_get (D := D) (ci := iMD) (v := .int (x 4)) (C := R_MD) (T := F_MD) (N := 23) hx hb (fl_MD hg) (fun _ h9 => h9) hown hK hP 0 (hM.1) rfl 6 (by decide) (hg _ k_562) (fun _ h9 => h9) rfl d_MD_event_33 ?_
        refine lv_bipush (v := 100) hx hb d_MD_event_36 (by decide) ?_
        refine lv_icmp_ne (tgt := 47) hx hb d_MD_event_38 (by decide) (fun c_38 => ?_) (fun c_38 => ?_)
        · skip
          have hnw2 : nw < 100 := by
            rcases Nat.lt_or_ge nw 100 with z | z
            · exact z
            · exact absurd (show x 4 = 100 by rw [hx4, show nw = 100 by omega]; rfl) c_38
          refine lv_aload_n hx hb d_MD_event_47 rfl (lv_at hl 0 rfl) ?_
          refine lv_iconst (v := 0) hx hb d_MD_event_48 (by decide) ?_
          refine va_put (D := D) (ci := iMD) (v := .int 0) (ty := .int) (C := R_MD) (T := F_MD) (N := 23) hx hb (fl_MD hg) (fun _ h9 => h9) t_MD t_MD_ok n_MD hown hK hP hD hS 0 (hM.1) rfl 0 (by decide) (hg _ k_556) (fun _ h9 => h9) rfl (by decide +kernel) rfl rfl (Nat.le_of_ble_eq_true rfl) d_MD_event_49 (fun H locs hP hD hS => ?_)
          obtain ⟨w_1, ew_1⟩ : ∃ y : va_W, y = ws.set 0 (μ 0, .inr (iMD, md_o μ (upd x 0 0))) := ⟨_, rfl⟩
          replace hP : va_P D classes w_1 H := by rw [ew_1]; exact hP
          replace hD : va_D (va_A ws sz) w_1 := by rw [ew_1]; exact hD
          replace hM : md_I cI cJ cZ w_1 μ (upd x 0 0) A B := by rw [ew_1]; exact md_I.obj (x := x) (x' := upd x 0 0) hM
          refine lv_aload_n hx hb d_MD_event_52 rfl (lv_at hl 0 rfl) ?_
          refine va_get (D := D) (ci := iMD) (v := .ref (μ 3)) (C := R_MD) (T := F_MD) (N := 23) hx hb (fl_MD hg) (fun _ h9 => h9) hown hK hP 0 (hM.1) rfl 7 (by decide) (hg _ k_563) (fun _ h9 => h9) rfl d_MD_event_53 ?_
          refine lv_aload_n hx hb d_MD_event_56 rfl (lv_at hl 0 rfl) ?_
          refine va_get (D := D) (ci := iMD) (v := .int (x 4)) (C := R_MD) (T := F_MD) (N := 23) hx hb (fl_MD hg) (fun _ h9 => h9) hown hK hP 0 (hM.1) rfl 6 (by decide) (hg _ k_562) (fun _ h9 => h9) rfl d_MD_event_57 ?_
          refine lv_iload_n hx hb d_MD_event_60 rfl (lv_at hl 1 rfl) ?_
          refine gx_is (f := A 3) hx hb hK hP hD hS 3 0 (hM.2.1 3 (by decide) (by decide)) rfl nw (hx4) (show nw < 100 by omega) (by decide) d_MD_event_61 (fun H locs hP hD hS => ?_)
          obtain ⟨w_2, ew_2⟩ : ∃ y : va_W, y = w_1.set 3 (μ 3, .inl (cI, md_n 3, .inl (upd (A 3) nw (nI k)))) := ⟨_, rfl⟩
          replace hP : va_P D classes w_2 H := by rw [ew_2]; exact hP
          replace hD : va_D (va_A ws sz) w_2 := by rw [ew_2]; exact hD
          replace hM : md_I cI cJ cZ w_2 μ (upd x 0 0) (cb_upr A 3 (upd (A 3) nw (nI k))) B := by rw [ew_2]; exact md_I.int (by decide) (by decide) hM
          refine lv_aload_n hx hb d_MD_event_62 rfl (lv_at hl 0 rfl) ?_
          refine va_get (D := D) (ci := iMD) (v := .ref (μ 4)) (C := R_MD) (T := F_MD) (N := 23) hx hb (fl_MD hg) (fun _ h9 => h9) hown hK hP 0 (hM.1) rfl 8 (by decide) (hg _ k_564) (fun _ h9 => h9) rfl d_MD_event_63 ?_
          refine lv_aload_n hx hb d_MD_event_66 rfl (lv_at hl 0 rfl) ?_
          refine va_get (D := D) (ci := iMD) (v := .int (x 4)) (C := R_MD) (T := F_MD) (N := 23) hx hb (fl_MD hg) (fun _ h9 => h9) hown hK hP 0 (hM.1) rfl 6 (by decide) (hg _ k_562) (fun _ h9 => h9) rfl d_MD_event_67 ?_
          refine lv_iload_n hx hb d_MD_event_70 rfl (lv_at hl 2 rfl) ?_
          refine gx_is (f := A 4) hx hb hK hP hD hS 4 0 (hM.2.1 4 (by decide) (by decide)) rfl nw (hx4) (show nw < 100 by omega) (by decide) d_MD_event_71 (fun H locs hP hD hS => ?_)
          obtain ⟨w_3, ew_3⟩ : ∃ y : va_W, y = w_2.set 4 (μ 4, .inl (cI, md_n 4, .inl (upd (A 4) nw (nI j)))) := ⟨_, rfl⟩
          replace hP : va_P D classes w_3 H := by rw [ew_3]; exact hP
          replace hD : va_D (va_A ws sz) w_3 := by rw [ew_3]; exact hD
          replace hM : md_I cI cJ cZ w_3 μ (upd x 0 0) (cb_upr (cb_upr A 3 (upd (A 3) nw (nI k))) 4 (upd (A 4) nw (nI j))) B := by rw [ew_3]; exact md_I.int (by decide) (by decide) hM
          refine lv_aload_n hx hb d_MD_event_72 rfl (lv_at hl 0 rfl) ?_
          refine va_get (D := D) (ci := iMD) (v := .ref (μ 5)) (C := R_MD) (T := F_MD) (N := 23) hx hb (fl_MD hg) (fun _ h9 => h9) hown hK hP 0 (hM.1) rfl 9 (by decide) (hg _ k_565) (fun _ h9 => h9) rfl d_MD_event_73 ?_
          refine lv_aload_n hx hb d_MD_event_76 rfl (lv_at hl 0 rfl) ?_
          refine va_get (D := D) (ci := iMD) (v := .int (x 4)) (C := R_MD) (T := F_MD) (N := 23) hx hb (fl_MD hg) (fun _ h9 => h9) hown hK hP 0 (hM.1) rfl 6 (by decide) (hg _ k_562) (fun _ h9 => h9) rfl d_MD_event_77 ?_
          refine lv_iload_n hx hb d_MD_event_80 rfl (lv_at hl 3 rfl) ?_
          refine lv_iload_n hx hb d_MD_event_81 rfl (lv_at hl 2 rfl) ?_
          refine gx_readi (va_runS (As := [.int (nI j)]) (rest := [.int p2, .int (x 4), .ref (μ 5)]) ⟨hx, hb, hml, hown, gx_nil⟩ (c_MD_unitOf F _ _ j hj) ⟨gx_cb (hg _ k_673) (hg _ k_7) (hg _ k_671) nd_MD_unitOf ⟨by decide, by decide⟩, hg _ k_672⟩ (gx_preS hV hP hD hS hA0) rfl rfl hl.1 rfl (lv_room (Nat.le_of_ble_eq_true rfl)) d_MD_event_82 ⟨by decide, by decide⟩) (fun r_82 h_82 => ?_)
          subst h_82
          refine lv_idiv hx hb d_MD_event_85 (fx_unit_ne j hj) ?_
          refine lv_iload_n hx hb d_MD_event_86 rfl (lv_at hl 3 rfl) ?_
          refine lv_iload_n hx hb d_MD_event_87 rfl (lv_at hl 2 rfl) ?_
          refine gx_readi (va_runS (As := [.int (nI j)]) (rest := [.int p2, .int (p2 / (fx_unit j)), .int (x 4), .ref (μ 5)]) ⟨hx, hb, hml, hown, gx_nil⟩ (c_MD_unitOf F _ _ j hj) ⟨gx_cb (hg _ k_673) (hg _ k_7) (hg _ k_671) nd_MD_unitOf ⟨by decide, by decide⟩, hg _ k_672⟩ (gx_preS hV hP hD hS hA0) rfl rfl hl.1 rfl (lv_room (Nat.le_of_ble_eq_true rfl)) d_MD_event_88 ⟨by decide, by decide⟩) (fun r_88 h_88 => ?_)
          subst h_88
          refine lv_irem hx hb d_MD_event_91 (fx_unit_ne j hj) ?_
          refine lv_if_le (tgt := 99) hx hb d_MD_event_92 (by decide) (fun c_92 => ?_) (fun c_92 => ?_)
          · skip
            refine lv_iconst (v := 0) hx hb d_MD_event_99 (by decide) ?_
            refine lv_iadd hx hb d_MD_event_100 ?_
            rw [show p2 / fx_unit j + 0 = md_ev p2 (fx_unit j) from congrArg (p2 / fx_unit j + ·) (if_pos c_92).symm]
            refine gx_is (f := A 5) hx hb hK hP hD hS 5 0 (hM.2.1 5 (by decide) (by decide)) rfl nw (hx4) (show nw < 100 by omega) (by decide) d_MD_event_101 (fun H locs hP hD hS => ?_)
            obtain ⟨w_4, ew_4⟩ : ∃ y : va_W, y = w_3.set 5 (μ 5, .inl (cI, md_n 5, .inl (upd (A 5) nw (md_ev p2 (fx_unit j))))) := ⟨_, rfl⟩
            replace hP : va_P D classes w_4 H := by rw [ew_4]; exact hP
            replace hD : va_D (va_A ws sz) w_4 := by rw [ew_4]; exact hD
            replace hM : md_I cI cJ cZ w_4 μ (upd x 0 0) (cb_upr (cb_upr (cb_upr A 3 (upd (A 3) nw (nI k))) 4 (upd (A 4) nw (nI j))) 5 (upd (A 5) nw (md_ev p2 (fx_unit j)))) B := by rw [ew_4]; exact md_I.int (by decide) (by decide) hM
            refine lv_aload_n hx hb d_MD_event_102 rfl (lv_at hl 0 rfl) ?_
            refine lv_dup hx hb d_MD_event_103 rfl ?_
            refine va_get (D := D) (ci := iMD) (v := .int (x 4)) (C := R_MD) (T := F_MD) (N := 23) hx hb (fl_MD hg) (fun _ h9 => h9) hown hK hP 0 (hM.1) rfl 6 (by decide) (hg _ k_562) (fun _ h9 => h9) rfl d_MD_event_104 ?_
            refine lv_iconst (v := 1) hx hb d_MD_event_107 (by decide) ?_
            refine lv_iadd hx hb d_MD_event_108 ?_
            refine va_put (D := D) (ci := iMD) (v := .int ((x 4) + 1)) (ty := .int) (C := R_MD) (T := F_MD) (N := 23) hx hb (fl_MD hg) (fun _ h9 => h9) t_MD t_MD_ok n_MD hown hK hP hD hS 0 (hM.1) rfl 6 (by decide) (hg _ k_562) (fun _ h9 => h9) rfl (by decide +kernel) rfl rfl (Nat.le_of_ble_eq_true rfl) d_MD_event_109 (fun H locs hP hD hS => ?_)
            obtain ⟨w_5, ew_5⟩ : ∃ y : va_W, y = w_4.set 0 (μ 0, .inr (iMD, md_o μ (upd (upd x 0 0) 4 ((x 4) + 1)))) := ⟨_, rfl⟩
            replace hP : va_P D classes w_5 H := by rw [ew_5]; exact hP
            replace hD : va_D (va_A ws sz) w_5 := by rw [ew_5]; exact hD
            replace hM : md_I cI cJ cZ w_5 μ (upd (upd x 0 0) 4 ((x 4) + 1)) (cb_upr (cb_upr (cb_upr A 3 (upd (A 3) nw (nI k))) 4 (upd (A 4) nw (nI j))) 5 (upd (A 5) nw (md_ev p2 (fx_unit j)))) B := by rw [ew_5]; exact md_I.obj (x := (upd x 0 0)) (x' := upd (upd x 0 0) 4 ((x 4) + 1)) hM
            refine lv_aload_n hx hb d_MD_event_112 rfl (lv_at hl 0 rfl) ?_
            refine va_get (D := D) (ci := iMD) (v := .ref (μ 5)) (C := R_MD) (T := F_MD) (N := 23) hx hb (fl_MD hg) (fun _ h9 => h9) hown hK hP 0 (hM.1) rfl 9 (by decide) (hg _ k_565) (fun _ h9 => h9) rfl d_MD_event_113 ?_
            refine lv_aload_n hx hb d_MD_event_116 rfl (lv_at hl 0 rfl) ?_
            refine va_get (D := D) (ci := iMD) (v := .int ((x 4) + 1)) (C := R_MD) (T := F_MD) (N := 23) hx hb (fl_MD hg) (fun _ h9 => h9) hown hK hP 0 (hM.1) rfl 6 (by decide) (hg _ k_562) (fun _ h9 => h9) rfl d_MD_event_117 ?_
            refine lv_iconst (v := 1) hx hb d_MD_event_120 (by decide) ?_
            refine lv_isub hx hb d_MD_event_121 ?_
            refine gx_il (f := upd (A 5) nw (md_ev p2 (fx_unit j))) hx hb hK hP 5 0 (hM.2.1 5 (by decide) (by decide)) rfl nw (by rw [hx4, nI_1]; exact nI_pred nw) (show nw < 100 by omega) (by decide) d_MD_event_122 ?_
            exact gx_iret hx hb hr hlocks rfl hS hP hD (by decide) (by decide) d_MD_event_123 (Or.inr (Or.inr ⟨k, j, hk, hj, rfl, rfl, hlo, hhi, hnw2, if_pos rfl, hM⟩))
          · skip
            refine lv_iconst (v := 1) hx hb d_MD_event_95 (by decide) ?_
            refine lv_goto (tgt := 100) hx hb d_MD_event_96 (by decide) ?_
            refine lv_iadd hx hb d_MD_event_100 ?_
            rw [show p2 / fx_unit j + 1 = md_ev p2 (fx_unit j) from congrArg (p2 / fx_unit j + ·) (if_neg c_92).symm]
            refine gx_is (f := A 5) hx hb hK hP hD hS 5 0 (hM.2.1 5 (by decide) (by decide)) rfl nw (hx4) (show nw < 100 by omega) (by decide) d_MD_event_101 (fun H locs hP hD hS => ?_)
            obtain ⟨w_6, ew_6⟩ : ∃ y : va_W, y = w_3.set 5 (μ 5, .inl (cI, md_n 5, .inl (upd (A 5) nw (md_ev p2 (fx_unit j))))) := ⟨_, rfl⟩
            replace hP : va_P D classes w_6 H := by rw [ew_6]; exact hP
            replace hD : va_D (va_A ws sz) w_6 := by rw [ew_6]; exact hD
            replace hM : md_I cI cJ cZ w_6 μ (upd x 0 0) (cb_upr (cb_upr (cb_upr A 3 (upd (A 3) nw (nI k))) 4 (upd (A 4) nw (nI j))) 5 (upd (A 5) nw (md_ev p2 (fx_unit j)))) B := by rw [ew_6]; exact md_I.int (by decide) (by decide) hM
            refine lv_aload_n hx hb d_MD_event_102 rfl (lv_at hl 0 rfl) ?_
            refine lv_dup hx hb d_MD_event_103 rfl ?_
            refine va_get (D := D) (ci := iMD) (v := .int (x 4)) (C := R_MD) (T := F_MD) (N := 23) hx hb (fl_MD hg) (fun _ h9 => h9) hown hK hP 0 (hM.1) rfl 6 (by decide) (hg _ k_562) (fun _ h9 => h9) rfl d_MD_event_104 ?_
            refine lv_iconst (v := 1) hx hb d_MD_event_107 (by decide) ?_
            refine lv_iadd hx hb d_MD_event_108 ?_
            refine va_put (D := D) (ci := iMD) (v := .int ((x 4) + 1)) (ty := .int) (C := R_MD) (T := F_MD) (N := 23) hx hb (fl_MD hg) (fun _ h9 => h9) t_MD t_MD_ok n_MD hown hK hP hD hS 0 (hM.1) rfl 6 (by decide) (hg _ k_562) (fun _ h9 => h9) rfl (by decide +kernel) rfl rfl (Nat.le_of_ble_eq_true rfl) d_MD_event_109 (fun H locs hP hD hS => ?_)
            obtain ⟨w_7, ew_7⟩ : ∃ y : va_W, y = w_6.set 0 (μ 0, .inr (iMD, md_o μ (upd (upd x 0 0) 4 ((x 4) + 1)))) := ⟨_, rfl⟩
            replace hP : va_P D classes w_7 H := by rw [ew_7]; exact hP
            replace hD : va_D (va_A ws sz) w_7 := by rw [ew_7]; exact hD
            replace hM : md_I cI cJ cZ w_7 μ (upd (upd x 0 0) 4 ((x 4) + 1)) (cb_upr (cb_upr (cb_upr A 3 (upd (A 3) nw (nI k))) 4 (upd (A 4) nw (nI j))) 5 (upd (A 5) nw (md_ev p2 (fx_unit j)))) B := by rw [ew_7]; exact md_I.obj (x := (upd x 0 0)) (x' := upd (upd x 0 0) 4 ((x 4) + 1)) hM
            refine lv_aload_n hx hb d_MD_event_112 rfl (lv_at hl 0 rfl) ?_
            refine va_get (D := D) (ci := iMD) (v := .ref (μ 5)) (C := R_MD) (T := F_MD) (N := 23) hx hb (fl_MD hg) (fun _ h9 => h9) hown hK hP 0 (hM.1) rfl 9 (by decide) (hg _ k_565) (fun _ h9 => h9) rfl d_MD_event_113 ?_
            refine lv_aload_n hx hb d_MD_event_116 rfl (lv_at hl 0 rfl) ?_
            refine va_get (D := D) (ci := iMD) (v := .int ((x 4) + 1)) (C := R_MD) (T := F_MD) (N := 23) hx hb (fl_MD hg) (fun _ h9 => h9) hown hK hP 0 (hM.1) rfl 6 (by decide) (hg _ k_562) (fun _ h9 => h9) rfl d_MD_event_117 ?_
            refine lv_iconst (v := 1) hx hb d_MD_event_120 (by decide) ?_
            refine lv_isub hx hb d_MD_event_121 ?_
            refine gx_il (f := upd (A 5) nw (md_ev p2 (fx_unit j))) hx hb hK hP 5 0 (hM.2.1 5 (by decide) (by decide)) rfl nw (by rw [hx4, nI_1]; exact nI_pred nw) (show nw < 100 by omega) (by decide) d_MD_event_122 ?_
            exact gx_iret hx hb hr hlocks rfl hS hP hD (by decide) (by decide) d_MD_event_123 (Or.inr (Or.inr ⟨k, j, hk, hj, rfl, rfl, hlo, hhi, hnw2, if_pos rfl, hM⟩))
        · skip
          have hfull : nw = 100 := gx_eqn (b := 100) (hx4.symm.trans c_38)
          refine lv_aload_n hx hb d_MD_event_41 rfl (lv_at hl 0 rfl) ?_
          refine lv_iconst (v := 2) hx hb d_MD_event_42 (by decide) ?_
          refine gx_calli (va_runV (As := [.int 2]) (rest := []) ⟨hx, hb, hml, hown, gx_nil⟩ (c_MD_fails F hM _ _) ⟨gx_cb (hg _ k_662) (hg _ k_7) (hg _ k_659) nd_MD_fails ⟨by decide, by decide⟩, hg _ k_661, hg _ ks_22⟩ (gx_preV hV hP hD hS hA0 (va_recv hK hP rfl (hM.1))) rfl rfl hl.1 rfl (lv_room (Nat.le_of_ble_eq_true rfl)) d_MD_event_43 ⟨by decide, by decide⟩) hD hS hA (fun r_43 w1 H locs h_43 hP hD hS => ?_)
          obtain ⟨hr0, hM⟩ := h_43
          subst hr0
          exact gx_iret hx hb hr hlocks rfl hS hP hD (by decide) (by decide) d_MD_event_46 (Or.inr (Or.inl ⟨k, j, hk, hj, rfl, rfl, hlo, hhi, hfull, hM⟩))
      · skip
        have hbad := md_bad (p := p2) (lo := 1) (hi := 50000) hib
        refine lv_if_ne (tgt := 32) hx hb d_MD_event_23 (by decide) (fun c_23 => absurd c_23 (by decide)) (fun c_23 => ?_)
        refine lv_aload_n hx hb d_MD_event_26 rfl (lv_at hl 0 rfl) ?_
        refine lv_iconst (v := 1) hx hb d_MD_event_27 (by decide) ?_
        refine gx_calli (va_runV (As := [.int 1]) (rest := []) ⟨hx, hb, hml, hown, gx_nil⟩ (c_MD_fails F hM _ _) ⟨gx_cb (hg _ k_662) (hg _ k_7) (hg _ k_659) nd_MD_fails ⟨by decide, by decide⟩, hg _ k_661, hg _ ks_22⟩ (gx_preV hV hP hD hS hA0 (va_recv hK hP rfl (hM.1))) rfl rfl hl.1 rfl (lv_room (Nat.le_of_ble_eq_true rfl)) d_MD_event_28 ⟨by decide, by decide⟩) hD hS hA (fun r_28 w1 H locs h_28 hP hD hS => ?_)
        obtain ⟨hr0, hM⟩ := h_28
        subst hr0
        exact gx_iret hx hb hr hlocks rfl hS hP hD (by decide) (by decide) d_MD_event_31 (Or.inl ⟨Or.inr (Or.inr hbad), hM⟩)
    · skip
      refine lv_if_eq (tgt := 26) hx hb d_MD_event_11 (by decide) (fun c_11 => ?_) (fun c_11 => absurd c_11 (by decide))
      refine lv_aload_n hx hb d_MD_event_26 rfl (lv_at hl 0 rfl) ?_
      refine lv_iconst (v := 1) hx hb d_MD_event_27 (by decide) ?_
      refine gx_calli (va_runV (As := [.int 1]) (rest := []) ⟨hx, hb, hml, hown, gx_nil⟩ (c_MD_fails F hM _ _) ⟨gx_cb (hg _ k_662) (hg _ k_7) (hg _ k_659) nd_MD_fails ⟨by decide, by decide⟩, hg _ k_661, hg _ ks_22⟩ (gx_preV hV hP hD hS hA0 (va_recv hK hP rfl (hM.1))) rfl rfl hl.1 rfl (lv_room (Nat.le_of_ble_eq_true rfl)) d_MD_event_28 ⟨by decide, by decide⟩) hD hS hA (fun r_28 w1 H locs h_28 hP hD hS => ?_)
      obtain ⟨hr0, hM⟩ := h_28
      subst hr0
      exact gx_iret hx hb hr hlocks rfl hS hP hD (by decide) (by decide) d_MD_event_31 (Or.inl ⟨Or.inr (Or.inl hbad), hM⟩)
  · skip
    refine lv_if_eq (tgt := 26) hx hb d_MD_event_4 (by decide) (fun c_4 => ?_) (fun c_4 => absurd c_4 (by decide))
    refine lv_aload_n hx hb d_MD_event_26 rfl (lv_at hl 0 rfl) ?_
    refine lv_iconst (v := 1) hx hb d_MD_event_27 (by decide) ?_
    refine gx_calli (va_runV (As := [.int 1]) (rest := []) ⟨hx, hb, hml, hown, gx_nil⟩ (c_MD_fails F hM _ _) ⟨gx_cb (hg _ k_662) (hg _ k_7) (hg _ k_659) nd_MD_fails ⟨by decide, by decide⟩, hg _ k_661, hg _ ks_22⟩ (gx_preV hV hP hD hS hA0 (va_recv hK hP rfl (hM.1))) rfl rfl hl.1 rfl (lv_room (Nat.le_of_ble_eq_true rfl)) d_MD_event_28 ⟨by decide, by decide⟩) hD hS hA (fun r_28 w1 H locs h_28 hP hD hS => ?_)
    obtain ⟨hr0, hM⟩ := h_28
    subst hr0
    exact gx_iret hx hb hr hlocks rfl hS hP hD (by decide) (by decide) d_MD_event_31 (Or.inl ⟨Or.inl hbad, hM⟩)

