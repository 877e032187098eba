set_option maxRecDepth 100000 in
set_option maxHeartbeats 4000000 in
theorem c_MD_line {l : Launch} {s0 : State} {D : va_G} {cI cC cJ cII cO cZ : ClassId} (F : FX l s0 D cI cC cJ cII cO cZ) {ws : va_W} {μ : Nat → Nat} {x : Nat → Int32} {A : Nat → Nat → Int32} {B : Nat → Nat → Int64} (hM : md_I cI cJ cZ ws μ x A B) (sz : Nat) (nl : Nat) (hnl : nl ≤ 200) (hx5 : x 5 = nI nl) (hcr : md_cr A nl) (hbo : ∀ q, A 16 q = 0 ∨ A 16 q = 1) (p0 p1 : Int32)  : Met l y_MD_line [.code y_MD_line b_MD_line 3 (some .long)] { frames := 1, cells := 0, slots := 0, locals := 40 } (gx_P s0 D classes ws sz [.ref (μ 0), .int p0, .int p1]) (va_Ql (fun r w1 => (((p0 < 0 ∨ nI nl ≤ p0) ∨ (p1 < 0 ∨ nI 9 ≤ p1)) ∧ md_I cI cJ cZ w1 μ (upd x 0 1) A B) ∨ (∃ j9 w9, j9 < nl ∧ w9 < 9 ∧ p0 = nI j9 ∧ p1 = nI w9 ∧ r = md_pt A B j9 nl w9 ∧ md_I cI cJ cZ w1 μ (upd x 0 0) A B)) (gx_B D classes ws sz) (va_A ws sz)) 0 0 (va_A ws sz) := by
  refine gx_met (by decide +kernel) (Nat.le_of_ble_eq_true rfl) ?_
  intro p e s m below meth c ls hx hb hr hml hown hlocks hnm hsz hV hP hD hS hA hA0 hl
  have hg := fx_g F hV ([.ref (μ 0), .int p0, .int p1] : List Value).toArray
  have hK := fx_k F hV
  have hn9 := fx_n F hV
  have hl : lv_has ls 3 [(0, .ref (μ 0)), (1, .int p0), (2, .int p1)] := hl
  refine lv_aload_n hx hb d_MD_line_0 rfl (lv_at hl 0 rfl) ?_
  refine lv_iload_n hx hb d_MD_line_1 rfl (lv_at hl 1 rfl) ?_
  refine gx_readi (va_runV (As := [.int p0]) (rest := []) ⟨hx, hb, hml, hown, gx_nil⟩ (c_MD_isLine F hM _ nl hnl hx5 _) ⟨gx_cb (hg _ k_707) (hg _ k_7) (hg _ k_704) nd_MD_isLine ⟨by decide, by decide⟩, hg _ k_706, hg _ ks_27⟩ (gx_preV hV hP hD hS hA0 (va_recv hK hP rfl (hM.1))) rfl rfl hl.1 rfl (lv_room (Nat.le_of_ble_eq_true rfl)) d_MD_line_2 ⟨by decide, by decide⟩) (fun r_2 h_2 => ?_)
  rcases h_2 with ⟨rfl, j, hj, rfl⟩ | ⟨rfl, hbad⟩
  · skip
    refine lv_if_eq (tgt := 18) hx hb d_MD_line_5 (by decide) (fun c_5 => absurd c_5 (by decide)) (fun c_5 => ?_)
    refine lv_iload_n hx hb d_MD_line_8 rfl (lv_at hl 2 rfl) ?_
    refine lv_if_lt (tgt := 18) hx hb d_MD_line_9 (by decide) (fun c_9 => ?_) (fun c_9 => ?_)
    · skip
      have hbad : p1 < 0 ∨ nI 9 ≤ p1 := Or.inl c_9
      refine lv_aload_n hx hb d_MD_line_18 rfl (lv_at hl 0 rfl) ?_
      refine lv_iconst (v := 1) hx hb d_MD_line_19 (by decide) ?_
      refine gx_calli (va_runV (As := [.int 1]) (rest := []) ⟨hx, hb, hml, hown, gx_nil⟩ (c_MD_fails F hM _ _) ⟨gx_cb (hg _ k_662) (hg _ k_7) (hg _ k_659) nd_MD_fails ⟨by decide, by decide⟩, hg _ k_661, hg _ ks_22⟩ (gx_preV hV hP hD hS hA0 (va_recv hK hP rfl (hM.1))) rfl rfl hl.1 rfl (lv_room (Nat.le_of_ble_eq_true rfl)) d_MD_line_20 ⟨by decide, by decide⟩) hD hS hA (fun r_20 w1 H locs h_20 hP hD hS => ?_)
      obtain ⟨hr0, hM⟩ := h_20
      subst hr0
      refine lv_i2l (v := (0 : Int32).toInt64) hx hb d_MD_line_23 (rfl) ?_
      exact gx_lret hx hb hr hlocks hS hP hD (by decide) (by decide) d_MD_line_24 (Or.inl ⟨Or.inr hbad, hM⟩)
    · skip
      refine lv_iload_n hx hb d_MD_line_12 rfl (lv_at hl 2 rfl) ?_
      refine lv_bipush (v := 8) hx hb d_MD_line_13 (by decide) ?_
      refine lv_icmp_le (tgt := 25) hx hb d_MD_line_15 (by decide) (fun c_15 => ?_) (fun c_15 => ?_)
      · skip
        obtain ⟨q9, hq9, hqe⟩ : ∃ q, q < 9 ∧ p1 = nI q := gx_rng (by decide) c_9 (fun q => absurd (md_89 q) (Int32.not_lt.mpr c_15))
        subst hqe
        refine lv_aload_n hx hb d_MD_line_25 rfl (lv_at hl 0 rfl) ?_
        refine lv_iconst (v := 0) hx hb d_MD_line_26 (by decide) ?_
        refine va_put (D := D) (ci := iMD) (v := .int 0) (ty := .int) (C := R_MD) (T := F_MD) (N := 23) hx hb (fl_MD hg) (fun _ h9 => h9) t_MD t_MD_ok n_MD hown hK hP hD hS 0 (hM.1) rfl 0 (by decide) (hg _ k_556) (fun _ h9 => h9) rfl (by decide +kernel) rfl rfl (Nat.le_of_ble_eq_true rfl) d_MD_line_27 (fun H locs hP hD hS => ?_)
        obtain ⟨w_1, ew_1⟩ : ∃ y : va_W, y = ws.set 0 (μ 0, .inr (iMD, md_o μ (upd x 0 0))) := ⟨_, rfl⟩
        replace hP : va_P D classes w_1 H := by rw [ew_1]; exact hP
        replace hD : va_D (va_A ws sz) w_1 := by rw [ew_1]; exact hD
        replace hM : md_I cI cJ cZ w_1 μ (upd x 0 0) A B := by rw [ew_1]; exact md_I.obj (x := x) (x' := upd x 0 0) hM
        refine lv_iload_n hx hb d_MD_line_30 rfl (lv_at hl 2 rfl) ?_
        rcases (show q9 = 0 ∨ q9 = 1 ∨ q9 = 2 ∨ q9 = 3 ∨ q9 = 4 ∨ q9 = 5 ∨ q9 = 6 ∨ q9 = 7 ∨ q9 = 8 by omega) with rfl | rfl | rfl | rfl | rfl | rfl | rfl | rfl | rfl
        · skip
          refine lv_tableIn (off := 45) (tgt := 76) hx hb d_MD_line_31 (by decide) (by decide) (by decide) (by decide) ?_
          refine lv_aload_n hx hb d_MD_line_76 rfl (lv_at hl 0 rfl) ?_
          refine va_get (D := D) (ci := iMD) (v := .ref (μ 9)) (C := R_MD) (T := F_MD) (N := 23) hx hb (fl_MD hg) (fun _ h9 => h9) hown hK hP 0 (hM.1) rfl 14 (by decide) (hg _ k_570) (fun _ h9 => h9) rfl d_MD_line_77 ?_
          refine lv_iload_n hx hb d_MD_line_80 rfl (lv_at hl 1 rfl) ?_
          refine gx_il (f := A 9) hx hb hK hP 9 0 (hM.2.1 9 (by decide) (by decide)) rfl j (rfl) (show j < 200 by omega) (by decide) d_MD_line_81 ?_
          refine lv_i2l (v := ((A 9) j).toInt64) hx hb d_MD_line_82 (rfl) ?_
          exact gx_lret hx hb hr hlocks hS hP hD (by decide) (by decide) d_MD_line_83 (Or.inr ⟨j, 0, hj, by decide, rfl, rfl, rfl, hM⟩)
        · skip
          refine lv_tableIn (off := 53) (tgt := 84) hx hb d_MD_line_31 (by decide) (by decide) (by decide) (by decide) ?_
          refine lv_aload_n hx hb d_MD_line_84 rfl (lv_at hl 0 rfl) ?_
          refine va_get (D := D) (ci := iMD) (v := .ref (μ 10)) (C := R_MD) (T := F_MD) (N := 23) hx hb (fl_MD hg) (fun _ h9 => h9) hown hK hP 0 (hM.1) rfl 15 (by decide) (hg _ k_571) (fun _ h9 => h9) rfl d_MD_line_85 ?_
          refine lv_iload_n hx hb d_MD_line_88 rfl (lv_at hl 1 rfl) ?_
          refine gx_il (f := A 10) hx hb hK hP 10 0 (hM.2.1 10 (by decide) (by decide)) rfl j (rfl) (show j < 200 by omega) (by decide) d_MD_line_89 ?_
          refine lv_i2l (v := ((A 10) j).toInt64) hx hb d_MD_line_90 (rfl) ?_
          exact gx_lret hx hb hr hlocks hS hP hD (by decide) (by decide) d_MD_line_91 (Or.inr ⟨j, 1, hj, by decide, rfl, rfl, rfl, hM⟩)
        · skip
          refine lv_tableIn (off := 61) (tgt := 92) hx hb d_MD_line_31 (by decide) (by decide) (by decide) (by decide) ?_
          refine lv_aload_n hx hb d_MD_line_92 rfl (lv_at hl 0 rfl) ?_
          refine va_get (D := D) (ci := iMD) (v := .ref (μ 11)) (C := R_MD) (T := F_MD) (N := 23) hx hb (fl_MD hg) (fun _ h9 => h9) hown hK hP 0 (hM.1) rfl 16 (by decide) (hg _ k_572) (fun _ h9 => h9) rfl d_MD_line_93 ?_
          refine lv_iload_n hx hb d_MD_line_96 rfl (lv_at hl 1 rfl) ?_
          refine gx_il (f := A 11) hx hb hK hP 11 0 (hM.2.1 11 (by decide) (by decide)) rfl j (rfl) (show j < 200 by omega) (by decide) d_MD_line_97 ?_
          refine lv_i2l (v := ((A 11) j).toInt64) hx hb d_MD_line_98 (rfl) ?_
          exact gx_lret hx hb hr hlocks hS hP hD (by decide) (by decide) d_MD_line_99 (Or.inr ⟨j, 2, hj, by decide, rfl, rfl, rfl, hM⟩)
        · skip
          refine lv_tableIn (off := 69) (tgt := 100) hx hb d_MD_line_31 (by decide) (by decide) (by decide) (by decide) ?_
          refine lv_aload_n hx hb d_MD_line_100 rfl (lv_at hl 0 rfl) ?_
          refine va_get (D := D) (ci := iMD) (v := .ref (μ 12)) (C := R_MD) (T := F_MD) (N := 23) hx hb (fl_MD hg) (fun _ h9 => h9) hown hK hP 0 (hM.1) rfl 17 (by decide) (hg _ k_573) (fun _ h9 => h9) rfl d_MD_line_101 ?_
          refine lv_iload_n hx hb d_MD_line_104 rfl (lv_at hl 1 rfl) ?_
          refine gx_il (f := A 12) hx hb hK hP 12 0 (hM.2.1 12 (by decide) (by decide)) rfl j (rfl) (show j < 200 by omega) (by decide) d_MD_line_105 ?_
          refine lv_i2l (v := ((A 12) j).toInt64) hx hb d_MD_line_106 (rfl) ?_
          exact gx_lret hx hb hr hlocks hS hP hD (by decide) (by decide) d_MD_line_107 (Or.inr ⟨j, 3, hj, by decide, rfl, rfl, rfl, hM⟩)
        · skip
          refine lv_tableIn (off := 77) (tgt := 108) hx hb d_MD_line_31 (by decide) (by decide) (by decide) (by decide) ?_
          refine lv_aload_n hx hb d_MD_line_108 rfl (lv_at hl 0 rfl) ?_
          refine va_get (D := D) (ci := iMD) (v := .ref (μ 14)) (C := R_MD) (T := F_MD) (N := 23) hx hb (fl_MD hg) (fun _ h9 => h9) hown hK hP 0 (hM.1) rfl 18 (by decide) (hg _ k_574) (fun _ h9 => h9) rfl d_MD_line_109 ?_
          refine lv_iload_n hx hb d_MD_line_112 rfl (lv_at hl 1 rfl) ?_
          refine gx_ll hx hb hK hP 14 2 (hM.2.2.1 14 (by decide) (by decide)) rfl j (rfl) (show j < 200 by omega) (by decide) d_MD_line_113 ?_
          exact gx_lret hx hb hr hlocks hS hP hD (by decide) (by decide) d_MD_line_114 (Or.inr ⟨j, 4, hj, by decide, rfl, rfl, rfl, hM⟩)
        · skip
          refine lv_tableIn (off := 84) (tgt := 115) hx hb d_MD_line_31 (by decide) (by decide) (by decide) (by decide) ?_
          refine lv_aload_n hx hb d_MD_line_115 rfl (lv_at hl 0 rfl) ?_
          refine va_get (D := D) (ci := iMD) (v := .ref (μ 13)) (C := R_MD) (T := F_MD) (N := 23) hx hb (fl_MD hg) (fun _ h9 => h9) hown hK hP 0 (hM.1) rfl 19 (by decide) (hg _ k_575) (fun _ h9 => h9) rfl d_MD_line_116 ?_
          refine lv_iload_n hx hb d_MD_line_119 rfl (lv_at hl 1 rfl) ?_
          refine gx_il (f := A 13) hx hb hK hP 13 0 (hM.2.1 13 (by decide) (by decide)) rfl j (rfl) (show j < 200 by omega) (by decide) d_MD_line_120 ?_
          refine lv_i2l (v := ((A 13) j).toInt64) hx hb d_MD_line_121 (rfl) ?_
          exact gx_lret hx hb hr hlocks hS hP hD (by decide) (by decide) d_MD_line_122 (Or.inr ⟨j, 5, hj, by decide, rfl, rfl, rfl, hM⟩)
        · skip
          refine lv_tableIn (off := 92) (tgt := 123) hx hb d_MD_line_31 (by decide) (by decide) (by decide) (by decide) ?_
          refine lv_aload_n hx hb d_MD_line_123 rfl (lv_at hl 0 rfl) ?_
          refine lv_iload_n hx hb d_MD_line_124 rfl (lv_at hl 1 rfl) ?_
          refine gx_readi (va_runV (As := [.int (nI j)]) (rest := []) ⟨hx, hb, hml, hown, gx_nil⟩ (c_MD_isOut F hM _ nl hnl hcr hbo j hj) ⟨gx_cb (hg _ k_728) (hg _ k_7) (hg _ k_725) nd_MD_isOut ⟨by decide, by decide⟩, hg _ k_727, hg _ ks_30⟩ (gx_preV hV hP hD hS hA0 (va_recv hK hP rfl (hM.1))) rfl rfl hl.1 rfl (lv_room (Nat.le_of_ble_eq_true rfl)) d_MD_line_125 ⟨by decide, by decide⟩) (fun r_125 h_125 => ?_)
          subst h_125
          refine lv_if_eq (tgt := 135) hx hb d_MD_line_128 (by decide) (fun c_128 => ?_) (fun c_128 => ?_)
          · skip
            refine lv_lconst (v := 0) hx hb d_MD_line_135 (by decide) ?_
            exact gx_lret hx hb hr hlocks hS hP hD (by decide) (by decide) d_MD_line_136 (Or.inr ⟨j, 6, hj, by decide, rfl, rfl, (if_pos c_128).symm, hM⟩)
          · skip
            refine lv_lconst (v := 1) hx hb d_MD_line_131 (by decide) ?_
            refine lv_goto (tgt := 136) hx hb d_MD_line_132 (by decide) ?_
            exact gx_lret hx hb hr hlocks hS hP hD (by decide) (by decide) d_MD_line_136 (Or.inr ⟨j, 6, hj, by decide, rfl, rfl, (if_neg c_128).symm, hM⟩)
        · skip
          refine lv_tableIn (off := 106) (tgt := 137) hx hb d_MD_line_31 (by decide) (by decide) (by decide) (by decide) ?_
          refine lv_aload_n hx hb d_MD_line_137 rfl (lv_at hl 0 rfl) ?_
          refine va_get (D := D) (ci := iMD) (v := .ref (μ 17)) (C := R_MD) (T := F_MD) (N := 23) hx hb (fl_MD hg) (fun _ h9 => h9) hown hK hP 0 (hM.1) rfl 21 (by decide) (hg _ k_577) (fun _ h9 => h9) rfl d_MD_line_138 ?_
          refine lv_iload_n hx hb d_MD_line_141 rfl (lv_at hl 1 rfl) ?_
          refine gx_zl (f := A 17) hx hb hK hP 17 5 (hM.2.2.2 17 (by decide) (by decide)) rfl j (rfl) (show j < 200 by omega) (by decide) d_MD_line_142 ?_
          refine lv_if_eq (tgt := 150) hx hb d_MD_line_143 (by decide) (fun c_143 => ?_) (fun c_143 => ?_)
          · skip
            refine lv_lconst (v := 0) hx hb d_MD_line_150 (by decide) ?_
            exact gx_lret hx hb hr hlocks hS hP hD (by decide) (by decide) d_MD_line_151 (Or.inr ⟨j, 7, hj, by decide, rfl, rfl, (if_pos c_143).symm, hM⟩)
          · skip
            refine lv_lconst (v := 1) hx hb d_MD_line_146 (by decide) ?_
            refine lv_goto (tgt := 151) hx hb d_MD_line_147 (by decide) ?_
            exact gx_lret hx hb hr hlocks hS hP hD (by decide) (by decide) d_MD_line_151 (Or.inr ⟨j, 7, hj, by decide, rfl, rfl, (if_neg c_143).symm, hM⟩)
        · skip
          refine lv_tableOut (tgt := 152) hx hb d_MD_line_31 (Or.inr (by decide)) (by decide) ?_
          refine lv_aload_n hx hb d_MD_line_152 rfl (lv_at hl 0 rfl) ?_
          refine va_get (D := D) (ci := iMD) (v := .ref (μ 13)) (C := R_MD) (T := F_MD) (N := 23) hx hb (fl_MD hg) (fun _ h9 => h9) hown hK hP 0 (hM.1) rfl 19 (by decide) (hg _ k_575) (fun _ h9 => h9) rfl d_MD_line_153 ?_
          refine lv_iload_n hx hb d_MD_line_156 rfl (lv_at hl 1 rfl) ?_
          refine gx_il (f := A 13) hx hb hK hP 13 0 (hM.2.1 13 (by decide) (by decide)) rfl j (rfl) (show j < 200 by omega) (by decide) d_MD_line_157 ?_
          refine lv_iconst (v := (-1)) hx hb d_MD_line_158 (by decide) ?_
          refine lv_icmp_ne (tgt := 170) hx hb d_MD_line_159 (by decide) (fun c_159 => ?_) (fun c_159 => ?_)
          · skip
            refine lv_aload_n hx hb d_MD_line_170 rfl (lv_at hl 0 rfl) ?_
            refine va_get (D := D) (ci := iMD) (v := .ref (μ 14)) (C := R_MD) (T := F_MD) (N := 23) hx hb (fl_MD hg) (fun _ h9 => h9) hown hK hP 0 (hM.1) rfl 18 (by decide) (hg _ k_574) (fun _ h9 => h9) rfl d_MD_line_171 ?_
            refine lv_iload_n hx hb d_MD_line_174 rfl (lv_at hl 1 rfl) ?_
            refine gx_ll hx hb hK hP 14 2 (hM.2.2.1 14 (by decide) (by decide)) rfl j (rfl) (show j < 200 by omega) (by decide) d_MD_line_175 ?_
            exact gx_lret hx hb hr hlocks hS hP hD (by decide) (by decide) d_MD_line_176 (Or.inr ⟨j, 8, hj, by decide, rfl, rfl, (if_neg c_159).symm, hM⟩)
          · skip
            refine lv_aload_n hx hb d_MD_line_162 rfl (lv_at hl 0 rfl) ?_
            refine lv_iload_n hx hb d_MD_line_163 rfl (lv_at hl 1 rfl) ?_
            refine gx_readl (va_runV (As := [.int (nI j)]) (rest := []) ⟨hx, hb, hml, hown, gx_nil⟩ (c_MD_whole F hM _ nl hnl hx5 j hj) ⟨gx_cb (hg _ k_712) (hg _ k_7) (hg _ k_709) nd_MD_whole ⟨by decide, by decide⟩, hg _ k_711, hg _ ks_28⟩ (gx_preV hV hP hD hS hA0 (va_recv hK hP rfl (hM.1))) rfl rfl hl.1 rfl (lv_room (Nat.le_of_ble_eq_true rfl)) d_MD_line_164 ⟨by decide, by decide⟩) (fun r_164 h_164 => ?_)
            subst h_164
            refine lv_goto (tgt := 176) hx hb d_MD_line_167 (by decide) ?_
            exact gx_lret hx hb hr hlocks hS hP hD (by decide) (by decide) d_MD_line_176 (Or.inr ⟨j, 8, hj, by decide, rfl, rfl, (if_pos c_159).symm, hM⟩)
      · skip
        have hbad : p1 < 0 ∨ nI 9 ≤ p1 := Or.inr (md_98 (Int32.not_le.mp c_15))
        refine lv_aload_n hx hb d_MD_line_18 rfl (lv_at hl 0 rfl) ?_
        refine lv_iconst (v := 1) hx hb d_MD_line_19 (by decide) ?_
        refine gx_calli (va_runV (As := [.int 1]) (rest := []) ⟨hx, hb, hml, hown, gx_nil⟩ (c_MD_fails F hM _ _) ⟨gx_cb (hg _ k_662) (hg _ k_7) (hg _ k_659) nd_MD_fails ⟨by decide, by decide⟩, hg _ k_661, hg _ ks_22⟩ (gx_preV hV hP hD hS hA0 (va_recv hK hP rfl (hM.1))) rfl rfl hl.1 rfl (lv_room (Nat.le_of_ble_eq_true rfl)) d_MD_line_20 ⟨by decide, by decide⟩) hD hS hA (fun r_20 w1 H locs h_20 hP hD hS => ?_)
        obtain ⟨hr0, hM⟩ := h_20
        subst hr0
        refine lv_i2l (v := (0 : Int32).toInt64) hx hb d_MD_line_23 (rfl) ?_
        exact gx_lret hx hb hr hlocks hS hP hD (by decide) (by decide) d_MD_line_24 (Or.inl ⟨Or.inr hbad, hM⟩)
  · skip
    refine lv_if_eq (tgt := 18) hx hb d_MD_line_5 (by decide) (fun c_5 => ?_) (fun c_5 => absurd c_5 (by decide))
    refine lv_aload_n hx hb d_MD_line_18 rfl (lv_at hl 0 rfl) ?_
    refine lv_iconst (v := 1) hx hb d_MD_line_19 (by decide) ?_
    refine gx_calli (va_runV (As := [.int 1]) (rest := []) ⟨hx, hb, hml, hown, gx_nil⟩ (c_MD_fails F hM _ _) ⟨gx_cb (hg _ k_662) (hg _ k_7) (hg _ k_659) nd_MD_fails ⟨by decide, by decide⟩, hg _ k_661, hg _ ks_22⟩ (gx_preV hV hP hD hS hA0 (va_recv hK hP rfl (hM.1))) rfl rfl hl.1 rfl (lv_room (Nat.le_of_ble_eq_true rfl)) d_MD_line_20 ⟨by decide, by decide⟩) hD hS hA (fun r_20 w1 H locs h_20 hP hD hS => ?_)
    obtain ⟨hr0, hM⟩ := h_20
    subst hr0
    refine lv_i2l (v := (0 : Int32).toInt64) hx hb d_MD_line_23 (rfl) ?_
    exact gx_lret hx hb hr hlocks hS hP hD (by decide) (by decide) d_MD_line_24 (Or.inl ⟨Or.inl hbad, hM⟩)

set_option maxRecDepth 100000 in
set_option maxHeartbeats 4000000 in
theorem c_MD_count {l : Launch} {s0 : State} {D : va_G} {cI cC cJ cII cO cZ : ClassId} (F : FX l s0 D cI cC cJ cII cO cZ) {ws : va_W} {μ : Nat → Nat} {x : Nat → Int32} {A : Nat → Nat → Int32} {B : Nat → Nat → Int64} (hM : md_I cI cJ cZ ws μ x A B) (sz : Nat) (nw : Nat) (hnw : nw ≤ 100) (hx4 : x 4 = nI nw) (nl : Nat) (hnl : nl ≤ 200) (hx5 : x 5 = nI nl) (p0 : Int32)  : Met l y_MD_count [.code y_MD_count b_MD_count 4 (some .int)] { frames := 1, cells := 0, slots := 0, locals := 40 } (gx_P s0 D classes ws sz [.ref (μ 0), .int p0]) (va_Qi (fun r w1 => ((∃ k, k < 10 ∧ p0 - 20 = nI k ∧ 20 ≤ p0 ∧ r = nI (cb_cnt (fun j => decide (A 3 j = p0 - 20)) nw)) ∨ (20 ≤ p0 ∧ (p0 - 20 < 0 ∨ nI 10 ≤ p0 - 20) ∧ r = -1) ∨ (p0 < 20 ∧ 10 ≤ p0 ∧ r = nI (cb_cnt (fun j => decide (A 9 j = p0 - 10)) nl)) ∨ (p0 = 0 ∧ r = x 1) ∨ (p0 = 1 ∧ r = x 4) ∨ (p0 = 2 ∧ r = x 5) ∨ (p0 = 3 ∧ r = x 2) ∨ (p0 < 10 ∧ (p0.toInt < 0 ∨ 3 < p0.toInt) ∧ r = -1)) ∧ md_I cI cJ cZ w1 μ (upd x 0 0) A B) (gx_B D classes ws sz) (va_A ws sz)) 0 0 (va_A ws sz) := by
  refine gx_met (by decide +kernel) (Nat.le_of_ble_eq_true rfl) ?_
  intro p e s m below meth c ls hx hb hr hml hown hlocks hnm hsz hV hP hD hS hA hA0 hl
  have hg := fx_g F hV ([.ref (μ 0), .int p0] : List Value).toArray
  have hK := fx_k F hV
  have hn9 := fx_n F hV
  have hl : lv_has ls 4 [(0, .ref (μ 0)), (1, .int p0)] := hl
  refine lv_aload_n hx hb d_MD_count_0 rfl (lv_at hl 0 rfl) ?_
  refine lv_iconst (v := 0) hx hb d_MD_count_1 (by decide) ?_
  refine va_put (D := D) (ci := iMD) (v := .int 0) (ty := .int) (C := R_MD) (T := F_MD) (N := 23) hx hb (fl_MD hg) (fun _ h9 => h9) t_MD t_MD_ok n_MD hown hK hP hD hS 0 (hM.1) rfl 0 (by decide) (hg _ k_556) (fun _ h9 => h9) rfl (by decide +kernel) rfl rfl (Nat.le_of_ble_eq_true rfl) d_MD_count_2 (fun H locs hP hD hS => ?_)
  obtain ⟨w_1, ew_1⟩ : ∃ y : va_W, y = ws.set 0 (μ 0, .inr (iMD, md_o μ (upd x 0 0))) := ⟨_, rfl⟩
  replace hP : va_P D classes w_1 H := by rw [ew_1]; exact hP
  replace hD : va_D (va_A ws sz) w_1 := by rw [ew_1]; exact hD
  replace hM : md_I cI cJ cZ w_1 μ (upd x 0 0) A B := by rw [ew_1]; exact md_I.obj (x := x) (x' := upd x 0 0) hM
  refine lv_iconst (v := 0) hx hb d_MD_count_5 (by decide) ?_
  refine lv_istore_n (lv' := [(2, .int 0), (0, .ref (μ 0)), (1, .int p0)]) hx hb d_MD_count_6 rfl hl (by decide) rfl (fun ls hl => ?_)
  refine lv_iload_n hx hb d_MD_count_7 rfl (lv_at hl 2 rfl) ?_
  refine lv_bipush (v := 20) hx hb d_MD_count_8 (by decide) ?_
  refine lv_icmp_lt (tgt := 66) hx hb d_MD_count_10 (by decide) (fun c_10 => ?_) (fun c_10 => ?_)
  · skip
    refine lv_iload_n hx hb d_MD_count_66 rfl (lv_at hl 2 rfl) ?_
    refine lv_bipush (v := 10) hx hb d_MD_count_67 (by decide) ?_
    refine lv_icmp_lt (tgt := 111) hx hb d_MD_count_69 (by decide) (fun c_69 => ?_) (fun c_69 => ?_)
    · skip
      refine lv_iload_n hx hb d_MD_count_111 rfl (lv_at hl 2 rfl) ?_
      rcases cb_sw4 p0 with hs0 | hs0 | hs0 | hs0 | hout
      · skip
        refine lv_tableIn (off := 32) (tgt := 144) hx hb d_MD_count_112 (by rw [hs0]; decide) (by rw [hs0]; decide) (by rw [hs0]; decide) (by decide) ?_
        refine lv_aload_n hx hb d_MD_count_144 rfl (lv_at hl 1 rfl) ?_
        refine va_get (D := D) (ci := iMD) (v := .int (x 1)) (C := R_MD) (T := F_MD) (N := 23) hx hb (fl_MD hg) (fun _ h9 => h9) hown hK hP 0 (hM.1) rfl 2 (by decide) (hg _ k_558) (fun _ h9 => h9) rfl d_MD_count_145 ?_
        exact gx_iret hx hb hr hlocks rfl hS hP hD (by decide) (by decide) d_MD_count_148 (⟨Or.inr (Or.inr (Or.inr (Or.inl ⟨hs0, rfl⟩))), hM⟩)
      · skip
        refine lv_tableIn (off := 37) (tgt := 149) hx hb d_MD_count_112 (by rw [hs0]; decide) (by rw [hs0]; decide) (by rw [hs0]; decide) (by decide) ?_
        refine lv_aload_n hx hb d_MD_count_149 rfl (lv_at hl 1 rfl) ?_
        refine va_get (D := D) (ci := iMD) (v := .int (x 4)) (C := R_MD) (T := F_MD) (N := 23) hx hb (fl_MD hg) (fun _ h9 => h9) hown hK hP 0 (hM.1) rfl 6 (by decide) (hg _ k_562) (fun _ h9 => h9) rfl d_MD_count_150 ?_
        exact gx_iret hx hb hr hlocks rfl hS hP hD (by decide) (by decide) d_MD_count_153 (⟨Or.inr (Or.inr (Or.inr (Or.inr (Or.inl ⟨hs0, rfl⟩)))), hM⟩)
      · skip
        refine lv_tableIn (off := 42) (tgt := 154) hx hb d_MD_count_112 (by rw [hs0]; decide) (by rw [hs0]; decide) (by rw [hs0]; decide) (by decide) ?_
        refine lv_aload_n hx hb d_MD_count_154 rfl (lv_at hl 1 rfl) ?_
        refine va_get (D := D) (ci := iMD) (v := .int (x 5)) (C := R_MD) (T := F_MD) (N := 23) hx hb (fl_MD hg) (fun _ h9 => h9) hown hK hP 0 (hM.1) rfl 13 (by decide) (hg _ k_569) (fun _ h9 => h9) rfl d_MD_count_155 ?_
        exact gx_iret hx hb hr hlocks rfl hS hP hD (by decide) (by decide) d_MD_count_158 (⟨Or.inr (Or.inr (Or.inr (Or.inr (Or.inr (Or.inl ⟨hs0, rfl⟩))))), hM⟩)
      · skip
        refine lv_tableIn (off := 47) (tgt := 159) hx hb d_MD_count_112 (by rw [hs0]; decide) (by rw [hs0]; decide) (by rw [hs0]; decide) (by decide) ?_
        refine lv_aload_n hx hb d_MD_count_159 rfl (lv_at hl 1 rfl) ?_
        refine va_get (D := D) (ci := iMD) (v := .int (x 2)) (C := R_MD) (T := F_MD) (N := 23) hx hb (fl_MD hg) (fun _ h9 => h9) hown hK hP 0 (hM.1) rfl 3 (by decide) (hg _ k_559) (fun _ h9 => h9) rfl d_MD_count_160 ?_
        exact gx_iret hx hb hr hlocks rfl hS hP hD (by decide) (by decide) d_MD_count_163 (⟨Or.inr (Or.inr (Or.inr (Or.inr (Or.inr (Or.inr (Or.inl ⟨hs0, rfl⟩)))))), hM⟩)
      · skip
        refine lv_tableOut (tgt := 164) hx hb d_MD_count_112 hout (by decide) ?_
        refine lv_iconst (v := (-1)) hx hb d_MD_count_164 (by decide) ?_
        exact gx_iret hx hb hr hlocks rfl hS hP hD (by decide) (by decide) d_MD_count_165 (⟨Or.inr (Or.inr (Or.inr (Or.inr (Or.inr (Or.inr (Or.inr (⟨c_69, hout, rfl⟩))))))), hM⟩)
    · skip
      have hge2 := Int32.not_lt.mp c_69
      refine lv_iconst (v := 0) hx hb d_MD_count_72 (by decide) ?_
      refine lv_istore_n (lv' := [(3, .int 0), (2, .int 0), (0, .ref (μ 0)), (1, .int p0)]) hx hb d_MD_count_73 rfl hl (by decide) rfl (fun ls hl => ?_)
      have loop2 : ∀ (nn : Nat) (i : Nat) (ls : Array Slot) (hi : i ≤ nl) (hf : nl + 1 ≤ i + nn) (hl : lv_has ls 4 [(3, .int (nI i)), (2, .int (nI (cb_cnt (fun j => decide (A 9 j = p0 - 10)) i))), (0, .ref (μ 0)), (1, .int p0)]), W p l e ({ frames := 1, cells := 0, slots := 0, locals := 40 } : Room) s m ([.ref (μ 0), .int p0] : List Value).toArray below meth c H locs 0 0 (MQ below (va_Qi (fun r w1 => ((∃ k, k < 10 ∧ p0 - 20 = nI k ∧ 20 ≤ p0 ∧ r = nI (cb_cnt (fun j => decide (A 3 j = p0 - 20)) nw)) ∨ (20 ≤ p0 ∧ (p0 - 20 < 0 ∨ nI 10 ≤ p0 - 20) ∧ r = -1) ∨ (p0 < 20 ∧ 10 ≤ p0 ∧ r = nI (cb_cnt (fun j => decide (A 9 j = p0 - 10)) nl)) ∨ (p0 = 0 ∧ r = x 1) ∨ (p0 = 1 ∧ r = x 4) ∨ (p0 = 2 ∧ r = x 5) ∨ (p0 = 3 ∧ r = x 2) ∨ (p0 < 10 ∧ (p0.toInt < 0 ∨ 3 < p0.toInt) ∧ r = -1)) ∧ md_I cI cJ cZ w1 μ (upd x 0 0) A B) (gx_B D classes ws sz) (va_A ws sz)) ([.ref (μ 0), .int p0] : List Value).toArray s 0 0 (va_A ws sz)) (F0 m 74 ls []) := by
        intro nn
        induction nn with
        | zero =>
          intro i ls hi hf hl
          exact absurd hf (by omega)
        | succ nn ih =>
          intro i ls hi hf hl
          refine lv_iload_n hx hb d_MD_count_74 rfl (lv_at hl 0 rfl) ?_
          refine lv_aload_n hx hb d_MD_count_75 rfl (lv_at hl 2 rfl) ?_
          refine va_get (D := D) (ci := iMD) (v := .int (x 5)) (C := R_MD) (T := F_MD) (N := 23) hx hb (fl_MD hg) (fun _ h9 => h9) hown hK hP 0 (hM.1) rfl 13 (by decide) (hg _ k_569) (fun _ h9 => h9) rfl d_MD_count_76 ?_
          refine lv_icmp_ge (tgt := 109) hx hb d_MD_count_79 (by decide) (fun c_79 => ?_) (fun c_79 => ?_)
          · skip
            rw [hx5] at c_79
            have hin : i = nl := by have := gx_ngt c_79; omega
            subst hin
            refine lv_iload_n hx hb d_MD_count_109 rfl (lv_at hl 1 rfl) ?_
            exact gx_iret hx hb hr hlocks rfl hS hP hD (by decide) (by decide) d_MD_count_110 (⟨Or.inr (Or.inr (Or.inl ⟨c_10, hge2, rfl⟩)), hM⟩)
          · skip
            rw [hx5] at c_79
            have hin : i < nl := gx_nlt c_79
            refine lv_iload_n hx hb d_MD_count_82 rfl (lv_at hl 1 rfl) ?_
            refine lv_aload_n hx hb d_MD_count_83 rfl (lv_at hl 2 rfl) ?_
            refine va_get (D := D) (ci := iMD) (v := .ref (μ 9)) (C := R_MD) (T := F_MD) (N := 23) hx hb (fl_MD hg) (fun _ h9 => h9) hown hK hP 0 (hM.1) rfl 14 (by decide) (hg _ k_570) (fun _ h9 => h9) rfl d_MD_count_84 ?_
            refine lv_iload_n hx hb d_MD_count_87 rfl (lv_at hl 0 rfl) ?_
            refine gx_il (f := A 9) hx hb hK hP 9 0 (hM.2.1 9 (by decide) (by decide)) rfl i (rfl) (show i < 200 by omega) (by decide) d_MD_count_88 ?_
            refine lv_iload_n hx hb d_MD_count_89 rfl (lv_at hl 3 rfl) ?_
            refine lv_bipush (v := 10) hx hb d_MD_count_90 (by decide) ?_
            refine lv_isub hx hb d_MD_count_92 ?_
            refine lv_icmp_ne (tgt := 100) hx hb d_MD_count_93 (by decide) (fun c_93 => ?_) (fun c_93 => ?_)
            · skip
              refine lv_iconst (v := 0) hx hb d_MD_count_100 (by decide) ?_
              refine lv_iadd hx hb d_MD_count_101 ?_
              rw [show nI (cb_cnt (fun j => decide (A 9 j = p0 - 10)) i) + 0 = nI (cb_cnt (fun j => decide (A 9 j = p0 - 10)) i) from Int32.add_zero _]
              refine lv_istore_n (lv' := [(2, .int (nI (cb_cnt (fun j => decide (A 9 j = p0 - 10)) i))), (3, .int (nI i)), (0, .ref (μ 0)), (1, .int p0)]) hx hb d_MD_count_102 rfl hl (by decide) rfl (fun ls hl => ?_)
              refine lv_iinc (v := nI (i + 1)) (lv' := [(3, .int (nI (i + 1))), (2, .int (nI (cb_cnt (fun j => decide (A 9 j = p0 - 10)) i))), (0, .ref (μ 0)), (1, .int p0)]) hx hb d_MD_count_103 hl (k := 1) rfl (by rw [lit1]; exact nI_1 i) (by decide) rfl (fun ls hl => ?_)
              refine lv_goto (tgt := 74) hx hb d_MD_count_106 (by decide) ?_
              exact ih (i + 1) ls (by omega) (by omega) (by rw [cb_cnt_n (q := fun j => decide (A 9 j = p0 - 10)) (by simpa using c_93)]; exact lv_sub hl [0, 1, 2, 3] rfl)
            · skip
              refine lv_iconst (v := 1) hx hb d_MD_count_96 (by decide) ?_
              refine lv_goto (tgt := 101) hx hb d_MD_count_97 (by decide) ?_
              refine lv_iadd hx hb d_MD_count_101 ?_
              rw [nI_1]
              refine lv_istore_n (lv' := [(2, .int (nI (cb_cnt (fun j => decide (A 9 j = p0 - 10)) i + 1))), (3, .int (nI i)), (0, .ref (μ 0)), (1, .int p0)]) hx hb d_MD_count_102 rfl hl (by decide) rfl (fun ls hl => ?_)
              refine lv_iinc (v := nI (i + 1)) (lv' := [(3, .int (nI (i + 1))), (2, .int (nI (cb_cnt (fun j => decide (A 9 j = p0 - 10)) i + 1))), (0, .ref (μ 0)), (1, .int p0)]) hx hb d_MD_count_103 hl (k := 1) rfl (by rw [lit1]; exact nI_1 i) (by decide) rfl (fun ls hl => ?_)
              refine lv_goto (tgt := 74) hx hb d_MD_count_106 (by decide) ?_
              exact ih (i + 1) ls (by omega) (by omega) (by rw [cb_cnt_s (q := fun j => decide (A 9 j = p0 - 10)) (by simpa using c_93)]; exact lv_sub hl [0, 1, 2, 3] rfl)
      exact loop2 (nl + 1) 0 ls (by omega) (by omega) (lv_sub hl [0, 1, 2, 3] rfl)
  · skip
    have hge := Int32.not_lt.mp c_10
    refine lv_iconst (v := 0) hx hb d_MD_count_13 (by decide) ?_
    refine lv_istore_n (lv' := [(3, .int 0), (2, .int 0), (0, .ref (μ 0)), (1, .int p0)]) hx hb d_MD_count_14 rfl hl (by decide) rfl (fun ls hl => ?_)
    have loop1 : ∀ (nn : Nat) (i : Nat) (ls : Array Slot) (hi : i ≤ nw) (hf : nw + 1 ≤ i + nn) (hl : lv_has ls 4 [(3, .int (nI i)), (2, .int (nI (cb_cnt (fun j => decide (A 3 j = p0 - 20)) i))), (0, .ref (μ 0)), (1, .int p0)]), W p l e ({ frames := 1, cells := 0, slots := 0, locals := 40 } : Room) s m ([.ref (μ 0), .int p0] : List Value).toArray below meth c H locs 0 0 (MQ below (va_Qi (fun r w1 => ((∃ k, k < 10 ∧ p0 - 20 = nI k ∧ 20 ≤ p0 ∧ r = nI (cb_cnt (fun j => decide (A 3 j = p0 - 20)) nw)) ∨ (20 ≤ p0 ∧ (p0 - 20 < 0 ∨ nI 10 ≤ p0 - 20) ∧ r = -1) ∨ (p0 < 20 ∧ 10 ≤ p0 ∧ r = nI (cb_cnt (fun j => decide (A 9 j = p0 - 10)) nl)) ∨ (p0 = 0 ∧ r = x 1) ∨ (p0 = 1 ∧ r = x 4) ∨ (p0 = 2 ∧ r = x 5) ∨ (p0 = 3 ∧ r = x 2) ∨ (p0 < 10 ∧ (p0.toInt < 0 ∨ 3 < p0.toInt) ∧ r = -1)) ∧ md_I cI cJ cZ w1 μ (upd x 0 0) A B) (gx_B D classes ws sz) (va_A ws sz)) ([.ref (μ 0), .int p0] : List Value).toArray s 0 0 (va_A ws sz)) (F0 m 15 ls []) := by
      intro nn
      induction nn with
      | zero =>
        intro i ls hi hf hl
        exact absurd hf (by omega)
      | succ nn ih =>
        intro i ls hi hf hl
        refine lv_iload_n hx hb d_MD_count_15 rfl (lv_at hl 0 rfl) ?_
        refine lv_aload_n hx hb d_MD_count_16 rfl (lv_at hl 2 rfl) ?_
        refine va_get (D := D) (ci := iMD) (v := .int (x 4)) (C := R_MD) (T := F_MD) (N := 23) hx hb (fl_MD hg) (fun _ h9 => h9) hown hK hP 0 (hM.1) rfl 6 (by decide) (hg _ k_562) (fun _ h9 => h9) rfl d_MD_count_17 ?_
        refine lv_icmp_ge (tgt := 50) hx hb d_MD_count_20 (by decide) (fun c_20 => ?_) (fun c_20 => ?_)
        · skip
          rw [hx4] at c_20
          have hin : i = nw := by have := gx_ngt c_20; omega
          subst hin
          refine lv_iload_n hx hb d_MD_count_50 rfl (lv_at hl 3 rfl) ?_
          refine lv_bipush (v := 20) hx hb d_MD_count_51 (by decide) ?_
          refine lv_isub hx hb d_MD_count_53 ?_
          refine gx_readi (va_runS (As := [.int (p0 - 20)]) (rest := []) ⟨hx, hb, hml, hown, gx_nil⟩ (c_MD_isCall F _ _ _) ⟨gx_cb (hg _ k_669) (hg _ k_7) (hg _ k_667) nd_MD_isCall ⟨by decide, by decide⟩, hg _ k_668⟩ (gx_preS hV hP hD hS hA0) rfl rfl hl.1 rfl (lv_room (Nat.le_of_ble_eq_true rfl)) d_MD_count_54 ⟨by decide, by decide⟩) (fun r_54 h_54 => ?_)
          rcases h_54 with ⟨rfl, k, hk, hkk⟩ | ⟨rfl, hb2⟩
          · skip
            refine lv_if_eq (tgt := 64) hx hb d_MD_count_57 (by decide) (fun c_57 => absurd c_57 (by decide)) (fun c_57 => ?_)
            refine lv_iload_n hx hb d_MD_count_60 rfl (lv_at hl 1 rfl) ?_
            refine lv_goto (tgt := 65) hx hb d_MD_count_61 (by decide) ?_
            exact gx_iret hx hb hr hlocks rfl hS hP hD (by decide) (by decide) d_MD_count_65 (⟨Or.inl ⟨k, hk, hkk, hge, rfl⟩, hM⟩)
          · skip
            refine lv_if_eq (tgt := 64) hx hb d_MD_count_57 (by decide) (fun c_57 => ?_) (fun c_57 => absurd c_57 (by decide))
            refine lv_iconst (v := (-1)) hx hb d_MD_count_64 (by decide) ?_
            exact gx_iret hx hb hr hlocks rfl hS hP hD (by decide) (by decide) d_MD_count_65 (⟨Or.inr (Or.inl ⟨hge, hb2, rfl⟩), hM⟩)
        · skip
          rw [hx4] at c_20
          have hin : i < nw := gx_nlt c_20
          refine lv_iload_n hx hb d_MD_count_23 rfl (lv_at hl 1 rfl) ?_
          refine lv_aload_n hx hb d_MD_count_24 rfl (lv_at hl 2 rfl) ?_
          refine va_get (D := D) (ci := iMD) (v := .ref (μ 3)) (C := R_MD) (T := F_MD) (N := 23) hx hb (fl_MD hg) (fun _ h9 => h9) hown hK hP 0 (hM.1) rfl 7 (by decide) (hg _ k_563) (fun _ h9 => h9) rfl d_MD_count_25 ?_
          refine lv_iload_n hx hb d_MD_count_28 rfl (lv_at hl 0 rfl) ?_
          refine gx_il (f := A 3) hx hb hK hP 3 0 (hM.2.1 3 (by decide) (by decide)) rfl i (rfl) (show i < 100 by omega) (by decide) d_MD_count_29 ?_
          refine lv_iload_n hx hb d_MD_count_30 rfl (lv_at hl 3 rfl) ?_
          refine lv_bipush (v := 20) hx hb d_MD_count_31 (by decide) ?_
          refine lv_isub hx hb d_MD_count_33 ?_
          refine lv_icmp_ne (tgt := 41) hx hb d_MD_count_34 (by decide) (fun c_34 => ?_) (fun c_34 => ?_)
          · skip
            refine lv_iconst (v := 0) hx hb d_MD_count_41 (by decide) ?_
            refine lv_iadd hx hb d_MD_count_42 ?_
            rw [show nI (cb_cnt (fun j => decide (A 3 j = p0 - 20)) i) + 0 = nI (cb_cnt (fun j => decide (A 3 j = p0 - 20)) i) from Int32.add_zero _]
            refine lv_istore_n (lv' := [(2, .int (nI (cb_cnt (fun j => decide (A 3 j = p0 - 20)) i))), (3, .int (nI i)), (0, .ref (μ 0)), (1, .int p0)]) hx hb d_MD_count_43 rfl hl (by decide) rfl (fun ls hl => ?_)
            refine lv_iinc (v := nI (i + 1)) (lv' := [(3, .int (nI (i + 1))), (2, .int (nI (cb_cnt (fun j => decide (A 3 j = p0 - 20)) i))), (0, .ref (μ 0)), (1, .int p0)]) hx hb d_MD_count_44 hl (k := 1) rfl (by rw [lit1]; exact nI_1 i) (by decide) rfl (fun ls hl => ?_)
            refine lv_goto (tgt := 15) hx hb d_MD_count_47 (by decide) ?_
            exact ih (i + 1) ls (by omega) (by omega) (by rw [cb_cnt_n (q := fun j => decide (A 3 j = p0 - 20)) (by simpa using c_34)]; exact lv_sub hl [0, 1, 2, 3] rfl)
          · skip
            refine lv_iconst (v := 1) hx hb d_MD_count_37 (by decide) ?_
            refine lv_goto (tgt := 42) hx hb d_MD_count_38 (by decide) ?_
            refine lv_iadd hx hb d_MD_count_42 ?_
            rw [nI_1]
            refine lv_istore_n (lv' := [(2, .int (nI (cb_cnt (fun j => decide (A 3 j = p0 - 20)) i + 1))), (3, .int (nI i)), (0, .ref (μ 0)), (1, .int p0)]) hx hb d_MD_count_43 rfl hl (by decide) rfl (fun ls hl => ?_)
            refine lv_iinc (v := nI (i + 1)) (lv' := [(3, .int (nI (i + 1))), (2, .int (nI (cb_cnt (fun j => decide (A 3 j = p0 - 20)) i + 1))), (0, .ref (μ 0)), (1, .int p0)]) hx hb d_MD_count_44 hl (k := 1) rfl (by rw [lit1]; exact nI_1 i) (by decide) rfl (fun ls hl => ?_)
            refine lv_goto (tgt := 15) hx hb d_MD_count_47 (by decide) ?_
            exact ih (i + 1) ls (by omega) (by omega) (by rw [cb_cnt_s (q := fun j => decide (A 3 j = p0 - 20)) (by simpa using c_34)]; exact lv_sub hl [0, 1, 2, 3] rfl)
    exact loop1 (nw + 1) 0 ls (by omega) (by omega) (lv_sub hl [0, 1, 2, 3] rfl)

