set_option maxRecDepth 100000 in
set_option maxHeartbeats 4000000 in
theorem c_PB_event {l : Launch} {s0 : State} {D : va_G} {cI cC cJ cII cO cZ : ClassId} (F : FX l s0 D cI cC cJ cII cO cZ) {ws : va_W} {κ : Nat → Nat} {ra : Nat → Nat → Nat} {z sg : Nat → Int32} {G : Nat → Nat → Nat → Int32} {we : Nat → Int32} {pd : Nat → Int64} (hI : cb_I cI cC cJ cII ws κ ra z sg G we pd) (sz : Nat) (p0 p1 p2 : Int32)  : gx_XM l y_PB_event [.code y_PB_event b_PB_event 5 (some .int)] { frames := 9, cells := 1, slots := 6, locals := 320 } (gx_P s0 D classes ws sz [.ref (κ 0), .int p0, .int p1, .int p2]) (va_Qi (fun r w1 => ∃ k j, k < 10 ∧ j < 6 ∧ p0 = nI k ∧ p1 = nI j ∧ ¬ p2 < 1 ∧ ¬ 50000 < p2 ∧ z 4 < 100 ∧ r = cb_bu p2 (fx_unit j) ∧ cb_I cI cC cJ cII w1 κ ra (upd z 4 (z 4 + 1)) sg (cb_upg G 2 k (upd (G 2 k) j (G 2 k j + cb_bu p2 (fx_unit j)))) (upd we k (we k + 1)) pd ∧ cb_hi ws w1) (gx_B D classes ws sz) (va_A ws sz)) (fun E => (E = "java/lang/IllegalArgumentException" ∧ ((p0 < 0 ∨ nI 10 ≤ p0) ∨ (p1 < 0 ∨ nI 6 ≤ p1) ∨ p2 < 1 ∨ 50000 < p2)) ∨ (E = "java/lang/IllegalStateException" ∧ ∃ k j, k < 10 ∧ j < 6 ∧ p0 = nI k ∧ p1 = nI j ∧ ¬ p2 < 1 ∧ ¬ 50000 < p2 ∧ ¬ z 4 < 100)) 1 6 (va_A ws sz) := by
  refine gx_xmet (by decide +kernel) (Nat.le_of_ble_eq_true rfl) ?_
  intro p e s m below meth c ls hx hb hr hml hown hlocks hex hsz hV hP hD hS hA hA0 hl
  have hg := fx_g F hV ([.ref (κ 0), .int p0, .int p1, .int p2] : List Value).toArray
  have hK := fx_k F hV
  have hn9 := fx_n F hV
  have hl : lv_has ls 5 [(0, .ref (κ 0)), (1, .int p0), (2, .int p1), (3, .int p2)] := hl
  have hH : cb_hi ws ws := fun _ _ => rfl
  refine lv_iload_n hx hb d_PB_event_0 rfl (lv_at hl 1 rfl) ?_
  refine gx_readi (va_runS (As := [.int p0]) (rest := []) ⟨hx, hb, hml, hown, gx_nil⟩ (c_PB_isCall F _ _ _) ⟨gx_cb (hg _ k_178) (hg _ k_1) (hg _ k_176) nd_PB_isCall ⟨by decide, by decide⟩, hg _ k_177⟩ (gx_preS hV hP hD hS hA0) rfl rfl hl.1 rfl (lv_room (Nat.le_of_ble_eq_true rfl)) d_PB_event_1 ⟨by decide, by decide⟩) (fun r_1 h_1 => ?_)
  rcases h_1 with ⟨rfl, k, hk, rfl⟩ | ⟨rfl, hbad⟩
  · skip
    refine lv_if_eq (tgt := 25) hx hb d_PB_event_4 (by decide) (fun c_4 => absurd c_4 (by decide)) (fun c_4 => ?_)
    refine lv_iload_n hx hb d_PB_event_7 rfl (lv_at hl 2 rfl) ?_
    refine gx_readi (va_runS (As := [.int p1]) (rest := []) ⟨hx, hb, hml, hown, gx_nil⟩ (c_PB_isKind F _ _ _) ⟨gx_cb (hg _ k_149) (hg _ k_1) (hg _ k_179) nd_PB_isKind ⟨by decide, by decide⟩, hg _ k_148⟩ (gx_preS hV hP hD hS hA0) rfl rfl hl.1 rfl (lv_room (Nat.le_of_ble_eq_true rfl)) d_PB_event_8 ⟨by decide, by decide⟩) (fun r_8 h_8 => ?_)
    rcases h_8 with ⟨rfl, j, hj, rfl⟩ | ⟨rfl, hbad⟩
    · skip
      refine lv_if_eq (tgt := 25) hx hb d_PB_event_11 (by decide) (fun c_11 => absurd c_11 (by decide)) (fun c_11 => ?_)
      refine lv_iload_n hx hb d_PB_event_14 rfl (lv_at hl 3 rfl) ?_
      refine lv_iconst (v := 1) hx hb d_PB_event_15 (by decide) ?_
      refine lv_icmp_lt (tgt := 25) hx hb d_PB_event_16 (by decide) (fun c_16 => ?_) (fun c_16 => ?_)
      · skip
        exact gx_throw (own := "PortBills") (cls := "java/lang/IllegalArgumentException") (text := "no such call, kind or amount") (names := fx_nm) (ik := 71) (is := 85) (ic := 75) hx hb (fx_tr F) hown (by decide +kernel) (by decide +kernel) (hg _ k_215) (hg _ k_12) (fx_str_85 F hV).choose_spec (fx_own_75 F hV _) (hl.1.trans hml.symm) d_PB_event_25 d_PB_event_28 d_PB_event_29 d_PB_event_31 d_PB_event_34 hex (by decide) (by decide) (by decide) (by decide) hlocks (Or.inl ⟨rfl, Or.inr (Or.inr (Or.inl c_16))⟩)
      · skip
        refine lv_iload_n hx hb d_PB_event_19 rfl (lv_at hl 3 rfl) ?_
        refine lv_ldc (v := 50000) hx hb hown (hg _ k_296) d_PB_event_20 ?_
        refine lv_icmp_le (tgt := 35) hx hb d_PB_event_22 (by decide) (fun c_22 => ?_) (fun c_22 => ?_)
        · skip
          refine lv_aload_n hx hb d_PB_event_35 rfl (lv_at hl 0 rfl) ?_
          refine va_get (D := D) (ci := iPB) (v := .int (z 4)) (C := R_PB) (T := F_PB) (N := 11) hx hb (fl_PB hg) (fun _ h9 => h9) hown hK hP 0 (hI.1) rfl 5 (by decide) (hg _ k_93) (fun _ h9 => h9) rfl d_PB_event_36 ?_
          refine lv_bipush (v := 100) hx hb d_PB_event_39 (by decide) ?_
          refine lv_icmp_lt (tgt := 54) hx hb d_PB_event_41 (by decide) (fun c_41 => ?_) (fun c_41 => ?_)
          · skip
            refine lv_iload_n hx hb d_PB_event_54 rfl (lv_at hl 3 rfl) ?_
            refine va_gets hx hb (fx_uz F hV hA0) hS hown (hg _ k_314) (fun _ h9 => h9) d_PB_event_55 ?_
            refine lv_iload_n hx hb d_PB_event_58 rfl (lv_at hl 2 rfl) ?_
            refine va_ti hx hb (fx_ut F hV hA0) hS (vp_in_nI hj (by decide)) (v := .int (fx_unit j)) (by rw [nI_clamp (by omega)]) d_PB_event_59 ?_
            refine gx_readi (va_runS (As := [.int p2, .int (fx_unit j)]) (rest := []) ⟨hx, hb, hml, hown, gx_nil⟩ (c_PB_begunUnits F _ _ p2 (fx_unit j)) ⟨gx_cb (hg _ k_318) (hg _ k_1) (hg _ k_316) nd_PB_begunUnits ⟨by decide, by decide⟩, hg _ k_317⟩ (gx_preS hV hP hD hS hA0) rfl rfl hl.1 rfl (lv_room (Nat.le_of_ble_eq_true rfl)) d_PB_event_60 ⟨by decide, by decide⟩) (fun r_60 h_60 => ?_)
            subst h_60
            refine lv_istore (lv' := [(4, .int (cb_bu p2 (fx_unit j))), (0, .ref (κ 0)), (1, .int (nI k)), (2, .int (nI j)), (3, .int p2)]) hx hb d_PB_event_63 hl (by decide) rfl (fun ls hl => ?_)
            refine lv_aload_n hx hb d_PB_event_65 rfl (lv_at hl 1 rfl) ?_
            refine va_get (D := D) (ci := iPB) (v := .ref (κ 17)) (C := R_PB) (T := F_PB) (N := 11) hx hb (fl_PB hg) (fun _ h9 => h9) hown hK hP 0 (hI.1) rfl 3 (by decide) (hg _ k_91) (fun _ h9 => h9) rfl d_PB_event_66 ?_
            refine lv_iload_n hx hb d_PB_event_69 rfl (lv_at hl 2 rfl) ?_
            refine gx_al hx hb hK hP 17 3 (hI.2.2.2.2.2.1 2 (by decide)) rfl rfl k (v := ra 2 k) (rfl) (hk) (by decide) (if_pos (hk)) d_PB_event_70 ?_
            refine lv_iload_n hx hb d_PB_event_71 rfl (lv_at hl 3 rfl) ?_
            refine lv_dup2_11 hx hb d_PB_event_72 rfl rfl ?_
            refine gx_il hx hb hK hP (cb_gp 2 + 1 + k) 0 (hI.2.2.2.2.2.2 2 (by decide) k (hk)) rfl j (rfl) (hj) (by decide) d_PB_event_73 ?_
            refine lv_iload hx hb d_PB_event_74 (lv_at hl 0 rfl) ?_
            refine lv_iadd hx hb d_PB_event_76 ?_
            refine gx_is hx hb hK hP hD hS (cb_gp 2 + 1 + k) 0 (hI.2.2.2.2.2.2 2 (by decide) k (hk)) rfl j (rfl) (hj) (by decide) d_PB_event_77 (fun H locs hP hD hS => ?_)
            obtain ⟨w_1, ew_1⟩ : ∃ x : va_W, x = ws.set (cb_gp 2 + 1 + k) (ra 2 k, .inl (cI, cb_wd 2, .inl (upd (G 2 k) j (((G 2 k) j) + (cb_bu p2 (fx_unit j)))))) := ⟨_, rfl⟩
            replace hP : va_P D classes w_1 H := by rw [ew_1]; exact hP
            replace hD : va_D (va_A ws sz) w_1 := by rw [ew_1]; exact hD
            replace hI : cb_I cI cC cJ cII w_1 κ ra z sg (cb_upg G 2 k (upd (G 2 k) j (((G 2 k) j) + (cb_bu p2 (fx_unit j))))) we pd := by rw [ew_1]; exact cb_I.row (by decide) (hk) hI
            replace hH : cb_hi ws w_1 := by rw [ew_1]; exact cb_hi.set (by have := cb_gp_lt 2 (by decide) k (hk); omega) hH
            refine lv_aload_n hx hb d_PB_event_78 rfl (lv_at hl 1 rfl) ?_
            refine va_get (D := D) (ci := iPB) (v := .ref (κ 28)) (C := R_PB) (T := F_PB) (N := 11) hx hb (fl_PB hg) (fun _ h9 => h9) hown hK hP 0 (hI.1) rfl 4 (by decide) (hg _ k_92) (fun _ h9 => h9) rfl d_PB_event_79 ?_
            refine lv_iload_n hx hb d_PB_event_82 rfl (lv_at hl 2 rfl) ?_
            refine lv_dup2_11 hx hb d_PB_event_83 rfl rfl ?_
            refine gx_il hx hb hK hP 28 0 (hI.2.2.2.1) rfl k (rfl) (hk) (by decide) d_PB_event_84 ?_
            refine lv_iconst (v := 1) hx hb d_PB_event_85 (by decide) ?_
            refine lv_iadd hx hb d_PB_event_86 ?_
            refine gx_is hx hb hK hP hD hS 28 0 (hI.2.2.2.1) rfl k (rfl) (hk) (by decide) d_PB_event_87 (fun H locs hP hD hS => ?_)
            obtain ⟨w_2, ew_2⟩ : ∃ x : va_W, x = w_1.set 28 (κ 28, .inl (cI, 10, .inl (upd we k ((we k) + 1)))) := ⟨_, rfl⟩
            replace hP : va_P D classes w_2 H := by rw [ew_2]; exact hP
            replace hD : va_D (va_A ws sz) w_2 := by rw [ew_2]; exact hD
            replace hI : cb_I cI cC cJ cII w_2 κ ra z sg (cb_upg G 2 k (upd (G 2 k) j (((G 2 k) j) + (cb_bu p2 (fx_unit j))))) (upd we k ((we k) + 1)) pd := by rw [ew_2]; exact cb_I.wev hI
            replace hH : cb_hi ws w_2 := by rw [ew_2]; exact cb_hi.set (by decide) hH
            refine lv_aload_n hx hb d_PB_event_88 rfl (lv_at hl 1 rfl) ?_
            refine lv_dup hx hb d_PB_event_89 rfl ?_
            refine va_get (D := D) (ci := iPB) (v := .int (z 4)) (C := R_PB) (T := F_PB) (N := 11) hx hb (fl_PB hg) (fun _ h9 => h9) hown hK hP 0 (hI.1) rfl 5 (by decide) (hg _ k_93) (fun _ h9 => h9) rfl d_PB_event_90 ?_
            refine lv_iconst (v := 1) hx hb d_PB_event_93 (by decide) ?_
            refine lv_iadd hx hb d_PB_event_94 ?_
            refine va_put (D := D) (ci := iPB) (v := .int ((z 4) + 1)) (ty := .int) (C := R_PB) (T := F_PB) (N := 11) hx hb (fl_PB hg) (fun _ h9 => h9) t_PB t_PB_ok n_PB hown hK hP hD hS 0 (hI.1) rfl 5 (by decide) (hg _ k_93) (fun _ h9 => h9) rfl (by decide +kernel) rfl rfl (Nat.le_of_ble_eq_true rfl) d_PB_event_95 (fun H locs hP hD hS => ?_)
            obtain ⟨w_3, ew_3⟩ : ∃ x : va_W, x = w_2.set 0 (κ 0, .inr (iPB, [.ref (κ 1), .ref (κ 10), .int (z 3), .ref (κ 17), .ref (κ 28), .int ((z 4) + 1), .ref (κ 29), .ref (κ 40), .ref (κ 51), .ref (κ 62), .ref (κ 63)])) := ⟨_, rfl⟩
            replace hP : va_P D classes w_3 H := by rw [ew_3]; exact hP
            replace hD : va_D (va_A ws sz) w_3 := by rw [ew_3]; exact hD
            replace hI : cb_I cI cC cJ cII w_3 κ ra (upd z 4 ((z 4) + 1)) sg (cb_upg G 2 k (upd (G 2 k) j (((G 2 k) j) + (cb_bu p2 (fx_unit j))))) (upd we k ((we k) + 1)) pd := by rw [ew_3]; exact cb_I.obj (z := z) (z' := upd z 4 ((z 4) + 1)) rfl rfl rfl hI
            replace hH : cb_hi ws w_3 := by rw [ew_3]; exact cb_hi.set (by decide) hH
            refine lv_iload hx hb d_PB_event_98 (lv_at hl 0 rfl) ?_
            exact gx_mx (gx_iret hx hb hr hlocks rfl hS hP hD (by decide) (by decide) d_PB_event_100 (⟨k, j, hk, hj, rfl, rfl, c_16, Int32.not_lt.mpr c_22, c_41, rfl, hI, hH⟩))
          · skip
            exact gx_throw (own := "PortBills") (cls := "java/lang/IllegalStateException") (text := "too many events wait") (names := fx_nm) (ik := 91) (is := 93) (ic := 95) hx hb (fx_tr F) hown (by decide +kernel) (by decide +kernel) (hg _ k_298) (hg _ k_13) (fx_str_93 F hV).choose_spec (fx_own_95 F hV _) (hl.1.trans hml.symm) d_PB_event_44 d_PB_event_47 d_PB_event_48 d_PB_event_50 d_PB_event_53 hex (by decide) (by decide) (by decide) (by decide) hlocks (Or.inr ⟨rfl, k, j, hk, hj, rfl, rfl, c_16, Int32.not_lt.mpr c_22, c_41⟩)
        · skip
          exact gx_throw (own := "PortBills") (cls := "java/lang/IllegalArgumentException") (text := "no such call, kind or amount") (names := fx_nm) (ik := 71) (is := 85) (ic := 75) hx hb (fx_tr F) hown (by decide +kernel) (by decide +kernel) (hg _ k_215) (hg _ k_12) (fx_str_85 F hV).choose_spec (fx_own_75 F hV _) (hl.1.trans hml.symm) d_PB_event_25 d_PB_event_28 d_PB_event_29 d_PB_event_31 d_PB_event_34 hex (by decide) (by decide) (by decide) (by decide) hlocks (Or.inl ⟨rfl, Or.inr (Or.inr (Or.inr (Int32.not_le.mp c_22)))⟩)
    · skip
      refine lv_if_eq (tgt := 25) hx hb d_PB_event_11 (by decide) (fun c_11 => ?_) (fun c_11 => absurd c_11 (by decide))
      exact gx_throw (own := "PortBills") (cls := "java/lang/IllegalArgumentException") (text := "no such call, kind or amount") (names := fx_nm) (ik := 71) (is := 85) (ic := 75) hx hb (fx_tr F) hown (by decide +kernel) (by decide +kernel) (hg _ k_215) (hg _ k_12) (fx_str_85 F hV).choose_spec (fx_own_75 F hV _) (hl.1.trans hml.symm) d_PB_event_25 d_PB_event_28 d_PB_event_29 d_PB_event_31 d_PB_event_34 hex (by decide) (by decide) (by decide) (by decide) hlocks (Or.inl ⟨rfl, Or.inr (Or.inl hbad)⟩)
  · skip
    refine lv_if_eq (tgt := 25) hx hb d_PB_event_4 (by decide) (fun c_4 => ?_) (fun c_4 => absurd c_4 (by decide))
    exact gx_throw (own := "PortBills") (cls := "java/lang/IllegalArgumentException") (text := "no such call, kind or amount") (names := fx_nm) (ik := 71) (is := 85) (ic := 75) hx hb (fx_tr F) hown (by decide +kernel) (by decide +kernel) (hg _ k_215) (hg _ k_12) (fx_str_85 F hV).choose_spec (fx_own_75 F hV _) (hl.1.trans hml.symm) d_PB_event_25 d_PB_event_28 d_PB_event_29 d_PB_event_31 d_PB_event_34 hex (by decide) (by decide) (by decide) (by decide) hlocks (Or.inl ⟨rfl, Or.inl hbad⟩)

set_option maxRecDepth 100000 in
set_option maxHeartbeats 4000000 in
theorem c_PB_discount {l : Launch} {s0 : State} {D : va_G} {cI cC cJ cII cO cZ : ClassId} (F : FX l s0 D cI cC cJ cII cO cZ) {ws : va_W} {κ : Nat → Nat} {ra : Nat → Nat → Nat} {z sg : Nat → Int32} {G : Nat → Nat → Nat → Int32} {we : Nat → Int32} {pd : Nat → Int64} (hI : cb_I cI cC cJ cII ws κ ra z sg G we pd) (sz : Nat) (p0 p1 p2 p3 : Int32)  : Met l y_PB_discount [.code y_PB_discount b_PB_discount 5 (some .boolean)] { frames := 1, cells := 0, slots := 0, locals := 40 } (gx_P s0 D classes ws sz [.ref (κ 0), .int p0, .int p1, .int p2, .int p3]) (va_Qi (fun r w1 => (r = 0 ∧ w1 = ws ∧ (((p0 < 0 ∨ nI 10 ≤ p0) ∨ (p1 < 0 ∨ nI 6 ≤ p1) ∨ p3 < 1 ∨ 100 < p3 ∨ p2 < 0 ∨ p3 < p2) ∨ ∃ k j, k < 10 ∧ j < 6 ∧ p0 = nI k ∧ p1 = nI j ∧ ¬ p3 < 1 ∧ ¬ 100 < p3 ∧ ¬ p2 < 0 ∧ ¬ p3 < p2 ∧ ¬ G 3 k j < 3)) ∨ (r = 1 ∧ ∃ k j, k < 10 ∧ j < 6 ∧ p0 = nI k ∧ p1 = nI j ∧ ¬ p3 < 1 ∧ ¬ 100 < p3 ∧ ¬ p2 < 0 ∧ ¬ p3 < p2 ∧ G 3 k j < 3 ∧ cb_I cI cC cJ cII w1 κ ra z sg (cb_upg (cb_upg (cb_upg G 3 k (upd (G 3 k) j (G 3 k j + 1))) 4 k (upd (G 4 k) j (G 4 k j * (p3 - p2)))) 5 k (upd (G 5 k) j (G 5 k j * p3))) we pd ∧ cb_hi ws w1)) (gx_B D classes ws sz) (va_A ws sz)) 0 0 (va_A ws sz) := by
  refine gx_met (by decide +kernel) (Nat.le_of_ble_eq_true rfl) ?_
  intro p e s m below meth c ls hx hb hr hml hown hlocks hnm hsz hV hP hD hS hA hA0 hl
  have hg := fx_g F hV ([.ref (κ 0), .int p0, .int p1, .int p2, .int p3] : List Value).toArray
  have hK := fx_k F hV
  have hn9 := fx_n F hV
  have hl : lv_has ls 5 [(0, .ref (κ 0)), (1, .int p0), (2, .int p1), (3, .int p2), (4, .int p3)] := hl
  have hH : cb_hi ws ws := fun _ _ => rfl
  refine lv_iload_n hx hb d_PB_discount_0 rfl (lv_at hl 1 rfl) ?_
  refine gx_readi (va_runS (As := [.int p0]) (rest := []) ⟨hx, hb, hml, hown, gx_nil⟩ (c_PB_isCall F _ _ _) ⟨gx_cb (hg _ k_178) (hg _ k_1) (hg _ k_176) nd_PB_isCall ⟨by decide, by decide⟩, hg _ k_177⟩ (gx_preS hV hP hD hS hA0) rfl rfl hl.1 rfl (lv_room (Nat.le_of_ble_eq_true rfl)) d_PB_discount_1 ⟨by decide, by decide⟩) (fun r_1 h_1 => ?_)
  rcases h_1 with ⟨rfl, k, hk, rfl⟩ | ⟨rfl, hbad⟩
  · skip
    refine lv_if_eq (tgt := 37) hx hb d_PB_discount_4 (by decide) (fun c_4 => absurd c_4 (by decide)) (fun c_4 => ?_)
    refine lv_iload_n hx hb d_PB_discount_7 rfl (lv_at hl 2 rfl) ?_
    refine gx_readi (va_runS (As := [.int p1]) (rest := []) ⟨hx, hb, hml, hown, gx_nil⟩ (c_PB_isKind F _ _ _) ⟨gx_cb (hg _ k_149) (hg _ k_1) (hg _ k_179) nd_PB_isKind ⟨by decide, by decide⟩, hg _ k_148⟩ (gx_preS hV hP hD hS hA0) rfl rfl hl.1 rfl (lv_room (Nat.le_of_ble_eq_true rfl)) d_PB_discount_8 ⟨by decide, by decide⟩) (fun r_8 h_8 => ?_)
    rcases h_8 with ⟨rfl, j, hj, rfl⟩ | ⟨rfl, hbad⟩
    · skip
      refine lv_if_eq (tgt := 37) hx hb d_PB_discount_11 (by decide) (fun c_11 => absurd c_11 (by decide)) (fun c_11 => ?_)
      refine lv_iload hx hb d_PB_discount_14 (lv_at hl 4 rfl) ?_
      refine lv_iconst (v := 1) hx hb d_PB_discount_16 (by decide) ?_
      refine lv_icmp_lt (tgt := 37) hx hb d_PB_discount_17 (by decide) (fun c_17 => ?_) (fun c_17 => ?_)
      · skip
        refine lv_iconst (v := 0) hx hb d_PB_discount_37 (by decide) ?_
        exact gx_iret hx hb hr hlocks rfl hS hP hD (by decide) (by decide) d_PB_discount_38 (Or.inl ⟨rfl, rfl, Or.inl (Or.inr (Or.inr (Or.inl c_17)))⟩)
      · skip
        refine lv_iload hx hb d_PB_discount_20 (lv_at hl 4 rfl) ?_
        refine lv_bipush (v := 100) hx hb d_PB_discount_22 (by decide) ?_
        refine lv_icmp_gt (tgt := 37) hx hb d_PB_discount_24 (by decide) (fun c_24 => ?_) (fun c_24 => ?_)
        · skip
          refine lv_iconst (v := 0) hx hb d_PB_discount_37 (by decide) ?_
          exact gx_iret hx hb hr hlocks rfl hS hP hD (by decide) (by decide) d_PB_discount_38 (Or.inl ⟨rfl, rfl, Or.inl (Or.inr (Or.inr (Or.inr (Or.inl c_24))))⟩)
        · skip
          refine lv_iload_n hx hb d_PB_discount_27 rfl (lv_at hl 3 rfl) ?_
          refine lv_if_lt (tgt := 37) hx hb d_PB_discount_28 (by decide) (fun c_28 => ?_) (fun c_28 => ?_)
          · skip
            refine lv_iconst (v := 0) hx hb d_PB_discount_37 (by decide) ?_
            exact gx_iret hx hb hr hlocks rfl hS hP hD (by decide) (by decide) d_PB_discount_38 (Or.inl ⟨rfl, rfl, Or.inl (Or.inr (Or.inr (Or.inr (Or.inr (Or.inl c_28)))))⟩)
          · skip
            refine lv_iload_n hx hb d_PB_discount_31 rfl (lv_at hl 3 rfl) ?_
            refine lv_iload hx hb d_PB_discount_32 (lv_at hl 4 rfl) ?_
            refine lv_icmp_le (tgt := 39) hx hb d_PB_discount_34 (by decide) (fun c_34 => ?_) (fun c_34 => ?_)
            · skip
              refine lv_aload_n hx hb d_PB_discount_39 rfl (lv_at hl 0 rfl) ?_
              refine va_get (D := D) (ci := iPB) (v := .ref (κ 29)) (C := R_PB) (T := F_PB) (N := 11) hx hb (fl_PB hg) (fun _ h9 => h9) hown hK hP 0 (hI.1) rfl 6 (by decide) (hg _ k_94) (fun _ h9 => h9) rfl d_PB_discount_40 ?_
              refine lv_iload_n hx hb d_PB_discount_43 rfl (lv_at hl 1 rfl) ?_
              refine gx_al hx hb hK hP 29 3 (hI.2.2.2.2.2.1 3 (by decide)) rfl rfl k (v := ra 3 k) (rfl) (hk) (by decide) (if_pos (hk)) d_PB_discount_44 ?_
              refine lv_iload_n hx hb d_PB_discount_45 rfl (lv_at hl 2 rfl) ?_
              refine gx_il hx hb hK hP (cb_gp 3 + 1 + k) 0 (hI.2.2.2.2.2.2 3 (by decide) k (hk)) rfl j (rfl) (hj) (by decide) d_PB_discount_46 ?_
              refine lv_iconst (v := 3) hx hb d_PB_discount_47 (by decide) ?_
              refine lv_icmp_lt (tgt := 53) hx hb d_PB_discount_48 (by decide) (fun c_48 => ?_) (fun c_48 => ?_)
              · skip
                refine lv_aload_n hx hb d_PB_discount_53 rfl (lv_at hl 0 rfl) ?_
                refine va_get (D := D) (ci := iPB) (v := .ref (κ 29)) (C := R_PB) (T := F_PB) (N := 11) hx hb (fl_PB hg) (fun _ h9 => h9) hown hK hP 0 (hI.1) rfl 6 (by decide) (hg _ k_94) (fun _ h9 => h9) rfl d_PB_discount_54 ?_
                refine lv_iload_n hx hb d_PB_discount_57 rfl (lv_at hl 1 rfl) ?_
                refine gx_al hx hb hK hP 29 3 (hI.2.2.2.2.2.1 3 (by decide)) rfl rfl k (v := ra 3 k) (rfl) (hk) (by decide) (if_pos (hk)) d_PB_discount_58 ?_
                refine lv_iload_n hx hb d_PB_discount_59 rfl (lv_at hl 2 rfl) ?_
                refine lv_dup2_11 hx hb d_PB_discount_60 rfl rfl ?_
                refine gx_il hx hb hK hP (cb_gp 3 + 1 + k) 0 (hI.2.2.2.2.2.2 3 (by decide) k (hk)) rfl j (rfl) (hj) (by decide) d_PB_discount_61 ?_
                refine lv_iconst (v := 1) hx hb d_PB_discount_62 (by decide) ?_
                refine lv_iadd hx hb d_PB_discount_63 ?_
                refine gx_is hx hb hK hP hD hS (cb_gp 3 + 1 + k) 0 (hI.2.2.2.2.2.2 3 (by decide) k (hk)) rfl j (rfl) (hj) (by decide) d_PB_discount_64 (fun H locs hP hD hS => ?_)
                obtain ⟨w_1, ew_1⟩ : ∃ x : va_W, x = ws.set (cb_gp 3 + 1 + k) (ra 3 k, .inl (cI, cb_wd 3, .inl (upd (G 3 k) j (((G 3 k) j) + 1)))) := ⟨_, rfl⟩
                replace hP : va_P D classes w_1 H := by rw [ew_1]; exact hP
                replace hD : va_D (va_A ws sz) w_1 := by rw [ew_1]; exact hD
                replace hI : cb_I cI cC cJ cII w_1 κ ra z sg (cb_upg G 3 k (upd (G 3 k) j (((G 3 k) j) + 1))) we pd := by rw [ew_1]; exact cb_I.row (by decide) (hk) hI
                replace hH : cb_hi ws w_1 := by rw [ew_1]; exact cb_hi.set (by have := cb_gp_lt 3 (by decide) k (hk); omega) hH
                refine lv_aload_n hx hb d_PB_discount_65 rfl (lv_at hl 0 rfl) ?_
                refine va_get (D := D) (ci := iPB) (v := .ref (κ 40)) (C := R_PB) (T := F_PB) (N := 11) hx hb (fl_PB hg) (fun _ h9 => h9) hown hK hP 0 (hI.1) rfl 7 (by decide) (hg _ k_95) (fun _ h9 => h9) rfl d_PB_discount_66 ?_
                refine lv_iload_n hx hb d_PB_discount_69 rfl (lv_at hl 1 rfl) ?_
                refine gx_al hx hb hK hP 40 3 (hI.2.2.2.2.2.1 4 (by decide)) rfl rfl k (v := ra 4 k) (rfl) (hk) (by decide) (if_pos (hk)) d_PB_discount_70 ?_
                refine lv_iload_n hx hb d_PB_discount_71 rfl (lv_at hl 2 rfl) ?_
                refine lv_dup2_11 hx hb d_PB_discount_72 rfl rfl ?_
                refine gx_il hx hb hK hP (cb_gp 4 + 1 + k) 0 (hI.2.2.2.2.2.2 4 (by decide) k (hk)) rfl j (rfl) (hj) (by decide) d_PB_discount_73 ?_
                refine lv_iload hx hb d_PB_discount_74 (lv_at hl 4 rfl) ?_
                refine lv_iload_n hx hb d_PB_discount_76 rfl (lv_at hl 3 rfl) ?_
                refine lv_isub hx hb d_PB_discount_77 ?_
                refine lv_imul hx hb d_PB_discount_78 ?_
                refine gx_is hx hb hK hP hD hS (cb_gp 4 + 1 + k) 0 (hI.2.2.2.2.2.2 4 (by decide) k (hk)) rfl j (rfl) (hj) (by decide) d_PB_discount_79 (fun H locs hP hD hS => ?_)
                obtain ⟨w_2, ew_2⟩ : ∃ x : va_W, x = w_1.set (cb_gp 4 + 1 + k) (ra 4 k, .inl (cI, cb_wd 4, .inl (upd (G 4 k) j (((G 4 k) j) * (p3 - p2))))) := ⟨_, rfl⟩
                replace hP : va_P D classes w_2 H := by rw [ew_2]; exact hP
                replace hD : va_D (va_A ws sz) w_2 := by rw [ew_2]; exact hD
                replace hI : cb_I cI cC cJ cII w_2 κ ra z sg (cb_upg (cb_upg G 3 k (upd (G 3 k) j (((G 3 k) j) + 1))) 4 k (upd (G 4 k) j (((G 4 k) j) * (p3 - p2)))) we pd := by rw [ew_2]; exact cb_I.row (by decide) (hk) hI
                replace hH : cb_hi ws w_2 := by rw [ew_2]; exact cb_hi.set (by have := cb_gp_lt 4 (by decide) k (hk); omega) hH
                refine lv_aload_n hx hb d_PB_discount_80 rfl (lv_at hl 0 rfl) ?_
                refine va_get (D := D) (ci := iPB) (v := .ref (κ 51)) (C := R_PB) (T := F_PB) (N := 11) hx hb (fl_PB hg) (fun _ h9 => h9) hown hK hP 0 (hI.1) rfl 8 (by decide) (hg _ k_96) (fun _ h9 => h9) rfl d_PB_discount_81 ?_
                refine lv_iload_n hx hb d_PB_discount_84 rfl (lv_at hl 1 rfl) ?_
                refine gx_al hx hb hK hP 51 3 (hI.2.2.2.2.2.1 5 (by decide)) rfl rfl k (v := ra 5 k) (rfl) (hk) (by decide) (if_pos (hk)) d_PB_discount_85 ?_
                refine lv_iload_n hx hb d_PB_discount_86 rfl (lv_at hl 2 rfl) ?_
                refine lv_dup2_11 hx hb d_PB_discount_87 rfl rfl ?_
                refine gx_il hx hb hK hP (cb_gp 5 + 1 + k) 0 (hI.2.2.2.2.2.2 5 (by decide) k (hk)) rfl j (rfl) (hj) (by decide) d_PB_discount_88 ?_
                refine lv_iload hx hb d_PB_discount_89 (lv_at hl 4 rfl) ?_
                refine lv_imul hx hb d_PB_discount_91 ?_
                refine gx_is hx hb hK hP hD hS (cb_gp 5 + 1 + k) 0 (hI.2.2.2.2.2.2 5 (by decide) k (hk)) rfl j (rfl) (hj) (by decide) d_PB_discount_92 (fun H locs hP hD hS => ?_)
                obtain ⟨w_3, ew_3⟩ : ∃ x : va_W, x = w_2.set (cb_gp 5 + 1 + k) (ra 5 k, .inl (cI, cb_wd 5, .inl (upd (G 5 k) j (((G 5 k) j) * p3)))) := ⟨_, rfl⟩
                replace hP : va_P D classes w_3 H := by rw [ew_3]; exact hP
                replace hD : va_D (va_A ws sz) w_3 := by rw [ew_3]; exact hD
                replace hI : cb_I cI cC cJ cII w_3 κ ra z sg (cb_upg (cb_upg (cb_upg G 3 k (upd (G 3 k) j (((G 3 k) j) + 1))) 4 k (upd (G 4 k) j (((G 4 k) j) * (p3 - p2)))) 5 k (upd (G 5 k) j (((G 5 k) j) * p3))) we pd := by rw [ew_3]; exact cb_I.row (by decide) (hk) hI
                replace hH : cb_hi ws w_3 := by rw [ew_3]; exact cb_hi.set (by have := cb_gp_lt 5 (by decide) k (hk); omega) hH
                refine lv_iconst (v := 1) hx hb d_PB_discount_93 (by decide) ?_
                exact gx_iret hx hb hr hlocks rfl hS hP hD (by decide) (by decide) d_PB_discount_94 (Or.inr ⟨rfl, k, j, hk, hj, rfl, rfl, c_17, c_24, c_28, Int32.not_lt.mpr c_34, c_48, hI, hH⟩)
              · skip
                refine lv_iconst (v := 0) hx hb d_PB_discount_51 (by decide) ?_
                exact gx_iret hx hb hr hlocks rfl hS hP hD (by decide) (by decide) d_PB_discount_52 (Or.inl ⟨rfl, rfl, Or.inr ⟨k, j, hk, hj, rfl, rfl, c_17, c_24, c_28, Int32.not_lt.mpr c_34, c_48⟩⟩)
            · skip
              refine lv_iconst (v := 0) hx hb d_PB_discount_37 (by decide) ?_
              exact gx_iret hx hb hr hlocks rfl hS hP hD (by decide) (by decide) d_PB_discount_38 (Or.inl ⟨rfl, rfl, Or.inl (Or.inr (Or.inr (Or.inr (Or.inr (Or.inr (Int32.not_le.mp c_34))))))⟩)
    · skip
      refine lv_if_eq (tgt := 37) hx hb d_PB_discount_11 (by decide) (fun c_11 => ?_) (fun c_11 => absurd c_11 (by decide))
      refine lv_iconst (v := 0) hx hb d_PB_discount_37 (by decide) ?_
      exact gx_iret hx hb hr hlocks rfl hS hP hD (by decide) (by decide) d_PB_discount_38 (Or.inl ⟨rfl, rfl, Or.inl (Or.inr (Or.inl hbad))⟩)
  · skip
    refine lv_if_eq (tgt := 37) hx hb d_PB_discount_4 (by decide) (fun c_4 => ?_) (fun c_4 => absurd c_4 (by decide))
    refine lv_iconst (v := 0) hx hb d_PB_discount_37 (by decide) ?_
    exact gx_iret hx hb hr hlocks rfl hS hP hD (by decide) (by decide) d_PB_discount_38 (Or.inl ⟨rfl, rfl, Or.inl (Or.inl hbad)⟩)

