set_option maxRecDepth 100000 in
set_option maxHeartbeats 4000000 in
theorem c_PB_sign {l : Launch} {s0 : State} {D : va_G} {cI cC cJ cII cO cZ : ClassId} (F : FX l s0 D cI cC cJ cII cO cZ) {ws : va_W} {κ : Nat → Nat} {ra : Nat → Nat → Nat} {z sg : Nat → Int32} {G : Nat → Nat → Nat → Int32} {we : Nat → Int32} {pd : Nat → Int64} (hI : cb_I cI cC cJ cII ws κ ra z sg G we pd) (sz : Nat) (n : Nat) (hn : n ≤ 120) (h0 : z 0 = nI n) (p0 : Int32)  : Met l y_PB_sign [.code y_PB_sign b_PB_sign 2 (some .boolean)] { frames := 1, cells := 0, slots := 0, locals := 40 } (gx_P s0 D classes ws sz [.ref (κ 0), .int p0]) (va_Qi (fun r w1 => (r = 0 ∧ (p0 < 33 ∨ 126 < p0 ∨ n = 120) ∧ w1 = ws) ∨ (r = 1 ∧ ¬ p0 < 33 ∧ ¬ 126 < p0 ∧ n < 120 ∧ cb_I cI cC cJ cII w1 κ ra (upd z 0 (z 0 + 1)) (upd sg n p0) G we pd ∧ cb_hi ws w1)) (gx_B D classes ws sz) (va_A ws sz)) 0 0 (va_A ws sz) := by
  refine gx_met (by decide +kernel) (Nat.le_of_ble_eq_true rfl) ?_
  intro p e s m below meth c ls hx hb hr hml hown hlocks hnm hsz hV hP hD hS hA hA0 hl
  have hg := fx_g F hV ([.ref (κ 0), .int p0] : List Value).toArray
  have hK := fx_k F hV
  have hn9 := fx_n F hV
  have hl : lv_has ls 2 [(0, .ref (κ 0)), (1, .int p0)] := hl
  have hH : cb_hi ws ws := fun _ _ => rfl
  refine lv_aload_n hx hb d_PB_sign_0 rfl (lv_at hl 0 rfl) ?_
  refine va_get (D := D) (ci := iPB) (v := .ref (κ 1)) (C := R_PB) (T := F_PB) (N := 11) hx hb (fl_PB hg) (fun _ h9 => h9) hown hK hP 0 (hI.1) rfl 0 (by decide) (hg _ k_88) (fun _ h9 => h9) rfl d_PB_sign_1 ?_
  refine lv_iload_n hx hb d_PB_sign_4 rfl (lv_at hl 1 rfl) ?_
  refine gx_calli (va_runVN (As := [.int p0]) (rest := []) ⟨hx, hb, hml, hown, gx_nil⟩ (c_TT_takes F hI _ n hn h0 p0) ⟨gx_cn (hg _ k_130) (hg _ k_2) (hn9 _ kn_127) nd_TT_takes ⟨by decide, by decide⟩, hg _ k_129, hg _ ks_0⟩ (gx_preV hV hP hD hS hA0 (va_recv hK hP rfl (hI.2.1))) rfl rfl hl.1 rfl (lv_room (Nat.le_of_ble_eq_true rfl)) d_PB_sign_5 ⟨by decide, by decide⟩) hD hS hA (fun r_5 w1 H locs h_5 hP hD hS => ?_)
  exact gx_iret hx hb hr hlocks (by rcases h_5 with ⟨q, -⟩ | ⟨q, -⟩ <;> (rw [q]; rfl)) hS hP hD (by decide) (by decide) d_PB_sign_8 (h_5)

set_option maxRecDepth 100000 in
set_option maxHeartbeats 4000000 in
theorem c_PB_takeOverTariffs {l : Launch} {s0 : State} {D : va_G} {cI cC cJ cII cO cZ : ClassId} (F : FX l s0 D cI cC cJ cII cO cZ) {ws : va_W} {κ : Nat → Nat} {ra : Nat → Nat → Nat} {z sg : Nat → Int32} {G : Nat → Nat → Nat → Int32} {we : Nat → Int32} {pd : Nat → Int64} (hI : cb_I cI cC cJ cII ws κ ra z sg G we pd) (sz : Nat) (mb : Nat) (hm : mb < 64) (h2 : z 2 = nI mb)  : Met l y_PB_takeOverTariffs [.code y_PB_takeOverTariffs b_PB_takeOverTariffs 2 none] { frames := 1, cells := 0, slots := 0, locals := 60 } (gx_P s0 D classes ws sz [.ref (κ 0)]) (va_Qv (fun w1 => ∃ G' : Nat → Nat → Nat → Int32, cb_I cI cC cJ cII w1 κ ra (upd z 3 (z 3 ||| z 2)) sg G' we pd ∧ cb_hi ws w1 ∧ (∀ g, g ≠ 1 → G' g = G g) ∧ ∀ k, k < 6 → ∀ j, j < 4 → G' 1 k j = if mb.testBit k = true then G 0 k j else G 1 k j) (gx_B D classes ws sz) (va_A ws sz)) 0 0 (va_A ws sz) := by
  refine gx_met (by decide +kernel) (Nat.le_of_ble_eq_true rfl) ?_
  intro p e s m below meth c ls hx hb hr hml hown hlocks hnm hsz hV hP hD hS hA hA0 hl
  have hg := fx_g F hV ([.ref (κ 0)] : List Value).toArray
  have hK := fx_k F hV
  have hn9 := fx_n F hV
  have hl : lv_has ls 2 [(0, .ref (κ 0))] := hl
  have hH : cb_hi ws ws := fun _ _ => rfl
  refine lv_iconst (v := 0) hx hb d_PB_takeOverTariffs_0 (by decide) ?_
  refine lv_istore_n (lv' := [(1, .int 0), (0, .ref (κ 0))]) hx hb d_PB_takeOverTariffs_1 rfl hl (by decide) rfl (fun ls hl => ?_)
  have loop : ∀ (nn : Nat) (i : Nat) (G' : Nat → Nat → Nat → Int32) (wx : va_W) (H : Heap) (locs : List Loc) (ls : Array Slot) (hi : i ≤ 6) (hf : 7 ≤ i + nn) (hG : ∀ g, g ≠ 1 → G' g = G g) (hG1 : ∀ k, G' 1 k = if k < i ∧ mb.testBit k = true then va_cpy (G 0 k) (G 1 k) 0 0 4 else G 1 k) (hI : cb_I cI cC cJ cII wx κ ra z sg G' we pd) (hH : cb_hi ws wx) (hP : va_P D classes wx H) (hD : va_D (va_A ws sz) wx) (hS : va_S (va_A ws sz) s.heap H locs) (hl : lv_has ls 2 [(1, .int (nI i)), (0, .ref (κ 0))]), W p l e ({ frames := 1, cells := 0, slots := 0, locals := 60 } : Room) s m ([.ref (κ 0)] : List Value).toArray below meth c H locs 0 0 (MQ below (va_Qv (fun w1 => ∃ G' : Nat → Nat → Nat → Int32, cb_I cI cC cJ cII w1 κ ra (upd z 3 (z 3 ||| z 2)) sg G' we pd ∧ cb_hi ws w1 ∧ (∀ g, g ≠ 1 → G' g = G g) ∧ ∀ k, k < 6 → ∀ j, j < 4 → G' 1 k j = if mb.testBit k = true then G 0 k j else G 1 k j) (gx_B D classes ws sz) (va_A ws sz)) ([.ref (κ 0)] : List Value).toArray s 0 0 (va_A ws sz)) (F0 m 2 ls []) := by
    intro nn
    induction nn with
    | zero =>
      intro i G' wx H locs ls hi hf hG hG1 hI hH hP hD hS hl
      exact absurd hf (by omega)
    | succ nn ih =>
      intro i G' wx H locs ls hi hf hG hG1 hI hH hP hD hS hl
      refine lv_iload_n hx hb d_PB_takeOverTariffs_2 rfl (lv_at hl 0 rfl) ?_
      refine lv_bipush (v := 6) hx hb d_PB_takeOverTariffs_3 (by decide) ?_
      refine lv_icmp_ge (tgt := 50) hx hb d_PB_takeOverTariffs_5 (by decide) (fun c_5 => ?_) (fun c_5 => ?_)
      · skip
        have hi6 : i = 6 := by have := gx_ngt (a := 6) c_5; omega
        refine lv_aload_n hx hb d_PB_takeOverTariffs_50 rfl (lv_at hl 1 rfl) ?_
        refine lv_dup hx hb d_PB_takeOverTariffs_51 rfl ?_
        refine va_get (D := D) (ci := iPB) (v := .int (z 3)) (C := R_PB) (T := F_PB) (N := 11) hx hb (fl_PB hg) (fun _ h9 => h9) hown hK hP 0 (hI.1) rfl 2 (by decide) (hg _ k_90) (fun _ h9 => h9) rfl d_PB_takeOverTariffs_52 ?_
        refine lv_aload_n hx hb d_PB_takeOverTariffs_55 rfl (lv_at hl 1 rfl) ?_
        refine va_get (D := D) (ci := iPB) (v := .ref (κ 1)) (C := R_PB) (T := F_PB) (N := 11) hx hb (fl_PB hg) (fun _ h9 => h9) hown hK hP 0 (hI.1) rfl 0 (by decide) (hg _ k_88) (fun _ h9 => h9) rfl d_PB_takeOverTariffs_56 ?_
        refine va_getN (D := D) (ci := iTT) (v := .int (z 2)) (C := R_TT) (T := F_TT) (N := 5) hx hb (fl_TT hg) (fun _ h9 => h9) hown hK hP 1 (hI.2.1) rfl 4 (by decide) (va_Nw.use rfl (hn9 _ kn_44)) (fun _ h9 => h9) rfl d_PB_takeOverTariffs_59 ?_
        refine lv_ior hx hb d_PB_takeOverTariffs_62 ?_
        refine va_put (D := D) (ci := iPB) (v := .int ((z 3) ||| (z 2))) (ty := .int) (C := R_PB) (T := F_PB) (N := 11) hx hb (fl_PB hg) (fun _ h9 => h9) t_PB t_PB_ok n_PB hown hK hP hD hS 0 (hI.1) rfl 2 (by decide) (hg _ k_90) (fun _ h9 => h9) rfl (by decide +kernel) rfl rfl (Nat.le_of_ble_eq_true rfl) d_PB_takeOverTariffs_63 (fun H locs hP hD hS => ?_)
        obtain ⟨w_1, ew_1⟩ : ∃ x : va_W, x = wx.set 0 (κ 0, .inr (iPB, [.ref (κ 1), .ref (κ 10), .int ((z 3) ||| (z 2)), .ref (κ 17), .ref (κ 28), .int (z 4), .ref (κ 29), .ref (κ 40), .ref (κ 51), .ref (κ 62), .ref (κ 63)])) := ⟨_, rfl⟩
        replace hP : va_P D classes w_1 H := by rw [ew_1]; exact hP
        replace hD : va_D (va_A ws sz) w_1 := by rw [ew_1]; exact hD
        replace hI : cb_I cI cC cJ cII w_1 κ ra (upd z 3 ((z 3) ||| (z 2))) sg G' we pd := by rw [ew_1]; exact cb_I.obj (z := z) (z' := upd z 3 ((z 3) ||| (z 2))) rfl rfl rfl hI
        replace hH : cb_hi ws w_1 := by rw [ew_1]; exact cb_hi.set (by decide) hH
        exact gx_vret hx hb hr hlocks hS hP hD (by decide) (by decide) d_PB_takeOverTariffs_66 (⟨G', hI, hH, hG, fun k hk j hj => by rw [hG1 k, hi6]; exact cb_tk_e hk hj⟩)
      · skip
        have hi6 : i < 6 := gx_nlt (a := 6) c_5
        refine lv_aload_n hx hb d_PB_takeOverTariffs_8 rfl (lv_at hl 1 rfl) ?_
        refine va_get (D := D) (ci := iPB) (v := .ref (κ 1)) (C := R_PB) (T := F_PB) (N := 11) hx hb (fl_PB hg) (fun _ h9 => h9) hown hK hP 0 (hI.1) rfl 0 (by decide) (hg _ k_88) (fun _ h9 => h9) rfl d_PB_takeOverTariffs_9 ?_
        refine va_getN (D := D) (ci := iTT) (v := .int (z 2)) (C := R_TT) (T := F_TT) (N := 5) hx hb (fl_TT hg) (fun _ h9 => h9) hown hK hP 1 (hI.2.1) rfl 4 (by decide) (va_Nw.use rfl (hn9 _ kn_44)) (fun _ h9 => h9) rfl d_PB_takeOverTariffs_12 ?_
        refine lv_iload_n hx hb d_PB_takeOverTariffs_15 rfl (lv_at hl 0 rfl) ?_
        refine lv_ishr hx hb d_PB_takeOverTariffs_16 ?_
        refine lv_iconst (v := 1) hx hb d_PB_takeOverTariffs_17 (by decide) ?_
        refine lv_iand hx hb d_PB_takeOverTariffs_18 ?_
        refine lv_iconst (v := 1) hx hb d_PB_takeOverTariffs_19 (by decide) ?_
        refine lv_icmp_ne (tgt := 44) hx hb d_PB_takeOverTariffs_20 (by decide) (fun c_20 => ?_) (fun c_20 => ?_)
        · skip
          rw [h2] at c_20
          have hbit : ¬ mb.testBit i = true := fun q => c_20 ((cb_bit mb hm i hi6).mpr q)
          refine lv_iinc (v := nI (i + 1)) (lv' := [(1, .int (nI (i + 1))), (0, .ref (κ 0))]) hx hb d_PB_takeOverTariffs_44 hl (k := 0) rfl (by rw [lit1]; exact nI_1 i) (by decide) rfl (fun ls hl => ?_)
          refine lv_goto (tgt := 2) hx hb d_PB_takeOverTariffs_47 (by decide) ?_
          exact ih (i + 1) G' _ _ _ ls (by omega) (by omega) hG (cb_tk_n hG1 hbit) hI hH hP hD hS (lv_sub hl [0, 1] rfl)
        · skip
          rw [h2] at c_20
          have hbit : mb.testBit i = true := (cb_bit mb hm i hi6).mp c_20
          refine lv_aload_n hx hb d_PB_takeOverTariffs_23 rfl (lv_at hl 1 rfl) ?_
          refine va_get (D := D) (ci := iPB) (v := .ref (κ 1)) (C := R_PB) (T := F_PB) (N := 11) hx hb (fl_PB hg) (fun _ h9 => h9) hown hK hP 0 (hI.1) rfl 0 (by decide) (hg _ k_88) (fun _ h9 => h9) rfl d_PB_takeOverTariffs_24 ?_
          refine va_getN (D := D) (ci := iTT) (v := .ref (κ 3)) (C := R_TT) (T := F_TT) (N := 5) hx hb (fl_TT hg) (fun _ h9 => h9) hown hK hP 1 (hI.2.1) rfl 3 (by decide) (va_Nw.use rfl (hn9 _ kn_42)) (fun _ h9 => h9) rfl d_PB_takeOverTariffs_27 ?_
          refine lv_iload_n hx hb d_PB_takeOverTariffs_30 rfl (lv_at hl 0 rfl) ?_
          refine gx_al hx hb hK hP 3 3 (hI.2.2.2.2.2.1 0 (by decide)) rfl rfl i (v := ra 0 i) (rfl) (hi6) (by decide) (if_pos (hi6)) d_PB_takeOverTariffs_31 ?_
          refine lv_iconst (v := 0) hx hb d_PB_takeOverTariffs_32 (by decide) ?_
          refine lv_aload_n hx hb d_PB_takeOverTariffs_33 rfl (lv_at hl 1 rfl) ?_
          refine va_get (D := D) (ci := iPB) (v := .ref (κ 10)) (C := R_PB) (T := F_PB) (N := 11) hx hb (fl_PB hg) (fun _ h9 => h9) hown hK hP 0 (hI.1) rfl 1 (by decide) (hg _ k_89) (fun _ h9 => h9) rfl d_PB_takeOverTariffs_34 ?_
          refine lv_iload_n hx hb d_PB_takeOverTariffs_37 rfl (lv_at hl 0 rfl) ?_
          refine gx_al hx hb hK hP 10 3 (hI.2.2.2.2.2.1 1 (by decide)) rfl rfl i (v := ra 1 i) (rfl) (hi6) (by decide) (if_pos (hi6)) d_PB_takeOverTariffs_38 ?_
          refine lv_iconst (v := 0) hx hb d_PB_takeOverTariffs_39 (by decide) ?_
          refine lv_iconst (v := 4) hx hb d_PB_takeOverTariffs_40 (by decide) ?_
          refine va_copyi hx hb (by rw [hml]; exact hl.1.symm) hown (hg _ k_165) (hg _ k_167) (hg _ k_166) (hg _ k_8) hK hP hD hS (cb_gp 0 + 1 + i) (cb_gp 1 + 1 + i) 0 0 (hI.2.2.2.2.2.2 0 (by decide) i hi6) (hI.2.2.2.2.2.2 1 (by decide) i hi6) rfl rfl rfl (by decide) (by decide) (by decide) (by decide) (by decide) (fun _ _ => rfl) (by decide) (by decide) d_PB_takeOverTariffs_41 (fun H locs hP hD hS => ?_)
          obtain ⟨w_2, ew_2⟩ : ∃ x : va_W, x = wx.set (cb_gp 1 + 1 + i) (ra 1 i, .inl (cI, cb_wd 1, .inl (va_cpy (G' 0 i) (G' 1 i) 0 0 4))) := ⟨_, rfl⟩
          replace hP : va_P D classes w_2 H := by rw [ew_2]; exact hP
          replace hD : va_D (va_A ws sz) w_2 := by rw [ew_2]; exact hD
          replace hI : cb_I cI cC cJ cII w_2 κ ra z sg (cb_upg G' 1 i (va_cpy (G' 0 i) (G' 1 i) 0 0 4)) we pd := by rw [ew_2]; exact cb_I.row (by decide) (hi6) hI
          replace hH : cb_hi ws w_2 := by rw [ew_2]; exact cb_hi.set (by have := cb_gp_lt 1 (by decide) i (hi6); omega) hH
          refine lv_iinc (v := nI (i + 1)) (lv' := [(1, .int (nI (i + 1))), (0, .ref (κ 0))]) hx hb d_PB_takeOverTariffs_44 hl (k := 0) rfl (by rw [lit1]; exact nI_1 i) (by decide) rfl (fun ls hl => ?_)
          refine lv_goto (tgt := 2) hx hb d_PB_takeOverTariffs_47 (by decide) ?_
          exact ih (i + 1) _ _ _ _ ls (by omega) (by omega) (fun g hg9 => by rw [cb_gk1 g hg9]; exact hG g hg9) (cb_tk_s hG hG1 hbit) hI hH hP hD hS (lv_sub hl [0, 1] rfl)
  exact loop 7 0 G ws s.heap [] ls (by decide) (by decide) (fun _ _ => rfl) (fun k => (if_neg (fun q => absurd q.1 (by omega))).symm) hI hH hP hD hS (lv_sub hl [0, 1] rfl)

set_option maxRecDepth 100000 in
set_option maxHeartbeats 4000000 in
theorem c_PB_read {l : Launch} {s0 : State} {D : va_G} {cI cC cJ cII cO cZ : ClassId} (F : FX l s0 D cI cC cJ cII cO cZ) {ws : va_W} {κ : Nat → Nat} {ra : Nat → Nat → Nat} {z sg : Nat → Int32} {G : Nat → Nat → Nat → Int32} {we : Nat → Int32} {pd : Nat → Int64} (hI : cb_I cI cC cJ cII ws κ ra z sg G we pd) (sz : Nat) (n : Nat) (hn : n ≤ 120) (h0 : z 0 = nI n) (hc : ∀ j, narrow .char (.int (sg j)) = .int (sg j))  : Met l y_PB_read [.code y_PB_read b_PB_read 2 (some .int)] { frames := 5, cells := 0, slots := 0, locals := 200 } (gx_P s0 D classes ws sz [.ref (κ 0)]) (va_Qi (fun r w1 => r = (cb_rows sg n 40 0 0 0 (fun _ _ => 0)).1 ∧ ∃ (z' : Nat → Int32) (G' : Nat → Nat → Nat → Int32) (mb : Nat) (R : Nat → Nat → Int32), cb_rows sg n 40 0 0 0 (fun _ _ => 0) = (r, mb, R) ∧ (0 < r → z' 3 = z 3 ||| nI mb ∧ mb < 64 ∧ ∀ k, k < 6 → ∀ j, j < 4 → G' 1 k j = if mb.testBit k = true then R k j else G 1 k j) ∧ (¬ 0 < r → z' 3 = z 3 ∧ G' 1 = G 1) ∧ cb_I cI cC cJ cII w1 κ ra z' sg G' we pd ∧ cb_hi ws w1 ∧ z' 0 = 0 ∧ z' 4 = z 4 ∧ z' 5 = z 5 ∧ (∀ g, 2 ≤ g → G' g = G g)) (gx_B D classes ws sz) (va_A ws sz)) 0 0 (va_A ws sz) := by
  refine gx_met (by decide +kernel) (Nat.le_of_ble_eq_true rfl) ?_
  intro p e s m below meth c ls hx hb hr hml hown hlocks hnm hsz hV hP hD hS hA hA0 hl
  have hg := fx_g F hV ([.ref (κ 0)] : List Value).toArray
  have hK := fx_k F hV
  have hn9 := fx_n F hV
  have hl : lv_has ls 2 [(0, .ref (κ 0))] := hl
  have hH : cb_hi ws ws := fun _ _ => rfl
  refine lv_aload_n hx hb d_PB_read_0 rfl (lv_at hl 0 rfl) ?_
  refine va_get (D := D) (ci := iPB) (v := .ref (κ 1)) (C := R_PB) (T := F_PB) (N := 11) hx hb (fl_PB hg) (fun _ h9 => h9) hown hK hP 0 (hI.1) rfl 0 (by decide) (hg _ k_88) (fun _ h9 => h9) rfl d_PB_read_1 ?_
  refine gx_calli (va_runVN (As := []) (rest := []) ⟨hx, hb, hml, hown, gx_nil⟩ (c_TT_readRows F hI _ n hn h0 hc) ⟨gx_cn (hg _ k_138) (hg _ k_2) (hn9 _ kn_135) nd_TT_readRows ⟨by decide, by decide⟩, hg _ k_137, hg _ ks_1⟩ (gx_preV hV hP hD hS hA0 (va_recv hK hP rfl (hI.2.1))) rfl rfl hl.1 rfl (lv_room (Nat.le_of_ble_eq_true rfl)) d_PB_read_4 ⟨by decide, by decide⟩) hD hS hA (fun r_4 w1 H locs h_4 hP hD hS => ?_)
  obtain ⟨hans, z1, G1, mb, R, hrows, hpos, hI, hH, hz, hG⟩ := h_4
  refine lv_istore_n (lv' := [(1, .int r_4), (0, .ref (κ 0))]) hx hb d_PB_read_7 rfl hl (by decide) rfl (fun ls hl => ?_)
  refine lv_iload_n hx hb d_PB_read_8 rfl (lv_at hl 0 rfl) ?_
  refine lv_if_le (tgt := 16) hx hb d_PB_read_9 (by decide) (fun c_9 => ?_) (fun c_9 => ?_)
  · skip
    refine lv_aload_n hx hb d_PB_read_16 rfl (lv_at hl 1 rfl) ?_
    refine va_get (D := D) (ci := iPB) (v := .ref (κ 1)) (C := R_PB) (T := F_PB) (N := 11) hx hb (fl_PB hg) (fun _ h9 => h9) hown hK hP 0 (hI.1) rfl 0 (by decide) (hg _ k_88) (fun _ h9 => h9) rfl d_PB_read_17 ?_
    refine gx_callv (va_runVN (As := []) (rest := []) ⟨hx, hb, hml, hown, gx_nil⟩ (c_TT_clear F hI _) ⟨gx_cn (hg _ k_171) (hg _ k_2) (hn9 _ kn_168) nd_TT_clear ⟨by decide, by decide⟩, hg _ k_170, hg _ ks_7⟩ (gx_preV hV hP hD hS hA0 (va_recv hK hP rfl (hI.2.1))) rfl rfl hl.1 rfl (lv_room (Nat.le_of_ble_eq_true rfl)) d_PB_read_20 ⟨by decide, by decide⟩) hD hS hA (fun w1 H locs h_20 hP hD hS => ?_)
    obtain ⟨hI, hh⟩ := h_20
    replace hH := cb_hi.trans hH hh
    refine lv_iload_n hx hb d_PB_read_23 rfl (lv_at hl 0 rfl) ?_
    exact gx_iret hx hb hr hlocks rfl hS hP hD (by decide) (by decide) d_PB_read_24 (⟨hans, upd z1 0 0, G1, mb, R, hrows, fun q => absurd q (gx_neg9 c_9), fun _ => ⟨hz.2.1, hG 1 (by decide)⟩, hI, hH, rfl, hz.2.2.1, hz.2.2.2, fun g hg9 => hG g (by omega)⟩)
  · skip
    refine lv_aload_n hx hb d_PB_read_12 rfl (lv_at hl 1 rfl) ?_
    refine gx_callv (va_runV (As := []) (rest := []) ⟨hx, hb, hml, hown, gx_nil⟩ (c_PB_takeOverTariffs F hI _ mb (hpos (gx_pos9 c_9)).2.1 (hpos (gx_pos9 c_9)).1) ⟨gx_cb (hg _ k_164) (hg _ k_1) (hg _ k_161) nd_PB_takeOverTariffs ⟨by decide, by decide⟩, hg _ k_163, hg _ ks_6⟩ (gx_preV hV hP hD hS hA0 (va_recv hK hP rfl (hI.1))) rfl rfl hl.1 rfl (lv_room (Nat.le_of_ble_eq_true rfl)) d_PB_read_13 ⟨by decide, by decide⟩) hD hS hA (fun w1 H locs h_13 hP hD hS => ?_)
    obtain ⟨G2, hI, hh, hG2, hG21⟩ := h_13
    replace hH := cb_hi.trans hH hh
    refine lv_aload_n hx hb d_PB_read_16 rfl (lv_at hl 1 rfl) ?_
    refine va_get (D := D) (ci := iPB) (v := .ref (κ 1)) (C := R_PB) (T := F_PB) (N := 11) hx hb (fl_PB hg) (fun _ h9 => h9) hown hK hP 0 (hI.1) rfl 0 (by decide) (hg _ k_88) (fun _ h9 => h9) rfl d_PB_read_17 ?_
    refine gx_callv (va_runVN (As := []) (rest := []) ⟨hx, hb, hml, hown, gx_nil⟩ (c_TT_clear F hI _) ⟨gx_cn (hg _ k_171) (hg _ k_2) (hn9 _ kn_168) nd_TT_clear ⟨by decide, by decide⟩, hg _ k_170, hg _ ks_7⟩ (gx_preV hV hP hD hS hA0 (va_recv hK hP rfl (hI.2.1))) rfl rfl hl.1 rfl (lv_room (Nat.le_of_ble_eq_true rfl)) d_PB_read_20 ⟨by decide, by decide⟩) hD hS hA (fun w1 H locs h_20 hP hD hS => ?_)
    obtain ⟨hI, hh⟩ := h_20
    replace hH := cb_hi.trans hH hh
    refine lv_iload_n hx hb d_PB_read_23 rfl (lv_at hl 0 rfl) ?_
    have hT9 : ∀ k, k < 6 → ∀ j, j < 4 → G2 1 k j = if mb.testBit k = true then R k j else G 1 k j := by
      intro k hk j hj
      rw [hG21 k hk j hj]
      by_cases q : mb.testBit k = true
      · rw [if_pos q, if_pos q]; exact (hpos (gx_pos9 c_9)).2.2 k hk q j hj
      · rw [if_neg q, if_neg q, hG 1 (by decide)]
    exact gx_iret hx hb hr hlocks rfl hS hP hD (by decide) (by decide) d_PB_read_24 (⟨hans, upd (upd z1 3 (z1 3 ||| z1 2)) 0 0, G2, mb, R, hrows, fun _ => ⟨by show z1 3 ||| z1 2 = _; rw [hz.2.1, (hpos (gx_pos9 c_9)).1], (hpos (gx_pos9 c_9)).2.1, hT9⟩, fun q => absurd (gx_pos9 c_9) q, hI, hH, rfl, hz.2.2.1, hz.2.2.2, fun g hg9 => by rw [hG2 g (by omega)]; exact hG g (by omega)⟩)

