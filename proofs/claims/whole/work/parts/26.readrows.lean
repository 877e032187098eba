set_option maxRecDepth 100000 in
set_option maxHeartbeats 4000000 in
theorem c_TT_readRows {l : Launch} {s0 : State} {D : va_G} {cI cC cJ cII cO cZ : ClassId} (F : FX l s0 D cI cC cJ cII cO cZ) {ws : va_W} {κ : Nat → Nat} {ra : Nat → Nat → Nat} {z sg : Nat → Int32} {G : Nat → Nat → Nat → Int32} {we : Nat → Int32} {pd : Nat → Int64} (hI : cb_I cI cC cJ cII ws κ ra z sg G we pd) (sz : Nat) (n : Nat) (hn : n ≤ 120) (h0 : z 0 = nI n) (hc : ∀ j, narrow .char (.int (sg j)) = .int (sg j))  : Met l y_TT_readRows [.code y_TT_readRows b_TT_readRows 2 (some .int)] { frames := 4, cells := 0, slots := 0, locals := 160 } (gx_P s0 D classes ws sz [.ref (κ 1)]) (va_Qi (fun r w1 => r = (cb_rows sg n 40 0 0 0 (fun _ _ => 0)).1 ∧ ∃ (z' : Nat → Int32) (G' : Nat → Nat → Nat → Int32) (mb : Nat) (R : Nat → Nat → Int32), cb_rows sg n 40 0 0 0 (fun _ _ => 0) = (r, mb, R) ∧ (0 < r → z' 2 = nI mb ∧ mb < 64 ∧ cb_rk mb R G') ∧ cb_I cI cC cJ cII w1 κ ra z' sg G' we pd ∧ cb_hi ws w1 ∧ (z' 0 = z 0 ∧ z' 3 = z 3 ∧ z' 4 = z 4 ∧ z' 5 = z 5) ∧ (∀ g, g ≠ 0 → G' g = G g)) (gx_B D classes ws sz) (va_A ws sz)) 0 0 (va_A ws sz) := by
  refine gx_met (by decide +kernel) (Nat.le_of_ble_eq_true rfl) ?_
  intro p e s m below meth c ls hx hb hr hml hown hlocks hnm hsz hV hP hD hS hA hA0 hl
  have hg := fx_g F hV ([.ref (κ 1)] : List Value).toArray
  have hK := fx_k F hV
  have hn9 := fx_n F hV
  have hl : lv_has ls 2 [(0, .ref (κ 1))] := hl
  have hH : cb_hi ws ws := fun _ _ => rfl
  refine lv_aload_n hx hb d_TT_readRows_0 rfl (lv_at hl 0 rfl) ?_
  refine lv_iconst (v := 0) hx hb d_TT_readRows_1 (by decide) ?_
  refine va_put (D := D) (ci := iTT) (v := .int 0) (ty := .int) (C := R_TT) (T := F_TT) (N := 5) hx hb (fl_TT hg) (fun _ h9 => h9) t_TT t_TT_ok n_TT hown hK hP hD hS 1 (hI.2.1) rfl 2 (by decide) (hg _ k_40) (fun _ h9 => h9) rfl (by decide +kernel) rfl rfl (Nat.le_of_ble_eq_true rfl) d_TT_readRows_2 (fun H locs hP hD hS => ?_)
  obtain ⟨w_1, ew_1⟩ : ∃ x : va_W, x = ws.set 1 (κ 1, .inr (iTT, [.ref (κ 2), .int (z 0), .int 0, .ref (κ 3), .int (z 2)])) := ⟨_, rfl⟩
  replace hP : va_P D classes w_1 H := by rw [ew_1]; exact hP
  replace hD : va_D (va_A ws sz) w_1 := by rw [ew_1]; exact hD
  replace hI : cb_I cI cC cJ cII w_1 κ ra (upd z 1 0) sg G we pd := by rw [ew_1]; exact cb_I.text (z := z) (z' := upd z 1 0) rfl rfl hI
  replace hH : cb_hi ws w_1 := by rw [ew_1]; exact cb_hi.set (by decide) hH
  refine lv_aload_n hx hb d_TT_readRows_5 rfl (lv_at hl 0 rfl) ?_
  refine lv_iconst (v := 0) hx hb d_TT_readRows_6 (by decide) ?_
  refine va_put (D := D) (ci := iTT) (v := .int 0) (ty := .int) (C := R_TT) (T := F_TT) (N := 5) hx hb (fl_TT hg) (fun _ h9 => h9) t_TT t_TT_ok n_TT hown hK hP hD hS 1 (hI.2.1) rfl 4 (by decide) (hg _ k_43) (fun _ h9 => h9) rfl (by decide +kernel) rfl rfl (Nat.le_of_ble_eq_true rfl) d_TT_readRows_7 (fun H locs hP hD hS => ?_)
  obtain ⟨w_2, ew_2⟩ : ∃ x : va_W, x = w_1.set 1 (κ 1, .inr (iTT, [.ref (κ 2), .int (upd z 1 0 0), .int 0, .ref (κ 3), .int 0])) := ⟨_, rfl⟩
  replace hP : va_P D classes w_2 H := by rw [ew_2]; exact hP
  replace hD : va_D (va_A ws sz) w_2 := by rw [ew_2]; exact hD
  replace hI : cb_I cI cC cJ cII w_2 κ ra (upd (upd z 1 0) 2 0) sg G we pd := by rw [ew_2]; exact cb_I.text (z := (upd z 1 0)) (z' := upd (upd z 1 0) 2 0) rfl rfl hI
  replace hH : cb_hi ws w_2 := by rw [ew_2]; exact cb_hi.set (by decide) hH
  refine lv_iconst (v := 0) hx hb d_TT_readRows_10 (by decide) ?_
  refine lv_istore_n (lv' := [(1, .int 0), (0, .ref (κ 1))]) hx hb d_TT_readRows_11 rfl hl (by decide) rfl (fun ls hl => ?_)
  have loop : ∀ (nn : Nat) (a f mb : Nat) (R : Nat → Nat → Int32) (z' : Nat → Int32) (G' : Nat → Nat → Nat → Int32) (wx : va_W) (H : Heap) (locs : List Loc) (ls : Array Slot) (hff : f + nn = 40) (han : a ≤ n) (hm : mb < 64) (hz1 : z' 1 = nI a) (hz2 : z' 2 = nI mb) (hz : (z' 0 = z 0 ∧ z' 3 = z 3 ∧ z' 4 = z 4 ∧ z' 5 = z 5)) (hG : ∀ g, g ≠ 0 → G' g = G g) (hrk : cb_rk mb R G') (hsp : cb_rows sg n nn a f mb R = cb_rows sg n 40 0 0 0 (fun _ _ => 0)) (hI : cb_I cI cC cJ cII wx κ ra z' sg G' we pd) (hH : cb_hi ws wx) (hP : va_P D classes wx H) (hD : va_D (va_A ws sz) wx) (hS : va_S (va_A ws sz) s.heap H locs) (hl : lv_has ls 2 [(1, .int (nI f)), (0, .ref (κ 1))]), W p l e ({ frames := 4, cells := 0, slots := 0, locals := 160 } : Room) s m ([.ref (κ 1)] : List Value).toArray below meth c H locs 0 0 (MQ below (va_Qi (fun r w1 => r = (cb_rows sg n 40 0 0 0 (fun _ _ => 0)).1 ∧ ∃ (z' : Nat → Int32) (G' : Nat → Nat → Nat → Int32) (mb : Nat) (R : Nat → Nat → Int32), cb_rows sg n 40 0 0 0 (fun _ _ => 0) = (r, mb, R) ∧ (0 < r → z' 2 = nI mb ∧ mb < 64 ∧ cb_rk mb R G') ∧ cb_I cI cC cJ cII w1 κ ra z' sg G' we pd ∧ cb_hi ws w1 ∧ (z' 0 = z 0 ∧ z' 3 = z 3 ∧ z' 4 = z 4 ∧ z' 5 = z 5) ∧ (∀ g, g ≠ 0 → G' g = G g)) (gx_B D classes ws sz) (va_A ws sz)) ([.ref (κ 1)] : List Value).toArray s 0 0 (va_A ws sz)) (F0 m 12 ls []) := by
    intro nn
    induction nn with
    | zero =>
      intro a f mb R z' G' wx H locs ls hff han hm hz1 hz2 hz hG hrk hsp hI hH hP hD hS hl
      refine lv_iload_n hx hb d_TT_readRows_12 rfl (lv_at hl 0 rfl) ?_
      refine lv_bipush (v := 40) hx hb d_TT_readRows_13 (by decide) ?_
      refine lv_icmp_ge (tgt := 41) hx hb d_TT_readRows_15 (by decide) (fun c_15 => ?_) (fun c_15 => absurd (gx_nlt (a := 40) c_15) (by omega))
      have hfin : cb_rows sg n 40 0 0 0 (fun _ _ => 0) = (-1 - z' 1, 0, fun _ _ => 0) := by rw [← hsp, hz1]; rfl
      refine lv_iconst (v := (-1)) hx hb d_TT_readRows_41 (by decide) ?_
      refine lv_aload_n hx hb d_TT_readRows_42 rfl (lv_at hl 1 rfl) ?_
      refine va_get (D := D) (ci := iTT) (v := .int (z' 1)) (C := R_TT) (T := F_TT) (N := 5) hx hb (fl_TT hg) (fun _ h9 => h9) hown hK hP 1 (hI.2.1) rfl 2 (by decide) (hg _ k_40) (fun _ h9 => h9) rfl d_TT_readRows_43 ?_
      refine lv_isub hx hb d_TT_readRows_46 ?_
      exact gx_iret hx hb hr hlocks rfl hS hP hD (by decide) (by decide) d_TT_readRows_47 (⟨by rw [hfin], z', G', _, _, hfin, fun hpos => absurd hpos (cb_neg han hz1), hI, hH, hz, hG⟩)
    | succ nn ih =>
      intro a f mb R z' G' wx H locs ls hff han hm hz1 hz2 hz hG hrk hsp hI hH hP hD hS hl
      refine lv_iload_n hx hb d_TT_readRows_12 rfl (lv_at hl 0 rfl) ?_
      refine lv_bipush (v := 40) hx hb d_TT_readRows_13 (by decide) ?_
      refine lv_icmp_ge (tgt := 41) hx hb d_TT_readRows_15 (by decide) (fun c_15 => ?_) (fun c_15 => ?_)
      · skip
        exact absurd (gx_ngt (a := 40) c_15) (by omega)
      · skip
        refine lv_aload_n hx hb d_TT_readRows_18 rfl (lv_at hl 1 rfl) ?_
        refine gx_calli (va_runV (As := []) (rest := []) ⟨hx, hb, hml, hown, gx_nil⟩ (c_TT_readRow F hI _ n a hn (by omega) (hz.1.trans h0) hz1 hc han) ⟨gx_cb (hg _ k_142) (hg _ k_2) (hg _ k_139) nd_TT_readRow ⟨by decide, by decide⟩, hg _ k_141, hg _ ks_2⟩ (gx_preV hV hP hD hS hA0 (va_recv hK hP rfl (hI.2.1))) rfl rfl hl.1 rfl (lv_room (Nat.le_of_ble_eq_true rfl)) d_TT_readRows_19 ⟨by decide, by decide⟩) hD hS hA (fun r_19 w1 H locs h_19 hP hD hS => ?_)
        rcases h_19 with ⟨rfl, b, z2, G2, hrow, hI, hh, hy1, hbn, hy, hyG⟩ | ⟨rfl, kk, b, rf, hkk, hkd, hrow, hab, hbn, hI, hh⟩
        · skip
          have hfin : cb_rows sg n 40 0 0 0 (fun _ _ => 0) = (-1 - z2 1, 0, fun _ _ => 0) := by rw [← hsp, hy1]; exact cb_rows_f hrow
          replace hH := cb_hi.trans hH hh
          have hz : z2 0 = z 0 ∧ z2 3 = z 3 ∧ z2 4 = z 4 ∧ z2 5 = z 5 := ⟨hy.1.trans hz.1, hy.2.1.trans hz.2.1, hy.2.2.1.trans hz.2.2.1, hy.2.2.2.trans hz.2.2.2⟩
          replace hG : ∀ g, g ≠ 0 → G2 g = G g := fun g hg9 => (hyG g hg9).trans (hG g hg9)
          refine lv_if_eq (tgt := 41) hx hb d_TT_readRows_22 (by decide) (fun c_22 => ?_) (fun c_22 => absurd c_22 (by decide))
          refine lv_iconst (v := (-1)) hx hb d_TT_readRows_41 (by decide) ?_
          refine lv_aload_n hx hb d_TT_readRows_42 rfl (lv_at hl 1 rfl) ?_
          refine va_get (D := D) (ci := iTT) (v := .int (z2 1)) (C := R_TT) (T := F_TT) (N := 5) hx hb (fl_TT hg) (fun _ h9 => h9) hown hK hP 1 (hI.2.1) rfl 2 (by decide) (hg _ k_40) (fun _ h9 => h9) rfl d_TT_readRows_43 ?_
          refine lv_isub hx hb d_TT_readRows_46 ?_
          exact gx_iret hx hb hr hlocks rfl hS hP hD (by decide) (by decide) d_TT_readRows_47 (⟨by rw [hfin], z2, G2, _, _, hfin, fun hpos => absurd hpos (cb_neg hbn hy1), hI, hH, hz, hG⟩)
        · skip
          obtain ⟨z2, ez2⟩ : ∃ x : Nat → Int32, x = upd (upd z' 2 (z' 2 ||| ((1 : Int32) <<< (nI kk &&& 31)))) 1 (nI b) := ⟨_, rfl⟩
          obtain ⟨G2, eG2⟩ : ∃ x : Nat → Nat → Nat → Int32, x = cb_upg G' 0 kk rf := ⟨_, rfl⟩
          rw [← ez2, ← eG2] at hI
          have hy1 : z2 1 = nI b := by rw [ez2]; rfl
          have hy2 : z2 2 = nI (mb ||| 2 ^ kk) := by rw [ez2]; show z' 2 ||| _ = _; rw [hz2]; exact (cb_or mb hm kk hkk).1
          have hz : z2 0 = z 0 ∧ z2 3 = z 3 ∧ z2 4 = z 4 ∧ z2 5 = z 5 := by rw [ez2]; exact hz
          replace hG : ∀ g, g ≠ 0 → G2 g = G g := fun g hg9 => by rw [eG2, cb_gk_u g hg9]; exact hG g hg9
          replace hrk : cb_rk (mb ||| 2 ^ kk) (cb_upr R kk (cb_rwf (true, b, rf 0, rf 1, rf 2, rf 3))) G2 := by rw [eG2]; exact hrk.put
          replace hH := cb_hi.trans hH hh
          refine lv_if_eq (tgt := 41) hx hb d_TT_readRows_22 (by decide) (fun c_22 => absurd c_22 (by decide)) (fun c_22 => ?_)
          refine lv_iinc (v := nI (f + 1)) (lv' := [(1, .int (nI (f + 1))), (0, .ref (κ 1))]) hx hb d_TT_readRows_25 hl (k := 0) rfl (by rw [lit1]; exact nI_1 f) (by decide) rfl (fun ls hl => ?_)
          refine lv_aload_n hx hb d_TT_readRows_28 rfl (lv_at hl 1 rfl) ?_
          refine va_get (D := D) (ci := iTT) (v := .int (z2 1)) (C := R_TT) (T := F_TT) (N := 5) hx hb (fl_TT hg) (fun _ h9 => h9) hown hK hP 1 (hI.2.1) rfl 2 (by decide) (hg _ k_40) (fun _ h9 => h9) rfl d_TT_readRows_29 ?_
          refine lv_aload_n hx hb d_TT_readRows_32 rfl (lv_at hl 1 rfl) ?_
          refine va_get (D := D) (ci := iTT) (v := .int (z2 0)) (C := R_TT) (T := F_TT) (N := 5) hx hb (fl_TT hg) (fun _ h9 => h9) hown hK hP 1 (hI.2.1) rfl 1 (by decide) (hg _ k_38) (fun _ h9 => h9) rfl d_TT_readRows_33 ?_
          refine lv_icmp_ne (tgt := 12) hx hb d_TT_readRows_36 (by decide) (fun c_36 => ?_) (fun c_36 => ?_)
          · skip
            rw [hy1, hz.1, h0] at c_36
            have hbn2 : ¬ b = n := fun q => c_36 (by rw [q])
            exact ih b (f + 1) (mb ||| 2 ^ kk) _ z2 G2 _ _ _ ls (by omega) hbn (cb_or mb hm kk hkk).2 hy1 hy2 hz hG hrk (by rw [← hsp]; exact (cb_rows_s hkk hkd hrow rfl hbn2).symm) hI hH hP hD hS (lv_sub hl [0, 1] rfl)
          · skip
            rw [hy1, hz.1, h0] at c_36
            have hbn2 : b = n := gx_eqn c_36
            have hfin : cb_rows sg n 40 0 0 0 (fun _ _ => 0) = (nI (f + 1), mb ||| 2 ^ kk, cb_upr R kk (cb_rwf (true, b, rf 0, rf 1, rf 2, rf 3))) := by rw [← hsp]; exact cb_rows_e hkk hkd hrow rfl hbn2
            refine lv_iload_n hx hb d_TT_readRows_39 rfl (lv_at hl 0 rfl) ?_
            exact gx_iret hx hb hr hlocks rfl hS hP hD (by decide) (by decide) d_TT_readRows_40 (⟨by rw [hfin], z2, G2, _, _, hfin, fun _ => ⟨hy2, (cb_or mb hm kk hkk).2, hrk⟩, hI, hH, hz, hG⟩)
  exact loop 40 0 0 0 (fun _ _ => 0) (upd (upd z 1 0) 2 0) G _ _ _ ls (by omega) (by omega) (by decide) rfl rfl ⟨rfl, rfl, rfl, rfl⟩ (fun _ _ => rfl) (fun k hk hb9 => absurd hb9 (by rw [Nat.zero_testBit]; decide)) rfl hI hH hP hD hS (lv_sub hl [0, 1] rfl)

