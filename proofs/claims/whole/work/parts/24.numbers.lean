set_option maxRecDepth 100000 in
set_option maxHeartbeats 4000000 in
theorem c_TT_readNumber {l : Launch} {s0 : State} {D : va_G} {cI cC cJ cII cO cZ : ClassId} (F : FX l s0 D cI cC cJ cII cO cZ) {ws : va_W} {κ : Nat → Nat} {ra : Nat → Nat → Nat} {z sg : Nat → Int32} {G : Nat → Nat → Nat → Int32} {we : Nat → Int32} {pd : Nat → Int64} (hI : cb_I cI cC cJ cII ws κ ra z sg G we pd) (sz : Nat) (n a : Nat) (hn : n ≤ 120) (ha : a ≤ 400) (h0 : z 0 = nI n) (h1 : z 1 = nI a) (hc : ∀ j, narrow .char (.int (sg j)) = .int (sg j)) (ha2 : a ≤ 300) (kk pt mo : Nat) (hkk : kk < 6) (hpt : pt < 4) (hmo : mo ≤ 6)  : Met l y_TT_readNumber [.code y_TT_readNumber b_TT_readNumber 6 (some .boolean)] { frames := 2, cells := 0, slots := 0, locals := 80 } (gx_P s0 D classes ws sz [.ref (κ 1), .ref (ra 0 kk), .int (nI pt), .int (nI mo)]) (va_Qi (fun r w1 => ∃ (a' : Nat) (v' : Int32), cb_num sg n mo a 0 = (a', v') ∧ a' ≤ a + 6 ∧ ((r = 1 ∧ a < a') ∨ (r = 0 ∧ a' = a)) ∧ cb_I cI cC cJ cII w1 κ ra (upd z 1 (nI a')) sg (cb_upg G 0 kk (upd (G 0 kk) pt v')) we pd ∧ cb_hi ws w1) (gx_B D classes ws sz) (va_A ws sz)) 0 0 (va_A ws sz) := by
  refine gx_met (by decide +kernel) (Nat.le_of_ble_eq_true rfl) ?_
  intro p e s m below meth c ls hx hb hr hml hown hlocks hnm hsz hV hP hD hS hA hA0 hl
  have hg := fx_g F hV ([.ref (κ 1), .ref (ra 0 kk), .int (nI pt), .int (nI mo)] : List Value).toArray
  have hK := fx_k F hV
  have hn9 := fx_n F hV
  have hl : lv_has ls 6 [(0, .ref (κ 1)), (1, .ref (ra 0 kk)), (2, .int (nI pt)), (3, .int (nI mo))] := hl
  have hH : cb_hi ws ws := fun _ _ => rfl
  refine lv_iconst (v := 0) hx hb d_TT_readNumber_0 (by decide) ?_
  refine lv_istore (lv' := [(4, .int 0), (0, .ref (κ 1)), (1, .ref (ra 0 kk)), (2, .int (nI pt)), (3, .int (nI mo))]) hx hb d_TT_readNumber_1 hl (by decide) rfl (fun ls hl => ?_)
  refine lv_iconst (v := 0) hx hb d_TT_readNumber_3 (by decide) ?_
  refine lv_istore (lv' := [(5, .int 0), (4, .int 0), (0, .ref (κ 1)), (1, .ref (ra 0 kk)), (2, .int (nI pt)), (3, .int (nI mo))]) hx hb d_TT_readNumber_4 hl (by decide) rfl (fun ls hl => ?_)
  have loop : ∀ (nn : Nat) (d : Nat) (v : Int32) (wx : va_W) (H : Heap) (locs : List Loc) (ls : Array Slot) (hd : d ≤ mo) (hf : mo + 1 ≤ d + nn) (hs : cb_num sg n (mo - d) (a + d) v = cb_num sg n mo a 0) (hI : cb_I cI cC cJ cII wx κ ra (upd z 1 (nI (a + d))) sg G we pd) (hH : cb_hi ws wx) (hP : va_P D classes wx H) (hD : va_D (va_A ws sz) wx) (hS : va_S (va_A ws sz) s.heap H locs) (hl : lv_has ls 6 [(4, .int (nI d)), (5, .int v), (0, .ref (κ 1)), (1, .ref (ra 0 kk)), (2, .int (nI pt)), (3, .int (nI mo))]), W p l e ({ frames := 2, cells := 0, slots := 0, locals := 80 } : Room) s m ([.ref (κ 1), .ref (ra 0 kk), .int (nI pt), .int (nI mo)] : List Value).toArray below meth c H locs 0 0 (MQ below (va_Qi (fun r w1 => ∃ (a' : Nat) (v' : Int32), cb_num sg n mo a 0 = (a', v') ∧ a' ≤ a + 6 ∧ ((r = 1 ∧ a < a') ∨ (r = 0 ∧ a' = a)) ∧ cb_I cI cC cJ cII w1 κ ra (upd z 1 (nI a')) sg (cb_upg G 0 kk (upd (G 0 kk) pt v')) we pd ∧ cb_hi ws w1) (gx_B D classes ws sz) (va_A ws sz)) ([.ref (κ 1), .ref (ra 0 kk), .int (nI pt), .int (nI mo)] : List Value).toArray s 0 0 (va_A ws sz)) (F0 m 6 ls []) := by
    intro nn
    induction nn with
    | zero =>
      intro d v wx H locs ls hd hf hs hI hH hP hD hS hl
      exact absurd hf (by omega)
    | succ nn ih =>
      intro d v wx H locs ls hd hf hs hI hH hP hD hS hl
      refine lv_iload hx hb d_TT_readNumber_6 (lv_at hl 0 rfl) ?_
      refine lv_iload_n hx hb d_TT_readNumber_8 rfl (lv_at hl 5 rfl) ?_
      refine lv_icmp_ge (tgt := 53) hx hb d_TT_readNumber_9 (by decide) (fun c_9 => ?_) (fun c_9 => ?_)
      · skip
        have hdm : d = mo := by have := gx_ngt c_9; omega
        have hfin : cb_num sg n mo a 0 = (a + d, v) := by rw [← hs, hdm, Nat.sub_self]; rfl
        refine lv_aload_n hx hb d_TT_readNumber_53 rfl (lv_at hl 3 rfl) ?_
        refine lv_iload_n hx hb d_TT_readNumber_54 rfl (lv_at hl 4 rfl) ?_
        refine lv_iload hx hb d_TT_readNumber_55 (lv_at hl 1 rfl) ?_
        refine gx_is hx hb hK hP hD hS (cb_gp 0 + 1 + kk) 0 (hI.2.2.2.2.2.2 0 (by decide) kk (hkk)) rfl pt (rfl) (hpt) (by decide) d_TT_readNumber_57 (fun H locs hP hD hS => ?_)
        obtain ⟨w_1, ew_1⟩ : ∃ x : va_W, x = wx.set (cb_gp 0 + 1 + kk) (ra 0 kk, .inl (cI, cb_wd 0, .inl (upd (G 0 kk) pt v))) := ⟨_, rfl⟩
        replace hP : va_P D classes w_1 H := by rw [ew_1]; exact hP
        replace hD : va_D (va_A ws sz) w_1 := by rw [ew_1]; exact hD
        replace hI : cb_I cI cC cJ cII w_1 κ ra (upd z 1 (nI (a + d))) sg (cb_upg G 0 kk (upd (G 0 kk) pt v)) we pd := by rw [ew_1]; exact cb_I.row (by decide) (hkk) hI
        replace hH : cb_hi ws w_1 := by rw [ew_1]; exact cb_hi.set (by have := cb_gp_lt 0 (by decide) kk (hkk); omega) hH
        refine lv_iload hx hb d_TT_readNumber_58 (lv_at hl 0 rfl) ?_
        refine lv_if_le (tgt := 67) hx hb d_TT_readNumber_60 (by decide) (fun c_60 => ?_) (fun c_60 => ?_)
        · skip
          have hd0 : d = 0 := by have := gx_ngt (b := 0) c_60; omega
          refine lv_iconst (v := 0) hx hb d_TT_readNumber_67 (by decide) ?_
          exact gx_iret hx hb hr hlocks rfl hS hP hD (by decide) (by decide) d_TT_readNumber_68 (⟨a + d, v, hfin, by omega, Or.inr ⟨rfl, by omega⟩, hI, hH⟩)
        · skip
          have hd0 : 0 < d := gx_npos c_60
          refine lv_iconst (v := 1) hx hb d_TT_readNumber_63 (by decide) ?_
          refine lv_goto (tgt := 68) hx hb d_TT_readNumber_64 (by decide) ?_
          exact gx_iret hx hb hr hlocks rfl hS hP hD (by decide) (by decide) d_TT_readNumber_68 (⟨a + d, v, hfin, by omega, Or.inl ⟨rfl, by omega⟩, hI, hH⟩)
      · skip
        have hdm : d < mo := gx_nlt c_9
        refine lv_aload_n hx hb d_TT_readNumber_12 rfl (lv_at hl 2 rfl) ?_
        refine gx_readi (va_runV (As := []) (rest := []) ⟨hx, hb, hml, hown, gx_nil⟩ (c_TT_next F hI _ n (a + d) hn (by omega) h0 rfl hc) ⟨gx_cb (hg _ k_146) (hg _ k_2) (hg _ k_143) nd_TT_next ⟨by decide, by decide⟩, hg _ k_145, hg _ ks_3⟩ (gx_preV hV hP hD hS hA0 (va_recv hK hP rfl (hI.2.1))) rfl rfl hl.1 rfl (lv_room (Nat.le_of_ble_eq_true rfl)) d_TT_readNumber_13 ⟨by decide, by decide⟩) (fun r_13 h_13 => ?_)
        subst h_13
        refine gx_readi (va_runS (As := [.int (cb_nx sg n (a + d))]) (rest := []) ⟨hx, hb, hml, hown, gx_nil⟩ (c_TT_isDigit F _ _ _) ⟨gx_cb (hg _ k_156) (hg _ k_2) (hg _ k_154) nd_TT_isDigit ⟨by decide, by decide⟩, hg _ k_155⟩ (gx_preS hV hP hD hS hA0) rfl rfl hl.1 rfl (lv_room (Nat.le_of_ble_eq_true rfl)) d_TT_readNumber_16 ⟨by decide, by decide⟩) (fun r_16 h_16 => ?_)
        rcases h_16 with ⟨rfl, hlo, hhi⟩ | ⟨rfl, hno⟩
        · skip
          refine lv_if_eq (tgt := 53) hx hb d_TT_readNumber_19 (by decide) (fun c_19 => absurd c_19 (by decide)) (fun c_19 => ?_)
          refine lv_iload hx hb d_TT_readNumber_22 (lv_at hl 1 rfl) ?_
          refine lv_bipush (v := 10) hx hb d_TT_readNumber_24 (by decide) ?_
          refine lv_imul hx hb d_TT_readNumber_26 ?_
          refine lv_aload_n hx hb d_TT_readNumber_27 rfl (lv_at hl 2 rfl) ?_
          refine gx_readi (va_runV (As := []) (rest := [.int (v * 10)]) ⟨hx, hb, hml, hown, gx_nil⟩ (c_TT_next F hI _ n (a + d) hn (by omega) h0 rfl hc) ⟨gx_cb (hg _ k_146) (hg _ k_2) (hg _ k_143) nd_TT_next ⟨by decide, by decide⟩, hg _ k_145, hg _ ks_3⟩ (gx_preV hV hP hD hS hA0 (va_recv hK hP rfl (hI.2.1))) rfl rfl hl.1 rfl (lv_room (Nat.le_of_ble_eq_true rfl)) d_TT_readNumber_28 ⟨by decide, by decide⟩) (fun r_28 h_28 => ?_)
          subst h_28
          refine lv_bipush (v := 48) hx hb d_TT_readNumber_31 (by decide) ?_
          refine lv_isub hx hb d_TT_readNumber_33 ?_
          refine lv_iadd hx hb d_TT_readNumber_34 ?_
          refine lv_istore (lv' := [(5, .int ((v * 10) + ((cb_nx sg n (a + d)) - 48))), (4, .int (nI d)), (0, .ref (κ 1)), (1, .ref (ra 0 kk)), (2, .int (nI pt)), (3, .int (nI mo))]) hx hb d_TT_readNumber_35 hl (by decide) rfl (fun ls hl => ?_)
          refine lv_iinc (v := nI (d + 1)) (lv' := [(4, .int (nI (d + 1))), (5, .int ((v * 10) + ((cb_nx sg n (a + d)) - 48))), (0, .ref (κ 1)), (1, .ref (ra 0 kk)), (2, .int (nI pt)), (3, .int (nI mo))]) hx hb d_TT_readNumber_37 hl (k := 1) rfl (by rw [lit1]; exact nI_1 d) (by decide) rfl (fun ls hl => ?_)
          refine lv_aload_n hx hb d_TT_readNumber_40 rfl (lv_at hl 2 rfl) ?_
          refine lv_dup hx hb d_TT_readNumber_41 rfl ?_
          refine va_get (D := D) (ci := iTT) (v := .int (nI (a + d))) (C := R_TT) (T := F_TT) (N := 5) hx hb (fl_TT hg) (fun _ h9 => h9) hown hK hP 1 (hI.2.1) rfl 2 (by decide) (hg _ k_40) (fun _ h9 => h9) rfl d_TT_readNumber_42 ?_
          refine lv_iconst (v := 1) hx hb d_TT_readNumber_45 (by decide) ?_
          refine lv_iadd hx hb d_TT_readNumber_46 ?_
          refine va_put (D := D) (ci := iTT) (v := .int ((nI (a + d)) + 1)) (ty := .int) (C := R_TT) (T := F_TT) (N := 5) hx hb (fl_TT hg) (fun _ h9 => h9) t_TT t_TT_ok n_TT hown hK hP hD hS 1 (hI.2.1) rfl 2 (by decide) (hg _ k_40) (fun _ h9 => h9) rfl (by decide +kernel) rfl rfl (Nat.le_of_ble_eq_true rfl) d_TT_readNumber_47 (fun H locs hP hD hS => ?_)
          obtain ⟨w_2, ew_2⟩ : ∃ x : va_W, x = wx.set 1 (κ 1, .inr (iTT, [.ref (κ 2), .int (upd z 1 (nI (a + d)) 0), .int ((nI (a + d)) + 1), .ref (κ 3), .int (upd z 1 (nI (a + d)) 2)])) := ⟨_, rfl⟩
          replace hP : va_P D classes w_2 H := by rw [ew_2]; exact hP
          replace hD : va_D (va_A ws sz) w_2 := by rw [ew_2]; exact hD
          replace hI : cb_I cI cC cJ cII w_2 κ ra (upd (upd z 1 (nI (a + d))) 1 ((nI (a + d)) + 1)) sg G we pd := by rw [ew_2]; exact cb_I.text (z := (upd z 1 (nI (a + d)))) (z' := upd (upd z 1 (nI (a + d))) 1 ((nI (a + d)) + 1)) rfl rfl hI
          replace hH : cb_hi ws w_2 := by rw [ew_2]; exact cb_hi.set (by decide) hH
          refine lv_goto (tgt := 6) hx hb d_TT_readNumber_50 (by decide) ?_
          exact ih (d + 1) _ _ _ _ ls (by omega) (by omega) (by rw [← hs, show mo - d = (mo - (d + 1)) + 1 by omega, cb_num_s (fun z9 => z9.elim hlo hhi)]; rfl) (by have h9 := hI; rw [cb_uu, nI_1, Nat.add_assoc] at h9; exact h9) hH hP hD hS (lv_sub hl [0, 1, 2, 3, 4, 5] rfl)
        · skip
          have hfin : cb_num sg n mo a 0 = (a + d, v) := by rw [← hs, show mo - d = (mo - (d + 1)) + 1 by omega, cb_num_e hno]
          refine lv_if_eq (tgt := 53) hx hb d_TT_readNumber_19 (by decide) (fun c_19 => ?_) (fun c_19 => absurd c_19 (by decide))
          refine lv_aload_n hx hb d_TT_readNumber_53 rfl (lv_at hl 3 rfl) ?_
          refine lv_iload_n hx hb d_TT_readNumber_54 rfl (lv_at hl 4 rfl) ?_
          refine lv_iload hx hb d_TT_readNumber_55 (lv_at hl 1 rfl) ?_
          refine gx_is hx hb hK hP hD hS (cb_gp 0 + 1 + kk) 0 (hI.2.2.2.2.2.2 0 (by decide) kk (hkk)) rfl pt (rfl) (hpt) (by decide) d_TT_readNumber_57 (fun H locs hP hD hS => ?_)
          obtain ⟨w_3, ew_3⟩ : ∃ x : va_W, x = wx.set (cb_gp 0 + 1 + kk) (ra 0 kk, .inl (cI, cb_wd 0, .inl (upd (G 0 kk) pt v))) := ⟨_, rfl⟩
          replace hP : va_P D classes w_3 H := by rw [ew_3]; exact hP
          replace hD : va_D (va_A ws sz) w_3 := by rw [ew_3]; exact hD
          replace hI : cb_I cI cC cJ cII w_3 κ ra (upd z 1 (nI (a + d))) sg (cb_upg G 0 kk (upd (G 0 kk) pt v)) we pd := by rw [ew_3]; exact cb_I.row (by decide) (hkk) hI
          replace hH : cb_hi ws w_3 := by rw [ew_3]; exact cb_hi.set (by have := cb_gp_lt 0 (by decide) kk (hkk); omega) hH
          refine lv_iload hx hb d_TT_readNumber_58 (lv_at hl 0 rfl) ?_
          refine lv_if_le (tgt := 67) hx hb d_TT_readNumber_60 (by decide) (fun c_60 => ?_) (fun c_60 => ?_)
          · skip
            have hd0 : d = 0 := by have := gx_ngt (b := 0) c_60; omega
            refine lv_iconst (v := 0) hx hb d_TT_readNumber_67 (by decide) ?_
            exact gx_iret hx hb hr hlocks rfl hS hP hD (by decide) (by decide) d_TT_readNumber_68 (⟨a + d, v, hfin, by omega, Or.inr ⟨rfl, by omega⟩, hI, hH⟩)
          · skip
            have hd0 : 0 < d := gx_npos c_60
            refine lv_iconst (v := 1) hx hb d_TT_readNumber_63 (by decide) ?_
            refine lv_goto (tgt := 68) hx hb d_TT_readNumber_64 (by decide) ?_
            exact gx_iret hx hb hr hlocks rfl hS hP hD (by decide) (by decide) d_TT_readNumber_68 (⟨a + d, v, hfin, by omega, Or.inl ⟨rfl, by omega⟩, hI, hH⟩)
  exact loop (mo + 1) 0 0 ws s.heap [] ls (by omega) (by omega) rfl (by rw [cb_us (by rw [Nat.add_zero]; exact h1)]; exact hI) hH hP hD hS (lv_sub hl [1, 0, 2, 3, 4, 5] rfl)

