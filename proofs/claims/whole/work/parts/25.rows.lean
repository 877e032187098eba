set_option maxRecDepth 100000 in
set_option maxHeartbeats 4000000 in
theorem c_TT_readRow {l : Launch} {s0 : State} {D : va_G} {cI cC cJ cII cO cZ : ClassId} (F : FX l s0 D cI cC cJ cII cO cZ) {ws : va_W} {κ : Nat → Nat} {ra : Nat → Nat → Nat} {z sg : Nat → Int32} {G : Nat → Nat → Nat → Int32} {we : Nat → Int32} {pd : Nat → Int64} (hI : cb_I cI cC cJ cII ws κ ra z sg G we pd) (sz : Nat) (n a : Nat) (hn : n ≤ 120) (ha : a ≤ 400) (h0 : z 0 = nI n) (h1 : z 1 = nI a) (hc : ∀ j, narrow .char (.int (sg j)) = .int (sg j)) (ha3 : a ≤ n)  : Met l y_TT_readRow [.code y_TT_readRow b_TT_readRow 3 (some .boolean)] { frames := 3, cells := 0, slots := 0, locals := 120 } (gx_P s0 D classes ws sz [.ref (κ 1)]) (va_Qi (fun r w1 => (r = 0 ∧ ∃ (b : Nat) (z' : Nat → Int32) (G' : Nat → Nat → Nat → Int32), cb_row sg n a = (false, b, 0, 0, 0, 0) ∧ cb_I cI cC cJ cII w1 κ ra z' sg G' we pd ∧ cb_hi ws w1 ∧ z' 1 = nI b ∧ b ≤ n ∧ (z' 0 = z 0 ∧ z' 3 = z 3 ∧ z' 4 = z 4 ∧ z' 5 = z 5) ∧ (∀ g, g ≠ 0 → G' g = G g)) ∨ (r = 1 ∧ ∃ (kk b : Nat) (rf : Nat → Int32), kk < 6 ∧ cb_nx sg n a - 65 = nI kk ∧ cb_row sg n a = (true, b, rf 0, rf 1, rf 2, rf 3) ∧ a < b ∧ b ≤ n ∧ cb_I cI cC cJ cII w1 κ ra (upd (upd z 2 (z 2 ||| ((1 : Int32) <<< (nI kk &&& 31)))) 1 (nI b)) sg (cb_upg G 0 kk rf) we pd ∧ cb_hi ws w1)) (gx_B D classes ws sz) (va_A ws sz)) 0 0 (va_A ws sz) := by
  refine gx_met (by decide +kernel) (Nat.le_of_ble_eq_true rfl) ?_
  intro p e s m below meth c ls hx hb hr hml hown hlocks hnm hsz hV hP hD hS hA hA0 hl
  have hg := fx_g F hV ([.ref (κ 1)] : List Value).toArray
  have hK := fx_k F hV
  have hn9 := fx_n F hV
  have hl : lv_has ls 3 [(0, .ref (κ 1))] := hl
  have hH : cb_hi ws ws := fun _ _ => rfl
  have st133 : ∀ (kk : Nat) (hkk : kk < 6) (hkd : cb_nx sg n a - 65 = nI kk) (b : Nat) (rf : Nat → Int32) (wx : va_W) (H : Heap) (locs : List Loc) (ls : Array Slot) (hab : a < b) (hbn : b ≤ n)  (hsp : cb_row5 sg n b (rf 0) (rf 1) (rf 2) (rf 3) = cb_row sg n a) (hI : cb_I cI cC cJ cII wx κ ra (upd (upd z 2 (z 2 ||| ((1 : Int32) <<< (nI kk &&& 31)))) 1 (nI b)) sg (cb_upg G 0 kk rf) we pd) (hH : cb_hi ws wx) (hP : va_P D classes wx H) (hD : va_D (va_A ws sz) wx) (hS : va_S (va_A ws sz) s.heap H locs) (hl : lv_has ls 3 [(0, .ref (κ 1)), (1, .int (nI kk)), (2, .ref (ra 0 kk))]), W p l e ({ frames := 3, cells := 0, slots := 0, locals := 120 } : Room) s m ([.ref (κ 1)] : List Value).toArray below meth c H locs 0 0 (MQ below (va_Qi (fun r w1 => (r = 0 ∧ ∃ (b : Nat) (z' : Nat → Int32) (G' : Nat → Nat → Nat → Int32), cb_row sg n a = (false, b, 0, 0, 0, 0) ∧ cb_I cI cC cJ cII w1 κ ra z' sg G' we pd ∧ cb_hi ws w1 ∧ z' 1 = nI b ∧ b ≤ n ∧ (z' 0 = z 0 ∧ z' 3 = z 3 ∧ z' 4 = z 4 ∧ z' 5 = z 5) ∧ (∀ g, g ≠ 0 → G' g = G g)) ∨ (r = 1 ∧ ∃ (kk b : Nat) (rf : Nat → Int32), kk < 6 ∧ cb_nx sg n a - 65 = nI kk ∧ cb_row sg n a = (true, b, rf 0, rf 1, rf 2, rf 3) ∧ a < b ∧ b ≤ n ∧ cb_I cI cC cJ cII w1 κ ra (upd (upd z 2 (z 2 ||| ((1 : Int32) <<< (nI kk &&& 31)))) 1 (nI b)) sg (cb_upg G 0 kk rf) we pd ∧ cb_hi ws w1)) (gx_B D classes ws sz) (va_A ws sz)) ([.ref (κ 1)] : List Value).toArray s 0 0 (va_A ws sz)) (F0 m 133 ls []) := by
    intro kk hkk hkd b rf wx H locs ls hab hbn  hsp hI hH hP hD hS hl
    refine lv_aload_n hx hb d_TT_readRow_133 rfl (lv_at hl 0 rfl) ?_
    refine lv_bipush (v := 59) hx hb d_TT_readRow_134 (by decide) ?_
    refine gx_calli (va_runV (As := [.int 59]) (rest := []) ⟨hx, hb, hml, hown, gx_nil⟩ (c_TT_passes F hI _ n b hn (by omega) h0 rfl hc _) ⟨gx_cb (hg _ k_160) (hg _ k_2) (hg _ k_157) nd_TT_passes ⟨by decide, by decide⟩, hg _ k_159, hg _ ks_5⟩ (gx_preV hV hP hD hS hA0 (va_recv hK hP rfl (hI.2.1))) rfl rfl hl.1 rfl (lv_room (Nat.le_of_ble_eq_true rfl)) d_TT_readRow_136 ⟨by decide, by decide⟩) hD hS hA (fun r_136 w1 H locs h_136 hP hD hS => ?_)
    rcases h_136 with ⟨rfl, hq, hw⟩ | ⟨rfl, hq, hI, hh⟩
    · skip
      rw [hw] at hP hD
      have hfail : cb_row sg n a = (false, b, 0, 0, 0, 0) := by rw [← hsp]; exact if_neg hq
      refine lv_if_eq (tgt := 146) hx hb d_TT_readRow_139 (by decide) (fun c_139 => ?_) (fun c_139 => absurd c_139 (by decide))
      refine lv_iconst (v := 0) hx hb d_TT_readRow_146 (by decide) ?_
      exact gx_iret hx hb hr hlocks rfl hS hP hD (by decide) (by decide) d_TT_readRow_147 (Or.inl ⟨rfl, _, _, _, hfail, hI, hH, rfl, by omega, ⟨rfl, rfl, rfl, rfl⟩, cb_gk_u⟩)
    · skip
      have hbn1 : b < n := cb_nx_lt (by decide) hq
      replace hI : cb_I cI cC cJ cII w1 κ ra (upd (upd z 2 (z 2 ||| ((1 : Int32) <<< (nI kk &&& 31)))) 1 (nI (b + 1))) sg (cb_upg G 0 kk rf) we pd := by rw [cb_uu] at hI; exact hI
      replace hH := cb_hi.trans hH hh
      have hok : cb_row sg n a = (true, b + 1, rf 0, rf 1, rf 2, rf 3) := by rw [← hsp]; exact if_pos hq
      refine lv_if_eq (tgt := 146) hx hb d_TT_readRow_139 (by decide) (fun c_139 => absurd c_139 (by decide)) (fun c_139 => ?_)
      refine lv_iconst (v := 1) hx hb d_TT_readRow_142 (by decide) ?_
      refine lv_goto (tgt := 147) hx hb d_TT_readRow_143 (by decide) ?_
      exact gx_iret hx hb hr hlocks rfl hS hP hD (by decide) (by decide) d_TT_readRow_147 (Or.inr ⟨rfl, kk, _, rf, hkk, hkd, hok, by omega, by omega, hI, hH⟩)
  have st113 : ∀ (kk : Nat) (hkk : kk < 6) (hkd : cb_nx sg n a - 65 = nI kk) (b : Nat) (rf : Nat → Int32) (wx : va_W) (H : Heap) (locs : List Loc) (ls : Array Slot) (hab : a < b) (hbn : b ≤ n) (hr3 : rf 3 = 0) (hsp : cb_row4 sg n b (rf 0) (rf 1) (rf 2) = cb_row sg n a) (hI : cb_I cI cC cJ cII wx κ ra (upd (upd z 2 (z 2 ||| ((1 : Int32) <<< (nI kk &&& 31)))) 1 (nI b)) sg (cb_upg G 0 kk rf) we pd) (hH : cb_hi ws wx) (hP : va_P D classes wx H) (hD : va_D (va_A ws sz) wx) (hS : va_S (va_A ws sz) s.heap H locs) (hl : lv_has ls 3 [(0, .ref (κ 1)), (1, .int (nI kk)), (2, .ref (ra 0 kk))]), W p l e ({ frames := 3, cells := 0, slots := 0, locals := 120 } : Room) s m ([.ref (κ 1)] : List Value).toArray below meth c H locs 0 0 (MQ below (va_Qi (fun r w1 => (r = 0 ∧ ∃ (b : Nat) (z' : Nat → Int32) (G' : Nat → Nat → Nat → Int32), cb_row sg n a = (false, b, 0, 0, 0, 0) ∧ cb_I cI cC cJ cII w1 κ ra z' sg G' we pd ∧ cb_hi ws w1 ∧ z' 1 = nI b ∧ b ≤ n ∧ (z' 0 = z 0 ∧ z' 3 = z 3 ∧ z' 4 = z 4 ∧ z' 5 = z 5) ∧ (∀ g, g ≠ 0 → G' g = G g)) ∨ (r = 1 ∧ ∃ (kk b : Nat) (rf : Nat → Int32), kk < 6 ∧ cb_nx sg n a - 65 = nI kk ∧ cb_row sg n a = (true, b, rf 0, rf 1, rf 2, rf 3) ∧ a < b ∧ b ≤ n ∧ cb_I cI cC cJ cII w1 κ ra (upd (upd z 2 (z 2 ||| ((1 : Int32) <<< (nI kk &&& 31)))) 1 (nI b)) sg (cb_upg G 0 kk rf) we pd ∧ cb_hi ws w1)) (gx_B D classes ws sz) (va_A ws sz)) ([.ref (κ 1)] : List Value).toArray s 0 0 (va_A ws sz)) (F0 m 113 ls []) := by
    intro kk hkk hkd b rf wx H locs ls hab hbn hr3 hsp hI hH hP hD hS hl
    refine lv_aload_n hx hb d_TT_readRow_113 rfl (lv_at hl 0 rfl) ?_
    refine lv_bipush (v := 62) hx hb d_TT_readRow_114 (by decide) ?_
    refine gx_calli (va_runV (As := [.int 62]) (rest := []) ⟨hx, hb, hml, hown, gx_nil⟩ (c_TT_passes F hI _ n b hn (by omega) h0 rfl hc _) ⟨gx_cb (hg _ k_160) (hg _ k_2) (hg _ k_157) nd_TT_passes ⟨by decide, by decide⟩, hg _ k_159, hg _ ks_5⟩ (gx_preV hV hP hD hS hA0 (va_recv hK hP rfl (hI.2.1))) rfl rfl hl.1 rfl (lv_room (Nat.le_of_ble_eq_true rfl)) d_TT_readRow_116 ⟨by decide, by decide⟩) hD hS hA (fun r_116 w1 H locs h_116 hP hD hS => ?_)
    rcases h_116 with ⟨rfl, hq, hw⟩ | ⟨rfl, hq, hI, hh⟩
    · skip
      rw [hw] at hP hD
      refine lv_if_eq (tgt := 133) hx hb d_TT_readRow_119 (by decide) (fun c_119 => ?_) (fun c_119 => absurd c_119 (by decide))
      exact st133 kk hkk hkd b rf _ _ _ ls (by omega) (by omega)  (by rw [← hsp]; exact Eq.symm ((if_neg hq).trans (by rw [hr3]))) hI hH hP hD hS (lv_sub hl [0, 1, 2] rfl)
    · skip
      have hbn1 : b < n := cb_nx_lt (by decide) hq
      replace hI : cb_I cI cC cJ cII w1 κ ra (upd (upd z 2 (z 2 ||| ((1 : Int32) <<< (nI kk &&& 31)))) 1 (nI (b + 1))) sg (cb_upg G 0 kk rf) we pd := by rw [cb_uu] at hI; exact hI
      replace hH := cb_hi.trans hH hh
      refine lv_if_eq (tgt := 133) hx hb d_TT_readRow_119 (by decide) (fun c_119 => absurd c_119 (by decide)) (fun c_119 => ?_)
      refine lv_aload_n hx hb d_TT_readRow_122 rfl (lv_at hl 0 rfl) ?_
      refine lv_aload_n hx hb d_TT_readRow_123 rfl (lv_at hl 2 rfl) ?_
      refine lv_iconst (v := 3) hx hb d_TT_readRow_124 (by decide) ?_
      refine lv_bipush (v := 6) hx hb d_TT_readRow_125 (by decide) ?_
      refine gx_calli (va_runV (As := [.ref (ra 0 kk), .int 3, .int 6]) (rest := []) ⟨hx, hb, hml, hown, gx_nil⟩ (c_TT_readNumber F hI _ n (b + 1) hn (by omega) h0 rfl hc (by omega) kk 3 6 hkk (by decide) (by decide)) ⟨gx_cb (hg _ k_153) (hg _ k_2) (hg _ k_150) nd_TT_readNumber ⟨by decide, by decide⟩, hg _ k_152, hg _ ks_4⟩ (gx_preV hV hP hD hS hA0 (va_recv hK hP rfl (hI.2.1))) rfl rfl hl.1 rfl (lv_room (Nat.le_of_ble_eq_true rfl)) d_TT_readRow_127 ⟨by decide, by decide⟩) hD hS hA (fun r_127 w1 H locs h_127 hP hD hS => ?_)
      obtain ⟨b', v', hnum, hb6, hcase, hI, hh⟩ := h_127
      replace hI : cb_I cI cC cJ cII w1 κ ra (upd (upd z 2 (z 2 ||| ((1 : Int32) <<< (nI kk &&& 31)))) 1 (nI b')) sg (cb_upg G 0 kk (upd rf 3 v')) we pd := by rw [cb_uu, cb_upg_s, cb_gg] at hI; exact hI
      replace hH := cb_hi.trans hH hh
      have hle := cb_num_le sg n 6 (b + 1) 0 (by omega)
      rw [hnum] at hle
      rcases hcase with ⟨rfl, hgt⟩ | ⟨rfl, heq⟩
      · skip
        refine lv_if_eq (tgt := 146) hx hb d_TT_readRow_130 (by decide) (fun c_130 => absurd c_130 (by decide)) (fun c_130 => ?_)
        exact st133 kk hkk hkd b' (upd rf 3 v') _ _ _ ls (by omega) (by omega)  (by rw [← hsp]; refine Eq.symm ((if_pos hq).trans ((if_neg (by rw [hnum]; exact Nat.ne_of_gt hgt)).trans (by rw [hnum]; rfl)))) hI hH hP hD hS (lv_sub hl [0, 1, 2] rfl)
      · skip
        have hfail : cb_row sg n a = (false, b', 0, 0, 0, 0) := by rw [← hsp, heq]; exact (if_pos hq).trans (if_pos (by rw [hnum]; exact heq))
        refine lv_if_eq (tgt := 146) hx hb d_TT_readRow_130 (by decide) (fun c_130 => ?_) (fun c_130 => absurd c_130 (by decide))
        refine lv_iconst (v := 0) hx hb d_TT_readRow_146 (by decide) ?_
        exact gx_iret hx hb hr hlocks rfl hS hP hD (by decide) (by decide) d_TT_readRow_147 (Or.inl ⟨rfl, _, _, _, hfail, hI, hH, rfl, by omega, ⟨rfl, rfl, rfl, rfl⟩, cb_gk_u⟩)
  have st94 : ∀ (kk : Nat) (hkk : kk < 6) (hkd : cb_nx sg n a - 65 = nI kk) (b : Nat) (rf : Nat → Int32) (wx : va_W) (H : Heap) (locs : List Loc) (ls : Array Slot) (hab : a < b) (hbn : b ≤ n) (hr2 : rf 2 = 0) (hr3 : rf 3 = 0) (hsp : cb_row3 sg n b (rf 0) (rf 1) = cb_row sg n a) (hI : cb_I cI cC cJ cII wx κ ra (upd (upd z 2 (z 2 ||| ((1 : Int32) <<< (nI kk &&& 31)))) 1 (nI b)) sg (cb_upg G 0 kk rf) we pd) (hH : cb_hi ws wx) (hP : va_P D classes wx H) (hD : va_D (va_A ws sz) wx) (hS : va_S (va_A ws sz) s.heap H locs) (hl : lv_has ls 3 [(0, .ref (κ 1)), (1, .int (nI kk)), (2, .ref (ra 0 kk))]), W p l e ({ frames := 3, cells := 0, slots := 0, locals := 120 } : Room) s m ([.ref (κ 1)] : List Value).toArray below meth c H locs 0 0 (MQ below (va_Qi (fun r w1 => (r = 0 ∧ ∃ (b : Nat) (z' : Nat → Int32) (G' : Nat → Nat → Nat → Int32), cb_row sg n a = (false, b, 0, 0, 0, 0) ∧ cb_I cI cC cJ cII w1 κ ra z' sg G' we pd ∧ cb_hi ws w1 ∧ z' 1 = nI b ∧ b ≤ n ∧ (z' 0 = z 0 ∧ z' 3 = z 3 ∧ z' 4 = z 4 ∧ z' 5 = z 5) ∧ (∀ g, g ≠ 0 → G' g = G g)) ∨ (r = 1 ∧ ∃ (kk b : Nat) (rf : Nat → Int32), kk < 6 ∧ cb_nx sg n a - 65 = nI kk ∧ cb_row sg n a = (true, b, rf 0, rf 1, rf 2, rf 3) ∧ a < b ∧ b ≤ n ∧ cb_I cI cC cJ cII w1 κ ra (upd (upd z 2 (z 2 ||| ((1 : Int32) <<< (nI kk &&& 31)))) 1 (nI b)) sg (cb_upg G 0 kk rf) we pd ∧ cb_hi ws w1)) (gx_B D classes ws sz) (va_A ws sz)) ([.ref (κ 1)] : List Value).toArray s 0 0 (va_A ws sz)) (F0 m 94 ls []) := by
    intro kk hkk hkd b rf wx H locs ls hab hbn hr2 hr3 hsp hI hH hP hD hS hl
    refine lv_aload_n hx hb d_TT_readRow_94 rfl (lv_at hl 0 rfl) ?_
    refine lv_bipush (v := 45) hx hb d_TT_readRow_95 (by decide) ?_
    refine gx_calli (va_runV (As := [.int 45]) (rest := []) ⟨hx, hb, hml, hown, gx_nil⟩ (c_TT_passes F hI _ n b hn (by omega) h0 rfl hc _) ⟨gx_cb (hg _ k_160) (hg _ k_2) (hg _ k_157) nd_TT_passes ⟨by decide, by decide⟩, hg _ k_159, hg _ ks_5⟩ (gx_preV hV hP hD hS hA0 (va_recv hK hP rfl (hI.2.1))) rfl rfl hl.1 rfl (lv_room (Nat.le_of_ble_eq_true rfl)) d_TT_readRow_97 ⟨by decide, by decide⟩) hD hS hA (fun r_97 w1 H locs h_97 hP hD hS => ?_)
    rcases h_97 with ⟨rfl, hq, hw⟩ | ⟨rfl, hq, hI, hh⟩
    · skip
      rw [hw] at hP hD
      refine lv_if_eq (tgt := 113) hx hb d_TT_readRow_100 (by decide) (fun c_100 => ?_) (fun c_100 => absurd c_100 (by decide))
      exact st113 kk hkk hkd b rf _ _ _ ls (by omega) (by omega) hr3 (by rw [← hsp]; exact Eq.symm ((if_neg hq).trans (by rw [hr2]))) hI hH hP hD hS (lv_sub hl [0, 1, 2] rfl)
    · skip
      have hbn1 : b < n := cb_nx_lt (by decide) hq
      replace hI : cb_I cI cC cJ cII w1 κ ra (upd (upd z 2 (z 2 ||| ((1 : Int32) <<< (nI kk &&& 31)))) 1 (nI (b + 1))) sg (cb_upg G 0 kk rf) we pd := by rw [cb_uu] at hI; exact hI
      replace hH := cb_hi.trans hH hh
      refine lv_if_eq (tgt := 113) hx hb d_TT_readRow_100 (by decide) (fun c_100 => absurd c_100 (by decide)) (fun c_100 => ?_)
      refine lv_aload_n hx hb d_TT_readRow_103 rfl (lv_at hl 0 rfl) ?_
      refine lv_aload_n hx hb d_TT_readRow_104 rfl (lv_at hl 2 rfl) ?_
      refine lv_iconst (v := 2) hx hb d_TT_readRow_105 (by decide) ?_
      refine lv_iconst (v := 4) hx hb d_TT_readRow_106 (by decide) ?_
      refine gx_calli (va_runV (As := [.ref (ra 0 kk), .int 2, .int 4]) (rest := []) ⟨hx, hb, hml, hown, gx_nil⟩ (c_TT_readNumber F hI _ n (b + 1) hn (by omega) h0 rfl hc (by omega) kk 2 4 hkk (by decide) (by decide)) ⟨gx_cb (hg _ k_153) (hg _ k_2) (hg _ k_150) nd_TT_readNumber ⟨by decide, by decide⟩, hg _ k_152, hg _ ks_4⟩ (gx_preV hV hP hD hS hA0 (va_recv hK hP rfl (hI.2.1))) rfl rfl hl.1 rfl (lv_room (Nat.le_of_ble_eq_true rfl)) d_TT_readRow_107 ⟨by decide, by decide⟩) hD hS hA (fun r_107 w1 H locs h_107 hP hD hS => ?_)
      obtain ⟨b', v', hnum, hb6, hcase, hI, hh⟩ := h_107
      replace hI : cb_I cI cC cJ cII w1 κ ra (upd (upd z 2 (z 2 ||| ((1 : Int32) <<< (nI kk &&& 31)))) 1 (nI b')) sg (cb_upg G 0 kk (upd rf 2 v')) we pd := by rw [cb_uu, cb_upg_s, cb_gg] at hI; exact hI
      replace hH := cb_hi.trans hH hh
      have hle := cb_num_le sg n 4 (b + 1) 0 (by omega)
      rw [hnum] at hle
      rcases hcase with ⟨rfl, hgt⟩ | ⟨rfl, heq⟩
      · skip
        refine lv_if_eq (tgt := 146) hx hb d_TT_readRow_110 (by decide) (fun c_110 => absurd c_110 (by decide)) (fun c_110 => ?_)
        exact st113 kk hkk hkd b' (upd rf 2 v') _ _ _ ls (by omega) (by omega) hr3 (by rw [← hsp]; refine Eq.symm ((if_pos hq).trans ((if_neg (by rw [hnum]; exact Nat.ne_of_gt hgt)).trans (by rw [hnum]; rfl)))) hI hH hP hD hS (lv_sub hl [0, 1, 2] rfl)
      · skip
        have hfail : cb_row sg n a = (false, b', 0, 0, 0, 0) := by rw [← hsp, heq]; exact (if_pos hq).trans (if_pos (by rw [hnum]; exact heq))
        refine lv_if_eq (tgt := 146) hx hb d_TT_readRow_110 (by decide) (fun c_110 => ?_) (fun c_110 => absurd c_110 (by decide))
        refine lv_iconst (v := 0) hx hb d_TT_readRow_146 (by decide) ?_
        exact gx_iret hx hb hr hlocks rfl hS hP hD (by decide) (by decide) d_TT_readRow_147 (Or.inl ⟨rfl, _, _, _, hfail, hI, hH, rfl, by omega, ⟨rfl, rfl, rfl, rfl⟩, cb_gk_u⟩)
  refine lv_aload_n hx hb d_TT_readRow_0 rfl (lv_at hl 0 rfl) ?_
  refine gx_readi (va_runV (As := []) (rest := []) ⟨hx, hb, hml, hown, gx_nil⟩ (c_TT_next F hI _ n a hn (by omega) h0 h1 hc) ⟨gx_cb (hg _ k_146) (hg _ k_2) (hg _ k_143) nd_TT_next ⟨by decide, by decide⟩, hg _ k_145, hg _ ks_3⟩ (gx_preV hV hP hD hS hA0 (va_recv hK hP rfl (hI.2.1))) rfl rfl hl.1 rfl (lv_room (Nat.le_of_ble_eq_true rfl)) d_TT_readRow_1 ⟨by decide, by decide⟩) (fun r_1 h_1 => ?_)
  subst h_1
  refine lv_bipush (v := 65) hx hb d_TT_readRow_4 (by decide) ?_
  refine lv_isub hx hb d_TT_readRow_6 ?_
  refine lv_istore_n (lv' := [(1, .int ((cb_nx sg n a) - 65)), (0, .ref (κ 1))]) hx hb d_TT_readRow_7 rfl hl (by decide) rfl (fun ls hl => ?_)
  refine lv_iload_n hx hb d_TT_readRow_8 rfl (lv_at hl 0 rfl) ?_
  refine gx_readi (va_runSN (As := [.int ((cb_nx sg n a) - 65)]) (rest := []) ⟨hx, hb, hml, hown, gx_nil⟩ (c_PB_isKind F _ _ _) ⟨gx_cn (hg _ k_149) (hg _ k_1) (hn9 _ kn_147) nd_PB_isKind ⟨by decide, by decide⟩, hg _ k_148, trivial⟩ (gx_preS hV hP hD hS hA0) rfl rfl hl.1 rfl (lv_room (Nat.le_of_ble_eq_true rfl)) d_TT_readRow_9 ⟨by decide, by decide⟩) (fun r_9 h_9 => ?_)
  rcases h_9 with ⟨rfl, kk, hkk, hkd⟩ | ⟨rfl, hkd⟩
  · skip
    rw [hkd] at hl
    refine lv_if_ne (tgt := 17) hx hb d_TT_readRow_12 (by decide) (fun c_12 => ?_) (fun c_12 => absurd c_12 (by decide))
    refine lv_aload_n hx hb d_TT_readRow_17 rfl (lv_at hl 1 rfl) ?_
    refine lv_dup hx hb d_TT_readRow_18 rfl ?_
    refine va_get (D := D) (ci := iTT) (v := .int (z 1)) (C := R_TT) (T := F_TT) (N := 5) hx hb (fl_TT hg) (fun _ h9 => h9) hown hK hP 1 (hI.2.1) rfl 2 (by decide) (hg _ k_40) (fun _ h9 => h9) rfl d_TT_readRow_19 ?_
    refine lv_iconst (v := 1) hx hb d_TT_readRow_22 (by decide) ?_
    refine lv_iadd hx hb d_TT_readRow_23 ?_
    refine va_put (D := D) (ci := iTT) (v := .int ((z 1) + 1)) (ty := .int) (C := R_TT) (T := F_TT) (N := 5) hx hb (fl_TT hg) (fun _ h9 => h9) t_TT t_TT_ok n_TT hown hK hP hD hS 1 (hI.2.1) rfl 2 (by decide) (hg _ k_40) (fun _ h9 => h9) rfl (by decide +kernel) rfl rfl (Nat.le_of_ble_eq_true rfl) d_TT_readRow_24 (fun H locs hP hD hS => ?_)
    obtain ⟨w_1, ew_1⟩ : ∃ x : va_W, x = ws.set 1 (κ 1, .inr (iTT, [.ref (κ 2), .int (z 0), .int ((z 1) + 1), .ref (κ 3), .int (z 2)])) := ⟨_, rfl⟩
    replace hP : va_P D classes w_1 H := by rw [ew_1]; exact hP
    replace hD : va_D (va_A ws sz) w_1 := by rw [ew_1]; exact hD
    replace hI : cb_I cI cC cJ cII w_1 κ ra (upd z 1 ((z 1) + 1)) sg G we pd := by rw [ew_1]; exact cb_I.text (z := z) (z' := upd z 1 ((z 1) + 1)) rfl rfl hI
    replace hH : cb_hi ws w_1 := by rw [ew_1]; exact cb_hi.set (by decide) hH
    refine lv_aload_n hx hb d_TT_readRow_27 rfl (lv_at hl 1 rfl) ?_
    refine lv_dup hx hb d_TT_readRow_28 rfl ?_
    refine va_get (D := D) (ci := iTT) (v := .int (upd z 1 ((z 1) + 1) 2)) (C := R_TT) (T := F_TT) (N := 5) hx hb (fl_TT hg) (fun _ h9 => h9) hown hK hP 1 (hI.2.1) rfl 4 (by decide) (hg _ k_43) (fun _ h9 => h9) rfl d_TT_readRow_29 ?_
    refine lv_iconst (v := 1) hx hb d_TT_readRow_32 (by decide) ?_
    refine lv_iload_n hx hb d_TT_readRow_33 rfl (lv_at hl 0 rfl) ?_
    refine lv_ishl hx hb d_TT_readRow_34 ?_
    refine lv_ior hx hb d_TT_readRow_35 ?_
    refine va_put (D := D) (ci := iTT) (v := .int ((upd z 1 ((z 1) + 1) 2) ||| (1 <<< ((nI kk) &&& 31)))) (ty := .int) (C := R_TT) (T := F_TT) (N := 5) hx hb (fl_TT hg) (fun _ h9 => h9) t_TT t_TT_ok n_TT hown hK hP hD hS 1 (hI.2.1) rfl 4 (by decide) (hg _ k_43) (fun _ h9 => h9) rfl (by decide +kernel) rfl rfl (Nat.le_of_ble_eq_true rfl) d_TT_readRow_36 (fun H locs hP hD hS => ?_)
    obtain ⟨w_2, ew_2⟩ : ∃ x : va_W, x = w_1.set 1 (κ 1, .inr (iTT, [.ref (κ 2), .int (upd z 1 ((z 1) + 1) 0), .int ((z 1) + 1), .ref (κ 3), .int ((upd z 1 ((z 1) + 1) 2) ||| (1 <<< ((nI kk) &&& 31)))])) := ⟨_, rfl⟩
    replace hP : va_P D classes w_2 H := by rw [ew_2]; exact hP
    replace hD : va_D (va_A ws sz) w_2 := by rw [ew_2]; exact hD
    replace hI : cb_I cI cC cJ cII w_2 κ ra (upd (upd z 1 ((z 1) + 1)) 2 ((upd z 1 ((z 1) + 1) 2) ||| (1 <<< ((nI kk) &&& 31)))) sg G we pd := by rw [ew_2]; exact cb_I.text (z := (upd z 1 ((z 1) + 1))) (z' := upd (upd z 1 ((z 1) + 1)) 2 ((upd z 1 ((z 1) + 1) 2) ||| (1 <<< ((nI kk) &&& 31)))) rfl rfl hI
    replace hH : cb_hi ws w_2 := by rw [ew_2]; exact cb_hi.set (by decide) hH
    refine lv_aload_n hx hb d_TT_readRow_39 rfl (lv_at hl 1 rfl) ?_
    refine va_get (D := D) (ci := iTT) (v := .ref (κ 3)) (C := R_TT) (T := F_TT) (N := 5) hx hb (fl_TT hg) (fun _ h9 => h9) hown hK hP 1 (hI.2.1) rfl 3 (by decide) (hg _ k_41) (fun _ h9 => h9) rfl d_TT_readRow_40 ?_
    refine lv_iload_n hx hb d_TT_readRow_43 rfl (lv_at hl 0 rfl) ?_
    refine gx_al hx hb hK hP 3 3 (hI.2.2.2.2.2.1 0 (by decide)) rfl rfl kk (v := ra 0 kk) (rfl) (hkk) (by decide) (if_pos (hkk)) d_TT_readRow_44 ?_
    refine lv_astore_n (lv' := [(2, .ref (ra 0 kk)), (1, .int (nI kk)), (0, .ref (κ 1))]) hx hb d_TT_readRow_45 rfl hl (by decide) rfl (fun ls hl => ?_)
    refine lv_aload_n hx hb d_TT_readRow_46 rfl (lv_at hl 0 rfl) ?_
    refine lv_iconst (v := 1) hx hb d_TT_readRow_47 (by decide) ?_
    refine lv_iconst (v := 1) hx hb d_TT_readRow_48 (by decide) ?_
    refine gx_is hx hb hK hP hD hS (cb_gp 0 + 1 + kk) 0 (hI.2.2.2.2.2.2 0 (by decide) kk (hkk)) rfl 1 (by decide) (by decide) (by decide) d_TT_readRow_49 (fun H locs hP hD hS => ?_)
    obtain ⟨w_3, ew_3⟩ : ∃ x : va_W, x = w_2.set (cb_gp 0 + 1 + kk) (ra 0 kk, .inl (cI, cb_wd 0, .inl (upd (G 0 kk) 1 1))) := ⟨_, rfl⟩
    replace hP : va_P D classes w_3 H := by rw [ew_3]; exact hP
    replace hD : va_D (va_A ws sz) w_3 := by rw [ew_3]; exact hD
    replace hI : cb_I cI cC cJ cII w_3 κ ra (upd (upd z 1 ((z 1) + 1)) 2 ((upd z 1 ((z 1) + 1) 2) ||| (1 <<< ((nI kk) &&& 31)))) sg (cb_upg G 0 kk (upd (G 0 kk) 1 1)) we pd := by rw [ew_3]; exact cb_I.row (by decide) (hkk) hI
    replace hH : cb_hi ws w_3 := by rw [ew_3]; exact cb_hi.set (by have := cb_gp_lt 0 (by decide) kk (hkk); omega) hH
    refine lv_aload_n hx hb d_TT_readRow_50 rfl (lv_at hl 0 rfl) ?_
    refine lv_iconst (v := 2) hx hb d_TT_readRow_51 (by decide) ?_
    refine lv_iconst (v := 0) hx hb d_TT_readRow_52 (by decide) ?_
    refine gx_is hx hb hK hP hD hS (cb_gp 0 + 1 + kk) 0 (by have h9 := hI.2.2.2.2.2.2 0 (by decide) kk (hkk); rw [cb_upg_s] at h9; exact h9) rfl 2 (by decide) (by decide) (by decide) d_TT_readRow_53 (fun H locs hP hD hS => ?_)
    obtain ⟨w_4, ew_4⟩ : ∃ x : va_W, x = w_3.set (cb_gp 0 + 1 + kk) (ra 0 kk, .inl (cI, cb_wd 0, .inl (upd (upd (G 0 kk) 1 1) 2 0))) := ⟨_, rfl⟩
    replace hP : va_P D classes w_4 H := by rw [ew_4]; exact hP
    replace hD : va_D (va_A ws sz) w_4 := by rw [ew_4]; exact hD
    replace hI : cb_I cI cC cJ cII w_4 κ ra (upd (upd z 1 ((z 1) + 1)) 2 ((upd z 1 ((z 1) + 1) 2) ||| (1 <<< ((nI kk) &&& 31)))) sg (cb_upg (cb_upg G 0 kk (upd (G 0 kk) 1 1)) 0 kk (upd (upd (G 0 kk) 1 1) 2 0)) we pd := by rw [ew_4]; exact cb_I.row (by decide) (hkk) hI
    replace hH : cb_hi ws w_4 := by rw [ew_4]; exact cb_hi.set (by have := cb_gp_lt 0 (by decide) kk (hkk); omega) hH
    refine lv_aload_n hx hb d_TT_readRow_54 rfl (lv_at hl 0 rfl) ?_
    refine lv_iconst (v := 3) hx hb d_TT_readRow_55 (by decide) ?_
    refine lv_iconst (v := 0) hx hb d_TT_readRow_56 (by decide) ?_
    refine gx_is hx hb hK hP hD hS (cb_gp 0 + 1 + kk) 0 (by have h9 := hI.2.2.2.2.2.2 0 (by decide) kk (hkk); rw [cb_upg_s] at h9; exact h9) rfl 3 (by decide) (by decide) (by decide) d_TT_readRow_57 (fun H locs hP hD hS => ?_)
    obtain ⟨w_5, ew_5⟩ : ∃ x : va_W, x = w_4.set (cb_gp 0 + 1 + kk) (ra 0 kk, .inl (cI, cb_wd 0, .inl (upd (upd (upd (G 0 kk) 1 1) 2 0) 3 0))) := ⟨_, rfl⟩
    replace hP : va_P D classes w_5 H := by rw [ew_5]; exact hP
    replace hD : va_D (va_A ws sz) w_5 := by rw [ew_5]; exact hD
    replace hI : cb_I cI cC cJ cII w_5 κ ra (upd (upd z 1 ((z 1) + 1)) 2 ((upd z 1 ((z 1) + 1) 2) ||| (1 <<< ((nI kk) &&& 31)))) sg (cb_upg (cb_upg (cb_upg G 0 kk (upd (G 0 kk) 1 1)) 0 kk (upd (upd (G 0 kk) 1 1) 2 0)) 0 kk (upd (upd (upd (G 0 kk) 1 1) 2 0) 3 0)) we pd := by rw [ew_5]; exact cb_I.row (by decide) (hkk) hI
    replace hH : cb_hi ws w_5 := by rw [ew_5]; exact cb_hi.set (by have := cb_gp_lt 0 (by decide) kk (hkk); omega) hH
    have han : a < n := cb_nx_kd hkk hkd
    replace hI : cb_I cI cC cJ cII w_5 κ ra (upd (upd z 2 (z 2 ||| ((1 : Int32) <<< (nI kk &&& 31)))) 1 (nI (a + 1))) sg (cb_upg G 0 kk (upd (upd (upd (G 0 kk) 1 1) 2 0) 3 0)) we pd := by rw [cb_gg, cb_gg, h1, nI_1, cb_uc] at hI; exact hI
    refine lv_aload_n hx hb d_TT_readRow_58 rfl (lv_at hl 2 rfl) ?_
    refine lv_aload_n hx hb d_TT_readRow_59 rfl (lv_at hl 0 rfl) ?_
    refine lv_iconst (v := 0) hx hb d_TT_readRow_60 (by decide) ?_
    refine lv_bipush (v := 6) hx hb d_TT_readRow_61 (by decide) ?_
    refine gx_calli (va_runV (As := [.ref (ra 0 kk), .int 0, .int 6]) (rest := []) ⟨hx, hb, hml, hown, gx_nil⟩ (c_TT_readNumber F hI _ n (a + 1) hn (by omega) h0 rfl hc (by omega) kk 0 6 hkk (by decide) (by decide)) ⟨gx_cb (hg _ k_153) (hg _ k_2) (hg _ k_150) nd_TT_readNumber ⟨by decide, by decide⟩, hg _ k_152, hg _ ks_4⟩ (gx_preV hV hP hD hS hA0 (va_recv hK hP rfl (hI.2.1))) rfl rfl hl.1 rfl (lv_room (Nat.le_of_ble_eq_true rfl)) d_TT_readRow_63 ⟨by decide, by decide⟩) hD hS hA (fun r_63 w1 H locs h_63 hP hD hS => ?_)
    obtain ⟨b', v', hnum, hb6, hcase, hI, hh⟩ := h_63
    replace hI : cb_I cI cC cJ cII w1 κ ra (upd (upd z 2 (z 2 ||| ((1 : Int32) <<< (nI kk &&& 31)))) 1 (nI b')) sg (cb_upg G 0 kk (upd (upd (upd (upd (G 0 kk) 1 1) 2 0) 3 0) 0 v')) we pd := by rw [cb_uu, cb_upg_s, cb_gg] at hI; exact hI
    replace hH := cb_hi.trans hH hh
    have hle := cb_num_le sg n 6 (a + 1) 0 (by omega)
    rw [hnum] at hle
    rcases hcase with ⟨rfl, hgt⟩ | ⟨rfl, heq⟩
    · skip
      have hsp : cb_row2 sg n b' v' = cb_row sg n a := Eq.symm ((if_neg (cb_kd_ok hkk hkd)).trans ((if_neg (by rw [hnum]; exact Nat.ne_of_gt hgt)).trans (by rw [hnum])))
      obtain ⟨b, hbe⟩ : ∃ x, x = b' := ⟨_, rfl⟩
      obtain ⟨rf, hrf⟩ : ∃ x : Nat → Int32, x = upd (upd (upd (upd (G 0 kk) 1 1) 2 0) 3 0) 0 v' := ⟨_, rfl⟩
      rw [← hbe] at hsp hI hle hgt hb6
      have hr0 : rf 0 = v' := by rw [hrf]; rfl
      have hr1 : rf 1 = 1 := by rw [hrf]; rfl
      have hr2 : rf 2 = 0 := by rw [hrf]; rfl
      have hr3 : rf 3 = 0 := by rw [hrf]; rfl
      rw [← hr0] at hsp
      rw [← hrf] at hI
      clear hnum
      refine lv_if_eq (tgt := 146) hx hb d_TT_readRow_66 (by decide) (fun c_66 => absurd c_66 (by decide)) (fun c_66 => ?_)
      refine lv_aload_n hx hb d_TT_readRow_69 rfl (lv_at hl 2 rfl) ?_
      refine lv_bipush (v := 47) hx hb d_TT_readRow_70 (by decide) ?_
      refine gx_calli (va_runV (As := [.int 47]) (rest := []) ⟨hx, hb, hml, hown, gx_nil⟩ (c_TT_passes F hI _ n b hn (by omega) h0 rfl hc _) ⟨gx_cb (hg _ k_160) (hg _ k_2) (hg _ k_157) nd_TT_passes ⟨by decide, by decide⟩, hg _ k_159, hg _ ks_5⟩ (gx_preV hV hP hD hS hA0 (va_recv hK hP rfl (hI.2.1))) rfl rfl hl.1 rfl (lv_room (Nat.le_of_ble_eq_true rfl)) d_TT_readRow_72 ⟨by decide, by decide⟩) hD hS hA (fun r_72 w1 H locs h_72 hP hD hS => ?_)
      rcases h_72 with ⟨rfl, hq, hw⟩ | ⟨rfl, hq, hI, hh⟩
      · skip
        rw [hw] at hP hD
        refine lv_if_eq (tgt := 94) hx hb d_TT_readRow_75 (by decide) (fun c_75 => ?_) (fun c_75 => absurd c_75 (by decide))
        exact st94 kk hkk hkd b rf _ _ _ ls (by omega) (by omega) hr2 hr3 (by rw [← hsp]; exact Eq.symm ((if_neg hq).trans (by rw [hr1]))) hI hH hP hD hS (lv_sub hl [2, 1, 0] rfl)
      · skip
        have hbn1 : b < n := cb_nx_lt (by decide) hq
        replace hI : cb_I cI cC cJ cII w1 κ ra (upd (upd z 2 (z 2 ||| ((1 : Int32) <<< (nI kk &&& 31)))) 1 (nI (b + 1))) sg (cb_upg G 0 kk rf) we pd := by rw [cb_uu] at hI; exact hI
        replace hH := cb_hi.trans hH hh
        refine lv_if_eq (tgt := 94) hx hb d_TT_readRow_75 (by decide) (fun c_75 => absurd c_75 (by decide)) (fun c_75 => ?_)
        refine lv_aload_n hx hb d_TT_readRow_78 rfl (lv_at hl 2 rfl) ?_
        refine lv_aload_n hx hb d_TT_readRow_79 rfl (lv_at hl 0 rfl) ?_
        refine lv_iconst (v := 1) hx hb d_TT_readRow_80 (by decide) ?_
        refine lv_iconst (v := 4) hx hb d_TT_readRow_81 (by decide) ?_
        refine gx_calli (va_runV (As := [.ref (ra 0 kk), .int 1, .int 4]) (rest := []) ⟨hx, hb, hml, hown, gx_nil⟩ (c_TT_readNumber F hI _ n (b + 1) hn (by omega) h0 rfl hc (by omega) kk 1 4 hkk (by decide) (by decide)) ⟨gx_cb (hg _ k_153) (hg _ k_2) (hg _ k_150) nd_TT_readNumber ⟨by decide, by decide⟩, hg _ k_152, hg _ ks_4⟩ (gx_preV hV hP hD hS hA0 (va_recv hK hP rfl (hI.2.1))) rfl rfl hl.1 rfl (lv_room (Nat.le_of_ble_eq_true rfl)) d_TT_readRow_82 ⟨by decide, by decide⟩) hD hS hA (fun r_82 w1 H locs h_82 hP hD hS => ?_)
        obtain ⟨b', v', hnum, hb6, hcase, hI, hh⟩ := h_82
        replace hI : cb_I cI cC cJ cII w1 κ ra (upd (upd z 2 (z 2 ||| ((1 : Int32) <<< (nI kk &&& 31)))) 1 (nI b')) sg (cb_upg G 0 kk (upd rf 1 v')) we pd := by rw [cb_uu, cb_upg_s, cb_gg] at hI; exact hI
        replace hH := cb_hi.trans hH hh
        have hle := cb_num_le sg n 4 (b + 1) 0 (by omega)
        rw [hnum] at hle
        rcases hcase with ⟨rfl, hgt⟩ | ⟨rfl, heq⟩
        · skip
          refine lv_if_eq (tgt := 146) hx hb d_TT_readRow_85 (by decide) (fun c_85 => absurd c_85 (by decide)) (fun c_85 => ?_)
          refine lv_aload_n hx hb d_TT_readRow_88 rfl (lv_at hl 0 rfl) ?_
          refine lv_iconst (v := 1) hx hb d_TT_readRow_89 (by decide) ?_
          refine gx_il hx hb hK hP (cb_gp 0 + 1 + kk) 0 (by have h9 := hI.2.2.2.2.2.2 0 (by decide) kk (hkk); rw [cb_upg_s] at h9; exact h9) rfl 1 (by decide) (by decide) (by decide) d_TT_readRow_90 ?_
          refine lv_if_le (tgt := 146) hx hb d_TT_readRow_91 (by decide) (fun c_91 => ?_) (fun c_91 => ?_)
          · skip
            have hfail : cb_row sg n a = (false, b', 0, 0, 0, 0) := by rw [← hsp]; exact (if_pos hq).trans ((if_pos (Or.inr (by rw [hnum]; exact c_91))).trans (by rw [hnum]))
            refine lv_iconst (v := 0) hx hb d_TT_readRow_146 (by decide) ?_
            exact gx_iret hx hb hr hlocks rfl hS hP hD (by decide) (by decide) d_TT_readRow_147 (Or.inl ⟨rfl, _, _, _, hfail, hI, hH, rfl, by omega, ⟨rfl, rfl, rfl, rfl⟩, cb_gk_u⟩)
          · skip
            have hper : ¬ v' ≤ 0 := c_91
            exact st94 kk hkk hkd b' (upd rf 1 v') _ _ _ ls (by omega) (by omega) hr2 hr3 (by rw [← hsp]; refine Eq.symm ((if_pos hq).trans ((if_neg (by rw [hnum]; exact fun z9 => z9.elim (Nat.ne_of_gt hgt) hper)).trans (by rw [hnum]; rfl)))) hI hH hP hD hS (lv_sub hl [2, 1, 0] rfl)
        · skip
          have hfail : cb_row sg n a = (false, b', 0, 0, 0, 0) := by rw [← hsp]; exact (if_pos hq).trans ((if_pos (Or.inl (by rw [hnum]; exact heq))).trans (by rw [hnum]))
          refine lv_if_eq (tgt := 146) hx hb d_TT_readRow_85 (by decide) (fun c_85 => ?_) (fun c_85 => absurd c_85 (by decide))
          refine lv_iconst (v := 0) hx hb d_TT_readRow_146 (by decide) ?_
          exact gx_iret hx hb hr hlocks rfl hS hP hD (by decide) (by decide) d_TT_readRow_147 (Or.inl ⟨rfl, _, _, _, hfail, hI, hH, rfl, by omega, ⟨rfl, rfl, rfl, rfl⟩, cb_gk_u⟩)
    · skip
      have hfail : cb_row sg n a = (false, b', 0, 0, 0, 0) := by rw [heq]; exact (if_neg (cb_kd_ok hkk hkd)).trans (if_pos (by rw [hnum]; exact heq))
      refine lv_if_eq (tgt := 146) hx hb d_TT_readRow_66 (by decide) (fun c_66 => ?_) (fun c_66 => absurd c_66 (by decide))
      refine lv_iconst (v := 0) hx hb d_TT_readRow_146 (by decide) ?_
      exact gx_iret hx hb hr hlocks rfl hS hP hD (by decide) (by decide) d_TT_readRow_147 (Or.inl ⟨rfl, _, _, _, hfail, hI, hH, rfl, by omega, ⟨rfl, rfl, rfl, rfl⟩, cb_gk_u⟩)
  · skip
    refine lv_if_ne (tgt := 17) hx hb d_TT_readRow_12 (by decide) (fun c_12 => absurd c_12 (by decide)) (fun c_12 => ?_)
    refine lv_iconst (v := 0) hx hb d_TT_readRow_15 (by decide) ?_
    exact gx_iret hx hb hr hlocks rfl hS hP hD (by decide) (by decide) d_TT_readRow_16 (Or.inl ⟨rfl, a, z, G, if_pos hkd, hI, hH, h1, ha3, ⟨rfl, rfl, rfl, rfl⟩, fun _ _ => rfl⟩)

