set_option maxRecDepth 100000 in
set_option maxHeartbeats 4000000 in
theorem c_PB_bill {l : Launch} {s0 : State} {D : va_G} {cI cC cJ cII cO cZ : ClassId} (F : FX l s0 D cI cC cJ cII cO cZ) {ws : va_W} {κ : Nat → Nat} {ra : Nat → Nat → Nat} {z sg : Nat → Int32} {G : Nat → Nat → Nat → Int32} {we : Nat → Int32} {pd : Nat → Int64} (hI : cb_I cI cC cJ cII ws κ ra z sg G we pd) {nl : Nat} {la lp : Nat → Nat} {li : Nat → Nat → Int32} {ll : Nat → Nat → Int64} (hL : cb_L cO ws (κ 62) (z 5) (fx_e0 F) nl la lp li ll) (sz : Nat) (hnl : nl ≤ 200) (p0 : Int32)  : gx_XM l y_PB_bill [.code y_PB_bill b_PB_bill 4 (some .int)] { frames := 9, cells := 13, slots := 2460, locals := 320 } (gx_P s0 D classes ws sz [.ref (κ 0), .int p0]) (va_Qi (fun r w1 => ∃ k9, k9 < 10 ∧ p0 = nI k9 ∧ nl + cb_cnt (cb_qq G k9) 6 ≤ 200 ∧ r = nI (cb_cnt (cb_qq G k9) 6) ∧ ∃ (z9 : Nat → Int32) (la9 lp9 : Nat → Nat), (∀ q, q < 4 → z9 q = z q) ∧ z9 4 = z 4 - we k9 ∧ cb_I cI cC cJ cII w1 κ ra z9 sg (cb_upg G 2 k9 (cb_fil (G 2 k9) 0 6)) (upd we k9 0) pd ∧ cb_L cO w1 (κ 62) (z9 5) (fx_e0 F) (cb_BS (z 3) G k9 nl li ll 6).1 la9 lp9 (cb_BS (z 3) G k9 nl li ll 6).2.1 (cb_BS (z 3) G k9 nl li ll 6).2.2) (gx_B D classes ws sz) (va_A ws sz)) (fun E => (E = "java/lang/IllegalArgumentException" ∧ (p0 < 0 ∨ nI 10 ≤ p0)) ∨ (E = "java/lang/IllegalStateException" ∧ ∃ k9, k9 < 10 ∧ p0 = nI k9 ∧ 200 < nl + cb_cnt (cb_qq G k9) 6)) 13 2460 (va_A ws sz) := by
  refine gx_xmet (by decide +kernel) (Nat.le_of_ble_eq_true rfl) ?_
  intro p e s m below meth c ls hx hb hr hml hown hlocks hex hsz hV hP hD hS hA hA0 hl
  have hg := fx_g F hV ([.ref (κ 0), .int p0] : List Value).toArray
  have hK := fx_k F hV
  have hn9 := fx_n F hV
  have hl : lv_has ls 4 [(0, .ref (κ 0)), (1, .int p0)] := hl
  obtain ⟨ea, e62, eL, einj, earr⟩ := id hL
  refine lv_iload_n hx hb d_PB_bill_0 rfl (lv_at hl 1 rfl) ?_
  refine gx_readi (va_runS (As := [.int p0]) (rest := []) ⟨hx, hb, hml, hown, gx_nil⟩ (c_PB_isCall F _ _ _) ⟨gx_cb (hg _ k_178) (hg _ k_1) (hg _ k_176) nd_PB_isCall ⟨by decide, by decide⟩, hg _ k_177⟩ (gx_preS hV hP hD hS hA0) rfl rfl hl.1 rfl (lv_room (Nat.le_of_ble_eq_true rfl)) d_PB_bill_1 ⟨by decide, by decide⟩) (fun r_1 h_1 => ?_)
  rcases h_1 with ⟨rfl, k, hk, rfl⟩ | ⟨rfl, hbad⟩
  · skip
    refine lv_if_ne (tgt := 17) hx hb d_PB_bill_4 (by decide) (fun c_4 => ?_) (fun c_4 => absurd c_4 (by decide))
    refine lv_aload_n hx hb d_PB_bill_17 rfl (lv_at hl 0 rfl) ?_
    refine lv_iload_n hx hb d_PB_bill_18 rfl (lv_at hl 1 rfl) ?_
    refine gx_readi (va_runV (As := [.int (nI k)]) (rest := []) ⟨hx, hb, hml, hown, gx_nil⟩ (c_PB_kindsThatWait F hI _ k hk) ⟨gx_cb (hg _ k_333) (hg _ k_1) (hg _ k_330) nd_PB_kindsThatWait ⟨by decide, by decide⟩, hg _ k_332, hg _ ks_11⟩ (gx_preV hV hP hD hS hA0 (va_recv hK hP rfl (hI.1))) rfl rfl hl.1 rfl (lv_room (Nat.le_of_ble_eq_true rfl)) d_PB_bill_19 ⟨by decide, by decide⟩) (fun r_19 h_19 => ?_)
    have h19 : r_19 = nI (cb_cnt (cb_qq G k) 6) := h_19
    subst h19
    refine lv_istore_n (lv' := [(2, .int (nI (cb_cnt (cb_qq G k) 6))), (0, .ref (κ 0)), (1, .int (nI k))]) hx hb d_PB_bill_22 rfl hl (by decide) rfl (fun ls hl => ?_)
    refine lv_aload_n hx hb d_PB_bill_23 rfl (lv_at hl 1 rfl) ?_
    refine va_get (D := D) (ci := iPB) (v := .ref (κ 62)) (C := R_PB) (T := F_PB) (N := 11) hx hb (fl_PB hg) (fun _ h9 => h9) hown hK hP 0 (hI.1) rfl 9 (by decide) (hg _ k_97) (fun _ h9 => h9) rfl d_PB_bill_24 ?_
    refine gx_readi (va_runV (As := []) (rest := []) ⟨hx, hb, hml, hown, gx_nil⟩ (c_AL_size F e62 _) ⟨gx_cb (hg _ k_191) (hg _ k_5) (hg _ k_188) nd_AL_size ⟨by decide, by decide⟩, hg _ k_189, hg _ k_190⟩ (gx_preV hV hP hD hS hA0 (va_recv hK hP rfl (e62))) rfl rfl hl.1 rfl (lv_room (Nat.le_of_ble_eq_true rfl)) d_PB_bill_27 ⟨by decide, by decide⟩) (fun r_27 h_27 => ?_)
    subst h_27
    refine lv_iload_n hx hb d_PB_bill_30 rfl (lv_at hl 0 rfl) ?_
    refine lv_iadd hx hb d_PB_bill_31 ?_
    rw [nI_add]
    refine lv_sipush (v := 200) hx hb d_PB_bill_32 (by decide) ?_
    refine lv_icmp_le (tgt := 48) hx hb d_PB_bill_35 (by decide) (fun c_35 => ?_) (fun c_35 => ?_)
    · skip
      have hcn : cb_cnt (cb_qq G k) 6 ≤ 6 := cb_cnt_le _ 6
      have hle : nl + cb_cnt (cb_qq G k) 6 ≤ 200 := gx_ngt (b := 200) c_35
      refine lv_iconst (v := 0) hx hb d_PB_bill_48 (by decide) ?_
      refine lv_istore_n (lv' := [(3, .int 0), (2, .int (nI (cb_cnt (cb_qq G k) 6))), (0, .ref (κ 0)), (1, .int (nI k))]) hx hb d_PB_bill_49 rfl hl (by decide) rfl (fun ls hl => ?_)
      have loop : ∀ (nn : Nat) (i : Nat) (z' : Nat → Int32) (la' lp' : Nat → Nat) (wx : va_W) (H : Heap) (locs : List Loc) (ls : Array Slot) (hi : i ≤ 6) (hf : 7 ≤ i + nn) (hz : ∀ q, q < 5 → z' q = z q) (hI : cb_I cI cC cJ cII wx κ ra z' sg G we pd) (hL : cb_L cO wx (κ 62) (z' 5) (fx_e0 F) (cb_BS (z 3) G k nl li ll i).1 la' lp' (cb_BS (z 3) G k nl li ll i).2.1 (cb_BS (z 3) G k nl li ll i).2.2) (hP : va_P D classes wx H) (hD : va_D (va_A ws sz) wx) (hS : va_S (va_A ws sz) s.heap H locs) (hl : lv_has ls 4 [(3, .int (nI i)), (0, .ref (κ 0)), (1, .int (nI k)), (2, .int (nI (cb_cnt (cb_qq G k) 6)))]), W p l e ({ frames := 9, cells := 13, slots := 2460, locals := 320 } : Room) s m ([.ref (κ 0), .int (nI k)] : List Value).toArray below meth c H locs (2 * i) (409 * i) (gx_MX below (va_Qi (fun r w1 => ∃ k9, k9 < 10 ∧ (nI k) = nI k9 ∧ nl + cb_cnt (cb_qq G k9) 6 ≤ 200 ∧ r = nI (cb_cnt (cb_qq G k9) 6) ∧ ∃ (z9 : Nat → Int32) (la9 lp9 : Nat → Nat), (∀ q, q < 4 → z9 q = z q) ∧ z9 4 = z 4 - we k9 ∧ cb_I cI cC cJ cII w1 κ ra z9 sg (cb_upg G 2 k9 (cb_fil (G 2 k9) 0 6)) (upd we k9 0) pd ∧ cb_L cO w1 (κ 62) (z9 5) (fx_e0 F) (cb_BS (z 3) G k9 nl li ll 6).1 la9 lp9 (cb_BS (z 3) G k9 nl li ll 6).2.1 (cb_BS (z 3) G k9 nl li ll 6).2.2) (gx_B D classes ws sz) (va_A ws sz)) (fun E => (E = "java/lang/IllegalArgumentException" ∧ ((nI k) < 0 ∨ nI 10 ≤ (nI k))) ∨ (E = "java/lang/IllegalStateException" ∧ ∃ k9, k9 < 10 ∧ (nI k) = nI k9 ∧ 200 < nl + cb_cnt (cb_qq G k9) 6)) ([.ref (κ 0), .int (nI k)] : List Value).toArray s 13 2460 (va_A ws sz)) (F0 m 50 ls []) := by
        intro nn
        induction nn with
        | zero =>
          intro i z' la' lp' wx H locs ls hi hf hz hI hL hP hD hS hl
          exact absurd hf (by omega)
        | succ nn ih =>
          intro i z' la' lp' wx H locs ls hi hf hz hI hL hP hD hS hl
          refine lv_iload_n hx hb d_PB_bill_50 rfl (lv_at hl 0 rfl) ?_
          refine lv_bipush (v := 6) hx hb d_PB_bill_51 (by decide) ?_
          refine lv_icmp_ge (tgt := 87) hx hb d_PB_bill_53 (by decide) (fun c_53 => ?_) (fun c_53 => ?_)
          · skip
            have hi6 : i = 6 := by have := gx_ngt (a := 6) c_53; omega
            refine lv_aload_n hx hb d_PB_bill_87 rfl (lv_at hl 1 rfl) ?_
            refine lv_iload_n hx hb d_PB_bill_88 rfl (lv_at hl 2 rfl) ?_
            refine gx_callv (va_runV (As := [.int (nI k)]) (rest := []) ⟨hx, hb, hml, hown, gx_nil⟩ (c_PB_forgetEvents F hI _ k hk) ⟨gx_cb (hg _ k_447) (hg _ k_1) (hg _ k_444) nd_PB_forgetEvents ⟨by decide, by decide⟩, hg _ k_446, hg _ ks_17⟩ (gx_preV hV hP hD hS hA0 (va_recv hK hP rfl (hI.1))) rfl rfl hl.1 rfl (lv_room (Nat.le_of_ble_eq_true rfl)) d_PB_bill_89 ⟨by show 2 * i + 0 ≤ 13; omega, by show 409 * i + 0 ≤ 2460; omega⟩) hD hS hA (fun w1 H locs h_89 hP hD hS => ?_)
            obtain ⟨hI, hh⟩ := h_89
            refine lv_iload_n hx hb d_PB_bill_92 rfl (lv_at hl 3 rfl) ?_
            exact gx_mx (gx_iret hx hb hr hlocks rfl hS hP hD (by omega) (by omega) d_PB_bill_93 (⟨k, hk, rfl, hle, rfl, upd z' 4 (z' 4 - we k), la', lp', fun q hq => (if_neg (by omega)).trans (hz q (by omega)), by show z' 4 - we k = _; rw [hz 4 (by decide)], hI, by have h9 := cb_L.of hh hL; rw [hi6] at h9; exact h9⟩))
          · skip
            have hi6 : i < 6 := gx_nlt (a := 6) c_53
            refine lv_aload_n hx hb d_PB_bill_56 rfl (lv_at hl 1 rfl) ?_
            refine va_get (D := D) (ci := iPB) (v := .ref (κ 17)) (C := R_PB) (T := F_PB) (N := 11) hx hb (fl_PB hg) (fun _ h9 => h9) hown hK hP 0 (hI.1) rfl 3 (by decide) (hg _ k_91) (fun _ h9 => h9) rfl d_PB_bill_57 ?_
            refine lv_iload_n hx hb d_PB_bill_60 rfl (lv_at hl 2 rfl) ?_
            refine gx_al hx hb hK hP 17 3 (hI.2.2.2.2.2.1 2 (by decide)) rfl rfl k (v := ra 2 k) (rfl) (hk) (by decide) (if_pos (hk)) d_PB_bill_61 ?_
            refine lv_iload_n hx hb d_PB_bill_62 rfl (lv_at hl 0 rfl) ?_
            refine gx_il hx hb hK hP (cb_gp 2 + 1 + k) 0 (hI.2.2.2.2.2.2 2 (by decide) k (hk)) rfl i (rfl) (hi6) (by decide) d_PB_bill_63 ?_
            refine lv_if_le (tgt := 81) hx hb d_PB_bill_64 (by decide) (fun c_64 => ?_) (fun c_64 => ?_)
            · skip
              have hq9 : ¬ cb_qq G k i = true := fun q => of_decide_eq_true q c_64
              refine lv_iinc (v := nI (i + 1)) (lv' := [(3, .int (nI (i + 1))), (0, .ref (κ 0)), (1, .int (nI k)), (2, .int (nI (cb_cnt (cb_qq G k) 6)))]) hx hb d_PB_bill_81 hl (k := 0) rfl (by rw [lit1]; exact nI_1 i) (by decide) rfl (fun ls hl => ?_)
              refine lv_goto (tgt := 50) hx hb d_PB_bill_84 (by decide) ?_
              exact W.widen (by omega) (by omega) (ih (i + 1) z' la' lp' _ _ _ ls (by omega) (by omega) hz hI (by rw [show cb_BS (z 3) G k nl li ll (i + 1) = _ from cb_bs_n hq9]; exact hL) hP hD hS (lv_sub hl [0, 1, 2, 3] rfl))
            · skip
              have hq9 : cb_qq G k i = true := decide_eq_true c_64
              refine lv_aload_n hx hb d_PB_bill_67 rfl (lv_at hl 1 rfl) ?_
              refine va_get (D := D) (ci := iPB) (v := .ref (κ 62)) (C := R_PB) (T := F_PB) (N := 11) hx hb (fl_PB hg) (fun _ h9 => h9) hown hK hP 0 (hI.1) rfl 9 (by decide) (hg _ k_97) (fun _ h9 => h9) rfl d_PB_bill_68 ?_
              refine lv_aload_n hx hb d_PB_bill_71 rfl (lv_at hl 1 rfl) ?_
              refine lv_iload_n hx hb d_PB_bill_72 rfl (lv_at hl 2 rfl) ?_
              refine lv_iload_n hx hb d_PB_bill_73 rfl (lv_at hl 0 rfl) ?_
              refine gx_callr (va_runV (As := [.int (nI k), .int (nI i)]) (rest := [.ref (κ 62)]) ⟨hx, hb, hml, hown, gx_nil⟩ (c_PB_billedLine F hI _ k i hk hi6) ⟨gx_cb (hg _ k_338) (hg _ k_1) (hg _ k_335) nd_PB_billedLine ⟨by decide, by decide⟩, hg _ k_337, hg _ ks_12⟩ (gx_preV hV hP hD hS hA0 (va_recv hK hP rfl (hI.1))) rfl rfl hl.1 rfl (lv_room (Nat.le_of_ble_eq_true rfl)) d_PB_bill_74 ⟨by show 2 * i + 1 ≤ 13; omega, by show 409 * i + 9 ≤ 2460; omega⟩) hD hS hA (fun r_74 w1 H locs h_74 hP hD hS => ?_)
              have h74 : w1 = wx ++ [(r_74, .inr (iLN, cb_ln (cb_bfi (z 3) G k i) (cb_bfl G k i)))] := by
                have h9 := h_74
                rw [hz 3 (by decide)] at h9
                exact h9
              have hv74 : w1[wx.length]? = some (r_74, .inr (iLN, cb_ln (cb_bfi (z 3) G k i) (cb_bfl G k i))) := by rw [h74]; exact gx_lat _ _
              have hlen : 63 < wx.length := (List.getElem?_eq_some_iff.mp hI.2.2.2.2.1).1
              obtain ⟨ea9, e629, eL9, -, -⟩ := id hL
              have hne9 : ∀ j, j < (cb_BS (z 3) G k nl li ll i).1 → lp' j ≠ wx.length := fun j hj => by have := (List.getElem?_eq_some_iff.mp (eL9 j hj).2).1; omega
              have hlt9 : (cb_BS (z 3) G k nl li ll i).1 < 200 := by have h9 : (cb_BS (z 3) G k nl li ll i).1 = nl + cb_cnt (cb_qq G k) i := cb_bs_1 i; have h8 := cb_cnt_lt hi6 hq9; omega
              replace hI : cb_I cI cC cJ cII w1 κ ra z' sg G we pd := by rw [h74]; exact cb_I.app hI
              replace hL : cb_L cO w1 (κ 62) (z' 5) (fx_e0 F) (cb_BS (z 3) G k nl li ll i).1 la' lp' (cb_BS (z 3) G k nl li ll i).2.1 (cb_BS (z 3) G k nl li ll i).2.2 := by rw [h74]; exact cb_L.app hL
              have e62w : w1[62]? = some (κ 62, .inr (iAL, [.int (z' 5), .ref ea9, .int (nI (cb_BS (z 3) G k nl li ll i).1)])) := by rw [h74]; exact gx_ap e629
              refine gx_calli (va_runV (As := [.ref r_74]) (rest := []) ⟨hx, hb, hml, hown, gx_nil⟩ (c_AL_addP F hI hL _ hv74 (by omega) hne9 hlt9) ⟨gx_cb (hg _ k_395) (hg _ k_5) (hg _ k_392) nd_AL_add ⟨by decide, by decide⟩, hg _ k_393, hg _ k_394⟩ (gx_preV hV hP hD hS hA0 (va_recv hK hP rfl (e62w))) rfl rfl hl.1 rfl (lv_room (Nat.le_of_ble_eq_true rfl)) d_PB_bill_77 ⟨by show 2 * i + 1 + 1 ≤ 13; omega, by show 409 * i + 9 + 400 ≤ 2460; omega⟩) hD hS hA (fun r_77 w1 H locs h_77 hP hD hS => ?_)
              obtain ⟨-, hI, hL⟩ := h_77
              refine lv_pop hx hb d_PB_bill_80 rfl ?_
              refine lv_iinc (v := nI (i + 1)) (lv' := [(3, .int (nI (i + 1))), (0, .ref (κ 0)), (1, .int (nI k)), (2, .int (nI (cb_cnt (cb_qq G k) 6)))]) hx hb d_PB_bill_81 hl (k := 0) rfl (by rw [lit1]; exact nI_1 i) (by decide) rfl (fun ls hl => ?_)
              refine lv_goto (tgt := 50) hx hb d_PB_bill_84 (by decide) ?_
              exact W.widen (by omega) (by omega) (ih (i + 1) (upd z' 5 (z' 5 + 1)) _ _ _ _ _ ls (by omega) (by omega) (fun q hq => (if_neg (by omega)).trans (hz q hq)) hI (by rw [show cb_BS (z 3) G k nl li ll (i + 1) = _ from cb_bs_s hq9]; exact hL) hP hD hS (lv_sub hl [0, 1, 2, 3] rfl))
      exact loop 7 0 z la lp ws s.heap [] ls (by decide) (by decide) (fun _ _ => rfl) hI hL hP hD hS (lv_sub hl [0, 2, 3, 1] rfl)
    · skip
      have hcn : cb_cnt (cb_qq G k) 6 ≤ 6 := cb_cnt_le _ 6
      have hgt : 200 < nl + cb_cnt (cb_qq G k) 6 := gx_nlt (b := 200) c_35
      exact gx_throw (own := "PortBills") (cls := "java/lang/IllegalStateException") (text := "no room for the lines") (names := fx_nm) (ik := 91) (is := 112) (ic := 95) hx hb (fx_tr F) hown (by decide +kernel) (by decide +kernel) (hg _ k_298) (hg _ k_13) (fx_str_112 F hV).choose_spec (fx_own_95 F hV _) (hl.1.trans hml.symm) d_PB_bill_38 d_PB_bill_41 d_PB_bill_42 d_PB_bill_44 d_PB_bill_47 hex (by decide) (by decide) (by decide) (by decide) hlocks (Or.inr ⟨rfl, k, hk, rfl, hgt⟩)
  · skip
    refine lv_if_ne (tgt := 17) hx hb d_PB_bill_4 (by decide) (fun c_4 => absurd c_4 (by decide)) (fun c_4 => ?_)
    exact gx_throw (own := "PortBills") (cls := "java/lang/IllegalArgumentException") (text := "no such call") (names := fx_nm) (ik := 71) (is := 103) (ic := 75) hx hb (fx_tr F) hown (by decide +kernel) (by decide +kernel) (hg _ k_215) (hg _ k_12) (fx_str_103 F hV).choose_spec (fx_own_75 F hV _) (hl.1.trans hml.symm) d_PB_bill_7 d_PB_bill_10 d_PB_bill_11 d_PB_bill_13 d_PB_bill_16 hex (by decide) (by decide) (by decide) (by decide) hlocks (Or.inl ⟨rfl, hbad⟩)

