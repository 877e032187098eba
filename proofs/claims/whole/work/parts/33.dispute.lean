set_option maxRecDepth 100000 in
set_option maxHeartbeats 4000000 in
theorem c_PB_dispute {l : Launch} {s0 : State} {D : va_G} {cI cC cJ cII cO cZ : ClassId} (F : FX l s0 D cI cC cJ cII cO cZ) {ws : va_W} {κ : Nat → Nat} {ra : Nat → Nat → Nat} {z sg : Nat → Int32} {G : Nat → Nat → Nat → Int32} {we : Nat → Int32} {pd : Nat → Int64} (hI : cb_I cI cC cJ cII ws κ ra z sg G we pd) {nl : Nat} {la lp : Nat → Nat} {li : Nat → Nat → Int32} {ll : Nat → Nat → Int64} (hL : cb_L cO ws (κ 62) (z 5) (fx_e0 F) nl la lp li ll) (sz : Nat) (hnl : nl ≤ 200) (p0 p1 : Int32) (hb01 : p1 = 0 ∨ p1 = 1)  : gx_XM l y_PB_dispute [.code y_PB_dispute b_PB_dispute 6 (some .int)] { frames := 9, cells := 1, slots := 6, locals := 320 } (gx_P s0 D classes ws sz [.ref (κ 0), .int p0, .int p1]) (va_Qi (fun r w1 => ∃ t9, t9 < nl ∧ p0 = nI t9 ∧ ((r = 0 ∧ (¬ li t9 4 = -1 ∨ li t9 6 = p1) ∧ w1 = ws) ∨ (r = 1 ∧ li t9 4 = -1 ∧ ¬ li t9 6 = p1 ∧ cb_I cI cC cJ cII w1 κ ra z sg G we pd ∧ cb_L cO w1 (κ 62) (z 5) (fx_e0 F) nl la lp (cb_dsp li t9 p1 nl) ll))) (gx_B D classes ws sz) (va_A ws sz)) (fun E => E = "java/lang/IllegalArgumentException" ∧ (p0 < 0 ∨ nI nl ≤ p0)) 1 6 (va_A ws sz) := by
  refine gx_xmet (by decide +kernel) (Nat.le_of_ble_eq_true rfl) ?_
  intro p e s m below meth c ls hx hb hr hml hown hlocks hex hsz hV hP hD hS hA hA0 hl
  have hg := fx_g F hV ([.ref (κ 0), .int p0, .int p1] : List Value).toArray
  have hK := fx_k F hV
  have hn9 := fx_n F hV
  have hl : lv_has ls 6 [(0, .ref (κ 0)), (1, .int p0), (2, .int p1)] := hl
  obtain ⟨ea, e62, eL, einj, earr⟩ := id hL
  refine lv_aload_n hx hb d_PB_dispute_0 rfl (lv_at hl 0 rfl) ?_
  refine lv_iload_n hx hb d_PB_dispute_1 rfl (lv_at hl 1 rfl) ?_
  refine gx_readi (va_runV (As := [.int p0]) (rest := []) ⟨hx, hb, hml, hown, gx_nil⟩ (c_PB_isLine F hI hL _ hnl _) ⟨gx_cb (hg _ k_458) (hg _ k_1) (hg _ k_455) nd_PB_isLine ⟨by decide, by decide⟩, hg _ k_457, hg _ ks_18⟩ (gx_preV hV hP hD hS hA0 (va_recv hK hP rfl (hI.1))) rfl rfl hl.1 rfl (lv_room (Nat.le_of_ble_eq_true rfl)) d_PB_dispute_2 ⟨by decide, by decide⟩) (fun r_2 h_2 => ?_)
  rcases h_2 with ⟨rfl, t, ht, rfl⟩ | ⟨rfl, hbad⟩
  · skip
    refine lv_if_ne (tgt := 18) hx hb d_PB_dispute_5 (by decide) (fun c_5 => ?_) (fun c_5 => absurd c_5 (by decide))
    obtain ⟨ep, cap, ef, ea0, ea5, ea6, ea7, ea1, ea2, ea3⟩ : ∃ (ep cap : Nat) (ef : Nat → Option Nat), 64 ≤ ep ∧ nl ≤ cap ∧ 10 ≤ cap ∧ cap ≤ 400 ∧ ws[ep]? = some (ea, .inl (cO, cap, .inr (.inr (.inr (.inr ef))))) ∧ (∀ j, j < nl → ef j = some (la j)) ∧ ∀ j, j < cap → ∀ y, ef j = some y → ∃ i, i < nl ∧ y = la i := earr.resolve_left (fun q => absurd q.1 (by omega))
    refine lv_aload_n hx hb d_PB_dispute_18 rfl (lv_at hl 0 rfl) ?_
    refine va_get (D := D) (ci := iPB) (v := .ref (κ 62)) (C := R_PB) (T := F_PB) (N := 11) hx hb (fl_PB hg) (fun _ h9 => h9) hown hK hP 0 (hI.1) rfl 9 (by decide) (hg _ k_97) (fun _ h9 => h9) rfl d_PB_dispute_19 ?_
    refine lv_iload_n hx hb d_PB_dispute_22 rfl (lv_at hl 1 rfl) ?_
    refine gx_readr (va_runV (As := [.int (nI t)]) (rest := []) ⟨hx, hb, hml, hown, gx_nil⟩ (c_AL_get F e62 ea1 _ t (la t) (by omega) (by omega) (nI_lt (ht) (by omega)) (ea2 t (ht))) ⟨gx_cb (hg _ k_195) (hg _ k_5) (hg _ k_192) nd_AL_get ⟨by decide, by decide⟩, hg _ k_193, hg _ k_194⟩ (gx_preV hV hP hD hS hA0 (va_recv hK hP rfl (e62))) rfl rfl hl.1 rfl (lv_room (Nat.le_of_ble_eq_true rfl)) d_PB_dispute_23 ⟨by decide, by decide⟩) (fun r_23 h_23 => ?_)
    subst h_23
    refine va_castS hx hb hown (hg _ k_206) (hK.1 iLN _ rfl).2 (va_recv hK hP rfl ((eL t (ht)).2)) d_PB_dispute_26 ?_
    refine lv_astore_n (lv' := [(3, .ref (la t)), (0, .ref (κ 0)), (1, .int (nI t)), (2, .int p1)]) hx hb d_PB_dispute_29 rfl hl (by decide) rfl (fun ls hl => ?_)
    refine lv_aload_n hx hb d_PB_dispute_30 rfl (lv_at hl 0 rfl) ?_
    refine gx_readi (va_runVN (As := []) (rest := []) ⟨hx, hb, hml, hown, gx_nil⟩ (c_LN_isCorrection F (eL t ht).2 _) ⟨gx_cn (hg _ k_465) (hg _ k_15) (hn9 _ kn_462) nd_LN_isCorrection ⟨by decide, by decide⟩, hg _ k_464, hg _ ks_19⟩ (gx_preV hV hP hD hS hA0 (va_recv hK hP rfl ((eL t ht).2))) rfl rfl hl.1 rfl (lv_room (Nat.le_of_ble_eq_true rfl)) d_PB_dispute_31 ⟨by decide, by decide⟩) (fun r_31 h_31 => ?_)
    rcases h_31 with ⟨rfl, hcor⟩ | ⟨rfl, hcor⟩
    · skip
      refine lv_if_ne (tgt := 45) hx hb d_PB_dispute_34 (by decide) (fun c_34 => absurd c_34 (by decide)) (fun c_34 => ?_)
      refine lv_aload_n hx hb d_PB_dispute_37 rfl (lv_at hl 0 rfl) ?_
      refine va_getN (D := D) (ci := iLN) (v := .int (li t 6)) (C := R_LN) (T := F_LN) (N := 9) hx hb (fl_LN hg) (fun _ h9 => h9) hown hK hP (lp t) ((eL t (ht)).2) rfl 7 (by decide) (va_Nw.use rfl (hn9 _ kn_370)) (fun _ h9 => h9) rfl d_PB_dispute_38 ?_
      refine lv_iload_n hx hb d_PB_dispute_41 rfl (lv_at hl 3 rfl) ?_
      refine lv_icmp_ne (tgt := 47) hx hb d_PB_dispute_42 (by decide) (fun c_42 => ?_) (fun c_42 => ?_)
      · skip
        refine lv_aload_n hx hb d_PB_dispute_47 rfl (lv_at hl 0 rfl) ?_
        refine lv_iload_n hx hb d_PB_dispute_48 rfl (lv_at hl 3 rfl) ?_
        refine va_putN (D := D) (ci := iLN) (v := .int p1) (ty := .boolean) (C := R_LN) (T := F_LN) (N := 9) hx hb (fl_LN hg) (fun _ h9 => h9) t_LN t_LN_ok n_LN hown hK hP hD hS (lp t) ((eL t (ht)).2) rfl 7 (by decide) (va_Nw.use rfl (hn9 _ kn_370)) (fun _ h9 => h9) rfl (by decide +kernel) (by rcases hb01 with rfl | rfl <;> rfl) (by rcases hb01 with rfl | rfl <;> rfl) (Nat.le_of_ble_eq_true rfl) d_PB_dispute_49 (fun H locs hP hD hS => ?_)
        obtain ⟨w_1, ew_1⟩ : ∃ x : va_W, x = ws.set (lp t) (la t, .inr (iLN, cb_ln (upd (li t) 6 p1) (ll t))) := ⟨_, rfl⟩
        replace hP : va_P D classes w_1 H := by rw [ew_1]; exact hP
        replace hD : va_D (va_A ws sz) w_1 := by rw [ew_1]; exact hD
        have h64 := (eL t (ht)).1
        replace hI : cb_I cI cC cJ cII w_1 κ ra z sg G we pd := by rw [ew_1]; exact cb_I.hi (by omega) (by omega) hI
        replace hL := cb_L.line (a := upd (li t) 6 p1) (b := ll t) (ht) hL
        rw [← ew_1] at hL
        rw [cb_upr_id, cb_dsp_0] at hL
        refine lv_iconst (v := 0) hx hb d_PB_dispute_52 (by decide) ?_
        refine lv_istore (lv' := [(4, .int 0), (3, .ref (la t)), (0, .ref (κ 0)), (1, .int (nI t)), (2, .int p1)]) hx hb d_PB_dispute_53 hl (by decide) rfl (fun ls hl => ?_)
        have loop : ∀ (nn : Nat) (i : Nat) (wx : va_W) (H : Heap) (locs : List Loc) (ls : Array Slot) (hi : i ≤ nl) (hin : nl + 1 ≤ i + nn) (hI : cb_I cI cC cJ cII wx κ ra z sg G we pd) (hL : cb_L cO wx (κ 62) (z 5) (fx_e0 F) nl la lp (cb_dsp li t p1 i) ll) (hP : va_P D classes wx H) (hD : va_D (va_A ws sz) wx) (hS : va_S (va_A ws sz) s.heap H locs) (hl : lv_has ls 6 [(4, .int (nI i)), (3, .ref (la t)), (0, .ref (κ 0)), (1, .int (nI t)), (2, .int p1)]), W p l e ({ frames := 9, cells := 1, slots := 6, locals := 320 } : Room) s m ([.ref (κ 0), .int (nI t), .int p1] : List Value).toArray below meth c H locs 0 0 (gx_MX below (va_Qi (fun r w1 => ∃ t9, t9 < nl ∧ (nI t) = nI t9 ∧ ((r = 0 ∧ (¬ li t9 4 = -1 ∨ li t9 6 = p1) ∧ w1 = ws) ∨ (r = 1 ∧ li t9 4 = -1 ∧ ¬ li t9 6 = p1 ∧ cb_I cI cC cJ cII w1 κ ra z sg G we pd ∧ cb_L cO w1 (κ 62) (z 5) (fx_e0 F) nl la lp (cb_dsp li t9 p1 nl) ll))) (gx_B D classes ws sz) (va_A ws sz)) (fun E => E = "java/lang/IllegalArgumentException" ∧ ((nI t) < 0 ∨ nI nl ≤ (nI t))) ([.ref (κ 0), .int (nI t), .int p1] : List Value).toArray s 1 6 (va_A ws sz)) (F0 m 55 ls []) := by
          intro nn
          induction nn with
          | zero =>
            intro i wx H locs ls hi hin hI hL hP hD hS hl
            exact absurd hin (by omega)
          | succ nn ih =>
            intro i wx H locs ls hi hin hI hL hP hD hS hl
            obtain ⟨ea, e62, eL, einj, earr⟩ := id hL
            refine lv_iload hx hb d_PB_dispute_55 (lv_at hl 0 rfl) ?_
            refine lv_aload_n hx hb d_PB_dispute_57 rfl (lv_at hl 2 rfl) ?_
            refine va_get (D := D) (ci := iPB) (v := .ref (κ 62)) (C := R_PB) (T := F_PB) (N := 11) hx hb (fl_PB hg) (fun _ h9 => h9) hown hK hP 0 (hI.1) rfl 9 (by decide) (hg _ k_97) (fun _ h9 => h9) rfl d_PB_dispute_58 ?_
            refine gx_readi (va_runV (As := []) (rest := [.int (nI i)]) ⟨hx, hb, hml, hown, gx_nil⟩ (c_AL_size F e62 _) ⟨gx_cb (hg _ k_191) (hg _ k_5) (hg _ k_188) nd_AL_size ⟨by decide, by decide⟩, hg _ k_189, hg _ k_190⟩ (gx_preV hV hP hD hS hA0 (va_recv hK hP rfl (e62))) rfl rfl hl.1 rfl (lv_room (Nat.le_of_ble_eq_true rfl)) d_PB_dispute_61 ⟨by decide, by decide⟩) (fun r_61 h_61 => ?_)
            subst h_61
            refine lv_icmp_ge (tgt := 102) hx hb d_PB_dispute_64 (by decide) (fun c_64 => ?_) (fun c_64 => ?_)
            · skip
              have hin2 : i = nl := by have := gx_ngt c_64; omega
              subst hin2
              refine lv_iconst (v := 1) hx hb d_PB_dispute_102 (by decide) ?_
              exact gx_mx (gx_iret hx hb hr hlocks rfl hS hP hD (by decide) (by decide) d_PB_dispute_103 (⟨t, ht, rfl, Or.inr ⟨rfl, hcor, c_42, hI, hL⟩⟩))
            · skip
              have hin2 : i < nl := gx_nlt c_64
              obtain ⟨ep, cap, ef, ea0, ea5, ea6, ea7, ea1, ea2, ea3⟩ : ∃ (ep cap : Nat) (ef : Nat → Option Nat), 64 ≤ ep ∧ nl ≤ cap ∧ 10 ≤ cap ∧ cap ≤ 400 ∧ wx[ep]? = some (ea, .inl (cO, cap, .inr (.inr (.inr (.inr ef))))) ∧ (∀ j, j < nl → ef j = some (la j)) ∧ ∀ j, j < cap → ∀ y, ef j = some y → ∃ i, i < nl ∧ y = la i := earr.resolve_left (fun q => absurd q.1 (by omega))
              refine lv_aload_n hx hb d_PB_dispute_67 rfl (lv_at hl 2 rfl) ?_
              refine va_get (D := D) (ci := iPB) (v := .ref (κ 62)) (C := R_PB) (T := F_PB) (N := 11) hx hb (fl_PB hg) (fun _ h9 => h9) hown hK hP 0 (hI.1) rfl 9 (by decide) (hg _ k_97) (fun _ h9 => h9) rfl d_PB_dispute_68 ?_
              refine lv_iload hx hb d_PB_dispute_71 (lv_at hl 0 rfl) ?_
              refine gx_readr (va_runV (As := [.int (nI i)]) (rest := []) ⟨hx, hb, hml, hown, gx_nil⟩ (c_AL_get F e62 ea1 _ i (la i) (by omega) (by omega) (nI_lt (hin2) (by omega)) (ea2 i (hin2))) ⟨gx_cb (hg _ k_195) (hg _ k_5) (hg _ k_192) nd_AL_get ⟨by decide, by decide⟩, hg _ k_193, hg _ k_194⟩ (gx_preV hV hP hD hS hA0 (va_recv hK hP rfl (e62))) rfl rfl hl.1 rfl (lv_room (Nat.le_of_ble_eq_true rfl)) d_PB_dispute_73 ⟨by decide, by decide⟩) (fun r_73 h_73 => ?_)
              subst h_73
              refine va_castS hx hb hown (hg _ k_206) (hK.1 iLN _ rfl).2 (va_recv hK hP rfl ((eL i (hin2)).2)) d_PB_dispute_76 ?_
              refine lv_astore (lv' := [(5, .ref (la i)), (4, .int (nI i)), (3, .ref (la t)), (0, .ref (κ 0)), (1, .int (nI t)), (2, .int p1)]) hx hb d_PB_dispute_79 hl (by decide) rfl (fun ls hl => ?_)
              refine lv_aload hx hb d_PB_dispute_81 (lv_at hl 0 rfl) ?_
              refine va_getN (D := D) (ci := iLN) (v := .int ((cb_dsp li t p1 i) i 4)) (C := R_LN) (T := F_LN) (N := 9) hx hb (fl_LN hg) (fun _ h9 => h9) hown hK hP (lp i) ((eL i (hin2)).2) rfl 5 (by decide) (va_Nw.use rfl (hn9 _ kn_367)) (fun _ h9 => h9) rfl d_PB_dispute_83 ?_
              refine lv_iload_n hx hb d_PB_dispute_86 rfl (lv_at hl 4 rfl) ?_
              refine lv_icmp_ne (tgt := 96) hx hb d_PB_dispute_87 (by decide) (fun c_87 => ?_) (fun c_87 => ?_)
              · skip
                refine lv_iinc (v := nI (i + 1)) (lv' := [(4, .int (nI (i + 1))), (5, .ref (la i)), (3, .ref (la t)), (0, .ref (κ 0)), (1, .int (nI t)), (2, .int p1)]) hx hb d_PB_dispute_96 hl (k := 1) rfl (by rw [lit1]; exact nI_1 i) (by decide) rfl (fun ls hl => ?_)
                refine lv_goto (tgt := 55) hx hb d_PB_dispute_99 (by decide) ?_
                exact ih (i + 1) _ _ _ ls (by omega) (by omega) hI (by rw [← cb_dsp_n (fun q => c_87 ((cb_dsp_4 ..).trans q))]; exact hL) hP hD hS (lv_sub hl [0, 2, 3, 4, 5] rfl)
              · skip
                refine lv_aload hx hb d_PB_dispute_90 (lv_at hl 0 rfl) ?_
                refine lv_iload_n hx hb d_PB_dispute_92 rfl (lv_at hl 5 rfl) ?_
                refine va_putN (D := D) (ci := iLN) (v := .int p1) (ty := .boolean) (C := R_LN) (T := F_LN) (N := 9) hx hb (fl_LN hg) (fun _ h9 => h9) t_LN t_LN_ok n_LN hown hK hP hD hS (lp i) ((eL i (hin2)).2) rfl 7 (by decide) (va_Nw.use rfl (hn9 _ kn_370)) (fun _ h9 => h9) rfl (by decide +kernel) (by rcases hb01 with rfl | rfl <;> rfl) (by rcases hb01 with rfl | rfl <;> rfl) (Nat.le_of_ble_eq_true rfl) d_PB_dispute_93 (fun H locs hP hD hS => ?_)
                obtain ⟨w_2, ew_2⟩ : ∃ x : va_W, x = wx.set (lp i) (la i, .inr (iLN, cb_ln (upd (cb_dsp li t p1 i i) 6 p1) (ll i))) := ⟨_, rfl⟩
                replace hP : va_P D classes w_2 H := by rw [ew_2]; exact hP
                replace hD : va_D (va_A ws sz) w_2 := by rw [ew_2]; exact hD
                have h64 := (eL i (hin2)).1
                replace hI : cb_I cI cC cJ cII w_2 κ ra z sg G we pd := by rw [ew_2]; exact cb_I.hi (by omega) (by omega) hI
                replace hL := cb_L.line (a := upd (cb_dsp li t p1 i i) 6 p1) (b := ll i) (hin2) hL
                rw [← ew_2] at hL
                rw [cb_upr_id, cb_dsp_s (by rw [← c_87]; exact (cb_dsp_4 ..).symm)] at hL
                refine lv_iinc (v := nI (i + 1)) (lv' := [(4, .int (nI (i + 1))), (5, .ref (la i)), (3, .ref (la t)), (0, .ref (κ 0)), (1, .int (nI t)), (2, .int p1)]) hx hb d_PB_dispute_96 hl (k := 1) rfl (by rw [lit1]; exact nI_1 i) (by decide) rfl (fun ls hl => ?_)
                refine lv_goto (tgt := 55) hx hb d_PB_dispute_99 (by decide) ?_
                exact ih (i + 1) _ _ _ ls (by omega) (by omega) hI hL hP hD hS (lv_sub hl [0, 2, 3, 4, 5] rfl)
        exact loop (nl + 1) 0 _ _ _ ls (by omega) (by omega) hI hL hP hD hS (lv_sub hl [0, 1, 2, 3, 4] rfl)
      · skip
        refine lv_iconst (v := 0) hx hb d_PB_dispute_45 (by decide) ?_
        exact gx_mx (gx_iret hx hb hr hlocks rfl hS hP hD (by decide) (by decide) d_PB_dispute_46 (⟨t, ht, rfl, Or.inl ⟨rfl, Or.inr c_42, rfl⟩⟩))
    · skip
      refine lv_if_ne (tgt := 45) hx hb d_PB_dispute_34 (by decide) (fun c_34 => ?_) (fun c_34 => absurd c_34 (by decide))
      refine lv_iconst (v := 0) hx hb d_PB_dispute_45 (by decide) ?_
      exact gx_mx (gx_iret hx hb hr hlocks rfl hS hP hD (by decide) (by decide) d_PB_dispute_46 (⟨t, ht, rfl, Or.inl ⟨rfl, Or.inl hcor, rfl⟩⟩))
  · skip
    refine lv_if_ne (tgt := 18) hx hb d_PB_dispute_5 (by decide) (fun c_5 => absurd c_5 (by decide)) (fun c_5 => ?_)
    exact gx_throw (own := "PortBills") (cls := "java/lang/IllegalArgumentException") (text := "no such line") (names := fx_nm) (ik := 71) (is := 162) (ic := 75) hx hb (fx_tr F) hown (by decide +kernel) (by decide +kernel) (hg _ k_215) (hg _ k_12) (fx_str_162 F hV).choose_spec (fx_own_75 F hV _) (hl.1.trans hml.symm) d_PB_dispute_8 d_PB_dispute_11 d_PB_dispute_12 d_PB_dispute_14 d_PB_dispute_17 hex (by decide) (by decide) (by decide) (by decide) hlocks (⟨rfl, hbad⟩)

