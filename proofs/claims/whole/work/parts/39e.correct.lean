set_option maxRecDepth 100000 in
set_option maxHeartbeats 4000000 in
theorem c_PB_correct {l : Launch} {s0 : State} {D : va_G} {cI cC cJ cII cO cZ : ClassId} (F : FX l s0 D cI cC cJ cII cO cZ) {ws : va_W} {κ : Nat → Nat} {ra : Nat → Nat → Nat} {z sg : Nat → Int32} {G : Nat → Nat → Nat → Int32} {we : Nat → Int32} {pd : Nat → Int64} (hI : cb_I cI cC cJ cII ws κ ra z sg G we pd) {nl : Nat} {la lp : Nat → Nat} {li : Nat → Nat → Int32} {ll : Nat → Nat → Int64} (hL : cb_L cO ws (κ 62) (z 5) (fx_e0 F) nl la lp li ll) (sz : Nat) (hnl : nl ≤ 200) (hbz : ∀ j, j < nl → li j 6 = 0 ∨ li j 6 = 1) (p0 : Int32) (p1 : Int64)  : gx_XM l y_PB_correct [.code y_PB_correct b_PB_correct 6 (some .int)] { frames := 9, cells := 2, slots := 409, locals := 320 } (gx_P s0 D classes ws sz [.ref (κ 0), .int p0, .long p1]) (va_Qi (fun r w1 => ∃ t9, t9 < nl ∧ p0 = nI t9 ∧ ¬ p1 < 0 ∧ ¬ 1000000000000 < p1 ∧ nl < 200 ∧ ((r = -1 ∧ (¬ li t9 4 = -1 ∨ ll t9 1 = p1) ∧ w1 = ws) ∨ (r = nI nl ∧ li t9 4 = -1 ∧ ¬ ll t9 1 = p1 ∧ ∃ (la9 lp9 : Nat → Nat), cb_I cI cC cJ cII w1 κ ra (upd z 5 (z 5 + 1)) sg G we pd ∧ cb_L cO w1 (κ 62) (z 5 + 1) (fx_e0 F) (nl + 1) la9 lp9 (cb_upr li nl (upd (cb_mli (li t9 0) (li t9 1) 0 0 (nI t9) 0) 6 (li t9 6))) (cb_upr (cb_upr ll t9 (vp_updL (ll t9) 1 p1)) nl (fun _ => p1 - ll t9 1))))) (gx_B D classes ws sz) (va_A ws sz)) (fun E => (E = "java/lang/IllegalArgumentException" ∧ ((p0 < 0 ∨ nI nl ≤ p0) ∨ (p1 < 0 ∨ 1000000000000 < p1))) ∨ (E = "java/lang/IllegalStateException" ∧ ∃ t9, t9 < nl ∧ p0 = nI t9 ∧ ¬ p1 < 0 ∧ ¬ 1000000000000 < p1 ∧ ¬ nl < 200)) 2 409 (va_A ws sz) := by
  refine gx_xmet (by decide +kernel) (Nat.le_of_ble_eq_true rfl) ?_
  intro p e s m below meth c ls hx hb hr hml hown hlocks hex hsz hV hP hD hS hA hA0 hl
  have hg := fx_g F hV ([.ref (κ 0), .int p0, .long p1] : List Value).toArray
  have hK := fx_k F hV
  have hn9 := fx_n F hV
  have hl : lv_has ls 6 [(0, .ref (κ 0)), (1, .int p0), (2, .long p1)] := hl
  obtain ⟨ea, e62, eL, einj, earr⟩ := id hL
  refine lv_aload_n hx hb d_PB_correct_0 rfl (lv_at hl 0 rfl) ?_
  refine lv_iload_n hx hb d_PB_correct_1 rfl (lv_at hl 1 rfl) ?_
  refine gx_readi (va_runV (As := [.int p0]) (rest := []) ⟨hx, hb, hml, hown, gx_nil⟩ (c_PB_isLine F hI hL _ hnl _) ⟨gx_cb (hg _ k_458) (hg _ k_1) (hg _ k_455) nd_PB_isLine ⟨by decide, by decide⟩, hg _ k_457, hg _ ks_18⟩ (gx_preV hV hP hD hS hA0 (va_recv hK hP rfl (hI.1))) rfl rfl hl.1 rfl (lv_room (Nat.le_of_ble_eq_true rfl)) d_PB_correct_2 ⟨by decide, by decide⟩) (fun r_2 h_2 => ?_)
  rcases h_2 with ⟨rfl, t, ht, rfl⟩ | ⟨rfl, hbad⟩
  · skip
    refine lv_if_eq (tgt := 22) hx hb d_PB_correct_5 (by decide) (fun c_5 => absurd c_5 (by decide)) (fun c_5 => ?_)
    refine lv_lload_n hx hb d_PB_correct_8 rfl (lv_at hl 2 rfl) ?_
    refine lv_lconst (v := 0) hx hb d_PB_correct_9 (by decide) ?_
    refine W.lcmp hx hb d_PB_correct_10 ?_
    refine lv_if_lt (tgt := 22) hx hb d_PB_correct_11 (by decide) (fun c_11 => ?_) (fun c_11 => ?_)
    · skip
      have hbad : p1 < 0 ∨ 1000000000000 < p1 := Or.inl ((lg_cmp_lt _ _).mp c_11)
      exact gx_throw (own := "PortBills") (cls := "java/lang/IllegalArgumentException") (text := "no such line or cents") (names := fx_nm) (ik := 71) (is := 131) (ic := 75) hx hb (fx_tr F) hown (by decide +kernel) (by decide +kernel) (hg _ k_215) (hg _ k_12) (fx_str_131 F hV).choose_spec (fx_own_75 F hV _) (hl.1.trans hml.symm) d_PB_correct_22 d_PB_correct_25 d_PB_correct_26 d_PB_correct_28 d_PB_correct_31 hex (by decide) (by decide) (by decide) (by decide) hlocks (Or.inl ⟨rfl, Or.inr hbad⟩)
    · skip
      have hlo : ¬ p1 < 0 := fun q => c_11 ((lg_cmp_lt _ _).mpr q)
      refine lv_lload_n hx hb d_PB_correct_14 rfl (lv_at hl 2 rfl) ?_
      refine lv_ldc2 (v := 1000000000000) hx hb hown (hg _ k_459) d_PB_correct_15 ?_
      refine W.lcmp hx hb d_PB_correct_18 ?_
      refine lv_if_le (tgt := 32) hx hb d_PB_correct_19 (by decide) (fun c_19 => ?_) (fun c_19 => ?_)
      · skip
        have hmo : ¬ 1000000000000 < p1 := Int64.not_lt.mpr ((lg_cmp_le _ _).mp c_19)
        refine lv_aload_n hx hb d_PB_correct_32 rfl (lv_at hl 0 rfl) ?_
        refine va_get (D := D) (ci := iPB) (v := .ref (κ 62)) (C := R_PB) (T := F_PB) (N := 11) hx hb (fl_PB hg) (fun _ h9 => h9) hown hK hP 0 (hI.1) rfl 9 (by decide) (hg _ k_97) (fun _ h9 => h9) rfl d_PB_correct_33 ?_
        refine gx_readi (va_runV (As := []) (rest := []) ⟨hx, hb, hml, hown, gx_nil⟩ (c_AL_size F e62 _) ⟨gx_cb (hg _ k_191) (hg _ k_5) (hg _ k_188) nd_AL_size ⟨by decide, by decide⟩, hg _ k_189, hg _ k_190⟩ (gx_preV hV hP hD hS hA0 (va_recv hK hP rfl (e62))) rfl rfl hl.1 rfl (lv_room (Nat.le_of_ble_eq_true rfl)) d_PB_correct_36 ⟨by decide, by decide⟩) (fun r_36 h_36 => ?_)
        subst h_36
        refine lv_sipush (v := 200) hx hb d_PB_correct_39 (by decide) ?_
        refine lv_icmp_lt (tgt := 55) hx hb d_PB_correct_42 (by decide) (fun c_42 => ?_) (fun c_42 => ?_)
        · skip
          have hnl2 : nl < 200 := gx_ltn (b := 200) c_42
          obtain ⟨ep, cap, ef, ea0, ea5, ea6, ea7, ea1, ea2, ea3⟩ : ∃ (ep cap : Nat) (ef : Nat → Option Nat), 64 ≤ ep ∧ nl ≤ cap ∧ 10 ≤ cap ∧ cap ≤ 400 ∧ ws[ep]? = some (ea, .inl (cO, cap, .inr (.inr (.inr (.inr ef))))) ∧ (∀ j, j < nl → ef j = some (la j)) ∧ ∀ j, j < cap → ∀ y, ef j = some y → ∃ i, i < nl ∧ y = la i := earr.resolve_left (fun q => absurd q.1 (by omega))
          refine lv_aload_n hx hb d_PB_correct_55 rfl (lv_at hl 0 rfl) ?_
          refine va_get (D := D) (ci := iPB) (v := .ref (κ 62)) (C := R_PB) (T := F_PB) (N := 11) hx hb (fl_PB hg) (fun _ h9 => h9) hown hK hP 0 (hI.1) rfl 9 (by decide) (hg _ k_97) (fun _ h9 => h9) rfl d_PB_correct_56 ?_
          refine lv_iload_n hx hb d_PB_correct_59 rfl (lv_at hl 1 rfl) ?_
          refine gx_readr (va_runV (As := [.int (nI t)]) (rest := []) ⟨hx, hb, hml, hown, gx_nil⟩ (c_AL_get F e62 ea1 _ t (la t) (by omega) (by omega) (nI_lt (ht) (by omega)) (ea2 t (ht))) ⟨gx_cb (hg _ k_195) (hg _ k_5) (hg _ k_192) nd_AL_get ⟨by decide, by decide⟩, hg _ k_193, hg _ k_194⟩ (gx_preV hV hP hD hS hA0 (va_recv hK hP rfl (e62))) rfl rfl hl.1 rfl (lv_room (Nat.le_of_ble_eq_true rfl)) d_PB_correct_60 ⟨by decide, by decide⟩) (fun r_60 h_60 => ?_)
          subst h_60
          refine va_castS hx hb hown (hg _ k_206) (hK.1 iLN _ rfl).2 (va_recv hK hP rfl ((eL t (ht)).2)) d_PB_correct_63 ?_
          refine lv_astore (lv' := [(4, .ref (la t)), (0, .ref (κ 0)), (1, .int (nI t)), (2, .long p1)]) hx hb d_PB_correct_66 hl (by decide) rfl (fun ls hl => ?_)
          refine lv_aload hx hb d_PB_correct_68 (lv_at hl 0 rfl) ?_
          refine gx_readi (va_runVN (As := []) (rest := []) ⟨hx, hb, hml, hown, gx_nil⟩ (c_LN_isCorrection F (eL t ht).2 _) ⟨gx_cn (hg _ k_465) (hg _ k_15) (hn9 _ kn_462) nd_LN_isCorrection ⟨by decide, by decide⟩, hg _ k_464, hg _ ks_19⟩ (gx_preV hV hP hD hS hA0 (va_recv hK hP rfl ((eL t ht).2))) rfl rfl hl.1 rfl (lv_room (Nat.le_of_ble_eq_true rfl)) d_PB_correct_70 ⟨by decide, by decide⟩) (fun r_70 h_70 => ?_)
          rcases h_70 with ⟨rfl, hcor⟩ | ⟨rfl, hcor⟩
          · skip
            refine lv_if_ne (tgt := 86) hx hb d_PB_correct_73 (by decide) (fun c_73 => absurd c_73 (by decide)) (fun c_73 => ?_)
            refine lv_aload hx hb d_PB_correct_76 (lv_at hl 0 rfl) ?_
            refine va_getN (D := D) (ci := iLN) (v := .long (ll t 1)) (C := R_LN) (T := F_LN) (N := 9) hx hb (fl_LN hg) (fun _ h9 => h9) hown hK hP (lp t) ((eL t (ht)).2) rfl 8 (by decide) (va_Nw.use rfl (hn9 _ kn_372)) (fun _ h9 => h9) rfl d_PB_correct_78 ?_
            refine lv_lload_n hx hb d_PB_correct_81 rfl (lv_at hl 3 rfl) ?_
            refine W.lcmp hx hb d_PB_correct_82 ?_
            refine lv_if_ne (tgt := 88) hx hb d_PB_correct_83 (by decide) (fun c_83 => ?_) (fun c_83 => ?_)
            · skip
              have hdiff : ¬ ll t 1 = p1 := fun q => c_83 ((lg_cmp_eq _ _).mpr q)
              refine va_new (fs := [.int 0, .int 0, .int 0, .int 0, .long 0, .int 0, .int 0, .int 0, .long 0]) hx hb (fl_LN hg) (fun _ h9 => h9) t_LN t_LN_ok hown (hg _ k_206) (hg _ k_342) (hg _ k_15) hK hP hD hS hA (ci := iLN) rfl (by decide +kernel) (by decide) (by decide) d_PB_correct_88 (fun qn H hP hD hS => ?_)
              obtain ⟨w2, ew2⟩ : ∃ x : va_W, x = ws ++ [(qn, .inr (iLN, [.int 0, .int 0, .int 0, .int 0, .long 0, .int 0, .int 0, .int 0, .long 0]))] := ⟨_, rfl⟩
              rw [← ew2] at hP hD
              have hn2 : w2[ws.length]? = some (qn, .inr (iLN, [.int 0, .int 0, .int 0, .int 0, .long 0, .int 0, .int 0, .int 0, .long 0])) := by rw [ew2]; exact gx_lat _ _
              have ht2 : w2[lp t]? = some (la t, .inr (iLN, cb_ln (li t) (ll t))) := by rw [ew2]; exact gx_ap (eL t ht).2
              have hlen : 63 < ws.length := (List.getElem?_eq_some_iff.mp hI.2.2.2.2.1).1
              have htl : lp t < ws.length := (List.getElem?_eq_some_iff.mp (eL t ht).2).1
              refine lv_dup hx hb d_PB_correct_91 rfl ?_
              refine lv_aload hx hb d_PB_correct_92 (lv_at hl 0 rfl) ?_
              refine va_getN (D := D) (ci := iLN) (v := .int (li t 0)) (C := R_LN) (T := F_LN) (N := 9) hx hb (fl_LN hg) (fun _ h9 => h9) hown hK hP (lp t) (ht2) rfl 0 (by decide) (va_Nw.use rfl (hn9 _ kn_359)) (fun _ h9 => h9) rfl d_PB_correct_94 ?_
              refine lv_aload hx hb d_PB_correct_97 (lv_at hl 0 rfl) ?_
              refine va_getN (D := D) (ci := iLN) (v := .int (li t 1)) (C := R_LN) (T := F_LN) (N := 9) hx hb (fl_LN hg) (fun _ h9 => h9) hown hK hP (lp t) (ht2) rfl 1 (by decide) (va_Nw.use rfl (hn9 _ kn_361)) (fun _ h9 => h9) rfl d_PB_correct_99 ?_
              refine lv_iconst (v := 0) hx hb d_PB_correct_102 (by decide) ?_
              refine lv_iconst (v := 0) hx hb d_PB_correct_103 (by decide) ?_
              refine lv_lload_n hx hb d_PB_correct_104 rfl (lv_at hl 3 rfl) ?_
              refine lv_aload hx hb d_PB_correct_105 (lv_at hl 0 rfl) ?_
              refine va_getN (D := D) (ci := iLN) (v := .long (ll t 1)) (C := R_LN) (T := F_LN) (N := 9) hx hb (fl_LN hg) (fun _ h9 => h9) hown hK hP (lp t) (ht2) rfl 8 (by decide) (va_Nw.use rfl (hn9 _ kn_372)) (fun _ h9 => h9) rfl d_PB_correct_107 ?_
              refine lv_lsub hx hb d_PB_correct_110 ?_
              refine lv_iload_n hx hb d_PB_correct_111 rfl (lv_at hl 2 rfl) ?_
              refine lv_iconst (v := 0) hx hb d_PB_correct_112 (by decide) ?_
              refine gx_callv (va_runIN (As := [.int (li t 0), .int (li t 1), .int 0, .int 0, .long (p1 - (ll t 1)), .int (nI t), .int 0]) (rest := [.ref qn]) ⟨hx, hb, hml, hown, gx_nil⟩ (c_LN_init F hn2 _ _ _ _ _ _ _ _ (Or.inl rfl)) ⟨gx_cn (hg _ k_356) (hg _ k_15) (hn9 _ kn_354) nd_LN_init ⟨by decide, by decide⟩, rfl, hg _ k_355⟩ (gx_preS hV hP hD hS hA0) rfl rfl hl.1 rfl (lv_room (Nat.le_of_ble_eq_true rfl)) d_PB_correct_113 ⟨by decide, by decide⟩) hD hS hA (fun w1 H locs h_113 hP hD hS => ?_)
              have h113 : w1 = ws ++ [(qn, .inr (iLN, cb_ln (cb_mli (li t 0) (li t 1) 0 0 (nI t) 0) (fun _ => p1 - ll t 1)))] := by rw [h_113, ew2, gx_las]
              have hn3 : w1[ws.length]? = some (qn, .inr (iLN, cb_ln (cb_mli (li t 0) (li t 1) 0 0 (nI t) 0) (fun _ => p1 - ll t 1))) := by rw [h113]; exact gx_lat _ _
              have ht3 : w1[lp t]? = some (la t, .inr (iLN, cb_ln (li t) (ll t))) := by rw [h113]; exact gx_ap (eL t ht).2
              refine lv_astore (lv' := [(5, .ref qn), (4, .ref (la t)), (0, .ref (κ 0)), (1, .int (nI t)), (2, .long p1)]) hx hb d_PB_correct_116 hl (by decide) rfl (fun ls hl => ?_)
              refine lv_aload hx hb d_PB_correct_118 (lv_at hl 0 rfl) ?_
              refine lv_aload hx hb d_PB_correct_120 (lv_at hl 1 rfl) ?_
              refine va_getN (D := D) (ci := iLN) (v := .int (li t 6)) (C := R_LN) (T := F_LN) (N := 9) hx hb (fl_LN hg) (fun _ h9 => h9) hown hK hP (lp t) (ht3) rfl 7 (by decide) (va_Nw.use rfl (hn9 _ kn_370)) (fun _ h9 => h9) rfl d_PB_correct_122 ?_
              refine va_putN (D := D) (ci := iLN) (v := .int (li t 6)) (ty := .boolean) (C := R_LN) (T := F_LN) (N := 9) hx hb (fl_LN hg) (fun _ h9 => h9) t_LN t_LN_ok n_LN hown hK hP hD hS ws.length (hn3) rfl 7 (by decide) (va_Nw.use rfl (hn9 _ kn_370)) (fun _ h9 => h9) rfl (by decide +kernel) (by rcases hbz t ht with h | h <;> rw [h] <;> rfl) (by rcases hbz t ht with h | h <;> rw [h] <;> rfl) (Nat.le_of_ble_eq_true rfl) d_PB_correct_125 (fun H locs hP hD hS => ?_)
              obtain ⟨w3, ew3⟩ : ∃ x : va_W, x = ws ++ [(qn, .inr (iLN, cb_ln (upd (cb_mli (li t 0) (li t 1) 0 0 (nI t) 0) 6 (li t 6)) (fun _ => p1 - ll t 1)))] := ⟨_, rfl⟩
              have es3 : w1.set ws.length (qn, .inr (iLN, cb_ln (upd (cb_mli (li t 0) (li t 1) 0 0 (nI t) 0) 6 (li t 6)) (fun _ => p1 - ll t 1))) = w3 := by rw [h113, gx_las, ew3]
              replace hP : va_P D classes w3 H := by rw [← es3]; exact hP
              replace hD : va_D (va_A ws sz) w3 := by rw [← es3]; exact hD
              have ht4 : w3[lp t]? = some (la t, .inr (iLN, cb_ln (li t) (ll t))) := by rw [ew3]; exact gx_ap (eL t ht).2
              have hn4 : w3[ws.length]? = some (qn, .inr (iLN, cb_ln (upd (cb_mli (li t 0) (li t 1) 0 0 (nI t) 0) 6 (li t 6)) (fun _ => p1 - ll t 1))) := by rw [ew3]; exact gx_lat _ _
              refine lv_aload hx hb d_PB_correct_128 (lv_at hl 1 rfl) ?_
              refine lv_lload_n hx hb d_PB_correct_130 rfl (lv_at hl 4 rfl) ?_
              refine va_putN (D := D) (ci := iLN) (v := .long p1) (ty := .long) (C := R_LN) (T := F_LN) (N := 9) hx hb (fl_LN hg) (fun _ h9 => h9) t_LN t_LN_ok n_LN hown hK hP hD hS (lp t) (ht4) rfl 8 (by decide) (va_Nw.use rfl (hn9 _ kn_372)) (fun _ h9 => h9) rfl (by decide +kernel) rfl rfl (Nat.le_of_ble_eq_true rfl) d_PB_correct_131 (fun H locs hP hD hS => ?_)
              obtain ⟨w4, ew4⟩ : ∃ x : va_W, x = w3.set (lp t) (la t, .inr (iLN, cb_ln (li t) (vp_updL (ll t) 1 p1))) := ⟨_, rfl⟩
              replace hP : va_P D classes w4 H := by rw [ew4]; exact hP
              replace hD : va_D (va_A ws sz) w4 := by rw [ew4]; exact hD
              have h64 := (eL t ht).1
              have hn5 : w4[ws.length]? = some (qn, .inr (iLN, cb_ln (upd (cb_mli (li t 0) (li t 1) 0 0 (nI t) 0) 6 (li t 6)) (fun _ => p1 - ll t 1))) := by rw [ew4]; exact gx_sn (by omega) hn4
              have hI4 : cb_I cI cC cJ cII w4 κ ra z sg G we pd := by rw [ew4]; exact cb_I.hi (by omega) (by omega) (by rw [ew3]; exact cb_I.app hI)
              have hL4 := cb_L.line (a := li t) (b := vp_updL (ll t) 1 p1) ht (show cb_L cO w3 (κ 62) (z 5) (fx_e0 F) nl la lp li ll by rw [ew3]; exact cb_L.app hL)
              rw [← ew4, cb_upr_id] at hL4
              have hne9 : ∀ j, j < nl → lp j ≠ ws.length := fun j hj => by have := (List.getElem?_eq_some_iff.mp (eL j hj).2).1; omega
              obtain ⟨ea4, e624, -, -, -⟩ := id hL4
              replace hI := hI4
              refine lv_aload_n hx hb d_PB_correct_134 rfl (lv_at hl 2 rfl) ?_
              refine va_get (D := D) (ci := iPB) (v := .ref (κ 62)) (C := R_PB) (T := F_PB) (N := 11) hx hb (fl_PB hg) (fun _ h9 => h9) hown hK hP 0 (hI.1) rfl 9 (by decide) (hg _ k_97) (fun _ h9 => h9) rfl d_PB_correct_135 ?_
              refine lv_aload hx hb d_PB_correct_138 (lv_at hl 0 rfl) ?_
              refine gx_calli (va_runV (As := [.ref qn]) (rest := []) ⟨hx, hb, hml, hown, gx_nil⟩ (c_AL_addP F hI4 hL4 _ hn5 (by omega) hne9 hnl2) ⟨gx_cb (hg _ k_395) (hg _ k_5) (hg _ k_392) nd_AL_add ⟨by decide, by decide⟩, hg _ k_393, hg _ k_394⟩ (gx_preV hV hP hD hS hA0 (va_recv hK hP rfl (e624))) rfl rfl hl.1 rfl (lv_room (Nat.le_of_ble_eq_true rfl)) d_PB_correct_140 ⟨by decide, by decide⟩) hD hS hA (fun r_140 w1 H locs h_140 hP hD hS => ?_)
              obtain ⟨-, hI, hL⟩ := h_140
              obtain ⟨ea5, e625, -, -, -⟩ := id hL
              refine lv_pop hx hb d_PB_correct_143 rfl ?_
              refine lv_aload_n hx hb d_PB_correct_144 rfl (lv_at hl 2 rfl) ?_
              refine va_get (D := D) (ci := iPB) (v := .ref (κ 62)) (C := R_PB) (T := F_PB) (N := 11) hx hb (fl_PB hg) (fun _ h9 => h9) hown hK hP 0 (hI.1) rfl 9 (by decide) (hg _ k_97) (fun _ h9 => h9) rfl d_PB_correct_145 ?_
              refine gx_readi (va_runV (As := []) (rest := []) ⟨hx, hb, hml, hown, gx_nil⟩ (c_AL_size F e625 _) ⟨gx_cb (hg _ k_191) (hg _ k_5) (hg _ k_188) nd_AL_size ⟨by decide, by decide⟩, hg _ k_189, hg _ k_190⟩ (gx_preV hV hP hD hS hA0 (va_recv hK hP rfl (e625))) rfl rfl hl.1 rfl (lv_room (Nat.le_of_ble_eq_true rfl)) d_PB_correct_148 ⟨by decide, by decide⟩) (fun r_148 h_148 => ?_)
              subst h_148
              refine lv_iconst (v := 1) hx hb d_PB_correct_151 (by decide) ?_
              refine lv_isub hx hb d_PB_correct_152 ?_
              rw [nI_pred]
              exact gx_mx (gx_iret hx hb hr hlocks rfl hS hP hD (by decide) (by decide) d_PB_correct_153 (⟨t, ht, rfl, hlo, hmo, hnl2, Or.inr ⟨rfl, hcor, hdiff, _, _, hI, hL⟩⟩))
            · skip
              have hsame : ll t 1 = p1 := (lg_cmp_eq _ _).mp c_83
              refine lv_iconst (v := (-1)) hx hb d_PB_correct_86 (by decide) ?_
              exact gx_mx (gx_iret hx hb hr hlocks rfl hS hP hD (by decide) (by decide) d_PB_correct_87 (⟨t, ht, rfl, hlo, hmo, hnl2, Or.inl ⟨rfl, Or.inr hsame, rfl⟩⟩))
          · skip
            refine lv_if_ne (tgt := 86) hx hb d_PB_correct_73 (by decide) (fun c_73 => ?_) (fun c_73 => absurd c_73 (by decide))
            refine lv_iconst (v := (-1)) hx hb d_PB_correct_86 (by decide) ?_
            exact gx_mx (gx_iret hx hb hr hlocks rfl hS hP hD (by decide) (by decide) d_PB_correct_87 (⟨t, ht, rfl, hlo, hmo, hnl2, Or.inl ⟨rfl, Or.inl hcor, rfl⟩⟩))
        · skip
          have hnl2 : ¬ nl < 200 := gx_nltn (b := 200) c_42
          exact gx_throw (own := "PortBills") (cls := "java/lang/IllegalStateException") (text := "no room for the line") (names := fx_nm) (ik := 91) (is := 133) (ic := 95) hx hb (fx_tr F) hown (by decide +kernel) (by decide +kernel) (hg _ k_298) (hg _ k_13) (fx_str_133 F hV).choose_spec (fx_own_95 F hV _) (hl.1.trans hml.symm) d_PB_correct_45 d_PB_correct_48 d_PB_correct_49 d_PB_correct_51 d_PB_correct_54 hex (by decide) (by decide) (by decide) (by decide) hlocks (Or.inr ⟨rfl, t, ht, rfl, hlo, hmo, hnl2⟩)
      · skip
        have hbad : p1 < 0 ∨ 1000000000000 < p1 := Or.inr (Int64.not_le.mp (fun q => c_19 ((lg_cmp_le _ _).mpr q)))
        exact gx_throw (own := "PortBills") (cls := "java/lang/IllegalArgumentException") (text := "no such line or cents") (names := fx_nm) (ik := 71) (is := 131) (ic := 75) hx hb (fx_tr F) hown (by decide +kernel) (by decide +kernel) (hg _ k_215) (hg _ k_12) (fx_str_131 F hV).choose_spec (fx_own_75 F hV _) (hl.1.trans hml.symm) d_PB_correct_22 d_PB_correct_25 d_PB_correct_26 d_PB_correct_28 d_PB_correct_31 hex (by decide) (by decide) (by decide) (by decide) hlocks (Or.inl ⟨rfl, Or.inr hbad⟩)
  · skip
    refine lv_if_eq (tgt := 22) hx hb d_PB_correct_5 (by decide) (fun c_5 => ?_) (fun c_5 => absurd c_5 (by decide))
    exact gx_throw (own := "PortBills") (cls := "java/lang/IllegalArgumentException") (text := "no such line or cents") (names := fx_nm) (ik := 71) (is := 131) (ic := 75) hx hb (fx_tr F) hown (by decide +kernel) (by decide +kernel) (hg _ k_215) (hg _ k_12) (fx_str_131 F hV).choose_spec (fx_own_75 F hV _) (hl.1.trans hml.symm) d_PB_correct_22 d_PB_correct_25 d_PB_correct_26 d_PB_correct_28 d_PB_correct_31 hex (by decide) (by decide) (by decide) (by decide) hlocks (Or.inl ⟨rfl, Or.inl hbad⟩)

