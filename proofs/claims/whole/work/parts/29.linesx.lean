set_option maxRecDepth 100000 in
set_option maxHeartbeats 4000000 in
theorem c_PB_isLine {l : Launch} {s0 : State} {D : va_G} {cI cC cJ cII cO cZ : ClassId} (F : FX l s0 D cI cC cJ cII cO cZ) {ws : va_W} {κ : Nat → Nat} {ra : Nat → Nat → Nat} {z sg : Nat → Int32} {G : Nat → Nat → Nat → Int32} {we : Nat → Int32} {pd : Nat → Int64} (hI : cb_I cI cC cJ cII ws κ ra z sg G we pd) {nl : Nat} {la lp : Nat → Nat} {li : Nat → Nat → Int32} {ll : Nat → Nat → Int64} (hL : cb_L cO ws (κ 62) (z 5) (fx_e0 F) nl la lp li ll) (sz : Nat) (hnl : nl ≤ 200) (p0 : Int32)  : Met l y_PB_isLine [.code y_PB_isLine b_PB_isLine 2 (some .boolean)] { frames := 1, cells := 0, slots := 0, locals := 40 } (gx_P s0 D classes ws sz [.ref (κ 0), .int p0]) (gx_Ri (fun r => (r = 1 ∧ ∃ j, j < nl ∧ p0 = nI j) ∨ (r = 0 ∧ (p0 < 0 ∨ nI nl ≤ p0)))) 0 0 (fun _ => False) := by
  refine gx_met (by decide +kernel) (Nat.le_of_ble_eq_true rfl) ?_
  intro p e s m below meth c ls hx hb hr hml hown hlocks hnm hsz hV hP hD hS hA hA0 hl
  have hg := fx_g F hV ([.ref (κ 0), .int p0] : List Value).toArray
  have hK := fx_k F hV
  have hn9 := fx_n F hV
  have hl : lv_has ls 2 [(0, .ref (κ 0)), (1, .int p0)] := hl
  obtain ⟨ea, e62, eL, einj, earr⟩ := id hL
  refine lv_iload_n hx hb d_PB_isLine_0 rfl (lv_at hl 1 rfl) ?_
  refine lv_if_lt (tgt := 19) hx hb d_PB_isLine_1 (by decide) (fun c_1 => ?_) (fun c_1 => ?_)
  · skip
    refine lv_iconst (v := 0) hx hb d_PB_isLine_19 (by decide) ?_
    exact gx_ireti hx hb hr hlocks rfl d_PB_isLine_20 (Or.inr ⟨rfl, Or.inl c_1⟩)
  · skip
    refine lv_iload_n hx hb d_PB_isLine_4 rfl (lv_at hl 1 rfl) ?_
    refine lv_aload_n hx hb d_PB_isLine_5 rfl (lv_at hl 0 rfl) ?_
    refine va_get (D := D) (ci := iPB) (v := .ref (κ 62)) (C := R_PB) (T := F_PB) (N := 11) hx hb (fl_PB hg) (fun _ h9 => h9) hown hK hP 0 (hI.1) rfl 9 (by decide) (hg _ k_97) (fun _ h9 => h9) rfl d_PB_isLine_6 ?_
    refine gx_readi (va_runV (As := []) (rest := [.int p0]) ⟨hx, hb, hml, hown, gx_nil⟩ (c_AL_size F e62 _) ⟨gx_cb (hg _ k_191) (hg _ k_5) (hg _ k_188) nd_AL_size ⟨by decide, by decide⟩, hg _ k_189, hg _ k_190⟩ (gx_preV hV hP hD hS hA0 (va_recv hK hP rfl (e62))) rfl rfl hl.1 rfl (lv_room (Nat.le_of_ble_eq_true rfl)) d_PB_isLine_9 ⟨by decide, by decide⟩) (fun r_9 h_9 => ?_)
    subst h_9
    refine lv_icmp_ge (tgt := 19) hx hb d_PB_isLine_12 (by decide) (fun c_12 => ?_) (fun c_12 => ?_)
    · skip
      refine lv_iconst (v := 0) hx hb d_PB_isLine_19 (by decide) ?_
      exact gx_ireti hx hb hr hlocks rfl d_PB_isLine_20 (Or.inr ⟨rfl, Or.inr c_12⟩)
    · skip
      refine lv_iconst (v := 1) hx hb d_PB_isLine_15 (by decide) ?_
      refine lv_goto (tgt := 20) hx hb d_PB_isLine_16 (by decide) ?_
      exact gx_ireti hx hb hr hlocks rfl d_PB_isLine_20 (Or.inl ⟨rfl, gx_rng (by omega) c_1 c_12⟩)

set_option maxRecDepth 100000 in
set_option maxHeartbeats 4000000 in
theorem c_LN_isCorrection {l : Launch} {s0 : State} {D : va_G} {cI cC cJ cII cO cZ : ClassId} (F : FX l s0 D cI cC cJ cII cO cZ) {ws : va_W} {q a : Nat} {fi : Nat → Int32} {fl : Nat → Int64} (he : ws[q]? = some (a, .inr (iLN, cb_ln fi fl))) (sz : Nat)   : Met l y_LN_isCorrection [.code y_LN_isCorrection b_LN_isCorrection 1 (some .boolean)] { frames := 0, cells := 0, slots := 0, locals := 0 } (gx_P s0 D classes ws sz [.ref a]) (gx_Ri (fun r => (r = 0 ∧ fi 4 = -1) ∨ (r = 1 ∧ ¬ fi 4 = -1))) 0 0 (fun _ => False) := by
  refine gx_met (by decide +kernel) (Nat.le_of_ble_eq_true rfl) ?_
  intro p e s m below meth c ls hx hb hr hml hown hlocks hnm hsz hV hP hD hS hA hA0 hl
  have hg := fx_g F hV ([.ref a] : List Value).toArray
  have hK := fx_k F hV
  have hn9 := fx_n F hV
  have hl : lv_has ls 1 [(0, .ref a)] := hl
  refine lv_aload_n hx hb d_LN_isCorrection_0 rfl (lv_at hl 0 rfl) ?_
  refine va_get (D := D) (ci := iLN) (v := .int (fi 4)) (C := R_LN) (T := F_LN) (N := 9) hx hb (fl_LN hg) (fun _ h9 => h9) hown hK hP q (he) rfl 5 (by decide) (hg _ k_366) (fun _ h9 => h9) rfl d_LN_isCorrection_1 ?_
  refine lv_iconst (v := (-1)) hx hb d_LN_isCorrection_4 (by decide) ?_
  refine lv_icmp_eq (tgt := 12) hx hb d_LN_isCorrection_5 (by decide) (fun c_5 => ?_) (fun c_5 => ?_)
  · skip
    refine lv_iconst (v := 0) hx hb d_LN_isCorrection_12 (by decide) ?_
    exact gx_ireti hx hb hr hlocks rfl d_LN_isCorrection_13 (Or.inl ⟨rfl, c_5⟩)
  · skip
    refine lv_iconst (v := 1) hx hb d_LN_isCorrection_8 (by decide) ?_
    refine lv_goto (tgt := 13) hx hb d_LN_isCorrection_9 (by decide) ?_
    exact gx_ireti hx hb hr hlocks rfl d_LN_isCorrection_13 (Or.inr ⟨rfl, c_5⟩)

set_option maxRecDepth 100000 in
set_option maxHeartbeats 4000000 in
theorem c_LN_part {l : Launch} {s0 : State} {D : va_G} {cI cC cJ cII cO cZ : ClassId} (F : FX l s0 D cI cC cJ cII cO cZ) {ws : va_W} {q a : Nat} {fi : Nat → Int32} {fl : Nat → Int64} (he : ws[q]? = some (a, .inr (iLN, cb_ln fi fl))) (sz : Nat) (k : Nat) (hk : k < 9)  : Met l y_LN_part [.code y_LN_part b_LN_part 2 (some .long)] { frames := 0, cells := 0, slots := 0, locals := 0 } (gx_P s0 D classes ws sz [.ref a, .int (nI k)]) (gx_Rl (fun r => r = cb_part fi fl k)) 0 0 (fun _ => False) := by
  refine gx_met (by decide +kernel) (Nat.le_of_ble_eq_true rfl) ?_
  intro p e s m below meth c ls hx hb hr hml hown hlocks hnm hsz hV hP hD hS hA hA0 hl
  have hg := fx_g F hV ([.ref a, .int (nI k)] : List Value).toArray
  have hK := fx_k F hV
  have hn9 := fx_n F hV
  have hl : lv_has ls 2 [(0, .ref a), (1, .int (nI k))] := hl
  refine lv_iload_n hx hb d_LN_part_0 rfl (lv_at hl 1 rfl) ?_
  rcases (show k = 0 ∨ k = 1 ∨ k = 2 ∨ k = 3 ∨ k = 4 ∨ k = 5 ∨ k = 6 ∨ k = 7 ∨ k = 8 by omega) with rfl | rfl | rfl | rfl | rfl | rfl | rfl | rfl | rfl
  · skip
    refine lv_tableIn (off := 47) (tgt := 48) hx hb d_LN_part_1 (by decide) (by decide) (by decide) (by decide) ?_
    refine lv_aload_n hx hb d_LN_part_48 rfl (lv_at hl 0 rfl) ?_
    refine va_get (D := D) (ci := iLN) (v := .int (fi 0)) (C := R_LN) (T := F_LN) (N := 9) hx hb (fl_LN hg) (fun _ h9 => h9) hown hK hP q (he) rfl 0 (by decide) (hg _ k_358) (fun _ h9 => h9) rfl d_LN_part_49 ?_
    refine lv_i2l (v := (fi 0).toInt64) hx hb d_LN_part_52 (rfl) ?_
    exact gx_iretl hx hb hr hlocks d_LN_part_53 (rfl)
  · skip
    refine lv_tableIn (off := 53) (tgt := 54) hx hb d_LN_part_1 (by decide) (by decide) (by decide) (by decide) ?_
    refine lv_aload_n hx hb d_LN_part_54 rfl (lv_at hl 0 rfl) ?_
    refine va_get (D := D) (ci := iLN) (v := .int (fi 1)) (C := R_LN) (T := F_LN) (N := 9) hx hb (fl_LN hg) (fun _ h9 => h9) hown hK hP q (he) rfl 1 (by decide) (hg _ k_360) (fun _ h9 => h9) rfl d_LN_part_55 ?_
    refine lv_i2l (v := (fi 1).toInt64) hx hb d_LN_part_58 (rfl) ?_
    exact gx_iretl hx hb hr hlocks d_LN_part_59 (rfl)
  · skip
    refine lv_tableIn (off := 59) (tgt := 60) hx hb d_LN_part_1 (by decide) (by decide) (by decide) (by decide) ?_
    refine lv_aload_n hx hb d_LN_part_60 rfl (lv_at hl 0 rfl) ?_
    refine va_get (D := D) (ci := iLN) (v := .int (fi 2)) (C := R_LN) (T := F_LN) (N := 9) hx hb (fl_LN hg) (fun _ h9 => h9) hown hK hP q (he) rfl 2 (by decide) (hg _ k_362) (fun _ h9 => h9) rfl d_LN_part_61 ?_
    refine lv_i2l (v := (fi 2).toInt64) hx hb d_LN_part_64 (rfl) ?_
    exact gx_iretl hx hb hr hlocks d_LN_part_65 (rfl)
  · skip
    refine lv_tableIn (off := 65) (tgt := 66) hx hb d_LN_part_1 (by decide) (by decide) (by decide) (by decide) ?_
    refine lv_aload_n hx hb d_LN_part_66 rfl (lv_at hl 0 rfl) ?_
    refine va_get (D := D) (ci := iLN) (v := .int (fi 3)) (C := R_LN) (T := F_LN) (N := 9) hx hb (fl_LN hg) (fun _ h9 => h9) hown hK hP q (he) rfl 3 (by decide) (hg _ k_363) (fun _ h9 => h9) rfl d_LN_part_67 ?_
    refine lv_i2l (v := (fi 3).toInt64) hx hb d_LN_part_70 (rfl) ?_
    exact gx_iretl hx hb hr hlocks d_LN_part_71 (rfl)
  · skip
    refine lv_tableIn (off := 71) (tgt := 72) hx hb d_LN_part_1 (by decide) (by decide) (by decide) (by decide) ?_
    refine lv_aload_n hx hb d_LN_part_72 rfl (lv_at hl 0 rfl) ?_
    refine va_get (D := D) (ci := iLN) (v := .long (fl 0)) (C := R_LN) (T := F_LN) (N := 9) hx hb (fl_LN hg) (fun _ h9 => h9) hown hK hP q (he) rfl 4 (by decide) (hg _ k_364) (fun _ h9 => h9) rfl d_LN_part_73 ?_
    exact gx_iretl hx hb hr hlocks d_LN_part_76 (rfl)
  · skip
    refine lv_tableIn (off := 76) (tgt := 77) hx hb d_LN_part_1 (by decide) (by decide) (by decide) (by decide) ?_
    refine lv_aload_n hx hb d_LN_part_77 rfl (lv_at hl 0 rfl) ?_
    refine va_get (D := D) (ci := iLN) (v := .int (fi 4)) (C := R_LN) (T := F_LN) (N := 9) hx hb (fl_LN hg) (fun _ h9 => h9) hown hK hP q (he) rfl 5 (by decide) (hg _ k_366) (fun _ h9 => h9) rfl d_LN_part_78 ?_
    refine lv_i2l (v := (fi 4).toInt64) hx hb d_LN_part_81 (rfl) ?_
    exact gx_iretl hx hb hr hlocks d_LN_part_82 (rfl)
  · skip
    refine lv_tableIn (off := 82) (tgt := 83) hx hb d_LN_part_1 (by decide) (by decide) (by decide) (by decide) ?_
    refine lv_aload_n hx hb d_LN_part_83 rfl (lv_at hl 0 rfl) ?_
    refine va_get (D := D) (ci := iLN) (v := .int (fi 6)) (C := R_LN) (T := F_LN) (N := 9) hx hb (fl_LN hg) (fun _ h9 => h9) hown hK hP q (he) rfl 7 (by decide) (hg _ k_369) (fun _ h9 => h9) rfl d_LN_part_84 ?_
    refine lv_if_eq (tgt := 94) hx hb d_LN_part_87 (by decide) (fun c_87 => ?_) (fun c_87 => ?_)
    · skip
      refine lv_lconst (v := 0) hx hb d_LN_part_94 (by decide) ?_
      exact gx_iretl hx hb hr hlocks d_LN_part_95 ((if_pos c_87).symm)
    · skip
      refine lv_lconst (v := 1) hx hb d_LN_part_90 (by decide) ?_
      refine lv_goto (tgt := 95) hx hb d_LN_part_91 (by decide) ?_
      exact gx_iretl hx hb hr hlocks d_LN_part_95 ((if_neg c_87).symm)
  · skip
    refine lv_tableIn (off := 95) (tgt := 96) hx hb d_LN_part_1 (by decide) (by decide) (by decide) (by decide) ?_
    refine lv_aload_n hx hb d_LN_part_96 rfl (lv_at hl 0 rfl) ?_
    refine va_get (D := D) (ci := iLN) (v := .int (fi 5)) (C := R_LN) (T := F_LN) (N := 9) hx hb (fl_LN hg) (fun _ h9 => h9) hown hK hP q (he) rfl 6 (by decide) (hg _ k_368) (fun _ h9 => h9) rfl d_LN_part_97 ?_
    refine lv_if_eq (tgt := 107) hx hb d_LN_part_100 (by decide) (fun c_100 => ?_) (fun c_100 => ?_)
    · skip
      refine lv_lconst (v := 0) hx hb d_LN_part_107 (by decide) ?_
      exact gx_iretl hx hb hr hlocks d_LN_part_108 ((if_pos c_100).symm)
    · skip
      refine lv_lconst (v := 1) hx hb d_LN_part_103 (by decide) ?_
      refine lv_goto (tgt := 108) hx hb d_LN_part_104 (by decide) ?_
      exact gx_iretl hx hb hr hlocks d_LN_part_108 ((if_neg c_100).symm)
  · skip
    refine lv_tableOut (tgt := 109) hx hb d_LN_part_1 (Or.inr (by decide)) (by decide) ?_
    refine lv_aload_n hx hb d_LN_part_109 rfl (lv_at hl 0 rfl) ?_
    refine va_get (D := D) (ci := iLN) (v := .long (fl 1)) (C := R_LN) (T := F_LN) (N := 9) hx hb (fl_LN hg) (fun _ h9 => h9) hown hK hP q (he) rfl 8 (by decide) (hg _ k_371) (fun _ h9 => h9) rfl d_LN_part_110 ?_
    exact gx_iretl hx hb hr hlocks d_LN_part_113 (rfl)

set_option maxRecDepth 100000 in
set_option maxHeartbeats 4000000 in
theorem c_PB_owedNow {l : Launch} {s0 : State} {D : va_G} {cI cC cJ cII cO cZ : ClassId} (F : FX l s0 D cI cC cJ cII cO cZ) {ws : va_W} {κ : Nat → Nat} {ra : Nat → Nat → Nat} {z sg : Nat → Int32} {G : Nat → Nat → Nat → Int32} {we : Nat → Int32} {pd : Nat → Int64} (hI : cb_I cI cC cJ cII ws κ ra z sg G we pd) {nl : Nat} {la lp : Nat → Nat} {li : Nat → Nat → Int32} {ll : Nat → Nat → Int64} (hL : cb_L cO ws (κ 62) (z 5) (fx_e0 F) nl la lp li ll) (sz : Nat) (hnl : nl ≤ 200) (k : Nat) (hk : k < 10)  : Met l y_PB_owedNow [.code y_PB_owedNow b_PB_owedNow 6 (some .long)] { frames := 3, cells := 0, slots := 0, locals := 120 } (gx_P s0 D classes ws sz [.ref (κ 0), .int (nI k)]) (gx_Rl (fun r => r = cb_ow (nI k) li ll (-(pd k)) nl)) 0 0 (fun _ => False) := by
  refine gx_met (by decide +kernel) (Nat.le_of_ble_eq_true rfl) ?_
  intro p e s m below meth c ls hx hb hr hml hown hlocks hnm hsz hV hP hD hS hA hA0 hl
  have hg := fx_g F hV ([.ref (κ 0), .int (nI k)] : List Value).toArray
  have hK := fx_k F hV
  have hn9 := fx_n F hV
  have hl : lv_has ls 6 [(0, .ref (κ 0)), (1, .int (nI k))] := hl
  obtain ⟨ea, e62, eL, einj, earr⟩ := id hL
  refine lv_aload_n hx hb d_PB_owedNow_0 rfl (lv_at hl 0 rfl) ?_
  refine va_get (D := D) (ci := iPB) (v := .ref (κ 63)) (C := R_PB) (T := F_PB) (N := 11) hx hb (fl_PB hg) (fun _ h9 => h9) hown hK hP 0 (hI.1) rfl 10 (by decide) (hg _ k_98) (fun _ h9 => h9) rfl d_PB_owedNow_1 ?_
  refine lv_iload_n hx hb d_PB_owedNow_4 rfl (lv_at hl 1 rfl) ?_
  refine gx_ll hx hb hK hP 63 2 (hI.2.2.2.2.1) rfl k (rfl) (hk) (by decide) d_PB_owedNow_5 ?_
  refine lv_lneg hx hb d_PB_owedNow_6 ?_
  refine lv_lstore_n (lv' := [(2, .long (-(pd k))), (0, .ref (κ 0)), (1, .int (nI k))]) hx hb d_PB_owedNow_7 rfl hl (by decide) rfl (fun ls hl => ?_)
  refine lv_iconst (v := 0) hx hb d_PB_owedNow_8 (by decide) ?_
  refine lv_istore (lv' := [(4, .int 0), (2, .long (-(pd k))), (0, .ref (κ 0)), (1, .int (nI k))]) hx hb d_PB_owedNow_9 hl (by decide) rfl (fun ls hl => ?_)
  have loop : ∀ (nn : Nat) (i : Nat) (ls : Array Slot) (hi : i ≤ nl) (hin : nl + 1 ≤ i + nn) (hl : lv_has ls 6 [(4, .int (nI i)), (2, .long (cb_ow (nI k) li ll (-(pd k)) i)), (0, .ref (κ 0)), (1, .int (nI k))]), W p l e ({ frames := 3, cells := 0, slots := 0, locals := 120 } : Room) s m ([.ref (κ 0), .int (nI k)] : List Value).toArray below meth c s.heap [] 0 0 (MQ below (gx_Rl (fun r => r = cb_ow (nI k) li ll (-(pd k)) nl)) ([.ref (κ 0), .int (nI k)] : List Value).toArray s 0 0 (fun _ => False)) (F0 m 11 ls []) := by
    intro nn
    induction nn with
    | zero =>
      intro i ls hi hin hl
      exact absurd hin (by omega)
    | succ nn ih =>
      intro i ls hi hin hl
      refine lv_iload hx hb d_PB_owedNow_11 (lv_at hl 0 rfl) ?_
      refine lv_aload_n hx hb d_PB_owedNow_13 rfl (lv_at hl 2 rfl) ?_
      refine va_get (D := D) (ci := iPB) (v := .ref (κ 62)) (C := R_PB) (T := F_PB) (N := 11) hx hb (fl_PB hg) (fun _ h9 => h9) hown hK hP 0 (hI.1) rfl 9 (by decide) (hg _ k_97) (fun _ h9 => h9) rfl d_PB_owedNow_14 ?_
      refine gx_readi (va_runV (As := []) (rest := [.int (nI i)]) ⟨hx, hb, hml, hown, gx_nil⟩ (c_AL_size F e62 _) ⟨gx_cb (hg _ k_191) (hg _ k_5) (hg _ k_188) nd_AL_size ⟨by decide, by decide⟩, hg _ k_189, hg _ k_190⟩ (gx_preV hV hP hD hS hA0 (va_recv hK hP rfl (e62))) rfl rfl hl.1 rfl (lv_room (Nat.le_of_ble_eq_true rfl)) d_PB_owedNow_17 ⟨by decide, by decide⟩) (fun r_17 h_17 => ?_)
      subst h_17
      refine lv_icmp_ge (tgt := 68) hx hb d_PB_owedNow_20 (by decide) (fun c_20 => ?_) (fun c_20 => ?_)
      · skip
        have hin2 : i = nl := by have := gx_ngt c_20; omega
        subst hin2
        refine lv_lload_n hx hb d_PB_owedNow_68 rfl (lv_at hl 1 rfl) ?_
        exact gx_iretl hx hb hr hlocks d_PB_owedNow_69 (rfl)
      · skip
        have hin2 : i < nl := gx_nlt c_20
        obtain ⟨ep, cap, ef, ea0, ea5, ea6, ea7, ea1, ea2, ea3⟩ : ∃ (ep cap : Nat) (ef : Nat → Option Nat), 64 ≤ ep ∧ nl ≤ cap ∧ 10 ≤ cap ∧ cap ≤ 400 ∧ ws[ep]? = some (ea, .inl (cO, cap, .inr (.inr (.inr (.inr ef))))) ∧ (∀ j, j < nl → ef j = some (la j)) ∧ ∀ j, j < cap → ∀ y, ef j = some y → ∃ i, i < nl ∧ y = la i := earr.resolve_left (fun q => absurd q.1 (by omega))
        refine lv_aload_n hx hb d_PB_owedNow_23 rfl (lv_at hl 2 rfl) ?_
        refine va_get (D := D) (ci := iPB) (v := .ref (κ 62)) (C := R_PB) (T := F_PB) (N := 11) hx hb (fl_PB hg) (fun _ h9 => h9) hown hK hP 0 (hI.1) rfl 9 (by decide) (hg _ k_97) (fun _ h9 => h9) rfl d_PB_owedNow_24 ?_
        refine lv_iload hx hb d_PB_owedNow_27 (lv_at hl 0 rfl) ?_
        refine gx_readr (va_runV (As := [.int (nI i)]) (rest := []) ⟨hx, hb, hml, hown, gx_nil⟩ (c_AL_get F e62 ea1 _ i (la i) (by omega) (by omega) (nI_lt (hin2) (by omega)) (ea2 i (hin2))) ⟨gx_cb (hg _ k_195) (hg _ k_5) (hg _ k_192) nd_AL_get ⟨by decide, by decide⟩, hg _ k_193, hg _ k_194⟩ (gx_preV hV hP hD hS hA0 (va_recv hK hP rfl (e62))) rfl rfl hl.1 rfl (lv_room (Nat.le_of_ble_eq_true rfl)) d_PB_owedNow_29 ⟨by decide, by decide⟩) (fun r_29 h_29 => ?_)
        subst h_29
        refine va_castS hx hb hown (hg _ k_206) (hK.1 iLN _ rfl).2 (va_recv hK hP rfl ((eL i (hin2)).2)) d_PB_owedNow_32 ?_
        refine lv_astore (lv' := [(5, .ref (la i)), (4, .int (nI i)), (2, .long (cb_ow (nI k) li ll (-(pd k)) i)), (0, .ref (κ 0)), (1, .int (nI k))]) hx hb d_PB_owedNow_35 hl (by decide) rfl (fun ls hl => ?_)
        refine lv_aload hx hb d_PB_owedNow_37 (lv_at hl 0 rfl) ?_
        refine va_getN (D := D) (ci := iLN) (v := .int (li i 0)) (C := R_LN) (T := F_LN) (N := 9) hx hb (fl_LN hg) (fun _ h9 => h9) hown hK hP (lp i) ((eL i (hin2)).2) rfl 0 (by decide) (va_Nw.use rfl (hn9 _ kn_359)) (fun _ h9 => h9) rfl d_PB_owedNow_39 ?_
        refine lv_iload_n hx hb d_PB_owedNow_42 rfl (lv_at hl 4 rfl) ?_
        refine lv_icmp_ne (tgt := 62) hx hb d_PB_owedNow_43 (by decide) (fun c_43 => ?_) (fun c_43 => ?_)
        · skip
          refine lv_iinc (v := nI (i + 1)) (lv' := [(4, .int (nI (i + 1))), (5, .ref (la i)), (2, .long (cb_ow (nI k) li ll (-(pd k)) i)), (0, .ref (κ 0)), (1, .int (nI k))]) hx hb d_PB_owedNow_62 hl (k := 1) rfl (by rw [lit1]; exact nI_1 i) (by decide) rfl (fun ls hl => ?_)
          refine lv_goto (tgt := 11) hx hb d_PB_owedNow_65 (by decide) ?_
          exact ih (i + 1) ls (by omega) (by omega) (by rw [cb_ow_n (fun q => c_43 q.1)]; exact lv_sub hl [0, 2, 3, 4] rfl)
        · skip
          refine lv_aload hx hb d_PB_owedNow_46 (lv_at hl 0 rfl) ?_
          refine va_getN (D := D) (ci := iLN) (v := .int (li i 6)) (C := R_LN) (T := F_LN) (N := 9) hx hb (fl_LN hg) (fun _ h9 => h9) hown hK hP (lp i) ((eL i (hin2)).2) rfl 7 (by decide) (va_Nw.use rfl (hn9 _ kn_370)) (fun _ h9 => h9) rfl d_PB_owedNow_48 ?_
          refine lv_if_ne (tgt := 62) hx hb d_PB_owedNow_51 (by decide) (fun c_51 => ?_) (fun c_51 => ?_)
          · skip
            refine lv_iinc (v := nI (i + 1)) (lv' := [(4, .int (nI (i + 1))), (5, .ref (la i)), (2, .long (cb_ow (nI k) li ll (-(pd k)) i)), (0, .ref (κ 0)), (1, .int (nI k))]) hx hb d_PB_owedNow_62 hl (k := 1) rfl (by rw [lit1]; exact nI_1 i) (by decide) rfl (fun ls hl => ?_)
            refine lv_goto (tgt := 11) hx hb d_PB_owedNow_65 (by decide) ?_
            exact ih (i + 1) ls (by omega) (by omega) (by rw [cb_ow_n (fun q => c_51 q.2)]; exact lv_sub hl [0, 2, 3, 4] rfl)
          · skip
            refine lv_lload_n hx hb d_PB_owedNow_54 rfl (lv_at hl 2 rfl) ?_
            refine lv_aload hx hb d_PB_owedNow_55 (lv_at hl 0 rfl) ?_
            refine va_getN (D := D) (ci := iLN) (v := .long (ll i 0)) (C := R_LN) (T := F_LN) (N := 9) hx hb (fl_LN hg) (fun _ h9 => h9) hown hK hP (lp i) ((eL i (hin2)).2) rfl 4 (by decide) (va_Nw.use rfl (hn9 _ kn_365)) (fun _ h9 => h9) rfl d_PB_owedNow_57 ?_
            refine lv_ladd hx hb d_PB_owedNow_60 ?_
            refine lv_lstore_n (lv' := [(2, .long ((cb_ow (nI k) li ll (-(pd k)) i) + (ll i 0))), (5, .ref (la i)), (4, .int (nI i)), (0, .ref (κ 0)), (1, .int (nI k))]) hx hb d_PB_owedNow_61 rfl hl (by decide) rfl (fun ls hl => ?_)
            refine lv_iinc (v := nI (i + 1)) (lv' := [(4, .int (nI (i + 1))), (2, .long ((cb_ow (nI k) li ll (-(pd k)) i) + (ll i 0))), (5, .ref (la i)), (0, .ref (κ 0)), (1, .int (nI k))]) hx hb d_PB_owedNow_62 hl (k := 2) rfl (by rw [lit1]; exact nI_1 i) (by decide) rfl (fun ls hl => ?_)
            refine lv_goto (tgt := 11) hx hb d_PB_owedNow_65 (by decide) ?_
            exact ih (i + 1) ls (by omega) (by omega) (by rw [cb_ow_s ⟨c_43, c_51⟩]; exact lv_sub hl [0, 1, 3, 4] rfl)
  exact loop (nl + 1) 0 ls (by omega) (by omega) (lv_sub hl [0, 1, 2, 3] rfl)

set_option maxRecDepth 100000 in
set_option maxHeartbeats 4000000 in
theorem c_PB_linesOf {l : Launch} {s0 : State} {D : va_G} {cI cC cJ cII cO cZ : ClassId} (F : FX l s0 D cI cC cJ cII cO cZ) {ws : va_W} {κ : Nat → Nat} {ra : Nat → Nat → Nat} {z sg : Nat → Int32} {G : Nat → Nat → Nat → Int32} {we : Nat → Int32} {pd : Nat → Int64} (hI : cb_I cI cC cJ cII ws κ ra z sg G we pd) {nl : Nat} {la lp : Nat → Nat} {li : Nat → Nat → Int32} {ll : Nat → Nat → Int64} (hL : cb_L cO ws (κ 62) (z 5) (fx_e0 F) nl la lp li ll) (sz : Nat) (hnl : nl ≤ 200) (p0 : Int32)  : Met l y_PB_linesOf [.code y_PB_linesOf b_PB_linesOf 4 (some .int)] { frames := 3, cells := 0, slots := 0, locals := 120 } (gx_P s0 D classes ws sz [.ref (κ 0), .int p0]) (gx_Ri (fun r => r = nI (cb_cnt (fun j => decide (li j 0 = p0)) nl))) 0 0 (fun _ => False) := by
  refine gx_met (by decide +kernel) (Nat.le_of_ble_eq_true rfl) ?_
  intro p e s m below meth c ls hx hb hr hml hown hlocks hnm hsz hV hP hD hS hA hA0 hl
  have hg := fx_g F hV ([.ref (κ 0), .int p0] : List Value).toArray
  have hK := fx_k F hV
  have hn9 := fx_n F hV
  have hl : lv_has ls 4 [(0, .ref (κ 0)), (1, .int p0)] := hl
  obtain ⟨ea, e62, eL, einj, earr⟩ := id hL
  refine lv_iconst (v := 0) hx hb d_PB_linesOf_0 (by decide) ?_
  refine lv_istore_n (lv' := [(2, .int 0), (0, .ref (κ 0)), (1, .int p0)]) hx hb d_PB_linesOf_1 rfl hl (by decide) rfl (fun ls hl => ?_)
  refine lv_iconst (v := 0) hx hb d_PB_linesOf_2 (by decide) ?_
  refine lv_istore_n (lv' := [(3, .int 0), (2, .int 0), (0, .ref (κ 0)), (1, .int p0)]) hx hb d_PB_linesOf_3 rfl hl (by decide) rfl (fun ls hl => ?_)
  have loop : ∀ (nn : Nat) (i : Nat) (ls : Array Slot) (hi : i ≤ nl) (hin : nl + 1 ≤ i + nn) (hl : lv_has ls 4 [(3, .int (nI i)), (2, .int (nI (cb_cnt (fun j => decide (li j 0 = p0)) i))), (0, .ref (κ 0)), (1, .int p0)]), W p l e ({ frames := 3, cells := 0, slots := 0, locals := 120 } : Room) s m ([.ref (κ 0), .int p0] : List Value).toArray below meth c s.heap [] 0 0 (MQ below (gx_Ri (fun r => r = nI (cb_cnt (fun j => decide (li j 0 = p0)) nl))) ([.ref (κ 0), .int p0] : List Value).toArray s 0 0 (fun _ => False)) (F0 m 4 ls []) := by
    intro nn
    induction nn with
    | zero =>
      intro i ls hi hin hl
      exact absurd hin (by omega)
    | succ nn ih =>
      intro i ls hi hin hl
      refine lv_iload_n hx hb d_PB_linesOf_4 rfl (lv_at hl 0 rfl) ?_
      refine lv_aload_n hx hb d_PB_linesOf_5 rfl (lv_at hl 2 rfl) ?_
      refine va_get (D := D) (ci := iPB) (v := .ref (κ 62)) (C := R_PB) (T := F_PB) (N := 11) hx hb (fl_PB hg) (fun _ h9 => h9) hown hK hP 0 (hI.1) rfl 9 (by decide) (hg _ k_97) (fun _ h9 => h9) rfl d_PB_linesOf_6 ?_
      refine gx_readi (va_runV (As := []) (rest := [.int (nI i)]) ⟨hx, hb, hml, hown, gx_nil⟩ (c_AL_size F e62 _) ⟨gx_cb (hg _ k_191) (hg _ k_5) (hg _ k_188) nd_AL_size ⟨by decide, by decide⟩, hg _ k_189, hg _ k_190⟩ (gx_preV hV hP hD hS hA0 (va_recv hK hP rfl (e62))) rfl rfl hl.1 rfl (lv_room (Nat.le_of_ble_eq_true rfl)) d_PB_linesOf_9 ⟨by decide, by decide⟩) (fun r_9 h_9 => ?_)
      subst h_9
      refine lv_icmp_ge (tgt := 42) hx hb d_PB_linesOf_12 (by decide) (fun c_12 => ?_) (fun c_12 => ?_)
      · skip
        have hin2 : i = nl := by have := gx_ngt c_12; omega
        subst hin2
        refine lv_iload_n hx hb d_PB_linesOf_42 rfl (lv_at hl 1 rfl) ?_
        exact gx_ireti hx hb hr hlocks rfl d_PB_linesOf_43 (rfl)
      · skip
        have hin2 : i < nl := gx_nlt c_12
        obtain ⟨ep, cap, ef, ea0, ea5, ea6, ea7, ea1, ea2, ea3⟩ : ∃ (ep cap : Nat) (ef : Nat → Option Nat), 64 ≤ ep ∧ nl ≤ cap ∧ 10 ≤ cap ∧ cap ≤ 400 ∧ ws[ep]? = some (ea, .inl (cO, cap, .inr (.inr (.inr (.inr ef))))) ∧ (∀ j, j < nl → ef j = some (la j)) ∧ ∀ j, j < cap → ∀ y, ef j = some y → ∃ i, i < nl ∧ y = la i := earr.resolve_left (fun q => absurd q.1 (by omega))
        refine lv_aload_n hx hb d_PB_linesOf_15 rfl (lv_at hl 2 rfl) ?_
        refine va_get (D := D) (ci := iPB) (v := .ref (κ 62)) (C := R_PB) (T := F_PB) (N := 11) hx hb (fl_PB hg) (fun _ h9 => h9) hown hK hP 0 (hI.1) rfl 9 (by decide) (hg _ k_97) (fun _ h9 => h9) rfl d_PB_linesOf_16 ?_
        refine lv_iload_n hx hb d_PB_linesOf_19 rfl (lv_at hl 0 rfl) ?_
        refine gx_readr (va_runV (As := [.int (nI i)]) (rest := []) ⟨hx, hb, hml, hown, gx_nil⟩ (c_AL_get F e62 ea1 _ i (la i) (by omega) (by omega) (nI_lt (hin2) (by omega)) (ea2 i (hin2))) ⟨gx_cb (hg _ k_195) (hg _ k_5) (hg _ k_192) nd_AL_get ⟨by decide, by decide⟩, hg _ k_193, hg _ k_194⟩ (gx_preV hV hP hD hS hA0 (va_recv hK hP rfl (e62))) rfl rfl hl.1 rfl (lv_room (Nat.le_of_ble_eq_true rfl)) d_PB_linesOf_20 ⟨by decide, by decide⟩) (fun r_20 h_20 => ?_)
        subst h_20
        refine va_castS hx hb hown (hg _ k_206) (hK.1 iLN _ rfl).2 (va_recv hK hP rfl ((eL i (hin2)).2)) d_PB_linesOf_23 ?_
        refine va_getN (D := D) (ci := iLN) (v := .int (li i 0)) (C := R_LN) (T := F_LN) (N := 9) hx hb (fl_LN hg) (fun _ h9 => h9) hown hK hP (lp i) ((eL i (hin2)).2) rfl 0 (by decide) (va_Nw.use rfl (hn9 _ kn_359)) (fun _ h9 => h9) rfl d_PB_linesOf_26 ?_
        refine lv_iload_n hx hb d_PB_linesOf_29 rfl (lv_at hl 3 rfl) ?_
        refine lv_icmp_ne (tgt := 36) hx hb d_PB_linesOf_30 (by decide) (fun c_30 => ?_) (fun c_30 => ?_)
        · skip
          refine lv_iinc (v := nI (i + 1)) (lv' := [(3, .int (nI (i + 1))), (2, .int (nI (cb_cnt (fun j => decide (li j 0 = p0)) i))), (0, .ref (κ 0)), (1, .int p0)]) hx hb d_PB_linesOf_36 hl (k := 0) rfl (by rw [lit1]; exact nI_1 i) (by decide) rfl (fun ls hl => ?_)
          refine lv_goto (tgt := 4) hx hb d_PB_linesOf_39 (by decide) ?_
          exact ih (i + 1) ls (by omega) (by omega) (by rw [cb_cnt_n (q := (fun j => decide (li j 0 = p0))) (by simpa using c_30)]; exact lv_sub hl [0, 1, 2, 3] rfl)
        · skip
          refine lv_iinc (v := nI (cb_cnt (fun j => decide (li j 0 = p0)) i + 1)) (lv' := [(2, .int (nI (cb_cnt (fun j => decide (li j 0 = p0)) i + 1))), (3, .int (nI i)), (0, .ref (κ 0)), (1, .int p0)]) hx hb d_PB_linesOf_33 hl (k := 1) rfl (by rw [lit1]; exact nI_1 _) (by decide) rfl (fun ls hl => ?_)
          refine lv_iinc (v := nI (i + 1)) (lv' := [(3, .int (nI (i + 1))), (2, .int (nI (cb_cnt (fun j => decide (li j 0 = p0)) i + 1))), (0, .ref (κ 0)), (1, .int p0)]) hx hb d_PB_linesOf_36 hl (k := 1) rfl (by rw [lit1]; exact nI_1 i) (by decide) rfl (fun ls hl => ?_)
          refine lv_goto (tgt := 4) hx hb d_PB_linesOf_39 (by decide) ?_
          exact ih (i + 1) ls (by omega) (by omega) (by rw [cb_cnt_s (q := (fun j => decide (li j 0 = p0))) (by simpa using c_30)]; exact lv_sub hl [0, 1, 2, 3] rfl)
  exact loop (nl + 1) 0 ls (by omega) (by omega) (lv_sub hl [0, 1, 2, 3] rfl)

