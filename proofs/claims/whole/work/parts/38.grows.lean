set_option maxRecDepth 100000 in
set_option maxHeartbeats 4000000 in
theorem c_AL_grow2A {l : Launch} {s0 : State} {D : va_G} {cI cC cJ cII cO cZ : ClassId} (F : FX l s0 D cI cC cJ cII cO cZ) {ws : va_W} {q a4 ea : Nat} {md : Int32} {ep cap : Nat} {ef : Nat → Option Nat} (he : ws[q]? = some (a4, .inr (iAL, [.int md, .ref ea, .int (nI cap)]))) (ha : ws[ep]? = some (ea, .inl (cO, cap, .inr (.inr (.inr (.inr ef)))))) (sz : Nat) (hc0 : 10 ≤ cap) (hc1 : cap ≤ 200) (hel : ∀ i, i < cap → ∀ y, ef i = some y → ∃ (k : Nat) (vs : List Value), ws[k]? = some (y, .inr (iLN, vs)))  : Met l y_AL_grow2 [.code y_AL_grow2 b_AL_grow2 4 (some (.array (.object "java/lang/Object")))] { frames := 4, cells := 1, slots := 400, locals := 130 } (gx_P s0 D classes ws sz [.ref a4, .int (nI (cap + 1))]) (va_Qr (fun u => cb_grown cO ws q a4 md cap ef u) (gx_Bq D classes ws sz) (va_A ws sz)) 1 400 (va_A ws sz) := by
  refine gx_met (by decide +kernel) (Nat.le_of_ble_eq_true rfl) ?_
  intro p e s m below meth c ls hx hb hr hml hown hlocks hnm hsz hV hP hD hS hA hA0 hl
  have hg := fx_g F hV ([.ref a4, .int (nI (cap + 1))] : List Value).toArray
  have hK := fx_k F hV
  have hn9 := fx_n F hV
  have hl : lv_has ls 4 [(0, .ref a4), (1, .int (nI (cap + 1)))] := hl
  refine lv_aload_n hx hb d_AL_grow2_0 rfl (lv_at hl 0 rfl) ?_
  refine va_get (D := D) (ci := iAL) (v := .ref ea) (C := R_AL) (T := F_AL) (N := 3) hx hb (fl_AL hg) (fun _ h9 => h9) hown hK hP q (he) rfl 1 (by decide) (hg _ k_73) (fun _ h9 => h9) rfl d_AL_grow2_1 ?_
  refine va_alen hx hb hK hP ep 4 (ha) rfl (v := nI cap) rfl d_AL_grow2_4 ?_
  refine lv_istore_n (lv' := [(2, .int (nI cap)), (0, .ref a4), (1, .int (nI (cap + 1)))]) hx hb d_AL_grow2_5 rfl hl (by decide) rfl (fun ls hl => ?_)
  refine lv_iload_n hx hb d_AL_grow2_6 rfl (lv_at hl 0 rfl) ?_
  refine lv_if_gt (tgt := 20) hx hb d_AL_grow2_7 (by decide) (fun c_7 => ?_) (fun c_7 => absurd ((nI_ltI (a := 0) (by omega) (by omega)).mpr (by omega)) c_7)
  refine lv_iload_n hx hb d_AL_grow2_20 rfl (lv_at hl 0 rfl) ?_
  refine lv_iload_n hx hb d_AL_grow2_21 rfl (lv_at hl 2 rfl) ?_
  refine lv_iload_n hx hb d_AL_grow2_22 rfl (lv_at hl 0 rfl) ?_
  refine lv_isub hx hb d_AL_grow2_23 ?_
  rw [cb_s1 cap (by omega)]
  refine lv_iload_n hx hb d_AL_grow2_24 rfl (lv_at hl 0 rfl) ?_
  refine lv_iconst (v := 1) hx hb d_AL_grow2_25 (by decide) ?_
  refine lv_ishr hx hb d_AL_grow2_26 ?_
  rw [cb_shr cap (by omega)]
  refine gx_readi (va_runS (As := [.int (nI cap), .int (nI 1), .int (nI (cap / 2))]) (rest := []) ⟨hx, hb, hml, hown, gx_nil⟩ (c_AS_newLength F _ _ cap hc0 hc1) ⟨gx_cb (hg _ k_410) (hg _ k_16) (hg _ k_408) nd_AS_newLength ⟨by decide, by decide⟩, hg _ k_409⟩ (gx_preS hV hP hD hS hA0) rfl rfl hl.1 rfl (lv_room (Nat.le_of_ble_eq_true rfl)) d_AL_grow2_27 ⟨by decide, by decide⟩) (fun r_27 h_27 => ?_)
  subst h_27
  refine lv_istore_n (lv' := [(3, .int (nI (cap + cap / 2))), (2, .int (nI cap)), (0, .ref a4), (1, .int (nI (cap + 1)))]) hx hb d_AL_grow2_30 rfl hl (by decide) rfl (fun ls hl => ?_)
  refine lv_aload_n hx hb d_AL_grow2_31 rfl (lv_at hl 2 rfl) ?_
  refine lv_aload_n hx hb d_AL_grow2_32 rfl (lv_at hl 2 rfl) ?_
  refine va_get (D := D) (ci := iAL) (v := .ref ea) (C := R_AL) (T := F_AL) (N := 3) hx hb (fl_AL hg) (fun _ h9 => h9) hown hK hP q (he) rfl 1 (by decide) (hg _ k_73) (fun _ h9 => h9) rfl d_AL_grow2_33 ?_
  refine lv_iload_n hx hb d_AL_grow2_36 rfl (lv_at hl 0 rfl) ?_
  refine gx_callr (va_runS (As := [.ref ea, .int (nI (cap + cap / 2))]) (rest := [.ref a4]) ⟨hx, hb, hml, hown, gx_nil⟩ (c_AR_copyOf F ha _ (cap + cap / 2) (by omega) (by omega) hel) ⟨gx_cb (hg _ k_418) (hg _ k_6) (hg _ k_416) nd_AR_copyOf ⟨by decide, by decide⟩, hg _ k_417⟩ (gx_preS hV hP hD hS hA0) rfl rfl hl.1 rfl (lv_room (Nat.le_of_ble_eq_true rfl)) d_AL_grow2_37 ⟨by decide, by decide⟩) hD hS hA (fun r_37 w1 H locs h_37 hP hD hS => ?_)
  have h37 : w1 = ws ++ [(r_37, .inl (cO, cap + cap / 2, .inr (.inr (.inr (.inr (va_cpy ef (fun _ => none) 0 0 cap))))))] := h_37
  rw [h37] at hP hD
  refine lv_dup_x1 hx hb d_AL_grow2_40 rfl rfl ?_
  refine va_put (D := D) (ci := iAL) (v := .ref r_37) (ty := .array (.object "java/lang/Object")) (C := R_AL) (T := F_AL) (N := 3) hx hb (fl_AL hg) (fun _ h9 => h9) t_AL t_AL_ok n_AL hown hK hP hD hS q (gx_ap he) rfl 1 (by decide) (hg _ k_73) (fun _ h9 => h9) rfl (by decide +kernel) rfl rfl (Nat.le_of_ble_eq_true rfl) d_AL_grow2_41 (fun H locs hP hD hS => ?_)
  obtain ⟨w_1, ew_1⟩ : ∃ x : va_W, x = (ws ++ ([(r_37, .inl (cO, cap + cap / 2, .inr (.inr (.inr (.inr (va_cpy ef (fun _ => none) 0 0 cap))))))] : va_W)).set q (a4, .inr (iAL, [.int md, .ref r_37, .int (nI cap)])) := ⟨_, rfl⟩
  replace hP : va_P D classes w_1 H := by rw [ew_1]; exact hP
  replace hD : va_D (va_A ws sz) w_1 := by rw [ew_1]; exact hD
  have hew_1 : w_1[q]? = some (a4, .inr (iAL, [.int md, .ref r_37, .int (nI cap)])) := by rw [ew_1]; exact gx_ss (gx_ap he)
  exact gx_aret hx hb hr (Or.inr ⟨_, rfl⟩) hlocks hS hP hD (by decide) (by decide) d_AL_grow2_44 (⟨_, _, by omega, by omega, by omega, fun j hj => (pk_cpy_in (Nat.zero_le j) (by omega)).trans (by rw [Nat.zero_add, Nat.sub_zero]), fun j hj => pk_cpy_out (Or.inr (by omega)), ew_1⟩)

set_option maxRecDepth 100000 in
set_option maxHeartbeats 4000000 in
theorem c_AL_grow2B {l : Launch} {s0 : State} {D : va_G} {cI cC cJ cII cO cZ : ClassId} (F : FX l s0 D cI cC cJ cII cO cZ) {ws : va_W} {q a4 : Nat} {md : Int32} {ef : Nat → Option Nat} (he : ws[q]? = some (a4, .inr (iAL, [.int md, .ref (fx_e0 F), .int (nI 0)]))) (sz : Nat)   : Met l y_AL_grow2 [.code y_AL_grow2 b_AL_grow2 4 (some (.array (.object "java/lang/Object")))] { frames := 4, cells := 1, slots := 400, locals := 130 } (gx_P s0 D classes ws sz [.ref a4, .int (nI (0 + 1))]) (va_Qr (fun u => cb_grown cO ws q a4 md 0 ef u) (gx_Bq D classes ws sz) (va_A ws sz)) 1 400 (va_A ws sz) := by
  refine gx_met (by decide +kernel) (Nat.le_of_ble_eq_true rfl) ?_
  intro p e s m below meth c ls hx hb hr hml hown hlocks hnm hsz hV hP hD hS hA hA0 hl
  have hg := fx_g F hV ([.ref a4, .int (nI (0 + 1))] : List Value).toArray
  have hK := fx_k F hV
  have hn9 := fx_n F hV
  have hl : lv_has ls 4 [(0, .ref a4), (1, .int (nI (0 + 1)))] := hl
  refine lv_aload_n hx hb d_AL_grow2_0 rfl (lv_at hl 0 rfl) ?_
  refine va_get (D := D) (ci := iAL) (v := .ref (fx_e0 F)) (C := R_AL) (T := F_AL) (N := 3) hx hb (fl_AL hg) (fun _ h9 => h9) hown hK hP q (he) rfl 1 (by decide) (hg _ k_73) (fun _ h9 => h9) rfl d_AL_grow2_1 ?_
  refine va_tlen hx hb (fx_et F hV hA0) hS (v := 0) rfl d_AL_grow2_4 ?_
  refine lv_istore_n (lv' := [(2, .int 0), (0, .ref a4), (1, .int (nI (0 + 1)))]) hx hb d_AL_grow2_5 rfl hl (by decide) rfl (fun ls hl => ?_)
  refine lv_iload_n hx hb d_AL_grow2_6 rfl (lv_at hl 0 rfl) ?_
  refine lv_if_gt (tgt := 20) hx hb d_AL_grow2_7 (by decide) (fun c_7 => absurd c_7 (by decide)) (fun c_7 => ?_)
  refine lv_aload_n hx hb d_AL_grow2_10 rfl (lv_at hl 1 rfl) ?_
  refine va_get (D := D) (ci := iAL) (v := .ref (fx_e0 F)) (C := R_AL) (T := F_AL) (N := 3) hx hb (fl_AL hg) (fun _ h9 => h9) hown hK hP q (he) rfl 1 (by decide) (hg _ k_73) (fun _ h9 => h9) rfl d_AL_grow2_11 ?_
  refine va_gets hx hb (fx_ez F hV hA0) hS hown (hg _ k_71) (fun _ h9 => h9) d_AL_grow2_14 ?_
  refine lv_acmp_eq (rx := some (fx_e0 F)) (ry := some (fx_e0 F)) (tgt := 45) hx hb d_AL_grow2_17 (by decide) (fun _ => ?_) (fun c => absurd rfl c)
  refine lv_aload_n hx hb d_AL_grow2_45 rfl (lv_at hl 1 rfl) ?_
  refine lv_bipush (v := 10) hx hb d_AL_grow2_46 (by decide) ?_
  refine lv_iload_n hx hb d_AL_grow2_48 rfl (lv_at hl 2 rfl) ?_
  refine va_mmax hx hb (by rw [hml]; exact hl.1.symm) hown (hg _ k_442) (hg _ k_340) (hg _ k_14) (hg _ k_341) (by decide) (Nat.le_of_ble_eq_true rfl) (by decide) (by decide) d_AL_grow2_49 ?_
  rw [show (if (10 : Int32) < nI (0 + 1) then nI (0 + 1) else 10) = nI 10 by decide]
  refine va_newq hx hb hown (hg _ k_443) (fx_ao F hV) hK hP hD hS hA (N' := 10) (by decide) (by decide) (by decide) (by decide) (by decide) d_AL_grow2_52 (fun qn cA H hK9 hP hD hS => ?_)
  have eA := gx_sameO hK9
  rw [eA] at hP hD
  refine lv_dup_x1 hx hb d_AL_grow2_55 rfl rfl ?_
  refine va_put (D := D) (ci := iAL) (v := .ref qn) (ty := .array (.object "java/lang/Object")) (C := R_AL) (T := F_AL) (N := 3) hx hb (fl_AL hg) (fun _ h9 => h9) t_AL t_AL_ok n_AL hown hK hP hD hS q (gx_ap he) rfl 1 (by decide) (hg _ k_73) (fun _ h9 => h9) rfl (by decide +kernel) rfl rfl (Nat.le_of_ble_eq_true rfl) d_AL_grow2_56 (fun H locs hP hD hS => ?_)
  obtain ⟨w_1, ew_1⟩ : ∃ x : va_W, x = (ws ++ ([(qn, .inl (cO, 10, .inr (.inr (.inr (.inr (fun _ => none))))))] : va_W)).set q (a4, .inr (iAL, [.int md, .ref qn, .int (nI 0)])) := ⟨_, rfl⟩
  replace hP : va_P D classes w_1 H := by rw [ew_1]; exact hP
  replace hD : va_D (va_A ws sz) w_1 := by rw [ew_1]; exact hD
  have hew_1 : w_1[q]? = some (a4, .inr (iAL, [.int md, .ref qn, .int (nI 0)])) := by rw [ew_1]; exact gx_ss (gx_ap he)
  exact gx_aret hx hb hr (Or.inr ⟨_, rfl⟩) hlocks hS hP hD (by decide) (by decide) d_AL_grow2_59 (⟨_, _, by decide, by decide, by decide, fun j hj => absurd hj (Nat.not_lt_zero j), fun j hj => rfl, ew_1⟩)

theorem c_AL_grow2 {l : Launch} {s0 : State} {D : va_G} {cI cC cJ cII cO cZ : ClassId} (F : FX l s0 D cI cC cJ cII cO cZ) {ws : va_W} {q a4 ea : Nat} {md : Int32} {n : Nat} {ef : Nat → Option Nat} (he : ws[q]? = some (a4, .inr (iAL, [.int md, .ref ea, .int (nI n)]))) (sz : Nat) (hc : ((n = 0 ∧ ea = fx_e0 F) ∨ (∃ (ep : Nat), ws[ep]? = some (ea, .inl (cO, n, .inr (.inr (.inr (.inr ef))))) ∧ 10 ≤ n ∧ n ≤ 200 ∧ ∀ i, i < n → ∀ y, ef i = some y → ∃ (k : Nat) (vs : List Value), ws[k]? = some (y, .inr (iLN, vs))))) : Met l y_AL_grow2 [.code y_AL_grow2 b_AL_grow2 4 (some (.array (.object "java/lang/Object")))] { frames := 4, cells := 1, slots := 400, locals := 130 } (gx_P s0 D classes ws sz [.ref a4, .int (nI (n + 1))]) (va_Qr (fun u => cb_grown cO ws q a4 md n ef u) (gx_Bq D classes ws sz) (va_A ws sz)) 1 400 (va_A ws sz) := by
  rcases hc with ⟨h1, h2⟩ | ⟨ep, h1, h2, h3, h4⟩
  · rw [h1] at he ⊢
    rw [h2] at he
    exact c_AL_grow2B F he sz
  · exact c_AL_grow2A F he h1 sz h2 h3 h4

set_option maxRecDepth 100000 in
set_option maxHeartbeats 4000000 in
theorem c_AL_grow {l : Launch} {s0 : State} {D : va_G} {cI cC cJ cII cO cZ : ClassId} (F : FX l s0 D cI cC cJ cII cO cZ) {ws : va_W} {q a4 ea : Nat} {md : Int32} {n : Nat} {ef : Nat → Option Nat} (he : ws[q]? = some (a4, .inr (iAL, [.int md, .ref ea, .int (nI n)]))) (sz : Nat) (hc : ((n = 0 ∧ ea = fx_e0 F) ∨ (∃ (ep : Nat), ws[ep]? = some (ea, .inl (cO, n, .inr (.inr (.inr (.inr ef))))) ∧ 10 ≤ n ∧ n ≤ 200 ∧ ∀ i, i < n → ∀ y, ef i = some y → ∃ (k : Nat) (vs : List Value), ws[k]? = some (y, .inr (iLN, vs)))))  : Met l y_AL_grow [.code y_AL_grow b_AL_grow 1 (some (.array (.object "java/lang/Object")))] { frames := 5, cells := 1, slots := 400, locals := 160 } (gx_P s0 D classes ws sz [.ref a4]) (va_Qr (fun u => cb_grown cO ws q a4 md n ef u) (gx_Bq D classes ws sz) (va_A ws sz)) 1 400 (va_A ws sz) := by
  refine gx_met (by decide +kernel) (Nat.le_of_ble_eq_true rfl) ?_
  intro p e s m below meth c ls hx hb hr hml hown hlocks hnm hsz hV hP hD hS hA hA0 hl
  have hg := fx_g F hV ([.ref a4] : List Value).toArray
  have hK := fx_k F hV
  have hn9 := fx_n F hV
  have hl : lv_has ls 1 [(0, .ref a4)] := hl
  refine lv_aload_n hx hb d_AL_grow_0 rfl (lv_at hl 0 rfl) ?_
  refine lv_aload_n hx hb d_AL_grow_1 rfl (lv_at hl 0 rfl) ?_
  refine va_get (D := D) (ci := iAL) (v := .int (nI n)) (C := R_AL) (T := F_AL) (N := 3) hx hb (fl_AL hg) (fun _ h9 => h9) hown hK hP q (he) rfl 2 (by decide) (hg _ k_74) (fun _ h9 => h9) rfl d_AL_grow_2 ?_
  refine lv_iconst (v := 1) hx hb d_AL_grow_5 (by decide) ?_
  refine lv_iadd hx hb d_AL_grow_6 ?_
  rw [nI_1]
  refine gx_callr (va_runV (As := [.int (nI (n + 1))]) (rest := []) ⟨hx, hb, hml, hown, gx_nil⟩ (c_AL_grow2 F he _ hc) ⟨gx_cb (hg _ k_407) (hg _ k_5) (hg _ k_404) nd_AL_grow2 ⟨by decide, by decide⟩, hg _ k_406, hg _ ks_16⟩ (gx_preV hV hP hD hS hA0 (va_recv hK hP rfl (he))) rfl rfl hl.1 rfl (lv_room (Nat.le_of_ble_eq_true rfl)) d_AL_grow_7 ⟨by decide, by decide⟩) hD hS hA (fun r_7 w1 H locs h_7 hP hD hS => ?_)
  exact gx_aret hx hb hr (Or.inr ⟨_, rfl⟩) hlocks hS hP hD (by decide) (by decide) d_AL_grow_10 (h_7)

set_option maxRecDepth 100000 in
set_option maxHeartbeats 4000000 in
theorem c_AL_add2N {l : Launch} {s0 : State} {D : va_G} {cI cC cJ cII cO cZ : ClassId} (F : FX l s0 D cI cC cJ cII cO cZ) {ws : va_W} {q a4 ea : Nat} {md : Int32} {n : Nat} {ef : Nat → Option Nat} (he : ws[q]? = some (a4, .inr (iAL, [.int md, .ref ea, .int (nI n)]))) {ep cap : Nat} (ha : ws[ep]? = some (ea, .inl (cO, cap, .inr (.inr (.inr (.inr ef)))))) {pk v : Nat} {vs : List Value} (hv : ws[pk]? = some (v, .inr (iLN, vs))) (hpq : pk ≠ q) (sz : Nat) (hn : n < cap) (hc0 : 10 ≤ cap) (hc1 : cap ≤ 400)  : Met l y_AL_add2 [.code y_AL_add2 b_AL_add2 4 none] { frames := 6, cells := 1, slots := 400, locals := 190 } (gx_P s0 D classes ws sz [.ref a4, .ref v, .ref ea, .int (nI n)]) (va_Qv (fun w1 => cb_added cO ws w1 q a4 md n ef v ep cap) (gx_B D classes ws sz) (va_A ws sz)) 1 400 (va_A ws sz) := by
  refine gx_met (by decide +kernel) (Nat.le_of_ble_eq_true rfl) ?_
  intro p e s m below meth c ls hx hb hr hml hown hlocks hnm hsz hV hP hD hS hA hA0 hl
  have hg := fx_g F hV ([.ref a4, .ref v, .ref ea, .int (nI n)] : List Value).toArray
  have hK := fx_k F hV
  have hn9 := fx_n F hV
  have hne : ep ≠ q := fun z => by
    rw [z, he] at ha
    cases ha
  have hl : lv_has ls 4 [(0, .ref a4), (1, .ref v), (2, .ref ea), (3, .int (nI n))] := hl
  refine lv_iload_n hx hb d_AL_add2_0 rfl (lv_at hl 3 rfl) ?_
  refine lv_aload_n hx hb d_AL_add2_1 rfl (lv_at hl 2 rfl) ?_
  refine va_alen hx hb hK hP ep 4 (ha) rfl (v := nI cap) rfl d_AL_add2_2 ?_
  refine lv_icmp_ne (tgt := 11) hx hb d_AL_add2_3 (by decide) (fun c_3 => ?_) (fun c_3 => absurd (gx_eqn c_3) (by omega))
  refine lv_aload_n hx hb d_AL_add2_11 rfl (lv_at hl 2 rfl) ?_
  refine lv_iload_n hx hb d_AL_add2_12 rfl (lv_at hl 3 rfl) ?_
  refine lv_aload_n hx hb d_AL_add2_13 rfl (lv_at hl 1 rfl) ?_
  refine va_astqO hx hb hK hP hD hS (r := (R_LN, F_LN, 9)) ep 4 pk iLN (ha) rfl (fx_lo F hV) (hv) rfl (vp_in_nI (by omega) (by omega)) d_AL_add2_14 (fun H locs hP hD hS => ?_)
  rw [nI_clamp (by omega)] at hP hD
  refine lv_aload_n hx hb d_AL_add2_15 rfl (lv_at hl 0 rfl) ?_
  refine lv_iload_n hx hb d_AL_add2_16 rfl (lv_at hl 3 rfl) ?_
  refine lv_iconst (v := 1) hx hb d_AL_add2_17 (by decide) ?_
  refine lv_iadd hx hb d_AL_add2_18 ?_
  rw [nI_1]
  refine va_put (D := D) (ci := iAL) (v := .int (nI (n + 1))) (ty := .int) (C := R_AL) (T := F_AL) (N := 3) hx hb (fl_AL hg) (fun _ h9 => h9) t_AL t_AL_ok n_AL hown hK hP hD hS q (gx_sn hne he) rfl 2 (by decide) (hg _ k_74) (fun _ h9 => h9) rfl (by decide +kernel) rfl rfl (Nat.le_of_ble_eq_true rfl) d_AL_add2_19 (fun H locs hP hD hS => ?_)
  obtain ⟨w_1, ew_1⟩ : ∃ x : va_W, x = (ws.set ep (ea, .inl (cO, cap, .inr (.inr (.inr (.inr (va_up ef n (some v)))))))).set q (a4, .inr (iAL, [.int md, .ref ea, .int (nI (n + 1))])) := ⟨_, rfl⟩
  replace hP : va_P D classes w_1 H := by rw [ew_1]; exact hP
  replace hD : va_D (va_A ws sz) w_1 := by rw [ew_1]; exact hD
  have hew_1 : w_1[q]? = some (a4, .inr (iAL, [.int md, .ref ea, .int (nI (n + 1))])) := by rw [ew_1]; exact gx_ss (gx_sn hne he)
  exact gx_vret hx hb hr hlocks hS hP hD (by decide) (by decide) d_AL_add2_22 (⟨ea, ep, cap, va_up ef n (some v), hew_1, by rw [ew_1]; exact gx_sn (Ne.symm hne) (gx_ss ha), Or.inl rfl, hn, hc0, hc1, fun j hj => if_neg (by omega), if_pos rfl, fun j hj hj2 => Or.inl ⟨if_neg hj, hj2⟩, fun k h1 h2 _ => by rw [ew_1, List.getElem?_set_ne (Ne.symm h1), List.getElem?_set_ne (Ne.symm h2)]⟩)

set_option maxRecDepth 100000 in
set_option maxHeartbeats 4000000 in
theorem c_AL_add2G {l : Launch} {s0 : State} {D : va_G} {cI cC cJ cII cO cZ : ClassId} (F : FX l s0 D cI cC cJ cII cO cZ) {ws : va_W} {q a4 ea : Nat} {md : Int32} {n : Nat} {ef : Nat → Option Nat} (he : ws[q]? = some (a4, .inr (iAL, [.int md, .ref ea, .int (nI n)]))) {pk v : Nat} {vs : List Value} (hv : ws[pk]? = some (v, .inr (iLN, vs))) (hpq : pk ≠ q) (sz : Nat) (hc : ((n = 0 ∧ ea = fx_e0 F) ∨ (∃ (ep : Nat), ws[ep]? = some (ea, .inl (cO, n, .inr (.inr (.inr (.inr ef))))) ∧ 10 ≤ n ∧ n ≤ 200 ∧ ∀ i, i < n → ∀ y, ef i = some y → ∃ (k : Nat) (vs : List Value), ws[k]? = some (y, .inr (iLN, vs)))))  : Met l y_AL_add2 [.code y_AL_add2 b_AL_add2 4 none] { frames := 6, cells := 1, slots := 400, locals := 190 } (gx_P s0 D classes ws sz [.ref a4, .ref v, .ref ea, .int (nI n)]) (va_Qv (fun w1 => cb_added cO ws w1 q a4 md n ef v ws.length n) (gx_B D classes ws sz) (va_A ws sz)) 1 400 (va_A ws sz) := by
  refine gx_met (by decide +kernel) (Nat.le_of_ble_eq_true rfl) ?_
  intro p e s m below meth c ls hx hb hr hml hown hlocks hnm hsz hV hP hD hS hA hA0 hl
  have hg := fx_g F hV ([.ref a4, .ref v, .ref ea, .int (nI n)] : List Value).toArray
  have hK := fx_k F hV
  have hn9 := fx_n F hV
  have hl : lv_has ls 4 [(0, .ref a4), (1, .ref v), (2, .ref ea), (3, .int (nI n))] := hl
  refine lv_iload_n hx hb d_AL_add2_0 rfl (lv_at hl 3 rfl) ?_
  refine lv_aload_n hx hb d_AL_add2_1 rfl (lv_at hl 2 rfl) ?_
  rcases hc with ⟨hn0, hea⟩ | ⟨ep, ha, hc0, hc1, hel⟩
  · skip
    have hc : ((n = 0 ∧ ea = fx_e0 F) ∨ (∃ (ep : Nat), ws[ep]? = some (ea, .inl (cO, n, .inr (.inr (.inr (.inr ef))))) ∧ 10 ≤ n ∧ n ≤ 200 ∧ ∀ i, i < n → ∀ y, ef i = some y → ∃ (k : Nat) (vs : List Value), ws[k]? = some (y, .inr (iLN, vs)))) := Or.inl ⟨hn0, hea⟩
    have hlen : n ≤ 200 := by omega
    refine va_tlen hx hb (by rw [hea]; exact fx_et F hV hA0) hS (v := nI n) (by rw [hn0]; rfl) d_AL_add2_2 ?_
    refine lv_icmp_ne (tgt := 11) hx hb d_AL_add2_3 (by decide) (fun c_3 => absurd rfl c_3) (fun c_3 => ?_)
    refine lv_aload_n hx hb d_AL_add2_6 rfl (lv_at hl 0 rfl) ?_
    refine gx_callr (va_runV (As := []) (rest := []) ⟨hx, hb, hml, hown, gx_nil⟩ (c_AL_grow F he _ hc) ⟨gx_cb (hg _ k_403) (hg _ k_5) (hg _ k_400) nd_AL_grow ⟨by decide, by decide⟩, hg _ k_402, hg _ ks_15⟩ (gx_preV hV hP hD hS hA0 (va_recv hK hP rfl (he))) rfl rfl hl.1 rfl (lv_room (Nat.le_of_ble_eq_true rfl)) d_AL_add2_7 ⟨by decide, by decide⟩) hD hS hA (fun r_7 w1 H locs h_7 hP hD hS => ?_)
    obtain ⟨cap', ef', g1, g2, g3, g4, g5, hw⟩ := h_7
    have hw : w1 = (ws ++ ([(r_7, .inl (cO, cap', .inr (.inr (.inr (.inr (ef'))))))] : va_W)).set q (a4, .inr (iAL, [.int md, .ref r_7, .int (nI n)])) := hw
    have hql : q < ws.length := (List.getElem?_eq_some_iff.mp he).1
    have ha2 : w1[ws.length]? = some (r_7, .inl (cO, cap', .inr (.inr (.inr (.inr (ef')))))) := by rw [hw]; exact gx_sn (by omega) (gx_lat _ _)
    have hv2 : w1[pk]? = some (v, .inr (iLN, vs)) := by rw [hw]; exact gx_sn (Ne.symm hpq) (gx_ap hv)
    have he2 : w1[q]? = some (a4, .inr (iAL, [.int md, .ref r_7, .int (nI n)])) := by rw [hw]; exact gx_ss (gx_ap he)
    refine lv_astore_n (lv' := [(2, .ref r_7), (0, .ref a4), (1, .ref v), (3, .int (nI n))]) hx hb d_AL_add2_10 rfl hl (by decide) rfl (fun ls hl => ?_)
    refine lv_aload_n hx hb d_AL_add2_11 rfl (lv_at hl 0 rfl) ?_
    refine lv_iload_n hx hb d_AL_add2_12 rfl (lv_at hl 3 rfl) ?_
    refine lv_aload_n hx hb d_AL_add2_13 rfl (lv_at hl 2 rfl) ?_
    refine va_astqO hx hb hK hP hD hS (r := (R_LN, F_LN, 9)) ws.length 4 pk iLN (ha2) rfl (fx_lo F hV) (hv2) rfl (vp_in_nI (by omega) (by omega)) d_AL_add2_14 (fun H locs hP hD hS => ?_)
    rw [nI_clamp (by omega)] at hP hD
    refine lv_aload_n hx hb d_AL_add2_15 rfl (lv_at hl 1 rfl) ?_
    refine lv_iload_n hx hb d_AL_add2_16 rfl (lv_at hl 3 rfl) ?_
    refine lv_iconst (v := 1) hx hb d_AL_add2_17 (by decide) ?_
    refine lv_iadd hx hb d_AL_add2_18 ?_
    rw [nI_1]
    refine va_put (D := D) (ci := iAL) (v := .int (nI (n + 1))) (ty := .int) (C := R_AL) (T := F_AL) (N := 3) hx hb (fl_AL hg) (fun _ h9 => h9) t_AL t_AL_ok n_AL hown hK hP hD hS q (gx_sn (by omega) he2) rfl 2 (by decide) (hg _ k_74) (fun _ h9 => h9) rfl (by decide +kernel) rfl rfl (Nat.le_of_ble_eq_true rfl) d_AL_add2_19 (fun H locs hP hD hS => ?_)
    obtain ⟨w_1, ew_1⟩ : ∃ x : va_W, x = (w1.set ws.length (r_7, .inl (cO, cap', .inr (.inr (.inr (.inr (va_up ef' n (some v)))))))).set q (a4, .inr (iAL, [.int md, .ref r_7, .int (nI (n + 1))])) := ⟨_, rfl⟩
    replace hP : va_P D classes w_1 H := by rw [ew_1]; exact hP
    replace hD : va_D (va_A ws sz) w_1 := by rw [ew_1]; exact hD
    have hew_1 : w_1[q]? = some (a4, .inr (iAL, [.int md, .ref r_7, .int (nI (n + 1))])) := by rw [ew_1]; exact gx_ss (gx_sn (by omega) he2)
    have hj9 : ∀ j, j ≠ n → j < cap' → (va_up ef' n (some v) j = ef j ∧ j < n) ∨ va_up ef' n (some v) j = none := by
      intro j hj _
      rcases Nat.lt_or_ge j n with z | z
      · exact Or.inl ⟨(if_neg hj).trans (g4 j z), z⟩
      · exact Or.inr ((if_neg hj).trans (g5 j z))
    exact gx_vret hx hb hr hlocks hS hP hD (by decide) (by decide) d_AL_add2_22 (⟨r_7, ws.length, cap', va_up ef' n (some v), hew_1, by rw [ew_1]; exact gx_sn (by omega) (gx_ss ha2), Or.inr rfl, g1, g2, g3, fun j hj => (if_neg (by omega)).trans (g4 j hj), if_pos rfl, hj9, fun k h1 h2 h3 => by rw [ew_1, List.getElem?_set_ne (Ne.symm h1), List.getElem?_set_ne (Ne.symm h2), hw, List.getElem?_set_ne (Ne.symm h1), List.getElem?_append_left h3]⟩)
  · skip
    have hc : ((n = 0 ∧ ea = fx_e0 F) ∨ (∃ (ep : Nat), ws[ep]? = some (ea, .inl (cO, n, .inr (.inr (.inr (.inr ef))))) ∧ 10 ≤ n ∧ n ≤ 200 ∧ ∀ i, i < n → ∀ y, ef i = some y → ∃ (k : Nat) (vs : List Value), ws[k]? = some (y, .inr (iLN, vs)))) := Or.inr ⟨ep, ha, hc0, hc1, hel⟩
    have hlen : n ≤ 200 := hc1
    refine va_alen hx hb hK hP ep 4 ha rfl (v := nI n) rfl d_AL_add2_2 ?_
    refine lv_icmp_ne (tgt := 11) hx hb d_AL_add2_3 (by decide) (fun c_3 => absurd rfl c_3) (fun c_3 => ?_)
    refine lv_aload_n hx hb d_AL_add2_6 rfl (lv_at hl 0 rfl) ?_
    refine gx_callr (va_runV (As := []) (rest := []) ⟨hx, hb, hml, hown, gx_nil⟩ (c_AL_grow F he _ hc) ⟨gx_cb (hg _ k_403) (hg _ k_5) (hg _ k_400) nd_AL_grow ⟨by decide, by decide⟩, hg _ k_402, hg _ ks_15⟩ (gx_preV hV hP hD hS hA0 (va_recv hK hP rfl (he))) rfl rfl hl.1 rfl (lv_room (Nat.le_of_ble_eq_true rfl)) d_AL_add2_7 ⟨by decide, by decide⟩) hD hS hA (fun r_7 w1 H locs h_7 hP hD hS => ?_)
    obtain ⟨cap', ef', g1, g2, g3, g4, g5, hw⟩ := h_7
    have hw : w1 = (ws ++ ([(r_7, .inl (cO, cap', .inr (.inr (.inr (.inr (ef'))))))] : va_W)).set q (a4, .inr (iAL, [.int md, .ref r_7, .int (nI n)])) := hw
    have hql : q < ws.length := (List.getElem?_eq_some_iff.mp he).1
    have ha2 : w1[ws.length]? = some (r_7, .inl (cO, cap', .inr (.inr (.inr (.inr (ef')))))) := by rw [hw]; exact gx_sn (by omega) (gx_lat _ _)
    have hv2 : w1[pk]? = some (v, .inr (iLN, vs)) := by rw [hw]; exact gx_sn (Ne.symm hpq) (gx_ap hv)
    have he2 : w1[q]? = some (a4, .inr (iAL, [.int md, .ref r_7, .int (nI n)])) := by rw [hw]; exact gx_ss (gx_ap he)
    refine lv_astore_n (lv' := [(2, .ref r_7), (0, .ref a4), (1, .ref v), (3, .int (nI n))]) hx hb d_AL_add2_10 rfl hl (by decide) rfl (fun ls hl => ?_)
    refine lv_aload_n hx hb d_AL_add2_11 rfl (lv_at hl 0 rfl) ?_
    refine lv_iload_n hx hb d_AL_add2_12 rfl (lv_at hl 3 rfl) ?_
    refine lv_aload_n hx hb d_AL_add2_13 rfl (lv_at hl 2 rfl) ?_
    refine va_astqO hx hb hK hP hD hS (r := (R_LN, F_LN, 9)) ws.length 4 pk iLN (ha2) rfl (fx_lo F hV) (hv2) rfl (vp_in_nI (by omega) (by omega)) d_AL_add2_14 (fun H locs hP hD hS => ?_)
    rw [nI_clamp (by omega)] at hP hD
    refine lv_aload_n hx hb d_AL_add2_15 rfl (lv_at hl 1 rfl) ?_
    refine lv_iload_n hx hb d_AL_add2_16 rfl (lv_at hl 3 rfl) ?_
    refine lv_iconst (v := 1) hx hb d_AL_add2_17 (by decide) ?_
    refine lv_iadd hx hb d_AL_add2_18 ?_
    rw [nI_1]
    refine va_put (D := D) (ci := iAL) (v := .int (nI (n + 1))) (ty := .int) (C := R_AL) (T := F_AL) (N := 3) hx hb (fl_AL hg) (fun _ h9 => h9) t_AL t_AL_ok n_AL hown hK hP hD hS q (gx_sn (by omega) he2) rfl 2 (by decide) (hg _ k_74) (fun _ h9 => h9) rfl (by decide +kernel) rfl rfl (Nat.le_of_ble_eq_true rfl) d_AL_add2_19 (fun H locs hP hD hS => ?_)
    obtain ⟨w_2, ew_2⟩ : ∃ x : va_W, x = (w1.set ws.length (r_7, .inl (cO, cap', .inr (.inr (.inr (.inr (va_up ef' n (some v)))))))).set q (a4, .inr (iAL, [.int md, .ref r_7, .int (nI (n + 1))])) := ⟨_, rfl⟩
    replace hP : va_P D classes w_2 H := by rw [ew_2]; exact hP
    replace hD : va_D (va_A ws sz) w_2 := by rw [ew_2]; exact hD
    have hew_2 : w_2[q]? = some (a4, .inr (iAL, [.int md, .ref r_7, .int (nI (n + 1))])) := by rw [ew_2]; exact gx_ss (gx_sn (by omega) he2)
    have hj9 : ∀ j, j ≠ n → j < cap' → (va_up ef' n (some v) j = ef j ∧ j < n) ∨ va_up ef' n (some v) j = none := by
      intro j hj _
      rcases Nat.lt_or_ge j n with z | z
      · exact Or.inl ⟨(if_neg hj).trans (g4 j z), z⟩
      · exact Or.inr ((if_neg hj).trans (g5 j z))
    exact gx_vret hx hb hr hlocks hS hP hD (by decide) (by decide) d_AL_add2_22 (⟨r_7, ws.length, cap', va_up ef' n (some v), hew_2, by rw [ew_2]; exact gx_sn (by omega) (gx_ss ha2), Or.inr rfl, g1, g2, g3, fun j hj => (if_neg (by omega)).trans (g4 j hj), if_pos rfl, hj9, fun k h1 h2 h3 => by rw [ew_2, List.getElem?_set_ne (Ne.symm h1), List.getElem?_set_ne (Ne.symm h2), hw, List.getElem?_set_ne (Ne.symm h1), List.getElem?_append_left h3]⟩)

