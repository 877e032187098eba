set_option maxRecDepth 100000 in
set_option maxHeartbeats 4000000 in
theorem c_AL_addN {l : Launch} {s0 : State} {D : va_G} {cI cC cJ cII cO cZ : ClassId} (F : FX l s0 D cI cC cJ cII cO cZ) {ws : va_W} {q a4 ea : Nat} {md : Int32} {n : Nat} {ef : Nat → Option Nat} (he : ws[q]? = some (a4, .inr (iAL, [.int md, .ref ea, .int (nI n)]))) {ep cap : Nat} (ha : ws[ep]? = some (ea, .inl (cO, cap, .inr (.inr (.inr (.inr ef)))))) {pk v : Nat} {vs : List Value} (hv : ws[pk]? = some (v, .inr (iLN, vs))) (hpq : pk ≠ q) (sz : Nat) (hn : n < cap) (hc0 : 10 ≤ cap) (hc1 : cap ≤ 400)  : Met l y_AL_add [.code y_AL_add b_AL_add 2 (some .boolean)] { frames := 7, cells := 1, slots := 400, locals := 220 } (gx_P s0 D classes ws sz [.ref a4, .ref v]) (va_Qi (fun r w1 => r = 1 ∧ ∃ w0, w0 = ws.set q (a4, .inr (iAL, [.int (md + 1), .ref ea, .int (nI n)])) ∧ cb_added cO w0 w1 q a4 (md + 1) n ef v ep cap) (gx_B D classes ws sz) (va_A ws sz)) 1 400 (va_A ws sz) := by
  refine gx_met (by decide +kernel) (Nat.le_of_ble_eq_true rfl) ?_
  intro p e s m below meth c ls hx hb hr hml hown hlocks hnm hsz hV hP hD hS hA hA0 hl
  have hg := fx_g F hV ([.ref a4, .ref v] : List Value).toArray
  have hK := fx_k F hV
  have hn9 := fx_n F hV
  have hl : lv_has ls 2 [(0, .ref a4), (1, .ref v)] := hl
  refine lv_aload_n hx hb d_AL_add_0 rfl (lv_at hl 0 rfl) ?_
  refine lv_dup hx hb d_AL_add_1 rfl ?_
  refine va_get (D := D) (ci := iAL) (v := .int md) (C := R_AL) (T := F_AL) (N := 3) hx hb (fl_AL hg) (fun _ h9 => h9) hown hK hP q (he) rfl 0 (by decide) (hg _ k_76) (fun x9 h9 => u_same (hg _ k_77) x9 h9) rfl d_AL_add_2 ?_
  refine lv_iconst (v := 1) hx hb d_AL_add_5 (by decide) ?_
  refine lv_iadd hx hb d_AL_add_6 ?_
  refine va_put (D := D) (ci := iAL) (v := .int (md + 1)) (ty := .int) (C := R_AL) (T := F_AL) (N := 3) hx hb (fl_AL hg) (fun _ h9 => h9) t_AL t_AL_ok n_AL hown hK hP hD hS q (he) rfl 0 (by decide) (hg _ k_76) (fun x9 h9 => u_same (hg _ k_77) x9 h9) rfl (by decide +kernel) rfl rfl (Nat.le_of_ble_eq_true rfl) d_AL_add_7 (fun H locs hP hD hS => ?_)
  obtain ⟨w_1, ew_1⟩ : ∃ x : va_W, x = ws.set q (a4, .inr (iAL, [.int (md + 1), .ref ea, .int (nI n)])) := ⟨_, rfl⟩
  replace hP : va_P D classes w_1 H := by rw [ew_1]; exact hP
  replace hD : va_D (va_A ws sz) w_1 := by rw [ew_1]; exact hD
  have hew_1 : w_1[q]? = some (a4, .inr (iAL, [.int (md + 1), .ref ea, .int (nI n)])) := by rw [ew_1]; exact gx_ss he
  have hne : q ≠ ep := fun z => by
    rw [← z, he] at ha
    cases ha
  have ha1 : w_1[ep]? = some (ea, .inl (cO, cap, .inr (.inr (.inr (.inr ef))))) := by rw [ew_1]; exact gx_sn hne ha
  have hv1 : w_1[pk]? = some (v, .inr (iLN, vs)) := by rw [ew_1]; exact gx_sn (Ne.symm hpq) hv
  refine lv_aload_n hx hb d_AL_add_10 rfl (lv_at hl 0 rfl) ?_
  refine lv_aload_n hx hb d_AL_add_11 rfl (lv_at hl 1 rfl) ?_
  refine lv_aload_n hx hb d_AL_add_12 rfl (lv_at hl 0 rfl) ?_
  refine va_get (D := D) (ci := iAL) (v := .ref ea) (C := R_AL) (T := F_AL) (N := 3) hx hb (fl_AL hg) (fun _ h9 => h9) hown hK hP q (hew_1) rfl 1 (by decide) (hg _ k_73) (fun _ h9 => h9) rfl d_AL_add_13 ?_
  refine lv_aload_n hx hb d_AL_add_16 rfl (lv_at hl 0 rfl) ?_
  refine va_get (D := D) (ci := iAL) (v := .int (nI n)) (C := R_AL) (T := F_AL) (N := 3) hx hb (fl_AL hg) (fun _ h9 => h9) hown hK hP q (hew_1) rfl 2 (by decide) (hg _ k_74) (fun _ h9 => h9) rfl d_AL_add_17 ?_
  refine gx_callv (va_runV (As := [.ref v, .ref ea, .int (nI n)]) (rest := []) ⟨hx, hb, hml, hown, gx_nil⟩ (c_AL_add2N F hew_1 ha1 hv1 hpq _ hn hc0 hc1) ⟨gx_cb (hg _ k_399) (hg _ k_5) (hg _ k_396) nd_AL_add2 ⟨by decide, by decide⟩, hg _ k_398, hg _ ks_14⟩ (gx_preV hV hP hD hS hA0 (va_recv hK hP rfl (hew_1))) rfl rfl hl.1 rfl (lv_room (Nat.le_of_ble_eq_true rfl)) d_AL_add_20 ⟨by decide, by decide⟩) hD hS hA (fun w1 H locs h_20 hP hD hS => ?_)
  refine lv_iconst (v := 1) hx hb d_AL_add_23 (by decide) ?_
  exact gx_iret hx hb hr hlocks rfl hS hP hD (by decide) (by decide) d_AL_add_24 (⟨rfl, w_1, ew_1, h_20⟩)

set_option maxRecDepth 100000 in
set_option maxHeartbeats 4000000 in
theorem c_AL_addG {l : Launch} {s0 : State} {D : va_G} {cI cC cJ cII cO cZ : ClassId} (F : FX l s0 D cI cC cJ cII cO cZ) {ws : va_W} {q a4 ea : Nat} {md : Int32} {n : Nat} {ef : Nat → Option Nat} (he : ws[q]? = some (a4, .inr (iAL, [.int md, .ref ea, .int (nI n)]))) {pk v : Nat} {vs : List Value} (hv : ws[pk]? = some (v, .inr (iLN, vs))) (hpq : pk ≠ q) (sz : Nat) (hc : ((n = 0 ∧ ea = fx_e0 F) ∨ (∃ (ep : Nat), ws[ep]? = some (ea, .inl (cO, n, .inr (.inr (.inr (.inr ef))))) ∧ 10 ≤ n ∧ n ≤ 200 ∧ ∀ i, i < n → ∀ y, ef i = some y → ∃ (k : Nat) (vs : List Value), ws[k]? = some (y, .inr (iLN, vs)))))  : Met l y_AL_add [.code y_AL_add b_AL_add 2 (some .boolean)] { frames := 7, cells := 1, slots := 400, locals := 220 } (gx_P s0 D classes ws sz [.ref a4, .ref v]) (va_Qi (fun r w1 => r = 1 ∧ ∃ w0, w0 = ws.set q (a4, .inr (iAL, [.int (md + 1), .ref ea, .int (nI n)])) ∧ cb_added cO w0 w1 q a4 (md + 1) n ef v w0.length n) (gx_B D classes ws sz) (va_A ws sz)) 1 400 (va_A ws sz) := by
  refine gx_met (by decide +kernel) (Nat.le_of_ble_eq_true rfl) ?_
  intro p e s m below meth c ls hx hb hr hml hown hlocks hnm hsz hV hP hD hS hA hA0 hl
  have hg := fx_g F hV ([.ref a4, .ref v] : List Value).toArray
  have hK := fx_k F hV
  have hn9 := fx_n F hV
  have hl : lv_has ls 2 [(0, .ref a4), (1, .ref v)] := hl
  refine lv_aload_n hx hb d_AL_add_0 rfl (lv_at hl 0 rfl) ?_
  refine lv_dup hx hb d_AL_add_1 rfl ?_
  refine va_get (D := D) (ci := iAL) (v := .int md) (C := R_AL) (T := F_AL) (N := 3) hx hb (fl_AL hg) (fun _ h9 => h9) hown hK hP q (he) rfl 0 (by decide) (hg _ k_76) (fun x9 h9 => u_same (hg _ k_77) x9 h9) rfl d_AL_add_2 ?_
  refine lv_iconst (v := 1) hx hb d_AL_add_5 (by decide) ?_
  refine lv_iadd hx hb d_AL_add_6 ?_
  refine va_put (D := D) (ci := iAL) (v := .int (md + 1)) (ty := .int) (C := R_AL) (T := F_AL) (N := 3) hx hb (fl_AL hg) (fun _ h9 => h9) t_AL t_AL_ok n_AL hown hK hP hD hS q (he) rfl 0 (by decide) (hg _ k_76) (fun x9 h9 => u_same (hg _ k_77) x9 h9) rfl (by decide +kernel) rfl rfl (Nat.le_of_ble_eq_true rfl) d_AL_add_7 (fun H locs hP hD hS => ?_)
  obtain ⟨w_1, ew_1⟩ : ∃ x : va_W, x = ws.set q (a4, .inr (iAL, [.int (md + 1), .ref ea, .int (nI n)])) := ⟨_, rfl⟩
  replace hP : va_P D classes w_1 H := by rw [ew_1]; exact hP
  replace hD : va_D (va_A ws sz) w_1 := by rw [ew_1]; exact hD
  have hew_1 : w_1[q]? = some (a4, .inr (iAL, [.int (md + 1), .ref ea, .int (nI n)])) := by rw [ew_1]; exact gx_ss he
  have hv1 : w_1[pk]? = some (v, .inr (iLN, vs)) := by rw [ew_1]; exact gx_sn (Ne.symm hpq) hv
  have hc1 : ((n = 0 ∧ ea = fx_e0 F) ∨ (∃ (ep : Nat), w_1[ep]? = some (ea, .inl (cO, n, .inr (.inr (.inr (.inr ef))))) ∧ 10 ≤ n ∧ n ≤ 200 ∧ ∀ i, i < n → ∀ y, ef i = some y → ∃ (k : Nat) (vs : List Value), w_1[k]? = some (y, .inr (iLN, vs)))) := by
    rcases hc with h | ⟨ep, h1, h2, h3, h4⟩
    · exact Or.inl h
    · refine Or.inr ⟨ep, by rw [ew_1]; exact gx_sn (fun z => by rw [← z, he] at h1; cases h1) h1, h2, h3, fun i hi y hy => ?_⟩
      obtain ⟨k, vs9, h5⟩ := h4 i hi y hy
      exact ⟨k, vs9, by rw [ew_1]; exact gx_sn (fun z => by rw [← z, he] at h5; exact absurd (Prod.mk.inj (Sum.inr.inj (Prod.mk.inj (Option.some.inj h5)).2)).1 (by decide)) h5⟩
  refine lv_aload_n hx hb d_AL_add_10 rfl (lv_at hl 0 rfl) ?_
  refine lv_aload_n hx hb d_AL_add_11 rfl (lv_at hl 1 rfl) ?_
  refine lv_aload_n hx hb d_AL_add_12 rfl (lv_at hl 0 rfl) ?_
  refine va_get (D := D) (ci := iAL) (v := .ref ea) (C := R_AL) (T := F_AL) (N := 3) hx hb (fl_AL hg) (fun _ h9 => h9) hown hK hP q (hew_1) rfl 1 (by decide) (hg _ k_73) (fun _ h9 => h9) rfl d_AL_add_13 ?_
  refine lv_aload_n hx hb d_AL_add_16 rfl (lv_at hl 0 rfl) ?_
  refine va_get (D := D) (ci := iAL) (v := .int (nI n)) (C := R_AL) (T := F_AL) (N := 3) hx hb (fl_AL hg) (fun _ h9 => h9) hown hK hP q (hew_1) rfl 2 (by decide) (hg _ k_74) (fun _ h9 => h9) rfl d_AL_add_17 ?_
  refine gx_callv (va_runV (As := [.ref v, .ref ea, .int (nI n)]) (rest := []) ⟨hx, hb, hml, hown, gx_nil⟩ (c_AL_add2G F hew_1 hv1 hpq _ hc1) ⟨gx_cb (hg _ k_399) (hg _ k_5) (hg _ k_396) nd_AL_add2 ⟨by decide, by decide⟩, hg _ k_398, hg _ ks_14⟩ (gx_preV hV hP hD hS hA0 (va_recv hK hP rfl (hew_1))) rfl rfl hl.1 rfl (lv_room (Nat.le_of_ble_eq_true rfl)) d_AL_add_20 ⟨by decide, by decide⟩) hD hS hA (fun w1 H locs h_20 hP hD hS => ?_)
  refine lv_iconst (v := 1) hx hb d_AL_add_23 (by decide) ?_
  exact gx_iret hx hb hr hlocks rfl hS hP hD (by decide) (by decide) d_AL_add_24 (⟨rfl, w_1, ew_1, h_20⟩)

/-- a line is added to the object's list -/
theorem c_AL_addP {l : Launch} {s0 : State} {D : va_G} {cI cC cJ cII cO cZ : ClassId} (F : FX l s0 D cI cC cJ cII cO cZ) {ws : va_W} {κ : Nat → Nat} {ra : Nat → Nat → Nat} {z sg : Nat → Int32} {G : Nat → Nat → Nat → Int32} {we : Nat → Int32} {pd : Nat → Int64} (hI : cb_I cI cC cJ cII ws κ ra z sg G we pd) {nl : Nat} {la lp : Nat → Nat} {li : Nat → Nat → Int32} {ll : Nat → Nat → Int64} (hL : cb_L cO ws (κ 62) (z 5) (fx_e0 F) nl la lp li ll) (sz : Nat) {pk v : Nat} {fi : Nat → Int32} {fl : Nat → Int64} (hv : ws[pk]? = some (v, .inr (iLN, cb_ln fi fl))) (h64 : 64 ≤ pk) (hne : ∀ j, j < nl → lp j ≠ pk) (hnl : nl < 200) : Met l y_AL_add [.code y_AL_add b_AL_add 2 (some .boolean)] { frames := 7, cells := 1, slots := 400, locals := 220 } (gx_P s0 D classes ws sz [.ref (κ 62), .ref v]) (va_Qi (fun r w1 => r = 1 ∧ cb_I cI cC cJ cII w1 κ ra (upd z 5 (z 5 + 1)) sg G we pd ∧ cb_L cO w1 (κ 62) (z 5 + 1) (fx_e0 F) (nl + 1) (cb_upr la nl v) (cb_upr lp nl pk) (cb_upr li nl fi) (cb_upr ll nl fl)) (gx_B D classes ws sz) (va_A ws sz)) 1 400 (va_A ws sz) := by
  obtain ⟨ea, e62, eL, einj, earr⟩ := id hL
  rcases earr with ⟨hn0, hea⟩ | ⟨ep, cap, ef, ea0, ea5, ea6, ea7, ea1, ea2, ea3⟩
  · refine gx_posti (c_AL_addG (ef := fun _ => none) F e62 hv (by omega) sz (Or.inl ⟨hn0, hea⟩)) (fun r w1 q => ?_)
    obtain ⟨q1, w0, q2, q3⟩ := q
    exact ⟨q1, cb_L.add (cx := nl) hI eL einj e62 (fun j hj => absurd hj (by omega)) (fun j hj => absurd hj (by omega)) (Or.inr rfl) hv h64 hne q2 q3⟩
  · rcases Nat.lt_or_ge nl cap with hlt | hge
    · refine gx_posti (c_AL_addN F e62 ea1 hv (by omega) sz hlt ea6 ea7) (fun r w1 q => ?_)
      obtain ⟨q1, w0, q2, q3⟩ := q
      exact ⟨q1, cb_L.add (cx := cap) hI eL einj e62 ea2 ea3 (Or.inl ⟨ea0, _, _, ea1⟩) hv h64 hne q2 q3⟩
    · have hcap : cap = nl := by omega
      rw [hcap] at ea1 ea3 ea6
      refine gx_posti (c_AL_addG F e62 hv (by omega) sz (Or.inr ⟨ep, ea1, ea6, by omega, fun i hi y hy => ?_⟩)) (fun r w1 q => ?_)
      · obtain ⟨k, hk, hy2⟩ := ea3 i hi y hy
        exact ⟨lp k, _, by rw [hy2]; exact (eL k hk).2⟩
      · obtain ⟨q1, w0, q2, q3⟩ := q
        exact ⟨q1, cb_L.add (cx := nl) hI eL einj e62 ea2 ea3 (Or.inr rfl) hv h64 hne q2 q3⟩

