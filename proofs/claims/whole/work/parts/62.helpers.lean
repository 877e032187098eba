set_option maxRecDepth 100000 in
set_option maxHeartbeats 4000000 in
theorem c_LW_tariff {l : Launch} {s0 : State} {D : va_G} {cI cC cJ cII cO cZ : ClassId} (F : FX l s0 D cI cC cJ cII cO cZ) {wc : va_W} {κ : Nat → Nat} {ra : Nat → Nat → Nat} {z sg : Nat → Int32} {G : Nat → Nat → Nat → Int32} {we : Nat → Int32} {pd : Nat → Int64} (hI : cb_I cI cC cJ cII wc κ ra z sg G we pd) {ws : va_W} {o : Nat} {ov : Nat → Int64} (hws : ws = (o, .inl (cJ, 1, .inr (.inl ov))) :: wc) (sz : Nat)  (p0 : Int32) (p1 : Int32)  : Met l y_LW_tariff [.codeWith y_LW_tariff b_LW_tariff 5 (some .int) [(0, 10, 13, 13)]] { frames := 10, cells := 1, slots := 6, locals := 370 } (gx_P s0 D classes ws sz [.ref (κ 0), .int p0, .int p1, .ref o]) (va_Qi (fun r w1 => ∃ (wc9 : va_W) (ov9 : Nat → Int64), w1 = (o, .inl (cJ, 1, .inr (.inl ov9))) :: wc9 ∧ ((r = 0 ∧ wc9 = wc ∧ ∃ v9 : Int32, (fun r => ∃ k j, k < 6 ∧ j < 4 ∧ p0 = nI k ∧ p1 = nI j ∧ r = if (z 3 >>> (nI k &&& 31)) &&& 1 = 1 then G 1 k j else -1) v9 ∧ ov9 = vp_updL ov 0 v9.toInt64) ∨ (r = 1 ∧ (fun E => E = "java/lang/IllegalArgumentException" ∧ ((p0 < 0 ∨ nI 6 ≤ p0) ∨ (p1 < 0 ∨ nI 4 ≤ p1))) "java/lang/IllegalArgumentException" ∧ wc9 = wc ∧ ov9 = ov))) (gx_B D classes ws sz) (va_A ws sz)) 1 6 (va_A ws sz) := by
  refine gx_hmet (by decide +kernel) (Nat.le_of_ble_eq_true rfl) ?_
  intro p e s m below meth c ls hx hb hr hml hown hlocks htab hsz hV hP hD hS hA hA0 hl
  have hg := fx_g F hV ([.ref (κ 0), .int p0, .int p1, .ref o] : List Value).toArray
  have hK := fx_k F hV
  have hn9 := fx_n F hV
  have hl : lv_has ls 5 [(0, .ref (κ 0)), (1, .int p0), (2, .int p1), (3, .ref o)] := hl
  have hPj : va_P D classes ([(o, .inl (cJ, 1, .inr (.inl ov)))] ++ wc) s.heap := by rw [hws] at hP; exact hP
  have hDj : va_D (va_A ws sz) ([(o, .inl (cJ, 1, .inr (.inl ov)))] ++ wc) := by rw [hws] at hD ⊢; exact hD
  refine lv_aload_n hx hb d_LW_tariff_0 rfl (lv_at hl 3 rfl) ?_
  refine lv_iconst (v := 0) hx hb d_LW_tariff_1 (by decide) ?_
  refine lv_aload_n hx hb d_LW_tariff_2 rfl (lv_at hl 0 rfl) ?_
  refine lv_iload_n hx hb d_LW_tariff_3 rfl (lv_at hl 1 rfl) ?_
  refine lv_iload_n hx hb d_LW_tariff_4 rfl (lv_at hl 2 rfl) ?_
  refine gx_xri (wr := [(o, .inl (cJ, 1, .inr (.inl ov)))]) (wc := wc) (As := [.int p0, .int p1]) (rest := [.int 0, .ref o]) ⟨hx, hb, hml, hown, gx_nil⟩ (c_PB_tariff F hI  _  p0 p1 ) ⟨gx_cb (hg _ k_214) (hg _ k_1) (hg _ k_211) nd_PB_tariff ⟨by decide, by decide⟩, hg _ k_212, hg _ k_213⟩ hV hPj hDj hS hA0 (va_recv hK hPj rfl (show ([(o, .inl (cJ, 1, .inr (.inl ov)))] ++ wc)[1]? = _ from hI.1)) rfl hl.1 rfl (Nat.le_of_ble_eq_true rfl) d_LW_tariff_5 ⟨by decide, by decide⟩ (fun r9 h9 => ?_) (fun q9 E9 ce9 H9 hXC hP9 hS9 hce hcv hcl => ?_)
  · skip
    refine lv_i2l (v := r9.toInt64) hx hb d_LW_tariff_8 (rfl) ?_
    refine gx_ls hx hb hK hPj hDj hS 0 2 (show ([(o, .inl (cJ, 1, .inr (.inl ov)))] ++ wc)[0]? = _ from rfl) rfl 0 (by decide) (by decide) (by decide) d_LW_tariff_9 (fun H locs hP hD hS => ?_)
    replace hP : va_P D classes ((o, .inl (cJ, 1, .inr (.inl (vp_updL ov 0 r9.toInt64)))) :: wc) H := hP
    replace hD : va_D (va_A ws sz) ((o, .inl (cJ, 1, .inr (.inl (vp_updL ov 0 r9.toInt64)))) :: wc) := hD
    refine lv_goto (tgt := 17) hx hb d_LW_tariff_10 (by decide) ?_
    refine lv_iconst (v := 0) hx hb d_LW_tariff_17 (by decide) ?_
    exact gx_iret hx hb hr hlocks rfl hS hP hD (by decide) (by decide) d_LW_tariff_18 (⟨_, _, rfl, Or.inl ⟨rfl, rfl, r9, h9, rfl⟩⟩)
  · skip
    have hE : E9 = "java/lang/IllegalArgumentException" := hXC.1
    subst hE
    refine gx_catch1 (x := (⟨0, 10, 13, 13⟩ : ExceptionTableEntry)) (suf := []) hown (by rw [htab]; rfl) (by decide) (by decide) (hg _ k_210) hce hcv hcl (fx_gc2 F hV _ _ kt_217 rfl) ?_
    refine lv_astore (lv' := [(4, .ref q9), (0, .ref (κ 0)), (1, .int p0), (2, .int p1), (3, .ref o)]) hx hb d_LW_tariff_13 hl (by decide) rfl (fun ls hl => ?_)
    refine lv_iconst (v := 1) hx hb d_LW_tariff_15 (by decide) ?_
    exact gx_iret hx hb hr hlocks rfl hS9 hP9 hDj (by decide) (by decide) d_LW_tariff_16 (⟨wc, ov, rfl, Or.inr (⟨rfl, hXC, rfl, rfl⟩)⟩)

set_option maxRecDepth 100000 in
set_option maxHeartbeats 4000000 in
theorem c_LW_event {l : Launch} {s0 : State} {D : va_G} {cI cC cJ cII cO cZ : ClassId} (F : FX l s0 D cI cC cJ cII cO cZ) {wc : va_W} {κ : Nat → Nat} {ra : Nat → Nat → Nat} {z sg : Nat → Int32} {G : Nat → Nat → Nat → Int32} {we : Nat → Int32} {pd : Nat → Int64} (hI : cb_I cI cC cJ cII wc κ ra z sg G we pd) {ws : va_W} {o : Nat} {ov : Nat → Int64} (hws : ws = (o, .inl (cJ, 1, .inr (.inl ov))) :: wc) (sz : Nat)  (p0 : Int32) (p1 : Int32) (p2 : Int32)  : Met l y_LW_event [.codeWith y_LW_event b_LW_event 6 (some .int) [(0, 12, 15, 13), (0, 12, 19, 19)]] { frames := 10, cells := 1, slots := 6, locals := 370 } (gx_P s0 D classes ws sz [.ref (κ 0), .int p0, .int p1, .int p2, .ref o]) (va_Qi (fun r w1 => ∃ (wc9 : va_W) (ov9 : Nat → Int64), w1 = (o, .inl (cJ, 1, .inr (.inl ov9))) :: wc9 ∧ ((r = 0 ∧ ∃ v9 : Int32, (fun r w1 => ∃ k j, k < 10 ∧ j < 6 ∧ p0 = nI k ∧ p1 = nI j ∧ ¬ p2 < 1 ∧ ¬ 50000 < p2 ∧ z 4 < 100 ∧ r = cb_bu p2 (fx_unit j) ∧ cb_I cI cC cJ cII w1 κ ra (upd z 4 (z 4 + 1)) sg (cb_upg G 2 k (upd (G 2 k) j (G 2 k j + cb_bu p2 (fx_unit j)))) (upd we k (we k + 1)) pd ∧ cb_hi wc w1) v9 wc9 ∧ ov9 = vp_updL ov 0 v9.toInt64) ∨ (r = 1 ∧ (fun E => (E = "java/lang/IllegalArgumentException" ∧ ((p0 < 0 ∨ nI 10 ≤ p0) ∨ (p1 < 0 ∨ nI 6 ≤ p1) ∨ p2 < 1 ∨ 50000 < p2)) ∨ (E = "java/lang/IllegalStateException" ∧ ∃ k j, k < 10 ∧ j < 6 ∧ p0 = nI k ∧ p1 = nI j ∧ ¬ p2 < 1 ∧ ¬ 50000 < p2 ∧ ¬ z 4 < 100)) "java/lang/IllegalArgumentException" ∧ wc9 = wc ∧ ov9 = ov) ∨ (r = 2 ∧ (fun E => (E = "java/lang/IllegalArgumentException" ∧ ((p0 < 0 ∨ nI 10 ≤ p0) ∨ (p1 < 0 ∨ nI 6 ≤ p1) ∨ p2 < 1 ∨ 50000 < p2)) ∨ (E = "java/lang/IllegalStateException" ∧ ∃ k j, k < 10 ∧ j < 6 ∧ p0 = nI k ∧ p1 = nI j ∧ ¬ p2 < 1 ∧ ¬ 50000 < p2 ∧ ¬ z 4 < 100)) "java/lang/IllegalStateException" ∧ wc9 = wc ∧ ov9 = ov))) (gx_B D classes ws sz) (va_A ws sz)) 1 6 (va_A ws sz) := by
  refine gx_hmet (by decide +kernel) (Nat.le_of_ble_eq_true rfl) ?_
  intro p e s m below meth c ls hx hb hr hml hown hlocks htab hsz hV hP hD hS hA hA0 hl
  have hg := fx_g F hV ([.ref (κ 0), .int p0, .int p1, .int p2, .ref o] : List Value).toArray
  have hK := fx_k F hV
  have hn9 := fx_n F hV
  have hl : lv_has ls 6 [(0, .ref (κ 0)), (1, .int p0), (2, .int p1), (3, .int p2), (4, .ref o)] := hl
  have hPj : va_P D classes ([(o, .inl (cJ, 1, .inr (.inl ov)))] ++ wc) s.heap := by rw [hws] at hP; exact hP
  have hDj : va_D (va_A ws sz) ([(o, .inl (cJ, 1, .inr (.inl ov)))] ++ wc) := by rw [hws] at hD ⊢; exact hD
  refine lv_aload hx hb d_LW_event_0 (lv_at hl 4 rfl) ?_
  refine lv_iconst (v := 0) hx hb d_LW_event_2 (by decide) ?_
  refine lv_aload_n hx hb d_LW_event_3 rfl (lv_at hl 0 rfl) ?_
  refine lv_iload_n hx hb d_LW_event_4 rfl (lv_at hl 1 rfl) ?_
  refine lv_iload_n hx hb d_LW_event_5 rfl (lv_at hl 2 rfl) ?_
  refine lv_iload_n hx hb d_LW_event_6 rfl (lv_at hl 3 rfl) ?_
  refine gx_xmi (wr := [(o, .inl (cJ, 1, .inr (.inl ov)))]) (wc := wc) (As := [.int p0, .int p1, .int p2]) (rest := [.int 0, .ref o]) ⟨hx, hb, hml, hown, gx_nil⟩ (c_PB_event F hI  _  p0 p1 p2 ) ⟨gx_cb (hg _ k_295) (hg _ k_1) (hg _ k_292) nd_PB_event ⟨by decide, by decide⟩, hg _ k_293, hg _ k_294⟩ hV hPj hDj hS hA hA0 (va_recv hK hPj rfl (show ([(o, .inl (cJ, 1, .inr (.inl ov)))] ++ wc)[1]? = _ from hI.1)) rfl hl.1 rfl (Nat.le_of_ble_eq_true rfl) d_LW_event_7 ⟨by decide, by decide⟩ (fun r9 wc9 H locs h9 hP hD hS => ?_) (fun q9 E9 ce9 H9 hXC hP9 hS9 hce hcv hcl => ?_)
  · skip
    refine lv_i2l (v := r9.toInt64) hx hb d_LW_event_10 (rfl) ?_
    refine gx_ls hx hb hK hP hD hS 0 2 (show ([(o, .inl (cJ, 1, .inr (.inl ov)))] ++ wc9)[0]? = _ from rfl) rfl 0 (by decide) (by decide) (by decide) d_LW_event_11 (fun H locs hP hD hS => ?_)
    replace hP : va_P D classes ((o, .inl (cJ, 1, .inr (.inl (vp_updL ov 0 r9.toInt64)))) :: wc9) H := hP
    replace hD : va_D (va_A ws sz) ((o, .inl (cJ, 1, .inr (.inl (vp_updL ov 0 r9.toInt64)))) :: wc9) := hD
    refine lv_goto (tgt := 23) hx hb d_LW_event_12 (by decide) ?_
    refine lv_iconst (v := 0) hx hb d_LW_event_23 (by decide) ?_
    exact gx_iret hx hb hr hlocks rfl hS hP hD (by decide) (by decide) d_LW_event_24 (⟨_, _, rfl, Or.inl ⟨rfl, r9, h9, rfl⟩⟩)
  · skip
    rcases (show E9 = "java/lang/IllegalArgumentException" ∨ E9 = "java/lang/IllegalStateException" from hXC.imp And.left And.left) with hE | hE
    · skip
      subst hE
      refine gx_catch1 (x := (⟨0, 12, 15, 13⟩ : ExceptionTableEntry)) (suf := [(⟨0, 12, 19, 19⟩ : ExceptionTableEntry)]) hown (by rw [htab]; rfl) (by decide) (by decide) (hg _ k_210) hce hcv hcl (fx_gc2 F hV _ _ kt_217 rfl) ?_
      refine lv_astore (lv' := [(5, .ref q9), (0, .ref (κ 0)), (1, .int p0), (2, .int p1), (3, .int p2), (4, .ref o)]) hx hb d_LW_event_15 hl (by decide) rfl (fun ls hl => ?_)
      refine lv_iconst (v := 1) hx hb d_LW_event_17 (by decide) ?_
      exact gx_iret hx hb hr hlocks rfl hS9 hP9 hDj (by decide) (by decide) d_LW_event_18 (⟨wc, ov, rfl, Or.inr (Or.inl ⟨rfl, hXC, rfl, rfl⟩)⟩)
    · skip
      subst hE
      refine gx_catch2 (n1 := "java/lang/IllegalArgumentException") (x := (⟨0, 12, 15, 13⟩ : ExceptionTableEntry)) (y := (⟨0, 12, 19, 19⟩ : ExceptionTableEntry)) (suf := []) hown (by rw [htab]; rfl) (by decide) (by decide) (by decide) (by decide) (hg _ k_210) (hg _ k_291) hce hcv hcl (fx_nc F hV (by decide +kernel)) (fx_gc2 F hV _ _ kt_300 rfl) ?_
      refine lv_astore (lv' := [(5, .ref q9), (0, .ref (κ 0)), (1, .int p0), (2, .int p1), (3, .int p2), (4, .ref o)]) hx hb d_LW_event_19 hl (by decide) rfl (fun ls hl => ?_)
      refine lv_iconst (v := 2) hx hb d_LW_event_21 (by decide) ?_
      exact gx_iret hx hb hr hlocks rfl hS9 hP9 hDj (by decide) (by decide) d_LW_event_22 (⟨wc, ov, rfl, Or.inr (Or.inr (⟨rfl, hXC, rfl, rfl⟩))⟩)

set_option maxRecDepth 100000 in
set_option maxHeartbeats 4000000 in
theorem c_LW_bill {l : Launch} {s0 : State} {D : va_G} {cI cC cJ cII cO cZ : ClassId} (F : FX l s0 D cI cC cJ cII cO cZ) {wc : va_W} {κ : Nat → Nat} {ra : Nat → Nat → Nat} {z sg : Nat → Int32} {G : Nat → Nat → Nat → Int32} {we : Nat → Int32} {pd : Nat → Int64} (hI : cb_I cI cC cJ cII wc κ ra z sg G we pd) {nl : Nat} {la lp : Nat → Nat} {li : Nat → Nat → Int32} {ll : Nat → Nat → Int64} (hL : cb_L cO wc (κ 62) (z 5) (fx_e0 F) nl la lp li ll) {ws : va_W} {o : Nat} {ov : Nat → Int64} (hws : ws = (o, .inl (cJ, 1, .inr (.inl ov))) :: wc) (sz : Nat) (hnl : nl ≤ 200) (p0 : Int32)  : Met l y_LW_bill [.codeWith y_LW_bill b_LW_bill 4 (some .int) [(0, 9, 12, 13), (0, 9, 15, 19)]] { frames := 10, cells := 13, slots := 2460, locals := 370 } (gx_P s0 D classes ws sz [.ref (κ 0), .int p0, .ref o]) (va_Qi (fun r w1 => ∃ (wc9 : va_W) (ov9 : Nat → Int64), w1 = (o, .inl (cJ, 1, .inr (.inl ov9))) :: wc9 ∧ ((r = 0 ∧ ∃ v9 : Int32, (fun r w1 => ∃ k9, k9 < 10 ∧ p0 = nI k9 ∧ nl + cb_cnt (cb_qq G k9) 6 ≤ 200 ∧ r = nI (cb_cnt (cb_qq G k9) 6) ∧ ∃ (z9 : Nat → Int32) (la9 lp9 : Nat → Nat), (∀ q, q < 4 → z9 q = z q) ∧ z9 4 = z 4 - we k9 ∧ cb_I cI cC cJ cII w1 κ ra z9 sg (cb_upg G 2 k9 (cb_fil (G 2 k9) 0 6)) (upd we k9 0) pd ∧ cb_L cO w1 (κ 62) (z9 5) (fx_e0 F) (cb_BS (z 3) G k9 nl li ll 6).1 la9 lp9 (cb_BS (z 3) G k9 nl li ll 6).2.1 (cb_BS (z 3) G k9 nl li ll 6).2.2) v9 wc9 ∧ ov9 = vp_updL ov 0 v9.toInt64) ∨ (r = 1 ∧ (fun E => (E = "java/lang/IllegalArgumentException" ∧ (p0 < 0 ∨ nI 10 ≤ p0)) ∨ (E = "java/lang/IllegalStateException" ∧ ∃ k9, k9 < 10 ∧ p0 = nI k9 ∧ 200 < nl + cb_cnt (cb_qq G k9) 6)) "java/lang/IllegalArgumentException" ∧ wc9 = wc ∧ ov9 = ov) ∨ (r = 2 ∧ (fun E => (E = "java/lang/IllegalArgumentException" ∧ (p0 < 0 ∨ nI 10 ≤ p0)) ∨ (E = "java/lang/IllegalStateException" ∧ ∃ k9, k9 < 10 ∧ p0 = nI k9 ∧ 200 < nl + cb_cnt (cb_qq G k9) 6)) "java/lang/IllegalStateException" ∧ wc9 = wc ∧ ov9 = ov))) (gx_B D classes ws sz) (va_A ws sz)) 13 2460 (va_A ws sz) := by
  refine gx_hmet (by decide +kernel) (Nat.le_of_ble_eq_true rfl) ?_
  intro p e s m below meth c ls hx hb hr hml hown hlocks htab hsz hV hP hD hS hA hA0 hl
  have hg := fx_g F hV ([.ref (κ 0), .int p0, .ref o] : List Value).toArray
  have hK := fx_k F hV
  have hn9 := fx_n F hV
  have hl : lv_has ls 4 [(0, .ref (κ 0)), (1, .int p0), (2, .ref o)] := hl
  have hPj : va_P D classes ([(o, .inl (cJ, 1, .inr (.inl ov)))] ++ wc) s.heap := by rw [hws] at hP; exact hP
  have hDj : va_D (va_A ws sz) ([(o, .inl (cJ, 1, .inr (.inl ov)))] ++ wc) := by rw [hws] at hD ⊢; exact hD
  refine lv_aload_n hx hb d_LW_bill_0 rfl (lv_at hl 2 rfl) ?_
  refine lv_iconst (v := 0) hx hb d_LW_bill_1 (by decide) ?_
  refine lv_aload_n hx hb d_LW_bill_2 rfl (lv_at hl 0 rfl) ?_
  refine lv_iload_n hx hb d_LW_bill_3 rfl (lv_at hl 1 rfl) ?_
  refine gx_xmi (wr := [(o, .inl (cJ, 1, .inr (.inl ov)))]) (wc := wc) (As := [.int p0]) (rest := [.int 0, .ref o]) ⟨hx, hb, hml, hown, gx_nil⟩ (c_PB_bill F hI hL _ hnl p0 ) ⟨gx_cb (hg _ k_328) (hg _ k_1) (hg _ k_325) nd_PB_bill ⟨by decide, by decide⟩, hg _ k_326, hg _ k_327⟩ hV hPj hDj hS hA hA0 (va_recv hK hPj rfl (show ([(o, .inl (cJ, 1, .inr (.inl ov)))] ++ wc)[1]? = _ from hI.1)) rfl hl.1 rfl (Nat.le_of_ble_eq_true rfl) d_LW_bill_4 ⟨by decide, by decide⟩ (fun r9 wc9 H locs h9 hP hD hS => ?_) (fun q9 E9 ce9 H9 hXC hP9 hS9 hce hcv hcl => ?_)
  · skip
    refine lv_i2l (v := r9.toInt64) hx hb d_LW_bill_7 (rfl) ?_
    refine gx_ls hx hb hK hP hD hS 0 2 (show ([(o, .inl (cJ, 1, .inr (.inl ov)))] ++ wc9)[0]? = _ from rfl) rfl 0 (by decide) (by decide) (by decide) d_LW_bill_8 (fun H locs hP hD hS => ?_)
    replace hP : va_P D classes ((o, .inl (cJ, 1, .inr (.inl (vp_updL ov 0 r9.toInt64)))) :: wc9) H := hP
    replace hD : va_D (va_A ws sz) ((o, .inl (cJ, 1, .inr (.inl (vp_updL ov 0 r9.toInt64)))) :: wc9) := hD
    refine lv_goto (tgt := 18) hx hb d_LW_bill_9 (by decide) ?_
    refine lv_iconst (v := 0) hx hb d_LW_bill_18 (by decide) ?_
    exact gx_iret hx hb hr hlocks rfl hS hP hD (by decide) (by decide) d_LW_bill_19 (⟨_, _, rfl, Or.inl ⟨rfl, r9, h9, rfl⟩⟩)
  · skip
    rcases (show E9 = "java/lang/IllegalArgumentException" ∨ E9 = "java/lang/IllegalStateException" from hXC.imp And.left And.left) with hE | hE
    · skip
      subst hE
      refine gx_catch1 (x := (⟨0, 9, 12, 13⟩ : ExceptionTableEntry)) (suf := [(⟨0, 9, 15, 19⟩ : ExceptionTableEntry)]) hown (by rw [htab]; rfl) (by decide) (by decide) (hg _ k_210) hce hcv hcl (fx_gc2 F hV _ _ kt_217 rfl) ?_
      refine lv_astore_n (lv' := [(3, .ref q9), (0, .ref (κ 0)), (1, .int p0), (2, .ref o)]) hx hb d_LW_bill_12 rfl hl (by decide) rfl (fun ls hl => ?_)
      refine lv_iconst (v := 1) hx hb d_LW_bill_13 (by decide) ?_
      exact gx_iret hx hb hr hlocks rfl hS9 hP9 hDj (by decide) (by decide) d_LW_bill_14 (⟨wc, ov, rfl, Or.inr (Or.inl ⟨rfl, hXC, rfl, rfl⟩)⟩)
    · skip
      subst hE
      refine gx_catch2 (n1 := "java/lang/IllegalArgumentException") (x := (⟨0, 9, 12, 13⟩ : ExceptionTableEntry)) (y := (⟨0, 9, 15, 19⟩ : ExceptionTableEntry)) (suf := []) hown (by rw [htab]; rfl) (by decide) (by decide) (by decide) (by decide) (hg _ k_210) (hg _ k_291) hce hcv hcl (fx_nc F hV (by decide +kernel)) (fx_gc2 F hV _ _ kt_300 rfl) ?_
      refine lv_astore_n (lv' := [(3, .ref q9), (0, .ref (κ 0)), (1, .int p0), (2, .ref o)]) hx hb d_LW_bill_15 rfl hl (by decide) rfl (fun ls hl => ?_)
      refine lv_iconst (v := 2) hx hb d_LW_bill_16 (by decide) ?_
      exact gx_iret hx hb hr hlocks rfl hS9 hP9 hDj (by decide) (by decide) d_LW_bill_17 (⟨wc, ov, rfl, Or.inr (Or.inr (⟨rfl, hXC, rfl, rfl⟩))⟩)

set_option maxRecDepth 100000 in
set_option maxHeartbeats 4000000 in
theorem c_LW_correct {l : Launch} {s0 : State} {D : va_G} {cI cC cJ cII cO cZ : ClassId} (F : FX l s0 D cI cC cJ cII cO cZ) {wc : va_W} {κ : Nat → Nat} {ra : Nat → Nat → Nat} {z sg : Nat → Int32} {G : Nat → Nat → Nat → Int32} {we : Nat → Int32} {pd : Nat → Int64} (hI : cb_I cI cC cJ cII wc κ ra z sg G we pd) {nl : Nat} {la lp : Nat → Nat} {li : Nat → Nat → Int32} {ll : Nat → Nat → Int64} (hL : cb_L cO wc (κ 62) (z 5) (fx_e0 F) nl la lp li ll) {ws : va_W} {o : Nat} {ov : Nat → Int64} (hws : ws = (o, .inl (cJ, 1, .inr (.inl ov))) :: wc) (sz : Nat) (hnl : nl ≤ 200) (hbz : ∀ j, j < nl → li j 6 = 0 ∨ li j 6 = 1) (p0 : Int32) (p1 : Int64)  : Met l y_LW_correct [.codeWith y_LW_correct b_LW_correct 6 (some .int) [(0, 11, 14, 13), (0, 11, 18, 19)]] { frames := 10, cells := 2, slots := 409, locals := 370 } (gx_P s0 D classes ws sz [.ref (κ 0), .int p0, .long p1, .ref o]) (va_Qi (fun r w1 => ∃ (wc9 : va_W) (ov9 : Nat → Int64), w1 = (o, .inl (cJ, 1, .inr (.inl ov9))) :: wc9 ∧ ((r = 0 ∧ ∃ v9 : Int32, (fun r w1 => ∃ t9, t9 < nl ∧ p0 = nI t9 ∧ ¬ p1 < 0 ∧ ¬ 1000000000000 < p1 ∧ nl < 200 ∧ ((r = -1 ∧ (¬ li t9 4 = -1 ∨ ll t9 1 = p1) ∧ w1 = wc) ∨ (r = nI nl ∧ li t9 4 = -1 ∧ ¬ ll t9 1 = p1 ∧ ∃ (la9 lp9 : Nat → Nat), cb_I cI cC cJ cII w1 κ ra (upd z 5 (z 5 + 1)) sg G we pd ∧ cb_L cO w1 (κ 62) (z 5 + 1) (fx_e0 F) (nl + 1) la9 lp9 (cb_upr li nl (upd (cb_mli (li t9 0) (li t9 1) 0 0 (nI t9) 0) 6 (li t9 6))) (cb_upr (cb_upr ll t9 (vp_updL (ll t9) 1 p1)) nl (fun _ => p1 - ll t9 1))))) v9 wc9 ∧ ov9 = vp_updL ov 0 v9.toInt64) ∨ (r = 1 ∧ (fun E => (E = "java/lang/IllegalArgumentException" ∧ ((p0 < 0 ∨ nI nl ≤ p0) ∨ (p1 < 0 ∨ 1000000000000 < p1))) ∨ (E = "java/lang/IllegalStateException" ∧ ∃ t9, t9 < nl ∧ p0 = nI t9 ∧ ¬ p1 < 0 ∧ ¬ 1000000000000 < p1 ∧ ¬ nl < 200)) "java/lang/IllegalArgumentException" ∧ wc9 = wc ∧ ov9 = ov) ∨ (r = 2 ∧ (fun E => (E = "java/lang/IllegalArgumentException" ∧ ((p0 < 0 ∨ nI nl ≤ p0) ∨ (p1 < 0 ∨ 1000000000000 < p1))) ∨ (E = "java/lang/IllegalStateException" ∧ ∃ t9, t9 < nl ∧ p0 = nI t9 ∧ ¬ p1 < 0 ∧ ¬ 1000000000000 < p1 ∧ ¬ nl < 200)) "java/lang/IllegalStateException" ∧ wc9 = wc ∧ ov9 = ov))) (gx_B D classes ws sz) (va_A ws sz)) 2 409 (va_A ws sz) := by
  refine gx_hmet (by decide +kernel) (Nat.le_of_ble_eq_true rfl) ?_
  intro p e s m below meth c ls hx hb hr hml hown hlocks htab hsz hV hP hD hS hA hA0 hl
  have hg := fx_g F hV ([.ref (κ 0), .int p0, .long p1, .ref o] : List Value).toArray
  have hK := fx_k F hV
  have hn9 := fx_n F hV
  have hl : lv_has ls 6 [(0, .ref (κ 0)), (1, .int p0), (2, .long p1), (4, .ref o)] := hl
  have hPj : va_P D classes ([(o, .inl (cJ, 1, .inr (.inl ov)))] ++ wc) s.heap := by rw [hws] at hP; exact hP
  have hDj : va_D (va_A ws sz) ([(o, .inl (cJ, 1, .inr (.inl ov)))] ++ wc) := by rw [hws] at hD ⊢; exact hD
  refine lv_aload hx hb d_LW_correct_0 (lv_at hl 3 rfl) ?_
  refine lv_iconst (v := 0) hx hb d_LW_correct_2 (by decide) ?_
  refine lv_aload_n hx hb d_LW_correct_3 rfl (lv_at hl 0 rfl) ?_
  refine lv_iload_n hx hb d_LW_correct_4 rfl (lv_at hl 1 rfl) ?_
  refine lv_lload_n hx hb d_LW_correct_5 rfl (lv_at hl 2 rfl) ?_
  refine gx_xmi (wr := [(o, .inl (cJ, 1, .inr (.inl ov)))]) (wc := wc) (As := [.int p0, .long p1]) (rest := [.int 0, .ref o]) ⟨hx, hb, hml, hown, gx_nil⟩ (c_PB_correct F hI hL _ hnl hbz p0 p1 ) ⟨gx_cb (hg _ k_454) (hg _ k_1) (hg _ k_451) nd_PB_correct ⟨by decide, by decide⟩, hg _ k_452, hg _ k_453⟩ hV hPj hDj hS hA hA0 (va_recv hK hPj rfl (show ([(o, .inl (cJ, 1, .inr (.inl ov)))] ++ wc)[1]? = _ from hI.1)) rfl hl.1 rfl (Nat.le_of_ble_eq_true rfl) d_LW_correct_6 ⟨by decide, by decide⟩ (fun r9 wc9 H locs h9 hP hD hS => ?_) (fun q9 E9 ce9 H9 hXC hP9 hS9 hce hcv hcl => ?_)
  · skip
    refine lv_i2l (v := r9.toInt64) hx hb d_LW_correct_9 (rfl) ?_
    refine gx_ls hx hb hK hP hD hS 0 2 (show ([(o, .inl (cJ, 1, .inr (.inl ov)))] ++ wc9)[0]? = _ from rfl) rfl 0 (by decide) (by decide) (by decide) d_LW_correct_10 (fun H locs hP hD hS => ?_)
    replace hP : va_P D classes ((o, .inl (cJ, 1, .inr (.inl (vp_updL ov 0 r9.toInt64)))) :: wc9) H := hP
    replace hD : va_D (va_A ws sz) ((o, .inl (cJ, 1, .inr (.inl (vp_updL ov 0 r9.toInt64)))) :: wc9) := hD
    refine lv_goto (tgt := 22) hx hb d_LW_correct_11 (by decide) ?_
    refine lv_iconst (v := 0) hx hb d_LW_correct_22 (by decide) ?_
    exact gx_iret hx hb hr hlocks rfl hS hP hD (by decide) (by decide) d_LW_correct_23 (⟨_, _, rfl, Or.inl ⟨rfl, r9, h9, rfl⟩⟩)
  · skip
    rcases (show E9 = "java/lang/IllegalArgumentException" ∨ E9 = "java/lang/IllegalStateException" from hXC.imp And.left And.left) with hE | hE
    · skip
      subst hE
      refine gx_catch1 (x := (⟨0, 11, 14, 13⟩ : ExceptionTableEntry)) (suf := [(⟨0, 11, 18, 19⟩ : ExceptionTableEntry)]) hown (by rw [htab]; rfl) (by decide) (by decide) (hg _ k_210) hce hcv hcl (fx_gc2 F hV _ _ kt_217 rfl) ?_
      refine lv_astore (lv' := [(5, .ref q9), (0, .ref (κ 0)), (1, .int p0), (2, .long p1), (4, .ref o)]) hx hb d_LW_correct_14 hl (by decide) rfl (fun ls hl => ?_)
      refine lv_iconst (v := 1) hx hb d_LW_correct_16 (by decide) ?_
      exact gx_iret hx hb hr hlocks rfl hS9 hP9 hDj (by decide) (by decide) d_LW_correct_17 (⟨wc, ov, rfl, Or.inr (Or.inl ⟨rfl, hXC, rfl, rfl⟩)⟩)
    · skip
      subst hE
      refine gx_catch2 (n1 := "java/lang/IllegalArgumentException") (x := (⟨0, 11, 14, 13⟩ : ExceptionTableEntry)) (y := (⟨0, 11, 18, 19⟩ : ExceptionTableEntry)) (suf := []) hown (by rw [htab]; rfl) (by decide) (by decide) (by decide) (by decide) (hg _ k_210) (hg _ k_291) hce hcv hcl (fx_nc F hV (by decide +kernel)) (fx_gc2 F hV _ _ kt_300 rfl) ?_
      refine lv_astore (lv' := [(5, .ref q9), (0, .ref (κ 0)), (1, .int p0), (2, .long p1), (4, .ref o)]) hx hb d_LW_correct_18 hl (by decide) rfl (fun ls hl => ?_)
      refine lv_iconst (v := 2) hx hb d_LW_correct_20 (by decide) ?_
      exact gx_iret hx hb hr hlocks rfl hS9 hP9 hDj (by decide) (by decide) d_LW_correct_21 (⟨wc, ov, rfl, Or.inr (Or.inr (⟨rfl, hXC, rfl, rfl⟩))⟩)

set_option maxRecDepth 100000 in
set_option maxHeartbeats 4000000 in
theorem c_LW_dispute {l : Launch} {s0 : State} {D : va_G} {cI cC cJ cII cO cZ : ClassId} (F : FX l s0 D cI cC cJ cII cO cZ) {wc : va_W} {κ : Nat → Nat} {ra : Nat → Nat → Nat} {z sg : Nat → Int32} {G : Nat → Nat → Nat → Int32} {we : Nat → Int32} {pd : Nat → Int64} (hI : cb_I cI cC cJ cII wc κ ra z sg G we pd) {nl : Nat} {la lp : Nat → Nat} {li : Nat → Nat → Int32} {ll : Nat → Nat → Int64} (hL : cb_L cO wc (κ 62) (z 5) (fx_e0 F) nl la lp li ll) {ws : va_W} {o : Nat} {ov : Nat → Int64} (hws : ws = (o, .inl (cJ, 1, .inr (.inl ov))) :: wc) (sz : Nat) (hnl : nl ≤ 200) (p0 : Int32) (p1 : Int32) (hb01 : p1 = 0 ∨ p1 = 1) : Met l y_LW_dispute [.codeWith y_LW_dispute b_LW_dispute 5 (some .int) [(0, 10, 13, 13)]] { frames := 10, cells := 1, slots := 6, locals := 370 } (gx_P s0 D classes ws sz [.ref (κ 0), .int p0, .int p1, .ref o]) (va_Qi (fun r w1 => ∃ (wc9 : va_W) (ov9 : Nat → Int64), w1 = (o, .inl (cJ, 1, .inr (.inl ov9))) :: wc9 ∧ ((r = 0 ∧ ∃ v9 : Int32, (fun r w1 => ∃ t9, t9 < nl ∧ p0 = nI t9 ∧ ((r = 0 ∧ (¬ li t9 4 = -1 ∨ li t9 6 = p1) ∧ w1 = wc) ∨ (r = 1 ∧ li t9 4 = -1 ∧ ¬ li t9 6 = p1 ∧ cb_I cI cC cJ cII w1 κ ra z sg G we pd ∧ cb_L cO w1 (κ 62) (z 5) (fx_e0 F) nl la lp (cb_dsp li t9 p1 nl) ll))) v9 wc9 ∧ ov9 = vp_updL ov 0 v9.toInt64) ∨ (r = 1 ∧ (fun E => E = "java/lang/IllegalArgumentException" ∧ (p0 < 0 ∨ nI nl ≤ p0)) "java/lang/IllegalArgumentException" ∧ wc9 = wc ∧ ov9 = ov))) (gx_B D classes ws sz) (va_A ws sz)) 1 6 (va_A ws sz) := by
  refine gx_hmet (by decide +kernel) (Nat.le_of_ble_eq_true rfl) ?_
  intro p e s m below meth c ls hx hb hr hml hown hlocks htab hsz hV hP hD hS hA hA0 hl
  have hg := fx_g F hV ([.ref (κ 0), .int p0, .int p1, .ref o] : List Value).toArray
  have hK := fx_k F hV
  have hn9 := fx_n F hV
  have hl : lv_has ls 5 [(0, .ref (κ 0)), (1, .int p0), (2, .int p1), (3, .ref o)] := hl
  have hPj : va_P D classes ([(o, .inl (cJ, 1, .inr (.inl ov)))] ++ wc) s.heap := by rw [hws] at hP; exact hP
  have hDj : va_D (va_A ws sz) ([(o, .inl (cJ, 1, .inr (.inl ov)))] ++ wc) := by rw [hws] at hD ⊢; exact hD
  refine lv_aload_n hx hb d_LW_dispute_0 rfl (lv_at hl 3 rfl) ?_
  refine lv_iconst (v := 0) hx hb d_LW_dispute_1 (by decide) ?_
  refine lv_aload_n hx hb d_LW_dispute_2 rfl (lv_at hl 0 rfl) ?_
  refine lv_iload_n hx hb d_LW_dispute_3 rfl (lv_at hl 1 rfl) ?_
  refine lv_iload_n hx hb d_LW_dispute_4 rfl (lv_at hl 2 rfl) ?_
  refine gx_xmi (wr := [(o, .inl (cJ, 1, .inr (.inl ov)))]) (wc := wc) (As := [.int p0, .int p1]) (rest := [.int 0, .ref o]) ⟨hx, hb, hml, hown, gx_nil⟩ (c_PB_dispute F hI hL _ hnl p0 p1 hb01) ⟨gx_cb (hg _ k_472) (hg _ k_1) (hg _ k_469) nd_PB_dispute ⟨by decide, by decide⟩, hg _ k_470, hg _ k_471⟩ hV hPj hDj hS hA hA0 (va_recv hK hPj rfl (show ([(o, .inl (cJ, 1, .inr (.inl ov)))] ++ wc)[1]? = _ from hI.1)) rfl hl.1 rfl (Nat.le_of_ble_eq_true rfl) d_LW_dispute_5 ⟨by decide, by decide⟩ (fun r9 wc9 H locs h9 hP hD hS => ?_) (fun q9 E9 ce9 H9 hXC hP9 hS9 hce hcv hcl => ?_)
  · skip
    refine lv_i2l (v := r9.toInt64) hx hb d_LW_dispute_8 (rfl) ?_
    refine gx_ls hx hb hK hP hD hS 0 2 (show ([(o, .inl (cJ, 1, .inr (.inl ov)))] ++ wc9)[0]? = _ from rfl) rfl 0 (by decide) (by decide) (by decide) d_LW_dispute_9 (fun H locs hP hD hS => ?_)
    replace hP : va_P D classes ((o, .inl (cJ, 1, .inr (.inl (vp_updL ov 0 r9.toInt64)))) :: wc9) H := hP
    replace hD : va_D (va_A ws sz) ((o, .inl (cJ, 1, .inr (.inl (vp_updL ov 0 r9.toInt64)))) :: wc9) := hD
    refine lv_goto (tgt := 17) hx hb d_LW_dispute_10 (by decide) ?_
    refine lv_iconst (v := 0) hx hb d_LW_dispute_17 (by decide) ?_
    exact gx_iret hx hb hr hlocks rfl hS hP hD (by decide) (by decide) d_LW_dispute_18 (⟨_, _, rfl, Or.inl ⟨rfl, r9, h9, rfl⟩⟩)
  · skip
    have hE : E9 = "java/lang/IllegalArgumentException" := hXC.1
    subst hE
    refine gx_catch1 (x := (⟨0, 10, 13, 13⟩ : ExceptionTableEntry)) (suf := []) hown (by rw [htab]; rfl) (by decide) (by decide) (hg _ k_210) hce hcv hcl (fx_gc2 F hV _ _ kt_217 rfl) ?_
    refine lv_astore (lv' := [(4, .ref q9), (0, .ref (κ 0)), (1, .int p0), (2, .int p1), (3, .ref o)]) hx hb d_LW_dispute_13 hl (by decide) rfl (fun ls hl => ?_)
    refine lv_iconst (v := 1) hx hb d_LW_dispute_15 (by decide) ?_
    exact gx_iret hx hb hr hlocks rfl hS9 hP9 hDj (by decide) (by decide) d_LW_dispute_16 (⟨wc, ov, rfl, Or.inr (⟨rfl, hXC, rfl, rfl⟩)⟩)

set_option maxRecDepth 100000 in
set_option maxHeartbeats 4000000 in
theorem c_LW_pay {l : Launch} {s0 : State} {D : va_G} {cI cC cJ cII cO cZ : ClassId} (F : FX l s0 D cI cC cJ cII cO cZ) {wc : va_W} {κ : Nat → Nat} {ra : Nat → Nat → Nat} {z sg : Nat → Int32} {G : Nat → Nat → Nat → Int32} {we : Nat → Int32} {pd : Nat → Int64} (hI : cb_I cI cC cJ cII wc κ ra z sg G we pd) {nl : Nat} {la lp : Nat → Nat} {li : Nat → Nat → Int32} {ll : Nat → Nat → Int64} (hL : cb_L cO wc (κ 62) (z 5) (fx_e0 F) nl la lp li ll) {ws : va_W} {o : Nat} {ov : Nat → Int64} (hws : ws = (o, .inl (cJ, 1, .inr (.inl ov))) :: wc) (sz : Nat) (hnl : nl ≤ 200) (p0 : Int32) (p1 : Int64)  : Met l y_LW_pay [.codeWith y_LW_pay b_LW_pay 6 (some .int) [(0, 10, 13, 13)]] { frames := 10, cells := 1, slots := 6, locals := 370 } (gx_P s0 D classes ws sz [.ref (κ 0), .int p0, .long p1, .ref o]) (va_Qi (fun r w1 => ∃ (wc9 : va_W) (ov9 : Nat → Int64), w1 = (o, .inl (cJ, 1, .inr (.inl ov9))) :: wc9 ∧ ((r = 0 ∧ ∃ v9 : Int64, (fun r w1 => ∃ k, k < 10 ∧ p0 = nI k ∧ ¬ p1 < 1 ∧ ¬ 1000000000000 < p1 ∧ r = cb_ow (nI k) li ll (-(vp_updL pd k (pd k + p1) k)) nl ∧ cb_I cI cC cJ cII w1 κ ra z sg G we (vp_updL pd k (pd k + p1)) ∧ cb_hi wc w1) v9 wc9 ∧ ov9 = vp_updL ov 0 v9) ∨ (r = 1 ∧ (fun E => E = "java/lang/IllegalArgumentException" ∧ ((p0 < 0 ∨ nI 10 ≤ p0) ∨ (p1 < 1 ∨ 1000000000000 < p1))) "java/lang/IllegalArgumentException" ∧ wc9 = wc ∧ ov9 = ov))) (gx_B D classes ws sz) (va_A ws sz)) 1 6 (va_A ws sz) := by
  refine gx_hmet (by decide +kernel) (Nat.le_of_ble_eq_true rfl) ?_
  intro p e s m below meth c ls hx hb hr hml hown hlocks htab hsz hV hP hD hS hA hA0 hl
  have hg := fx_g F hV ([.ref (κ 0), .int p0, .long p1, .ref o] : List Value).toArray
  have hK := fx_k F hV
  have hn9 := fx_n F hV
  have hl : lv_has ls 6 [(0, .ref (κ 0)), (1, .int p0), (2, .long p1), (4, .ref o)] := hl
  have hPj : va_P D classes ([(o, .inl (cJ, 1, .inr (.inl ov)))] ++ wc) s.heap := by rw [hws] at hP; exact hP
  have hDj : va_D (va_A ws sz) ([(o, .inl (cJ, 1, .inr (.inl ov)))] ++ wc) := by rw [hws] at hD ⊢; exact hD
  refine lv_aload hx hb d_LW_pay_0 (lv_at hl 3 rfl) ?_
  refine lv_iconst (v := 0) hx hb d_LW_pay_2 (by decide) ?_
  refine lv_aload_n hx hb d_LW_pay_3 rfl (lv_at hl 0 rfl) ?_
  refine lv_iload_n hx hb d_LW_pay_4 rfl (lv_at hl 1 rfl) ?_
  refine lv_lload_n hx hb d_LW_pay_5 rfl (lv_at hl 2 rfl) ?_
  refine gx_xml (wr := [(o, .inl (cJ, 1, .inr (.inl ov)))]) (wc := wc) (As := [.int p0, .long p1]) (rest := [.int 0, .ref o]) ⟨hx, hb, hml, hown, gx_nil⟩ (c_PB_pay F hI hL _ hnl p0 p1 ) ⟨gx_cb (hg _ k_480) (hg _ k_1) (hg _ k_477) nd_PB_pay ⟨by decide, by decide⟩, hg _ k_478, hg _ k_479⟩ hV hPj hDj hS hA hA0 (va_recv hK hPj rfl (show ([(o, .inl (cJ, 1, .inr (.inl ov)))] ++ wc)[1]? = _ from hI.1)) rfl hl.1 rfl (Nat.le_of_ble_eq_true rfl) d_LW_pay_6 ⟨by decide, by decide⟩ (fun r9 wc9 H locs h9 hP hD hS => ?_) (fun q9 E9 ce9 H9 hXC hP9 hS9 hce hcv hcl => ?_)
  · skip
    refine gx_ls hx hb hK hP hD hS 0 2 (show ([(o, .inl (cJ, 1, .inr (.inl ov)))] ++ wc9)[0]? = _ from rfl) rfl 0 (by decide) (by decide) (by decide) d_LW_pay_9 (fun H locs hP hD hS => ?_)
    replace hP : va_P D classes ((o, .inl (cJ, 1, .inr (.inl (vp_updL ov 0 r9)))) :: wc9) H := hP
    replace hD : va_D (va_A ws sz) ((o, .inl (cJ, 1, .inr (.inl (vp_updL ov 0 r9)))) :: wc9) := hD
    refine lv_goto (tgt := 17) hx hb d_LW_pay_10 (by decide) ?_
    refine lv_iconst (v := 0) hx hb d_LW_pay_17 (by decide) ?_
    exact gx_iret hx hb hr hlocks rfl hS hP hD (by decide) (by decide) d_LW_pay_18 (⟨_, _, rfl, Or.inl ⟨rfl, r9, h9, rfl⟩⟩)
  · skip
    have hE : E9 = "java/lang/IllegalArgumentException" := hXC.1
    subst hE
    refine gx_catch1 (x := (⟨0, 10, 13, 13⟩ : ExceptionTableEntry)) (suf := []) hown (by rw [htab]; rfl) (by decide) (by decide) (hg _ k_210) hce hcv hcl (fx_gc2 F hV _ _ kt_217 rfl) ?_
    refine lv_astore (lv' := [(5, .ref q9), (0, .ref (κ 0)), (1, .int p0), (2, .long p1), (4, .ref o)]) hx hb d_LW_pay_13 hl (by decide) rfl (fun ls hl => ?_)
    refine lv_iconst (v := 1) hx hb d_LW_pay_15 (by decide) ?_
    exact gx_iret hx hb hr hlocks rfl hS9 hP9 hDj (by decide) (by decide) d_LW_pay_16 (⟨wc, ov, rfl, Or.inr (⟨rfl, hXC, rfl, rfl⟩)⟩)

set_option maxRecDepth 100000 in
set_option maxHeartbeats 4000000 in
theorem c_LW_unpaid {l : Launch} {s0 : State} {D : va_G} {cI cC cJ cII cO cZ : ClassId} (F : FX l s0 D cI cC cJ cII cO cZ) {wc : va_W} {κ : Nat → Nat} {ra : Nat → Nat → Nat} {z sg : Nat → Int32} {G : Nat → Nat → Nat → Int32} {we : Nat → Int32} {pd : Nat → Int64} (hI : cb_I cI cC cJ cII wc κ ra z sg G we pd) {nl : Nat} {la lp : Nat → Nat} {li : Nat → Nat → Int32} {ll : Nat → Nat → Int64} (hL : cb_L cO wc (κ 62) (z 5) (fx_e0 F) nl la lp li ll) {ws : va_W} {o : Nat} {ov : Nat → Int64} (hws : ws = (o, .inl (cJ, 1, .inr (.inl ov))) :: wc) (sz : Nat) (hnl : nl ≤ 200) (p0 : Int32)  : Met l y_LW_unpaid [.codeWith y_LW_unpaid b_LW_unpaid 4 (some .int) [(0, 8, 11, 13)]] { frames := 10, cells := 1, slots := 6, locals := 370 } (gx_P s0 D classes ws sz [.ref (κ 0), .int p0, .ref o]) (va_Qi (fun r w1 => ∃ (wc9 : va_W) (ov9 : Nat → Int64), w1 = (o, .inl (cJ, 1, .inr (.inl ov9))) :: wc9 ∧ ((r = 0 ∧ wc9 = wc ∧ ∃ v9 : Int64, (fun r => ∃ k, k < 10 ∧ p0 = nI k ∧ r = cb_ow (nI k) li ll (-(pd k)) nl) v9 ∧ ov9 = vp_updL ov 0 v9) ∨ (r = 1 ∧ (fun E => E = "java/lang/IllegalArgumentException" ∧ (p0 < 0 ∨ nI 10 ≤ p0)) "java/lang/IllegalArgumentException" ∧ wc9 = wc ∧ ov9 = ov))) (gx_B D classes ws sz) (va_A ws sz)) 1 6 (va_A ws sz) := by
  refine gx_hmet (by decide +kernel) (Nat.le_of_ble_eq_true rfl) ?_
  intro p e s m below meth c ls hx hb hr hml hown hlocks htab hsz hV hP hD hS hA hA0 hl
  have hg := fx_g F hV ([.ref (κ 0), .int p0, .ref o] : List Value).toArray
  have hK := fx_k F hV
  have hn9 := fx_n F hV
  have hl : lv_has ls 4 [(0, .ref (κ 0)), (1, .int p0), (2, .ref o)] := hl
  have hPj : va_P D classes ([(o, .inl (cJ, 1, .inr (.inl ov)))] ++ wc) s.heap := by rw [hws] at hP; exact hP
  have hDj : va_D (va_A ws sz) ([(o, .inl (cJ, 1, .inr (.inl ov)))] ++ wc) := by rw [hws] at hD ⊢; exact hD
  refine lv_aload_n hx hb d_LW_unpaid_0 rfl (lv_at hl 2 rfl) ?_
  refine lv_iconst (v := 0) hx hb d_LW_unpaid_1 (by decide) ?_
  refine lv_aload_n hx hb d_LW_unpaid_2 rfl (lv_at hl 0 rfl) ?_
  refine lv_iload_n hx hb d_LW_unpaid_3 rfl (lv_at hl 1 rfl) ?_
  refine gx_xrl (wr := [(o, .inl (cJ, 1, .inr (.inl ov)))]) (wc := wc) (As := [.int p0]) (rest := [.int 0, .ref o]) ⟨hx, hb, hml, hown, gx_nil⟩ (c_PB_unpaid F hI hL _ hnl p0 ) ⟨gx_cb (hg _ k_492) (hg _ k_1) (hg _ k_489) nd_PB_unpaid ⟨by decide, by decide⟩, hg _ k_490, hg _ k_491⟩ hV hPj hDj hS hA0 (va_recv hK hPj rfl (show ([(o, .inl (cJ, 1, .inr (.inl ov)))] ++ wc)[1]? = _ from hI.1)) rfl hl.1 rfl (Nat.le_of_ble_eq_true rfl) d_LW_unpaid_4 ⟨by decide, by decide⟩ (fun r9 h9 => ?_) (fun q9 E9 ce9 H9 hXC hP9 hS9 hce hcv hcl => ?_)
  · skip
    refine gx_ls hx hb hK hPj hDj hS 0 2 (show ([(o, .inl (cJ, 1, .inr (.inl ov)))] ++ wc)[0]? = _ from rfl) rfl 0 (by decide) (by decide) (by decide) d_LW_unpaid_7 (fun H locs hP hD hS => ?_)
    replace hP : va_P D classes ((o, .inl (cJ, 1, .inr (.inl (vp_updL ov 0 r9)))) :: wc) H := hP
    replace hD : va_D (va_A ws sz) ((o, .inl (cJ, 1, .inr (.inl (vp_updL ov 0 r9)))) :: wc) := hD
    refine lv_goto (tgt := 14) hx hb d_LW_unpaid_8 (by decide) ?_
    refine lv_iconst (v := 0) hx hb d_LW_unpaid_14 (by decide) ?_
    exact gx_iret hx hb hr hlocks rfl hS hP hD (by decide) (by decide) d_LW_unpaid_15 (⟨_, _, rfl, Or.inl ⟨rfl, rfl, r9, h9, rfl⟩⟩)
  · skip
    have hE : E9 = "java/lang/IllegalArgumentException" := hXC.1
    subst hE
    refine gx_catch1 (x := (⟨0, 8, 11, 13⟩ : ExceptionTableEntry)) (suf := []) hown (by rw [htab]; rfl) (by decide) (by decide) (hg _ k_210) hce hcv hcl (fx_gc2 F hV _ _ kt_217 rfl) ?_
    refine lv_astore_n (lv' := [(3, .ref q9), (0, .ref (κ 0)), (1, .int p0), (2, .ref o)]) hx hb d_LW_unpaid_11 rfl hl (by decide) rfl (fun ls hl => ?_)
    refine lv_iconst (v := 1) hx hb d_LW_unpaid_12 (by decide) ?_
    exact gx_iret hx hb hr hlocks rfl hS9 hP9 hDj (by decide) (by decide) d_LW_unpaid_13 (⟨wc, ov, rfl, Or.inr (⟨rfl, hXC, rfl, rfl⟩)⟩)

set_option maxRecDepth 100000 in
set_option maxHeartbeats 4000000 in
theorem c_LW_share {l : Launch} {s0 : State} {D : va_G} {cI cC cJ cII cO cZ : ClassId} (F : FX l s0 D cI cC cJ cII cO cZ) {wc : va_W} {κ : Nat → Nat} {ra : Nat → Nat → Nat} {z sg : Nat → Int32} {G : Nat → Nat → Nat → Int32} {we : Nat → Int32} {pd : Nat → Int64} (hI : cb_I cI cC cJ cII wc κ ra z sg G we pd) {ws : va_W} {o : Nat} {ov : Nat → Int64} (hws : ws = (o, .inl (cJ, 1, .inr (.inl ov))) :: wc) (sz : Nat)  (p0 : Int64) (p1 : Int32) (p2 : Int32)  : Met l y_LW_share [.codeWith y_LW_share b_LW_share 7 (some .int) [(0, 12, 15, 13), (0, 12, 19, 45)]] { frames := 10, cells := 1, slots := 6, locals := 370 } (gx_P s0 D classes ws sz [.ref (κ 0), .long p0, .int p1, .int p2, .ref o]) (va_Qi (fun r w1 => ∃ (wc9 : va_W) (ov9 : Nat → Int64), w1 = (o, .inl (cJ, 1, .inr (.inl ov9))) :: wc9 ∧ ((r = 0 ∧ wc9 = wc ∧ ∃ v9 : Int64, (fun r => ¬ p0 < 0 ∧ ¬ 1000000000000 < p0 ∧ ∃ k j, k ≤ 1000000 ∧ j ≤ 1000000 ∧ p1 = nI k ∧ p2 = nI j ∧ ¬ nI j = 0 ∧ r = cb_quo (p0 * (nI k).toInt64) (nI j).toInt64) v9 ∧ ov9 = vp_updL ov 0 v9) ∨ (r = 1 ∧ (fun E => (E = "java/lang/IllegalArgumentException" ∧ ((p0 < 0 ∨ 1000000000000 < p0) ∨ (p1 < 0 ∨ nI 1000000 < p1) ∨ (p2 < 0 ∨ nI 1000000 < p2))) ∨ (E = "java/lang/ArithmeticException" ∧ ¬ p0 < 0 ∧ ¬ 1000000000000 < p0 ∧ ∃ k j, k ≤ 1000000 ∧ j ≤ 1000000 ∧ p1 = nI k ∧ p2 = nI j ∧ nI j = 0)) "java/lang/IllegalArgumentException" ∧ wc9 = wc ∧ ov9 = ov) ∨ (r = 2 ∧ (fun E => (E = "java/lang/IllegalArgumentException" ∧ ((p0 < 0 ∨ 1000000000000 < p0) ∨ (p1 < 0 ∨ nI 1000000 < p1) ∨ (p2 < 0 ∨ nI 1000000 < p2))) ∨ (E = "java/lang/ArithmeticException" ∧ ¬ p0 < 0 ∧ ¬ 1000000000000 < p0 ∧ ∃ k j, k ≤ 1000000 ∧ j ≤ 1000000 ∧ p1 = nI k ∧ p2 = nI j ∧ nI j = 0)) "java/lang/ArithmeticException" ∧ wc9 = wc ∧ ov9 = ov))) (gx_B D classes ws sz) (va_A ws sz)) 1 6 (va_A ws sz) := by
  refine gx_hmet (by decide +kernel) (Nat.le_of_ble_eq_true rfl) ?_
  intro p e s m below meth c ls hx hb hr hml hown hlocks htab hsz hV hP hD hS hA hA0 hl
  have hg := fx_g F hV ([.ref (κ 0), .long p0, .int p1, .int p2, .ref o] : List Value).toArray
  have hK := fx_k F hV
  have hn9 := fx_n F hV
  have hl : lv_has ls 7 [(0, .ref (κ 0)), (1, .long p0), (3, .int p1), (4, .int p2), (5, .ref o)] := hl
  have hPj : va_P D classes ([(o, .inl (cJ, 1, .inr (.inl ov)))] ++ wc) s.heap := by rw [hws] at hP; exact hP
  have hDj : va_D (va_A ws sz) ([(o, .inl (cJ, 1, .inr (.inl ov)))] ++ wc) := by rw [hws] at hD ⊢; exact hD
  refine lv_aload hx hb d_LW_share_0 (lv_at hl 4 rfl) ?_
  refine lv_iconst (v := 0) hx hb d_LW_share_2 (by decide) ?_
  refine lv_aload_n hx hb d_LW_share_3 rfl (lv_at hl 0 rfl) ?_
  refine lv_lload_n hx hb d_LW_share_4 rfl (lv_at hl 1 rfl) ?_
  refine lv_iload_n hx hb d_LW_share_5 rfl (lv_at hl 2 rfl) ?_
  refine lv_iload hx hb d_LW_share_6 (lv_at hl 3 rfl) ?_
  refine gx_xrl (wr := [(o, .inl (cJ, 1, .inr (.inl ov)))]) (wc := wc) (As := [.long p0, .int p1, .int p2]) (rest := [.int 0, .ref o]) ⟨hx, hb, hml, hown, gx_nil⟩ (c_PB_share F hI  _  p0 p1 p2 ) ⟨gx_cb (hg _ k_500) (hg _ k_1) (hg _ k_497) nd_PB_share ⟨by decide, by decide⟩, hg _ k_498, hg _ k_499⟩ hV hPj hDj hS hA0 (va_recv hK hPj rfl (show ([(o, .inl (cJ, 1, .inr (.inl ov)))] ++ wc)[1]? = _ from hI.1)) rfl hl.1 rfl (Nat.le_of_ble_eq_true rfl) d_LW_share_8 ⟨by decide, by decide⟩ (fun r9 h9 => ?_) (fun q9 E9 ce9 H9 hXC hP9 hS9 hce hcv hcl => ?_)
  · skip
    refine gx_ls hx hb hK hPj hDj hS 0 2 (show ([(o, .inl (cJ, 1, .inr (.inl ov)))] ++ wc)[0]? = _ from rfl) rfl 0 (by decide) (by decide) (by decide) d_LW_share_11 (fun H locs hP hD hS => ?_)
    replace hP : va_P D classes ((o, .inl (cJ, 1, .inr (.inl (vp_updL ov 0 r9)))) :: wc) H := hP
    replace hD : va_D (va_A ws sz) ((o, .inl (cJ, 1, .inr (.inl (vp_updL ov 0 r9)))) :: wc) := hD
    refine lv_goto (tgt := 23) hx hb d_LW_share_12 (by decide) ?_
    refine lv_iconst (v := 0) hx hb d_LW_share_23 (by decide) ?_
    exact gx_iret hx hb hr hlocks rfl hS hP hD (by decide) (by decide) d_LW_share_24 (⟨_, _, rfl, Or.inl ⟨rfl, rfl, r9, h9, rfl⟩⟩)
  · skip
    rcases (show E9 = "java/lang/IllegalArgumentException" ∨ E9 = "java/lang/ArithmeticException" from hXC.imp And.left And.left) with hE | hE
    · skip
      subst hE
      refine gx_catch1 (x := (⟨0, 12, 15, 13⟩ : ExceptionTableEntry)) (suf := [(⟨0, 12, 19, 45⟩ : ExceptionTableEntry)]) hown (by rw [htab]; rfl) (by decide) (by decide) (hg _ k_210) hce hcv hcl (fx_gc2 F hV _ _ kt_217 rfl) ?_
      refine lv_astore (lv' := [(6, .ref q9), (0, .ref (κ 0)), (1, .long p0), (3, .int p1), (4, .int p2), (5, .ref o)]) hx hb d_LW_share_15 hl (by decide) rfl (fun ls hl => ?_)
      refine lv_iconst (v := 1) hx hb d_LW_share_17 (by decide) ?_
      exact gx_iret hx hb hr hlocks rfl hS9 hP9 hDj (by decide) (by decide) d_LW_share_18 (⟨wc, ov, rfl, Or.inr (Or.inl ⟨rfl, hXC, rfl, rfl⟩)⟩)
    · skip
      subst hE
      refine gx_catch2 (n1 := "java/lang/IllegalArgumentException") (x := (⟨0, 12, 15, 13⟩ : ExceptionTableEntry)) (y := (⟨0, 12, 19, 45⟩ : ExceptionTableEntry)) (suf := []) hown (by rw [htab]; rfl) (by decide) (by decide) (by decide) (by decide) (hg _ k_210) (hg _ k_496) hce hcv hcl (fx_nc F hV (by decide +kernel)) (fx_gc2 F hV _ _ kt_508 rfl) ?_
      refine lv_astore (lv' := [(6, .ref q9), (0, .ref (κ 0)), (1, .long p0), (3, .int p1), (4, .int p2), (5, .ref o)]) hx hb d_LW_share_19 hl (by decide) rfl (fun ls hl => ?_)
      refine lv_iconst (v := 2) hx hb d_LW_share_21 (by decide) ?_
      exact gx_iret hx hb hr hlocks rfl hS9 hP9 hDj (by decide) (by decide) d_LW_share_22 (⟨wc, ov, rfl, Or.inr (Or.inr (⟨rfl, hXC, rfl, rfl⟩))⟩)

set_option maxRecDepth 100000 in
set_option maxHeartbeats 4000000 in
theorem c_LW_line {l : Launch} {s0 : State} {D : va_G} {cI cC cJ cII cO cZ : ClassId} (F : FX l s0 D cI cC cJ cII cO cZ) {wc : va_W} {κ : Nat → Nat} {ra : Nat → Nat → Nat} {z sg : Nat → Int32} {G : Nat → Nat → Nat → Int32} {we : Nat → Int32} {pd : Nat → Int64} (hI : cb_I cI cC cJ cII wc κ ra z sg G we pd) {nl : Nat} {la lp : Nat → Nat} {li : Nat → Nat → Int32} {ll : Nat → Nat → Int64} (hL : cb_L cO wc (κ 62) (z 5) (fx_e0 F) nl la lp li ll) {ws : va_W} {o : Nat} {ov : Nat → Int64} (hws : ws = (o, .inl (cJ, 1, .inr (.inl ov))) :: wc) (sz : Nat) (hnl : nl ≤ 200) (p0 : Int32) (p1 : Int32)  : Met l y_LW_line [.codeWith y_LW_line b_LW_line 5 (some .int) [(0, 9, 12, 51)]] { frames := 10, cells := 1, slots := 6, locals := 370 } (gx_P s0 D classes ws sz [.ref (κ 0), .int p0, .int p1, .ref o]) (va_Qi (fun r w1 => ∃ (wc9 : va_W) (ov9 : Nat → Int64), w1 = (o, .inl (cJ, 1, .inr (.inl ov9))) :: wc9 ∧ ((r = 0 ∧ wc9 = wc ∧ ∃ v9 : Int64, (fun r => ∃ j w, j < nl ∧ w < 9 ∧ p0 = nI j ∧ p1 = nI w ∧ r = cb_part (li j) (ll j) w) v9 ∧ ov9 = vp_updL ov 0 v9) ∨ (r = 1 ∧ (fun E => E = "java/lang/IndexOutOfBoundsException" ∧ ((p0 < 0 ∨ nI nl ≤ p0) ∨ (p1 < 0 ∨ nI 9 ≤ p1))) "java/lang/IndexOutOfBoundsException" ∧ wc9 = wc ∧ ov9 = ov))) (gx_B D classes ws sz) (va_A ws sz)) 1 6 (va_A ws sz) := by
  refine gx_hmet (by decide +kernel) (Nat.le_of_ble_eq_true rfl) ?_
  intro p e s m below meth c ls hx hb hr hml hown hlocks htab hsz hV hP hD hS hA hA0 hl
  have hg := fx_g F hV ([.ref (κ 0), .int p0, .int p1, .ref o] : List Value).toArray
  have hK := fx_k F hV
  have hn9 := fx_n F hV
  have hl : lv_has ls 5 [(0, .ref (κ 0)), (1, .int p0), (2, .int p1), (3, .ref o)] := hl
  have hPj : va_P D classes ([(o, .inl (cJ, 1, .inr (.inl ov)))] ++ wc) s.heap := by rw [hws] at hP; exact hP
  have hDj : va_D (va_A ws sz) ([(o, .inl (cJ, 1, .inr (.inl ov)))] ++ wc) := by rw [hws] at hD ⊢; exact hD
  refine lv_aload_n hx hb d_LW_line_0 rfl (lv_at hl 3 rfl) ?_
  refine lv_iconst (v := 0) hx hb d_LW_line_1 (by decide) ?_
  refine lv_aload_n hx hb d_LW_line_2 rfl (lv_at hl 0 rfl) ?_
  refine lv_iload_n hx hb d_LW_line_3 rfl (lv_at hl 1 rfl) ?_
  refine lv_iload_n hx hb d_LW_line_4 rfl (lv_at hl 2 rfl) ?_
  refine gx_xrl (wr := [(o, .inl (cJ, 1, .inr (.inl ov)))]) (wc := wc) (As := [.int p0, .int p1]) (rest := [.int 0, .ref o]) ⟨hx, hb, hml, hown, gx_nil⟩ (c_PB_line F hI hL _ hnl p0 p1 ) ⟨gx_cb (hg _ k_529) (hg _ k_1) (hg _ k_526) nd_PB_line ⟨by decide, by decide⟩, hg _ k_527, hg _ k_528⟩ hV hPj hDj hS hA0 (va_recv hK hPj rfl (show ([(o, .inl (cJ, 1, .inr (.inl ov)))] ++ wc)[1]? = _ from hI.1)) rfl hl.1 rfl (Nat.le_of_ble_eq_true rfl) d_LW_line_5 ⟨by decide, by decide⟩ (fun r9 h9 => ?_) (fun q9 E9 ce9 H9 hXC hP9 hS9 hce hcv hcl => ?_)
  · skip
    refine gx_ls hx hb hK hPj hDj hS 0 2 (show ([(o, .inl (cJ, 1, .inr (.inl ov)))] ++ wc)[0]? = _ from rfl) rfl 0 (by decide) (by decide) (by decide) d_LW_line_8 (fun H locs hP hD hS => ?_)
    replace hP : va_P D classes ((o, .inl (cJ, 1, .inr (.inl (vp_updL ov 0 r9)))) :: wc) H := hP
    replace hD : va_D (va_A ws sz) ((o, .inl (cJ, 1, .inr (.inl (vp_updL ov 0 r9)))) :: wc) := hD
    refine lv_goto (tgt := 16) hx hb d_LW_line_9 (by decide) ?_
    refine lv_iconst (v := 0) hx hb d_LW_line_16 (by decide) ?_
    exact gx_iret hx hb hr hlocks rfl hS hP hD (by decide) (by decide) d_LW_line_17 (⟨_, _, rfl, Or.inl ⟨rfl, rfl, r9, h9, rfl⟩⟩)
  · skip
    have hE : E9 = "java/lang/IndexOutOfBoundsException" := hXC.1
    subst hE
    refine gx_catch1 (x := (⟨0, 9, 12, 51⟩ : ExceptionTableEntry)) (suf := []) hown (by rw [htab]; rfl) (by decide) (by decide) (hg _ k_525) hce hcv hcl (fx_gc2 F hV _ _ kt_532 rfl) ?_
    refine lv_astore (lv' := [(4, .ref q9), (0, .ref (κ 0)), (1, .int p0), (2, .int p1), (3, .ref o)]) hx hb d_LW_line_12 hl (by decide) rfl (fun ls hl => ?_)
    refine lv_iconst (v := 1) hx hb d_LW_line_14 (by decide) ?_
    exact gx_iret hx hb hr hlocks rfl hS9 hP9 hDj (by decide) (by decide) d_LW_line_15 (⟨wc, ov, rfl, Or.inr (⟨rfl, hXC, rfl, rfl⟩)⟩)

