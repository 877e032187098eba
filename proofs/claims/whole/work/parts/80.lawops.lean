section LAW
variable {p : Program} {l : Launch} {e : Env} {s : State} {m : MethodId} {below : List Frame} {meth : Method} {c : Code} {b L : Nat} {xs : Nat → Int32} {D : va_G} {cI cC cJ cII cO cZ : ClassId}
set_option maxRecDepth 100000 in
set_option maxHeartbeats 4000000 in
theorem lo_sign (F : FX l s D cI cC cJ cII cO cZ) (C0 : lw_At p s m meth c b L xs) (hN : L ≤ 2560) {wc wm : va_W} {xa ma o t : Nat} {ov : Nat → Int64} {t0 : Int32} {H : Heap} {locs : List Loc} {ls : Array Slot} (ht : 5 * t + 5 ≤ L) (hQ : rQ F xa ma wc wm t0) (hP : va_P D classes (wm ++ (o, .inl (cJ, 1, .inr (.inl ov))) :: wc) H) (hD : va_D (gx_A0 s) (wm ++ (o, .inl (cJ, 1, .inr (.inl ov))) :: wc)) (hS : va_S (gx_A0 s) s.heap H locs) (hl : lv_has ls 8 [(0, .ref b), (1, .ref xa), (2, .ref ma), (3, .ref o), (4, .int (nI (5 * t)))]) (kk : ∀ (wc wm : va_W) (ov : Nat → Int64) (t0 : Int32) (H : Heap) (locs : List Loc) (ls : Array Slot), rQ F xa ma wc wm t0 → va_P D classes (wm ++ (o, .inl (cJ, 1, .inr (.inl ov))) :: wc) H → va_D (gx_A0 s) (wm ++ (o, .inl (cJ, 1, .inr (.inl ov))) :: wc) → va_S (gx_A0 s) s.heap H locs → lv_has ls 8 [(0, .ref b), (1, .ref xa), (2, .ref ma), (3, .ref o), (4, .int (nI (5 * t)))] → W p l e room_1 s m #[Value.ref b] below meth c H locs (92 + 13 * (t + 1)) (3248 + 2460 * (t + 1)) (lw_Z below #[Value.ref b] s) (F0 m 948 ls [])) : W p l e room_1 s m #[Value.ref b] below meth c H locs (92 + 13 * t) (3248 + 2460 * t) (lw_Z below #[Value.ref b] s) (F0 m 104 ls []) := by
  obtain ⟨hx, hb, hr, hml, hown, hts, hX, hbl, hlocks, hgv⟩ := C0
  have hown : s.vm.findClass "PortBillsLaw" = some m.cls := hown
  have hV : gx_V s s := gx_Vrf
  have hg := fx_g F hV #[Value.ref b]
  have hK := fx_k F hV
  have hA : ∀ q, s.heap.size ≤ q → gx_A0 s q := fun _ h => h
  have hA0 : ∀ q, gx_A0 s q → s.heap.size ≤ q := fun _ h => h
  have hbA : ¬ gx_A0 s b := Nat.not_le.mpr hbl
  have i1 : vp_in (nI (5 * t) + 1) L := lw_in 1 (by omega) (by omega)
  have i2 : vp_in (nI (5 * t) + 2) L := lw_in 2 (by omega) (by omega)
  have i3 : vp_in (nI (5 * t) + 3) L := lw_in 3 (by omega) (by omega)
  have i4 : vp_in (nI (5 * t) + 4) L := lw_in 4 (by omega) (by omega)
  obtain ⟨v1, e1⟩ : ∃ v : Int32, xs (nI (5 * t) + 1).toNatClampNeg = v := ⟨_, rfl⟩
  obtain ⟨v2, e2⟩ : ∃ v : Int32, xs (nI (5 * t) + 2).toNatClampNeg = v := ⟨_, rfl⟩
  obtain ⟨v3, e3⟩ : ∃ v : Int32, xs (nI (5 * t) + 3).toNatClampNeg = v := ⟨_, rfl⟩
  obtain ⟨v4, e4⟩ : ∃ v : Int32, xs (nI (5 * t) + 4).toNatClampNeg = v := ⟨_, rfl⟩
  obtain ⟨κ, ra, z, sg, G, we, pd, nl, la, lp, li, ll, μ, x, A, B, hI, hL, hM, hκ, hμ, hRS, hx0⟩ := hQ
  subst hκ
  subst hμ
  have hRS' := hRS
  obtain ⟨hT, hRK, hE, hRD, hLL, hRP⟩ := hRS'
  have hnl := hLL.1
  have hx5 := hLL.2.1
  have hcr := hLL.cr
  have hbo := hLL.2.2.2.1
  have hbz := hLL.bz
  obtain ⟨n, hn, h0, hx1, -, hch⟩ := hT
  refine lv_aload_n hx hb d_LW_law_104 rfl (lv_at hl 1 rfl) ?_
  refine lv_aload_n hx hb d_LW_law_105 rfl (lv_at hl 0 rfl) ?_
  refine lv_iload hx hb d_LW_law_106 (lv_at hl 4 rfl) ?_
  refine lv_iconst (v := 1) hx hb d_LW_law_108 (by decide) ?_
  refine lv_iadd hx hb d_LW_law_109 ?_
  refine lw_sld hx hb hX hbl hbA hS i1 e1 d_LW_law_110 ?_
  have hP1 := lw_a1 hP
  have hD1 := lw_d1 hD
  refine gx_fcalli (wr := wm ++ [(o, .inl (cJ, 1, .inr (.inl ov)))]) (wc := wc) (va_runV (As := [.int v1]) (rest := []) ⟨hx, hb, hml, hown, gx_nil⟩ (c_PB_sign F hI _ n hn h0 v1) ⟨gx_cb (hg _ k_126) (hg _ k_1) (hg _ k_123) nd_PB_sign ⟨by decide, by decide⟩, hg _ k_124, hg _ k_125⟩ (gx_preV hV (gx_right hP1) (gx_rightD hD1) hS hA0 (va_recv hK (gx_right hP1) rfl hI.1)) rfl rfl hl.1 rfl (lv_room (Nat.le_of_ble_eq_true rfl)) d_LW_law_111 ⟨lw_rc (by omega), lw_rs (by omega)⟩) hP1 hD1 hS hA (fun r w1 H locs hc hP hD hS => ?_)
  replace hP := gx_swap (lw_a2 hP)
  replace hD := gx_swapD (lw_d2 hD)
  refine lv_aload_n hx hb d_LW_law_114 rfl (lv_at hl 2 rfl) ?_
  refine lv_aload_n hx hb d_LW_law_115 rfl (lv_at hl 0 rfl) ?_
  refine lv_iload hx hb d_LW_law_116 (lv_at hl 4 rfl) ?_
  refine lv_iconst (v := 1) hx hb d_LW_law_118 (by decide) ?_
  refine lv_iadd hx hb d_LW_law_119 ?_
  refine lw_sld hx hb hX hbl hbA hS i1 e1 d_LW_law_120 ?_
  refine gx_fcalli (wr := (o, .inl (cJ, 1, .inr (.inl ov))) :: w1) (wc := wm) (va_runV (As := [.int v1]) (rest := [.int r]) ⟨hx, hb, hml, hown, gx_nil⟩ (c_MD_sign F hM _ n hn hx1 v1) ⟨gx_cb (hg _ k_634) (hg _ k_7) (hg _ k_631) nd_MD_sign ⟨by decide, by decide⟩, hg _ k_632, hg _ k_633⟩ (gx_preV hV (gx_right hP) (gx_rightD hD) hS hA0 (va_recv hK (gx_right hP) rfl hM.1)) rfl rfl hl.1 rfl (lv_room (Nat.le_of_ble_eq_true rfl)) d_LW_law_121 ⟨lw_rc (by omega), lw_rs (by omega)⟩) hP hD hS hA (fun b9 wm9 H locs hm hP hD hS => ?_)
  obtain ⟨hQ9, er⟩ := op_sign hI hL rfl rfl hRS v1 hn h0 hx1 hc hm
  refine lv_icmp_eq (tgt := 948) hx hb d_LW_law_124 (by decide) (fun c9 => ?_) (fun c9 => absurd er c9)
  exact W.widen (k := 92 + 13 * (t + 1)) (n := 3248 + 2460 * (t + 1)) (by omega) (by omega) (kk _ _ _ _ _ _ _ hQ9 (gx_swap hP) (gx_swapD hD) hS (lv_sub hl [0, 1, 2, 3, 4] rfl))

set_option maxRecDepth 100000 in
set_option maxHeartbeats 4000000 in
theorem lo_read (F : FX l s D cI cC cJ cII cO cZ) (C0 : lw_At p s m meth c b L xs) (hN : L ≤ 2560) {wc wm : va_W} {xa ma o t : Nat} {ov : Nat → Int64} {t0 : Int32} {H : Heap} {locs : List Loc} {ls : Array Slot} (ht : 5 * t + 5 ≤ L) (hQ : rQ F xa ma wc wm t0) (hP : va_P D classes (wm ++ (o, .inl (cJ, 1, .inr (.inl ov))) :: wc) H) (hD : va_D (gx_A0 s) (wm ++ (o, .inl (cJ, 1, .inr (.inl ov))) :: wc)) (hS : va_S (gx_A0 s) s.heap H locs) (hl : lv_has ls 8 [(0, .ref b), (1, .ref xa), (2, .ref ma), (3, .ref o), (4, .int (nI (5 * t)))]) (kk : ∀ (wc wm : va_W) (ov : Nat → Int64) (t0 : Int32) (H : Heap) (locs : List Loc) (ls : Array Slot), rQ F xa ma wc wm t0 → va_P D classes (wm ++ (o, .inl (cJ, 1, .inr (.inl ov))) :: wc) H → va_D (gx_A0 s) (wm ++ (o, .inl (cJ, 1, .inr (.inl ov))) :: wc) → va_S (gx_A0 s) s.heap H locs → lv_has ls 8 [(0, .ref b), (1, .ref xa), (2, .ref ma), (3, .ref o), (4, .int (nI (5 * t)))] → W p l e room_1 s m #[Value.ref b] below meth c H locs (92 + 13 * (t + 1)) (3248 + 2460 * (t + 1)) (lw_Z below #[Value.ref b] s) (F0 m 948 ls [])) : W p l e room_1 s m #[Value.ref b] below meth c H locs (92 + 13 * t) (3248 + 2460 * t) (lw_Z below #[Value.ref b] s) (F0 m 129 ls []) := by
  obtain ⟨hx, hb, hr, hml, hown, hts, hX, hbl, hlocks, hgv⟩ := C0
  have hown : s.vm.findClass "PortBillsLaw" = some m.cls := hown
  have hV : gx_V s s := gx_Vrf
  have hg := fx_g F hV #[Value.ref b]
  have hK := fx_k F hV
  have hA : ∀ q, s.heap.size ≤ q → gx_A0 s q := fun _ h => h
  have hA0 : ∀ q, gx_A0 s q → s.heap.size ≤ q := fun _ h => h
  have hbA : ¬ gx_A0 s b := Nat.not_le.mpr hbl
  have i1 : vp_in (nI (5 * t) + 1) L := lw_in 1 (by omega) (by omega)
  have i2 : vp_in (nI (5 * t) + 2) L := lw_in 2 (by omega) (by omega)
  have i3 : vp_in (nI (5 * t) + 3) L := lw_in 3 (by omega) (by omega)
  have i4 : vp_in (nI (5 * t) + 4) L := lw_in 4 (by omega) (by omega)
  obtain ⟨v1, e1⟩ : ∃ v : Int32, xs (nI (5 * t) + 1).toNatClampNeg = v := ⟨_, rfl⟩
  obtain ⟨v2, e2⟩ : ∃ v : Int32, xs (nI (5 * t) + 2).toNatClampNeg = v := ⟨_, rfl⟩
  obtain ⟨v3, e3⟩ : ∃ v : Int32, xs (nI (5 * t) + 3).toNatClampNeg = v := ⟨_, rfl⟩
  obtain ⟨v4, e4⟩ : ∃ v : Int32, xs (nI (5 * t) + 4).toNatClampNeg = v := ⟨_, rfl⟩
  obtain ⟨κ, ra, z, sg, G, we, pd, nl, la, lp, li, ll, μ, x, A, B, hI, hL, hM, hκ, hμ, hRS, hx0⟩ := hQ
  subst hκ
  subst hμ
  have hRS' := hRS
  obtain ⟨hT, hRK, hE, hRD, hLL, hRP⟩ := hRS'
  have hnl := hLL.1
  have hx5 := hLL.2.1
  have hcr := hLL.cr
  have hbo := hLL.2.2.2.1
  have hbz := hLL.bz
  obtain ⟨n, hn, h0, hx1, -, hch⟩ := hT
  obtain ⟨mw, hmw, -, hx2, -⟩ := hRK
  refine lv_aload_n hx hb d_LW_law_129 rfl (lv_at hl 1 rfl) ?_
  have hP1 := lw_a1 hP
  have hD1 := lw_d1 hD
  refine gx_fcalli (wr := wm ++ [(o, .inl (cJ, 1, .inr (.inl ov)))]) (wc := wc) (va_runV (As := []) (rest := []) ⟨hx, hb, hml, hown, gx_nil⟩ (c_PB_read F hI _ n hn h0 hch ) ⟨gx_cb (hg _ k_134) (hg _ k_1) (hg _ k_131) nd_PB_read ⟨by decide, by decide⟩, hg _ k_132, hg _ k_133⟩ (gx_preV hV (gx_right hP1) (gx_rightD hD1) hS hA0 (va_recv hK (gx_right hP1) rfl hI.1)) rfl rfl hl.1 rfl (lv_room (Nat.le_of_ble_eq_true rfl)) d_LW_law_130 ⟨lw_rc (by omega), lw_rs (by omega)⟩) hP1 hD1 hS hA (fun r w1 H locs hc hP hD hS => ?_)
  replace hP := gx_swap (lw_a2 hP)
  replace hD := gx_swapD (lw_d2 hD)
  refine lv_aload_n hx hb d_LW_law_133 rfl (lv_at hl 2 rfl) ?_
  refine gx_fcalli (wr := (o, .inl (cJ, 1, .inr (.inl ov))) :: w1) (wc := wm) (va_runV (As := []) (rest := [.int r]) ⟨hx, hb, hml, hown, gx_nil⟩ (c_MD_read F hM _ n hn hx1 mw hmw hx2 ) ⟨gx_cb (hg _ k_643) (hg _ k_7) (hg _ k_640) nd_MD_read ⟨by decide, by decide⟩, hg _ k_641, hg _ k_642⟩ (gx_preV hV (gx_right hP) (gx_rightD hD) hS hA0 (va_recv hK (gx_right hP) rfl hM.1)) rfl rfl hl.1 rfl (lv_room (Nat.le_of_ble_eq_true rfl)) d_LW_law_134 ⟨lw_rc (by omega), lw_rs (by omega)⟩) hP hD hS hA (fun b9 wm9 H locs hm hP hD hS => ?_)
  obtain ⟨hQ9, er⟩ := op_read hI hL rfl rfl hRS  hn h0 hx1 hmw hx2 hc hm
  refine lv_icmp_eq (tgt := 948) hx hb d_LW_law_137 (by decide) (fun c9 => ?_) (fun c9 => absurd er c9)
  exact W.widen (k := 92 + 13 * (t + 1)) (n := 3248 + 2460 * (t + 1)) (by omega) (by omega) (kk _ _ _ _ _ _ _ hQ9 (gx_swap hP) (gx_swapD hD) hS (lv_sub hl [0, 1, 2, 3, 4] rfl))

set_option maxRecDepth 100000 in
set_option maxHeartbeats 4000000 in
theorem lo_tariff (F : FX l s D cI cC cJ cII cO cZ) (C0 : lw_At p s m meth c b L xs) (hN : L ≤ 2560) {wc wm : va_W} {xa ma o t : Nat} {ov : Nat → Int64} {t0 : Int32} {H : Heap} {locs : List Loc} {ls : Array Slot} (ht : 5 * t + 5 ≤ L) (hQ : rQ F xa ma wc wm t0) (hP : va_P D classes (wm ++ (o, .inl (cJ, 1, .inr (.inl ov))) :: wc) H) (hD : va_D (gx_A0 s) (wm ++ (o, .inl (cJ, 1, .inr (.inl ov))) :: wc)) (hS : va_S (gx_A0 s) s.heap H locs) (hl : lv_has ls 8 [(0, .ref b), (1, .ref xa), (2, .ref ma), (3, .ref o), (4, .int (nI (5 * t)))]) (kk : ∀ (wc wm : va_W) (ov : Nat → Int64) (t0 : Int32) (H : Heap) (locs : List Loc) (ls : Array Slot), rQ F xa ma wc wm t0 → va_P D classes (wm ++ (o, .inl (cJ, 1, .inr (.inl ov))) :: wc) H → va_D (gx_A0 s) (wm ++ (o, .inl (cJ, 1, .inr (.inl ov))) :: wc) → va_S (gx_A0 s) s.heap H locs → lv_has ls 8 [(0, .ref b), (1, .ref xa), (2, .ref ma), (3, .ref o), (4, .int (nI (5 * t)))] → W p l e room_1 s m #[Value.ref b] below meth c H locs (92 + 13 * (t + 1)) (3248 + 2460 * (t + 1)) (lw_Z below #[Value.ref b] s) (F0 m 948 ls [])) : W p l e room_1 s m #[Value.ref b] below meth c H locs (92 + 13 * t) (3248 + 2460 * t) (lw_Z below #[Value.ref b] s) (F0 m 142 ls []) := by
  obtain ⟨hx, hb, hr, hml, hown, hts, hX, hbl, hlocks, hgv⟩ := C0
  have hown : s.vm.findClass "PortBillsLaw" = some m.cls := hown
  have hV : gx_V s s := gx_Vrf
  have hg := fx_g F hV #[Value.ref b]
  have hK := fx_k F hV
  have hA : ∀ q, s.heap.size ≤ q → gx_A0 s q := fun _ h => h
  have hA0 : ∀ q, gx_A0 s q → s.heap.size ≤ q := fun _ h => h
  have hbA : ¬ gx_A0 s b := Nat.not_le.mpr hbl
  have i1 : vp_in (nI (5 * t) + 1) L := lw_in 1 (by omega) (by omega)
  have i2 : vp_in (nI (5 * t) + 2) L := lw_in 2 (by omega) (by omega)
  have i3 : vp_in (nI (5 * t) + 3) L := lw_in 3 (by omega) (by omega)
  have i4 : vp_in (nI (5 * t) + 4) L := lw_in 4 (by omega) (by omega)
  obtain ⟨v1, e1⟩ : ∃ v : Int32, xs (nI (5 * t) + 1).toNatClampNeg = v := ⟨_, rfl⟩
  obtain ⟨v2, e2⟩ : ∃ v : Int32, xs (nI (5 * t) + 2).toNatClampNeg = v := ⟨_, rfl⟩
  obtain ⟨v3, e3⟩ : ∃ v : Int32, xs (nI (5 * t) + 3).toNatClampNeg = v := ⟨_, rfl⟩
  obtain ⟨v4, e4⟩ : ∃ v : Int32, xs (nI (5 * t) + 4).toNatClampNeg = v := ⟨_, rfl⟩
  obtain ⟨κ, ra, z, sg, G, we, pd, nl, la, lp, li, ll, μ, x, A, B, hI, hL, hM, hκ, hμ, hRS, hx0⟩ := hQ
  subst hκ
  subst hμ
  have hRS' := hRS
  obtain ⟨hT, hRK, hE, hRD, hLL, hRP⟩ := hRS'
  have hnl := hLL.1
  have hx5 := hLL.2.1
  have hcr := hLL.cr
  have hbo := hLL.2.2.2.1
  have hbz := hLL.bz
  refine lv_aload_n hx hb d_LW_law_142 rfl (lv_at hl 1 rfl) ?_
  refine lv_aload_n hx hb d_LW_law_143 rfl (lv_at hl 0 rfl) ?_
  refine lv_iload hx hb d_LW_law_144 (lv_at hl 4 rfl) ?_
  refine lv_iconst (v := 1) hx hb d_LW_law_146 (by decide) ?_
  refine lv_iadd hx hb d_LW_law_147 ?_
  refine lw_sld hx hb hX hbl hbA hS i1 e1 d_LW_law_148 ?_
  refine lv_aload_n hx hb d_LW_law_149 rfl (lv_at hl 0 rfl) ?_
  refine lv_iload hx hb d_LW_law_150 (lv_at hl 4 rfl) ?_
  refine lv_iconst (v := 2) hx hb d_LW_law_152 (by decide) ?_
  refine lv_iadd hx hb d_LW_law_153 ?_
  refine lw_sld hx hb hX hbl hbA hS i2 e2 d_LW_law_154 ?_
  refine lv_aload_n hx hb d_LW_law_155 rfl (lv_at hl 3 rfl) ?_
  refine gx_fcalli (wr := wm) (wc := (o, .inl (cJ, 1, .inr (.inl ov))) :: wc) (vx_runSW (As := [.ref (κ 0), .int v1, .int v2, .ref o]) (rest := []) ⟨hx, hb, hml, hown, gx_nil⟩ (c_LW_tariff F hI rfl _ v1 v2) (gx_csw (hg _ k_209) (hg _ k_0) (hg _ k_207) (hg _ k_208) nd_LW_tariff ⟨by decide, by decide⟩) (gx_preS hV (gx_right hP) (gx_rightD hD) hS hA0) rfl rfl hl.1 rfl (lv_room (Nat.le_of_ble_eq_true rfl)) d_LW_law_156 ⟨lw_rc (by omega), lw_rs (by omega)⟩) hP hD hS hA (fun r w1 H locs hc hP hD hS => ?_)
  replace hP := gx_swap hP
  replace hD := gx_swapD hD
  refine lv_istore (lv' := [(5, .int r), (0, .ref b), (1, .ref (κ 0)), (2, .ref (μ 0)), (3, .ref o), (4, .int (nI (5 * t)))]) hx hb d_LW_law_159 hl (by decide) rfl (fun ls hl => ?_)
  refine lv_aload_n hx hb d_LW_law_161 rfl (lv_at hl 3 rfl) ?_
  refine lv_aload_n hx hb d_LW_law_162 rfl (lv_at hl 1 rfl) ?_
  refine lv_iload hx hb d_LW_law_163 (lv_at hl 5 rfl) ?_
  refine lv_iconst (v := 1) hx hb d_LW_law_165 (by decide) ?_
  refine lv_iadd hx hb d_LW_law_166 ?_
  refine lw_sld hx hb hX hbl hbA hS i1 e1 d_LW_law_167 ?_
  refine lv_aload_n hx hb d_LW_law_168 rfl (lv_at hl 1 rfl) ?_
  refine lv_iload hx hb d_LW_law_169 (lv_at hl 5 rfl) ?_
  refine lv_iconst (v := 2) hx hb d_LW_law_171 (by decide) ?_
  refine lv_iadd hx hb d_LW_law_172 ?_
  refine lw_sld hx hb hX hbl hbA hS i2 e2 d_LW_law_173 ?_
  refine gx_fcalli (wr := w1) (wc := wm) (va_runV (As := [.int v1, .int v2]) (rest := []) ⟨hx, hb, hml, hown, gx_nil⟩ (c_MD_tariff F hM _  v1 v2) ⟨gx_cb (hg _ k_654) (hg _ k_7) (hg _ k_651) nd_MD_tariff ⟨by decide, by decide⟩, hg _ k_652, hg _ k_653⟩ (gx_preV hV (gx_right hP) (gx_rightD hD) hS hA0 (va_recv hK (gx_right hP) rfl hM.1)) rfl rfl hl.1 rfl (lv_room (Nat.le_of_ble_eq_true rfl)) d_LW_law_174 ⟨lw_rc (by omega), lw_rs (by omega)⟩) hP hD hS hA (fun b9 wm9 H locs hm hP hD hS => ?_)
  obtain ⟨wc9, ov9, ew, hQ9, hov⟩ := op_tariff hI hL rfl rfl hRS v1 v2  hc hm
  subst ew
  have hQ8 := hQ9
  obtain ⟨-, -, -, -, -, -, -, -, -, -, -, -, μ9, x9, A9, B9, -, -, hM9, -, hμ9, -, hx9⟩ := hQ8
  have hthr := c_MD_thrown F hM9 H.size
  rw [hμ9] at hthr
  have hrc := va_recv (q := (R_MD, F_MD, 23)) (ci := iMD) hK (gx_right hP) rfl hM9.1
  rw [hμ9] at hrc
  refine lv_istore (lv' := [(6, .int b9), (5, .int r), (0, .ref b), (1, .ref (κ 0)), (2, .ref (μ 0)), (3, .ref o), (4, .int (nI (5 * t)))]) hx hb d_LW_law_177 hl (by decide) rfl (fun ls hl => ?_)
  refine lv_aload_n hx hb d_LW_law_179 rfl (lv_at hl 4 rfl) ?_
  refine gx_readi (va_runV (As := []) (rest := []) ⟨hx, hb, hml, hown, gx_nil⟩ hthr ⟨gx_cb (hg _ k_630) (hg _ k_7) (hg _ k_627) nd_MD_thrown ⟨by decide, by decide⟩, hg _ k_628, hg _ k_629⟩ (gx_preV hV (gx_right hP) (gx_rightD hD) hS hA0 hrc) rfl rfl hl.1 rfl (lv_room (Nat.le_of_ble_eq_true rfl)) d_LW_law_180 ⟨lw_rc (by omega), lw_rs (by omega)⟩) (fun r9 h9 => ?_)
  have er : r9 = r := h9.trans hx9
  refine lv_iload hx hb d_LW_law_183 (lv_at hl 1 rfl) ?_
  refine lv_icmp_eq (tgt := 190) hx hb d_LW_law_185 (by decide) (fun c2 => ?_) (fun c2 => absurd er c2)
  refine lv_iload hx hb d_LW_law_190 (lv_at hl 1 rfl) ?_
  refine lv_if_ne (tgt := 207) hx hb d_LW_law_192 (by decide) (fun c3 => ?_) (fun c3 => ?_)
  · skip
    refine lv_goto (tgt := 948) hx hb d_LW_law_207 (by decide) ?_
    exact W.widen (k := 92 + 13 * (t + 1)) (n := 3248 + 2460 * (t + 1)) (by omega) (by omega) (kk _ _ _ _ _ _ _ hQ9 (gx_swap hP) (gx_swapD hD) hS (lv_sub hl [2, 3, 4, 5, 6] rfl))
  · skip
    refine lv_aload_n hx hb d_LW_law_195 rfl (lv_at hl 5 rfl) ?_
    refine lv_iconst (v := 0) hx hb d_LW_law_196 (by decide) ?_
    refine gx_ll hx hb hK hP 0 2 (show ((o, .inl (cJ, 1, .inr (.inl ov9))) :: wc9 ++ wm9)[0]? = _ from rfl) rfl 0 (by decide) (by decide) (by decide) d_LW_law_197 ?_
    refine lv_iload hx hb d_LW_law_198 (lv_at hl 0 rfl) ?_
    refine lv_i2l (v := b9.toInt64) hx hb d_LW_law_200 (rfl) ?_
    refine W.lcmp hx hb d_LW_law_201 ?_
    refine lv_if_eq (tgt := 207) hx hb d_LW_law_202 (by decide) (fun c4 => ?_) (fun c4 => absurd (by rw [hov c3]; exact lw_cmp _) c4)
    refine lv_goto (tgt := 948) hx hb d_LW_law_207 (by decide) ?_
    exact W.widen (k := 92 + 13 * (t + 1)) (n := 3248 + 2460 * (t + 1)) (by omega) (by omega) (kk _ _ _ _ _ _ _ hQ9 (gx_swap hP) (gx_swapD hD) hS (lv_sub hl [2, 3, 4, 5, 6] rfl))

set_option maxRecDepth 100000 in
set_option maxHeartbeats 4000000 in
theorem lo_event (F : FX l s D cI cC cJ cII cO cZ) (C0 : lw_At p s m meth c b L xs) (hN : L ≤ 2560) {wc wm : va_W} {xa ma o t : Nat} {ov : Nat → Int64} {t0 : Int32} {H : Heap} {locs : List Loc} {ls : Array Slot} (ht : 5 * t + 5 ≤ L) (hQ : rQ F xa ma wc wm t0) (hP : va_P D classes (wm ++ (o, .inl (cJ, 1, .inr (.inl ov))) :: wc) H) (hD : va_D (gx_A0 s) (wm ++ (o, .inl (cJ, 1, .inr (.inl ov))) :: wc)) (hS : va_S (gx_A0 s) s.heap H locs) (hl : lv_has ls 8 [(0, .ref b), (1, .ref xa), (2, .ref ma), (3, .ref o), (4, .int (nI (5 * t)))]) (kk : ∀ (wc wm : va_W) (ov : Nat → Int64) (t0 : Int32) (H : Heap) (locs : List Loc) (ls : Array Slot), rQ F xa ma wc wm t0 → va_P D classes (wm ++ (o, .inl (cJ, 1, .inr (.inl ov))) :: wc) H → va_D (gx_A0 s) (wm ++ (o, .inl (cJ, 1, .inr (.inl ov))) :: wc) → va_S (gx_A0 s) s.heap H locs → lv_has ls 8 [(0, .ref b), (1, .ref xa), (2, .ref ma), (3, .ref o), (4, .int (nI (5 * t)))] → W p l e room_1 s m #[Value.ref b] below meth c H locs (92 + 13 * (t + 1)) (3248 + 2460 * (t + 1)) (lw_Z below #[Value.ref b] s) (F0 m 948 ls [])) : W p l e room_1 s m #[Value.ref b] below meth c H locs (92 + 13 * t) (3248 + 2460 * t) (lw_Z below #[Value.ref b] s) (F0 m 210 ls []) := by
  obtain ⟨hx, hb, hr, hml, hown, hts, hX, hbl, hlocks, hgv⟩ := C0
  have hown : s.vm.findClass "PortBillsLaw" = some m.cls := hown
  have hV : gx_V s s := gx_Vrf
  have hg := fx_g F hV #[Value.ref b]
  have hK := fx_k F hV
  have hA : ∀ q, s.heap.size ≤ q → gx_A0 s q := fun _ h => h
  have hA0 : ∀ q, gx_A0 s q → s.heap.size ≤ q := fun _ h => h
  have hbA : ¬ gx_A0 s b := Nat.not_le.mpr hbl
  have i1 : vp_in (nI (5 * t) + 1) L := lw_in 1 (by omega) (by omega)
  have i2 : vp_in (nI (5 * t) + 2) L := lw_in 2 (by omega) (by omega)
  have i3 : vp_in (nI (5 * t) + 3) L := lw_in 3 (by omega) (by omega)
  have i4 : vp_in (nI (5 * t) + 4) L := lw_in 4 (by omega) (by omega)
  obtain ⟨v1, e1⟩ : ∃ v : Int32, xs (nI (5 * t) + 1).toNatClampNeg = v := ⟨_, rfl⟩
  obtain ⟨v2, e2⟩ : ∃ v : Int32, xs (nI (5 * t) + 2).toNatClampNeg = v := ⟨_, rfl⟩
  obtain ⟨v3, e3⟩ : ∃ v : Int32, xs (nI (5 * t) + 3).toNatClampNeg = v := ⟨_, rfl⟩
  obtain ⟨v4, e4⟩ : ∃ v : Int32, xs (nI (5 * t) + 4).toNatClampNeg = v := ⟨_, rfl⟩
  obtain ⟨κ, ra, z, sg, G, we, pd, nl, la, lp, li, ll, μ, x, A, B, hI, hL, hM, hκ, hμ, hRS, hx0⟩ := hQ
  subst hκ
  subst hμ
  have hRS' := hRS
  obtain ⟨hT, hRK, hE, hRD, hLL, hRP⟩ := hRS'
  have hnl := hLL.1
  have hx5 := hLL.2.1
  have hcr := hLL.cr
  have hbo := hLL.2.2.2.1
  have hbz := hLL.bz
  obtain ⟨nw, hnw, -, hx4, -⟩ := hE
  refine lv_aload_n hx hb d_LW_law_210 rfl (lv_at hl 1 rfl) ?_
  refine lv_aload_n hx hb d_LW_law_211 rfl (lv_at hl 0 rfl) ?_
  refine lv_iload hx hb d_LW_law_212 (lv_at hl 4 rfl) ?_
  refine lv_iconst (v := 1) hx hb d_LW_law_214 (by decide) ?_
  refine lv_iadd hx hb d_LW_law_215 ?_
  refine lw_sld hx hb hX hbl hbA hS i1 e1 d_LW_law_216 ?_
  refine lv_aload_n hx hb d_LW_law_217 rfl (lv_at hl 0 rfl) ?_
  refine lv_iload hx hb d_LW_law_218 (lv_at hl 4 rfl) ?_
  refine lv_iconst (v := 2) hx hb d_LW_law_220 (by decide) ?_
  refine lv_iadd hx hb d_LW_law_221 ?_
  refine lw_sld hx hb hX hbl hbA hS i2 e2 d_LW_law_222 ?_
  refine lv_aload_n hx hb d_LW_law_223 rfl (lv_at hl 0 rfl) ?_
  refine lv_iload hx hb d_LW_law_224 (lv_at hl 4 rfl) ?_
  refine lv_iconst (v := 3) hx hb d_LW_law_226 (by decide) ?_
  refine lv_iadd hx hb d_LW_law_227 ?_
  refine lw_sld hx hb hX hbl hbA hS i3 e3 d_LW_law_228 ?_
  refine lv_aload_n hx hb d_LW_law_229 rfl (lv_at hl 3 rfl) ?_
  refine gx_fcalli (wr := wm) (wc := (o, .inl (cJ, 1, .inr (.inl ov))) :: wc) (vx_runSW (As := [.ref (κ 0), .int v1, .int v2, .int v3, .ref o]) (rest := []) ⟨hx, hb, hml, hown, gx_nil⟩ (c_LW_event F hI rfl _ v1 v2 v3) (gx_csw (hg _ k_290) (hg _ k_0) (hg _ k_288) (hg _ k_289) nd_LW_event ⟨by decide, by decide⟩) (gx_preS hV (gx_right hP) (gx_rightD hD) hS hA0) rfl rfl hl.1 rfl (lv_room (Nat.le_of_ble_eq_true rfl)) d_LW_law_230 ⟨lw_rc (by omega), lw_rs (by omega)⟩) hP hD hS hA (fun r w1 H locs hc hP hD hS => ?_)
  replace hP := gx_swap hP
  replace hD := gx_swapD hD
  refine lv_istore (lv' := [(5, .int r), (0, .ref b), (1, .ref (κ 0)), (2, .ref (μ 0)), (3, .ref o), (4, .int (nI (5 * t)))]) hx hb d_LW_law_233 hl (by decide) rfl (fun ls hl => ?_)
  refine lv_aload_n hx hb d_LW_law_235 rfl (lv_at hl 3 rfl) ?_
  refine lv_aload_n hx hb d_LW_law_236 rfl (lv_at hl 1 rfl) ?_
  refine lv_iload hx hb d_LW_law_237 (lv_at hl 5 rfl) ?_
  refine lv_iconst (v := 1) hx hb d_LW_law_239 (by decide) ?_
  refine lv_iadd hx hb d_LW_law_240 ?_
  refine lw_sld hx hb hX hbl hbA hS i1 e1 d_LW_law_241 ?_
  refine lv_aload_n hx hb d_LW_law_242 rfl (lv_at hl 1 rfl) ?_
  refine lv_iload hx hb d_LW_law_243 (lv_at hl 5 rfl) ?_
  refine lv_iconst (v := 2) hx hb d_LW_law_245 (by decide) ?_
  refine lv_iadd hx hb d_LW_law_246 ?_
  refine lw_sld hx hb hX hbl hbA hS i2 e2 d_LW_law_247 ?_
  refine lv_aload_n hx hb d_LW_law_248 rfl (lv_at hl 1 rfl) ?_
  refine lv_iload hx hb d_LW_law_249 (lv_at hl 5 rfl) ?_
  refine lv_iconst (v := 3) hx hb d_LW_law_251 (by decide) ?_
  refine lv_iadd hx hb d_LW_law_252 ?_
  refine lw_sld hx hb hX hbl hbA hS i3 e3 d_LW_law_253 ?_
  refine gx_fcalli (wr := w1) (wc := wm) (va_runV (As := [.int v1, .int v2, .int v3]) (rest := []) ⟨hx, hb, hml, hown, gx_nil⟩ (c_MD_event F hM _ nw hnw hx4 v1 v2 v3) ⟨gx_cb (hg _ k_666) (hg _ k_7) (hg _ k_663) nd_MD_event ⟨by decide, by decide⟩, hg _ k_664, hg _ k_665⟩ (gx_preV hV (gx_right hP) (gx_rightD hD) hS hA0 (va_recv hK (gx_right hP) rfl hM.1)) rfl rfl hl.1 rfl (lv_room (Nat.le_of_ble_eq_true rfl)) d_LW_law_254 ⟨lw_rc (by omega), lw_rs (by omega)⟩) hP hD hS hA (fun b9 wm9 H locs hm hP hD hS => ?_)
  obtain ⟨wc9, ov9, ew, hQ9, hov⟩ := op_event hI hL rfl rfl hRS v1 v2 v3 hnw hx4 hc hm
  subst ew
  have hQ8 := hQ9
  obtain ⟨-, -, -, -, -, -, -, -, -, -, -, -, μ9, x9, A9, B9, -, -, hM9, -, hμ9, -, hx9⟩ := hQ8
  have hthr := c_MD_thrown F hM9 H.size
  rw [hμ9] at hthr
  have hrc := va_recv (q := (R_MD, F_MD, 23)) (ci := iMD) hK (gx_right hP) rfl hM9.1
  rw [hμ9] at hrc
  refine lv_istore (lv' := [(6, .int b9), (5, .int r), (0, .ref b), (1, .ref (κ 0)), (2, .ref (μ 0)), (3, .ref o), (4, .int (nI (5 * t)))]) hx hb d_LW_law_257 hl (by decide) rfl (fun ls hl => ?_)
  refine lv_aload_n hx hb d_LW_law_259 rfl (lv_at hl 4 rfl) ?_
  refine gx_readi (va_runV (As := []) (rest := []) ⟨hx, hb, hml, hown, gx_nil⟩ hthr ⟨gx_cb (hg _ k_630) (hg _ k_7) (hg _ k_627) nd_MD_thrown ⟨by decide, by decide⟩, hg _ k_628, hg _ k_629⟩ (gx_preV hV (gx_right hP) (gx_rightD hD) hS hA0 hrc) rfl rfl hl.1 rfl (lv_room (Nat.le_of_ble_eq_true rfl)) d_LW_law_260 ⟨lw_rc (by omega), lw_rs (by omega)⟩) (fun r9 h9 => ?_)
  have er : r9 = r := h9.trans hx9
  refine lv_iload hx hb d_LW_law_263 (lv_at hl 1 rfl) ?_
  refine lv_icmp_eq (tgt := 270) hx hb d_LW_law_265 (by decide) (fun c2 => ?_) (fun c2 => absurd er c2)
  refine lv_iload hx hb d_LW_law_270 (lv_at hl 1 rfl) ?_
  refine lv_if_ne (tgt := 287) hx hb d_LW_law_272 (by decide) (fun c3 => ?_) (fun c3 => ?_)
  · skip
    refine lv_goto (tgt := 948) hx hb d_LW_law_287 (by decide) ?_
    exact W.widen (k := 92 + 13 * (t + 1)) (n := 3248 + 2460 * (t + 1)) (by omega) (by omega) (kk _ _ _ _ _ _ _ hQ9 (gx_swap hP) (gx_swapD hD) hS (lv_sub hl [2, 3, 4, 5, 6] rfl))
  · skip
    refine lv_aload_n hx hb d_LW_law_275 rfl (lv_at hl 5 rfl) ?_
    refine lv_iconst (v := 0) hx hb d_LW_law_276 (by decide) ?_
    refine gx_ll hx hb hK hP 0 2 (show ((o, .inl (cJ, 1, .inr (.inl ov9))) :: wc9 ++ wm9)[0]? = _ from rfl) rfl 0 (by decide) (by decide) (by decide) d_LW_law_277 ?_
    refine lv_iload hx hb d_LW_law_278 (lv_at hl 0 rfl) ?_
    refine lv_i2l (v := b9.toInt64) hx hb d_LW_law_280 (rfl) ?_
    refine W.lcmp hx hb d_LW_law_281 ?_
    refine lv_if_eq (tgt := 287) hx hb d_LW_law_282 (by decide) (fun c4 => ?_) (fun c4 => absurd (by rw [hov c3]; exact lw_cmp _) c4)
    refine lv_goto (tgt := 948) hx hb d_LW_law_287 (by decide) ?_
    exact W.widen (k := 92 + 13 * (t + 1)) (n := 3248 + 2460 * (t + 1)) (by omega) (by omega) (kk _ _ _ _ _ _ _ hQ9 (gx_swap hP) (gx_swapD hD) hS (lv_sub hl [2, 3, 4, 5, 6] rfl))

set_option maxRecDepth 100000 in
set_option maxHeartbeats 4000000 in
theorem lo_discount (F : FX l s D cI cC cJ cII cO cZ) (C0 : lw_At p s m meth c b L xs) (hN : L ≤ 2560) {wc wm : va_W} {xa ma o t : Nat} {ov : Nat → Int64} {t0 : Int32} {H : Heap} {locs : List Loc} {ls : Array Slot} (ht : 5 * t + 5 ≤ L) (hQ : rQ F xa ma wc wm t0) (hP : va_P D classes (wm ++ (o, .inl (cJ, 1, .inr (.inl ov))) :: wc) H) (hD : va_D (gx_A0 s) (wm ++ (o, .inl (cJ, 1, .inr (.inl ov))) :: wc)) (hS : va_S (gx_A0 s) s.heap H locs) (hl : lv_has ls 8 [(0, .ref b), (1, .ref xa), (2, .ref ma), (3, .ref o), (4, .int (nI (5 * t)))]) (kk : ∀ (wc wm : va_W) (ov : Nat → Int64) (t0 : Int32) (H : Heap) (locs : List Loc) (ls : Array Slot), rQ F xa ma wc wm t0 → va_P D classes (wm ++ (o, .inl (cJ, 1, .inr (.inl ov))) :: wc) H → va_D (gx_A0 s) (wm ++ (o, .inl (cJ, 1, .inr (.inl ov))) :: wc) → va_S (gx_A0 s) s.heap H locs → lv_has ls 8 [(0, .ref b), (1, .ref xa), (2, .ref ma), (3, .ref o), (4, .int (nI (5 * t)))] → W p l e room_1 s m #[Value.ref b] below meth c H locs (92 + 13 * (t + 1)) (3248 + 2460 * (t + 1)) (lw_Z below #[Value.ref b] s) (F0 m 948 ls [])) : W p l e room_1 s m #[Value.ref b] below meth c H locs (92 + 13 * t) (3248 + 2460 * t) (lw_Z below #[Value.ref b] s) (F0 m 290 ls []) := by
  obtain ⟨hx, hb, hr, hml, hown, hts, hX, hbl, hlocks, hgv⟩ := C0
  have hown : s.vm.findClass "PortBillsLaw" = some m.cls := hown
  have hV : gx_V s s := gx_Vrf
  have hg := fx_g F hV #[Value.ref b]
  have hK := fx_k F hV
  have hA : ∀ q, s.heap.size ≤ q → gx_A0 s q := fun _ h => h
  have hA0 : ∀ q, gx_A0 s q → s.heap.size ≤ q := fun _ h => h
  have hbA : ¬ gx_A0 s b := Nat.not_le.mpr hbl
  have i1 : vp_in (nI (5 * t) + 1) L := lw_in 1 (by omega) (by omega)
  have i2 : vp_in (nI (5 * t) + 2) L := lw_in 2 (by omega) (by omega)
  have i3 : vp_in (nI (5 * t) + 3) L := lw_in 3 (by omega) (by omega)
  have i4 : vp_in (nI (5 * t) + 4) L := lw_in 4 (by omega) (by omega)
  obtain ⟨v1, e1⟩ : ∃ v : Int32, xs (nI (5 * t) + 1).toNatClampNeg = v := ⟨_, rfl⟩
  obtain ⟨v2, e2⟩ : ∃ v : Int32, xs (nI (5 * t) + 2).toNatClampNeg = v := ⟨_, rfl⟩
  obtain ⟨v3, e3⟩ : ∃ v : Int32, xs (nI (5 * t) + 3).toNatClampNeg = v := ⟨_, rfl⟩
  obtain ⟨v4, e4⟩ : ∃ v : Int32, xs (nI (5 * t) + 4).toNatClampNeg = v := ⟨_, rfl⟩
  obtain ⟨κ, ra, z, sg, G, we, pd, nl, la, lp, li, ll, μ, x, A, B, hI, hL, hM, hκ, hμ, hRS, hx0⟩ := hQ
  subst hκ
  subst hμ
  have hRS' := hRS
  obtain ⟨hT, hRK, hE, hRD, hLL, hRP⟩ := hRS'
  have hnl := hLL.1
  have hx5 := hLL.2.1
  have hcr := hLL.cr
  have hbo := hLL.2.2.2.1
  have hbz := hLL.bz
  obtain ⟨dd, hdd⟩ := rD.dd hRD
  refine lv_aload_n hx hb d_LW_law_290 rfl (lv_at hl 1 rfl) ?_
  refine lv_aload_n hx hb d_LW_law_291 rfl (lv_at hl 0 rfl) ?_
  refine lv_iload hx hb d_LW_law_292 (lv_at hl 4 rfl) ?_
  refine lv_iconst (v := 1) hx hb d_LW_law_294 (by decide) ?_
  refine lv_iadd hx hb d_LW_law_295 ?_
  refine lw_sld hx hb hX hbl hbA hS i1 e1 d_LW_law_296 ?_
  refine lv_aload_n hx hb d_LW_law_297 rfl (lv_at hl 0 rfl) ?_
  refine lv_iload hx hb d_LW_law_298 (lv_at hl 4 rfl) ?_
  refine lv_iconst (v := 2) hx hb d_LW_law_300 (by decide) ?_
  refine lv_iadd hx hb d_LW_law_301 ?_
  refine lw_sld hx hb hX hbl hbA hS i2 e2 d_LW_law_302 ?_
  refine lv_aload_n hx hb d_LW_law_303 rfl (lv_at hl 0 rfl) ?_
  refine lv_iload hx hb d_LW_law_304 (lv_at hl 4 rfl) ?_
  refine lv_iconst (v := 3) hx hb d_LW_law_306 (by decide) ?_
  refine lv_iadd hx hb d_LW_law_307 ?_
  refine lw_sld hx hb hX hbl hbA hS i3 e3 d_LW_law_308 ?_
  refine lv_aload_n hx hb d_LW_law_309 rfl (lv_at hl 0 rfl) ?_
  refine lv_iload hx hb d_LW_law_310 (lv_at hl 4 rfl) ?_
  refine lv_iconst (v := 4) hx hb d_LW_law_312 (by decide) ?_
  refine lv_iadd hx hb d_LW_law_313 ?_
  refine lw_sld hx hb hX hbl hbA hS i4 e4 d_LW_law_314 ?_
  have hP1 := lw_a1 hP
  have hD1 := lw_d1 hD
  refine gx_fcalli (wr := wm ++ [(o, .inl (cJ, 1, .inr (.inl ov)))]) (wc := wc) (va_runV (As := [.int v1, .int v2, .int v3, .int v4]) (rest := []) ⟨hx, hb, hml, hown, gx_nil⟩ (c_PB_discount F hI _ v1 v2 v3 v4) ⟨gx_cb (hg _ k_175) (hg _ k_1) (hg _ k_172) nd_PB_discount ⟨by decide, by decide⟩, hg _ k_173, hg _ k_174⟩ (gx_preV hV (gx_right hP1) (gx_rightD hD1) hS hA0 (va_recv hK (gx_right hP1) rfl hI.1)) rfl rfl hl.1 rfl (lv_room (Nat.le_of_ble_eq_true rfl)) d_LW_law_315 ⟨lw_rc (by omega), lw_rs (by omega)⟩) hP1 hD1 hS hA (fun r w1 H locs hc hP hD hS => ?_)
  replace hP := gx_swap (lw_a2 hP)
  replace hD := gx_swapD (lw_d2 hD)
  refine lv_aload_n hx hb d_LW_law_318 rfl (lv_at hl 2 rfl) ?_
  refine lv_aload_n hx hb d_LW_law_319 rfl (lv_at hl 0 rfl) ?_
  refine lv_iload hx hb d_LW_law_320 (lv_at hl 4 rfl) ?_
  refine lv_iconst (v := 1) hx hb d_LW_law_322 (by decide) ?_
  refine lv_iadd hx hb d_LW_law_323 ?_
  refine lw_sld hx hb hX hbl hbA hS i1 e1 d_LW_law_324 ?_
  refine lv_aload_n hx hb d_LW_law_325 rfl (lv_at hl 0 rfl) ?_
  refine lv_iload hx hb d_LW_law_326 (lv_at hl 4 rfl) ?_
  refine lv_iconst (v := 2) hx hb d_LW_law_328 (by decide) ?_
  refine lv_iadd hx hb d_LW_law_329 ?_
  refine lw_sld hx hb hX hbl hbA hS i2 e2 d_LW_law_330 ?_
  refine lv_aload_n hx hb d_LW_law_331 rfl (lv_at hl 0 rfl) ?_
  refine lv_iload hx hb d_LW_law_332 (lv_at hl 4 rfl) ?_
  refine lv_iconst (v := 3) hx hb d_LW_law_334 (by decide) ?_
  refine lv_iadd hx hb d_LW_law_335 ?_
  refine lw_sld hx hb hX hbl hbA hS i3 e3 d_LW_law_336 ?_
  refine lv_aload_n hx hb d_LW_law_337 rfl (lv_at hl 0 rfl) ?_
  refine lv_iload hx hb d_LW_law_338 (lv_at hl 4 rfl) ?_
  refine lv_iconst (v := 4) hx hb d_LW_law_340 (by decide) ?_
  refine lv_iadd hx hb d_LW_law_341 ?_
  refine lw_sld hx hb hX hbl hbA hS i4 e4 d_LW_law_342 ?_
  refine gx_fcalli (wr := (o, .inl (cJ, 1, .inr (.inl ov))) :: w1) (wc := wm) (va_runV (As := [.int v1, .int v2, .int v3, .int v4]) (rest := [.int r]) ⟨hx, hb, hml, hown, gx_nil⟩ (c_MD_discount F hM _ (fun q hq => ⟨dd q, hdd q hq⟩) v1 v2 v3 v4) ⟨gx_cb (hg _ k_677) (hg _ k_7) (hg _ k_674) nd_MD_discount ⟨by decide, by decide⟩, hg _ k_675, hg _ k_676⟩ (gx_preV hV (gx_right hP) (gx_rightD hD) hS hA0 (va_recv hK (gx_right hP) rfl hM.1)) rfl rfl hl.1 rfl (lv_room (Nat.le_of_ble_eq_true rfl)) d_LW_law_343 ⟨lw_rc (by omega), lw_rs (by omega)⟩) hP hD hS hA (fun b9 wm9 H locs hm hP hD hS => ?_)
  obtain ⟨hQ9, er⟩ := op_discount hI hL rfl rfl hRS v1 v2 v3 v4  hc hm
  refine lv_icmp_eq (tgt := 948) hx hb d_LW_law_346 (by decide) (fun c9 => ?_) (fun c9 => absurd er c9)
  exact W.widen (k := 92 + 13 * (t + 1)) (n := 3248 + 2460 * (t + 1)) (by omega) (by omega) (kk _ _ _ _ _ _ _ hQ9 (gx_swap hP) (gx_swapD hD) hS (lv_sub hl [0, 1, 2, 3, 4] rfl))

set_option maxRecDepth 100000 in
set_option maxHeartbeats 4000000 in
theorem lo_bill (F : FX l s D cI cC cJ cII cO cZ) (C0 : lw_At p s m meth c b L xs) (hN : L ≤ 2560) {wc wm : va_W} {xa ma o t : Nat} {ov : Nat → Int64} {t0 : Int32} {H : Heap} {locs : List Loc} {ls : Array Slot} (ht : 5 * t + 5 ≤ L) (hQ : rQ F xa ma wc wm t0) (hP : va_P D classes (wm ++ (o, .inl (cJ, 1, .inr (.inl ov))) :: wc) H) (hD : va_D (gx_A0 s) (wm ++ (o, .inl (cJ, 1, .inr (.inl ov))) :: wc)) (hS : va_S (gx_A0 s) s.heap H locs) (hl : lv_has ls 8 [(0, .ref b), (1, .ref xa), (2, .ref ma), (3, .ref o), (4, .int (nI (5 * t)))]) (kk : ∀ (wc wm : va_W) (ov : Nat → Int64) (t0 : Int32) (H : Heap) (locs : List Loc) (ls : Array Slot), rQ F xa ma wc wm t0 → va_P D classes (wm ++ (o, .inl (cJ, 1, .inr (.inl ov))) :: wc) H → va_D (gx_A0 s) (wm ++ (o, .inl (cJ, 1, .inr (.inl ov))) :: wc) → va_S (gx_A0 s) s.heap H locs → lv_has ls 8 [(0, .ref b), (1, .ref xa), (2, .ref ma), (3, .ref o), (4, .int (nI (5 * t)))] → W p l e room_1 s m #[Value.ref b] below meth c H locs (92 + 13 * (t + 1)) (3248 + 2460 * (t + 1)) (lw_Z below #[Value.ref b] s) (F0 m 948 ls [])) : W p l e room_1 s m #[Value.ref b] below meth c H locs (92 + 13 * t) (3248 + 2460 * t) (lw_Z below #[Value.ref b] s) (F0 m 351 ls []) := by
  obtain ⟨hx, hb, hr, hml, hown, hts, hX, hbl, hlocks, hgv⟩ := C0
  have hown : s.vm.findClass "PortBillsLaw" = some m.cls := hown
  have hV : gx_V s s := gx_Vrf
  have hg := fx_g F hV #[Value.ref b]
  have hK := fx_k F hV
  have hA : ∀ q, s.heap.size ≤ q → gx_A0 s q := fun _ h => h
  have hA0 : ∀ q, gx_A0 s q → s.heap.size ≤ q := fun _ h => h
  have hbA : ¬ gx_A0 s b := Nat.not_le.mpr hbl
  have i1 : vp_in (nI (5 * t) + 1) L := lw_in 1 (by omega) (by omega)
  have i2 : vp_in (nI (5 * t) + 2) L := lw_in 2 (by omega) (by omega)
  have i3 : vp_in (nI (5 * t) + 3) L := lw_in 3 (by omega) (by omega)
  have i4 : vp_in (nI (5 * t) + 4) L := lw_in 4 (by omega) (by omega)
  obtain ⟨v1, e1⟩ : ∃ v : Int32, xs (nI (5 * t) + 1).toNatClampNeg = v := ⟨_, rfl⟩
  obtain ⟨v2, e2⟩ : ∃ v : Int32, xs (nI (5 * t) + 2).toNatClampNeg = v := ⟨_, rfl⟩
  obtain ⟨v3, e3⟩ : ∃ v : Int32, xs (nI (5 * t) + 3).toNatClampNeg = v := ⟨_, rfl⟩
  obtain ⟨v4, e4⟩ : ∃ v : Int32, xs (nI (5 * t) + 4).toNatClampNeg = v := ⟨_, rfl⟩
  obtain ⟨κ, ra, z, sg, G, we, pd, nl, la, lp, li, ll, μ, x, A, B, hI, hL, hM, hκ, hμ, hRS, hx0⟩ := hQ
  subst hκ
  subst hμ
  have hRS' := hRS
  obtain ⟨hT, hRK, hE, hRD, hLL, hRP⟩ := hRS'
  have hnl := hLL.1
  have hx5 := hLL.2.1
  have hcr := hLL.cr
  have hbo := hLL.2.2.2.1
  have hbz := hLL.bz
  obtain ⟨nw, hnw, -, hx4, -⟩ := hE
  obtain ⟨dd, hdd⟩ := rD.dd hRD
  refine lv_aload_n hx hb d_LW_law_351 rfl (lv_at hl 1 rfl) ?_
  refine lv_aload_n hx hb d_LW_law_352 rfl (lv_at hl 0 rfl) ?_
  refine lv_iload hx hb d_LW_law_353 (lv_at hl 4 rfl) ?_
  refine lv_iconst (v := 1) hx hb d_LW_law_355 (by decide) ?_
  refine lv_iadd hx hb d_LW_law_356 ?_
  refine lw_sld hx hb hX hbl hbA hS i1 e1 d_LW_law_357 ?_
  refine lv_aload_n hx hb d_LW_law_358 rfl (lv_at hl 3 rfl) ?_
  refine gx_fcalli (wr := wm) (wc := (o, .inl (cJ, 1, .inr (.inl ov))) :: wc) (vx_runSW (As := [.ref (κ 0), .int v1, .ref o]) (rest := []) ⟨hx, hb, hml, hown, gx_nil⟩ (c_LW_bill F hI hL rfl _ hnl v1) (gx_csw (hg _ k_324) (hg _ k_0) (hg _ k_322) (hg _ k_323) nd_LW_bill ⟨by decide, by decide⟩) (gx_preS hV (gx_right hP) (gx_rightD hD) hS hA0) rfl rfl hl.1 rfl (lv_room (Nat.le_of_ble_eq_true rfl)) d_LW_law_359 ⟨lw_rc (by omega), lw_rs (by omega)⟩) hP hD hS hA (fun r w1 H locs hc hP hD hS => ?_)
  replace hP := gx_swap hP
  replace hD := gx_swapD hD
  refine lv_istore (lv' := [(5, .int r), (0, .ref b), (1, .ref (κ 0)), (2, .ref (μ 0)), (3, .ref o), (4, .int (nI (5 * t)))]) hx hb d_LW_law_362 hl (by decide) rfl (fun ls hl => ?_)
  refine lv_aload_n hx hb d_LW_law_364 rfl (lv_at hl 3 rfl) ?_
  refine lv_aload_n hx hb d_LW_law_365 rfl (lv_at hl 1 rfl) ?_
  refine lv_iload hx hb d_LW_law_366 (lv_at hl 5 rfl) ?_
  refine lv_iconst (v := 1) hx hb d_LW_law_368 (by decide) ?_
  refine lv_iadd hx hb d_LW_law_369 ?_
  refine lw_sld hx hb hX hbl hbA hS i1 e1 d_LW_law_370 ?_
  refine gx_fcalli (wr := w1) (wc := wm) (va_runV (As := [.int v1]) (rest := []) ⟨hx, hb, hml, hown, gx_nil⟩ (c_MD_bill F hM _ nl hnl hx5 nw hnw hx4 dd hdd (fun k j hk hj => rD.bel hRK hRD hk hj (hdd _ (by omega)).1 (hdd _ (by omega)).2) v1) ⟨gx_cb (hg _ k_682) (hg _ k_7) (hg _ k_679) nd_MD_bill ⟨by decide, by decide⟩, hg _ k_680, hg _ k_681⟩ (gx_preV hV (gx_right hP) (gx_rightD hD) hS hA0 (va_recv hK (gx_right hP) rfl hM.1)) rfl rfl hl.1 rfl (lv_room (Nat.le_of_ble_eq_true rfl)) d_LW_law_371 ⟨lw_rc (by omega), lw_rs (by omega)⟩) hP hD hS hA (fun b9 wm9 H locs hm hP hD hS => ?_)
  obtain ⟨wc9, ov9, ew, hQ9, hov⟩ := op_bill hI hL rfl rfl hRS v1 hnw hx4 hdd hc hm
  subst ew
  have hQ8 := hQ9
  obtain ⟨-, -, -, -, -, -, -, -, -, -, -, -, μ9, x9, A9, B9, -, -, hM9, -, hμ9, -, hx9⟩ := hQ8
  have hthr := c_MD_thrown F hM9 H.size
  rw [hμ9] at hthr
  have hrc := va_recv (q := (R_MD, F_MD, 23)) (ci := iMD) hK (gx_right hP) rfl hM9.1
  rw [hμ9] at hrc
  refine lv_istore (lv' := [(6, .int b9), (5, .int r), (0, .ref b), (1, .ref (κ 0)), (2, .ref (μ 0)), (3, .ref o), (4, .int (nI (5 * t)))]) hx hb d_LW_law_374 hl (by decide) rfl (fun ls hl => ?_)
  refine lv_aload_n hx hb d_LW_law_376 rfl (lv_at hl 4 rfl) ?_
  refine gx_readi (va_runV (As := []) (rest := []) ⟨hx, hb, hml, hown, gx_nil⟩ hthr ⟨gx_cb (hg _ k_630) (hg _ k_7) (hg _ k_627) nd_MD_thrown ⟨by decide, by decide⟩, hg _ k_628, hg _ k_629⟩ (gx_preV hV (gx_right hP) (gx_rightD hD) hS hA0 hrc) rfl rfl hl.1 rfl (lv_room (Nat.le_of_ble_eq_true rfl)) d_LW_law_377 ⟨lw_rc (by omega), lw_rs (by omega)⟩) (fun r9 h9 => ?_)
  have er : r9 = r := h9.trans hx9
  refine lv_iload hx hb d_LW_law_380 (lv_at hl 1 rfl) ?_
  refine lv_icmp_eq (tgt := 387) hx hb d_LW_law_382 (by decide) (fun c2 => ?_) (fun c2 => absurd er c2)
  refine lv_iload hx hb d_LW_law_387 (lv_at hl 1 rfl) ?_
  refine lv_if_ne (tgt := 404) hx hb d_LW_law_389 (by decide) (fun c3 => ?_) (fun c3 => ?_)
  · skip
    refine lv_goto (tgt := 948) hx hb d_LW_law_404 (by decide) ?_
    exact W.widen (k := 92 + 13 * (t + 1)) (n := 3248 + 2460 * (t + 1)) (by omega) (by omega) (kk _ _ _ _ _ _ _ hQ9 (gx_swap hP) (gx_swapD hD) hS (lv_sub hl [2, 3, 4, 5, 6] rfl))
  · skip
    refine lv_aload_n hx hb d_LW_law_392 rfl (lv_at hl 5 rfl) ?_
    refine lv_iconst (v := 0) hx hb d_LW_law_393 (by decide) ?_
    refine gx_ll hx hb hK hP 0 2 (show ((o, .inl (cJ, 1, .inr (.inl ov9))) :: wc9 ++ wm9)[0]? = _ from rfl) rfl 0 (by decide) (by decide) (by decide) d_LW_law_394 ?_
    refine lv_iload hx hb d_LW_law_395 (lv_at hl 0 rfl) ?_
    refine lv_i2l (v := b9.toInt64) hx hb d_LW_law_397 (rfl) ?_
    refine W.lcmp hx hb d_LW_law_398 ?_
    refine lv_if_eq (tgt := 404) hx hb d_LW_law_399 (by decide) (fun c4 => ?_) (fun c4 => absurd (by rw [hov c3]; exact lw_cmp _) c4)
    refine lv_goto (tgt := 948) hx hb d_LW_law_404 (by decide) ?_
    exact W.widen (k := 92 + 13 * (t + 1)) (n := 3248 + 2460 * (t + 1)) (by omega) (by omega) (kk _ _ _ _ _ _ _ hQ9 (gx_swap hP) (gx_swapD hD) hS (lv_sub hl [2, 3, 4, 5, 6] rfl))

set_option maxRecDepth 100000 in
set_option maxHeartbeats 4000000 in
theorem lo_correct (F : FX l s D cI cC cJ cII cO cZ) (C0 : lw_At p s m meth c b L xs) (hN : L ≤ 2560) {wc wm : va_W} {xa ma o t : Nat} {ov : Nat → Int64} {t0 : Int32} {H : Heap} {locs : List Loc} {ls : Array Slot} (ht : 5 * t + 5 ≤ L) (hQ : rQ F xa ma wc wm t0) (hP : va_P D classes (wm ++ (o, .inl (cJ, 1, .inr (.inl ov))) :: wc) H) (hD : va_D (gx_A0 s) (wm ++ (o, .inl (cJ, 1, .inr (.inl ov))) :: wc)) (hS : va_S (gx_A0 s) s.heap H locs) (hl : lv_has ls 8 [(0, .ref b), (1, .ref xa), (2, .ref ma), (3, .ref o), (4, .int (nI (5 * t)))]) (kk : ∀ (wc wm : va_W) (ov : Nat → Int64) (t0 : Int32) (H : Heap) (locs : List Loc) (ls : Array Slot), rQ F xa ma wc wm t0 → va_P D classes (wm ++ (o, .inl (cJ, 1, .inr (.inl ov))) :: wc) H → va_D (gx_A0 s) (wm ++ (o, .inl (cJ, 1, .inr (.inl ov))) :: wc) → va_S (gx_A0 s) s.heap H locs → lv_has ls 8 [(0, .ref b), (1, .ref xa), (2, .ref ma), (3, .ref o), (4, .int (nI (5 * t)))] → W p l e room_1 s m #[Value.ref b] below meth c H locs (92 + 13 * (t + 1)) (3248 + 2460 * (t + 1)) (lw_Z below #[Value.ref b] s) (F0 m 948 ls [])) : W p l e room_1 s m #[Value.ref b] below meth c H locs (92 + 13 * t) (3248 + 2460 * t) (lw_Z below #[Value.ref b] s) (F0 m 407 ls []) := by
  obtain ⟨hx, hb, hr, hml, hown, hts, hX, hbl, hlocks, hgv⟩ := C0
  have hown : s.vm.findClass "PortBillsLaw" = some m.cls := hown
  have hV : gx_V s s := gx_Vrf
  have hg := fx_g F hV #[Value.ref b]
  have hK := fx_k F hV
  have hA : ∀ q, s.heap.size ≤ q → gx_A0 s q := fun _ h => h
  have hA0 : ∀ q, gx_A0 s q → s.heap.size ≤ q := fun _ h => h
  have hbA : ¬ gx_A0 s b := Nat.not_le.mpr hbl
  have i1 : vp_in (nI (5 * t) + 1) L := lw_in 1 (by omega) (by omega)
  have i2 : vp_in (nI (5 * t) + 2) L := lw_in 2 (by omega) (by omega)
  have i3 : vp_in (nI (5 * t) + 3) L := lw_in 3 (by omega) (by omega)
  have i4 : vp_in (nI (5 * t) + 4) L := lw_in 4 (by omega) (by omega)
  obtain ⟨v1, e1⟩ : ∃ v : Int32, xs (nI (5 * t) + 1).toNatClampNeg = v := ⟨_, rfl⟩
  obtain ⟨v2, e2⟩ : ∃ v : Int32, xs (nI (5 * t) + 2).toNatClampNeg = v := ⟨_, rfl⟩
  obtain ⟨v3, e3⟩ : ∃ v : Int32, xs (nI (5 * t) + 3).toNatClampNeg = v := ⟨_, rfl⟩
  obtain ⟨v4, e4⟩ : ∃ v : Int32, xs (nI (5 * t) + 4).toNatClampNeg = v := ⟨_, rfl⟩
  obtain ⟨κ, ra, z, sg, G, we, pd, nl, la, lp, li, ll, μ, x, A, B, hI, hL, hM, hκ, hμ, hRS, hx0⟩ := hQ
  subst hκ
  subst hμ
  have hRS' := hRS
  obtain ⟨hT, hRK, hE, hRD, hLL, hRP⟩ := hRS'
  have hnl := hLL.1
  have hx5 := hLL.2.1
  have hcr := hLL.cr
  have hbo := hLL.2.2.2.1
  have hbz := hLL.bz
  refine lv_aload_n hx hb d_LW_law_407 rfl (lv_at hl 1 rfl) ?_
  refine lv_aload_n hx hb d_LW_law_408 rfl (lv_at hl 0 rfl) ?_
  refine lv_iload hx hb d_LW_law_409 (lv_at hl 4 rfl) ?_
  refine lv_iconst (v := 1) hx hb d_LW_law_411 (by decide) ?_
  refine lv_iadd hx hb d_LW_law_412 ?_
  refine lw_sld hx hb hX hbl hbA hS i1 e1 d_LW_law_413 ?_
  refine lv_aload_n hx hb d_LW_law_414 rfl (lv_at hl 0 rfl) ?_
  refine lv_iload hx hb d_LW_law_415 (lv_at hl 4 rfl) ?_
  refine lv_iconst (v := 2) hx hb d_LW_law_417 (by decide) ?_
  refine lv_iadd hx hb d_LW_law_418 ?_
  refine lw_sld hx hb hX hbl hbA hS i2 e2 d_LW_law_419 ?_
  refine lv_i2l (v := v2.toInt64) hx hb d_LW_law_420 (rfl) ?_
  refine lv_bipush (v := 32) hx hb d_LW_law_421 (by decide) ?_
  refine lv_lshl (v := v2.toInt64 <<< ((32 : Int32).toInt64 &&& 63)) hx hb d_LW_law_423 (rfl) ?_
  refine lv_aload_n hx hb d_LW_law_424 rfl (lv_at hl 0 rfl) ?_
  refine lv_iload hx hb d_LW_law_425 (lv_at hl 4 rfl) ?_
  refine lv_iconst (v := 3) hx hb d_LW_law_427 (by decide) ?_
  refine lv_iadd hx hb d_LW_law_428 ?_
  refine lw_sld hx hb hX hbl hbA hS i3 e3 d_LW_law_429 ?_
  refine lv_i2l (v := v3.toInt64) hx hb d_LW_law_430 (rfl) ?_
  refine lv_ldc2 (v := 4294967295) hx hb hown (hg _ k_746) d_LW_law_431 ?_
  refine lv_land hx hb d_LW_law_434 ?_
  refine lv_lor hx hb d_LW_law_435 ?_
  refine lv_aload_n hx hb d_LW_law_436 rfl (lv_at hl 3 rfl) ?_
  refine gx_fcalli (wr := wm) (wc := (o, .inl (cJ, 1, .inr (.inl ov))) :: wc) (vx_runSW (As := [.ref (κ 0), .int v1, .long ((v2.toInt64 <<< ((32 : Int32).toInt64 &&& 63)) ||| (v3.toInt64 &&& (4294967295 : Int64))), .ref o]) (rest := []) ⟨hx, hb, hml, hown, gx_nil⟩ (c_LW_correct F hI hL rfl _ hnl hbz v1 ((v2.toInt64 <<< ((32 : Int32).toInt64 &&& 63)) ||| (v3.toInt64 &&& (4294967295 : Int64)))) (gx_csw (hg _ k_450) (hg _ k_0) (hg _ k_448) (hg _ k_449) nd_LW_correct ⟨by decide, by decide⟩) (gx_preS hV (gx_right hP) (gx_rightD hD) hS hA0) rfl rfl hl.1 rfl (lv_room (Nat.le_of_ble_eq_true rfl)) d_LW_law_437 ⟨lw_rc (by omega), lw_rs (by omega)⟩) hP hD hS hA (fun r w1 H locs hc hP hD hS => ?_)
  replace hP := gx_swap hP
  replace hD := gx_swapD hD
  refine lv_istore (lv' := [(5, .int r), (0, .ref b), (1, .ref (κ 0)), (2, .ref (μ 0)), (3, .ref o), (4, .int (nI (5 * t)))]) hx hb d_LW_law_440 hl (by decide) rfl (fun ls hl => ?_)
  refine lv_aload_n hx hb d_LW_law_442 rfl (lv_at hl 3 rfl) ?_
  refine lv_aload_n hx hb d_LW_law_443 rfl (lv_at hl 1 rfl) ?_
  refine lv_iload hx hb d_LW_law_444 (lv_at hl 5 rfl) ?_
  refine lv_iconst (v := 1) hx hb d_LW_law_446 (by decide) ?_
  refine lv_iadd hx hb d_LW_law_447 ?_
  refine lw_sld hx hb hX hbl hbA hS i1 e1 d_LW_law_448 ?_
  refine lv_aload_n hx hb d_LW_law_449 rfl (lv_at hl 1 rfl) ?_
  refine lv_iload hx hb d_LW_law_450 (lv_at hl 5 rfl) ?_
  refine lv_iconst (v := 2) hx hb d_LW_law_452 (by decide) ?_
  refine lv_iadd hx hb d_LW_law_453 ?_
  refine lw_sld hx hb hX hbl hbA hS i2 e2 d_LW_law_454 ?_
  refine lv_i2l (v := v2.toInt64) hx hb d_LW_law_455 (rfl) ?_
  refine lv_bipush (v := 32) hx hb d_LW_law_456 (by decide) ?_
  refine lv_lshl (v := v2.toInt64 <<< ((32 : Int32).toInt64 &&& 63)) hx hb d_LW_law_458 (rfl) ?_
  refine lv_aload_n hx hb d_LW_law_459 rfl (lv_at hl 1 rfl) ?_
  refine lv_iload hx hb d_LW_law_460 (lv_at hl 5 rfl) ?_
  refine lv_iconst (v := 3) hx hb d_LW_law_462 (by decide) ?_
  refine lv_iadd hx hb d_LW_law_463 ?_
  refine lw_sld hx hb hX hbl hbA hS i3 e3 d_LW_law_464 ?_
  refine lv_i2l (v := v3.toInt64) hx hb d_LW_law_465 (rfl) ?_
  refine lv_ldc2 (v := 4294967295) hx hb hown (hg _ k_746) d_LW_law_466 ?_
  refine lv_land hx hb d_LW_law_469 ?_
  refine lv_lor hx hb d_LW_law_470 ?_
  refine gx_fcalli (wr := w1) (wc := wm) (va_runV (As := [.int v1, .long ((v2.toInt64 <<< ((32 : Int32).toInt64 &&& 63)) ||| (v3.toInt64 &&& (4294967295 : Int64)))]) (rest := []) ⟨hx, hb, hml, hown, gx_nil⟩ (c_MD_correct F hM _ nl hnl hx5 v1 ((v2.toInt64 <<< ((32 : Int32).toInt64 &&& 63)) ||| (v3.toInt64 &&& (4294967295 : Int64)))) ⟨gx_cb (hg _ k_703) (hg _ k_7) (hg _ k_700) nd_MD_correct ⟨by decide, by decide⟩, hg _ k_701, hg _ k_702⟩ (gx_preV hV (gx_right hP) (gx_rightD hD) hS hA0 (va_recv hK (gx_right hP) rfl hM.1)) rfl rfl hl.1 rfl (lv_room (Nat.le_of_ble_eq_true rfl)) d_LW_law_471 ⟨lw_rc (by omega), lw_rs (by omega)⟩) hP hD hS hA (fun b9 wm9 H locs hm hP hD hS => ?_)
  obtain ⟨wc9, ov9, ew, hQ9, hov⟩ := op_correct hI hL rfl rfl hRS v1 ((v2.toInt64 <<< ((32 : Int32).toInt64 &&& 63)) ||| (v3.toInt64 &&& (4294967295 : Int64)))  hc hm
  subst ew
  have hQ8 := hQ9
  obtain ⟨-, -, -, -, -, -, -, -, -, -, -, -, μ9, x9, A9, B9, -, -, hM9, -, hμ9, -, hx9⟩ := hQ8
  have hthr := c_MD_thrown F hM9 H.size
  rw [hμ9] at hthr
  have hrc := va_recv (q := (R_MD, F_MD, 23)) (ci := iMD) hK (gx_right hP) rfl hM9.1
  rw [hμ9] at hrc
  refine lv_istore (lv' := [(6, .int b9), (5, .int r), (0, .ref b), (1, .ref (κ 0)), (2, .ref (μ 0)), (3, .ref o), (4, .int (nI (5 * t)))]) hx hb d_LW_law_474 hl (by decide) rfl (fun ls hl => ?_)
  refine lv_aload_n hx hb d_LW_law_476 rfl (lv_at hl 4 rfl) ?_
  refine gx_readi (va_runV (As := []) (rest := []) ⟨hx, hb, hml, hown, gx_nil⟩ hthr ⟨gx_cb (hg _ k_630) (hg _ k_7) (hg _ k_627) nd_MD_thrown ⟨by decide, by decide⟩, hg _ k_628, hg _ k_629⟩ (gx_preV hV (gx_right hP) (gx_rightD hD) hS hA0 hrc) rfl rfl hl.1 rfl (lv_room (Nat.le_of_ble_eq_true rfl)) d_LW_law_477 ⟨lw_rc (by omega), lw_rs (by omega)⟩) (fun r9 h9 => ?_)
  have er : r9 = r := h9.trans hx9
  refine lv_iload hx hb d_LW_law_480 (lv_at hl 1 rfl) ?_
  refine lv_icmp_eq (tgt := 487) hx hb d_LW_law_482 (by decide) (fun c2 => ?_) (fun c2 => absurd er c2)
  refine lv_iload hx hb d_LW_law_487 (lv_at hl 1 rfl) ?_
  refine lv_if_ne (tgt := 504) hx hb d_LW_law_489 (by decide) (fun c3 => ?_) (fun c3 => ?_)
  · skip
    refine lv_goto (tgt := 948) hx hb d_LW_law_504 (by decide) ?_
    exact W.widen (k := 92 + 13 * (t + 1)) (n := 3248 + 2460 * (t + 1)) (by omega) (by omega) (kk _ _ _ _ _ _ _ hQ9 (gx_swap hP) (gx_swapD hD) hS (lv_sub hl [2, 3, 4, 5, 6] rfl))
  · skip
    refine lv_aload_n hx hb d_LW_law_492 rfl (lv_at hl 5 rfl) ?_
    refine lv_iconst (v := 0) hx hb d_LW_law_493 (by decide) ?_
    refine gx_ll hx hb hK hP 0 2 (show ((o, .inl (cJ, 1, .inr (.inl ov9))) :: wc9 ++ wm9)[0]? = _ from rfl) rfl 0 (by decide) (by decide) (by decide) d_LW_law_494 ?_
    refine lv_iload hx hb d_LW_law_495 (lv_at hl 0 rfl) ?_
    refine lv_i2l (v := b9.toInt64) hx hb d_LW_law_497 (rfl) ?_
    refine W.lcmp hx hb d_LW_law_498 ?_
    refine lv_if_eq (tgt := 504) hx hb d_LW_law_499 (by decide) (fun c4 => ?_) (fun c4 => absurd (by rw [hov c3]; exact lw_cmp _) c4)
    refine lv_goto (tgt := 948) hx hb d_LW_law_504 (by decide) ?_
    exact W.widen (k := 92 + 13 * (t + 1)) (n := 3248 + 2460 * (t + 1)) (by omega) (by omega) (kk _ _ _ _ _ _ _ hQ9 (gx_swap hP) (gx_swapD hD) hS (lv_sub hl [2, 3, 4, 5, 6] rfl))

set_option maxRecDepth 100000 in
set_option maxHeartbeats 4000000 in
theorem lo_dispute (F : FX l s D cI cC cJ cII cO cZ) (C0 : lw_At p s m meth c b L xs) (hN : L ≤ 2560) {wc wm : va_W} {xa ma o t : Nat} {ov : Nat → Int64} {t0 : Int32} {H : Heap} {locs : List Loc} {ls : Array Slot} (ht : 5 * t + 5 ≤ L) (hQ : rQ F xa ma wc wm t0) (hP : va_P D classes (wm ++ (o, .inl (cJ, 1, .inr (.inl ov))) :: wc) H) (hD : va_D (gx_A0 s) (wm ++ (o, .inl (cJ, 1, .inr (.inl ov))) :: wc)) (hS : va_S (gx_A0 s) s.heap H locs) (hl : lv_has ls 8 [(0, .ref b), (1, .ref xa), (2, .ref ma), (3, .ref o), (4, .int (nI (5 * t)))]) (kk : ∀ (wc wm : va_W) (ov : Nat → Int64) (t0 : Int32) (H : Heap) (locs : List Loc) (ls : Array Slot), rQ F xa ma wc wm t0 → va_P D classes (wm ++ (o, .inl (cJ, 1, .inr (.inl ov))) :: wc) H → va_D (gx_A0 s) (wm ++ (o, .inl (cJ, 1, .inr (.inl ov))) :: wc) → va_S (gx_A0 s) s.heap H locs → lv_has ls 8 [(0, .ref b), (1, .ref xa), (2, .ref ma), (3, .ref o), (4, .int (nI (5 * t)))] → W p l e room_1 s m #[Value.ref b] below meth c H locs (92 + 13 * (t + 1)) (3248 + 2460 * (t + 1)) (lw_Z below #[Value.ref b] s) (F0 m 948 ls [])) : W p l e room_1 s m #[Value.ref b] below meth c H locs (92 + 13 * t) (3248 + 2460 * t) (lw_Z below #[Value.ref b] s) (F0 m 507 ls []) := by
  obtain ⟨hx, hb, hr, hml, hown, hts, hX, hbl, hlocks, hgv⟩ := C0
  have hown : s.vm.findClass "PortBillsLaw" = some m.cls := hown
  have hV : gx_V s s := gx_Vrf
  have hg := fx_g F hV #[Value.ref b]
  have hK := fx_k F hV
  have hA : ∀ q, s.heap.size ≤ q → gx_A0 s q := fun _ h => h
  have hA0 : ∀ q, gx_A0 s q → s.heap.size ≤ q := fun _ h => h
  have hbA : ¬ gx_A0 s b := Nat.not_le.mpr hbl
  have i1 : vp_in (nI (5 * t) + 1) L := lw_in 1 (by omega) (by omega)
  have i2 : vp_in (nI (5 * t) + 2) L := lw_in 2 (by omega) (by omega)
  have i3 : vp_in (nI (5 * t) + 3) L := lw_in 3 (by omega) (by omega)
  have i4 : vp_in (nI (5 * t) + 4) L := lw_in 4 (by omega) (by omega)
  obtain ⟨v1, e1⟩ : ∃ v : Int32, xs (nI (5 * t) + 1).toNatClampNeg = v := ⟨_, rfl⟩
  obtain ⟨v2, e2⟩ : ∃ v : Int32, xs (nI (5 * t) + 2).toNatClampNeg = v := ⟨_, rfl⟩
  obtain ⟨v3, e3⟩ : ∃ v : Int32, xs (nI (5 * t) + 3).toNatClampNeg = v := ⟨_, rfl⟩
  obtain ⟨v4, e4⟩ : ∃ v : Int32, xs (nI (5 * t) + 4).toNatClampNeg = v := ⟨_, rfl⟩
  obtain ⟨κ, ra, z, sg, G, we, pd, nl, la, lp, li, ll, μ, x, A, B, hI, hL, hM, hκ, hμ, hRS, hx0⟩ := hQ
  subst hκ
  subst hμ
  have hRS' := hRS
  obtain ⟨hT, hRK, hE, hRD, hLL, hRP⟩ := hRS'
  have hnl := hLL.1
  have hx5 := hLL.2.1
  have hcr := hLL.cr
  have hbo := hLL.2.2.2.1
  have hbz := hLL.bz
  refine lv_aload_n hx hb d_LW_law_507 rfl (lv_at hl 1 rfl) ?_
  refine lv_aload_n hx hb d_LW_law_508 rfl (lv_at hl 0 rfl) ?_
  refine lv_iload hx hb d_LW_law_509 (lv_at hl 4 rfl) ?_
  refine lv_iconst (v := 1) hx hb d_LW_law_511 (by decide) ?_
  refine lv_iadd hx hb d_LW_law_512 ?_
  refine lw_sld hx hb hX hbl hbA hS i1 e1 d_LW_law_513 ?_
  refine lv_aload_n hx hb d_LW_law_514 rfl (lv_at hl 0 rfl) ?_
  refine lv_iload hx hb d_LW_law_515 (lv_at hl 4 rfl) ?_
  refine lv_iconst (v := 2) hx hb d_LW_law_517 (by decide) ?_
  refine lv_iadd hx hb d_LW_law_518 ?_
  refine lw_sld hx hb hX hbl hbA hS i2 e2 d_LW_law_519 ?_
  refine lv_if_eq (tgt := 527) hx hb d_LW_law_520 (by decide) (fun c0 => ?_) (fun c0 => ?_)
  · skip
    have hp01 : (0 : Int32) = 0 ∨ (0 : Int32) = 1 := by decide
    refine lv_iconst (v := 0) hx hb d_LW_law_527 (by decide) ?_
    refine lv_aload_n hx hb d_LW_law_528 rfl (lv_at hl 3 rfl) ?_
    refine gx_fcalli (wr := wm) (wc := (o, .inl (cJ, 1, .inr (.inl ov))) :: wc) (vx_runSW (As := [.ref (κ 0), .int v1, .int 0, .ref o]) (rest := []) ⟨hx, hb, hml, hown, gx_nil⟩ (c_LW_dispute F hI hL rfl _ hnl v1 0 hp01) (gx_csw (hg _ k_468) (hg _ k_0) (hg _ k_466) (hg _ k_467) nd_LW_dispute ⟨by decide, by decide⟩) (gx_preS hV (gx_right hP) (gx_rightD hD) hS hA0) rfl rfl hl.1 rfl (lv_room (Nat.le_of_ble_eq_true rfl)) d_LW_law_529 ⟨lw_rc (by omega), lw_rs (by omega)⟩) hP hD hS hA (fun r w1 H locs hc hP hD hS => ?_)
    replace hP := gx_swap hP
    replace hD := gx_swapD hD
    refine lv_istore (lv' := [(5, .int r), (0, .ref b), (1, .ref (κ 0)), (2, .ref (μ 0)), (3, .ref o), (4, .int (nI (5 * t)))]) hx hb d_LW_law_532 hl (by decide) rfl (fun ls hl => ?_)
    refine lv_aload_n hx hb d_LW_law_534 rfl (lv_at hl 3 rfl) ?_
    refine lv_aload_n hx hb d_LW_law_535 rfl (lv_at hl 1 rfl) ?_
    refine lv_iload hx hb d_LW_law_536 (lv_at hl 5 rfl) ?_
    refine lv_iconst (v := 1) hx hb d_LW_law_538 (by decide) ?_
    refine lv_iadd hx hb d_LW_law_539 ?_
    refine lw_sld hx hb hX hbl hbA hS i1 e1 d_LW_law_540 ?_
    refine lv_aload_n hx hb d_LW_law_541 rfl (lv_at hl 1 rfl) ?_
    refine lv_iload hx hb d_LW_law_542 (lv_at hl 5 rfl) ?_
    refine lv_iconst (v := 2) hx hb d_LW_law_544 (by decide) ?_
    refine lv_iadd hx hb d_LW_law_545 ?_
    refine lw_sld hx hb hX hbl hbA hS i2 e2 d_LW_law_546 ?_
    refine lv_if_eq (tgt := 554) hx hb d_LW_law_547 (by decide) (fun _ => ?_) (fun c1 => absurd c0 c1)
    refine lv_iconst (v := 0) hx hb d_LW_law_554 (by decide) ?_
    refine gx_fcalli (wr := w1) (wc := wm) (va_runV (As := [.int v1, .int 0]) (rest := []) ⟨hx, hb, hml, hown, gx_nil⟩ (c_MD_dispute F hM _ nl hnl hx5 v1 0 hp01) ⟨gx_cb (hg _ k_716) (hg _ k_7) (hg _ k_713) nd_MD_dispute ⟨by decide, by decide⟩, hg _ k_714, hg _ k_715⟩ (gx_preV hV (gx_right hP) (gx_rightD hD) hS hA0 (va_recv hK (gx_right hP) rfl hM.1)) rfl rfl hl.1 rfl (lv_room (Nat.le_of_ble_eq_true rfl)) d_LW_law_555 ⟨lw_rc (by omega), lw_rs (by omega)⟩) hP hD hS hA (fun b9 wm9 H locs hm hP hD hS => ?_)
    obtain ⟨wc9, ov9, ew, hQ9, hov⟩ := op_dispute hI hL rfl rfl hRS v1 0 hp01  hc hm
    subst ew
    have hQ8 := hQ9
    obtain ⟨-, -, -, -, -, -, -, -, -, -, -, -, μ9, x9, A9, B9, -, -, hM9, -, hμ9, -, hx9⟩ := hQ8
    have hthr := c_MD_thrown F hM9 H.size
    rw [hμ9] at hthr
    have hrc := va_recv (q := (R_MD, F_MD, 23)) (ci := iMD) hK (gx_right hP) rfl hM9.1
    rw [hμ9] at hrc
    refine lv_istore (lv' := [(6, .int b9), (5, .int r), (0, .ref b), (1, .ref (κ 0)), (2, .ref (μ 0)), (3, .ref o), (4, .int (nI (5 * t)))]) hx hb d_LW_law_558 hl (by decide) rfl (fun ls hl => ?_)
    refine lv_aload_n hx hb d_LW_law_560 rfl (lv_at hl 4 rfl) ?_
    refine gx_readi (va_runV (As := []) (rest := []) ⟨hx, hb, hml, hown, gx_nil⟩ hthr ⟨gx_cb (hg _ k_630) (hg _ k_7) (hg _ k_627) nd_MD_thrown ⟨by decide, by decide⟩, hg _ k_628, hg _ k_629⟩ (gx_preV hV (gx_right hP) (gx_rightD hD) hS hA0 hrc) rfl rfl hl.1 rfl (lv_room (Nat.le_of_ble_eq_true rfl)) d_LW_law_561 ⟨lw_rc (by omega), lw_rs (by omega)⟩) (fun r9 h9 => ?_)
    have er : r9 = r := h9.trans hx9
    refine lv_iload hx hb d_LW_law_564 (lv_at hl 1 rfl) ?_
    refine lv_icmp_eq (tgt := 571) hx hb d_LW_law_566 (by decide) (fun c2 => ?_) (fun c2 => absurd er c2)
    refine lv_iload hx hb d_LW_law_571 (lv_at hl 1 rfl) ?_
    refine lv_if_ne (tgt := 588) hx hb d_LW_law_573 (by decide) (fun c3 => ?_) (fun c3 => ?_)
    · skip
      refine lv_goto (tgt := 948) hx hb d_LW_law_588 (by decide) ?_
      exact W.widen (k := 92 + 13 * (t + 1)) (n := 3248 + 2460 * (t + 1)) (by omega) (by omega) (kk _ _ _ _ _ _ _ hQ9 (gx_swap hP) (gx_swapD hD) hS (lv_sub hl [2, 3, 4, 5, 6] rfl))
    · skip
      refine lv_aload_n hx hb d_LW_law_576 rfl (lv_at hl 5 rfl) ?_
      refine lv_iconst (v := 0) hx hb d_LW_law_577 (by decide) ?_
      refine gx_ll hx hb hK hP 0 2 (show ((o, .inl (cJ, 1, .inr (.inl ov9))) :: wc9 ++ wm9)[0]? = _ from rfl) rfl 0 (by decide) (by decide) (by decide) d_LW_law_578 ?_
      refine lv_iload hx hb d_LW_law_579 (lv_at hl 0 rfl) ?_
      refine lv_i2l (v := b9.toInt64) hx hb d_LW_law_581 (rfl) ?_
      refine W.lcmp hx hb d_LW_law_582 ?_
      refine lv_if_eq (tgt := 588) hx hb d_LW_law_583 (by decide) (fun c4 => ?_) (fun c4 => absurd (by rw [hov c3]; exact lw_cmp _) c4)
      refine lv_goto (tgt := 948) hx hb d_LW_law_588 (by decide) ?_
      exact W.widen (k := 92 + 13 * (t + 1)) (n := 3248 + 2460 * (t + 1)) (by omega) (by omega) (kk _ _ _ _ _ _ _ hQ9 (gx_swap hP) (gx_swapD hD) hS (lv_sub hl [2, 3, 4, 5, 6] rfl))
  · skip
    have hp01 : (1 : Int32) = 0 ∨ (1 : Int32) = 1 := by decide
    refine lv_iconst (v := 1) hx hb d_LW_law_523 (by decide) ?_
    refine lv_goto (tgt := 528) hx hb d_LW_law_524 (by decide) ?_
    refine lv_aload_n hx hb d_LW_law_528 rfl (lv_at hl 3 rfl) ?_
    refine gx_fcalli (wr := wm) (wc := (o, .inl (cJ, 1, .inr (.inl ov))) :: wc) (vx_runSW (As := [.ref (κ 0), .int v1, .int 1, .ref o]) (rest := []) ⟨hx, hb, hml, hown, gx_nil⟩ (c_LW_dispute F hI hL rfl _ hnl v1 1 hp01) (gx_csw (hg _ k_468) (hg _ k_0) (hg _ k_466) (hg _ k_467) nd_LW_dispute ⟨by decide, by decide⟩) (gx_preS hV (gx_right hP) (gx_rightD hD) hS hA0) rfl rfl hl.1 rfl (lv_room (Nat.le_of_ble_eq_true rfl)) d_LW_law_529 ⟨lw_rc (by omega), lw_rs (by omega)⟩) hP hD hS hA (fun r w1 H locs hc hP hD hS => ?_)
    replace hP := gx_swap hP
    replace hD := gx_swapD hD
    refine lv_istore (lv' := [(5, .int r), (0, .ref b), (1, .ref (κ 0)), (2, .ref (μ 0)), (3, .ref o), (4, .int (nI (5 * t)))]) hx hb d_LW_law_532 hl (by decide) rfl (fun ls hl => ?_)
    refine lv_aload_n hx hb d_LW_law_534 rfl (lv_at hl 3 rfl) ?_
    refine lv_aload_n hx hb d_LW_law_535 rfl (lv_at hl 1 rfl) ?_
    refine lv_iload hx hb d_LW_law_536 (lv_at hl 5 rfl) ?_
    refine lv_iconst (v := 1) hx hb d_LW_law_538 (by decide) ?_
    refine lv_iadd hx hb d_LW_law_539 ?_
    refine lw_sld hx hb hX hbl hbA hS i1 e1 d_LW_law_540 ?_
    refine lv_aload_n hx hb d_LW_law_541 rfl (lv_at hl 1 rfl) ?_
    refine lv_iload hx hb d_LW_law_542 (lv_at hl 5 rfl) ?_
    refine lv_iconst (v := 2) hx hb d_LW_law_544 (by decide) ?_
    refine lv_iadd hx hb d_LW_law_545 ?_
    refine lw_sld hx hb hX hbl hbA hS i2 e2 d_LW_law_546 ?_
    refine lv_if_eq (tgt := 554) hx hb d_LW_law_547 (by decide) (fun c1 => absurd c1 c0) (fun _ => ?_)
    refine lv_iconst (v := 1) hx hb d_LW_law_550 (by decide) ?_
    refine lv_goto (tgt := 555) hx hb d_LW_law_551 (by decide) ?_
    refine gx_fcalli (wr := w1) (wc := wm) (va_runV (As := [.int v1, .int 1]) (rest := []) ⟨hx, hb, hml, hown, gx_nil⟩ (c_MD_dispute F hM _ nl hnl hx5 v1 1 hp01) ⟨gx_cb (hg _ k_716) (hg _ k_7) (hg _ k_713) nd_MD_dispute ⟨by decide, by decide⟩, hg _ k_714, hg _ k_715⟩ (gx_preV hV (gx_right hP) (gx_rightD hD) hS hA0 (va_recv hK (gx_right hP) rfl hM.1)) rfl rfl hl.1 rfl (lv_room (Nat.le_of_ble_eq_true rfl)) d_LW_law_555 ⟨lw_rc (by omega), lw_rs (by omega)⟩) hP hD hS hA (fun b9 wm9 H locs hm hP hD hS => ?_)
    obtain ⟨wc9, ov9, ew, hQ9, hov⟩ := op_dispute hI hL rfl rfl hRS v1 1 hp01  hc hm
    subst ew
    have hQ8 := hQ9
    obtain ⟨-, -, -, -, -, -, -, -, -, -, -, -, μ9, x9, A9, B9, -, -, hM9, -, hμ9, -, hx9⟩ := hQ8
    have hthr := c_MD_thrown F hM9 H.size
    rw [hμ9] at hthr
    have hrc := va_recv (q := (R_MD, F_MD, 23)) (ci := iMD) hK (gx_right hP) rfl hM9.1
    rw [hμ9] at hrc
    refine lv_istore (lv' := [(6, .int b9), (5, .int r), (0, .ref b), (1, .ref (κ 0)), (2, .ref (μ 0)), (3, .ref o), (4, .int (nI (5 * t)))]) hx hb d_LW_law_558 hl (by decide) rfl (fun ls hl => ?_)
    refine lv_aload_n hx hb d_LW_law_560 rfl (lv_at hl 4 rfl) ?_
    refine gx_readi (va_runV (As := []) (rest := []) ⟨hx, hb, hml, hown, gx_nil⟩ hthr ⟨gx_cb (hg _ k_630) (hg _ k_7) (hg _ k_627) nd_MD_thrown ⟨by decide, by decide⟩, hg _ k_628, hg _ k_629⟩ (gx_preV hV (gx_right hP) (gx_rightD hD) hS hA0 hrc) rfl rfl hl.1 rfl (lv_room (Nat.le_of_ble_eq_true rfl)) d_LW_law_561 ⟨lw_rc (by omega), lw_rs (by omega)⟩) (fun r9 h9 => ?_)
    have er : r9 = r := h9.trans hx9
    refine lv_iload hx hb d_LW_law_564 (lv_at hl 1 rfl) ?_
    refine lv_icmp_eq (tgt := 571) hx hb d_LW_law_566 (by decide) (fun c2 => ?_) (fun c2 => absurd er c2)
    refine lv_iload hx hb d_LW_law_571 (lv_at hl 1 rfl) ?_
    refine lv_if_ne (tgt := 588) hx hb d_LW_law_573 (by decide) (fun c3 => ?_) (fun c3 => ?_)
    · skip
      refine lv_goto (tgt := 948) hx hb d_LW_law_588 (by decide) ?_
      exact W.widen (k := 92 + 13 * (t + 1)) (n := 3248 + 2460 * (t + 1)) (by omega) (by omega) (kk _ _ _ _ _ _ _ hQ9 (gx_swap hP) (gx_swapD hD) hS (lv_sub hl [2, 3, 4, 5, 6] rfl))
    · skip
      refine lv_aload_n hx hb d_LW_law_576 rfl (lv_at hl 5 rfl) ?_
      refine lv_iconst (v := 0) hx hb d_LW_law_577 (by decide) ?_
      refine gx_ll hx hb hK hP 0 2 (show ((o, .inl (cJ, 1, .inr (.inl ov9))) :: wc9 ++ wm9)[0]? = _ from rfl) rfl 0 (by decide) (by decide) (by decide) d_LW_law_578 ?_
      refine lv_iload hx hb d_LW_law_579 (lv_at hl 0 rfl) ?_
      refine lv_i2l (v := b9.toInt64) hx hb d_LW_law_581 (rfl) ?_
      refine W.lcmp hx hb d_LW_law_582 ?_
      refine lv_if_eq (tgt := 588) hx hb d_LW_law_583 (by decide) (fun c4 => ?_) (fun c4 => absurd (by rw [hov c3]; exact lw_cmp _) c4)
      refine lv_goto (tgt := 948) hx hb d_LW_law_588 (by decide) ?_
      exact W.widen (k := 92 + 13 * (t + 1)) (n := 3248 + 2460 * (t + 1)) (by omega) (by omega) (kk _ _ _ _ _ _ _ hQ9 (gx_swap hP) (gx_swapD hD) hS (lv_sub hl [2, 3, 4, 5, 6] rfl))

set_option maxRecDepth 100000 in
set_option maxHeartbeats 4000000 in
theorem lo_pay (F : FX l s D cI cC cJ cII cO cZ) (C0 : lw_At p s m meth c b L xs) (hN : L ≤ 2560) {wc wm : va_W} {xa ma o t : Nat} {ov : Nat → Int64} {t0 : Int32} {H : Heap} {locs : List Loc} {ls : Array Slot} (ht : 5 * t + 5 ≤ L) (hQ : rQ F xa ma wc wm t0) (hP : va_P D classes (wm ++ (o, .inl (cJ, 1, .inr (.inl ov))) :: wc) H) (hD : va_D (gx_A0 s) (wm ++ (o, .inl (cJ, 1, .inr (.inl ov))) :: wc)) (hS : va_S (gx_A0 s) s.heap H locs) (hl : lv_has ls 8 [(0, .ref b), (1, .ref xa), (2, .ref ma), (3, .ref o), (4, .int (nI (5 * t)))]) (kk : ∀ (wc wm : va_W) (ov : Nat → Int64) (t0 : Int32) (H : Heap) (locs : List Loc) (ls : Array Slot), rQ F xa ma wc wm t0 → va_P D classes (wm ++ (o, .inl (cJ, 1, .inr (.inl ov))) :: wc) H → va_D (gx_A0 s) (wm ++ (o, .inl (cJ, 1, .inr (.inl ov))) :: wc) → va_S (gx_A0 s) s.heap H locs → lv_has ls 8 [(0, .ref b), (1, .ref xa), (2, .ref ma), (3, .ref o), (4, .int (nI (5 * t)))] → W p l e room_1 s m #[Value.ref b] below meth c H locs (92 + 13 * (t + 1)) (3248 + 2460 * (t + 1)) (lw_Z below #[Value.ref b] s) (F0 m 948 ls [])) : W p l e room_1 s m #[Value.ref b] below meth c H locs (92 + 13 * t) (3248 + 2460 * t) (lw_Z below #[Value.ref b] s) (F0 m 591 ls []) := by
  obtain ⟨hx, hb, hr, hml, hown, hts, hX, hbl, hlocks, hgv⟩ := C0
  have hown : s.vm.findClass "PortBillsLaw" = some m.cls := hown
  have hV : gx_V s s := gx_Vrf
  have hg := fx_g F hV #[Value.ref b]
  have hK := fx_k F hV
  have hA : ∀ q, s.heap.size ≤ q → gx_A0 s q := fun _ h => h
  have hA0 : ∀ q, gx_A0 s q → s.heap.size ≤ q := fun _ h => h
  have hbA : ¬ gx_A0 s b := Nat.not_le.mpr hbl
  have i1 : vp_in (nI (5 * t) + 1) L := lw_in 1 (by omega) (by omega)
  have i2 : vp_in (nI (5 * t) + 2) L := lw_in 2 (by omega) (by omega)
  have i3 : vp_in (nI (5 * t) + 3) L := lw_in 3 (by omega) (by omega)
  have i4 : vp_in (nI (5 * t) + 4) L := lw_in 4 (by omega) (by omega)
  obtain ⟨v1, e1⟩ : ∃ v : Int32, xs (nI (5 * t) + 1).toNatClampNeg = v := ⟨_, rfl⟩
  obtain ⟨v2, e2⟩ : ∃ v : Int32, xs (nI (5 * t) + 2).toNatClampNeg = v := ⟨_, rfl⟩
  obtain ⟨v3, e3⟩ : ∃ v : Int32, xs (nI (5 * t) + 3).toNatClampNeg = v := ⟨_, rfl⟩
  obtain ⟨v4, e4⟩ : ∃ v : Int32, xs (nI (5 * t) + 4).toNatClampNeg = v := ⟨_, rfl⟩
  obtain ⟨κ, ra, z, sg, G, we, pd, nl, la, lp, li, ll, μ, x, A, B, hI, hL, hM, hκ, hμ, hRS, hx0⟩ := hQ
  subst hκ
  subst hμ
  have hRS' := hRS
  obtain ⟨hT, hRK, hE, hRD, hLL, hRP⟩ := hRS'
  have hnl := hLL.1
  have hx5 := hLL.2.1
  have hcr := hLL.cr
  have hbo := hLL.2.2.2.1
  have hbz := hLL.bz
  refine lv_aload_n hx hb d_LW_law_591 rfl (lv_at hl 1 rfl) ?_
  refine lv_aload_n hx hb d_LW_law_592 rfl (lv_at hl 0 rfl) ?_
  refine lv_iload hx hb d_LW_law_593 (lv_at hl 4 rfl) ?_
  refine lv_iconst (v := 1) hx hb d_LW_law_595 (by decide) ?_
  refine lv_iadd hx hb d_LW_law_596 ?_
  refine lw_sld hx hb hX hbl hbA hS i1 e1 d_LW_law_597 ?_
  refine lv_aload_n hx hb d_LW_law_598 rfl (lv_at hl 0 rfl) ?_
  refine lv_iload hx hb d_LW_law_599 (lv_at hl 4 rfl) ?_
  refine lv_iconst (v := 2) hx hb d_LW_law_601 (by decide) ?_
  refine lv_iadd hx hb d_LW_law_602 ?_
  refine lw_sld hx hb hX hbl hbA hS i2 e2 d_LW_law_603 ?_
  refine lv_i2l (v := v2.toInt64) hx hb d_LW_law_604 (rfl) ?_
  refine lv_bipush (v := 32) hx hb d_LW_law_605 (by decide) ?_
  refine lv_lshl (v := v2.toInt64 <<< ((32 : Int32).toInt64 &&& 63)) hx hb d_LW_law_607 (rfl) ?_
  refine lv_aload_n hx hb d_LW_law_608 rfl (lv_at hl 0 rfl) ?_
  refine lv_iload hx hb d_LW_law_609 (lv_at hl 4 rfl) ?_
  refine lv_iconst (v := 3) hx hb d_LW_law_611 (by decide) ?_
  refine lv_iadd hx hb d_LW_law_612 ?_
  refine lw_sld hx hb hX hbl hbA hS i3 e3 d_LW_law_613 ?_
  refine lv_i2l (v := v3.toInt64) hx hb d_LW_law_614 (rfl) ?_
  refine lv_ldc2 (v := 4294967295) hx hb hown (hg _ k_746) d_LW_law_615 ?_
  refine lv_land hx hb d_LW_law_618 ?_
  refine lv_lor hx hb d_LW_law_619 ?_
  refine lv_aload_n hx hb d_LW_law_620 rfl (lv_at hl 3 rfl) ?_
  refine gx_fcalli (wr := wm) (wc := (o, .inl (cJ, 1, .inr (.inl ov))) :: wc) (vx_runSW (As := [.ref (κ 0), .int v1, .long ((v2.toInt64 <<< ((32 : Int32).toInt64 &&& 63)) ||| (v3.toInt64 &&& (4294967295 : Int64))), .ref o]) (rest := []) ⟨hx, hb, hml, hown, gx_nil⟩ (c_LW_pay F hI hL rfl _ hnl v1 ((v2.toInt64 <<< ((32 : Int32).toInt64 &&& 63)) ||| (v3.toInt64 &&& (4294967295 : Int64)))) (gx_csw (hg _ k_476) (hg _ k_0) (hg _ k_474) (hg _ k_475) nd_LW_pay ⟨by decide, by decide⟩) (gx_preS hV (gx_right hP) (gx_rightD hD) hS hA0) rfl rfl hl.1 rfl (lv_room (Nat.le_of_ble_eq_true rfl)) d_LW_law_621 ⟨lw_rc (by omega), lw_rs (by omega)⟩) hP hD hS hA (fun r w1 H locs hc hP hD hS => ?_)
  replace hP := gx_swap hP
  replace hD := gx_swapD hD
  refine lv_istore (lv' := [(5, .int r), (0, .ref b), (1, .ref (κ 0)), (2, .ref (μ 0)), (3, .ref o), (4, .int (nI (5 * t)))]) hx hb d_LW_law_624 hl (by decide) rfl (fun ls hl => ?_)
  refine lv_aload_n hx hb d_LW_law_626 rfl (lv_at hl 3 rfl) ?_
  refine lv_aload_n hx hb d_LW_law_627 rfl (lv_at hl 1 rfl) ?_
  refine lv_iload hx hb d_LW_law_628 (lv_at hl 5 rfl) ?_
  refine lv_iconst (v := 1) hx hb d_LW_law_630 (by decide) ?_
  refine lv_iadd hx hb d_LW_law_631 ?_
  refine lw_sld hx hb hX hbl hbA hS i1 e1 d_LW_law_632 ?_
  refine lv_aload_n hx hb d_LW_law_633 rfl (lv_at hl 1 rfl) ?_
  refine lv_iload hx hb d_LW_law_634 (lv_at hl 5 rfl) ?_
  refine lv_iconst (v := 2) hx hb d_LW_law_636 (by decide) ?_
  refine lv_iadd hx hb d_LW_law_637 ?_
  refine lw_sld hx hb hX hbl hbA hS i2 e2 d_LW_law_638 ?_
  refine lv_i2l (v := v2.toInt64) hx hb d_LW_law_639 (rfl) ?_
  refine lv_bipush (v := 32) hx hb d_LW_law_640 (by decide) ?_
  refine lv_lshl (v := v2.toInt64 <<< ((32 : Int32).toInt64 &&& 63)) hx hb d_LW_law_642 (rfl) ?_
  refine lv_aload_n hx hb d_LW_law_643 rfl (lv_at hl 1 rfl) ?_
  refine lv_iload hx hb d_LW_law_644 (lv_at hl 5 rfl) ?_
  refine lv_iconst (v := 3) hx hb d_LW_law_646 (by decide) ?_
  refine lv_iadd hx hb d_LW_law_647 ?_
  refine lw_sld hx hb hX hbl hbA hS i3 e3 d_LW_law_648 ?_
  refine lv_i2l (v := v3.toInt64) hx hb d_LW_law_649 (rfl) ?_
  refine lv_ldc2 (v := 4294967295) hx hb hown (hg _ k_746) d_LW_law_650 ?_
  refine lv_land hx hb d_LW_law_653 ?_
  refine lv_lor hx hb d_LW_law_654 ?_
  refine gx_fcalll (wr := w1) (wc := wm) (va_runV (As := [.int v1, .long ((v2.toInt64 <<< ((32 : Int32).toInt64 &&& 63)) ||| (v3.toInt64 &&& (4294967295 : Int64)))]) (rest := []) ⟨hx, hb, hml, hown, gx_nil⟩ (c_MD_pay F hM _ nl hnl hx5 hcr hbo v1 ((v2.toInt64 <<< ((32 : Int32).toInt64 &&& 63)) ||| (v3.toInt64 &&& (4294967295 : Int64)))) ⟨gx_cb (hg _ k_720) (hg _ k_7) (hg _ k_717) nd_MD_pay ⟨by decide, by decide⟩, hg _ k_718, hg _ k_719⟩ (gx_preV hV (gx_right hP) (gx_rightD hD) hS hA0 (va_recv hK (gx_right hP) rfl hM.1)) rfl rfl hl.1 rfl (lv_room (Nat.le_of_ble_eq_true rfl)) d_LW_law_655 ⟨lw_rc (by omega), lw_rs (by omega)⟩) hP hD hS hA (fun b9 wm9 H locs hm hP hD hS => ?_)
  obtain ⟨wc9, ov9, ew, hQ9, hov⟩ := op_pay hI hL rfl rfl hRS v1 ((v2.toInt64 <<< ((32 : Int32).toInt64 &&& 63)) ||| (v3.toInt64 &&& (4294967295 : Int64)))  hc hm
  subst ew
  have hQ8 := hQ9
  obtain ⟨-, -, -, -, -, -, -, -, -, -, -, -, μ9, x9, A9, B9, -, -, hM9, -, hμ9, -, hx9⟩ := hQ8
  have hthr := c_MD_thrown F hM9 H.size
  rw [hμ9] at hthr
  have hrc := va_recv (q := (R_MD, F_MD, 23)) (ci := iMD) hK (gx_right hP) rfl hM9.1
  rw [hμ9] at hrc
  refine lv_lstore (lv' := [(6, .long b9), (5, .int r), (0, .ref b), (1, .ref (κ 0)), (2, .ref (μ 0)), (3, .ref o), (4, .int (nI (5 * t)))]) hx hb d_LW_law_658 hl (by decide) rfl (fun ls hl => ?_)
  refine lv_aload_n hx hb d_LW_law_660 rfl (lv_at hl 4 rfl) ?_
  refine gx_readi (va_runV (As := []) (rest := []) ⟨hx, hb, hml, hown, gx_nil⟩ hthr ⟨gx_cb (hg _ k_630) (hg _ k_7) (hg _ k_627) nd_MD_thrown ⟨by decide, by decide⟩, hg _ k_628, hg _ k_629⟩ (gx_preV hV (gx_right hP) (gx_rightD hD) hS hA0 hrc) rfl rfl hl.1 rfl (lv_room (Nat.le_of_ble_eq_true rfl)) d_LW_law_661 ⟨lw_rc (by omega), lw_rs (by omega)⟩) (fun r9 h9 => ?_)
  have er : r9 = r := h9.trans hx9
  refine lv_iload hx hb d_LW_law_664 (lv_at hl 1 rfl) ?_
  refine lv_icmp_eq (tgt := 671) hx hb d_LW_law_666 (by decide) (fun c2 => ?_) (fun c2 => absurd er c2)
  refine lv_iload hx hb d_LW_law_671 (lv_at hl 1 rfl) ?_
  refine lv_if_ne (tgt := 687) hx hb d_LW_law_673 (by decide) (fun c3 => ?_) (fun c3 => ?_)
  · skip
    refine lv_goto (tgt := 948) hx hb d_LW_law_687 (by decide) ?_
    exact W.widen (k := 92 + 13 * (t + 1)) (n := 3248 + 2460 * (t + 1)) (by omega) (by omega) (kk _ _ _ _ _ _ _ hQ9 (gx_swap hP) (gx_swapD hD) hS (lv_sub hl [2, 3, 4, 5, 6] rfl))
  · skip
    refine lv_aload_n hx hb d_LW_law_676 rfl (lv_at hl 5 rfl) ?_
    refine lv_iconst (v := 0) hx hb d_LW_law_677 (by decide) ?_
    refine gx_ll hx hb hK hP 0 2 (show ((o, .inl (cJ, 1, .inr (.inl ov9))) :: wc9 ++ wm9)[0]? = _ from rfl) rfl 0 (by decide) (by decide) (by decide) d_LW_law_678 ?_
    refine lv_lload hx hb d_LW_law_679 (lv_at hl 0 rfl) ?_
    refine W.lcmp hx hb d_LW_law_681 ?_
    refine lv_if_eq (tgt := 687) hx hb d_LW_law_682 (by decide) (fun c4 => ?_) (fun c4 => absurd (by rw [hov c3]; exact lw_cmp _) c4)
    refine lv_goto (tgt := 948) hx hb d_LW_law_687 (by decide) ?_
    exact W.widen (k := 92 + 13 * (t + 1)) (n := 3248 + 2460 * (t + 1)) (by omega) (by omega) (kk _ _ _ _ _ _ _ hQ9 (gx_swap hP) (gx_swapD hD) hS (lv_sub hl [2, 3, 4, 5, 6] rfl))

set_option maxRecDepth 100000 in
set_option maxHeartbeats 4000000 in
theorem lo_unpaid (F : FX l s D cI cC cJ cII cO cZ) (C0 : lw_At p s m meth c b L xs) (hN : L ≤ 2560) {wc wm : va_W} {xa ma o t : Nat} {ov : Nat → Int64} {t0 : Int32} {H : Heap} {locs : List Loc} {ls : Array Slot} (ht : 5 * t + 5 ≤ L) (hQ : rQ F xa ma wc wm t0) (hP : va_P D classes (wm ++ (o, .inl (cJ, 1, .inr (.inl ov))) :: wc) H) (hD : va_D (gx_A0 s) (wm ++ (o, .inl (cJ, 1, .inr (.inl ov))) :: wc)) (hS : va_S (gx_A0 s) s.heap H locs) (hl : lv_has ls 8 [(0, .ref b), (1, .ref xa), (2, .ref ma), (3, .ref o), (4, .int (nI (5 * t)))]) (kk : ∀ (wc wm : va_W) (ov : Nat → Int64) (t0 : Int32) (H : Heap) (locs : List Loc) (ls : Array Slot), rQ F xa ma wc wm t0 → va_P D classes (wm ++ (o, .inl (cJ, 1, .inr (.inl ov))) :: wc) H → va_D (gx_A0 s) (wm ++ (o, .inl (cJ, 1, .inr (.inl ov))) :: wc) → va_S (gx_A0 s) s.heap H locs → lv_has ls 8 [(0, .ref b), (1, .ref xa), (2, .ref ma), (3, .ref o), (4, .int (nI (5 * t)))] → W p l e room_1 s m #[Value.ref b] below meth c H locs (92 + 13 * (t + 1)) (3248 + 2460 * (t + 1)) (lw_Z below #[Value.ref b] s) (F0 m 948 ls [])) : W p l e room_1 s m #[Value.ref b] below meth c H locs (92 + 13 * t) (3248 + 2460 * t) (lw_Z below #[Value.ref b] s) (F0 m 690 ls []) := by
  obtain ⟨hx, hb, hr, hml, hown, hts, hX, hbl, hlocks, hgv⟩ := C0
  have hown : s.vm.findClass "PortBillsLaw" = some m.cls := hown
  have hV : gx_V s s := gx_Vrf
  have hg := fx_g F hV #[Value.ref b]
  have hK := fx_k F hV
  have hA : ∀ q, s.heap.size ≤ q → gx_A0 s q := fun _ h => h
  have hA0 : ∀ q, gx_A0 s q → s.heap.size ≤ q := fun _ h => h
  have hbA : ¬ gx_A0 s b := Nat.not_le.mpr hbl
  have i1 : vp_in (nI (5 * t) + 1) L := lw_in 1 (by omega) (by omega)
  have i2 : vp_in (nI (5 * t) + 2) L := lw_in 2 (by omega) (by omega)
  have i3 : vp_in (nI (5 * t) + 3) L := lw_in 3 (by omega) (by omega)
  have i4 : vp_in (nI (5 * t) + 4) L := lw_in 4 (by omega) (by omega)
  obtain ⟨v1, e1⟩ : ∃ v : Int32, xs (nI (5 * t) + 1).toNatClampNeg = v := ⟨_, rfl⟩
  obtain ⟨v2, e2⟩ : ∃ v : Int32, xs (nI (5 * t) + 2).toNatClampNeg = v := ⟨_, rfl⟩
  obtain ⟨v3, e3⟩ : ∃ v : Int32, xs (nI (5 * t) + 3).toNatClampNeg = v := ⟨_, rfl⟩
  obtain ⟨v4, e4⟩ : ∃ v : Int32, xs (nI (5 * t) + 4).toNatClampNeg = v := ⟨_, rfl⟩
  obtain ⟨κ, ra, z, sg, G, we, pd, nl, la, lp, li, ll, μ, x, A, B, hI, hL, hM, hκ, hμ, hRS, hx0⟩ := hQ
  subst hκ
  subst hμ
  have hRS' := hRS
  obtain ⟨hT, hRK, hE, hRD, hLL, hRP⟩ := hRS'
  have hnl := hLL.1
  have hx5 := hLL.2.1
  have hcr := hLL.cr
  have hbo := hLL.2.2.2.1
  have hbz := hLL.bz
  refine lv_aload_n hx hb d_LW_law_690 rfl (lv_at hl 1 rfl) ?_
  refine lv_aload_n hx hb d_LW_law_691 rfl (lv_at hl 0 rfl) ?_
  refine lv_iload hx hb d_LW_law_692 (lv_at hl 4 rfl) ?_
  refine lv_iconst (v := 1) hx hb d_LW_law_694 (by decide) ?_
  refine lv_iadd hx hb d_LW_law_695 ?_
  refine lw_sld hx hb hX hbl hbA hS i1 e1 d_LW_law_696 ?_
  refine lv_aload_n hx hb d_LW_law_697 rfl (lv_at hl 3 rfl) ?_
  refine gx_fcalli (wr := wm) (wc := (o, .inl (cJ, 1, .inr (.inl ov))) :: wc) (vx_runSW (As := [.ref (κ 0), .int v1, .ref o]) (rest := []) ⟨hx, hb, hml, hown, gx_nil⟩ (c_LW_unpaid F hI hL rfl _ hnl v1) (gx_csw (hg _ k_488) (hg _ k_0) (hg _ k_486) (hg _ k_487) nd_LW_unpaid ⟨by decide, by decide⟩) (gx_preS hV (gx_right hP) (gx_rightD hD) hS hA0) rfl rfl hl.1 rfl (lv_room (Nat.le_of_ble_eq_true rfl)) d_LW_law_698 ⟨lw_rc (by omega), lw_rs (by omega)⟩) hP hD hS hA (fun r w1 H locs hc hP hD hS => ?_)
  replace hP := gx_swap hP
  replace hD := gx_swapD hD
  refine lv_istore (lv' := [(5, .int r), (0, .ref b), (1, .ref (κ 0)), (2, .ref (μ 0)), (3, .ref o), (4, .int (nI (5 * t)))]) hx hb d_LW_law_701 hl (by decide) rfl (fun ls hl => ?_)
  refine lv_aload_n hx hb d_LW_law_703 rfl (lv_at hl 3 rfl) ?_
  refine lv_aload_n hx hb d_LW_law_704 rfl (lv_at hl 1 rfl) ?_
  refine lv_iload hx hb d_LW_law_705 (lv_at hl 5 rfl) ?_
  refine lv_iconst (v := 1) hx hb d_LW_law_707 (by decide) ?_
  refine lv_iadd hx hb d_LW_law_708 ?_
  refine lw_sld hx hb hX hbl hbA hS i1 e1 d_LW_law_709 ?_
  refine gx_fcalll (wr := w1) (wc := wm) (va_runV (As := [.int v1]) (rest := []) ⟨hx, hb, hml, hown, gx_nil⟩ (c_MD_unpaid F hM _ nl hnl hx5 hcr hbo v1) ⟨gx_cb (hg _ k_732) (hg _ k_7) (hg _ k_729) nd_MD_unpaid ⟨by decide, by decide⟩, hg _ k_730, hg _ k_731⟩ (gx_preV hV (gx_right hP) (gx_rightD hD) hS hA0 (va_recv hK (gx_right hP) rfl hM.1)) rfl rfl hl.1 rfl (lv_room (Nat.le_of_ble_eq_true rfl)) d_LW_law_710 ⟨lw_rc (by omega), lw_rs (by omega)⟩) hP hD hS hA (fun b9 wm9 H locs hm hP hD hS => ?_)
  obtain ⟨wc9, ov9, ew, hQ9, hov⟩ := op_unpaid hI hL rfl rfl hRS v1  hc hm
  subst ew
  have hQ8 := hQ9
  obtain ⟨-, -, -, -, -, -, -, -, -, -, -, -, μ9, x9, A9, B9, -, -, hM9, -, hμ9, -, hx9⟩ := hQ8
  have hthr := c_MD_thrown F hM9 H.size
  rw [hμ9] at hthr
  have hrc := va_recv (q := (R_MD, F_MD, 23)) (ci := iMD) hK (gx_right hP) rfl hM9.1
  rw [hμ9] at hrc
  refine lv_lstore (lv' := [(6, .long b9), (5, .int r), (0, .ref b), (1, .ref (κ 0)), (2, .ref (μ 0)), (3, .ref o), (4, .int (nI (5 * t)))]) hx hb d_LW_law_713 hl (by decide) rfl (fun ls hl => ?_)
  refine lv_aload_n hx hb d_LW_law_715 rfl (lv_at hl 4 rfl) ?_
  refine gx_readi (va_runV (As := []) (rest := []) ⟨hx, hb, hml, hown, gx_nil⟩ hthr ⟨gx_cb (hg _ k_630) (hg _ k_7) (hg _ k_627) nd_MD_thrown ⟨by decide, by decide⟩, hg _ k_628, hg _ k_629⟩ (gx_preV hV (gx_right hP) (gx_rightD hD) hS hA0 hrc) rfl rfl hl.1 rfl (lv_room (Nat.le_of_ble_eq_true rfl)) d_LW_law_716 ⟨lw_rc (by omega), lw_rs (by omega)⟩) (fun r9 h9 => ?_)
  have er : r9 = r := h9.trans hx9
  refine lv_iload hx hb d_LW_law_719 (lv_at hl 1 rfl) ?_
  refine lv_icmp_eq (tgt := 726) hx hb d_LW_law_721 (by decide) (fun c2 => ?_) (fun c2 => absurd er c2)
  refine lv_iload hx hb d_LW_law_726 (lv_at hl 1 rfl) ?_
  refine lv_if_ne (tgt := 742) hx hb d_LW_law_728 (by decide) (fun c3 => ?_) (fun c3 => ?_)
  · skip
    refine lv_goto (tgt := 948) hx hb d_LW_law_742 (by decide) ?_
    exact W.widen (k := 92 + 13 * (t + 1)) (n := 3248 + 2460 * (t + 1)) (by omega) (by omega) (kk _ _ _ _ _ _ _ hQ9 (gx_swap hP) (gx_swapD hD) hS (lv_sub hl [2, 3, 4, 5, 6] rfl))
  · skip
    refine lv_aload_n hx hb d_LW_law_731 rfl (lv_at hl 5 rfl) ?_
    refine lv_iconst (v := 0) hx hb d_LW_law_732 (by decide) ?_
    refine gx_ll hx hb hK hP 0 2 (show ((o, .inl (cJ, 1, .inr (.inl ov9))) :: wc9 ++ wm9)[0]? = _ from rfl) rfl 0 (by decide) (by decide) (by decide) d_LW_law_733 ?_
    refine lv_lload hx hb d_LW_law_734 (lv_at hl 0 rfl) ?_
    refine W.lcmp hx hb d_LW_law_736 ?_
    refine lv_if_eq (tgt := 742) hx hb d_LW_law_737 (by decide) (fun c4 => ?_) (fun c4 => absurd (by rw [hov c3]; exact lw_cmp _) c4)
    refine lv_goto (tgt := 948) hx hb d_LW_law_742 (by decide) ?_
    exact W.widen (k := 92 + 13 * (t + 1)) (n := 3248 + 2460 * (t + 1)) (by omega) (by omega) (kk _ _ _ _ _ _ _ hQ9 (gx_swap hP) (gx_swapD hD) hS (lv_sub hl [2, 3, 4, 5, 6] rfl))

set_option maxRecDepth 100000 in
set_option maxHeartbeats 4000000 in
theorem lo_share (F : FX l s D cI cC cJ cII cO cZ) (C0 : lw_At p s m meth c b L xs) (hN : L ≤ 2560) {wc wm : va_W} {xa ma o t : Nat} {ov : Nat → Int64} {t0 : Int32} {H : Heap} {locs : List Loc} {ls : Array Slot} (ht : 5 * t + 5 ≤ L) (hQ : rQ F xa ma wc wm t0) (hP : va_P D classes (wm ++ (o, .inl (cJ, 1, .inr (.inl ov))) :: wc) H) (hD : va_D (gx_A0 s) (wm ++ (o, .inl (cJ, 1, .inr (.inl ov))) :: wc)) (hS : va_S (gx_A0 s) s.heap H locs) (hl : lv_has ls 8 [(0, .ref b), (1, .ref xa), (2, .ref ma), (3, .ref o), (4, .int (nI (5 * t)))]) (kk : ∀ (wc wm : va_W) (ov : Nat → Int64) (t0 : Int32) (H : Heap) (locs : List Loc) (ls : Array Slot), rQ F xa ma wc wm t0 → va_P D classes (wm ++ (o, .inl (cJ, 1, .inr (.inl ov))) :: wc) H → va_D (gx_A0 s) (wm ++ (o, .inl (cJ, 1, .inr (.inl ov))) :: wc) → va_S (gx_A0 s) s.heap H locs → lv_has ls 8 [(0, .ref b), (1, .ref xa), (2, .ref ma), (3, .ref o), (4, .int (nI (5 * t)))] → W p l e room_1 s m #[Value.ref b] below meth c H locs (92 + 13 * (t + 1)) (3248 + 2460 * (t + 1)) (lw_Z below #[Value.ref b] s) (F0 m 948 ls [])) : W p l e room_1 s m #[Value.ref b] below meth c H locs (92 + 13 * t) (3248 + 2460 * t) (lw_Z below #[Value.ref b] s) (F0 m 745 ls []) := by
  obtain ⟨hx, hb, hr, hml, hown, hts, hX, hbl, hlocks, hgv⟩ := C0
  have hown : s.vm.findClass "PortBillsLaw" = some m.cls := hown
  have hV : gx_V s s := gx_Vrf
  have hg := fx_g F hV #[Value.ref b]
  have hK := fx_k F hV
  have hA : ∀ q, s.heap.size ≤ q → gx_A0 s q := fun _ h => h
  have hA0 : ∀ q, gx_A0 s q → s.heap.size ≤ q := fun _ h => h
  have hbA : ¬ gx_A0 s b := Nat.not_le.mpr hbl
  have i1 : vp_in (nI (5 * t) + 1) L := lw_in 1 (by omega) (by omega)
  have i2 : vp_in (nI (5 * t) + 2) L := lw_in 2 (by omega) (by omega)
  have i3 : vp_in (nI (5 * t) + 3) L := lw_in 3 (by omega) (by omega)
  have i4 : vp_in (nI (5 * t) + 4) L := lw_in 4 (by omega) (by omega)
  obtain ⟨v1, e1⟩ : ∃ v : Int32, xs (nI (5 * t) + 1).toNatClampNeg = v := ⟨_, rfl⟩
  obtain ⟨v2, e2⟩ : ∃ v : Int32, xs (nI (5 * t) + 2).toNatClampNeg = v := ⟨_, rfl⟩
  obtain ⟨v3, e3⟩ : ∃ v : Int32, xs (nI (5 * t) + 3).toNatClampNeg = v := ⟨_, rfl⟩
  obtain ⟨v4, e4⟩ : ∃ v : Int32, xs (nI (5 * t) + 4).toNatClampNeg = v := ⟨_, rfl⟩
  obtain ⟨κ, ra, z, sg, G, we, pd, nl, la, lp, li, ll, μ, x, A, B, hI, hL, hM, hκ, hμ, hRS, hx0⟩ := hQ
  subst hκ
  subst hμ
  have hRS' := hRS
  obtain ⟨hT, hRK, hE, hRD, hLL, hRP⟩ := hRS'
  have hnl := hLL.1
  have hx5 := hLL.2.1
  have hcr := hLL.cr
  have hbo := hLL.2.2.2.1
  have hbz := hLL.bz
  refine lv_aload_n hx hb d_LW_law_745 rfl (lv_at hl 1 rfl) ?_
  refine lv_aload_n hx hb d_LW_law_746 rfl (lv_at hl 0 rfl) ?_
  refine lv_iload hx hb d_LW_law_747 (lv_at hl 4 rfl) ?_
  refine lv_iconst (v := 1) hx hb d_LW_law_749 (by decide) ?_
  refine lv_iadd hx hb d_LW_law_750 ?_
  refine lw_sld hx hb hX hbl hbA hS i1 e1 d_LW_law_751 ?_
  refine lv_i2l (v := v1.toInt64) hx hb d_LW_law_752 (rfl) ?_
  refine lv_bipush (v := 32) hx hb d_LW_law_753 (by decide) ?_
  refine lv_lshl (v := v1.toInt64 <<< ((32 : Int32).toInt64 &&& 63)) hx hb d_LW_law_755 (rfl) ?_
  refine lv_aload_n hx hb d_LW_law_756 rfl (lv_at hl 0 rfl) ?_
  refine lv_iload hx hb d_LW_law_757 (lv_at hl 4 rfl) ?_
  refine lv_iconst (v := 2) hx hb d_LW_law_759 (by decide) ?_
  refine lv_iadd hx hb d_LW_law_760 ?_
  refine lw_sld hx hb hX hbl hbA hS i2 e2 d_LW_law_761 ?_
  refine lv_i2l (v := v2.toInt64) hx hb d_LW_law_762 (rfl) ?_
  refine lv_ldc2 (v := 4294967295) hx hb hown (hg _ k_746) d_LW_law_763 ?_
  refine lv_land hx hb d_LW_law_766 ?_
  refine lv_lor hx hb d_LW_law_767 ?_
  refine lv_aload_n hx hb d_LW_law_768 rfl (lv_at hl 0 rfl) ?_
  refine lv_iload hx hb d_LW_law_769 (lv_at hl 4 rfl) ?_
  refine lv_iconst (v := 3) hx hb d_LW_law_771 (by decide) ?_
  refine lv_iadd hx hb d_LW_law_772 ?_
  refine lw_sld hx hb hX hbl hbA hS i3 e3 d_LW_law_773 ?_
  refine lv_aload_n hx hb d_LW_law_774 rfl (lv_at hl 0 rfl) ?_
  refine lv_iload hx hb d_LW_law_775 (lv_at hl 4 rfl) ?_
  refine lv_iconst (v := 4) hx hb d_LW_law_777 (by decide) ?_
  refine lv_iadd hx hb d_LW_law_778 ?_
  refine lw_sld hx hb hX hbl hbA hS i4 e4 d_LW_law_779 ?_
  refine lv_aload_n hx hb d_LW_law_780 rfl (lv_at hl 3 rfl) ?_
  refine gx_fcalli (wr := wm) (wc := (o, .inl (cJ, 1, .inr (.inl ov))) :: wc) (vx_runSW (As := [.ref (κ 0), .long ((v1.toInt64 <<< ((32 : Int32).toInt64 &&& 63)) ||| (v2.toInt64 &&& (4294967295 : Int64))), .int v3, .int v4, .ref o]) (rest := []) ⟨hx, hb, hml, hown, gx_nil⟩ (c_LW_share F hI rfl _ ((v1.toInt64 <<< ((32 : Int32).toInt64 &&& 63)) ||| (v2.toInt64 &&& (4294967295 : Int64))) v3 v4) (gx_csw (hg _ k_495) (hg _ k_0) (hg _ k_493) (hg _ k_494) nd_LW_share ⟨by decide, by decide⟩) (gx_preS hV (gx_right hP) (gx_rightD hD) hS hA0) rfl rfl hl.1 rfl (lv_room (Nat.le_of_ble_eq_true rfl)) d_LW_law_781 ⟨lw_rc (by omega), lw_rs (by omega)⟩) hP hD hS hA (fun r w1 H locs hc hP hD hS => ?_)
  replace hP := gx_swap hP
  replace hD := gx_swapD hD
  refine lv_istore (lv' := [(5, .int r), (0, .ref b), (1, .ref (κ 0)), (2, .ref (μ 0)), (3, .ref o), (4, .int (nI (5 * t)))]) hx hb d_LW_law_784 hl (by decide) rfl (fun ls hl => ?_)
  refine lv_aload_n hx hb d_LW_law_786 rfl (lv_at hl 3 rfl) ?_
  refine lv_aload_n hx hb d_LW_law_787 rfl (lv_at hl 1 rfl) ?_
  refine lv_iload hx hb d_LW_law_788 (lv_at hl 5 rfl) ?_
  refine lv_iconst (v := 1) hx hb d_LW_law_790 (by decide) ?_
  refine lv_iadd hx hb d_LW_law_791 ?_
  refine lw_sld hx hb hX hbl hbA hS i1 e1 d_LW_law_792 ?_
  refine lv_i2l (v := v1.toInt64) hx hb d_LW_law_793 (rfl) ?_
  refine lv_bipush (v := 32) hx hb d_LW_law_794 (by decide) ?_
  refine lv_lshl (v := v1.toInt64 <<< ((32 : Int32).toInt64 &&& 63)) hx hb d_LW_law_796 (rfl) ?_
  refine lv_aload_n hx hb d_LW_law_797 rfl (lv_at hl 1 rfl) ?_
  refine lv_iload hx hb d_LW_law_798 (lv_at hl 5 rfl) ?_
  refine lv_iconst (v := 2) hx hb d_LW_law_800 (by decide) ?_
  refine lv_iadd hx hb d_LW_law_801 ?_
  refine lw_sld hx hb hX hbl hbA hS i2 e2 d_LW_law_802 ?_
  refine lv_i2l (v := v2.toInt64) hx hb d_LW_law_803 (rfl) ?_
  refine lv_ldc2 (v := 4294967295) hx hb hown (hg _ k_746) d_LW_law_804 ?_
  refine lv_land hx hb d_LW_law_807 ?_
  refine lv_lor hx hb d_LW_law_808 ?_
  refine lv_aload_n hx hb d_LW_law_809 rfl (lv_at hl 1 rfl) ?_
  refine lv_iload hx hb d_LW_law_810 (lv_at hl 5 rfl) ?_
  refine lv_iconst (v := 3) hx hb d_LW_law_812 (by decide) ?_
  refine lv_iadd hx hb d_LW_law_813 ?_
  refine lw_sld hx hb hX hbl hbA hS i3 e3 d_LW_law_814 ?_
  refine lv_aload_n hx hb d_LW_law_815 rfl (lv_at hl 1 rfl) ?_
  refine lv_iload hx hb d_LW_law_816 (lv_at hl 5 rfl) ?_
  refine lv_iconst (v := 4) hx hb d_LW_law_818 (by decide) ?_
  refine lv_iadd hx hb d_LW_law_819 ?_
  refine lw_sld hx hb hX hbl hbA hS i4 e4 d_LW_law_820 ?_
  refine gx_fcalll (wr := w1) (wc := wm) (va_runV (As := [.long ((v1.toInt64 <<< ((32 : Int32).toInt64 &&& 63)) ||| (v2.toInt64 &&& (4294967295 : Int64))), .int v3, .int v4]) (rest := []) ⟨hx, hb, hml, hown, gx_nil⟩ (c_MD_share F hM _  ((v1.toInt64 <<< ((32 : Int32).toInt64 &&& 63)) ||| (v2.toInt64 &&& (4294967295 : Int64))) v3 v4) ⟨gx_cb (hg _ k_736) (hg _ k_7) (hg _ k_733) nd_MD_share ⟨by decide, by decide⟩, hg _ k_734, hg _ k_735⟩ (gx_preV hV (gx_right hP) (gx_rightD hD) hS hA0 (va_recv hK (gx_right hP) rfl hM.1)) rfl rfl hl.1 rfl (lv_room (Nat.le_of_ble_eq_true rfl)) d_LW_law_821 ⟨lw_rc (by omega), lw_rs (by omega)⟩) hP hD hS hA (fun b9 wm9 H locs hm hP hD hS => ?_)
  obtain ⟨wc9, ov9, ew, hQ9, hov⟩ := op_share hI hL rfl rfl hRS ((v1.toInt64 <<< ((32 : Int32).toInt64 &&& 63)) ||| (v2.toInt64 &&& (4294967295 : Int64))) v3 v4  hc hm
  subst ew
  have hQ8 := hQ9
  obtain ⟨-, -, -, -, -, -, -, -, -, -, -, -, μ9, x9, A9, B9, -, -, hM9, -, hμ9, -, hx9⟩ := hQ8
  have hthr := c_MD_thrown F hM9 H.size
  rw [hμ9] at hthr
  have hrc := va_recv (q := (R_MD, F_MD, 23)) (ci := iMD) hK (gx_right hP) rfl hM9.1
  rw [hμ9] at hrc
  refine lv_lstore (lv' := [(6, .long b9), (5, .int r), (0, .ref b), (1, .ref (κ 0)), (2, .ref (μ 0)), (3, .ref o), (4, .int (nI (5 * t)))]) hx hb d_LW_law_824 hl (by decide) rfl (fun ls hl => ?_)
  refine lv_aload_n hx hb d_LW_law_826 rfl (lv_at hl 4 rfl) ?_
  refine gx_readi (va_runV (As := []) (rest := []) ⟨hx, hb, hml, hown, gx_nil⟩ hthr ⟨gx_cb (hg _ k_630) (hg _ k_7) (hg _ k_627) nd_MD_thrown ⟨by decide, by decide⟩, hg _ k_628, hg _ k_629⟩ (gx_preV hV (gx_right hP) (gx_rightD hD) hS hA0 hrc) rfl rfl hl.1 rfl (lv_room (Nat.le_of_ble_eq_true rfl)) d_LW_law_827 ⟨lw_rc (by omega), lw_rs (by omega)⟩) (fun r9 h9 => ?_)
  have er : r9 = r := h9.trans hx9
  refine lv_iload hx hb d_LW_law_830 (lv_at hl 1 rfl) ?_
  refine lv_icmp_eq (tgt := 837) hx hb d_LW_law_832 (by decide) (fun c2 => ?_) (fun c2 => absurd er c2)
  refine lv_iload hx hb d_LW_law_837 (lv_at hl 1 rfl) ?_
  refine lv_if_ne (tgt := 853) hx hb d_LW_law_839 (by decide) (fun c3 => ?_) (fun c3 => ?_)
  · skip
    refine lv_goto (tgt := 948) hx hb d_LW_law_853 (by decide) ?_
    exact W.widen (k := 92 + 13 * (t + 1)) (n := 3248 + 2460 * (t + 1)) (by omega) (by omega) (kk _ _ _ _ _ _ _ hQ9 (gx_swap hP) (gx_swapD hD) hS (lv_sub hl [2, 3, 4, 5, 6] rfl))
  · skip
    refine lv_aload_n hx hb d_LW_law_842 rfl (lv_at hl 5 rfl) ?_
    refine lv_iconst (v := 0) hx hb d_LW_law_843 (by decide) ?_
    refine gx_ll hx hb hK hP 0 2 (show ((o, .inl (cJ, 1, .inr (.inl ov9))) :: wc9 ++ wm9)[0]? = _ from rfl) rfl 0 (by decide) (by decide) (by decide) d_LW_law_844 ?_
    refine lv_lload hx hb d_LW_law_845 (lv_at hl 0 rfl) ?_
    refine W.lcmp hx hb d_LW_law_847 ?_
    refine lv_if_eq (tgt := 853) hx hb d_LW_law_848 (by decide) (fun c4 => ?_) (fun c4 => absurd (by rw [hov c3]; exact lw_cmp _) c4)
    refine lv_goto (tgt := 948) hx hb d_LW_law_853 (by decide) ?_
    exact W.widen (k := 92 + 13 * (t + 1)) (n := 3248 + 2460 * (t + 1)) (by omega) (by omega) (kk _ _ _ _ _ _ _ hQ9 (gx_swap hP) (gx_swapD hD) hS (lv_sub hl [2, 3, 4, 5, 6] rfl))

set_option maxRecDepth 100000 in
set_option maxHeartbeats 4000000 in
theorem lo_line (F : FX l s D cI cC cJ cII cO cZ) (C0 : lw_At p s m meth c b L xs) (hN : L ≤ 2560) {wc wm : va_W} {xa ma o t : Nat} {ov : Nat → Int64} {t0 : Int32} {H : Heap} {locs : List Loc} {ls : Array Slot} (ht : 5 * t + 5 ≤ L) (hQ : rQ F xa ma wc wm t0) (hP : va_P D classes (wm ++ (o, .inl (cJ, 1, .inr (.inl ov))) :: wc) H) (hD : va_D (gx_A0 s) (wm ++ (o, .inl (cJ, 1, .inr (.inl ov))) :: wc)) (hS : va_S (gx_A0 s) s.heap H locs) (hl : lv_has ls 8 [(0, .ref b), (1, .ref xa), (2, .ref ma), (3, .ref o), (4, .int (nI (5 * t)))]) (kk : ∀ (wc wm : va_W) (ov : Nat → Int64) (t0 : Int32) (H : Heap) (locs : List Loc) (ls : Array Slot), rQ F xa ma wc wm t0 → va_P D classes (wm ++ (o, .inl (cJ, 1, .inr (.inl ov))) :: wc) H → va_D (gx_A0 s) (wm ++ (o, .inl (cJ, 1, .inr (.inl ov))) :: wc) → va_S (gx_A0 s) s.heap H locs → lv_has ls 8 [(0, .ref b), (1, .ref xa), (2, .ref ma), (3, .ref o), (4, .int (nI (5 * t)))] → W p l e room_1 s m #[Value.ref b] below meth c H locs (92 + 13 * (t + 1)) (3248 + 2460 * (t + 1)) (lw_Z below #[Value.ref b] s) (F0 m 948 ls [])) : W p l e room_1 s m #[Value.ref b] below meth c H locs (92 + 13 * t) (3248 + 2460 * t) (lw_Z below #[Value.ref b] s) (F0 m 856 ls []) := by
  obtain ⟨hx, hb, hr, hml, hown, hts, hX, hbl, hlocks, hgv⟩ := C0
  have hown : s.vm.findClass "PortBillsLaw" = some m.cls := hown
  have hV : gx_V s s := gx_Vrf
  have hg := fx_g F hV #[Value.ref b]
  have hK := fx_k F hV
  have hA : ∀ q, s.heap.size ≤ q → gx_A0 s q := fun _ h => h
  have hA0 : ∀ q, gx_A0 s q → s.heap.size ≤ q := fun _ h => h
  have hbA : ¬ gx_A0 s b := Nat.not_le.mpr hbl
  have i1 : vp_in (nI (5 * t) + 1) L := lw_in 1 (by omega) (by omega)
  have i2 : vp_in (nI (5 * t) + 2) L := lw_in 2 (by omega) (by omega)
  have i3 : vp_in (nI (5 * t) + 3) L := lw_in 3 (by omega) (by omega)
  have i4 : vp_in (nI (5 * t) + 4) L := lw_in 4 (by omega) (by omega)
  obtain ⟨v1, e1⟩ : ∃ v : Int32, xs (nI (5 * t) + 1).toNatClampNeg = v := ⟨_, rfl⟩
  obtain ⟨v2, e2⟩ : ∃ v : Int32, xs (nI (5 * t) + 2).toNatClampNeg = v := ⟨_, rfl⟩
  obtain ⟨v3, e3⟩ : ∃ v : Int32, xs (nI (5 * t) + 3).toNatClampNeg = v := ⟨_, rfl⟩
  obtain ⟨v4, e4⟩ : ∃ v : Int32, xs (nI (5 * t) + 4).toNatClampNeg = v := ⟨_, rfl⟩
  obtain ⟨κ, ra, z, sg, G, we, pd, nl, la, lp, li, ll, μ, x, A, B, hI, hL, hM, hκ, hμ, hRS, hx0⟩ := hQ
  subst hκ
  subst hμ
  have hRS' := hRS
  obtain ⟨hT, hRK, hE, hRD, hLL, hRP⟩ := hRS'
  have hnl := hLL.1
  have hx5 := hLL.2.1
  have hcr := hLL.cr
  have hbo := hLL.2.2.2.1
  have hbz := hLL.bz
  refine lv_aload_n hx hb d_LW_law_856 rfl (lv_at hl 1 rfl) ?_
  refine lv_aload_n hx hb d_LW_law_857 rfl (lv_at hl 0 rfl) ?_
  refine lv_iload hx hb d_LW_law_858 (lv_at hl 4 rfl) ?_
  refine lv_iconst (v := 1) hx hb d_LW_law_860 (by decide) ?_
  refine lv_iadd hx hb d_LW_law_861 ?_
  refine lw_sld hx hb hX hbl hbA hS i1 e1 d_LW_law_862 ?_
  refine lv_aload_n hx hb d_LW_law_863 rfl (lv_at hl 0 rfl) ?_
  refine lv_iload hx hb d_LW_law_864 (lv_at hl 4 rfl) ?_
  refine lv_iconst (v := 2) hx hb d_LW_law_866 (by decide) ?_
  refine lv_iadd hx hb d_LW_law_867 ?_
  refine lw_sld hx hb hX hbl hbA hS i2 e2 d_LW_law_868 ?_
  refine lv_aload_n hx hb d_LW_law_869 rfl (lv_at hl 3 rfl) ?_
  refine gx_fcalli (wr := wm) (wc := (o, .inl (cJ, 1, .inr (.inl ov))) :: wc) (vx_runSW (As := [.ref (κ 0), .int v1, .int v2, .ref o]) (rest := []) ⟨hx, hb, hml, hown, gx_nil⟩ (c_LW_line F hI hL rfl _ hnl v1 v2) (gx_csw (hg _ k_524) (hg _ k_0) (hg _ k_522) (hg _ k_523) nd_LW_line ⟨by decide, by decide⟩) (gx_preS hV (gx_right hP) (gx_rightD hD) hS hA0) rfl rfl hl.1 rfl (lv_room (Nat.le_of_ble_eq_true rfl)) d_LW_law_870 ⟨lw_rc (by omega), lw_rs (by omega)⟩) hP hD hS hA (fun r w1 H locs hc hP hD hS => ?_)
  replace hP := gx_swap hP
  replace hD := gx_swapD hD
  refine lv_istore (lv' := [(5, .int r), (0, .ref b), (1, .ref (κ 0)), (2, .ref (μ 0)), (3, .ref o), (4, .int (nI (5 * t)))]) hx hb d_LW_law_873 hl (by decide) rfl (fun ls hl => ?_)
  refine lv_aload_n hx hb d_LW_law_875 rfl (lv_at hl 3 rfl) ?_
  refine lv_aload_n hx hb d_LW_law_876 rfl (lv_at hl 1 rfl) ?_
  refine lv_iload hx hb d_LW_law_877 (lv_at hl 5 rfl) ?_
  refine lv_iconst (v := 1) hx hb d_LW_law_879 (by decide) ?_
  refine lv_iadd hx hb d_LW_law_880 ?_
  refine lw_sld hx hb hX hbl hbA hS i1 e1 d_LW_law_881 ?_
  refine lv_aload_n hx hb d_LW_law_882 rfl (lv_at hl 1 rfl) ?_
  refine lv_iload hx hb d_LW_law_883 (lv_at hl 5 rfl) ?_
  refine lv_iconst (v := 2) hx hb d_LW_law_885 (by decide) ?_
  refine lv_iadd hx hb d_LW_law_886 ?_
  refine lw_sld hx hb hX hbl hbA hS i2 e2 d_LW_law_887 ?_
  refine gx_fcalll (wr := w1) (wc := wm) (va_runV (As := [.int v1, .int v2]) (rest := []) ⟨hx, hb, hml, hown, gx_nil⟩ (c_MD_line F hM _ nl hnl hx5 hcr hbo v1 v2) ⟨gx_cb (hg _ k_741) (hg _ k_7) (hg _ k_738) nd_MD_line ⟨by decide, by decide⟩, hg _ k_739, hg _ k_740⟩ (gx_preV hV (gx_right hP) (gx_rightD hD) hS hA0 (va_recv hK (gx_right hP) rfl hM.1)) rfl rfl hl.1 rfl (lv_room (Nat.le_of_ble_eq_true rfl)) d_LW_law_888 ⟨lw_rc (by omega), lw_rs (by omega)⟩) hP hD hS hA (fun b9 wm9 H locs hm hP hD hS => ?_)
  obtain ⟨wc9, ov9, ew, hQ9, hov⟩ := op_line hI hL rfl rfl hRS v1 v2  hc hm
  subst ew
  have hQ8 := hQ9
  obtain ⟨-, -, -, -, -, -, -, -, -, -, -, -, μ9, x9, A9, B9, -, -, hM9, -, hμ9, -, hx9⟩ := hQ8
  have hthr := c_MD_thrown F hM9 H.size
  rw [hμ9] at hthr
  have hrc := va_recv (q := (R_MD, F_MD, 23)) (ci := iMD) hK (gx_right hP) rfl hM9.1
  rw [hμ9] at hrc
  refine lv_lstore (lv' := [(6, .long b9), (5, .int r), (0, .ref b), (1, .ref (κ 0)), (2, .ref (μ 0)), (3, .ref o), (4, .int (nI (5 * t)))]) hx hb d_LW_law_891 hl (by decide) rfl (fun ls hl => ?_)
  refine lv_aload_n hx hb d_LW_law_893 rfl (lv_at hl 4 rfl) ?_
  refine gx_readi (va_runV (As := []) (rest := []) ⟨hx, hb, hml, hown, gx_nil⟩ hthr ⟨gx_cb (hg _ k_630) (hg _ k_7) (hg _ k_627) nd_MD_thrown ⟨by decide, by decide⟩, hg _ k_628, hg _ k_629⟩ (gx_preV hV (gx_right hP) (gx_rightD hD) hS hA0 hrc) rfl rfl hl.1 rfl (lv_room (Nat.le_of_ble_eq_true rfl)) d_LW_law_894 ⟨lw_rc (by omega), lw_rs (by omega)⟩) (fun r9 h9 => ?_)
  have er : r9 = r := h9.trans hx9
  refine lv_iload hx hb d_LW_law_897 (lv_at hl 1 rfl) ?_
  refine lv_icmp_eq (tgt := 904) hx hb d_LW_law_899 (by decide) (fun c2 => ?_) (fun c2 => absurd er c2)
  refine lv_iload hx hb d_LW_law_904 (lv_at hl 1 rfl) ?_
  refine lv_if_ne (tgt := 920) hx hb d_LW_law_906 (by decide) (fun c3 => ?_) (fun c3 => ?_)
  · skip
    refine lv_goto (tgt := 948) hx hb d_LW_law_920 (by decide) ?_
    exact W.widen (k := 92 + 13 * (t + 1)) (n := 3248 + 2460 * (t + 1)) (by omega) (by omega) (kk _ _ _ _ _ _ _ hQ9 (gx_swap hP) (gx_swapD hD) hS (lv_sub hl [2, 3, 4, 5, 6] rfl))
  · skip
    refine lv_aload_n hx hb d_LW_law_909 rfl (lv_at hl 5 rfl) ?_
    refine lv_iconst (v := 0) hx hb d_LW_law_910 (by decide) ?_
    refine gx_ll hx hb hK hP 0 2 (show ((o, .inl (cJ, 1, .inr (.inl ov9))) :: wc9 ++ wm9)[0]? = _ from rfl) rfl 0 (by decide) (by decide) (by decide) d_LW_law_911 ?_
    refine lv_lload hx hb d_LW_law_912 (lv_at hl 0 rfl) ?_
    refine W.lcmp hx hb d_LW_law_914 ?_
    refine lv_if_eq (tgt := 920) hx hb d_LW_law_915 (by decide) (fun c4 => ?_) (fun c4 => absurd (by rw [hov c3]; exact lw_cmp _) c4)
    refine lv_goto (tgt := 948) hx hb d_LW_law_920 (by decide) ?_
    exact W.widen (k := 92 + 13 * (t + 1)) (n := 3248 + 2460 * (t + 1)) (by omega) (by omega) (kk _ _ _ _ _ _ _ hQ9 (gx_swap hP) (gx_swapD hD) hS (lv_sub hl [2, 3, 4, 5, 6] rfl))

set_option maxRecDepth 100000 in
set_option maxHeartbeats 4000000 in
theorem lo_count (F : FX l s D cI cC cJ cII cO cZ) (C0 : lw_At p s m meth c b L xs) (hN : L ≤ 2560) {wc wm : va_W} {xa ma o t : Nat} {ov : Nat → Int64} {t0 : Int32} {H : Heap} {locs : List Loc} {ls : Array Slot} (ht : 5 * t + 5 ≤ L) (hQ : rQ F xa ma wc wm t0) (hP : va_P D classes (wm ++ (o, .inl (cJ, 1, .inr (.inl ov))) :: wc) H) (hD : va_D (gx_A0 s) (wm ++ (o, .inl (cJ, 1, .inr (.inl ov))) :: wc)) (hS : va_S (gx_A0 s) s.heap H locs) (hl : lv_has ls 8 [(0, .ref b), (1, .ref xa), (2, .ref ma), (3, .ref o), (4, .int (nI (5 * t)))]) (kk : ∀ (wc wm : va_W) (ov : Nat → Int64) (t0 : Int32) (H : Heap) (locs : List Loc) (ls : Array Slot), rQ F xa ma wc wm t0 → va_P D classes (wm ++ (o, .inl (cJ, 1, .inr (.inl ov))) :: wc) H → va_D (gx_A0 s) (wm ++ (o, .inl (cJ, 1, .inr (.inl ov))) :: wc) → va_S (gx_A0 s) s.heap H locs → lv_has ls 8 [(0, .ref b), (1, .ref xa), (2, .ref ma), (3, .ref o), (4, .int (nI (5 * t)))] → W p l e room_1 s m #[Value.ref b] below meth c H locs (92 + 13 * (t + 1)) (3248 + 2460 * (t + 1)) (lw_Z below #[Value.ref b] s) (F0 m 948 ls [])) : W p l e room_1 s m #[Value.ref b] below meth c H locs (92 + 13 * t) (3248 + 2460 * t) (lw_Z below #[Value.ref b] s) (F0 m 923 ls []) := by
  obtain ⟨hx, hb, hr, hml, hown, hts, hX, hbl, hlocks, hgv⟩ := C0
  have hown : s.vm.findClass "PortBillsLaw" = some m.cls := hown
  have hV : gx_V s s := gx_Vrf
  have hg := fx_g F hV #[Value.ref b]
  have hK := fx_k F hV
  have hA : ∀ q, s.heap.size ≤ q → gx_A0 s q := fun _ h => h
  have hA0 : ∀ q, gx_A0 s q → s.heap.size ≤ q := fun _ h => h
  have hbA : ¬ gx_A0 s b := Nat.not_le.mpr hbl
  have i1 : vp_in (nI (5 * t) + 1) L := lw_in 1 (by omega) (by omega)
  have i2 : vp_in (nI (5 * t) + 2) L := lw_in 2 (by omega) (by omega)
  have i3 : vp_in (nI (5 * t) + 3) L := lw_in 3 (by omega) (by omega)
  have i4 : vp_in (nI (5 * t) + 4) L := lw_in 4 (by omega) (by omega)
  obtain ⟨v1, e1⟩ : ∃ v : Int32, xs (nI (5 * t) + 1).toNatClampNeg = v := ⟨_, rfl⟩
  obtain ⟨v2, e2⟩ : ∃ v : Int32, xs (nI (5 * t) + 2).toNatClampNeg = v := ⟨_, rfl⟩
  obtain ⟨v3, e3⟩ : ∃ v : Int32, xs (nI (5 * t) + 3).toNatClampNeg = v := ⟨_, rfl⟩
  obtain ⟨v4, e4⟩ : ∃ v : Int32, xs (nI (5 * t) + 4).toNatClampNeg = v := ⟨_, rfl⟩
  obtain ⟨κ, ra, z, sg, G, we, pd, nl, la, lp, li, ll, μ, x, A, B, hI, hL, hM, hκ, hμ, hRS, hx0⟩ := hQ
  subst hκ
  subst hμ
  have hRS' := hRS
  obtain ⟨hT, hRK, hE, hRD, hLL, hRP⟩ := hRS'
  have hnl := hLL.1
  have hx5 := hLL.2.1
  have hcr := hLL.cr
  have hbo := hLL.2.2.2.1
  have hbz := hLL.bz
  obtain ⟨nw, hnw, -, hx4, -⟩ := hE
  refine lv_aload_n hx hb d_LW_law_923 rfl (lv_at hl 1 rfl) ?_
  refine lv_aload_n hx hb d_LW_law_924 rfl (lv_at hl 0 rfl) ?_
  refine lv_iload hx hb d_LW_law_925 (lv_at hl 4 rfl) ?_
  refine lv_iconst (v := 1) hx hb d_LW_law_927 (by decide) ?_
  refine lv_iadd hx hb d_LW_law_928 ?_
  refine lw_sld hx hb hX hbl hbA hS i1 e1 d_LW_law_929 ?_
  have hP1 := lw_a1 hP
  have hD1 := lw_d1 hD
  refine gx_readi (va_runV (As := [.int v1]) (rest := []) ⟨hx, hb, hml, hown, gx_nil⟩ (c_PB_count F hI hL _ hnl v1) ⟨gx_cb (hg _ k_183) (hg _ k_1) (hg _ k_180) nd_PB_count ⟨by decide, by decide⟩, hg _ k_181, hg _ k_182⟩ (gx_preV hV (gx_right hP1) (gx_rightD hD1) hS hA0 (va_recv hK (gx_right hP1) rfl hI.1)) rfl rfl hl.1 rfl (lv_room (Nat.le_of_ble_eq_true rfl)) d_LW_law_930 ⟨lw_rc (by omega), lw_rs (by omega)⟩) (fun r hc => ?_)
  replace hP := gx_swap hP
  replace hD := gx_swapD hD
  refine lv_aload_n hx hb d_LW_law_933 rfl (lv_at hl 2 rfl) ?_
  refine lv_aload_n hx hb d_LW_law_934 rfl (lv_at hl 0 rfl) ?_
  refine lv_iload hx hb d_LW_law_935 (lv_at hl 4 rfl) ?_
  refine lv_iconst (v := 1) hx hb d_LW_law_937 (by decide) ?_
  refine lv_iadd hx hb d_LW_law_938 ?_
  refine lw_sld hx hb hX hbl hbA hS i1 e1 d_LW_law_939 ?_
  refine gx_fcalli (wr := (o, .inl (cJ, 1, .inr (.inl ov))) :: wc) (wc := wm) (va_runV (As := [.int v1]) (rest := [.int r]) ⟨hx, hb, hml, hown, gx_nil⟩ (c_MD_count F hM _ nw hnw hx4 nl hnl hx5 v1) ⟨gx_cb (hg _ k_745) (hg _ k_7) (hg _ k_742) nd_MD_count ⟨by decide, by decide⟩, hg _ k_743, hg _ k_744⟩ (gx_preV hV (gx_right hP) (gx_rightD hD) hS hA0 (va_recv hK (gx_right hP) rfl hM.1)) rfl rfl hl.1 rfl (lv_room (Nat.le_of_ble_eq_true rfl)) d_LW_law_940 ⟨lw_rc (by omega), lw_rs (by omega)⟩) hP hD hS hA (fun b9 wm9 H locs hm hP hD hS => ?_)
  obtain ⟨hQ9, er⟩ := op_count hI hL rfl rfl hRS v1 hnw hx4 hc hm
  refine lv_icmp_eq (tgt := 948) hx hb d_LW_law_943 (by decide) (fun c9 => ?_) (fun c9 => absurd er c9)
  exact W.widen (k := 92 + 13 * (t + 1)) (n := 3248 + 2460 * (t + 1)) (by omega) (by omega) (kk _ _ _ _ _ _ _ hQ9 (gx_swap hP) (gx_swapD hD) hS (lv_sub hl [0, 1, 2, 3, 4] rfl))

end LAW
