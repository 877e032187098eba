/-! THE LAW, from its entry -/
theorem fx_arr {s : State} {args : Array Value} {ty : FieldType} (hty : ∀ C, ty ≠ .object C) (h : (Cond.arrayClass ty).before args s = true) : ∃ cA, ArrOfT s cA ty ∧ va_RA s cA ty := by
  obtain ⟨cA, kA, comp, h1, h2, h3⟩ := Cond.arrayClass_spec h
  refine ⟨cA, fun n z => ⟨fun k h => (by cases h), kA, h2, comp, h3⟩, ?_⟩
  cases ty with
  | object C => exact absurd rfl (hty C)
  | _ => exact h1
theorem fx_arrA {s : State} {args : Array Value} {t : FieldType} (h : (Cond.arrayOver (.array t)).before args s = true) : ∃ cA, ArrOfT s cA (.array t) ∧ va_RA s cA (.array t) := by
  obtain ⟨comp, cA, kA, h0, -, h1, h2, h3⟩ := arrayOverA_spec h
  exact ⟨cA, fun n z => ⟨fun k h => (by cases h), kA, h1, comp, h2⟩, h3⟩
theorem fx_arrO {s : State} {args : Array Value} {C : String} (h : (Cond.arrayOver (.object C)).before args s = true) : ∃ cA, ArrOfT s cA (.object C) ∧ va_RA s cA (.object C) := by
  obtain ⟨comp, cA, kA, h0, h1, h2, h3, h4⟩ := Cond.arrayOver_spec h
  exact ⟨cA, fun n z => ⟨fun k h => (by cases h), kA, h2, comp, h3⟩, kA, comp, h2, h3, h0, h4⟩
theorem law_FX {l : Launch} {s : State} {args : Array Value} (hst : l.stackTraces = false) (hts : ∀ w ∈ lw_tbl, w.before args s = true) (hgv : (Jvm.Cond.and given_1 narrow_1).before args s = true) : ∃ (D : va_G) (cI cC cJ cII cO cZ : ClassId), FX l s D cI cC cJ cII cO cZ := by
  obtain ⟨cPB, iPB9, hkPB⟩ := u_known (C := R_PB) (T := F_PB) (N := 11) (n := 11) hts (fun w hw => (fl0_PB w hw).1) (hts _ (k_22).1)
  obtain ⟨cTT, iTT9, hkTT⟩ := u_known (C := R_TT) (T := F_TT) (N := 5) (n := 5) hts (fun w hw => (fl0_TT w hw).1) (hts _ (k_30).1)
  obtain ⟨cLN, iLN9, hkLN⟩ := u_known (C := R_LN) (T := F_LN) (N := 9) (n := 9) hts (fun w hw => (fl0_LN w hw).1) (hts _ (k_342).1)
  obtain ⟨cAL, iAL9, hkAL⟩ := u_known (C := R_AL) (T := F_AL) (N := 3) (n := 3) hts (fun w hw => (fl0_AL w hw).1) (hts _ (k_60).1)
  obtain ⟨cMD, iMD9, hkMD⟩ := u_known (C := R_MD) (T := F_MD) (N := 23) (n := 23) hts (fun w hw => (fl0_MD w hw).1) (hts _ (k_551).1)
  obtain ⟨cI, a1, b1⟩ := fx_arr (fun C h => by cases h) (hts _ (k_57).1)
  obtain ⟨cC, a2, b2⟩ := fx_arr (fun C h => by cases h) (hts _ (k_56).1)
  obtain ⟨cJ, a3, b3⟩ := fx_arr (fun C h => by cases h) (hts _ (k_122).1)
  obtain ⟨cII, a4, b4⟩ := fx_arrA (hts _ kt_36)
  obtain ⟨cO, a5, b5⟩ := fx_arrO (hts _ kt_436)
  obtain ⟨cZ, a6, b6⟩ := fx_arr (fun C h => by cases h) (hts _ (k_626).1)
  refine ⟨(fun k => if k = 0 then cPB else if k = 1 then cTT else if k = 2 then cLN else if k = 3 then cAL else cMD, fun k => if k = 0 then iPB9 else if k = 1 then iTT9 else if k = 2 then iLN9 else if k = 3 then iAL9 else iMD9), cI, cC, cJ, cII, cO, cZ, hst, ⟨args, hts, hgv⟩, fun k q hq => ?_, fun k q hq => ?_⟩
  · match k, hq with
    | 0, hq => cases hq; exact hkPB
    | 1, hq => cases hq; exact hkTT
    | 2, hq => cases hq; exact hkLN
    | 3, hq => cases hq; exact hkAL
    | 4, hq => cases hq; exact hkMD
    | k + 5, hq => simp [classes] at hq
  · match k, hq with
    | 0, hq => cases hq; exact ⟨a1, b1⟩
    | 1, hq => cases hq; exact ⟨a2, b2⟩
    | 2, hq => cases hq; exact ⟨a3, b3⟩
    | 3, hq => cases hq; exact ⟨a4, b4⟩
    | 4, hq => cases hq; exact ⟨a5, b5⟩
    | 5, hq => cases hq; exact ⟨a6, b6⟩
    | k + 6, hq => simp at hq
theorem rS_0 {G : Nat → Nat → Nat → Int32} (h1 : ∀ k, k < 6 → G 1 k = cb_t0) (h2 : G 2 = (fun _ _ => 0)) (h3 : G 3 = (fun _ _ => 0)) (h4 : ∀ k, k < 10 → G 4 k = cb_fil (fun _ => 0) 1 6) (h5 : ∀ k, k < 10 → G 5 k = cb_fil (fun _ => 0) 1 6) : rS (fun _ => 0) (fun _ => 0) (fun _ => 0) G (fun _ => 0) (fun _ => 0) 0 (fun _ _ => 0) (fun _ _ => 0) (fun _ _ => 0) (fun _ _ => 0) := by
  refine ⟨⟨0, by omega, rfl, rfl, fun j hj => absurd hj (Nat.not_lt_zero j), fun _ => rfl⟩, ⟨0, by omega, rfl, rfl, fun k hk => ⟨fun j hj => ?_, fun hb => ?_⟩⟩, ⟨0, by omega, rfl, rfl, fun i hi => absurd hi (Nat.not_lt_zero i), fun c hc => rfl, fun c hc k hk => by rw [h2]; rfl⟩, fun c hc k hk => ?_, ⟨by omega, rfl, fun j hj => absurd hj (Nat.not_lt_zero j), fun _ => Or.inl rfl, fun _ _ => rfl⟩, fun c hc => rfl⟩
  · rw [h1 k hk, if_neg (by rw [Nat.zero_testBit]; decide)]
  · rw [Nat.zero_testBit] at hb; cases hb
  · refine ⟨0, by omega, rfl, by rw [h3]; rfl, 1, 1, by decide, by decide, by decide, ?_, ?_, fun v => ?_, fun v => ?_⟩
    · rw [h4 c hc]; exact if_pos hk
    · rw [h5 c hc]; exact if_pos hk
    · exact (Int64.mul_one v).symm
    · exact (Int64.mul_one v).symm
set_option maxRecDepth 100000 in
set_option maxHeartbeats 4000000 in
theorem whole_start {p : Program} {e : Env} {s : State} {m : MethodId} {below : List Frame} {meth : Method} {c : Code} (l : Launch) (hst : l.stackTraces = false) {b L : Nat} {xs : Nat → Int32} (hL : L ≤ 2560) (C0 : lw_At p s m meth c b L xs) : W p l e room_1 s m #[Value.ref b] below meth c s.heap [] 0 0 (lw_Z below #[Value.ref b] s) (entryFrame m ([Value.ref b] : List Value).toArray 8) := by
  have C1 := C0
  obtain ⟨hx, hb, hr, hml, hown, hts, hX, hbl, hlocks, hgv⟩ := C1
  have hown : s.vm.findClass "PortBillsLaw" = some m.cls := hown
  obtain ⟨D, cI, cC, cJ, cII, cO, cZ, F⟩ := law_FX hst hts hgv
  have hV : gx_V s s := gx_Vrf
  have hg := fx_g F hV #[Value.ref b]
  have hK := fx_k F hV
  have hA : ∀ q, s.heap.size ≤ q → gx_A0 s q := fun _ h => h
  have hA0 : ∀ q, gx_A0 s q → s.heap.size ≤ q := fun _ h => h
  have hS : va_S (gx_A0 s) s.heap s.heap [] := va_S.rf
  have hP : va_P D classes [] s.heap := fun k q h => by simp at h
  have hD : va_D (gx_A0 s) [] := ⟨fun i j p q h => by simp at h, fun k q h => by simp at h⟩
  have hl := lv_entry ([.ref b]) (n := 8) (Nat.le_of_ble_eq_true rfl)
  rw [lg_entry_eq]
  generalize (lg_sl ([.ref b]) ++ List.replicate (8 - (lg_sl ([.ref b])).length) Slot.unset).toArray = ls at hl ⊢
  have hl : lv_has ls 8 [(0, .ref b)] := hl
  refine va_new (ci := iPB) (fs := [.null, .null, .int 0, .null, .null, .int 0, .null, .null, .null, .null, .null]) (C := R_PB) (T := F_PB) (N := 11) hx hb hts (fun w hw => (fl0_PB w hw).1) t_PB t_PB_ok hown (hg _ k_21) (hg _ k_22) (hg _ k_1) hK hP hD hS hA rfl (fun j hj => by rcases (show j = 0 ∨ j = 1 ∨ j = 2 ∨ j = 3 ∨ j = 4 ∨ j = 5 ∨ j = 6 ∨ j = 7 ∨ j = 8 ∨ j = 9 ∨ j = 10 by omega) with rfl | rfl | rfl | rfl | rfl | rfl | rfl | rfl | rfl | rfl | rfl <;> rfl) (by decide) (by decide) d_LW_law_0 (fun q0 H hP hD hS => ?_)
  replace hP : va_P D classes [(q0, .inr (iPB, [.null, .null, .int 0, .null, .null, .int 0, .null, .null, .null, .null, .null]))] H := hP
  replace hD : va_D (gx_A0 s) [(q0, .inr (iPB, [.null, .null, .int 0, .null, .null, .int 0, .null, .null, .null, .null, .null]))] := hD
  refine lv_dup hx hb d_LW_law_3 rfl ?_
  refine gx_callv (va_runI (As := []) (rest := [.ref q0]) ⟨hx, hb, hml, hown, gx_nil⟩ (c_PB_init F rfl _) ⟨gx_cb (hg _ k_25) (hg _ k_1) (hg _ k_23) nd_PB_init ⟨by decide, by decide⟩, rfl, hg _ k_24⟩ (gx_preS hV hP hD hS hA0) rfl rfl hl.1 rfl (lv_room (Nat.le_of_ble_eq_true rfl)) d_LW_law_4 ⟨by decide, by decide⟩) hD hS hA (fun w1 H locs h4 hP hD hS => ?_)
  obtain ⟨κ, ra, G, hI, hLn, hκ, g1, g2, g3, g4, g5⟩ := h4
  refine lv_astore_n (lv' := [(1, .ref q0), (0, .ref b)]) hx hb d_LW_law_7 rfl hl (by decide) rfl (fun ls hl => ?_)
  refine va_new (ci := iMD) (fs := [.int 0, .null, .int 0, .int 0, .null, .int 0, .int 0, .null, .null, .null, .null, .null, .null, .int 0, .null, .null, .null, .null, .null, .null, .null, .null, .null]) (C := R_MD) (T := F_MD) (N := 23) hx hb hts (fun w hw => (fl0_MD w hw).1) t_MD t_MD_ok hown (hg _ k_550) (hg _ k_551) (hg _ k_7) hK hP hD hS hA rfl (fun j hj => by rcases (show j = 0 ∨ j = 1 ∨ j = 2 ∨ j = 3 ∨ j = 4 ∨ j = 5 ∨ j = 6 ∨ j = 7 ∨ j = 8 ∨ j = 9 ∨ j = 10 ∨ j = 11 ∨ j = 12 ∨ j = 13 ∨ j = 14 ∨ j = 15 ∨ j = 16 ∨ j = 17 ∨ j = 18 ∨ j = 19 ∨ j = 20 ∨ j = 21 ∨ j = 22 by omega) with rfl | rfl | rfl | rfl | rfl | rfl | rfl | rfl | rfl | rfl | rfl | rfl | rfl | rfl | rfl | rfl | rfl | rfl | rfl | rfl | rfl | rfl | rfl <;> rfl) (by decide) (by decide) d_LW_law_8 (fun q1 H hP hD hS => ?_)
  refine lv_dup hx hb d_LW_law_11 rfl ?_
  refine gx_fcallv (wr := w1) (wc := [(q1, .inr (iMD, [.int 0, .null, .int 0, .int 0, .null, .int 0, .int 0, .null, .null, .null, .null, .null, .null, .int 0, .null, .null, .null, .null, .null, .null, .null, .null, .null]))]) (va_runI (As := []) (rest := [.ref q1]) ⟨hx, hb, hml, hown, gx_nil⟩ (c_MD_init F rfl _) ⟨gx_cb (hg _ k_554) (hg _ k_7) (hg _ k_552) nd_MD_init ⟨by decide, by decide⟩, rfl, hg _ k_553⟩ (gx_preS hV (gx_right hP) (gx_rightD hD) hS hA0) rfl rfl hl.1 rfl (lv_room (Nat.le_of_ble_eq_true rfl)) d_LW_law_12 ⟨by decide, by decide⟩) hP hD hS hA (fun wm H locs h12 hP hD hS => ?_)
  obtain ⟨μ, hM, hμ⟩ := h12
  refine lv_astore_n (lv' := [(2, .ref q1), (1, .ref q0), (0, .ref b)]) hx hb d_LW_law_15 rfl hl (by decide) rfl (fun ls hl => ?_)
  refine lv_iconst (v := 1) hx hb d_LW_law_16 (by decide) ?_
  refine va_newa (atype := .long) (ty := .long) (a0 := (1, .inr (.inl (fun _ => 0)))) (N' := 1) hx hb (hg _ k_122) rfl hK hP hD hS hA (fun _ => rfl) (by decide) (by decide) (by decide) (by decide) (by decide) d_LW_law_17 (fun o cA H hK9 hP hD hS => ?_)
  have eA := gx_sameJ hK9
  rw [eA] at hP hD
  clear eA hK9 cA
  have hP8 : va_P D classes (((o, .inl (cJ, 1, .inr (.inl (fun _ => 0)))) :: w1) ++ wm) H := gx_swap (w1 := w1 ++ wm) (w2 := [(o, .inl (cJ, 1, .inr (.inl (fun _ => 0))))]) hP
  have hD8 : va_D (gx_A0 s) (((o, .inl (cJ, 1, .inr (.inl (fun _ => 0)))) :: w1) ++ wm) := gx_swapD (w1 := w1 ++ wm) (w2 := [(o, .inl (cJ, 1, .inr (.inl (fun _ => 0))))]) hD
  have hP := gx_swap hP8
  have hD := gx_swapD hD8
  refine lv_astore_n (lv' := [(3, .ref o), (2, .ref q1), (1, .ref q0), (0, .ref b)]) hx hb d_LW_law_19 rfl hl (by decide) rfl (fun ls hl => ?_)
  refine lv_iconst (v := 0) hx hb d_LW_law_20 (by decide) ?_
  refine lv_istore (lv' := [(4, .int 0), (3, .ref o), (2, .ref q1), (1, .ref q0), (0, .ref b)]) hx hb d_LW_law_21 hl (by decide) rfl (fun ls hl => ?_)
  have hQ : rQ F q0 q1 w1 wm 0 := ⟨κ, ra, fun _ => 0, fun _ => 0, G, fun _ => 0, fun _ => 0, 0, fun _ => 0, fun _ => 0, fun _ _ => 0, fun _ _ => 0, μ, fun _ => 0, fun _ _ => 0, fun _ _ => 0, hI, hLn _ _ _ _, hM, hκ, hμ, rS_0 g1 g2 g3 g4 g5, rfl⟩
  exact W.widen (k := 92 + 13 * 0) (n := 3248 + 2460 * 0) (by decide) (by decide) (law_loop F C0 hL (L + 1) 0 (by omega) (by omega) w1 wm q0 q1 o (fun _ => 0) 0 H locs ls hQ hP hD hS (lv_sub hl [4, 3, 2, 1, 0] rfl))
