section LAW
variable {p : Program} {l : Launch} {e : Env} {s : State} {m : MethodId} {below : List Frame} {meth : Method} {c : Code} {b L : Nat} {xs : Nat → Int32} {D : va_G} {cI cC cJ cII cO cZ : ClassId}
theorem lw_and15 (x : Int32) : ∃ k, k < 16 ∧ x &&& 15 = nI k := by
  refine ⟨(x &&& 15).toBitVec.toNat, ?_, ?_⟩
  · have h : (x &&& 15).toBitVec.toNat = x.toBitVec.toNat &&& 15 := by rw [Int32.toBitVec_and, BitVec.toNat_and]; rfl
    rw [h]
    exact Nat.lt_of_le_of_lt Nat.and_le_right (by decide)
  · apply Int32.toBitVec_inj.mp
    apply BitVec.eq_of_toNat_eq
    rw [pk_tn (x &&& 15).toBitVec.isLt]
theorem lw_16 {k : Nat} (h : k < 16) : k = 0 ∨ k = 1 ∨ k = 2 ∨ k = 3 ∨ k = 4 ∨ k = 5 ∨ k = 6 ∨ k = 7 ∨ k = 8 ∨ k = 9 ∨ k = 10 ∨ k = 11 ∨ k = 12 ∨ k = 13 ∨ k = 14 ∨ k = 15 := by omega
theorem lw_hd {L t : Nat} (hL : L < 2 ^ 31) (ht : 5 * t < 2 ^ 31) (c : ¬ Int32.ofNat L - 5 < nI (5 * t)) : 5 * t + 5 ≤ L := by
  rw [Int32.lt_iff_toInt_lt, Int32.toInt_sub, show Int32.ofNat L = nI L from rfl, nI_toInt hL, nI_toInt ht, show (5 : Int32).toInt = 5 from rfl, Int.bmod_eq_of_le (by omega) (by omega)] at c
  omega
set_option maxRecDepth 100000 in
set_option maxHeartbeats 4000000 in
theorem law_loop (F : FX l s D cI cC cJ cII cO cZ) (C0 : lw_At p s m meth c b L xs) (hN : L ≤ 2560) : ∀ (n t : Nat), 5 * t ≤ L → L < 5 * (t + n) → ∀ (wc wm : va_W) (xa ma o : Nat) (ov : Nat → Int64) (t0 : Int32) (H : Heap) (locs : List Loc) (ls : Array Slot), rQ F xa ma wc wm t0 → va_P D classes (wm ++ (o, .inl (cJ, 1, .inr (.inl ov))) :: wc) H → va_D (gx_A0 s) (wm ++ (o, .inl (cJ, 1, .inr (.inl ov))) :: wc) → va_S (gx_A0 s) s.heap H locs → lv_has ls 8 [(0, .ref b), (1, .ref xa), (2, .ref ma), (3, .ref o), (4, .int (nI (5 * t)))] → W p l e room_1 s m #[Value.ref b] below meth c H locs (92 + 13 * t) (3248 + 2460 * t) (lw_Z below #[Value.ref b] s) (F0 m 23 ls []) := by
  intro n
  induction n with
  | zero => intro t h1 h2; omega
  | succ n ih =>
    intro t h1 h2 wc wm xa ma o ov t0 H locs ls hQ hP hD hS hl
    have C1 := C0
    obtain ⟨hx, hb, hr, hml, hown, hts, hX, hbl, hlocks, hgv⟩ := C1
    have hbA : ¬ gx_A0 s b := Nat.not_le.mpr hbl
    refine lv_iload hx hb d_LW_law_23 (lv_at hl 4 rfl) ?_
    refine lv_aload_n hx hb d_LW_law_25 rfl (lv_at hl 0 rfl) ?_
    refine va_slen hx hb hX hbl hbA hS d_LW_law_26 ?_
    refine lv_iconst (v := 5) hx hb d_LW_law_27 (by decide) ?_
    refine lv_isub hx hb d_LW_law_28 ?_
    refine lv_icmp_gt (tgt := 954) hx hb d_LW_law_29 (by decide) (fun c9 => ?_) (fun c9 => ?_)
    · refine lv_iconst (v := 1) hx hb d_LW_law_954 (by decide) ?_
      refine va_forget (fun q hq => hS.2.2 q hq) ?_
      refine W.widen (k := 601024) (n := 7293034) (by omega) (by omega) ?_
      exact lw_ret hx hb hr hlocks d_LW_law_955
    · have ht := lw_hd (by omega) (by omega) c9
      have kk : ∀ (wc wm : va_W) (ov : Nat → Int64) (t0 : Int32) (H : Heap) (locs : List Loc) (ls : Array Slot), rQ F xa ma wc wm t0 → va_P D classes (wm ++ (o, .inl (cJ, 1, .inr (.inl ov))) :: wc) H → va_D (gx_A0 s) (wm ++ (o, .inl (cJ, 1, .inr (.inl ov))) :: wc) → va_S (gx_A0 s) s.heap H locs → lv_has ls 8 [(0, .ref b), (1, .ref xa), (2, .ref ma), (3, .ref o), (4, .int (nI (5 * t)))] → W p l e room_1 s m #[Value.ref b] below meth c H locs (92 + 13 * (t + 1)) (3248 + 2460 * (t + 1)) (lw_Z below #[Value.ref b] s) (F0 m 948 ls []) := by
        intro wc wm ov t0 H locs ls hQ hP hD hS hl
        refine lv_iinc (v := nI (5 * (t + 1))) (lv' := [(4, .int (nI (5 * (t + 1)))), (0, .ref b), (1, .ref xa), (2, .ref ma), (3, .ref o)]) hx hb d_LW_law_948 hl (k := 4) rfl (nI_add (5 * t) 5) (by decide) rfl (fun ls hl => ?_)
        refine lv_goto (tgt := 23) hx hb d_LW_law_951 (by decide) ?_
        exact ih (t + 1) (by omega) (by omega) wc wm xa ma o ov t0 H locs ls hQ hP hD hS (lv_sub hl [1, 2, 3, 4, 0] rfl)
      refine lv_aload_n hx hb d_LW_law_32 rfl (lv_at hl 0 rfl) ?_
      refine lv_iload hx hb d_LW_law_33 (lv_at hl 4 rfl) ?_
      refine lw_sld (v := xs (nI (5 * t)).toNatClampNeg) hx hb hX hbl hbA hS (vp_in_nI (by omega) (by omega)) rfl d_LW_law_35 ?_
      refine lv_bipush (v := 15) hx hb d_LW_law_36 (by decide) ?_
      refine lv_iand hx hb d_LW_law_38 ?_
      obtain ⟨k, hk, ek⟩ := lw_and15 (xs (nI (5 * t)).toNatClampNeg)
      rw [ek]
      clear ek
      rcases lw_16 hk with e9 | e9 | e9 | e9 | e9 | e9 | e9 | e9 | e9 | e9 | e9 | e9 | e9 | e9 | e9 | e9
      · subst e9
        refine lv_tableIn (off := 65) (tgt := 104) hx hb d_LW_law_39 (by decide) (by decide) (by decide) (by decide) ?_
        exact lo_sign F C0 hN ht hQ hP hD hS hl kk
      · subst e9
        refine lv_tableIn (off := 90) (tgt := 129) hx hb d_LW_law_39 (by decide) (by decide) (by decide) (by decide) ?_
        exact lo_read F C0 hN ht hQ hP hD hS hl kk
      · subst e9
        refine lv_tableIn (off := 103) (tgt := 142) hx hb d_LW_law_39 (by decide) (by decide) (by decide) (by decide) ?_
        exact lo_tariff F C0 hN ht hQ hP hD hS hl kk
      · subst e9
        refine lv_tableIn (off := 171) (tgt := 210) hx hb d_LW_law_39 (by decide) (by decide) (by decide) (by decide) ?_
        exact lo_event F C0 hN ht hQ hP hD hS hl kk
      · subst e9
        refine lv_tableIn (off := 251) (tgt := 290) hx hb d_LW_law_39 (by decide) (by decide) (by decide) (by decide) ?_
        exact lo_discount F C0 hN ht hQ hP hD hS hl kk
      · subst e9
        refine lv_tableIn (off := 312) (tgt := 351) hx hb d_LW_law_39 (by decide) (by decide) (by decide) (by decide) ?_
        exact lo_bill F C0 hN ht hQ hP hD hS hl kk
      · subst e9
        refine lv_tableIn (off := 368) (tgt := 407) hx hb d_LW_law_39 (by decide) (by decide) (by decide) (by decide) ?_
        exact lo_correct F C0 hN ht hQ hP hD hS hl kk
      · subst e9
        refine lv_tableIn (off := 468) (tgt := 507) hx hb d_LW_law_39 (by decide) (by decide) (by decide) (by decide) ?_
        exact lo_dispute F C0 hN ht hQ hP hD hS hl kk
      · subst e9
        refine lv_tableIn (off := 552) (tgt := 591) hx hb d_LW_law_39 (by decide) (by decide) (by decide) (by decide) ?_
        exact lo_pay F C0 hN ht hQ hP hD hS hl kk
      · subst e9
        refine lv_tableIn (off := 651) (tgt := 690) hx hb d_LW_law_39 (by decide) (by decide) (by decide) (by decide) ?_
        exact lo_unpaid F C0 hN ht hQ hP hD hS hl kk
      · subst e9
        refine lv_tableIn (off := 706) (tgt := 745) hx hb d_LW_law_39 (by decide) (by decide) (by decide) (by decide) ?_
        exact lo_share F C0 hN ht hQ hP hD hS hl kk
      · subst e9
        refine lv_tableIn (off := 817) (tgt := 856) hx hb d_LW_law_39 (by decide) (by decide) (by decide) (by decide) ?_
        exact lo_line F C0 hN ht hQ hP hD hS hl kk
      · subst e9
        refine lv_tableIn (off := 884) (tgt := 923) hx hb d_LW_law_39 (by decide) (by decide) (by decide) (by decide) ?_
        exact lo_count F C0 hN ht hQ hP hD hS hl kk
      · subst e9
        refine lv_tableOut (tgt := 948) hx hb d_LW_law_39 (by decide) (by decide) ?_
        exact W.widen (k := 92 + 13 * (t + 1)) (n := 3248 + 2460 * (t + 1)) (by omega) (by omega) (kk _ _ _ _ _ _ _ hQ hP hD hS hl)
      · subst e9
        refine lv_tableOut (tgt := 948) hx hb d_LW_law_39 (by decide) (by decide) ?_
        exact W.widen (k := 92 + 13 * (t + 1)) (n := 3248 + 2460 * (t + 1)) (by omega) (by omega) (kk _ _ _ _ _ _ _ hQ hP hD hS hl)
      · subst e9
        refine lv_tableOut (tgt := 948) hx hb d_LW_law_39 (by decide) (by decide) ?_
        exact W.widen (k := 92 + 13 * (t + 1)) (n := 3248 + 2460 * (t + 1)) (by omega) (by omega) (kk _ _ _ _ _ _ _ hQ hP hD hS hl)
end LAW
