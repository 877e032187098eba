set_option maxRecDepth 100000 in
set_option maxHeartbeats 4000000 in
theorem c_MD_unitsOf {l : Launch} {s0 : State} {D : va_G} {cI cC cJ cII cO cZ : ClassId} (F : FX l s0 D cI cC cJ cII cO cZ) {ws : va_W} {μ : Nat → Nat} {x : Nat → Int32} {A : Nat → Nat → Int32} {B : Nat → Nat → Int64} (hM : md_I cI cJ cZ ws μ x A B) (sz : Nat) (nw : Nat) (hnw : nw ≤ 100) (hx4 : x 4 = nI nw) (p0 p1 : Int32)  : Met l y_MD_unitsOf [.code y_MD_unitsOf b_MD_unitsOf 5 (some .int)] { frames := 0, cells := 0, slots := 0, locals := 0 } (gx_P s0 D classes ws sz [.ref (μ 0), .int p0, .int p1]) (gx_Ri (fun r => r = md_us A p0 p1 nw)) 0 0 (fun _ => False) := by
  refine gx_met (by decide +kernel) (Nat.le_of_ble_eq_true rfl) ?_
  intro p e s m below meth c ls hx hb hr hml hown hlocks hnm hsz hV hP hD hS hA hA0 hl
  have hg := fx_g F hV ([.ref (μ 0), .int p0, .int p1] : List Value).toArray
  have hK := fx_k F hV
  have hn9 := fx_n F hV
  have hl : lv_has ls 5 [(0, .ref (μ 0)), (1, .int p0), (2, .int p1)] := hl
  refine lv_iconst (v := 0) hx hb d_MD_unitsOf_0 (by decide) ?_
  refine lv_istore_n (lv' := [(3, .int 0), (0, .ref (μ 0)), (1, .int p0), (2, .int p1)]) hx hb d_MD_unitsOf_1 rfl hl (by decide) rfl (fun ls hl => ?_)
  refine lv_iconst (v := 0) hx hb d_MD_unitsOf_2 (by decide) ?_
  refine lv_istore (lv' := [(4, .int 0), (3, .int 0), (0, .ref (μ 0)), (1, .int p0), (2, .int p1)]) hx hb d_MD_unitsOf_3 hl (by decide) rfl (fun ls hl => ?_)
  have loop : ∀ (nn : Nat) (i : Nat) (ls : Array Slot) (hi : i ≤ nw) (hf : nw + 1 ≤ i + nn) (hl : lv_has ls 5 [(4, .int (nI i)), (3, .int (md_us A p0 p1 i)), (0, .ref (μ 0)), (1, .int p0), (2, .int p1)]), W p l e ({ frames := 0, cells := 0, slots := 0, locals := 0 } : Room) s m ([.ref (μ 0), .int p0, .int p1] : List Value).toArray below meth c s.heap [] 0 0 (MQ below (gx_Ri (fun r => r = md_us A p0 p1 nw)) ([.ref (μ 0), .int p0, .int p1] : List Value).toArray s 0 0 (fun _ => False)) (F0 m 5 ls []) := by
    intro nn
    induction nn with
    | zero =>
      intro i ls hi hf hl
      exact absurd hf (by omega)
    | succ nn ih =>
      intro i ls hi hf hl
      refine lv_iload hx hb d_MD_unitsOf_5 (lv_at hl 0 rfl) ?_
      refine lv_aload_n hx hb d_MD_unitsOf_7 rfl (lv_at hl 2 rfl) ?_
      refine va_get (D := D) (ci := iMD) (v := .int (x 4)) (C := R_MD) (T := F_MD) (N := 23) hx hb (fl_MD hg) (fun _ h9 => h9) hown hK hP 0 (hM.1) rfl 6 (by decide) (hg _ k_562) (fun _ h9 => h9) rfl d_MD_unitsOf_8 ?_
      refine lv_icmp_ge (tgt := 56) hx hb d_MD_unitsOf_11 (by decide) (fun c_11 => ?_) (fun c_11 => ?_)
      · skip
        rw [hx4] at c_11
        have hin : i = nw := by have := gx_ngt c_11; omega
        subst hin
        refine lv_iload_n hx hb d_MD_unitsOf_56 rfl (lv_at hl 1 rfl) ?_
        exact gx_ireti hx hb hr hlocks rfl d_MD_unitsOf_57 (rfl)
      · skip
        rw [hx4] at c_11
        have hin : i < nw := gx_nlt c_11
        refine lv_iload_n hx hb d_MD_unitsOf_14 rfl (lv_at hl 1 rfl) ?_
        refine lv_aload_n hx hb d_MD_unitsOf_15 rfl (lv_at hl 2 rfl) ?_
        refine va_get (D := D) (ci := iMD) (v := .ref (μ 3)) (C := R_MD) (T := F_MD) (N := 23) hx hb (fl_MD hg) (fun _ h9 => h9) hown hK hP 0 (hM.1) rfl 7 (by decide) (hg _ k_563) (fun _ h9 => h9) rfl d_MD_unitsOf_16 ?_
        refine lv_iload hx hb d_MD_unitsOf_19 (lv_at hl 0 rfl) ?_
        refine gx_il (f := A 3) hx hb hK hP 3 0 (hM.2.1 3 (by decide) (by decide)) rfl i (rfl) (show i < 100 by omega) (by decide) d_MD_unitsOf_21 ?_
        refine lv_iload_n hx hb d_MD_unitsOf_22 rfl (lv_at hl 3 rfl) ?_
        refine lv_icmp_ne (tgt := 47) hx hb d_MD_unitsOf_23 (by decide) (fun c_23 => ?_) (fun c_23 => ?_)
        · skip
          refine lv_iconst (v := 0) hx hb d_MD_unitsOf_47 (by decide) ?_
          refine lv_iadd hx hb d_MD_unitsOf_48 ?_
          refine lv_istore_n (lv' := [(3, .int ((md_us A p0 p1 i) + 0)), (4, .int (nI i)), (0, .ref (μ 0)), (1, .int p0), (2, .int p1)]) hx hb d_MD_unitsOf_49 rfl hl (by decide) rfl (fun ls hl => ?_)
          refine lv_iinc (v := nI (i + 1)) (lv' := [(4, .int (nI (i + 1))), (3, .int ((md_us A p0 p1 i) + 0)), (0, .ref (μ 0)), (1, .int p0), (2, .int p1)]) hx hb d_MD_unitsOf_50 hl (k := 1) rfl (by rw [lit1]; exact nI_1 i) (by decide) rfl (fun ls hl => ?_)
          refine lv_goto (tgt := 5) hx hb d_MD_unitsOf_53 (by decide) ?_
          exact ih (i + 1) ls (by omega) (by omega) (by rw [md_us_n (fun q => c_23 q.1)]; exact lv_sub hl [0, 1, 2, 3, 4] rfl)
        · skip
          refine lv_aload_n hx hb d_MD_unitsOf_26 rfl (lv_at hl 2 rfl) ?_
          refine va_get (D := D) (ci := iMD) (v := .ref (μ 4)) (C := R_MD) (T := F_MD) (N := 23) hx hb (fl_MD hg) (fun _ h9 => h9) hown hK hP 0 (hM.1) rfl 8 (by decide) (hg _ k_564) (fun _ h9 => h9) rfl d_MD_unitsOf_27 ?_
          refine lv_iload hx hb d_MD_unitsOf_30 (lv_at hl 0 rfl) ?_
          refine gx_il (f := A 4) hx hb hK hP 4 0 (hM.2.1 4 (by decide) (by decide)) rfl i (rfl) (show i < 100 by omega) (by decide) d_MD_unitsOf_32 ?_
          refine lv_iload_n hx hb d_MD_unitsOf_33 rfl (lv_at hl 4 rfl) ?_
          refine lv_icmp_ne (tgt := 47) hx hb d_MD_unitsOf_34 (by decide) (fun c_34 => ?_) (fun c_34 => ?_)
          · skip
            refine lv_iconst (v := 0) hx hb d_MD_unitsOf_47 (by decide) ?_
            refine lv_iadd hx hb d_MD_unitsOf_48 ?_
            refine lv_istore_n (lv' := [(3, .int ((md_us A p0 p1 i) + 0)), (4, .int (nI i)), (0, .ref (μ 0)), (1, .int p0), (2, .int p1)]) hx hb d_MD_unitsOf_49 rfl hl (by decide) rfl (fun ls hl => ?_)
            refine lv_iinc (v := nI (i + 1)) (lv' := [(4, .int (nI (i + 1))), (3, .int ((md_us A p0 p1 i) + 0)), (0, .ref (μ 0)), (1, .int p0), (2, .int p1)]) hx hb d_MD_unitsOf_50 hl (k := 1) rfl (by rw [lit1]; exact nI_1 i) (by decide) rfl (fun ls hl => ?_)
            refine lv_goto (tgt := 5) hx hb d_MD_unitsOf_53 (by decide) ?_
            exact ih (i + 1) ls (by omega) (by omega) (by rw [md_us_n (fun q => c_34 q.2)]; exact lv_sub hl [0, 1, 2, 3, 4] rfl)
          · skip
            refine lv_aload_n hx hb d_MD_unitsOf_37 rfl (lv_at hl 2 rfl) ?_
            refine va_get (D := D) (ci := iMD) (v := .ref (μ 5)) (C := R_MD) (T := F_MD) (N := 23) hx hb (fl_MD hg) (fun _ h9 => h9) hown hK hP 0 (hM.1) rfl 9 (by decide) (hg _ k_565) (fun _ h9 => h9) rfl d_MD_unitsOf_38 ?_
            refine lv_iload hx hb d_MD_unitsOf_41 (lv_at hl 0 rfl) ?_
            refine gx_il (f := A 5) hx hb hK hP 5 0 (hM.2.1 5 (by decide) (by decide)) rfl i (rfl) (show i < 100 by omega) (by decide) d_MD_unitsOf_43 ?_
            refine lv_goto (tgt := 48) hx hb d_MD_unitsOf_44 (by decide) ?_
            refine lv_iadd hx hb d_MD_unitsOf_48 ?_
            refine lv_istore_n (lv' := [(3, .int ((md_us A p0 p1 i) + ((A 5) i))), (4, .int (nI i)), (0, .ref (μ 0)), (1, .int p0), (2, .int p1)]) hx hb d_MD_unitsOf_49 rfl hl (by decide) rfl (fun ls hl => ?_)
            refine lv_iinc (v := nI (i + 1)) (lv' := [(4, .int (nI (i + 1))), (3, .int ((md_us A p0 p1 i) + ((A 5) i))), (0, .ref (μ 0)), (1, .int p0), (2, .int p1)]) hx hb d_MD_unitsOf_50 hl (k := 1) rfl (by rw [lit1]; exact nI_1 i) (by decide) rfl (fun ls hl => ?_)
            refine lv_goto (tgt := 5) hx hb d_MD_unitsOf_53 (by decide) ?_
            exact ih (i + 1) ls (by omega) (by omega) (by rw [md_us_s ⟨c_23, c_34⟩]; exact lv_sub hl [0, 1, 2, 3, 4] rfl)
  exact loop (nw + 1) 0 ls (by omega) (by omega) (lv_sub hl [0, 1, 2, 3, 4] rfl)

set_option maxRecDepth 100000 in
set_option maxHeartbeats 4000000 in
theorem c_MD_newLine {l : Launch} {s0 : State} {D : va_G} {cI cC cJ cII cO cZ : ClassId} (F : FX l s0 D cI cC cJ cII cO cZ) {ws : va_W} {μ : Nat → Nat} {x : Nat → Int32} {A : Nat → Nat → Int32} {B : Nat → Nat → Int64} (hM : md_I cI cJ cZ ws μ x A B) (sz : Nat) (nl : Nat) (hlt : nl < 200) (hx5 : x 5 = nI nl) (p0 p1 p2 p3 : Int32) (p4 : Int64) (p5 : Int32)  : Met l y_MD_newLine [.code y_MD_newLine b_MD_newLine 8 none] { frames := 0, cells := 0, slots := 0, locals := 0 } (gx_P s0 D classes ws sz [.ref (μ 0), .int p0, .int p1, .int p2, .int p3, .long p4, .int p5]) (va_Qv (fun w1 => md_I cI cJ cZ w1 μ (upd x 5 (x 5 + 1)) (md_nl A nl p0 p1 p2 p3 p5) (cb_upr B 14 (vp_updL (B 14) nl p4))) (gx_B D classes ws sz) (va_A ws sz)) 0 0 (va_A ws sz) := by
  refine gx_met (by decide +kernel) (Nat.le_of_ble_eq_true rfl) ?_
  intro p e s m below meth c ls hx hb hr hml hown hlocks hnm hsz hV hP hD hS hA hA0 hl
  have hg := fx_g F hV ([.ref (μ 0), .int p0, .int p1, .int p2, .int p3, .long p4, .int p5] : List Value).toArray
  have hK := fx_k F hV
  have hn9 := fx_n F hV
  have hl : lv_has ls 8 [(0, .ref (μ 0)), (1, .int p0), (2, .int p1), (3, .int p2), (4, .int p3), (5, .long p4), (7, .int p5)] := hl
  refine lv_aload_n hx hb d_MD_newLine_0 rfl (lv_at hl 0 rfl) ?_
  refine va_get (D := D) (ci := iMD) (v := .ref (μ 9)) (C := R_MD) (T := F_MD) (N := 23) hx hb (fl_MD hg) (fun _ h9 => h9) hown hK hP 0 (hM.1) rfl 14 (by decide) (hg _ k_570) (fun _ h9 => h9) rfl d_MD_newLine_1 ?_
  refine lv_aload_n hx hb d_MD_newLine_4 rfl (lv_at hl 0 rfl) ?_
  refine va_get (D := D) (ci := iMD) (v := .int (x 5)) (C := R_MD) (T := F_MD) (N := 23) hx hb (fl_MD hg) (fun _ h9 => h9) hown hK hP 0 (hM.1) rfl 13 (by decide) (hg _ k_569) (fun _ h9 => h9) rfl d_MD_newLine_5 ?_
  refine lv_iload_n hx hb d_MD_newLine_8 rfl (lv_at hl 1 rfl) ?_
  refine gx_is (f := A 9) hx hb hK hP hD hS 9 0 (hM.2.1 9 (by decide) (by decide)) rfl nl (hx5) (show nl < 200 from hlt) (by decide) d_MD_newLine_9 (fun H locs hP hD hS => ?_)
  obtain ⟨w_1, ew_1⟩ : ∃ y : va_W, y = ws.set 9 (μ 9, .inl (cI, md_n 9, .inl (upd (A 9) nl p0))) := ⟨_, rfl⟩
  replace hP : va_P D classes w_1 H := by rw [ew_1]; exact hP
  replace hD : va_D (va_A ws sz) w_1 := by rw [ew_1]; exact hD
  replace hM : md_I cI cJ cZ w_1 μ x (cb_upr A 9 (upd (A 9) nl p0)) B := by rw [ew_1]; exact md_I.int (by decide) (by decide) hM
  refine lv_aload_n hx hb d_MD_newLine_10 rfl (lv_at hl 0 rfl) ?_
  refine va_get (D := D) (ci := iMD) (v := .ref (μ 10)) (C := R_MD) (T := F_MD) (N := 23) hx hb (fl_MD hg) (fun _ h9 => h9) hown hK hP 0 (hM.1) rfl 15 (by decide) (hg _ k_571) (fun _ h9 => h9) rfl d_MD_newLine_11 ?_
  refine lv_aload_n hx hb d_MD_newLine_14 rfl (lv_at hl 0 rfl) ?_
  refine va_get (D := D) (ci := iMD) (v := .int (x 5)) (C := R_MD) (T := F_MD) (N := 23) hx hb (fl_MD hg) (fun _ h9 => h9) hown hK hP 0 (hM.1) rfl 13 (by decide) (hg _ k_569) (fun _ h9 => h9) rfl d_MD_newLine_15 ?_
  refine lv_iload_n hx hb d_MD_newLine_18 rfl (lv_at hl 2 rfl) ?_
  refine gx_is (f := A 10) hx hb hK hP hD hS 10 0 (hM.2.1 10 (by decide) (by decide)) rfl nl (hx5) (show nl < 200 from hlt) (by decide) d_MD_newLine_19 (fun H locs hP hD hS => ?_)
  obtain ⟨w_2, ew_2⟩ : ∃ y : va_W, y = w_1.set 10 (μ 10, .inl (cI, md_n 10, .inl (upd (A 10) nl p1))) := ⟨_, rfl⟩
  replace hP : va_P D classes w_2 H := by rw [ew_2]; exact hP
  replace hD : va_D (va_A ws sz) w_2 := by rw [ew_2]; exact hD
  replace hM : md_I cI cJ cZ w_2 μ x (cb_upr (cb_upr A 9 (upd (A 9) nl p0)) 10 (upd (A 10) nl p1)) B := by rw [ew_2]; exact md_I.int (by decide) (by decide) hM
  refine lv_aload_n hx hb d_MD_newLine_20 rfl (lv_at hl 0 rfl) ?_
  refine va_get (D := D) (ci := iMD) (v := .ref (μ 11)) (C := R_MD) (T := F_MD) (N := 23) hx hb (fl_MD hg) (fun _ h9 => h9) hown hK hP 0 (hM.1) rfl 16 (by decide) (hg _ k_572) (fun _ h9 => h9) rfl d_MD_newLine_21 ?_
  refine lv_aload_n hx hb d_MD_newLine_24 rfl (lv_at hl 0 rfl) ?_
  refine va_get (D := D) (ci := iMD) (v := .int (x 5)) (C := R_MD) (T := F_MD) (N := 23) hx hb (fl_MD hg) (fun _ h9 => h9) hown hK hP 0 (hM.1) rfl 13 (by decide) (hg _ k_569) (fun _ h9 => h9) rfl d_MD_newLine_25 ?_
  refine lv_iload_n hx hb d_MD_newLine_28 rfl (lv_at hl 3 rfl) ?_
  refine gx_is (f := A 11) hx hb hK hP hD hS 11 0 (hM.2.1 11 (by decide) (by decide)) rfl nl (hx5) (show nl < 200 from hlt) (by decide) d_MD_newLine_29 (fun H locs hP hD hS => ?_)
  obtain ⟨w_3, ew_3⟩ : ∃ y : va_W, y = w_2.set 11 (μ 11, .inl (cI, md_n 11, .inl (upd (A 11) nl p2))) := ⟨_, rfl⟩
  replace hP : va_P D classes w_3 H := by rw [ew_3]; exact hP
  replace hD : va_D (va_A ws sz) w_3 := by rw [ew_3]; exact hD
  replace hM : md_I cI cJ cZ w_3 μ x (cb_upr (cb_upr (cb_upr A 9 (upd (A 9) nl p0)) 10 (upd (A 10) nl p1)) 11 (upd (A 11) nl p2)) B := by rw [ew_3]; exact md_I.int (by decide) (by decide) hM
  refine lv_aload_n hx hb d_MD_newLine_30 rfl (lv_at hl 0 rfl) ?_
  refine va_get (D := D) (ci := iMD) (v := .ref (μ 12)) (C := R_MD) (T := F_MD) (N := 23) hx hb (fl_MD hg) (fun _ h9 => h9) hown hK hP 0 (hM.1) rfl 17 (by decide) (hg _ k_573) (fun _ h9 => h9) rfl d_MD_newLine_31 ?_
  refine lv_aload_n hx hb d_MD_newLine_34 rfl (lv_at hl 0 rfl) ?_
  refine va_get (D := D) (ci := iMD) (v := .int (x 5)) (C := R_MD) (T := F_MD) (N := 23) hx hb (fl_MD hg) (fun _ h9 => h9) hown hK hP 0 (hM.1) rfl 13 (by decide) (hg _ k_569) (fun _ h9 => h9) rfl d_MD_newLine_35 ?_
  refine lv_iload hx hb d_MD_newLine_38 (lv_at hl 4 rfl) ?_
  refine gx_is (f := A 12) hx hb hK hP hD hS 12 0 (hM.2.1 12 (by decide) (by decide)) rfl nl (hx5) (show nl < 200 from hlt) (by decide) d_MD_newLine_40 (fun H locs hP hD hS => ?_)
  obtain ⟨w_4, ew_4⟩ : ∃ y : va_W, y = w_3.set 12 (μ 12, .inl (cI, md_n 12, .inl (upd (A 12) nl p3))) := ⟨_, rfl⟩
  replace hP : va_P D classes w_4 H := by rw [ew_4]; exact hP
  replace hD : va_D (va_A ws sz) w_4 := by rw [ew_4]; exact hD
  replace hM : md_I cI cJ cZ w_4 μ x (cb_upr (cb_upr (cb_upr (cb_upr A 9 (upd (A 9) nl p0)) 10 (upd (A 10) nl p1)) 11 (upd (A 11) nl p2)) 12 (upd (A 12) nl p3)) B := by rw [ew_4]; exact md_I.int (by decide) (by decide) hM
  refine lv_aload_n hx hb d_MD_newLine_41 rfl (lv_at hl 0 rfl) ?_
  refine va_get (D := D) (ci := iMD) (v := .ref (μ 14)) (C := R_MD) (T := F_MD) (N := 23) hx hb (fl_MD hg) (fun _ h9 => h9) hown hK hP 0 (hM.1) rfl 18 (by decide) (hg _ k_574) (fun _ h9 => h9) rfl d_MD_newLine_42 ?_
  refine lv_aload_n hx hb d_MD_newLine_45 rfl (lv_at hl 0 rfl) ?_
  refine va_get (D := D) (ci := iMD) (v := .int (x 5)) (C := R_MD) (T := F_MD) (N := 23) hx hb (fl_MD hg) (fun _ h9 => h9) hown hK hP 0 (hM.1) rfl 13 (by decide) (hg _ k_569) (fun _ h9 => h9) rfl d_MD_newLine_46 ?_
  refine lv_lload hx hb d_MD_newLine_49 (lv_at hl 5 rfl) ?_
  refine gx_ls hx hb hK hP hD hS 14 2 (hM.2.2.1 14 (by decide) (by decide)) rfl nl (hx5) (show nl < 200 from hlt) (by decide) d_MD_newLine_51 (fun H locs hP hD hS => ?_)
  obtain ⟨w_5, ew_5⟩ : ∃ y : va_W, y = w_4.set 14 (μ 14, .inl (cJ, md_n 14, .inr (.inl (vp_updL (B 14) nl p4)))) := ⟨_, rfl⟩
  replace hP : va_P D classes w_5 H := by rw [ew_5]; exact hP
  replace hD : va_D (va_A ws sz) w_5 := by rw [ew_5]; exact hD
  replace hM : md_I cI cJ cZ w_5 μ x (cb_upr (cb_upr (cb_upr (cb_upr A 9 (upd (A 9) nl p0)) 10 (upd (A 10) nl p1)) 11 (upd (A 11) nl p2)) 12 (upd (A 12) nl p3)) (cb_upr B 14 (vp_updL (B 14) nl p4)) := by rw [ew_5]; exact md_I.lng (by decide) (by decide) hM
  refine lv_aload_n hx hb d_MD_newLine_52 rfl (lv_at hl 0 rfl) ?_
  refine va_get (D := D) (ci := iMD) (v := .ref (μ 13)) (C := R_MD) (T := F_MD) (N := 23) hx hb (fl_MD hg) (fun _ h9 => h9) hown hK hP 0 (hM.1) rfl 19 (by decide) (hg _ k_575) (fun _ h9 => h9) rfl d_MD_newLine_53 ?_
  refine lv_aload_n hx hb d_MD_newLine_56 rfl (lv_at hl 0 rfl) ?_
  refine va_get (D := D) (ci := iMD) (v := .int (x 5)) (C := R_MD) (T := F_MD) (N := 23) hx hb (fl_MD hg) (fun _ h9 => h9) hown hK hP 0 (hM.1) rfl 13 (by decide) (hg _ k_569) (fun _ h9 => h9) rfl d_MD_newLine_57 ?_
  refine lv_iload hx hb d_MD_newLine_60 (lv_at hl 6 rfl) ?_
  refine gx_is (f := A 13) hx hb hK hP hD hS 13 0 (hM.2.1 13 (by decide) (by decide)) rfl nl (hx5) (show nl < 200 from hlt) (by decide) d_MD_newLine_62 (fun H locs hP hD hS => ?_)
  obtain ⟨w_6, ew_6⟩ : ∃ y : va_W, y = w_5.set 13 (μ 13, .inl (cI, md_n 13, .inl (upd (A 13) nl p5))) := ⟨_, rfl⟩
  replace hP : va_P D classes w_6 H := by rw [ew_6]; exact hP
  replace hD : va_D (va_A ws sz) w_6 := by rw [ew_6]; exact hD
  replace hM : md_I cI cJ cZ w_6 μ x (cb_upr (cb_upr (cb_upr (cb_upr (cb_upr A 9 (upd (A 9) nl p0)) 10 (upd (A 10) nl p1)) 11 (upd (A 11) nl p2)) 12 (upd (A 12) nl p3)) 13 (upd (A 13) nl p5)) (cb_upr B 14 (vp_updL (B 14) nl p4)) := by rw [ew_6]; exact md_I.int (by decide) (by decide) hM
  refine lv_aload_n hx hb d_MD_newLine_63 rfl (lv_at hl 0 rfl) ?_
  refine lv_dup hx hb d_MD_newLine_64 rfl ?_
  refine va_get (D := D) (ci := iMD) (v := .int (x 5)) (C := R_MD) (T := F_MD) (N := 23) hx hb (fl_MD hg) (fun _ h9 => h9) hown hK hP 0 (hM.1) rfl 13 (by decide) (hg _ k_569) (fun _ h9 => h9) rfl d_MD_newLine_65 ?_
  refine lv_iconst (v := 1) hx hb d_MD_newLine_68 (by decide) ?_
  refine lv_iadd hx hb d_MD_newLine_69 ?_
  refine va_put (D := D) (ci := iMD) (v := .int ((x 5) + 1)) (ty := .int) (C := R_MD) (T := F_MD) (N := 23) hx hb (fl_MD hg) (fun _ h9 => h9) t_MD t_MD_ok n_MD hown hK hP hD hS 0 (hM.1) rfl 13 (by decide) (hg _ k_569) (fun _ h9 => h9) rfl (by decide +kernel) rfl rfl (Nat.le_of_ble_eq_true rfl) d_MD_newLine_70 (fun H locs hP hD hS => ?_)
  obtain ⟨w_7, ew_7⟩ : ∃ y : va_W, y = w_6.set 0 (μ 0, .inr (iMD, md_o μ (upd x 5 ((x 5) + 1)))) := ⟨_, rfl⟩
  replace hP : va_P D classes w_7 H := by rw [ew_7]; exact hP
  replace hD : va_D (va_A ws sz) w_7 := by rw [ew_7]; exact hD
  replace hM : md_I cI cJ cZ w_7 μ (upd x 5 ((x 5) + 1)) (cb_upr (cb_upr (cb_upr (cb_upr (cb_upr A 9 (upd (A 9) nl p0)) 10 (upd (A 10) nl p1)) 11 (upd (A 11) nl p2)) 12 (upd (A 12) nl p3)) 13 (upd (A 13) nl p5)) (cb_upr B 14 (vp_updL (B 14) nl p4)) := by rw [ew_7]; exact md_I.obj (x := x) (x' := upd x 5 ((x 5) + 1)) hM
  exact gx_vret hx hb hr hlocks hS hP hD (by decide) (by decide) d_MD_newLine_73 (hM)

set_option maxRecDepth 100000 in
set_option maxHeartbeats 4000000 in
theorem c_MD_takeEvents {l : Launch} {s0 : State} {D : va_G} {cI cC cJ cII cO cZ : ClassId} (F : FX l s0 D cI cC cJ cII cO cZ) {ws : va_W} {μ : Nat → Nat} {x : Nat → Int32} {A : Nat → Nat → Int32} {B : Nat → Nat → Int64} (hM : md_I cI cJ cZ ws μ x A B) (sz : Nat) (nw : Nat) (hnw : nw ≤ 100) (hx4 : x 4 = nI nw) (p0 : Int32)  : Met l y_MD_takeEvents [.code y_MD_takeEvents b_MD_takeEvents 4 none] { frames := 0, cells := 0, slots := 0, locals := 0 } (gx_P s0 D classes ws sz [.ref (μ 0), .int p0]) (va_Qv (fun w1 => md_I cI cJ cZ w1 μ (upd x 4 (nI (md_te p0 (A 3) (A 4) (A 5) nw).1)) (cb_upr (cb_upr (cb_upr A 3 (md_te p0 (A 3) (A 4) (A 5) nw).2.1) 4 (md_te p0 (A 3) (A 4) (A 5) nw).2.2.1) 5 (md_te p0 (A 3) (A 4) (A 5) nw).2.2.2) B) (gx_B D classes ws sz) (va_A ws sz)) 0 0 (va_A ws sz) := by
  refine gx_met (by decide +kernel) (Nat.le_of_ble_eq_true rfl) ?_
  intro p e s m below meth c ls hx hb hr hml hown hlocks hnm hsz hV hP hD hS hA hA0 hl
  have hg := fx_g F hV ([.ref (μ 0), .int p0] : List Value).toArray
  have hK := fx_k F hV
  have hn9 := fx_n F hV
  have hl : lv_has ls 4 [(0, .ref (μ 0)), (1, .int p0)] := hl
  refine lv_iconst (v := 0) hx hb d_MD_takeEvents_0 (by decide) ?_
  refine lv_istore_n (lv' := [(2, .int 0), (0, .ref (μ 0)), (1, .int p0)]) hx hb d_MD_takeEvents_1 rfl hl (by decide) rfl (fun ls hl => ?_)
  refine lv_iconst (v := 0) hx hb d_MD_takeEvents_2 (by decide) ?_
  refine lv_istore_n (lv' := [(3, .int 0), (2, .int 0), (0, .ref (μ 0)), (1, .int p0)]) hx hb d_MD_takeEvents_3 rfl hl (by decide) rfl (fun ls hl => ?_)
  have loop : ∀ (nn : Nat) (i : Nat) (wx : va_W) (H : Heap) (locs : List Loc) (ls : Array Slot) (hi : i ≤ nw) (hf : nw + 1 ≤ i + nn) (hM : md_I cI cJ cZ wx μ x (cb_upr (cb_upr (cb_upr A 3 (md_te p0 (A 3) (A 4) (A 5) i).2.1) 4 (md_te p0 (A 3) (A 4) (A 5) i).2.2.1) 5 (md_te p0 (A 3) (A 4) (A 5) i).2.2.2) B) (hP : va_P D classes wx H) (hD : va_D (va_A ws sz) wx) (hS : va_S (va_A ws sz) s.heap H locs) (hl : lv_has ls 4 [(3, .int (nI i)), (2, .int (nI (md_te p0 (A 3) (A 4) (A 5) i).1)), (0, .ref (μ 0)), (1, .int p0)]), W p l e ({ frames := 0, cells := 0, slots := 0, locals := 0 } : Room) s m ([.ref (μ 0), .int p0] : List Value).toArray below meth c H locs 0 0 (MQ below (va_Qv (fun w1 => md_I cI cJ cZ w1 μ (upd x 4 (nI (md_te p0 (A 3) (A 4) (A 5) nw).1)) (cb_upr (cb_upr (cb_upr A 3 (md_te p0 (A 3) (A 4) (A 5) nw).2.1) 4 (md_te p0 (A 3) (A 4) (A 5) nw).2.2.1) 5 (md_te p0 (A 3) (A 4) (A 5) nw).2.2.2) B) (gx_B D classes ws sz) (va_A ws sz)) ([.ref (μ 0), .int p0] : List Value).toArray s 0 0 (va_A ws sz)) (F0 m 4 ls []) := by
    intro nn
    induction nn with
    | zero =>
      intro i wx H locs ls hi hf hM hP hD hS hl
      exact absurd hf (by omega)
    | succ nn ih =>
      intro i wx H locs ls hi hf hM hP hD hS hl
      have hte := md_te_le p0 (A 3) (A 4) (A 5) i
      refine lv_iload_n hx hb d_MD_takeEvents_4 rfl (lv_at hl 0 rfl) ?_
      refine lv_aload_n hx hb d_MD_takeEvents_5 rfl (lv_at hl 2 rfl) ?_
      refine va_get (D := D) (ci := iMD) (v := .int (x 4)) (C := R_MD) (T := F_MD) (N := 23) hx hb (fl_MD hg) (fun _ h9 => h9) hown hK hP 0 (hM.1) rfl 6 (by decide) (hg _ k_562) (fun _ h9 => h9) rfl d_MD_takeEvents_6 ?_
      refine lv_icmp_ge (tgt := 67) hx hb d_MD_takeEvents_9 (by decide) (fun c_9 => ?_) (fun c_9 => ?_)
      · skip
        rw [hx4] at c_9
        have hin : i = nw := by have := gx_ngt c_9; omega
        subst hin
        refine lv_aload_n hx hb d_MD_takeEvents_67 rfl (lv_at hl 2 rfl) ?_
        refine lv_iload_n hx hb d_MD_takeEvents_68 rfl (lv_at hl 1 rfl) ?_
        refine va_put (D := D) (ci := iMD) (v := .int (nI (md_te p0 (A 3) (A 4) (A 5) i).1)) (ty := .int) (C := R_MD) (T := F_MD) (N := 23) hx hb (fl_MD hg) (fun _ h9 => h9) t_MD t_MD_ok n_MD hown hK hP hD hS 0 (hM.1) rfl 6 (by decide) (hg _ k_562) (fun _ h9 => h9) rfl (by decide +kernel) rfl rfl (Nat.le_of_ble_eq_true rfl) d_MD_takeEvents_69 (fun H locs hP hD hS => ?_)
        obtain ⟨w_1, ew_1⟩ : ∃ y : va_W, y = wx.set 0 (μ 0, .inr (iMD, md_o μ (upd x 4 (nI (md_te p0 (A 3) (A 4) (A 5) i).1)))) := ⟨_, rfl⟩
        replace hP : va_P D classes w_1 H := by rw [ew_1]; exact hP
        replace hD : va_D (va_A ws sz) w_1 := by rw [ew_1]; exact hD
        replace hM : md_I cI cJ cZ w_1 μ (upd x 4 (nI (md_te p0 (A 3) (A 4) (A 5) i).1)) (cb_upr (cb_upr (cb_upr A 3 (md_te p0 (A 3) (A 4) (A 5) i).2.1) 4 (md_te p0 (A 3) (A 4) (A 5) i).2.2.1) 5 (md_te p0 (A 3) (A 4) (A 5) i).2.2.2) B := by rw [ew_1]; exact md_I.obj (x := x) (x' := upd x 4 (nI (md_te p0 (A 3) (A 4) (A 5) i).1)) hM
        exact gx_vret hx hb hr hlocks hS hP hD (by decide) (by decide) d_MD_takeEvents_72 (hM)
      · skip
        rw [hx4] at c_9
        have hin : i < nw := gx_nlt c_9
        refine lv_aload_n hx hb d_MD_takeEvents_12 rfl (lv_at hl 2 rfl) ?_
        refine va_get (D := D) (ci := iMD) (v := .ref (μ 3)) (C := R_MD) (T := F_MD) (N := 23) hx hb (fl_MD hg) (fun _ h9 => h9) hown hK hP 0 (hM.1) rfl 7 (by decide) (hg _ k_563) (fun _ h9 => h9) rfl d_MD_takeEvents_13 ?_
        refine lv_iload_n hx hb d_MD_takeEvents_16 rfl (lv_at hl 0 rfl) ?_
        refine gx_il (f := (md_te p0 (A 3) (A 4) (A 5) i).2.1) hx hb hK hP 3 0 (hM.2.1 3 (by decide) (by decide)) rfl i (rfl) (show i < 100 by omega) (by decide) d_MD_takeEvents_17 ?_
        refine lv_iload_n hx hb d_MD_takeEvents_18 rfl (lv_at hl 3 rfl) ?_
        refine lv_icmp_eq (tgt := 61) hx hb d_MD_takeEvents_19 (by decide) (fun c_19 => ?_) (fun c_19 => ?_)
        · skip
          refine lv_iinc (v := nI (i + 1)) (lv' := [(3, .int (nI (i + 1))), (2, .int (nI (md_te p0 (A 3) (A 4) (A 5) i).1)), (0, .ref (μ 0)), (1, .int p0)]) hx hb d_MD_takeEvents_61 hl (k := 0) rfl (by rw [lit1]; exact nI_1 i) (by decide) rfl (fun ls hl => ?_)
          refine lv_goto (tgt := 4) hx hb d_MD_takeEvents_64 (by decide) ?_
          exact ih (i + 1) _ _ _ ls (by omega) (by omega) (by rw [md_te_n c_19]; exact hM) hP hD hS (by rw [md_te_n c_19]; exact lv_sub hl [0, 1, 2, 3] rfl)
        · skip
          refine lv_aload_n hx hb d_MD_takeEvents_22 rfl (lv_at hl 2 rfl) ?_
          refine va_get (D := D) (ci := iMD) (v := .ref (μ 3)) (C := R_MD) (T := F_MD) (N := 23) hx hb (fl_MD hg) (fun _ h9 => h9) hown hK hP 0 (hM.1) rfl 7 (by decide) (hg _ k_563) (fun _ h9 => h9) rfl d_MD_takeEvents_23 ?_
          refine lv_iload_n hx hb d_MD_takeEvents_26 rfl (lv_at hl 1 rfl) ?_
          refine lv_aload_n hx hb d_MD_takeEvents_27 rfl (lv_at hl 2 rfl) ?_
          refine va_get (D := D) (ci := iMD) (v := .ref (μ 3)) (C := R_MD) (T := F_MD) (N := 23) hx hb (fl_MD hg) (fun _ h9 => h9) hown hK hP 0 (hM.1) rfl 7 (by decide) (hg _ k_563) (fun _ h9 => h9) rfl d_MD_takeEvents_28 ?_
          refine lv_iload_n hx hb d_MD_takeEvents_31 rfl (lv_at hl 0 rfl) ?_
          refine gx_il (f := (md_te p0 (A 3) (A 4) (A 5) i).2.1) hx hb hK hP 3 0 (hM.2.1 3 (by decide) (by decide)) rfl i (rfl) (show i < 100 by omega) (by decide) d_MD_takeEvents_32 ?_
          refine gx_is (f := (md_te p0 (A 3) (A 4) (A 5) i).2.1) hx hb hK hP hD hS 3 0 (hM.2.1 3 (by decide) (by decide)) rfl ((md_te p0 (A 3) (A 4) (A 5) i).1) (rfl) (show (md_te p0 (A 3) (A 4) (A 5) i).1 < 100 by omega) (by decide) d_MD_takeEvents_33 (fun H locs hP hD hS => ?_)
          obtain ⟨w_2, ew_2⟩ : ∃ y : va_W, y = wx.set 3 (μ 3, .inl (cI, md_n 3, .inl (upd ((md_te p0 (A 3) (A 4) (A 5) i).2.1) ((md_te p0 (A 3) (A 4) (A 5) i).1) (((md_te p0 (A 3) (A 4) (A 5) i).2.1) i)))) := ⟨_, rfl⟩
          replace hP : va_P D classes w_2 H := by rw [ew_2]; exact hP
          replace hD : va_D (va_A ws sz) w_2 := by rw [ew_2]; exact hD
          replace hM : md_I cI cJ cZ w_2 μ x (cb_upr (cb_upr (cb_upr (cb_upr A 3 (md_te p0 (A 3) (A 4) (A 5) i).2.1) 4 (md_te p0 (A 3) (A 4) (A 5) i).2.2.1) 5 (md_te p0 (A 3) (A 4) (A 5) i).2.2.2) 3 (upd ((md_te p0 (A 3) (A 4) (A 5) i).2.1) ((md_te p0 (A 3) (A 4) (A 5) i).1) (((md_te p0 (A 3) (A 4) (A 5) i).2.1) i))) B := by rw [ew_2]; exact md_I.int (by decide) (by decide) hM
          refine lv_aload_n hx hb d_MD_takeEvents_34 rfl (lv_at hl 2 rfl) ?_
          refine va_get (D := D) (ci := iMD) (v := .ref (μ 4)) (C := R_MD) (T := F_MD) (N := 23) hx hb (fl_MD hg) (fun _ h9 => h9) hown hK hP 0 (hM.1) rfl 8 (by decide) (hg _ k_564) (fun _ h9 => h9) rfl d_MD_takeEvents_35 ?_
          refine lv_iload_n hx hb d_MD_takeEvents_38 rfl (lv_at hl 1 rfl) ?_
          refine lv_aload_n hx hb d_MD_takeEvents_39 rfl (lv_at hl 2 rfl) ?_
          refine va_get (D := D) (ci := iMD) (v := .ref (μ 4)) (C := R_MD) (T := F_MD) (N := 23) hx hb (fl_MD hg) (fun _ h9 => h9) hown hK hP 0 (hM.1) rfl 8 (by decide) (hg _ k_564) (fun _ h9 => h9) rfl d_MD_takeEvents_40 ?_
          refine lv_iload_n hx hb d_MD_takeEvents_43 rfl (lv_at hl 0 rfl) ?_
          refine gx_il (f := (md_te p0 (A 3) (A 4) (A 5) i).2.2.1) hx hb hK hP 4 0 (hM.2.1 4 (by decide) (by decide)) rfl i (rfl) (show i < 100 by omega) (by decide) d_MD_takeEvents_44 ?_
          refine gx_is (f := (md_te p0 (A 3) (A 4) (A 5) i).2.2.1) hx hb hK hP hD hS 4 0 (hM.2.1 4 (by decide) (by decide)) rfl ((md_te p0 (A 3) (A 4) (A 5) i).1) (rfl) (show (md_te p0 (A 3) (A 4) (A 5) i).1 < 100 by omega) (by decide) d_MD_takeEvents_45 (fun H locs hP hD hS => ?_)
          obtain ⟨w_3, ew_3⟩ : ∃ y : va_W, y = w_2.set 4 (μ 4, .inl (cI, md_n 4, .inl (upd ((md_te p0 (A 3) (A 4) (A 5) i).2.2.1) ((md_te p0 (A 3) (A 4) (A 5) i).1) (((md_te p0 (A 3) (A 4) (A 5) i).2.2.1) i)))) := ⟨_, rfl⟩
          replace hP : va_P D classes w_3 H := by rw [ew_3]; exact hP
          replace hD : va_D (va_A ws sz) w_3 := by rw [ew_3]; exact hD
          replace hM : md_I cI cJ cZ w_3 μ x (cb_upr (cb_upr (cb_upr (cb_upr (cb_upr A 3 (md_te p0 (A 3) (A 4) (A 5) i).2.1) 4 (md_te p0 (A 3) (A 4) (A 5) i).2.2.1) 5 (md_te p0 (A 3) (A 4) (A 5) i).2.2.2) 3 (upd ((md_te p0 (A 3) (A 4) (A 5) i).2.1) ((md_te p0 (A 3) (A 4) (A 5) i).1) (((md_te p0 (A 3) (A 4) (A 5) i).2.1) i))) 4 (upd ((md_te p0 (A 3) (A 4) (A 5) i).2.2.1) ((md_te p0 (A 3) (A 4) (A 5) i).1) (((md_te p0 (A 3) (A 4) (A 5) i).2.2.1) i))) B := by rw [ew_3]; exact md_I.int (by decide) (by decide) hM
          refine lv_aload_n hx hb d_MD_takeEvents_46 rfl (lv_at hl 2 rfl) ?_
          refine va_get (D := D) (ci := iMD) (v := .ref (μ 5)) (C := R_MD) (T := F_MD) (N := 23) hx hb (fl_MD hg) (fun _ h9 => h9) hown hK hP 0 (hM.1) rfl 9 (by decide) (hg _ k_565) (fun _ h9 => h9) rfl d_MD_takeEvents_47 ?_
          refine lv_iload_n hx hb d_MD_takeEvents_50 rfl (lv_at hl 1 rfl) ?_
          refine lv_aload_n hx hb d_MD_takeEvents_51 rfl (lv_at hl 2 rfl) ?_
          refine va_get (D := D) (ci := iMD) (v := .ref (μ 5)) (C := R_MD) (T := F_MD) (N := 23) hx hb (fl_MD hg) (fun _ h9 => h9) hown hK hP 0 (hM.1) rfl 9 (by decide) (hg _ k_565) (fun _ h9 => h9) rfl d_MD_takeEvents_52 ?_
          refine lv_iload_n hx hb d_MD_takeEvents_55 rfl (lv_at hl 0 rfl) ?_
          refine gx_il (f := (md_te p0 (A 3) (A 4) (A 5) i).2.2.2) hx hb hK hP 5 0 (hM.2.1 5 (by decide) (by decide)) rfl i (rfl) (show i < 100 by omega) (by decide) d_MD_takeEvents_56 ?_
          refine gx_is (f := (md_te p0 (A 3) (A 4) (A 5) i).2.2.2) hx hb hK hP hD hS 5 0 (hM.2.1 5 (by decide) (by decide)) rfl ((md_te p0 (A 3) (A 4) (A 5) i).1) (rfl) (show (md_te p0 (A 3) (A 4) (A 5) i).1 < 100 by omega) (by decide) d_MD_takeEvents_57 (fun H locs hP hD hS => ?_)
          obtain ⟨w_4, ew_4⟩ : ∃ y : va_W, y = w_3.set 5 (μ 5, .inl (cI, md_n 5, .inl (upd ((md_te p0 (A 3) (A 4) (A 5) i).2.2.2) ((md_te p0 (A 3) (A 4) (A 5) i).1) (((md_te p0 (A 3) (A 4) (A 5) i).2.2.2) i)))) := ⟨_, rfl⟩
          replace hP : va_P D classes w_4 H := by rw [ew_4]; exact hP
          replace hD : va_D (va_A ws sz) w_4 := by rw [ew_4]; exact hD
          replace hM : md_I cI cJ cZ w_4 μ x (cb_upr (cb_upr (cb_upr (cb_upr (cb_upr (cb_upr A 3 (md_te p0 (A 3) (A 4) (A 5) i).2.1) 4 (md_te p0 (A 3) (A 4) (A 5) i).2.2.1) 5 (md_te p0 (A 3) (A 4) (A 5) i).2.2.2) 3 (upd ((md_te p0 (A 3) (A 4) (A 5) i).2.1) ((md_te p0 (A 3) (A 4) (A 5) i).1) (((md_te p0 (A 3) (A 4) (A 5) i).2.1) i))) 4 (upd ((md_te p0 (A 3) (A 4) (A 5) i).2.2.1) ((md_te p0 (A 3) (A 4) (A 5) i).1) (((md_te p0 (A 3) (A 4) (A 5) i).2.2.1) i))) 5 (upd ((md_te p0 (A 3) (A 4) (A 5) i).2.2.2) ((md_te p0 (A 3) (A 4) (A 5) i).1) (((md_te p0 (A 3) (A 4) (A 5) i).2.2.2) i))) B := by rw [ew_4]; exact md_I.int (by decide) (by decide) hM
          refine lv_iinc (v := nI ((md_te p0 (A 3) (A 4) (A 5) i).1 + 1)) (lv' := [(2, .int (nI ((md_te p0 (A 3) (A 4) (A 5) i).1 + 1))), (3, .int (nI i)), (0, .ref (μ 0)), (1, .int p0)]) hx hb d_MD_takeEvents_58 hl (k := 1) rfl (by rw [lit1]; exact nI_1 _) (by decide) rfl (fun ls hl => ?_)
          refine lv_iinc (v := nI (i + 1)) (lv' := [(3, .int (nI (i + 1))), (2, .int (nI ((md_te p0 (A 3) (A 4) (A 5) i).1 + 1))), (0, .ref (μ 0)), (1, .int p0)]) hx hb d_MD_takeEvents_61 hl (k := 1) rfl (by rw [lit1]; exact nI_1 i) (by decide) rfl (fun ls hl => ?_)
          refine lv_goto (tgt := 4) hx hb d_MD_takeEvents_64 (by decide) ?_
          exact ih (i + 1) _ _ _ ls (by omega) (by omega) (by rw [md_te_s c_19]; rw [md_up3] at hM; exact hM) hP hD hS (by rw [md_te_s c_19]; exact lv_sub hl [0, 1, 2, 3] rfl)
  exact loop (nw + 1) 0 ws s.heap [] ls (by omega) (by omega) (by rw [show cb_upr (cb_upr (cb_upr A 3 (md_te p0 (A 3) (A 4) (A 5) 0).2.1) 4 (md_te p0 (A 3) (A 4) (A 5) 0).2.2.1) 5 (md_te p0 (A 3) (A 4) (A 5) 0).2.2.2 = A from md_up0]; exact hM) hP hD hS (lv_sub hl [0, 1, 2, 3] rfl)

