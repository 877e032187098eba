set_option maxRecDepth 100000 in
set_option maxHeartbeats 4000000 in
theorem c_MD_whole {l : Launch} {s0 : State} {D : va_G} {cI cC cJ cII cO cZ : ClassId} (F : FX l s0 D cI cC cJ cII cO cZ) {ws : va_W} {μ : Nat → Nat} {x : Nat → Int32} {A : Nat → Nat → Int32} {B : Nat → Nat → Int64} (hM : md_I cI cJ cZ ws μ x A B) (sz : Nat) (nl : Nat) (hnl : nl ≤ 200) (hx5 : x 5 = nI nl) (t : Nat) (ht : t < nl)  : Met l y_MD_whole [.code y_MD_whole b_MD_whole 5 (some .long)] { frames := 0, cells := 0, slots := 0, locals := 0 } (gx_P s0 D classes ws sz [.ref (μ 0), .int (nI t)]) (gx_Rl (fun r => r = md_wh A B t nl)) 0 0 (fun _ => False) := by
  refine gx_met (by decide +kernel) (Nat.le_of_ble_eq_true rfl) ?_
  intro p e s m below meth c ls hx hb hr hml hown hlocks hnm hsz hV hP hD hS hA hA0 hl
  have hg := fx_g F hV ([.ref (μ 0), .int (nI t)] : List Value).toArray
  have hK := fx_k F hV
  have hn9 := fx_n F hV
  have hl : lv_has ls 5 [(0, .ref (μ 0)), (1, .int (nI t))] := hl
  refine lv_aload_n hx hb d_MD_whole_0 rfl (lv_at hl 0 rfl) ?_
  refine va_get (D := D) (ci := iMD) (v := .ref (μ 14)) (C := R_MD) (T := F_MD) (N := 23) hx hb (fl_MD hg) (fun _ h9 => h9) hown hK hP 0 (hM.1) rfl 18 (by decide) (hg _ k_574) (fun _ h9 => h9) rfl d_MD_whole_1 ?_
  refine lv_iload_n hx hb d_MD_whole_4 rfl (lv_at hl 1 rfl) ?_
  refine gx_ll hx hb hK hP 14 2 (hM.2.2.1 14 (by decide) (by decide)) rfl t (rfl) (show t < 200 by omega) (by decide) d_MD_whole_5 ?_
  refine lv_lstore_n (lv' := [(2, .long ((B 14) t)), (0, .ref (μ 0)), (1, .int (nI t))]) hx hb d_MD_whole_6 rfl hl (by decide) rfl (fun ls hl => ?_)
  refine lv_iconst (v := 0) hx hb d_MD_whole_7 (by decide) ?_
  refine lv_istore (lv' := [(4, .int 0), (2, .long ((B 14) t)), (0, .ref (μ 0)), (1, .int (nI t))]) hx hb d_MD_whole_8 hl (by decide) rfl (fun ls hl => ?_)
  have loop : ∀ (nn : Nat) (i : Nat) (ls : Array Slot) (hi : i ≤ nl) (hf : nl + 1 ≤ i + nn) (hl : lv_has ls 5 [(4, .int (nI i)), (2, .long (md_wh A B t i)), (0, .ref (μ 0)), (1, .int (nI t))]), W p l e ({ frames := 0, cells := 0, slots := 0, locals := 0 } : Room) s m ([.ref (μ 0), .int (nI t)] : List Value).toArray below meth c s.heap [] 0 0 (MQ below (gx_Rl (fun r => r = md_wh A B t nl)) ([.ref (μ 0), .int (nI t)] : List Value).toArray s 0 0 (fun _ => False)) (F0 m 10 ls []) := by
    intro nn
    induction nn with
    | zero =>
      intro i ls hi hf hl
      exact absurd hf (by omega)
    | succ nn ih =>
      intro i ls hi hf hl
      refine lv_iload hx hb d_MD_whole_10 (lv_at hl 0 rfl) ?_
      refine lv_aload_n hx hb d_MD_whole_12 rfl (lv_at hl 2 rfl) ?_
      refine va_get (D := D) (ci := iMD) (v := .int (x 5)) (C := R_MD) (T := F_MD) (N := 23) hx hb (fl_MD hg) (fun _ h9 => h9) hown hK hP 0 (hM.1) rfl 13 (by decide) (hg _ k_569) (fun _ h9 => h9) rfl d_MD_whole_13 ?_
      refine lv_icmp_ge (tgt := 50) hx hb d_MD_whole_16 (by decide) (fun c_16 => ?_) (fun c_16 => ?_)
      · skip
        rw [hx5] at c_16
        have hin : i = nl := by have := gx_ngt c_16; omega
        subst hin
        refine lv_lload_n hx hb d_MD_whole_50 rfl (lv_at hl 1 rfl) ?_
        exact gx_iretl hx hb hr hlocks d_MD_whole_51 (rfl)
      · skip
        rw [hx5] at c_16
        have hin : i < nl := gx_nlt c_16
        refine lv_lload_n hx hb d_MD_whole_19 rfl (lv_at hl 1 rfl) ?_
        refine lv_aload_n hx hb d_MD_whole_20 rfl (lv_at hl 2 rfl) ?_
        refine va_get (D := D) (ci := iMD) (v := .ref (μ 13)) (C := R_MD) (T := F_MD) (N := 23) hx hb (fl_MD hg) (fun _ h9 => h9) hown hK hP 0 (hM.1) rfl 19 (by decide) (hg _ k_575) (fun _ h9 => h9) rfl d_MD_whole_21 ?_
        refine lv_iload hx hb d_MD_whole_24 (lv_at hl 0 rfl) ?_
        refine gx_il (f := A 13) hx hb hK hP 13 0 (hM.2.1 13 (by decide) (by decide)) rfl i (rfl) (show i < 200 by omega) (by decide) d_MD_whole_26 ?_
        refine lv_iload_n hx hb d_MD_whole_27 rfl (lv_at hl 3 rfl) ?_
        refine lv_icmp_ne (tgt := 41) hx hb d_MD_whole_28 (by decide) (fun c_28 => ?_) (fun c_28 => ?_)
        · skip
          refine lv_lconst (v := 0) hx hb d_MD_whole_41 (by decide) ?_
          refine lv_ladd hx hb d_MD_whole_42 ?_
          refine lv_lstore_n (lv' := [(2, .long ((md_wh A B t i) + (0 : Int64))), (4, .int (nI i)), (0, .ref (μ 0)), (1, .int (nI t))]) hx hb d_MD_whole_43 rfl hl (by decide) rfl (fun ls hl => ?_)
          refine lv_iinc (v := nI (i + 1)) (lv' := [(4, .int (nI (i + 1))), (2, .long ((md_wh A B t i) + (0 : Int64))), (0, .ref (μ 0)), (1, .int (nI t))]) hx hb d_MD_whole_44 hl (k := 1) rfl (by rw [lit1]; exact nI_1 i) (by decide) rfl (fun ls hl => ?_)
          refine lv_goto (tgt := 10) hx hb d_MD_whole_47 (by decide) ?_
          exact ih (i + 1) ls (by omega) (by omega) (by rw [md_wh_n c_28]; exact lv_sub hl [0, 1, 2, 3] rfl)
        · skip
          refine lv_aload_n hx hb d_MD_whole_31 rfl (lv_at hl 2 rfl) ?_
          refine va_get (D := D) (ci := iMD) (v := .ref (μ 14)) (C := R_MD) (T := F_MD) (N := 23) hx hb (fl_MD hg) (fun _ h9 => h9) hown hK hP 0 (hM.1) rfl 18 (by decide) (hg _ k_574) (fun _ h9 => h9) rfl d_MD_whole_32 ?_
          refine lv_iload hx hb d_MD_whole_35 (lv_at hl 0 rfl) ?_
          refine gx_ll hx hb hK hP 14 2 (hM.2.2.1 14 (by decide) (by decide)) rfl i (rfl) (show i < 200 by omega) (by decide) d_MD_whole_37 ?_
          refine lv_goto (tgt := 42) hx hb d_MD_whole_38 (by decide) ?_
          refine lv_ladd hx hb d_MD_whole_42 ?_
          refine lv_lstore_n (lv' := [(2, .long ((md_wh A B t i) + ((B 14) i))), (4, .int (nI i)), (0, .ref (μ 0)), (1, .int (nI t))]) hx hb d_MD_whole_43 rfl hl (by decide) rfl (fun ls hl => ?_)
          refine lv_iinc (v := nI (i + 1)) (lv' := [(4, .int (nI (i + 1))), (2, .long ((md_wh A B t i) + ((B 14) i))), (0, .ref (μ 0)), (1, .int (nI t))]) hx hb d_MD_whole_44 hl (k := 1) rfl (by rw [lit1]; exact nI_1 i) (by decide) rfl (fun ls hl => ?_)
          refine lv_goto (tgt := 10) hx hb d_MD_whole_47 (by decide) ?_
          exact ih (i + 1) ls (by omega) (by omega) (by rw [md_wh_s c_28]; exact lv_sub hl [0, 1, 2, 3] rfl)
  exact loop (nl + 1) 0 ls (by omega) (by omega) (lv_sub hl [0, 1, 2, 3] rfl)

set_option maxRecDepth 100000 in
set_option maxHeartbeats 4000000 in
theorem c_MD_isOut {l : Launch} {s0 : State} {D : va_G} {cI cC cJ cII cO cZ : ClassId} (F : FX l s0 D cI cC cJ cII cO cZ) {ws : va_W} {μ : Nat → Nat} {x : Nat → Int32} {A : Nat → Nat → Int32} {B : Nat → Nat → Int64} (hM : md_I cI cJ cZ ws μ x A B) (sz : Nat) (nl : Nat) (hnl : nl ≤ 200) (hcr : md_cr A nl) (hbo : ∀ q, A 16 q = 0 ∨ A 16 q = 1) (j : Nat) (hj : j < nl)  : Met l y_MD_isOut [.code y_MD_isOut b_MD_isOut 2 (some .boolean)] { frames := 0, cells := 0, slots := 0, locals := 0 } (gx_P s0 D classes ws sz [.ref (μ 0), .int (nI j)]) (gx_Ri (fun r => r = A 16 (md_root A j))) 0 0 (fun _ => False) := by
  refine gx_met (by decide +kernel) (Nat.le_of_ble_eq_true rfl) ?_
  intro p e s m below meth c ls hx hb hr hml hown hlocks hnm hsz hV hP hD hS hA hA0 hl
  have hg := fx_g F hV ([.ref (μ 0), .int (nI j)] : List Value).toArray
  have hK := fx_k F hV
  have hn9 := fx_n F hV
  have hl : lv_has ls 2 [(0, .ref (μ 0)), (1, .int (nI j))] := hl
  have hrl := md_root_lt hcr hnl hj
  refine lv_aload_n hx hb d_MD_isOut_0 rfl (lv_at hl 0 rfl) ?_
  refine va_get (D := D) (ci := iMD) (v := .ref (μ 16)) (C := R_MD) (T := F_MD) (N := 23) hx hb (fl_MD hg) (fun _ h9 => h9) hown hK hP 0 (hM.1) rfl 20 (by decide) (hg _ k_576) (fun _ h9 => h9) rfl d_MD_isOut_1 ?_
  refine lv_aload_n hx hb d_MD_isOut_4 rfl (lv_at hl 0 rfl) ?_
  refine va_get (D := D) (ci := iMD) (v := .ref (μ 13)) (C := R_MD) (T := F_MD) (N := 23) hx hb (fl_MD hg) (fun _ h9 => h9) hown hK hP 0 (hM.1) rfl 19 (by decide) (hg _ k_575) (fun _ h9 => h9) rfl d_MD_isOut_5 ?_
  refine lv_iload_n hx hb d_MD_isOut_8 rfl (lv_at hl 1 rfl) ?_
  refine gx_il (f := A 13) hx hb hK hP 13 0 (hM.2.1 13 (by decide) (by decide)) rfl j (rfl) (show j < 200 by omega) (by decide) d_MD_isOut_9 ?_
  refine lv_iconst (v := (-1)) hx hb d_MD_isOut_10 (by decide) ?_
  refine lv_icmp_ne (tgt := 18) hx hb d_MD_isOut_11 (by decide) (fun c_11 => ?_) (fun c_11 => ?_)
  · skip
    refine lv_aload_n hx hb d_MD_isOut_18 rfl (lv_at hl 0 rfl) ?_
    refine va_get (D := D) (ci := iMD) (v := .ref (μ 13)) (C := R_MD) (T := F_MD) (N := 23) hx hb (fl_MD hg) (fun _ h9 => h9) hown hK hP 0 (hM.1) rfl 19 (by decide) (hg _ k_575) (fun _ h9 => h9) rfl d_MD_isOut_19 ?_
    refine lv_iload_n hx hb d_MD_isOut_22 rfl (lv_at hl 1 rfl) ?_
    refine gx_il (f := A 13) hx hb hK hP 13 0 (hM.2.1 13 (by decide) (by decide)) rfl j (rfl) (show j < 200 by omega) (by decide) d_MD_isOut_23 ?_
    refine gx_zl (f := A 16) hx hb hK hP 16 5 (hM.2.2.2 16 (by decide) (by decide)) rfl (md_root A j) (md_root_ne hcr hnl hj c_11) (show md_root A j < 200 by omega) (by decide) d_MD_isOut_24 ?_
    exact gx_ireti hx hb hr hlocks (by rcases hbo (md_root A j) with h | h <;> rw [h] <;> rfl) d_MD_isOut_25 (rfl)
  · skip
    refine lv_iload_n hx hb d_MD_isOut_14 rfl (lv_at hl 1 rfl) ?_
    refine lv_goto (tgt := 24) hx hb d_MD_isOut_15 (by decide) ?_
    refine gx_zl (f := A 16) hx hb hK hP 16 5 (hM.2.2.2 16 (by decide) (by decide)) rfl (md_root A j) (by unfold md_root; rw [if_pos c_11]) (show md_root A j < 200 by omega) (by decide) d_MD_isOut_24 ?_
    exact gx_ireti hx hb hr hlocks (by rcases hbo (md_root A j) with h | h <;> rw [h] <;> rfl) d_MD_isOut_25 (rfl)

set_option maxRecDepth 100000 in
set_option maxHeartbeats 4000000 in
theorem c_MD_left {l : Launch} {s0 : State} {D : va_G} {cI cC cJ cII cO cZ : ClassId} (F : FX l s0 D cI cC cJ cII cO cZ) {ws : va_W} {μ : Nat → Nat} {x : Nat → Int32} {A : Nat → Nat → Int32} {B : Nat → Nat → Int64} (hM : md_I cI cJ cZ ws μ x A B) (sz : Nat) (nl : Nat) (hnl : nl ≤ 200) (hx5 : x 5 = nI nl) (hcr : md_cr A nl) (hbo : ∀ q, A 16 q = 0 ∨ A 16 q = 1) (k : Nat) (hk : k < 10)  : Met l y_MD_left [.code y_MD_left b_MD_left 5 (some .long)] { frames := 1, cells := 0, slots := 0, locals := 40 } (gx_P s0 D classes ws sz [.ref (μ 0), .int (nI k)]) (gx_Rl (fun r => r = md_lf A B (nI k) (-(B 15 k)) nl)) 0 0 (fun _ => False) := by
  refine gx_met (by decide +kernel) (Nat.le_of_ble_eq_true rfl) ?_
  intro p e s m below meth c ls hx hb hr hml hown hlocks hnm hsz hV hP hD hS hA hA0 hl
  have hg := fx_g F hV ([.ref (μ 0), .int (nI k)] : List Value).toArray
  have hK := fx_k F hV
  have hn9 := fx_n F hV
  have hl : lv_has ls 5 [(0, .ref (μ 0)), (1, .int (nI k))] := hl
  refine lv_aload_n hx hb d_MD_left_0 rfl (lv_at hl 0 rfl) ?_
  refine va_get (D := D) (ci := iMD) (v := .ref (μ 15)) (C := R_MD) (T := F_MD) (N := 23) hx hb (fl_MD hg) (fun _ h9 => h9) hown hK hP 0 (hM.1) rfl 22 (by decide) (hg _ k_578) (fun _ h9 => h9) rfl d_MD_left_1 ?_
  refine lv_iload_n hx hb d_MD_left_4 rfl (lv_at hl 1 rfl) ?_
  refine gx_ll hx hb hK hP 15 2 (hM.2.2.1 15 (by decide) (by decide)) rfl k (rfl) (show k < 10 from hk) (by decide) d_MD_left_5 ?_
  refine lv_lneg hx hb d_MD_left_6 ?_
  refine lv_lstore_n (lv' := [(2, .long (-((B 15) k))), (0, .ref (μ 0)), (1, .int (nI k))]) hx hb d_MD_left_7 rfl hl (by decide) rfl (fun ls hl => ?_)
  refine lv_iconst (v := 0) hx hb d_MD_left_8 (by decide) ?_
  refine lv_istore (lv' := [(4, .int 0), (2, .long (-((B 15) k))), (0, .ref (μ 0)), (1, .int (nI k))]) hx hb d_MD_left_9 hl (by decide) rfl (fun ls hl => ?_)
  have loop : ∀ (nn : Nat) (i : Nat) (ls : Array Slot) (hi : i ≤ nl) (hf : nl + 1 ≤ i + nn) (hl : lv_has ls 5 [(4, .int (nI i)), (2, .long (md_lf A B (nI k) (-(B 15 k)) i)), (0, .ref (μ 0)), (1, .int (nI k))]), W p l e ({ frames := 1, cells := 0, slots := 0, locals := 40 } : Room) s m ([.ref (μ 0), .int (nI k)] : List Value).toArray below meth c s.heap [] 0 0 (MQ below (gx_Rl (fun r => r = md_lf A B (nI k) (-(B 15 k)) nl)) ([.ref (μ 0), .int (nI k)] : List Value).toArray s 0 0 (fun _ => False)) (F0 m 11 ls []) := by
    intro nn
    induction nn with
    | zero =>
      intro i ls hi hf hl
      exact absurd hf (by omega)
    | succ nn ih =>
      intro i ls hi hf hl
      refine lv_iload hx hb d_MD_left_11 (lv_at hl 0 rfl) ?_
      refine lv_aload_n hx hb d_MD_left_13 rfl (lv_at hl 2 rfl) ?_
      refine va_get (D := D) (ci := iMD) (v := .int (x 5)) (C := R_MD) (T := F_MD) (N := 23) hx hb (fl_MD hg) (fun _ h9 => h9) hown hK hP 0 (hM.1) rfl 13 (by decide) (hg _ k_569) (fun _ h9 => h9) rfl d_MD_left_14 ?_
      refine lv_icmp_ge (tgt := 60) hx hb d_MD_left_17 (by decide) (fun c_17 => ?_) (fun c_17 => ?_)
      · skip
        rw [hx5] at c_17
        have hin : i = nl := by have := gx_ngt c_17; omega
        subst hin
        refine lv_lload_n hx hb d_MD_left_60 rfl (lv_at hl 1 rfl) ?_
        exact gx_iretl hx hb hr hlocks d_MD_left_61 (rfl)
      · skip
        rw [hx5] at c_17
        have hin : i < nl := gx_nlt c_17
        refine lv_lload_n hx hb d_MD_left_20 rfl (lv_at hl 1 rfl) ?_
        refine lv_aload_n hx hb d_MD_left_21 rfl (lv_at hl 2 rfl) ?_
        refine va_get (D := D) (ci := iMD) (v := .ref (μ 9)) (C := R_MD) (T := F_MD) (N := 23) hx hb (fl_MD hg) (fun _ h9 => h9) hown hK hP 0 (hM.1) rfl 14 (by decide) (hg _ k_570) (fun _ h9 => h9) rfl d_MD_left_22 ?_
        refine lv_iload hx hb d_MD_left_25 (lv_at hl 0 rfl) ?_
        refine gx_il (f := A 9) hx hb hK hP 9 0 (hM.2.1 9 (by decide) (by decide)) rfl i (rfl) (show i < 200 by omega) (by decide) d_MD_left_27 ?_
        refine lv_iload_n hx hb d_MD_left_28 rfl (lv_at hl 3 rfl) ?_
        refine lv_icmp_ne (tgt := 51) hx hb d_MD_left_29 (by decide) (fun c_29 => ?_) (fun c_29 => ?_)
        · skip
          refine lv_lconst (v := 0) hx hb d_MD_left_51 (by decide) ?_
          refine lv_ladd hx hb d_MD_left_52 ?_
          refine lv_lstore_n (lv' := [(2, .long ((md_lf A B (nI k) (-(B 15 k)) i) + (0 : Int64))), (4, .int (nI i)), (0, .ref (μ 0)), (1, .int (nI k))]) hx hb d_MD_left_53 rfl hl (by decide) rfl (fun ls hl => ?_)
          refine lv_iinc (v := nI (i + 1)) (lv' := [(4, .int (nI (i + 1))), (2, .long ((md_lf A B (nI k) (-(B 15 k)) i) + (0 : Int64))), (0, .ref (μ 0)), (1, .int (nI k))]) hx hb d_MD_left_54 hl (k := 1) rfl (by rw [lit1]; exact nI_1 i) (by decide) rfl (fun ls hl => ?_)
          refine lv_goto (tgt := 11) hx hb d_MD_left_57 (by decide) ?_
          exact ih (i + 1) ls (by omega) (by omega) (by rw [md_lf_n (fun q => c_29 q.1)]; exact lv_sub hl [0, 1, 2, 3] rfl)
        · skip
          refine lv_aload_n hx hb d_MD_left_32 rfl (lv_at hl 2 rfl) ?_
          refine lv_iload hx hb d_MD_left_33 (lv_at hl 0 rfl) ?_
          refine gx_readi (va_runV (As := [.int (nI i)]) (rest := [.long (md_lf A B (nI k) (-(B 15 k)) i)]) ⟨hx, hb, hml, hown, gx_nil⟩ (c_MD_isOut F hM _ nl hnl hcr hbo i hin) ⟨gx_cb (hg _ k_728) (hg _ k_7) (hg _ k_725) nd_MD_isOut ⟨by decide, by decide⟩, hg _ k_727, hg _ ks_30⟩ (gx_preV hV hP hD hS hA0 (va_recv hK hP rfl (hM.1))) rfl rfl hl.1 rfl (lv_room (Nat.le_of_ble_eq_true rfl)) d_MD_left_35 ⟨by decide, by decide⟩) (fun r_35 h_35 => ?_)
          subst h_35
          refine lv_if_ne (tgt := 51) hx hb d_MD_left_38 (by decide) (fun c_38 => ?_) (fun c_38 => ?_)
          · skip
            refine lv_lconst (v := 0) hx hb d_MD_left_51 (by decide) ?_
            refine lv_ladd hx hb d_MD_left_52 ?_
            refine lv_lstore_n (lv' := [(2, .long ((md_lf A B (nI k) (-(B 15 k)) i) + (0 : Int64))), (4, .int (nI i)), (0, .ref (μ 0)), (1, .int (nI k))]) hx hb d_MD_left_53 rfl hl (by decide) rfl (fun ls hl => ?_)
            refine lv_iinc (v := nI (i + 1)) (lv' := [(4, .int (nI (i + 1))), (2, .long ((md_lf A B (nI k) (-(B 15 k)) i) + (0 : Int64))), (0, .ref (μ 0)), (1, .int (nI k))]) hx hb d_MD_left_54 hl (k := 1) rfl (by rw [lit1]; exact nI_1 i) (by decide) rfl (fun ls hl => ?_)
            refine lv_goto (tgt := 11) hx hb d_MD_left_57 (by decide) ?_
            exact ih (i + 1) ls (by omega) (by omega) (by rw [md_lf_n (fun q => c_38 q.2)]; exact lv_sub hl [0, 1, 2, 3] rfl)
          · skip
            refine lv_aload_n hx hb d_MD_left_41 rfl (lv_at hl 2 rfl) ?_
            refine va_get (D := D) (ci := iMD) (v := .ref (μ 14)) (C := R_MD) (T := F_MD) (N := 23) hx hb (fl_MD hg) (fun _ h9 => h9) hown hK hP 0 (hM.1) rfl 18 (by decide) (hg _ k_574) (fun _ h9 => h9) rfl d_MD_left_42 ?_
            refine lv_iload hx hb d_MD_left_45 (lv_at hl 0 rfl) ?_
            refine gx_ll hx hb hK hP 14 2 (hM.2.2.1 14 (by decide) (by decide)) rfl i (rfl) (show i < 200 by omega) (by decide) d_MD_left_47 ?_
            refine lv_goto (tgt := 52) hx hb d_MD_left_48 (by decide) ?_
            refine lv_ladd hx hb d_MD_left_52 ?_
            refine lv_lstore_n (lv' := [(2, .long ((md_lf A B (nI k) (-(B 15 k)) i) + ((B 14) i))), (4, .int (nI i)), (0, .ref (μ 0)), (1, .int (nI k))]) hx hb d_MD_left_53 rfl hl (by decide) rfl (fun ls hl => ?_)
            refine lv_iinc (v := nI (i + 1)) (lv' := [(4, .int (nI (i + 1))), (2, .long ((md_lf A B (nI k) (-(B 15 k)) i) + ((B 14) i))), (0, .ref (μ 0)), (1, .int (nI k))]) hx hb d_MD_left_54 hl (k := 1) rfl (by rw [lit1]; exact nI_1 i) (by decide) rfl (fun ls hl => ?_)
            refine lv_goto (tgt := 11) hx hb d_MD_left_57 (by decide) ?_
            exact ih (i + 1) ls (by omega) (by omega) (by rw [md_lf_s ⟨c_29, c_38⟩]; exact lv_sub hl [0, 1, 2, 3] rfl)
  exact loop (nl + 1) 0 ls (by omega) (by omega) (lv_sub hl [0, 1, 2, 3] rfl)

set_option maxRecDepth 100000 in
set_option maxHeartbeats 4000000 in
theorem c_MD_pay {l : Launch} {s0 : State} {D : va_G} {cI cC cJ cII cO cZ : ClassId} (F : FX l s0 D cI cC cJ cII cO cZ) {ws : va_W} {μ : Nat → Nat} {x : Nat → Int32} {A : Nat → Nat → Int32} {B : Nat → Nat → Int64} (hM : md_I cI cJ cZ ws μ x A B) (sz : Nat) (nl : Nat) (hnl : nl ≤ 200) (hx5 : x 5 = nI nl) (hcr : md_cr A nl) (hbo : ∀ q, A 16 q = 0 ∨ A 16 q = 1) (p0 : Int32) (p1 : Int64)  : Met l y_MD_pay [.code y_MD_pay b_MD_pay 4 (some .long)] { frames := 2, cells := 0, slots := 0, locals := 80 } (gx_P s0 D classes ws sz [.ref (μ 0), .int p0, .long p1]) (va_Ql (fun r w1 => (((p0 < 0 ∨ nI 10 ≤ p0) ∨ (p1 < 1 ∨ 1000000000000 < p1)) ∧ md_I cI cJ cZ w1 μ (upd x 0 1) A B) ∨ (∃ k9, k9 < 10 ∧ p0 = nI k9 ∧ ¬ p1 < 1 ∧ ¬ 1000000000000 < p1 ∧ r = md_lf A (cb_upr B 15 (vp_updL (B 15) k9 (B 15 k9 + p1))) (nI k9) (-(B 15 k9 + p1)) nl ∧ md_I cI cJ cZ w1 μ (upd x 0 0) A (cb_upr B 15 (vp_updL (B 15) k9 (B 15 k9 + p1))))) (gx_B D classes ws sz) (va_A ws sz)) 0 0 (va_A ws sz) := by
  refine gx_met (by decide +kernel) (Nat.le_of_ble_eq_true rfl) ?_
  intro p e s m below meth c ls hx hb hr hml hown hlocks hnm hsz hV hP hD hS hA hA0 hl
  have hg := fx_g F hV ([.ref (μ 0), .int p0, .long p1] : List Value).toArray
  have hK := fx_k F hV
  have hn9 := fx_n F hV
  have hl : lv_has ls 4 [(0, .ref (μ 0)), (1, .int p0), (2, .long p1)] := hl
  refine lv_iload_n hx hb d_MD_pay_0 rfl (lv_at hl 1 rfl) ?_
  refine gx_readi (va_runS (As := [.int p0]) (rest := []) ⟨hx, hb, hml, hown, gx_nil⟩ (c_MD_isCall F _ _ _) ⟨gx_cb (hg _ k_669) (hg _ k_7) (hg _ k_667) nd_MD_isCall ⟨by decide, by decide⟩, hg _ k_668⟩ (gx_preS hV hP hD hS hA0) rfl rfl hl.1 rfl (lv_room (Nat.le_of_ble_eq_true rfl)) d_MD_pay_1 ⟨by decide, by decide⟩) (fun r_1 h_1 => ?_)
  rcases h_1 with ⟨rfl, k, hk, rfl⟩ | ⟨rfl, hbad⟩
  · skip
    refine lv_if_eq (tgt := 18) hx hb d_MD_pay_4 (by decide) (fun c_4 => absurd c_4 (by decide)) (fun c_4 => ?_)
    refine lv_lload_n hx hb d_MD_pay_7 rfl (lv_at hl 2 rfl) ?_
    refine lv_lconst (v := 1) hx hb d_MD_pay_8 (by decide) ?_
    refine lv_ldc2 (v := 1000000000000) hx hb hown (hg _ k_708) d_MD_pay_9 ?_
    refine gx_readi (va_runS (As := [.long p1, .long (1 : Int64), .long (1000000000000 : Int64)]) (rest := []) ⟨hx, hb, hml, hown, gx_nil⟩ (c_MD_in F _ _ _ _ _) ⟨gx_cb (hg _ k_639) (hg _ k_7) (hg _ k_637) nd_MD_in ⟨by decide, by decide⟩, hg _ k_638⟩ (gx_preS hV hP hD hS hA0) rfl rfl hl.1 rfl (lv_room (Nat.le_of_ble_eq_true rfl)) d_MD_pay_12 ⟨by decide, by decide⟩) (fun r_12 h_12 => ?_)
    rcases h_12 with ⟨rfl, hi1, hi2⟩ | ⟨rfl, hib⟩
    · skip
      refine lv_if_ne (tgt := 25) hx hb d_MD_pay_15 (by decide) (fun c_15 => ?_) (fun c_15 => absurd c_15 (by decide))
      refine lv_aload_n hx hb d_MD_pay_25 rfl (lv_at hl 0 rfl) ?_
      refine lv_iconst (v := 0) hx hb d_MD_pay_26 (by decide) ?_
      refine va_put (D := D) (ci := iMD) (v := .int 0) (ty := .int) (C := R_MD) (T := F_MD) (N := 23) hx hb (fl_MD hg) (fun _ h9 => h9) t_MD t_MD_ok n_MD hown hK hP hD hS 0 (hM.1) rfl 0 (by decide) (hg _ k_556) (fun _ h9 => h9) rfl (by decide +kernel) rfl rfl (Nat.le_of_ble_eq_true rfl) d_MD_pay_27 (fun H locs hP hD hS => ?_)
      obtain ⟨w_1, ew_1⟩ : ∃ y : va_W, y = ws.set 0 (μ 0, .inr (iMD, md_o μ (upd x 0 0))) := ⟨_, rfl⟩
      replace hP : va_P D classes w_1 H := by rw [ew_1]; exact hP
      replace hD : va_D (va_A ws sz) w_1 := by rw [ew_1]; exact hD
      replace hM : md_I cI cJ cZ w_1 μ (upd x 0 0) A B := by rw [ew_1]; exact md_I.obj (x := x) (x' := upd x 0 0) hM
      refine lv_aload_n hx hb d_MD_pay_30 rfl (lv_at hl 0 rfl) ?_
      refine va_get (D := D) (ci := iMD) (v := .ref (μ 15)) (C := R_MD) (T := F_MD) (N := 23) hx hb (fl_MD hg) (fun _ h9 => h9) hown hK hP 0 (hM.1) rfl 22 (by decide) (hg _ k_578) (fun _ h9 => h9) rfl d_MD_pay_31 ?_
      refine lv_iload_n hx hb d_MD_pay_34 rfl (lv_at hl 1 rfl) ?_
      refine lv_dup2_11 hx hb d_MD_pay_35 rfl rfl ?_
      refine gx_ll hx hb hK hP 15 2 (hM.2.2.1 15 (by decide) (by decide)) rfl k (rfl) (show k < 10 from hk) (by decide) d_MD_pay_36 ?_
      refine lv_lload_n hx hb d_MD_pay_37 rfl (lv_at hl 2 rfl) ?_
      refine lv_ladd hx hb d_MD_pay_38 ?_
      refine gx_ls hx hb hK hP hD hS 15 2 (hM.2.2.1 15 (by decide) (by decide)) rfl k (rfl) (show k < 10 from hk) (by decide) d_MD_pay_39 (fun H locs hP hD hS => ?_)
      obtain ⟨w_2, ew_2⟩ : ∃ y : va_W, y = w_1.set 15 (μ 15, .inl (cJ, md_n 15, .inr (.inl (vp_updL (B 15) k (((B 15) k) + p1))))) := ⟨_, rfl⟩
      replace hP : va_P D classes w_2 H := by rw [ew_2]; exact hP
      replace hD : va_D (va_A ws sz) w_2 := by rw [ew_2]; exact hD
      replace hM : md_I cI cJ cZ w_2 μ (upd x 0 0) A (cb_upr B 15 (vp_updL (B 15) k (((B 15) k) + p1))) := by rw [ew_2]; exact md_I.lng (by decide) (by decide) hM
      refine lv_aload_n hx hb d_MD_pay_40 rfl (lv_at hl 0 rfl) ?_
      refine lv_iload_n hx hb d_MD_pay_41 rfl (lv_at hl 1 rfl) ?_
      refine gx_readl (va_runV (As := [.int (nI k)]) (rest := []) ⟨hx, hb, hml, hown, gx_nil⟩ (c_MD_left F hM _ nl hnl hx5 hcr hbo k hk) ⟨gx_cb (hg _ k_724) (hg _ k_7) (hg _ k_721) nd_MD_left ⟨by decide, by decide⟩, hg _ k_723, hg _ ks_29⟩ (gx_preV hV hP hD hS hA0 (va_recv hK hP rfl (hM.1))) rfl rfl hl.1 rfl (lv_room (Nat.le_of_ble_eq_true rfl)) d_MD_pay_42 ⟨by decide, by decide⟩) (fun r_42 h_42 => ?_)
      exact gx_lret hx hb hr hlocks hS hP hD (by decide) (by decide) d_MD_pay_45 (Or.inr ⟨k, hk, rfl, hi1, hi2, by have h9 := h_42; rw [show (cb_upr B 15 (vp_updL (B 15) k (B 15 k + p1))) 15 k = B 15 k + p1 from if_pos rfl] at h9; exact h9, hM⟩)
    · skip
      refine lv_if_ne (tgt := 25) hx hb d_MD_pay_15 (by decide) (fun c_15 => absurd c_15 (by decide)) (fun c_15 => ?_)
      refine lv_aload_n hx hb d_MD_pay_18 rfl (lv_at hl 0 rfl) ?_
      refine lv_iconst (v := 1) hx hb d_MD_pay_19 (by decide) ?_
      refine gx_calli (va_runV (As := [.int 1]) (rest := []) ⟨hx, hb, hml, hown, gx_nil⟩ (c_MD_fails F hM _ _) ⟨gx_cb (hg _ k_662) (hg _ k_7) (hg _ k_659) nd_MD_fails ⟨by decide, by decide⟩, hg _ k_661, hg _ ks_22⟩ (gx_preV hV hP hD hS hA0 (va_recv hK hP rfl (hM.1))) rfl rfl hl.1 rfl (lv_room (Nat.le_of_ble_eq_true rfl)) d_MD_pay_20 ⟨by decide, by decide⟩) hD hS hA (fun r_20 w1 H locs h_20 hP hD hS => ?_)
      obtain ⟨hr0, hM⟩ := h_20
      subst hr0
      refine lv_i2l (v := (0 : Int32).toInt64) hx hb d_MD_pay_23 (rfl) ?_
      exact gx_lret hx hb hr hlocks hS hP hD (by decide) (by decide) d_MD_pay_24 (Or.inl ⟨Or.inr hib, hM⟩)
  · skip
    refine lv_if_eq (tgt := 18) hx hb d_MD_pay_4 (by decide) (fun c_4 => ?_) (fun c_4 => absurd c_4 (by decide))
    refine lv_aload_n hx hb d_MD_pay_18 rfl (lv_at hl 0 rfl) ?_
    refine lv_iconst (v := 1) hx hb d_MD_pay_19 (by decide) ?_
    refine gx_calli (va_runV (As := [.int 1]) (rest := []) ⟨hx, hb, hml, hown, gx_nil⟩ (c_MD_fails F hM _ _) ⟨gx_cb (hg _ k_662) (hg _ k_7) (hg _ k_659) nd_MD_fails ⟨by decide, by decide⟩, hg _ k_661, hg _ ks_22⟩ (gx_preV hV hP hD hS hA0 (va_recv hK hP rfl (hM.1))) rfl rfl hl.1 rfl (lv_room (Nat.le_of_ble_eq_true rfl)) d_MD_pay_20 ⟨by decide, by decide⟩) hD hS hA (fun r_20 w1 H locs h_20 hP hD hS => ?_)
    obtain ⟨hr0, hM⟩ := h_20
    subst hr0
    refine lv_i2l (v := (0 : Int32).toInt64) hx hb d_MD_pay_23 (rfl) ?_
    exact gx_lret hx hb hr hlocks hS hP hD (by decide) (by decide) d_MD_pay_24 (Or.inl ⟨Or.inl hbad, hM⟩)

set_option maxRecDepth 100000 in
set_option maxHeartbeats 4000000 in
theorem c_MD_unpaid {l : Launch} {s0 : State} {D : va_G} {cI cC cJ cII cO cZ : ClassId} (F : FX l s0 D cI cC cJ cII cO cZ) {ws : va_W} {μ : Nat → Nat} {x : Nat → Int32} {A : Nat → Nat → Int32} {B : Nat → Nat → Int64} (hM : md_I cI cJ cZ ws μ x A B) (sz : Nat) (nl : Nat) (hnl : nl ≤ 200) (hx5 : x 5 = nI nl) (hcr : md_cr A nl) (hbo : ∀ q, A 16 q = 0 ∨ A 16 q = 1) (p0 : Int32)  : Met l y_MD_unpaid [.code y_MD_unpaid b_MD_unpaid 2 (some .long)] { frames := 2, cells := 0, slots := 0, locals := 80 } (gx_P s0 D classes ws sz [.ref (μ 0), .int p0]) (va_Ql (fun r w1 => ((p0 < 0 ∨ nI 10 ≤ p0) ∧ md_I cI cJ cZ w1 μ (upd x 0 1) A B) ∨ (∃ k9, k9 < 10 ∧ p0 = nI k9 ∧ r = md_lf A B (nI k9) (-(B 15 k9)) nl ∧ md_I cI cJ cZ w1 μ (upd x 0 0) A B)) (gx_B D classes ws sz) (va_A ws sz)) 0 0 (va_A ws sz) := by
  refine gx_met (by decide +kernel) (Nat.le_of_ble_eq_true rfl) ?_
  intro p e s m below meth c ls hx hb hr hml hown hlocks hnm hsz hV hP hD hS hA hA0 hl
  have hg := fx_g F hV ([.ref (μ 0), .int p0] : List Value).toArray
  have hK := fx_k F hV
  have hn9 := fx_n F hV
  have hl : lv_has ls 2 [(0, .ref (μ 0)), (1, .int p0)] := hl
  refine lv_aload_n hx hb d_MD_unpaid_0 rfl (lv_at hl 0 rfl) ?_
  refine lv_iload_n hx hb d_MD_unpaid_1 rfl (lv_at hl 1 rfl) ?_
  refine gx_readi (va_runS (As := [.int p0]) (rest := [.ref (μ 0)]) ⟨hx, hb, hml, hown, gx_nil⟩ (c_MD_isCall F _ _ _) ⟨gx_cb (hg _ k_669) (hg _ k_7) (hg _ k_667) nd_MD_isCall ⟨by decide, by decide⟩, hg _ k_668⟩ (gx_preS hV hP hD hS hA0) rfl rfl hl.1 rfl (lv_room (Nat.le_of_ble_eq_true rfl)) d_MD_unpaid_2 ⟨by decide, by decide⟩) (fun r_2 h_2 => ?_)
  rcases h_2 with ⟨rfl, k, hk, rfl⟩ | ⟨rfl, hbad⟩
  · skip
    refine lv_if_eq (tgt := 12) hx hb d_MD_unpaid_5 (by decide) (fun c_5 => absurd c_5 (by decide)) (fun c_5 => ?_)
    refine lv_iconst (v := 0) hx hb d_MD_unpaid_8 (by decide) ?_
    refine lv_goto (tgt := 13) hx hb d_MD_unpaid_9 (by decide) ?_
    refine va_put (D := D) (ci := iMD) (v := .int 0) (ty := .int) (C := R_MD) (T := F_MD) (N := 23) hx hb (fl_MD hg) (fun _ h9 => h9) t_MD t_MD_ok n_MD hown hK hP hD hS 0 (hM.1) rfl 0 (by decide) (hg _ k_556) (fun _ h9 => h9) rfl (by decide +kernel) rfl rfl (Nat.le_of_ble_eq_true rfl) d_MD_unpaid_13 (fun H locs hP hD hS => ?_)
    obtain ⟨w_1, ew_1⟩ : ∃ y : va_W, y = ws.set 0 (μ 0, .inr (iMD, md_o μ (upd x 0 0))) := ⟨_, rfl⟩
    replace hP : va_P D classes w_1 H := by rw [ew_1]; exact hP
    replace hD : va_D (va_A ws sz) w_1 := by rw [ew_1]; exact hD
    replace hM : md_I cI cJ cZ w_1 μ (upd x 0 0) A B := by rw [ew_1]; exact md_I.obj (x := x) (x' := upd x 0 0) hM
    refine lv_aload_n hx hb d_MD_unpaid_16 rfl (lv_at hl 0 rfl) ?_
    refine va_get (D := D) (ci := iMD) (v := .int 0) (C := R_MD) (T := F_MD) (N := 23) hx hb (fl_MD hg) (fun _ h9 => h9) hown hK hP 0 (hM.1) rfl 0 (by decide) (hg _ k_556) (fun _ h9 => h9) rfl d_MD_unpaid_17 ?_
    refine lv_if_le (tgt := 27) hx hb d_MD_unpaid_20 (by decide) (fun c_20 => ?_) (fun c_20 => absurd c_20 (by decide))
    refine lv_aload_n hx hb d_MD_unpaid_27 rfl (lv_at hl 0 rfl) ?_
    refine lv_iload_n hx hb d_MD_unpaid_28 rfl (lv_at hl 1 rfl) ?_
    refine gx_readl (va_runV (As := [.int (nI k)]) (rest := []) ⟨hx, hb, hml, hown, gx_nil⟩ (c_MD_left F hM _ nl hnl hx5 hcr hbo k hk) ⟨gx_cb (hg _ k_724) (hg _ k_7) (hg _ k_721) nd_MD_left ⟨by decide, by decide⟩, hg _ k_723, hg _ ks_29⟩ (gx_preV hV hP hD hS hA0 (va_recv hK hP rfl (hM.1))) rfl rfl hl.1 rfl (lv_room (Nat.le_of_ble_eq_true rfl)) d_MD_unpaid_29 ⟨by decide, by decide⟩) (fun r_29 h_29 => ?_)
    exact gx_lret hx hb hr hlocks hS hP hD (by decide) (by decide) d_MD_unpaid_32 (Or.inr ⟨k, hk, rfl, h_29, hM⟩)
  · skip
    refine lv_if_eq (tgt := 12) hx hb d_MD_unpaid_5 (by decide) (fun c_5 => ?_) (fun c_5 => absurd c_5 (by decide))
    refine lv_iconst (v := 1) hx hb d_MD_unpaid_12 (by decide) ?_
    refine va_put (D := D) (ci := iMD) (v := .int 1) (ty := .int) (C := R_MD) (T := F_MD) (N := 23) hx hb (fl_MD hg) (fun _ h9 => h9) t_MD t_MD_ok n_MD hown hK hP hD hS 0 (hM.1) rfl 0 (by decide) (hg _ k_556) (fun _ h9 => h9) rfl (by decide +kernel) rfl rfl (Nat.le_of_ble_eq_true rfl) d_MD_unpaid_13 (fun H locs hP hD hS => ?_)
    obtain ⟨w_2, ew_2⟩ : ∃ y : va_W, y = ws.set 0 (μ 0, .inr (iMD, md_o μ (upd x 0 1))) := ⟨_, rfl⟩
    replace hP : va_P D classes w_2 H := by rw [ew_2]; exact hP
    replace hD : va_D (va_A ws sz) w_2 := by rw [ew_2]; exact hD
    replace hM : md_I cI cJ cZ w_2 μ (upd x 0 1) A B := by rw [ew_2]; exact md_I.obj (x := x) (x' := upd x 0 1) hM
    refine lv_aload_n hx hb d_MD_unpaid_16 rfl (lv_at hl 0 rfl) ?_
    refine va_get (D := D) (ci := iMD) (v := .int 1) (C := R_MD) (T := F_MD) (N := 23) hx hb (fl_MD hg) (fun _ h9 => h9) hown hK hP 0 (hM.1) rfl 0 (by decide) (hg _ k_556) (fun _ h9 => h9) rfl d_MD_unpaid_17 ?_
    refine lv_if_le (tgt := 27) hx hb d_MD_unpaid_20 (by decide) (fun c_20 => absurd c_20 (by decide)) (fun c_20 => ?_)
    refine lv_lconst (v := 0) hx hb d_MD_unpaid_23 (by decide) ?_
    refine lv_goto (tgt := 32) hx hb d_MD_unpaid_24 (by decide) ?_
    exact gx_lret hx hb hr hlocks hS hP hD (by decide) (by decide) d_MD_unpaid_32 (Or.inl ⟨hbad, hM⟩)

set_option maxRecDepth 100000 in
set_option maxHeartbeats 4000000 in
theorem c_MD_share {l : Launch} {s0 : State} {D : va_G} {cI cC cJ cII cO cZ : ClassId} (F : FX l s0 D cI cC cJ cII cO cZ) {ws : va_W} {μ : Nat → Nat} {x : Nat → Int32} {A : Nat → Nat → Int32} {B : Nat → Nat → Int64} (hM : md_I cI cJ cZ ws μ x A B) (sz : Nat) (p0 : Int64) (p1 p2 : Int32)  : Met l y_MD_share [.code y_MD_share b_MD_share 5 (some .long)] { frames := 1, cells := 0, slots := 0, locals := 40 } (gx_P s0 D classes ws sz [.ref (μ 0), .long p0, .int p1, .int p2]) (va_Ql (fun r w1 => (((p0 < 0 ∨ 1000000000000 < p0) ∨ (p1 < 0 ∨ 1000000 < p1) ∨ (p2 < 0 ∨ 1000000 < p2)) ∧ md_I cI cJ cZ w1 μ (upd x 0 1) A B) ∨ (¬ p0 < 0 ∧ ¬ 1000000000000 < p0 ∧ ¬ p1 < 0 ∧ ¬ 1000000 < p1 ∧ ¬ p2 < 0 ∧ ¬ 1000000 < p2 ∧ ((p2 = 0 ∧ md_I cI cJ cZ w1 μ (upd x 0 2) A B) ∨ (¬ p2 = 0 ∧ r = p0 * p1.toInt64 / p2.toInt64 ∧ md_I cI cJ cZ w1 μ (upd x 0 0) A B)))) (gx_B D classes ws sz) (va_A ws sz)) 0 0 (va_A ws sz) := by
  refine gx_met (by decide +kernel) (Nat.le_of_ble_eq_true rfl) ?_
  intro p e s m below meth c ls hx hb hr hml hown hlocks hnm hsz hV hP hD hS hA hA0 hl
  have hg := fx_g F hV ([.ref (μ 0), .long p0, .int p1, .int p2] : List Value).toArray
  have hK := fx_k F hV
  have hn9 := fx_n F hV
  have hl : lv_has ls 5 [(0, .ref (μ 0)), (1, .long p0), (3, .int p1), (4, .int p2)] := hl
  refine lv_lload_n hx hb d_MD_share_0 rfl (lv_at hl 1 rfl) ?_
  refine lv_lconst (v := 0) hx hb d_MD_share_1 (by decide) ?_
  refine lv_ldc2 (v := 1000000000000) hx hb hown (hg _ k_708) d_MD_share_2 ?_
  refine gx_readi (va_runS (As := [.long p0, .long (0 : Int64), .long (1000000000000 : Int64)]) (rest := []) ⟨hx, hb, hml, hown, gx_nil⟩ (c_MD_in F _ _ _ _ _) ⟨gx_cb (hg _ k_639) (hg _ k_7) (hg _ k_637) nd_MD_in ⟨by decide, by decide⟩, hg _ k_638⟩ (gx_preS hV hP hD hS hA0) rfl rfl hl.1 rfl (lv_room (Nat.le_of_ble_eq_true rfl)) d_MD_share_5 ⟨by decide, by decide⟩) (fun r_5 h_5 => ?_)
  rcases h_5 with ⟨rfl, hi1, hi2⟩ | ⟨rfl, hib⟩
  · skip
    have hp1 := hi1
    have hp2 := hi2
    refine lv_if_eq (tgt := 36) hx hb d_MD_share_8 (by decide) (fun c_8 => absurd c_8 (by decide)) (fun c_8 => ?_)
    refine lv_iload_n hx hb d_MD_share_11 rfl (lv_at hl 2 rfl) ?_
    refine lv_i2l (v := p1.toInt64) hx hb d_MD_share_12 (rfl) ?_
    refine lv_lconst (v := 0) hx hb d_MD_share_13 (by decide) ?_
    refine lv_ldc2 (v := 1000000) hx hb hown (hg _ k_737) d_MD_share_14 ?_
    refine gx_readi (va_runS (As := [.long p1.toInt64, .long (0 : Int64), .long (1000000 : Int64)]) (rest := []) ⟨hx, hb, hml, hown, gx_nil⟩ (c_MD_in F _ _ _ _ _) ⟨gx_cb (hg _ k_639) (hg _ k_7) (hg _ k_637) nd_MD_in ⟨by decide, by decide⟩, hg _ k_638⟩ (gx_preS hV hP hD hS hA0) rfl rfl hl.1 rfl (lv_room (Nat.le_of_ble_eq_true rfl)) d_MD_share_17 ⟨by decide, by decide⟩) (fun r_17 h_17 => ?_)
    rcases h_17 with ⟨rfl, hi1, hi2⟩ | ⟨rfl, hib⟩
    · skip
      obtain ⟨hk1, hk2⟩ := md_good (p := p1) (lo := 0) (hi := 1000000) hi1 hi2
      refine lv_if_eq (tgt := 36) hx hb d_MD_share_20 (by decide) (fun c_20 => absurd c_20 (by decide)) (fun c_20 => ?_)
      refine lv_iload hx hb d_MD_share_23 (lv_at hl 3 rfl) ?_
      refine lv_i2l (v := p2.toInt64) hx hb d_MD_share_25 (rfl) ?_
      refine lv_lconst (v := 0) hx hb d_MD_share_26 (by decide) ?_
      refine lv_ldc2 (v := 1000000) hx hb hown (hg _ k_737) d_MD_share_27 ?_
      refine gx_readi (va_runS (As := [.long p2.toInt64, .long (0 : Int64), .long (1000000 : Int64)]) (rest := []) ⟨hx, hb, hml, hown, gx_nil⟩ (c_MD_in F _ _ _ _ _) ⟨gx_cb (hg _ k_639) (hg _ k_7) (hg _ k_637) nd_MD_in ⟨by decide, by decide⟩, hg _ k_638⟩ (gx_preS hV hP hD hS hA0) rfl rfl hl.1 rfl (lv_room (Nat.le_of_ble_eq_true rfl)) d_MD_share_30 ⟨by decide, by decide⟩) (fun r_30 h_30 => ?_)
      rcases h_30 with ⟨rfl, hi1, hi2⟩ | ⟨rfl, hib⟩
      · skip
        obtain ⟨hj1, hj2⟩ := md_good (p := p2) (lo := 0) (hi := 1000000) hi1 hi2
        refine lv_if_ne (tgt := 43) hx hb d_MD_share_33 (by decide) (fun c_33 => ?_) (fun c_33 => absurd c_33 (by decide))
        refine lv_iload hx hb d_MD_share_43 (lv_at hl 3 rfl) ?_
        refine lv_if_ne (tgt := 55) hx hb d_MD_share_45 (by decide) (fun c_45 => ?_) (fun c_45 => ?_)
        · skip
          refine lv_aload_n hx hb d_MD_share_55 rfl (lv_at hl 0 rfl) ?_
          refine lv_iconst (v := 0) hx hb d_MD_share_56 (by decide) ?_
          refine va_put (D := D) (ci := iMD) (v := .int 0) (ty := .int) (C := R_MD) (T := F_MD) (N := 23) hx hb (fl_MD hg) (fun _ h9 => h9) t_MD t_MD_ok n_MD hown hK hP hD hS 0 (hM.1) rfl 0 (by decide) (hg _ k_556) (fun _ h9 => h9) rfl (by decide +kernel) rfl rfl (Nat.le_of_ble_eq_true rfl) d_MD_share_57 (fun H locs hP hD hS => ?_)
          obtain ⟨w_1, ew_1⟩ : ∃ y : va_W, y = ws.set 0 (μ 0, .inr (iMD, md_o μ (upd x 0 0))) := ⟨_, rfl⟩
          replace hP : va_P D classes w_1 H := by rw [ew_1]; exact hP
          replace hD : va_D (va_A ws sz) w_1 := by rw [ew_1]; exact hD
          replace hM : md_I cI cJ cZ w_1 μ (upd x 0 0) A B := by rw [ew_1]; exact md_I.obj (x := x) (x' := upd x 0 0) hM
          refine lv_lload_n hx hb d_MD_share_60 rfl (lv_at hl 1 rfl) ?_
          refine lv_iload_n hx hb d_MD_share_61 rfl (lv_at hl 2 rfl) ?_
          refine lv_i2l (v := p1.toInt64) hx hb d_MD_share_62 (rfl) ?_
          refine lv_lmul hx hb d_MD_share_63 ?_
          refine lv_iload hx hb d_MD_share_64 (lv_at hl 3 rfl) ?_
          refine lv_i2l (v := p2.toInt64) hx hb d_MD_share_66 (rfl) ?_
          refine lv_ldiv hx hb d_MD_share_67 (md_ne64 c_45) ?_
          exact gx_lret hx hb hr hlocks hS hP hD (by decide) (by decide) d_MD_share_68 (Or.inr ⟨hp1, hp2, hk1, hk2, hj1, hj2, Or.inr ⟨c_45, rfl, hM⟩⟩)
        · skip
          refine lv_aload_n hx hb d_MD_share_48 rfl (lv_at hl 0 rfl) ?_
          refine lv_iconst (v := 2) hx hb d_MD_share_49 (by decide) ?_
          refine gx_calli (va_runV (As := [.int 2]) (rest := []) ⟨hx, hb, hml, hown, gx_nil⟩ (c_MD_fails F hM _ _) ⟨gx_cb (hg _ k_662) (hg _ k_7) (hg _ k_659) nd_MD_fails ⟨by decide, by decide⟩, hg _ k_661, hg _ ks_22⟩ (gx_preV hV hP hD hS hA0 (va_recv hK hP rfl (hM.1))) rfl rfl hl.1 rfl (lv_room (Nat.le_of_ble_eq_true rfl)) d_MD_share_50 ⟨by decide, by decide⟩) hD hS hA (fun r_50 w1 H locs h_50 hP hD hS => ?_)
          obtain ⟨hr0, hM⟩ := h_50
          subst hr0
          refine lv_i2l (v := (0 : Int32).toInt64) hx hb d_MD_share_53 (rfl) ?_
          exact gx_lret hx hb hr hlocks hS hP hD (by decide) (by decide) d_MD_share_54 (Or.inr ⟨hp1, hp2, hk1, hk2, hj1, hj2, Or.inl ⟨c_45, hM⟩⟩)
      · skip
        have hbad := md_bad (p := p2) (lo := 0) (hi := 1000000) hib
        refine lv_if_ne (tgt := 43) hx hb d_MD_share_33 (by decide) (fun c_33 => absurd c_33 (by decide)) (fun c_33 => ?_)
        refine lv_aload_n hx hb d_MD_share_36 rfl (lv_at hl 0 rfl) ?_
        refine lv_iconst (v := 1) hx hb d_MD_share_37 (by decide) ?_
        refine gx_calli (va_runV (As := [.int 1]) (rest := []) ⟨hx, hb, hml, hown, gx_nil⟩ (c_MD_fails F hM _ _) ⟨gx_cb (hg _ k_662) (hg _ k_7) (hg _ k_659) nd_MD_fails ⟨by decide, by decide⟩, hg _ k_661, hg _ ks_22⟩ (gx_preV hV hP hD hS hA0 (va_recv hK hP rfl (hM.1))) rfl rfl hl.1 rfl (lv_room (Nat.le_of_ble_eq_true rfl)) d_MD_share_38 ⟨by decide, by decide⟩) hD hS hA (fun r_38 w1 H locs h_38 hP hD hS => ?_)
        obtain ⟨hr0, hM⟩ := h_38
        subst hr0
        refine lv_i2l (v := (0 : Int32).toInt64) hx hb d_MD_share_41 (rfl) ?_
        exact gx_lret hx hb hr hlocks hS hP hD (by decide) (by decide) d_MD_share_42 (Or.inl ⟨Or.inr (Or.inr hbad), hM⟩)
    · skip
      have hbad := md_bad (p := p1) (lo := 0) (hi := 1000000) hib
      refine lv_if_eq (tgt := 36) hx hb d_MD_share_20 (by decide) (fun c_20 => ?_) (fun c_20 => absurd c_20 (by decide))
      refine lv_aload_n hx hb d_MD_share_36 rfl (lv_at hl 0 rfl) ?_
      refine lv_iconst (v := 1) hx hb d_MD_share_37 (by decide) ?_
      refine gx_calli (va_runV (As := [.int 1]) (rest := []) ⟨hx, hb, hml, hown, gx_nil⟩ (c_MD_fails F hM _ _) ⟨gx_cb (hg _ k_662) (hg _ k_7) (hg _ k_659) nd_MD_fails ⟨by decide, by decide⟩, hg _ k_661, hg _ ks_22⟩ (gx_preV hV hP hD hS hA0 (va_recv hK hP rfl (hM.1))) rfl rfl hl.1 rfl (lv_room (Nat.le_of_ble_eq_true rfl)) d_MD_share_38 ⟨by decide, by decide⟩) hD hS hA (fun r_38 w1 H locs h_38 hP hD hS => ?_)
      obtain ⟨hr0, hM⟩ := h_38
      subst hr0
      refine lv_i2l (v := (0 : Int32).toInt64) hx hb d_MD_share_41 (rfl) ?_
      exact gx_lret hx hb hr hlocks hS hP hD (by decide) (by decide) d_MD_share_42 (Or.inl ⟨Or.inr (Or.inl hbad), hM⟩)
  · skip
    have hbad := hib
    refine lv_if_eq (tgt := 36) hx hb d_MD_share_8 (by decide) (fun c_8 => ?_) (fun c_8 => absurd c_8 (by decide))
    refine lv_aload_n hx hb d_MD_share_36 rfl (lv_at hl 0 rfl) ?_
    refine lv_iconst (v := 1) hx hb d_MD_share_37 (by decide) ?_
    refine gx_calli (va_runV (As := [.int 1]) (rest := []) ⟨hx, hb, hml, hown, gx_nil⟩ (c_MD_fails F hM _ _) ⟨gx_cb (hg _ k_662) (hg _ k_7) (hg _ k_659) nd_MD_fails ⟨by decide, by decide⟩, hg _ k_661, hg _ ks_22⟩ (gx_preV hV hP hD hS hA0 (va_recv hK hP rfl (hM.1))) rfl rfl hl.1 rfl (lv_room (Nat.le_of_ble_eq_true rfl)) d_MD_share_38 ⟨by decide, by decide⟩) hD hS hA (fun r_38 w1 H locs h_38 hP hD hS => ?_)
    obtain ⟨hr0, hM⟩ := h_38
    subst hr0
    refine lv_i2l (v := (0 : Int32).toInt64) hx hb d_MD_share_41 (rfl) ?_
    exact gx_lret hx hb hr hlocks hS hP hD (by decide) (by decide) d_MD_share_42 (Or.inl ⟨Or.inl hbad, hM⟩)

set_option maxRecDepth 100000 in
set_option maxHeartbeats 4000000 in
theorem c_MD_dispute {l : Launch} {s0 : State} {D : va_G} {cI cC cJ cII cO cZ : ClassId} (F : FX l s0 D cI cC cJ cII cO cZ) {ws : va_W} {μ : Nat → Nat} {x : Nat → Int32} {A : Nat → Nat → Int32} {B : Nat → Nat → Int64} (hM : md_I cI cJ cZ ws μ x A B) (sz : Nat) (nl : Nat) (hnl : nl ≤ 200) (hx5 : x 5 = nI nl) (p0 p1 : Int32) (hb01 : p1 = 0 ∨ p1 = 1)  : Met l y_MD_dispute [.code y_MD_dispute b_MD_dispute 3 (some .int)] { frames := 1, cells := 0, slots := 0, locals := 40 } (gx_P s0 D classes ws sz [.ref (μ 0), .int p0, .int p1]) (va_Qi (fun r w1 => ((p0 < 0 ∨ nI nl ≤ p0) ∧ md_I cI cJ cZ w1 μ (upd x 0 1) A B) ∨ (∃ t9, t9 < nl ∧ p0 = nI t9 ∧ ((r = 0 ∧ (¬ A 13 t9 = -1 ∨ A 16 t9 = p1) ∧ md_I cI cJ cZ w1 μ (upd x 0 0) A B) ∨ (r = 1 ∧ A 13 t9 = -1 ∧ ¬ A 16 t9 = p1 ∧ md_I cI cJ cZ w1 μ (upd x 0 0) (cb_upr A 16 (upd (A 16) t9 p1)) B)))) (gx_B D classes ws sz) (va_A ws sz)) 0 0 (va_A ws sz) := by
  refine gx_met (by decide +kernel) (Nat.le_of_ble_eq_true rfl) ?_
  intro p e s m below meth c ls hx hb hr hml hown hlocks hnm hsz hV hP hD hS hA hA0 hl
  have hg := fx_g F hV ([.ref (μ 0), .int p0, .int p1] : List Value).toArray
  have hK := fx_k F hV
  have hn9 := fx_n F hV
  have hl : lv_has ls 3 [(0, .ref (μ 0)), (1, .int p0), (2, .int p1)] := hl
  refine lv_aload_n hx hb d_MD_dispute_0 rfl (lv_at hl 0 rfl) ?_
  refine lv_iload_n hx hb d_MD_dispute_1 rfl (lv_at hl 1 rfl) ?_
  refine gx_readi (va_runV (As := [.int p0]) (rest := []) ⟨hx, hb, hml, hown, gx_nil⟩ (c_MD_isLine F hM _ nl hnl hx5 _) ⟨gx_cb (hg _ k_707) (hg _ k_7) (hg _ k_704) nd_MD_isLine ⟨by decide, by decide⟩, hg _ k_706, hg _ ks_27⟩ (gx_preV hV hP hD hS hA0 (va_recv hK hP rfl (hM.1))) rfl rfl hl.1 rfl (lv_room (Nat.le_of_ble_eq_true rfl)) d_MD_dispute_2 ⟨by decide, by decide⟩) (fun r_2 h_2 => ?_)
  rcases h_2 with ⟨rfl, t, ht, rfl⟩ | ⟨rfl, hbad⟩
  · skip
    refine lv_if_ne (tgt := 14) hx hb d_MD_dispute_5 (by decide) (fun c_5 => ?_) (fun c_5 => absurd c_5 (by decide))
    refine lv_aload_n hx hb d_MD_dispute_14 rfl (lv_at hl 0 rfl) ?_
    refine lv_iconst (v := 0) hx hb d_MD_dispute_15 (by decide) ?_
    refine va_put (D := D) (ci := iMD) (v := .int 0) (ty := .int) (C := R_MD) (T := F_MD) (N := 23) hx hb (fl_MD hg) (fun _ h9 => h9) t_MD t_MD_ok n_MD hown hK hP hD hS 0 (hM.1) rfl 0 (by decide) (hg _ k_556) (fun _ h9 => h9) rfl (by decide +kernel) rfl rfl (Nat.le_of_ble_eq_true rfl) d_MD_dispute_16 (fun H locs hP hD hS => ?_)
    obtain ⟨w_1, ew_1⟩ : ∃ y : va_W, y = ws.set 0 (μ 0, .inr (iMD, md_o μ (upd x 0 0))) := ⟨_, rfl⟩
    replace hP : va_P D classes w_1 H := by rw [ew_1]; exact hP
    replace hD : va_D (va_A ws sz) w_1 := by rw [ew_1]; exact hD
    replace hM : md_I cI cJ cZ w_1 μ (upd x 0 0) A B := by rw [ew_1]; exact md_I.obj (x := x) (x' := upd x 0 0) hM
    refine lv_aload_n hx hb d_MD_dispute_19 rfl (lv_at hl 0 rfl) ?_
    refine va_get (D := D) (ci := iMD) (v := .ref (μ 13)) (C := R_MD) (T := F_MD) (N := 23) hx hb (fl_MD hg) (fun _ h9 => h9) hown hK hP 0 (hM.1) rfl 19 (by decide) (hg _ k_575) (fun _ h9 => h9) rfl d_MD_dispute_20 ?_
    refine lv_iload_n hx hb d_MD_dispute_23 rfl (lv_at hl 1 rfl) ?_
    refine gx_il (f := A 13) hx hb hK hP 13 0 (hM.2.1 13 (by decide) (by decide)) rfl t (rfl) (show t < 200 by omega) (by decide) d_MD_dispute_24 ?_
    refine lv_iconst (v := (-1)) hx hb d_MD_dispute_25 (by decide) ?_
    refine lv_icmp_ne (tgt := 39) hx hb d_MD_dispute_26 (by decide) (fun c_26 => ?_) (fun c_26 => ?_)
    · skip
      refine lv_iconst (v := 0) hx hb d_MD_dispute_39 (by decide) ?_
      exact gx_iret hx hb hr hlocks rfl hS hP hD (by decide) (by decide) d_MD_dispute_40 (Or.inr ⟨t, ht, rfl, Or.inl ⟨rfl, Or.inl c_26, hM⟩⟩)
    · skip
      refine lv_aload_n hx hb d_MD_dispute_29 rfl (lv_at hl 0 rfl) ?_
      refine va_get (D := D) (ci := iMD) (v := .ref (μ 16)) (C := R_MD) (T := F_MD) (N := 23) hx hb (fl_MD hg) (fun _ h9 => h9) hown hK hP 0 (hM.1) rfl 20 (by decide) (hg _ k_576) (fun _ h9 => h9) rfl d_MD_dispute_30 ?_
      refine lv_iload_n hx hb d_MD_dispute_33 rfl (lv_at hl 1 rfl) ?_
      refine gx_zl (f := A 16) hx hb hK hP 16 5 (hM.2.2.2 16 (by decide) (by decide)) rfl t (rfl) (show t < 200 by omega) (by decide) d_MD_dispute_34 ?_
      refine lv_iload_n hx hb d_MD_dispute_35 rfl (lv_at hl 2 rfl) ?_
      refine lv_icmp_ne (tgt := 41) hx hb d_MD_dispute_36 (by decide) (fun c_36 => ?_) (fun c_36 => ?_)
      · skip
        refine lv_aload_n hx hb d_MD_dispute_41 rfl (lv_at hl 0 rfl) ?_
        refine va_get (D := D) (ci := iMD) (v := .ref (μ 16)) (C := R_MD) (T := F_MD) (N := 23) hx hb (fl_MD hg) (fun _ h9 => h9) hown hK hP 0 (hM.1) rfl 20 (by decide) (hg _ k_576) (fun _ h9 => h9) rfl d_MD_dispute_42 ?_
        refine lv_iload_n hx hb d_MD_dispute_45 rfl (lv_at hl 1 rfl) ?_
        refine lv_iload_n hx hb d_MD_dispute_46 rfl (lv_at hl 2 rfl) ?_
        refine gx_zs (f := A 16) hx hb hK hP hD hS 16 5 (hM.2.2.2 16 (by decide) (by decide)) rfl t (rfl) (show t < 200 by omega) (by decide) (by rcases hb01 with rfl | rfl <;> rfl) d_MD_dispute_47 (fun H locs hP hD hS => ?_)
        obtain ⟨w_2, ew_2⟩ : ∃ y : va_W, y = w_1.set 16 (μ 16, .inl (cZ, md_n 16, .inl (upd (A 16) t p1))) := ⟨_, rfl⟩
        replace hP : va_P D classes w_2 H := by rw [ew_2]; exact hP
        replace hD : va_D (va_A ws sz) w_2 := by rw [ew_2]; exact hD
        replace hM : md_I cI cJ cZ w_2 μ (upd x 0 0) (cb_upr A 16 (upd (A 16) t p1)) B := by rw [ew_2]; exact md_I.boo (by decide) (by decide) hM
        refine lv_iconst (v := 1) hx hb d_MD_dispute_48 (by decide) ?_
        exact gx_iret hx hb hr hlocks rfl hS hP hD (by decide) (by decide) d_MD_dispute_49 (Or.inr ⟨t, ht, rfl, Or.inr ⟨rfl, c_26, c_36, hM⟩⟩)
      · skip
        refine lv_iconst (v := 0) hx hb d_MD_dispute_39 (by decide) ?_
        exact gx_iret hx hb hr hlocks rfl hS hP hD (by decide) (by decide) d_MD_dispute_40 (Or.inr ⟨t, ht, rfl, Or.inl ⟨rfl, Or.inr c_36, hM⟩⟩)
  · skip
    refine lv_if_ne (tgt := 14) hx hb d_MD_dispute_5 (by decide) (fun c_5 => absurd c_5 (by decide)) (fun c_5 => ?_)
    refine lv_aload_n hx hb d_MD_dispute_8 rfl (lv_at hl 0 rfl) ?_
    refine lv_iconst (v := 1) hx hb d_MD_dispute_9 (by decide) ?_
    refine gx_calli (va_runV (As := [.int 1]) (rest := []) ⟨hx, hb, hml, hown, gx_nil⟩ (c_MD_fails F hM _ _) ⟨gx_cb (hg _ k_662) (hg _ k_7) (hg _ k_659) nd_MD_fails ⟨by decide, by decide⟩, hg _ k_661, hg _ ks_22⟩ (gx_preV hV hP hD hS hA0 (va_recv hK hP rfl (hM.1))) rfl rfl hl.1 rfl (lv_room (Nat.le_of_ble_eq_true rfl)) d_MD_dispute_10 ⟨by decide, by decide⟩) hD hS hA (fun r_10 w1 H locs h_10 hP hD hS => ?_)
    obtain ⟨hr0, hM⟩ := h_10
    subst hr0
    exact gx_iret hx hb hr hlocks rfl hS hP hD (by decide) (by decide) d_MD_dispute_13 (Or.inl ⟨hbad, hM⟩)

set_option maxRecDepth 100000 in
set_option maxHeartbeats 4000000 in
theorem c_MD_correct {l : Launch} {s0 : State} {D : va_G} {cI cC cJ cII cO cZ : ClassId} (F : FX l s0 D cI cC cJ cII cO cZ) {ws : va_W} {μ : Nat → Nat} {x : Nat → Int32} {A : Nat → Nat → Int32} {B : Nat → Nat → Int64} (hM : md_I cI cJ cZ ws μ x A B) (sz : Nat) (nl : Nat) (hnl : nl ≤ 200) (hx5 : x 5 = nI nl) (p0 : Int32) (p1 : Int64)  : Met l y_MD_correct [.code y_MD_correct b_MD_correct 4 (some .int)] { frames := 1, cells := 0, slots := 0, locals := 40 } (gx_P s0 D classes ws sz [.ref (μ 0), .int p0, .long p1]) (va_Qi (fun r w1 => (((p0 < 0 ∨ nI nl ≤ p0) ∨ (p1 < 0 ∨ 1000000000000 < p1)) ∧ md_I cI cJ cZ w1 μ (upd x 0 1) A B) ∨ (∃ t9, t9 < nl ∧ p0 = nI t9 ∧ ¬ p1 < 0 ∧ ¬ 1000000000000 < p1 ∧ ((nl = 200 ∧ md_I cI cJ cZ w1 μ (upd x 0 2) A B) ∨ (nl < 200 ∧ ((r = -1 ∧ (¬ A 13 t9 = -1 ∨ md_wh A B t9 nl = p1) ∧ md_I cI cJ cZ w1 μ (upd x 0 0) A B) ∨ (r = nI nl ∧ A 13 t9 = -1 ∧ ¬ md_wh A B t9 nl = p1 ∧ md_I cI cJ cZ w1 μ (upd (upd x 0 0) 5 (x 5 + 1)) (md_nl (cb_upr A 17 (upd (A 17) nl 0)) nl (A 9 t9) (A 10 t9) 0 0 (nI t9)) (cb_upr B 14 (vp_updL (B 14) nl (p1 - md_wh A B t9 nl))))))))) (gx_B D classes ws sz) (va_A ws sz)) 0 0 (va_A ws sz) := by
  refine gx_met (by decide +kernel) (Nat.le_of_ble_eq_true rfl) ?_
  intro p e s m below meth c ls hx hb hr hml hown hlocks hnm hsz hV hP hD hS hA hA0 hl
  have hg := fx_g F hV ([.ref (μ 0), .int p0, .long p1] : List Value).toArray
  have hK := fx_k F hV
  have hn9 := fx_n F hV
  have hl : lv_has ls 4 [(0, .ref (μ 0)), (1, .int p0), (2, .long p1)] := hl
  refine lv_aload_n hx hb d_MD_correct_0 rfl (lv_at hl 0 rfl) ?_
  refine lv_iload_n hx hb d_MD_correct_1 rfl (lv_at hl 1 rfl) ?_
  refine gx_readi (va_runV (As := [.int p0]) (rest := []) ⟨hx, hb, hml, hown, gx_nil⟩ (c_MD_isLine F hM _ nl hnl hx5 _) ⟨gx_cb (hg _ k_707) (hg _ k_7) (hg _ k_704) nd_MD_isLine ⟨by decide, by decide⟩, hg _ k_706, hg _ ks_27⟩ (gx_preV hV hP hD hS hA0 (va_recv hK hP rfl (hM.1))) rfl rfl hl.1 rfl (lv_room (Nat.le_of_ble_eq_true rfl)) d_MD_correct_2 ⟨by decide, by decide⟩) (fun r_2 h_2 => ?_)
  rcases h_2 with ⟨rfl, t, ht, rfl⟩ | ⟨rfl, hbad⟩
  · skip
    refine lv_if_eq (tgt := 19) hx hb d_MD_correct_5 (by decide) (fun c_5 => absurd c_5 (by decide)) (fun c_5 => ?_)
    refine lv_lload_n hx hb d_MD_correct_8 rfl (lv_at hl 2 rfl) ?_
    refine lv_lconst (v := 0) hx hb d_MD_correct_9 (by decide) ?_
    refine lv_ldc2 (v := 1000000000000) hx hb hown (hg _ k_708) d_MD_correct_10 ?_
    refine gx_readi (va_runS (As := [.long p1, .long (0 : Int64), .long (1000000000000 : Int64)]) (rest := []) ⟨hx, hb, hml, hown, gx_nil⟩ (c_MD_in F _ _ _ _ _) ⟨gx_cb (hg _ k_639) (hg _ k_7) (hg _ k_637) nd_MD_in ⟨by decide, by decide⟩, hg _ k_638⟩ (gx_preS hV hP hD hS hA0) rfl rfl hl.1 rfl (lv_room (Nat.le_of_ble_eq_true rfl)) d_MD_correct_13 ⟨by decide, by decide⟩) (fun r_13 h_13 => ?_)
    rcases h_13 with ⟨rfl, hi1, hi2⟩ | ⟨rfl, hib⟩
    · skip
      refine lv_if_ne (tgt := 25) hx hb d_MD_correct_16 (by decide) (fun c_16 => ?_) (fun c_16 => absurd c_16 (by decide))
      refine lv_aload_n hx hb d_MD_correct_25 rfl (lv_at hl 0 rfl) ?_
      refine va_get (D := D) (ci := iMD) (v := .int (x 5)) (C := R_MD) (T := F_MD) (N := 23) hx hb (fl_MD hg) (fun _ h9 => h9) hown hK hP 0 (hM.1) rfl 13 (by decide) (hg _ k_569) (fun _ h9 => h9) rfl d_MD_correct_26 ?_
      refine lv_sipush (v := 200) hx hb d_MD_correct_29 (by decide) ?_
      refine lv_icmp_ne (tgt := 41) hx hb d_MD_correct_32 (by decide) (fun c_32 => ?_) (fun c_32 => ?_)
      · skip
        have hlt : nl < 200 := by
          rcases Nat.lt_or_ge nl 200 with z | z
          · exact z
          · exact absurd (show x 5 = 200 by rw [hx5, show nl = 200 by omega]; rfl) c_32
        refine lv_aload_n hx hb d_MD_correct_41 rfl (lv_at hl 0 rfl) ?_
        refine lv_iconst (v := 0) hx hb d_MD_correct_42 (by decide) ?_
        refine va_put (D := D) (ci := iMD) (v := .int 0) (ty := .int) (C := R_MD) (T := F_MD) (N := 23) hx hb (fl_MD hg) (fun _ h9 => h9) t_MD t_MD_ok n_MD hown hK hP hD hS 0 (hM.1) rfl 0 (by decide) (hg _ k_556) (fun _ h9 => h9) rfl (by decide +kernel) rfl rfl (Nat.le_of_ble_eq_true rfl) d_MD_correct_43 (fun H locs hP hD hS => ?_)
        obtain ⟨w_1, ew_1⟩ : ∃ y : va_W, y = ws.set 0 (μ 0, .inr (iMD, md_o μ (upd x 0 0))) := ⟨_, rfl⟩
        replace hP : va_P D classes w_1 H := by rw [ew_1]; exact hP
        replace hD : va_D (va_A ws sz) w_1 := by rw [ew_1]; exact hD
        replace hM : md_I cI cJ cZ w_1 μ (upd x 0 0) A B := by rw [ew_1]; exact md_I.obj (x := x) (x' := upd x 0 0) hM
        refine lv_aload_n hx hb d_MD_correct_46 rfl (lv_at hl 0 rfl) ?_
        refine va_get (D := D) (ci := iMD) (v := .ref (μ 13)) (C := R_MD) (T := F_MD) (N := 23) hx hb (fl_MD hg) (fun _ h9 => h9) hown hK hP 0 (hM.1) rfl 19 (by decide) (hg _ k_575) (fun _ h9 => h9) rfl d_MD_correct_47 ?_
        refine lv_iload_n hx hb d_MD_correct_50 rfl (lv_at hl 1 rfl) ?_
        refine gx_il (f := A 13) hx hb hK hP 13 0 (hM.2.1 13 (by decide) (by decide)) rfl t (rfl) (show t < 200 by omega) (by decide) d_MD_correct_51 ?_
        refine lv_iconst (v := (-1)) hx hb d_MD_correct_52 (by decide) ?_
        refine lv_icmp_ne (tgt := 66) hx hb d_MD_correct_53 (by decide) (fun c_53 => ?_) (fun c_53 => ?_)
        · skip
          refine lv_iconst (v := (-1)) hx hb d_MD_correct_66 (by decide) ?_
          exact gx_iret hx hb hr hlocks rfl hS hP hD (by decide) (by decide) d_MD_correct_67 (Or.inr ⟨t, ht, rfl, hi1, hi2, Or.inr ⟨hlt, Or.inl ⟨rfl, Or.inl c_53, hM⟩⟩⟩)
        · skip
          refine lv_aload_n hx hb d_MD_correct_56 rfl (lv_at hl 0 rfl) ?_
          refine lv_iload_n hx hb d_MD_correct_57 rfl (lv_at hl 1 rfl) ?_
          refine gx_readl (va_runV (As := [.int (nI t)]) (rest := []) ⟨hx, hb, hml, hown, gx_nil⟩ (c_MD_whole F hM _ nl hnl hx5 t ht) ⟨gx_cb (hg _ k_712) (hg _ k_7) (hg _ k_709) nd_MD_whole ⟨by decide, by decide⟩, hg _ k_711, hg _ ks_28⟩ (gx_preV hV hP hD hS hA0 (va_recv hK hP rfl (hM.1))) rfl rfl hl.1 rfl (lv_room (Nat.le_of_ble_eq_true rfl)) d_MD_correct_58 ⟨by decide, by decide⟩) (fun r_58 h_58 => ?_)
          subst h_58
          refine lv_lload_n hx hb d_MD_correct_61 rfl (lv_at hl 2 rfl) ?_
          refine W.lcmp hx hb d_MD_correct_62 ?_
          refine lv_if_ne (tgt := 68) hx hb d_MD_correct_63 (by decide) (fun c_63 => ?_) (fun c_63 => ?_)
          · skip
            have hdiff : ¬ md_wh A B t nl = p1 := fun q => c_63 ((lg_cmp_eq _ _).mpr q)
            refine lv_aload_n hx hb d_MD_correct_68 rfl (lv_at hl 0 rfl) ?_
            refine va_get (D := D) (ci := iMD) (v := .ref (μ 17)) (C := R_MD) (T := F_MD) (N := 23) hx hb (fl_MD hg) (fun _ h9 => h9) hown hK hP 0 (hM.1) rfl 21 (by decide) (hg _ k_577) (fun _ h9 => h9) rfl d_MD_correct_69 ?_
            refine lv_aload_n hx hb d_MD_correct_72 rfl (lv_at hl 0 rfl) ?_
            refine va_get (D := D) (ci := iMD) (v := .int (x 5)) (C := R_MD) (T := F_MD) (N := 23) hx hb (fl_MD hg) (fun _ h9 => h9) hown hK hP 0 (hM.1) rfl 13 (by decide) (hg _ k_569) (fun _ h9 => h9) rfl d_MD_correct_73 ?_
            refine lv_iconst (v := 0) hx hb d_MD_correct_76 (by decide) ?_
            refine gx_zs (f := A 17) hx hb hK hP hD hS 17 5 (hM.2.2.2 17 (by decide) (by decide)) rfl nl (hx5) (show nl < 200 from hlt) (by decide) (rfl) d_MD_correct_77 (fun H locs hP hD hS => ?_)
            obtain ⟨w_2, ew_2⟩ : ∃ y : va_W, y = w_1.set 17 (μ 17, .inl (cZ, md_n 17, .inl (upd (A 17) nl 0))) := ⟨_, rfl⟩
            replace hP : va_P D classes w_2 H := by rw [ew_2]; exact hP
            replace hD : va_D (va_A ws sz) w_2 := by rw [ew_2]; exact hD
            replace hM : md_I cI cJ cZ w_2 μ (upd x 0 0) (cb_upr A 17 (upd (A 17) nl 0)) B := by rw [ew_2]; exact md_I.boo (by decide) (by decide) hM
            refine lv_aload_n hx hb d_MD_correct_78 rfl (lv_at hl 0 rfl) ?_
            refine lv_aload_n hx hb d_MD_correct_79 rfl (lv_at hl 0 rfl) ?_
            refine va_get (D := D) (ci := iMD) (v := .ref (μ 9)) (C := R_MD) (T := F_MD) (N := 23) hx hb (fl_MD hg) (fun _ h9 => h9) hown hK hP 0 (hM.1) rfl 14 (by decide) (hg _ k_570) (fun _ h9 => h9) rfl d_MD_correct_80 ?_
            refine lv_iload_n hx hb d_MD_correct_83 rfl (lv_at hl 1 rfl) ?_
            refine gx_il (f := A 9) hx hb hK hP 9 0 (hM.2.1 9 (by decide) (by decide)) rfl t (rfl) (show t < 200 by omega) (by decide) d_MD_correct_84 ?_
            refine lv_aload_n hx hb d_MD_correct_85 rfl (lv_at hl 0 rfl) ?_
            refine va_get (D := D) (ci := iMD) (v := .ref (μ 10)) (C := R_MD) (T := F_MD) (N := 23) hx hb (fl_MD hg) (fun _ h9 => h9) hown hK hP 0 (hM.1) rfl 15 (by decide) (hg _ k_571) (fun _ h9 => h9) rfl d_MD_correct_86 ?_
            refine lv_iload_n hx hb d_MD_correct_89 rfl (lv_at hl 1 rfl) ?_
            refine gx_il (f := A 10) hx hb hK hP 10 0 (hM.2.1 10 (by decide) (by decide)) rfl t (rfl) (show t < 200 by omega) (by decide) d_MD_correct_90 ?_
            refine lv_iconst (v := 0) hx hb d_MD_correct_91 (by decide) ?_
            refine lv_iconst (v := 0) hx hb d_MD_correct_92 (by decide) ?_
            refine lv_lload_n hx hb d_MD_correct_93 rfl (lv_at hl 2 rfl) ?_
            refine lv_aload_n hx hb d_MD_correct_94 rfl (lv_at hl 0 rfl) ?_
            refine lv_iload_n hx hb d_MD_correct_95 rfl (lv_at hl 1 rfl) ?_
            refine gx_readl (va_runV (As := [.int (nI t)]) (rest := [.long p1, .int 0, .int 0, .int ((A 10) t), .int ((A 9) t), .ref (μ 0)]) ⟨hx, hb, hml, hown, gx_nil⟩ (c_MD_whole F hM _ nl hnl hx5 t ht) ⟨gx_cb (hg _ k_712) (hg _ k_7) (hg _ k_709) nd_MD_whole ⟨by decide, by decide⟩, hg _ k_711, hg _ ks_28⟩ (gx_preV hV hP hD hS hA0 (va_recv hK hP rfl (hM.1))) rfl rfl hl.1 rfl (lv_room (Nat.le_of_ble_eq_true rfl)) d_MD_correct_96 ⟨by decide, by decide⟩) (fun r_96 h_96 => ?_)
            rw [show md_wh (cb_upr A 17 (upd (A 17) nl 0)) B t nl = md_wh A B t nl from md_wh_ext (A := cb_upr A 17 (upd (A 17) nl 0)) (A' := A) (fun _ => rfl)] at h_96
            subst h_96
            refine lv_lsub hx hb d_MD_correct_99 ?_
            refine lv_iload_n hx hb d_MD_correct_100 rfl (lv_at hl 1 rfl) ?_
            refine gx_callv (va_runV (As := [.int ((A 9) t), .int ((A 10) t), .int 0, .int 0, .long (p1 - (md_wh A B t nl)), .int (nI t)]) (rest := []) ⟨hx, hb, hml, hown, gx_nil⟩ (c_MD_newLine F hM _ nl hlt hx5 _ _ _ _ _ _) ⟨gx_cb (hg _ k_695) (hg _ k_7) (hg _ k_692) nd_MD_newLine ⟨by decide, by decide⟩, hg _ k_694, hg _ ks_25⟩ (gx_preV hV hP hD hS hA0 (va_recv hK hP rfl (hM.1))) rfl rfl hl.1 rfl (lv_room (Nat.le_of_ble_eq_true rfl)) d_MD_correct_101 ⟨by decide, by decide⟩) hD hS hA (fun w1 H locs h_101 hP hD hS => ?_)
            replace hM := h_101
            refine lv_aload_n hx hb d_MD_correct_104 rfl (lv_at hl 0 rfl) ?_
            refine va_get (D := D) (ci := iMD) (v := .int (x 5 + 1)) (C := R_MD) (T := F_MD) (N := 23) hx hb (fl_MD hg) (fun _ h9 => h9) hown hK hP 0 (hM.1) rfl 13 (by decide) (hg _ k_569) (fun _ h9 => h9) rfl d_MD_correct_105 ?_
            refine lv_iconst (v := 1) hx hb d_MD_correct_108 (by decide) ?_
            refine lv_isub hx hb d_MD_correct_109 ?_
            exact gx_iret hx hb hr hlocks rfl hS hP hD (by decide) (by decide) d_MD_correct_110 (Or.inr ⟨t, ht, rfl, hi1, hi2, Or.inr ⟨hlt, Or.inr ⟨by rw [hx5, nI_1]; exact nI_pred nl, c_53, hdiff, hM⟩⟩⟩)
          · skip
            have hsame : md_wh A B t nl = p1 := (lg_cmp_eq _ _).mp c_63
            refine lv_iconst (v := (-1)) hx hb d_MD_correct_66 (by decide) ?_
            exact gx_iret hx hb hr hlocks rfl hS hP hD (by decide) (by decide) d_MD_correct_67 (Or.inr ⟨t, ht, rfl, hi1, hi2, Or.inr ⟨hlt, Or.inl ⟨rfl, Or.inr hsame, hM⟩⟩⟩)
      · skip
        have hfull : nl = 200 := gx_eqn (b := 200) (hx5.symm.trans c_32)
        refine lv_aload_n hx hb d_MD_correct_35 rfl (lv_at hl 0 rfl) ?_
        refine lv_iconst (v := 2) hx hb d_MD_correct_36 (by decide) ?_
        refine gx_calli (va_runV (As := [.int 2]) (rest := []) ⟨hx, hb, hml, hown, gx_nil⟩ (c_MD_fails F hM _ _) ⟨gx_cb (hg _ k_662) (hg _ k_7) (hg _ k_659) nd_MD_fails ⟨by decide, by decide⟩, hg _ k_661, hg _ ks_22⟩ (gx_preV hV hP hD hS hA0 (va_recv hK hP rfl (hM.1))) rfl rfl hl.1 rfl (lv_room (Nat.le_of_ble_eq_true rfl)) d_MD_correct_37 ⟨by decide, by decide⟩) hD hS hA (fun r_37 w1 H locs h_37 hP hD hS => ?_)
        obtain ⟨hr0, hM⟩ := h_37
        subst hr0
        exact gx_iret hx hb hr hlocks rfl hS hP hD (by decide) (by decide) d_MD_correct_40 (Or.inr ⟨t, ht, rfl, hi1, hi2, Or.inl ⟨hfull, hM⟩⟩)
    · skip
      refine lv_if_ne (tgt := 25) hx hb d_MD_correct_16 (by decide) (fun c_16 => absurd c_16 (by decide)) (fun c_16 => ?_)
      refine lv_aload_n hx hb d_MD_correct_19 rfl (lv_at hl 0 rfl) ?_
      refine lv_iconst (v := 1) hx hb d_MD_correct_20 (by decide) ?_
      refine gx_calli (va_runV (As := [.int 1]) (rest := []) ⟨hx, hb, hml, hown, gx_nil⟩ (c_MD_fails F hM _ _) ⟨gx_cb (hg _ k_662) (hg _ k_7) (hg _ k_659) nd_MD_fails ⟨by decide, by decide⟩, hg _ k_661, hg _ ks_22⟩ (gx_preV hV hP hD hS hA0 (va_recv hK hP rfl (hM.1))) rfl rfl hl.1 rfl (lv_room (Nat.le_of_ble_eq_true rfl)) d_MD_correct_21 ⟨by decide, by decide⟩) hD hS hA (fun r_21 w1 H locs h_21 hP hD hS => ?_)
      obtain ⟨hr0, hM⟩ := h_21
      subst hr0
      exact gx_iret hx hb hr hlocks rfl hS hP hD (by decide) (by decide) d_MD_correct_24 (Or.inl ⟨Or.inr hib, hM⟩)
  · skip
    refine lv_if_eq (tgt := 19) hx hb d_MD_correct_5 (by decide) (fun c_5 => ?_) (fun c_5 => absurd c_5 (by decide))
    refine lv_aload_n hx hb d_MD_correct_19 rfl (lv_at hl 0 rfl) ?_
    refine lv_iconst (v := 1) hx hb d_MD_correct_20 (by decide) ?_
    refine gx_calli (va_runV (As := [.int 1]) (rest := []) ⟨hx, hb, hml, hown, gx_nil⟩ (c_MD_fails F hM _ _) ⟨gx_cb (hg _ k_662) (hg _ k_7) (hg _ k_659) nd_MD_fails ⟨by decide, by decide⟩, hg _ k_661, hg _ ks_22⟩ (gx_preV hV hP hD hS hA0 (va_recv hK hP rfl (hM.1))) rfl rfl hl.1 rfl (lv_room (Nat.le_of_ble_eq_true rfl)) d_MD_correct_21 ⟨by decide, by decide⟩) hD hS hA (fun r_21 w1 H locs h_21 hP hD hS => ?_)
    obtain ⟨hr0, hM⟩ := h_21
    subst hr0
    exact gx_iret hx hb hr hlocks rfl hS hP hD (by decide) (by decide) d_MD_correct_24 (Or.inl ⟨Or.inl hbad, hM⟩)

