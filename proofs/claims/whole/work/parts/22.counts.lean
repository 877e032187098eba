set_option maxRecDepth 100000 in
set_option maxHeartbeats 4000000 in
theorem c_PB_kindsThatWait {l : Launch} {s0 : State} {D : va_G} {cI cC cJ cII cO cZ : ClassId} (F : FX l s0 D cI cC cJ cII cO cZ) {ws : va_W} {κ : Nat → Nat} {ra : Nat → Nat → Nat} {z sg : Nat → Int32} {G : Nat → Nat → Nat → Int32} {we : Nat → Int32} {pd : Nat → Int64} (hI : cb_I cI cC cJ cII ws κ ra z sg G we pd) (sz : Nat) (k : Nat) (hk : k < 10)  : Met l y_PB_kindsThatWait [.code y_PB_kindsThatWait b_PB_kindsThatWait 4 (some .int)] { frames := 0, cells := 0, slots := 0, locals := 0 } (gx_P s0 D classes ws sz [.ref (κ 0), .int (nI k)]) (gx_Ri (fun r => r = nI (cb_cnt (fun j => decide (¬ G 2 k j ≤ 0)) 6))) 0 0 (fun _ => False) := by
  refine gx_met (by decide +kernel) (Nat.le_of_ble_eq_true rfl) ?_
  intro p e s m below meth c ls hx hb hr hml hown hlocks hnm hsz hV hP hD hS hA hA0 hl
  have hg := fx_g F hV ([.ref (κ 0), .int (nI k)] : List Value).toArray
  have hK := fx_k F hV
  have hn9 := fx_n F hV
  have hl : lv_has ls 4 [(0, .ref (κ 0)), (1, .int (nI k))] := hl
  refine lv_iconst (v := 0) hx hb d_PB_kindsThatWait_0 (by decide) ?_
  refine lv_istore_n (lv' := [(2, .int 0), (0, .ref (κ 0)), (1, .int (nI k))]) hx hb d_PB_kindsThatWait_1 rfl hl (by decide) rfl (fun ls hl => ?_)
  refine lv_iconst (v := 0) hx hb d_PB_kindsThatWait_2 (by decide) ?_
  refine lv_istore_n (lv' := [(3, .int 0), (2, .int 0), (0, .ref (κ 0)), (1, .int (nI k))]) hx hb d_PB_kindsThatWait_3 rfl hl (by decide) rfl (fun ls hl => ?_)
  have loop : ∀ (nn : Nat) (i : Nat) (ls : Array Slot) (hi : i ≤ 6) (hin : 7 ≤ i + nn) (hl : lv_has ls 4 [(3, .int (nI i)), (2, .int (nI (cb_cnt (fun j => decide (¬ G 2 k j ≤ 0)) i))), (0, .ref (κ 0)), (1, .int (nI k))]), W p l e ({ frames := 0, cells := 0, slots := 0, locals := 0 } : Room) s m ([.ref (κ 0), .int (nI k)] : List Value).toArray below meth c s.heap [] 0 0 (MQ below (gx_Ri (fun r => r = nI (cb_cnt (fun j => decide (¬ G 2 k j ≤ 0)) 6))) ([.ref (κ 0), .int (nI k)] : List Value).toArray s 0 0 (fun _ => False)) (F0 m 4 ls []) := by
    intro nn
    induction nn with
    | zero =>
      intro i ls hi hin hl
      exact absurd hin (by omega)
    | succ nn ih =>
      intro i ls hi hin hl
      refine lv_iload_n hx hb d_PB_kindsThatWait_4 rfl (lv_at hl 0 rfl) ?_
      refine lv_bipush (v := 6) hx hb d_PB_kindsThatWait_5 (by decide) ?_
      refine lv_icmp_ge (tgt := 30) hx hb d_PB_kindsThatWait_7 (by decide) (fun c_7 => ?_) (fun c_7 => ?_)
      · skip
        have hi6 : i = 6 := by have := gx_ngt (a := 6) c_7; omega
        subst hi6
        refine lv_iload_n hx hb d_PB_kindsThatWait_30 rfl (lv_at hl 1 rfl) ?_
        exact gx_ireti hx hb hr hlocks rfl d_PB_kindsThatWait_31 (rfl)
      · skip
        have hi6 : i < 6 := gx_nlt (a := 6) c_7
        refine lv_aload_n hx hb d_PB_kindsThatWait_10 rfl (lv_at hl 2 rfl) ?_
        refine va_get (D := D) (ci := iPB) (v := .ref (κ 17)) (C := R_PB) (T := F_PB) (N := 11) hx hb (fl_PB hg) (fun _ h9 => h9) hown hK hP 0 (hI.1) rfl 3 (by decide) (hg _ k_91) (fun _ h9 => h9) rfl d_PB_kindsThatWait_11 ?_
        refine lv_iload_n hx hb d_PB_kindsThatWait_14 rfl (lv_at hl 3 rfl) ?_
        refine gx_al hx hb hK hP 17 3 (hI.2.2.2.2.2.1 2 (by decide)) rfl rfl k (v := ra 2 k) (rfl) (hk) (by decide) (if_pos (hk)) d_PB_kindsThatWait_15 ?_
        refine lv_iload_n hx hb d_PB_kindsThatWait_16 rfl (lv_at hl 0 rfl) ?_
        refine gx_il hx hb hK hP (cb_gp 2 + 1 + k) 0 (hI.2.2.2.2.2.2 2 (by decide) k (hk)) rfl i (rfl) (hi6) (by decide) d_PB_kindsThatWait_17 ?_
        refine lv_if_le (tgt := 24) hx hb d_PB_kindsThatWait_18 (by decide) (fun c_18 => ?_) (fun c_18 => ?_)
        · skip
          refine lv_iinc (v := nI (i + 1)) (lv' := [(3, .int (nI (i + 1))), (2, .int (nI (cb_cnt (fun j => decide (¬ G 2 k j ≤ 0)) i))), (0, .ref (κ 0)), (1, .int (nI k))]) hx hb d_PB_kindsThatWait_24 hl (k := 0) rfl (by rw [lit1]; exact nI_1 i) (by decide) rfl (fun ls hl => ?_)
          refine lv_goto (tgt := 4) hx hb d_PB_kindsThatWait_27 (by decide) ?_
          exact ih (i + 1) ls (by omega) (by omega) (by rw [cb_cnt_n (q := (fun j => decide (¬ G 2 k j ≤ 0))) (by simpa using c_18)]; exact lv_sub hl [0, 1, 2, 3] rfl)
        · skip
          refine lv_iinc (v := nI (cb_cnt (fun j => decide (¬ G 2 k j ≤ 0)) i + 1)) (lv' := [(2, .int (nI (cb_cnt (fun j => decide (¬ G 2 k j ≤ 0)) i + 1))), (3, .int (nI i)), (0, .ref (κ 0)), (1, .int (nI k))]) hx hb d_PB_kindsThatWait_21 hl (k := 1) rfl (by rw [lit1]; exact nI_1 _) (by decide) rfl (fun ls hl => ?_)
          refine lv_iinc (v := nI (i + 1)) (lv' := [(3, .int (nI (i + 1))), (2, .int (nI (cb_cnt (fun j => decide (¬ G 2 k j ≤ 0)) i + 1))), (0, .ref (κ 0)), (1, .int (nI k))]) hx hb d_PB_kindsThatWait_24 hl (k := 1) rfl (by rw [lit1]; exact nI_1 i) (by decide) rfl (fun ls hl => ?_)
          refine lv_goto (tgt := 4) hx hb d_PB_kindsThatWait_27 (by decide) ?_
          exact ih (i + 1) ls (by omega) (by omega) (by rw [cb_cnt_s (q := (fun j => decide (¬ G 2 k j ≤ 0))) (by simpa using c_18)]; exact lv_sub hl [0, 1, 2, 3] rfl)
  exact loop 7 0 ls (by decide) (by decide) (lv_sub hl [0, 1, 2, 3] rfl)

