set_option maxRecDepth 100000 in
set_option maxHeartbeats 4000000 in
theorem c_MD_bill {l : Launch} {s0 : State} {D : va_G} {cI cC cJ cII cO cZ : ClassId} (F : FX l s0 D cI cC cJ cII cO cZ) {ws : va_W} {μ : Nat → Nat} {x : Nat → Int32} {A : Nat → Nat → Int32} {B : Nat → Nat → Int64} (hM : md_I cI cJ cZ ws μ x A B) (sz : Nat) (nl : Nat) (hnl : nl ≤ 200) (hx5 : x 5 = nI nl) (nw : Nat) (hnw : nw ≤ 100) (hx4 : x 4 = nI nw) (dd : Nat → Nat) (hdd : ∀ q, q < 60 → dd q ≤ 3 ∧ A 6 q = nI (dd q)) (hbel : ∀ k j, k < 10 → j < 6 → ¬ md_pb A (6 * k + j) (md_be (x 2) A j) (dd (6 * k + j)) = 0) (p0 : Int32)  : Met l y_MD_bill [.code y_MD_bill b_MD_bill 4 (some .int)] { frames := 2, cells := 0, slots := 0, locals := 80 } (gx_P s0 D classes ws sz [.ref (μ 0), .int p0]) (va_Qi (fun r w1 => ((p0 < 0 ∨ nI 10 ≤ p0) ∧ md_I cI cJ cZ w1 μ (upd x 0 1) A B) ∨ (∃ k9, k9 < 10 ∧ p0 = nI k9 ∧ 200 < nl + cb_cnt (md_qq A k9 nw) 6 ∧ md_I cI cJ cZ w1 μ (upd x 0 2) A B) ∨ (∃ k9, k9 < 10 ∧ p0 = nI k9 ∧ nl + cb_cnt (md_qq A k9 nw) 6 ≤ 200 ∧ r = nI (cb_cnt (md_qq A k9 nw) 6) ∧ ∃ x9 : Nat → Int32, x9 0 = 0 ∧ x9 1 = x 1 ∧ x9 2 = x 2 ∧ x9 4 = nI (md_te (nI k9) (A 3) (A 4) (A 5) nw).1 ∧ x9 5 = nI (nl + cb_cnt (md_qq A k9 nw) 6) ∧ md_I cI cJ cZ w1 μ x9 (cb_upr (cb_upr (cb_upr (md_BA (x 2) A k9 nw nl 6) 3 (md_te (nI k9) (A 3) (A 4) (A 5) nw).2.1) 4 (md_te (nI k9) (A 3) (A 4) (A 5) nw).2.2.1) 5 (md_te (nI k9) (A 3) (A 4) (A 5) nw).2.2.2) (md_BB (x 2) A B dd k9 nw nl 6))) (gx_B D classes ws sz) (va_A ws sz)) 0 0 (va_A ws sz) := by
  refine gx_met (by decide +kernel) (Nat.le_of_ble_eq_true rfl) ?_
  intro p e s m below meth c ls hx hb hr hml hown hlocks hnm hsz hV hP hD hS hA hA0 hl
  have hg := fx_g F hV ([.ref (μ 0), .int p0] : List Value).toArray
  have hK := fx_k F hV
  have hn9 := fx_n F hV
  have hl : lv_has ls 4 [(0, .ref (μ 0)), (1, .int p0)] := hl
  refine lv_iload_n hx hb d_MD_bill_0 rfl (lv_at hl 1 rfl) ?_
  refine gx_readi (va_runS (As := [.int p0]) (rest := []) ⟨hx, hb, hml, hown, gx_nil⟩ (c_MD_isCall F _ _ _) ⟨gx_cb (hg _ k_669) (hg _ k_7) (hg _ k_667) nd_MD_isCall ⟨by decide, by decide⟩, hg _ k_668⟩ (gx_preS hV hP hD hS hA0) rfl rfl hl.1 rfl (lv_room (Nat.le_of_ble_eq_true rfl)) d_MD_bill_1 ⟨by decide, by decide⟩) (fun r_1 h_1 => ?_)
  rcases h_1 with ⟨rfl, k, hk, rfl⟩ | ⟨rfl, hbad⟩
  · skip
    refine lv_if_ne (tgt := 13) hx hb d_MD_bill_4 (by decide) (fun c_4 => ?_) (fun c_4 => absurd c_4 (by decide))
    refine lv_iconst (v := 0) hx hb d_MD_bill_13 (by decide) ?_
    refine lv_istore_n (lv' := [(2, .int 0), (0, .ref (μ 0)), (1, .int (nI k))]) hx hb d_MD_bill_14 rfl hl (by decide) rfl (fun ls hl => ?_)
    refine lv_iconst (v := 0) hx hb d_MD_bill_15 (by decide) ?_
    refine lv_istore_n (lv' := [(3, .int 0), (2, .int 0), (0, .ref (μ 0)), (1, .int (nI k))]) hx hb d_MD_bill_16 rfl hl (by decide) rfl (fun ls hl => ?_)
    have loop1 : ∀ (nn : Nat) (i : Nat) (ls : Array Slot) (hi : i ≤ 6) (hf : 7 ≤ i + nn) (hl : lv_has ls 4 [(3, .int (nI i)), (2, .int (nI (cb_cnt (md_qq A k nw) i))), (0, .ref (μ 0)), (1, .int (nI k))]), W p l e ({ frames := 2, cells := 0, slots := 0, locals := 80 } : Room) s m ([.ref (μ 0), .int (nI k)] : List Value).toArray below meth c s.heap [] 0 0 (MQ below (va_Qi (fun r w1 => (((nI k) < 0 ∨ nI 10 ≤ (nI k)) ∧ md_I cI cJ cZ w1 μ (upd x 0 1) A B) ∨ (∃ k9, k9 < 10 ∧ (nI k) = nI k9 ∧ 200 < nl + cb_cnt (md_qq A k9 nw) 6 ∧ md_I cI cJ cZ w1 μ (upd x 0 2) A B) ∨ (∃ k9, k9 < 10 ∧ (nI k) = nI k9 ∧ nl + cb_cnt (md_qq A k9 nw) 6 ≤ 200 ∧ r = nI (cb_cnt (md_qq A k9 nw) 6) ∧ ∃ x9 : Nat → Int32, x9 0 = 0 ∧ x9 1 = x 1 ∧ x9 2 = x 2 ∧ x9 4 = nI (md_te (nI k9) (A 3) (A 4) (A 5) nw).1 ∧ x9 5 = nI (nl + cb_cnt (md_qq A k9 nw) 6) ∧ md_I cI cJ cZ w1 μ x9 (cb_upr (cb_upr (cb_upr (md_BA (x 2) A k9 nw nl 6) 3 (md_te (nI k9) (A 3) (A 4) (A 5) nw).2.1) 4 (md_te (nI k9) (A 3) (A 4) (A 5) nw).2.2.1) 5 (md_te (nI k9) (A 3) (A 4) (A 5) nw).2.2.2) (md_BB (x 2) A B dd k9 nw nl 6))) (gx_B D classes ws sz) (va_A ws sz)) ([.ref (μ 0), .int (nI k)] : List Value).toArray s 0 0 (va_A ws sz)) (F0 m 17 ls []) := by
      intro nn
      induction nn with
      | zero =>
        intro i ls hi hf hl
        exact absurd hf (by omega)
      | succ nn ih =>
        intro i ls hi hf hl
        refine lv_iload_n hx hb d_MD_bill_17 rfl (lv_at hl 0 rfl) ?_
        refine lv_bipush (v := 6) hx hb d_MD_bill_18 (by decide) ?_
        refine lv_icmp_ge (tgt := 46) hx hb d_MD_bill_20 (by decide) (fun c_20 => ?_) (fun c_20 => ?_)
        · skip
          have hi6 : i = 6 := by have := gx_ngt (a := 6) c_20; omega
          rw [hi6] at hl
          refine lv_aload_n hx hb d_MD_bill_46 rfl (lv_at hl 2 rfl) ?_
          refine va_get (D := D) (ci := iMD) (v := .int (x 5)) (C := R_MD) (T := F_MD) (N := 23) hx hb (fl_MD hg) (fun _ h9 => h9) hown hK hP 0 (hM.1) rfl 13 (by decide) (hg _ k_569) (fun _ h9 => h9) rfl d_MD_bill_47 ?_
          refine lv_iload_n hx hb d_MD_bill_50 rfl (lv_at hl 1 rfl) ?_
          refine lv_iadd hx hb d_MD_bill_51 ?_
          rw [hx5, nI_add]
          refine lv_sipush (v := 200) hx hb d_MD_bill_52 (by decide) ?_
          refine lv_icmp_le (tgt := 64) hx hb d_MD_bill_55 (by decide) (fun c_55 => ?_) (fun c_55 => ?_)
          · skip
            have hcn : cb_cnt (md_qq A k nw) 6 ≤ 6 := cb_cnt_le _ 6
            have hle : nl + cb_cnt (md_qq A k nw) 6 ≤ 200 := gx_ngt (b := 200) c_55
            refine lv_aload_n hx hb d_MD_bill_64 rfl (lv_at hl 2 rfl) ?_
            refine lv_iconst (v := 0) hx hb d_MD_bill_65 (by decide) ?_
            refine va_put (D := D) (ci := iMD) (v := .int 0) (ty := .int) (C := R_MD) (T := F_MD) (N := 23) hx hb (fl_MD hg) (fun _ h9 => h9) t_MD t_MD_ok n_MD hown hK hP hD hS 0 (hM.1) rfl 0 (by decide) (hg _ k_556) (fun _ h9 => h9) rfl (by decide +kernel) rfl rfl (Nat.le_of_ble_eq_true rfl) d_MD_bill_66 (fun H locs hP hD hS => ?_)
            obtain ⟨w_1, ew_1⟩ : ∃ y : va_W, y = ws.set 0 (μ 0, .inr (iMD, md_o μ (upd x 0 0))) := ⟨_, rfl⟩
            replace hP : va_P D classes w_1 H := by rw [ew_1]; exact hP
            replace hD : va_D (va_A ws sz) w_1 := by rw [ew_1]; exact hD
            replace hM : md_I cI cJ cZ w_1 μ (upd x 0 0) A B := by rw [ew_1]; exact md_I.obj (x := x) (x' := upd x 0 0) hM
            refine lv_iconst (v := 0) hx hb d_MD_bill_69 (by decide) ?_
            refine lv_istore_n (lv' := [(3, .int 0), (2, .int (nI (cb_cnt (md_qq A k nw) 6))), (0, .ref (μ 0)), (1, .int (nI k))]) hx hb d_MD_bill_70 rfl hl (by decide) rfl (fun ls hl => ?_)
            have loop2 : ∀ (nn : Nat) (i : Nat) (x' : Nat → Int32) (wx : va_W) (H : Heap) (locs : List Loc) (ls : Array Slot) (hi : i ≤ 6) (hf : 7 ≤ i + nn) (hx' : ∀ q, q ≠ 5 → x' q = upd x 0 0 q) (hx5' : x' 5 = nI (nl + cb_cnt (md_qq A k nw) i)) (hM : md_I cI cJ cZ wx μ x' (md_BA (x 2) A k nw nl i) (md_BB (x 2) A B dd k nw nl i)) (hP : va_P D classes wx H) (hD : va_D (va_A ws sz) wx) (hS : va_S (va_A ws sz) s.heap H locs) (hl : lv_has ls 4 [(3, .int (nI i)), (2, .int (nI (cb_cnt (md_qq A k nw) 6))), (0, .ref (μ 0)), (1, .int (nI k))]), W p l e ({ frames := 2, cells := 0, slots := 0, locals := 80 } : Room) s m ([.ref (μ 0), .int (nI k)] : List Value).toArray below meth c H locs 0 0 (MQ below (va_Qi (fun r w1 => (((nI k) < 0 ∨ nI 10 ≤ (nI k)) ∧ md_I cI cJ cZ w1 μ (upd x 0 1) A B) ∨ (∃ k9, k9 < 10 ∧ (nI k) = nI k9 ∧ 200 < nl + cb_cnt (md_qq A k9 nw) 6 ∧ md_I cI cJ cZ w1 μ (upd x 0 2) A B) ∨ (∃ k9, k9 < 10 ∧ (nI k) = nI k9 ∧ nl + cb_cnt (md_qq A k9 nw) 6 ≤ 200 ∧ r = nI (cb_cnt (md_qq A k9 nw) 6) ∧ ∃ x9 : Nat → Int32, x9 0 = 0 ∧ x9 1 = x 1 ∧ x9 2 = x 2 ∧ x9 4 = nI (md_te (nI k9) (A 3) (A 4) (A 5) nw).1 ∧ x9 5 = nI (nl + cb_cnt (md_qq A k9 nw) 6) ∧ md_I cI cJ cZ w1 μ x9 (cb_upr (cb_upr (cb_upr (md_BA (x 2) A k9 nw nl 6) 3 (md_te (nI k9) (A 3) (A 4) (A 5) nw).2.1) 4 (md_te (nI k9) (A 3) (A 4) (A 5) nw).2.2.1) 5 (md_te (nI k9) (A 3) (A 4) (A 5) nw).2.2.2) (md_BB (x 2) A B dd k9 nw nl 6))) (gx_B D classes ws sz) (va_A ws sz)) ([.ref (μ 0), .int (nI k)] : List Value).toArray s 0 0 (va_A ws sz)) (F0 m 71 ls []) := by
              intro nn
              induction nn with
              | zero =>
                intro i x' wx H locs ls hi hf hx' hx5' hM hP hD hS hl
                exact absurd hf (by omega)
              | succ nn ih =>
                intro i x' wx H locs ls hi hf hx' hx5' hM hP hD hS hl
                refine lv_iload_n hx hb d_MD_bill_71 rfl (lv_at hl 0 rfl) ?_
                refine lv_bipush (v := 6) hx hb d_MD_bill_72 (by decide) ?_
                refine lv_icmp_ge (tgt := 98) hx hb d_MD_bill_74 (by decide) (fun c_74 => ?_) (fun c_74 => ?_)
                · skip
                  have hi6 : i = 6 := by have := gx_ngt (a := 6) c_74; omega
                  refine lv_aload_n hx hb d_MD_bill_98 rfl (lv_at hl 2 rfl) ?_
                  refine lv_iload_n hx hb d_MD_bill_99 rfl (lv_at hl 3 rfl) ?_
                  refine gx_callv (va_runV (As := [.int (nI k)]) (rest := []) ⟨hx, hb, hml, hown, gx_nil⟩ (c_MD_takeEvents F hM _ nw hnw (by rw [hx' 4 (by decide)]; exact hx4) _) ⟨gx_cb (hg _ k_699) (hg _ k_7) (hg _ k_696) nd_MD_takeEvents ⟨by decide, by decide⟩, hg _ k_698, hg _ ks_26⟩ (gx_preV hV hP hD hS hA0 (va_recv hK hP rfl (hM.1))) rfl rfl hl.1 rfl (lv_room (Nat.le_of_ble_eq_true rfl)) d_MD_bill_100 ⟨by decide, by decide⟩) hD hS hA (fun w1 H locs h_100 hP hD hS => ?_)
                  replace hM := h_100
                  rw [md_BA_lo i 3 (by decide), md_BA_lo i 4 (by decide), md_BA_lo i 5 (by decide)] at hM
                  refine lv_iload_n hx hb d_MD_bill_103 rfl (lv_at hl 1 rfl) ?_
                  exact gx_iret hx hb hr hlocks rfl hS hP hD (by decide) (by decide) d_MD_bill_104 (Or.inr (Or.inr ⟨k, hk, rfl, hle, rfl, upd x' 4 (nI (md_te (nI k) (A 3) (A 4) (A 5) nw).1), (if_neg (by decide)).trans (hx' 0 (by decide)), (if_neg (by decide)).trans (hx' 1 (by decide)), (if_neg (by decide)).trans (hx' 2 (by decide)), rfl, by rw [hi6] at hx5'; exact hx5', by rw [hi6] at hM; exact hM⟩))
                · skip
                  have hi6 : i < 6 := gx_nlt (a := 6) c_74
                  refine lv_aload_n hx hb d_MD_bill_77 rfl (lv_at hl 2 rfl) ?_
                  refine lv_iload_n hx hb d_MD_bill_78 rfl (lv_at hl 3 rfl) ?_
                  refine lv_iload_n hx hb d_MD_bill_79 rfl (lv_at hl 0 rfl) ?_
                  refine gx_readi (va_runV (As := [.int (nI k), .int (nI i)]) (rest := []) ⟨hx, hb, hml, hown, gx_nil⟩ (c_MD_unitsOf F hM _ nw hnw (by rw [hx' 4 (by decide)]; exact hx4) (nI k) (nI i)) ⟨gx_cb (hg _ k_686) (hg _ k_7) (hg _ k_683) nd_MD_unitsOf ⟨by decide, by decide⟩, hg _ k_685, hg _ ks_23⟩ (gx_preV hV hP hD hS hA0 (va_recv hK hP rfl (hM.1))) rfl rfl hl.1 rfl (lv_room (Nat.le_of_ble_eq_true rfl)) d_MD_bill_80 ⟨by decide, by decide⟩) (fun r_80 h_80 => ?_)
                  rw [md_us_ext (md_BA_lo i)] at h_80
                  subst h_80
                  refine lv_if_le (tgt := 92) hx hb d_MD_bill_83 (by decide) (fun c_83 => ?_) (fun c_83 => ?_)
                  · skip
                    have hq9 : ¬ md_qq A k nw i = true := fun q => of_decide_eq_true q c_83
                    refine lv_iinc (v := nI (i + 1)) (lv' := [(3, .int (nI (i + 1))), (2, .int (nI (cb_cnt (md_qq A k nw) 6))), (0, .ref (μ 0)), (1, .int (nI k))]) hx hb d_MD_bill_92 hl (k := 0) rfl (by rw [lit1]; exact nI_1 i) (by decide) rfl (fun ls hl => ?_)
                    refine lv_goto (tgt := 71) hx hb d_MD_bill_95 (by decide) ?_
                    exact ih (i + 1) x' _ _ _ ls (by omega) (by omega) hx' (by rw [cb_cnt_n (by cases hz : md_qq A k nw i <;> simp_all)]; exact hx5') (by rw [md_BA_n hq9, md_BB_n hq9]; exact hM) hP hD hS (lv_sub hl [0, 1, 2, 3] rfl)
                  · skip
                    have hq9 : md_qq A k nw i = true := decide_eq_true c_83
                    refine lv_aload_n hx hb d_MD_bill_86 rfl (lv_at hl 2 rfl) ?_
                    refine lv_iload_n hx hb d_MD_bill_87 rfl (lv_at hl 3 rfl) ?_
                    refine lv_iload_n hx hb d_MD_bill_88 rfl (lv_at hl 0 rfl) ?_
                    refine gx_callv (va_runV (As := [.int (nI k), .int (nI i)]) (rest := []) ⟨hx, hb, hml, hown, gx_nil⟩ (c_MD_billKind F hM _ (nl + cb_cnt (md_qq A k nw) i) (by have := cb_cnt_lt hi6 hq9; omega) hx5' nw hnw (by rw [hx' 4 (by decide)]; exact hx4) k i (dd (6 * k + i)) hk hi6 (hdd _ (by omega)).1 (by rw [md_BA_lo i 6 (by decide)]; exact (hdd _ (by omega)).2) (by rw [md_pb_ext (md_BA_lo i), md_be_ext (md_BA_lo i), hx' 2 (by decide)]; exact hbel k i hk hi6)) ⟨gx_cb (hg _ k_690) (hg _ k_7) (hg _ k_687) nd_MD_billKind ⟨by decide, by decide⟩, hg _ k_689, hg _ ks_24⟩ (gx_preV hV hP hD hS hA0 (va_recv hK hP rfl (hM.1))) rfl rfl hl.1 rfl (lv_room (Nat.le_of_ble_eq_true rfl)) d_MD_bill_89 ⟨by decide, by decide⟩) hD hS hA (fun w1 H locs h_89 hP hD hS => ?_)
                    replace hM := h_89
                    rw [md_us_ext (md_BA_lo i), hx' 2 (by decide), show upd x 0 0 2 = x 2 from rfl, md_kch_ext (md_BA_lo i), md_kce_ext (md_BA_lo i)] at hM
                    refine lv_iinc (v := nI (i + 1)) (lv' := [(3, .int (nI (i + 1))), (2, .int (nI (cb_cnt (md_qq A k nw) 6))), (0, .ref (μ 0)), (1, .int (nI k))]) hx hb d_MD_bill_92 hl (k := 0) rfl (by rw [lit1]; exact nI_1 i) (by decide) rfl (fun ls hl => ?_)
                    refine lv_goto (tgt := 71) hx hb d_MD_bill_95 (by decide) ?_
                    exact ih (i + 1) (upd x' 5 (x' 5 + 1)) _ _ _ ls (by omega) (by omega) (fun q hq => (if_neg hq).trans (hx' q hq)) (by show x' 5 + 1 = _; rw [hx5', nI_1, cb_cnt_s hq9]; rfl) (by rw [md_BA_s hq9, md_BB_s hq9]; exact hM) hP hD hS (lv_sub hl [0, 1, 2, 3] rfl)
            exact loop2 7 0 (upd x 0 0) _ _ _ ls (by decide) (by decide) (fun _ _ => rfl) hx5 hM hP hD hS (lv_sub hl [0, 1, 2, 3] rfl)
          · skip
            have hcn : cb_cnt (md_qq A k nw) 6 ≤ 6 := cb_cnt_le _ 6
            have hgt : 200 < nl + cb_cnt (md_qq A k nw) 6 := gx_nlt (b := 200) c_55
            refine lv_aload_n hx hb d_MD_bill_58 rfl (lv_at hl 2 rfl) ?_
            refine lv_iconst (v := 2) hx hb d_MD_bill_59 (by decide) ?_
            refine gx_calli (va_runV (As := [.int 2]) (rest := []) ⟨hx, hb, hml, hown, gx_nil⟩ (c_MD_fails F hM _ _) ⟨gx_cb (hg _ k_662) (hg _ k_7) (hg _ k_659) nd_MD_fails ⟨by decide, by decide⟩, hg _ k_661, hg _ ks_22⟩ (gx_preV hV hP hD hS hA0 (va_recv hK hP rfl (hM.1))) rfl rfl hl.1 rfl (lv_room (Nat.le_of_ble_eq_true rfl)) d_MD_bill_60 ⟨by decide, by decide⟩) hD hS hA (fun r_60 w1 H locs h_60 hP hD hS => ?_)
            obtain ⟨hr0, hM⟩ := h_60
            subst hr0
            exact gx_iret hx hb hr hlocks rfl hS hP hD (by decide) (by decide) d_MD_bill_63 (Or.inr (Or.inl ⟨k, hk, rfl, hgt, hM⟩))
        · skip
          have hi6 : i < 6 := gx_nlt (a := 6) c_20
          refine lv_iload_n hx hb d_MD_bill_23 rfl (lv_at hl 1 rfl) ?_
          refine lv_aload_n hx hb d_MD_bill_24 rfl (lv_at hl 2 rfl) ?_
          refine lv_iload_n hx hb d_MD_bill_25 rfl (lv_at hl 3 rfl) ?_
          refine lv_iload_n hx hb d_MD_bill_26 rfl (lv_at hl 0 rfl) ?_
          refine gx_readi (va_runV (As := [.int (nI k), .int (nI i)]) (rest := [.int (nI (cb_cnt (md_qq A k nw) i))]) ⟨hx, hb, hml, hown, gx_nil⟩ (c_MD_unitsOf F hM _ nw hnw hx4 (nI k) (nI i)) ⟨gx_cb (hg _ k_686) (hg _ k_7) (hg _ k_683) nd_MD_unitsOf ⟨by decide, by decide⟩, hg _ k_685, hg _ ks_23⟩ (gx_preV hV hP hD hS hA0 (va_recv hK hP rfl (hM.1))) rfl rfl hl.1 rfl (lv_room (Nat.le_of_ble_eq_true rfl)) d_MD_bill_27 ⟨by decide, by decide⟩) (fun r_27 h_27 => ?_)
          subst h_27
          refine lv_if_le (tgt := 37) hx hb d_MD_bill_30 (by decide) (fun c_30 => ?_) (fun c_30 => ?_)
          · skip
            refine lv_iconst (v := 0) hx hb d_MD_bill_37 (by decide) ?_
            refine lv_iadd hx hb d_MD_bill_38 ?_
            rw [show nI (cb_cnt (md_qq A k nw) i) + 0 = nI (cb_cnt (md_qq A k nw) i) from Int32.add_zero _]
            refine lv_istore_n (lv' := [(2, .int (nI (cb_cnt (md_qq A k nw) i))), (3, .int (nI i)), (0, .ref (μ 0)), (1, .int (nI k))]) hx hb d_MD_bill_39 rfl hl (by decide) rfl (fun ls hl => ?_)
            refine lv_iinc (v := nI (i + 1)) (lv' := [(3, .int (nI (i + 1))), (2, .int (nI (cb_cnt (md_qq A k nw) i))), (0, .ref (μ 0)), (1, .int (nI k))]) hx hb d_MD_bill_40 hl (k := 1) rfl (by rw [lit1]; exact nI_1 i) (by decide) rfl (fun ls hl => ?_)
            refine lv_goto (tgt := 17) hx hb d_MD_bill_43 (by decide) ?_
            exact ih (i + 1) ls (by omega) (by omega) (by rw [cb_cnt_n (q := md_qq A k nw) (decide_eq_false (fun z => z c_30))]; exact lv_sub hl [0, 1, 2, 3] rfl)
          · skip
            refine lv_iconst (v := 1) hx hb d_MD_bill_33 (by decide) ?_
            refine lv_goto (tgt := 38) hx hb d_MD_bill_34 (by decide) ?_
            refine lv_iadd hx hb d_MD_bill_38 ?_
            rw [nI_1]
            refine lv_istore_n (lv' := [(2, .int (nI (cb_cnt (md_qq A k nw) i + 1))), (3, .int (nI i)), (0, .ref (μ 0)), (1, .int (nI k))]) hx hb d_MD_bill_39 rfl hl (by decide) rfl (fun ls hl => ?_)
            refine lv_iinc (v := nI (i + 1)) (lv' := [(3, .int (nI (i + 1))), (2, .int (nI (cb_cnt (md_qq A k nw) i + 1))), (0, .ref (μ 0)), (1, .int (nI k))]) hx hb d_MD_bill_40 hl (k := 1) rfl (by rw [lit1]; exact nI_1 i) (by decide) rfl (fun ls hl => ?_)
            refine lv_goto (tgt := 17) hx hb d_MD_bill_43 (by decide) ?_
            exact ih (i + 1) ls (by omega) (by omega) (by rw [cb_cnt_s (q := md_qq A k nw) (decide_eq_true c_30)]; exact lv_sub hl [0, 1, 2, 3] rfl)
    exact loop1 7 0 ls (by decide) (by decide) (lv_sub hl [0, 1, 2, 3] rfl)
  · skip
    refine lv_if_ne (tgt := 13) hx hb d_MD_bill_4 (by decide) (fun c_4 => absurd c_4 (by decide)) (fun c_4 => ?_)
    refine lv_aload_n hx hb d_MD_bill_7 rfl (lv_at hl 0 rfl) ?_
    refine lv_iconst (v := 1) hx hb d_MD_bill_8 (by decide) ?_
    refine gx_calli (va_runV (As := [.int 1]) (rest := []) ⟨hx, hb, hml, hown, gx_nil⟩ (c_MD_fails F hM _ _) ⟨gx_cb (hg _ k_662) (hg _ k_7) (hg _ k_659) nd_MD_fails ⟨by decide, by decide⟩, hg _ k_661, hg _ ks_22⟩ (gx_preV hV hP hD hS hA0 (va_recv hK hP rfl (hM.1))) rfl rfl hl.1 rfl (lv_room (Nat.le_of_ble_eq_true rfl)) d_MD_bill_9 ⟨by decide, by decide⟩) hD hS hA (fun r_9 w1 H locs h_9 hP hD hS => ?_)
    obtain ⟨hr0, hM⟩ := h_9
    subst hr0
    exact gx_iret hx hb hr hlocks rfl hS hP hD (by decide) (by decide) d_MD_bill_12 (Or.inl ⟨hbad, hM⟩)

