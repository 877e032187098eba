set_option maxRecDepth 100000 in
set_option maxHeartbeats 4000000 in
theorem c_MD_read {l : Launch} {s0 : State} {D : va_G} {cI cC cJ cII cO cZ : ClassId} (F : FX l s0 D cI cC cJ cII cO cZ) {ws : va_W} {μ : Nat → Nat} {x : Nat → Int32} {A : Nat → Nat → Int32} {B : Nat → Nat → Int64} (hM : md_I cI cJ cZ ws μ x A B) (sz : Nat) (n : Nat) (hn : n ≤ 120) (hx1 : x 1 = nI n) (mw : Nat) (hmw : mw < 64) (hx2 : x 2 = nI mw)  : Met l y_MD_read [.code y_MD_read b_MD_read 12 (some .int)] { frames := 1, cells := 0, slots := 0, locals := 40 } (gx_P s0 D classes ws sz [.ref (μ 0)]) (va_Qi (fun r w1 => (∃ q, q ≤ n ∧ r = -1 - nI q ∧ ∃ s9, md_end (A 1) n (0, 0, 0, 0, mw, md_cp (A 2) 24) (some q) s9 ∧ ∃ (x9 : Nat → Int32) (A9 : Nat → Nat → Int32), md_I cI cJ cZ w1 μ x9 A9 B ∧ x9 0 = 0 ∧ x9 1 = 0 ∧ x9 2 = x 2 ∧ x9 4 = x 4 ∧ x9 5 = x 5 ∧ (∀ k, k ≠ 2 → A9 k = A k) ∧ ∀ j, j < 24 → A9 2 j = A 2 j) ∨ (∃ s9 : md_S, md_end (A 1) n (0, 0, 0, 0, mw, md_cp (A 2) 24) none s9 ∧ r = nI s9.1 ∧ s9.2.2.2.2.1 < 64 ∧ ∃ (x9 : Nat → Int32) (A9 : Nat → Nat → Int32), md_I cI cJ cZ w1 μ x9 A9 B ∧ x9 0 = 0 ∧ x9 1 = 0 ∧ x9 2 = nI s9.2.2.2.2.1 ∧ x9 4 = x 4 ∧ x9 5 = x 5 ∧ (∀ k, k ≠ 2 → A9 k = A k) ∧ ∀ j, j < 24 → A9 2 j = s9.2.2.2.2.2 (24 + j))) (gx_B D classes ws sz) (va_A ws sz)) 0 0 (va_A ws sz) := by
  refine gx_met (by decide +kernel) (Nat.le_of_ble_eq_true rfl) ?_
  intro p e s m below meth c ls hx hb hr hml hown hlocks hnm hsz hV hP hD hS hA hA0 hl
  have hg := fx_g F hV ([.ref (μ 0)] : List Value).toArray
  have hK := fx_k F hV
  have hn9 := fx_n F hV
  have hl : lv_has ls 12 [(0, .ref (μ 0))] := hl
  have hmo9 : ∀ {mo st : Nat}, mo = md_most st → mo ≤ 6 := fun h => by rw [h]; unfold md_most; split <;> decide
  have hbg9 := md_bgN_le
  have st386 : ∀ (rows st dg kd nt : Nat) (T : Nat → Int32) (wr : Int32) (wx : va_W) (H : Heap) (locs : List Loc) (ls : Array Slot) (hw : (∃ q, q ≤ n ∧ wr = nI q ∧ ∃ s9, md_end (A 1) n (0, 0, 0, 0, mw, md_cp (A 2) 24) (some q) s9) ∨ (wr = -1 ∧ st = 0 ∧ nt < 64 ∧ md_end (A 1) n (0, 0, 0, 0, mw, md_cp (A 2) 24) none (rows, st, dg, kd, nt, T)) ∨ (wr = -1 ∧ ¬ st = 0 ∧ st ≤ 5 ∧ md_end (A 1) n (0, 0, 0, 0, mw, md_cp (A 2) 24) (some n) (rows, st, dg, kd, nt, T))) (hT24 : ∀ j, j < 24 → T j = A 2 j) (hM : md_I cI cJ cZ wx μ (upd (upd x 0 0) 3 (nI nt)) (cb_upr A 2 T) B) (hP : va_P D classes wx H) (hD : va_D (va_A ws sz) wx) (hS : va_S (va_A ws sz) s.heap H locs) (hl : lv_has ls 12 [(5, .int wr), (2, .int (nI st)), (1, .int (nI rows)), (0, .ref (μ 0))]), W p l e ({ frames := 1, cells := 0, slots := 0, locals := 40 } : Room) s m ([.ref (μ 0)] : List Value).toArray below meth c H locs 0 0 (MQ below (va_Qi (fun r w1 => (∃ q, q ≤ n ∧ r = -1 - nI q ∧ ∃ s9, md_end (A 1) n (0, 0, 0, 0, mw, md_cp (A 2) 24) (some q) s9 ∧ ∃ (x9 : Nat → Int32) (A9 : Nat → Nat → Int32), md_I cI cJ cZ w1 μ x9 A9 B ∧ x9 0 = 0 ∧ x9 1 = 0 ∧ x9 2 = x 2 ∧ x9 4 = x 4 ∧ x9 5 = x 5 ∧ (∀ k, k ≠ 2 → A9 k = A k) ∧ ∀ j, j < 24 → A9 2 j = A 2 j) ∨ (∃ s9 : md_S, md_end (A 1) n (0, 0, 0, 0, mw, md_cp (A 2) 24) none s9 ∧ r = nI s9.1 ∧ s9.2.2.2.2.1 < 64 ∧ ∃ (x9 : Nat → Int32) (A9 : Nat → Nat → Int32), md_I cI cJ cZ w1 μ x9 A9 B ∧ x9 0 = 0 ∧ x9 1 = 0 ∧ x9 2 = nI s9.2.2.2.2.1 ∧ x9 4 = x 4 ∧ x9 5 = x 5 ∧ (∀ k, k ≠ 2 → A9 k = A k) ∧ ∀ j, j < 24 → A9 2 j = s9.2.2.2.2.2 (24 + j))) (gx_B D classes ws sz) (va_A ws sz)) ([.ref (μ 0)] : List Value).toArray s 0 0 (va_A ws sz)) (F0 m 386 ls []) := by
    intro rows st dg kd nt T wr wx H locs ls hw hT24 hM hP hD hS hl
    rcases hw with ⟨q, hq, hwr, s9, hend⟩ | ⟨hwr, hst0, hnt, hend⟩ | ⟨hwr, hst0, hst5, hend⟩
    · skip
      subst hwr
      refine lv_iload hx hb d_MD_read_386 (lv_at hl 0 rfl) ?_
      refine lv_if_ge (tgt := 401) hx hb d_MD_read_388 (by decide) (fun c_388 => ?_) (fun c_388 => absurd (nI_pos' (by omega)) c_388)
      refine lv_aload_n hx hb d_MD_read_401 rfl (lv_at hl 3 rfl) ?_
      refine lv_iconst (v := 0) hx hb d_MD_read_402 (by decide) ?_
      refine va_put (D := D) (ci := iMD) (v := .int 0) (ty := .int) (C := R_MD) (T := F_MD) (N := 23) hx hb (fl_MD hg) (fun _ h9 => h9) t_MD t_MD_ok n_MD hown hK hP hD hS 0 (hM.1) rfl 2 (by decide) (hg _ k_558) (fun _ h9 => h9) rfl (by decide +kernel) rfl rfl (Nat.le_of_ble_eq_true rfl) d_MD_read_403 (fun H locs hP hD hS => ?_)
      obtain ⟨w_1, ew_1⟩ : ∃ y : va_W, y = wx.set 0 (μ 0, .inr (iMD, md_o μ (upd (upd (upd x 0 0) 3 (nI nt)) 1 0))) := ⟨_, rfl⟩
      replace hP : va_P D classes w_1 H := by rw [ew_1]; exact hP
      replace hD : va_D (va_A ws sz) w_1 := by rw [ew_1]; exact hD
      replace hM : md_I cI cJ cZ w_1 μ (upd (upd (upd x 0 0) 3 (nI nt)) 1 0) (cb_upr A 2 T) B := by rw [ew_1]; exact md_I.obj (x := (upd (upd x 0 0) 3 (nI nt))) (x' := upd (upd (upd x 0 0) 3 (nI nt)) 1 0) hM
      refine lv_iload hx hb d_MD_read_406 (lv_at hl 0 rfl) ?_
      refine lv_if_lt (tgt := 416) hx hb d_MD_read_408 (by decide) (fun c_408 => absurd c_408 (nI_pos (by omega))) (fun c_408 => ?_)
      refine lv_iconst (v := (-1)) hx hb d_MD_read_411 (by decide) ?_
      refine lv_iload hx hb d_MD_read_412 (lv_at hl 0 rfl) ?_
      refine lv_isub hx hb d_MD_read_414 ?_
      exact gx_iret hx hb hr hlocks rfl hS hP hD (by decide) (by decide) d_MD_read_415 (Or.inl ⟨q, hq, rfl, s9, hend, _, _, hM, rfl, rfl, rfl, rfl, rfl, fun k hk => by unfold cb_upr; rw [if_neg hk], hT24⟩)
    · skip
      subst hwr
      subst hst0
      refine lv_iload hx hb d_MD_read_386 (lv_at hl 0 rfl) ?_
      refine lv_if_ge (tgt := 401) hx hb d_MD_read_388 (by decide) (fun c_388 => absurd c_388 (by decide)) (fun c_388 => ?_)
      refine lv_iload_n hx hb d_MD_read_391 rfl (lv_at hl 1 rfl) ?_
      refine lv_if_eq (tgt := 401) hx hb d_MD_read_392 (by decide) (fun c_392 => ?_) (fun c_392 => absurd rfl c_392)
      refine lv_aload_n hx hb d_MD_read_401 rfl (lv_at hl 3 rfl) ?_
      refine lv_iconst (v := 0) hx hb d_MD_read_402 (by decide) ?_
      refine va_put (D := D) (ci := iMD) (v := .int 0) (ty := .int) (C := R_MD) (T := F_MD) (N := 23) hx hb (fl_MD hg) (fun _ h9 => h9) t_MD t_MD_ok n_MD hown hK hP hD hS 0 (hM.1) rfl 2 (by decide) (hg _ k_558) (fun _ h9 => h9) rfl (by decide +kernel) rfl rfl (Nat.le_of_ble_eq_true rfl) d_MD_read_403 (fun H locs hP hD hS => ?_)
      obtain ⟨w_2, ew_2⟩ : ∃ y : va_W, y = wx.set 0 (μ 0, .inr (iMD, md_o μ (upd (upd (upd x 0 0) 3 (nI nt)) 1 0))) := ⟨_, rfl⟩
      replace hP : va_P D classes w_2 H := by rw [ew_2]; exact hP
      replace hD : va_D (va_A ws sz) w_2 := by rw [ew_2]; exact hD
      replace hM : md_I cI cJ cZ w_2 μ (upd (upd (upd x 0 0) 3 (nI nt)) 1 0) (cb_upr A 2 T) B := by rw [ew_2]; exact md_I.obj (x := (upd (upd x 0 0) 3 (nI nt))) (x' := upd (upd (upd x 0 0) 3 (nI nt)) 1 0) hM
      refine lv_iload hx hb d_MD_read_406 (lv_at hl 0 rfl) ?_
      refine lv_if_lt (tgt := 416) hx hb d_MD_read_408 (by decide) (fun c_408 => ?_) (fun c_408 => absurd c_408 (by decide))
      refine lv_aload_n hx hb d_MD_read_416 rfl (lv_at hl 3 rfl) ?_
      refine lv_aload_n hx hb d_MD_read_417 rfl (lv_at hl 3 rfl) ?_
      refine va_get (D := D) (ci := iMD) (v := .int (nI nt)) (C := R_MD) (T := F_MD) (N := 23) hx hb (fl_MD hg) (fun _ h9 => h9) hown hK hP 0 (hM.1) rfl 5 (by decide) (hg _ k_561) (fun _ h9 => h9) rfl d_MD_read_418 ?_
      refine va_put (D := D) (ci := iMD) (v := .int (nI nt)) (ty := .int) (C := R_MD) (T := F_MD) (N := 23) hx hb (fl_MD hg) (fun _ h9 => h9) t_MD t_MD_ok n_MD hown hK hP hD hS 0 (hM.1) rfl 3 (by decide) (hg _ k_559) (fun _ h9 => h9) rfl (by decide +kernel) rfl rfl (Nat.le_of_ble_eq_true rfl) d_MD_read_421 (fun H locs hP hD hS => ?_)
      obtain ⟨w_3, ew_3⟩ : ∃ y : va_W, y = w_2.set 0 (μ 0, .inr (iMD, md_o μ (upd (upd (upd (upd x 0 0) 3 (nI nt)) 1 0) 2 (nI nt)))) := ⟨_, rfl⟩
      replace hP : va_P D classes w_3 H := by rw [ew_3]; exact hP
      replace hD : va_D (va_A ws sz) w_3 := by rw [ew_3]; exact hD
      replace hM : md_I cI cJ cZ w_3 μ (upd (upd (upd (upd x 0 0) 3 (nI nt)) 1 0) 2 (nI nt)) (cb_upr A 2 T) B := by rw [ew_3]; exact md_I.obj (x := (upd (upd (upd x 0 0) 3 (nI nt)) 1 0)) (x' := upd (upd (upd (upd x 0 0) 3 (nI nt)) 1 0) 2 (nI nt)) hM
      refine lv_iconst (v := 0) hx hb d_MD_read_424 (by decide) ?_
      refine lv_istore (lv' := [(6, .int 0), (5, .int (-1)), (2, .int (nI 0)), (1, .int (nI rows)), (0, .ref (μ 0))]) hx hb d_MD_read_425 hl (by decide) rfl (fun ls hl => ?_)
      have loop2 : ∀ (nn : Nat) (i : Nat) (wx : va_W) (H : Heap) (locs : List Loc) (ls : Array Slot) (hi : i ≤ 24) (hf : 25 ≤ i + nn) (hM : md_I cI cJ cZ wx μ (upd (upd (upd (upd x 0 0) 3 (nI nt)) 1 0) 2 (nI nt)) (cb_upr A 2 (md_cb T i)) B) (hP : va_P D classes wx H) (hD : va_D (va_A ws sz) wx) (hS : va_S (va_A ws sz) s.heap H locs) (hl : lv_has ls 12 [(6, .int (nI i)), (1, .int (nI rows)), (0, .ref (μ 0))]), W p l e ({ frames := 1, cells := 0, slots := 0, locals := 40 } : Room) s m ([.ref (μ 0)] : List Value).toArray below meth c H locs 0 0 (MQ below (va_Qi (fun r w1 => (∃ q, q ≤ n ∧ r = -1 - nI q ∧ ∃ s9, md_end (A 1) n (0, 0, 0, 0, mw, md_cp (A 2) 24) (some q) s9 ∧ ∃ (x9 : Nat → Int32) (A9 : Nat → Nat → Int32), md_I cI cJ cZ w1 μ x9 A9 B ∧ x9 0 = 0 ∧ x9 1 = 0 ∧ x9 2 = x 2 ∧ x9 4 = x 4 ∧ x9 5 = x 5 ∧ (∀ k, k ≠ 2 → A9 k = A k) ∧ ∀ j, j < 24 → A9 2 j = A 2 j) ∨ (∃ s9 : md_S, md_end (A 1) n (0, 0, 0, 0, mw, md_cp (A 2) 24) none s9 ∧ r = nI s9.1 ∧ s9.2.2.2.2.1 < 64 ∧ ∃ (x9 : Nat → Int32) (A9 : Nat → Nat → Int32), md_I cI cJ cZ w1 μ x9 A9 B ∧ x9 0 = 0 ∧ x9 1 = 0 ∧ x9 2 = nI s9.2.2.2.2.1 ∧ x9 4 = x 4 ∧ x9 5 = x 5 ∧ (∀ k, k ≠ 2 → A9 k = A k) ∧ ∀ j, j < 24 → A9 2 j = s9.2.2.2.2.2 (24 + j))) (gx_B D classes ws sz) (va_A ws sz)) ([.ref (μ 0)] : List Value).toArray s 0 0 (va_A ws sz)) (F0 m 427 ls []) := by
        intro nn
        induction nn with
        | zero =>
          intro i wx H locs ls hi hf hM hP hD hS hl
          exact absurd hf (by omega)
        | succ nn ih =>
          intro i wx H locs ls hi hf hM hP hD hS hl
          refine lv_iload hx hb d_MD_read_427 (lv_at hl 0 rfl) ?_
          refine lv_bipush (v := 24) hx hb d_MD_read_429 (by decide) ?_
          refine lv_icmp_ge (tgt := 457) hx hb d_MD_read_431 (by decide) (fun c_431 => ?_) (fun c_431 => ?_)
          · skip
            have hi24 : i = 24 := by have := gx_ngt (a := 24) c_431; omega
            rw [hi24] at hM
            refine lv_iload_n hx hb d_MD_read_457 rfl (lv_at hl 1 rfl) ?_
            exact gx_iret hx hb hr hlocks rfl hS hP hD (by decide) (by decide) d_MD_read_458 (Or.inr ⟨_, hend, rfl, hnt, _, _, hM, rfl, rfl, rfl, rfl, rfl, fun k hk => by unfold cb_upr; rw [if_neg hk], fun j hj => if_pos hj⟩)
          · skip
            have hi24 : i < 24 := gx_nlt (a := 24) c_431
            refine lv_aload_n hx hb d_MD_read_434 rfl (lv_at hl 2 rfl) ?_
            refine va_get (D := D) (ci := iMD) (v := .ref (μ 2)) (C := R_MD) (T := F_MD) (N := 23) hx hb (fl_MD hg) (fun _ h9 => h9) hown hK hP 0 (hM.1) rfl 4 (by decide) (hg _ k_560) (fun _ h9 => h9) rfl d_MD_read_435 ?_
            refine lv_iload hx hb d_MD_read_438 (lv_at hl 0 rfl) ?_
            refine lv_aload_n hx hb d_MD_read_440 rfl (lv_at hl 2 rfl) ?_
            refine va_get (D := D) (ci := iMD) (v := .ref (μ 2)) (C := R_MD) (T := F_MD) (N := 23) hx hb (fl_MD hg) (fun _ h9 => h9) hown hK hP 0 (hM.1) rfl 4 (by decide) (hg _ k_560) (fun _ h9 => h9) rfl d_MD_read_441 ?_
            refine lv_bipush (v := 24) hx hb d_MD_read_444 (by decide) ?_
            refine lv_iload hx hb d_MD_read_446 (lv_at hl 0 rfl) ?_
            refine lv_iadd hx hb d_MD_read_448 ?_
            refine gx_il (f := md_cb T i) hx hb hK hP 2 0 (hM.2.1 2 (by decide) (by decide)) rfl (24 + i) (by rw [show (24 : Int32) = nI 24 from rfl, nI_add]) (show 24 + i < 48 by omega) (by decide) d_MD_read_449 ?_
            rw [md_cb_i hi24]
            refine gx_is (f := md_cb T i) hx hb hK hP hD hS 2 0 (hM.2.1 2 (by decide) (by decide)) rfl i (rfl) (show i < 48 by omega) (by decide) d_MD_read_450 (fun H locs hP hD hS => ?_)
            obtain ⟨w_4, ew_4⟩ : ∃ y : va_W, y = wx.set 2 (μ 2, .inl (cI, md_n 2, .inl (upd (md_cb T i) i (T (24 + i))))) := ⟨_, rfl⟩
            replace hP : va_P D classes w_4 H := by rw [ew_4]; exact hP
            replace hD : va_D (va_A ws sz) w_4 := by rw [ew_4]; exact hD
            replace hM : md_I cI cJ cZ w_4 μ (upd (upd (upd (upd x 0 0) 3 (nI nt)) 1 0) 2 (nI nt)) (cb_upr (cb_upr A 2 (md_cb T i)) 2 (upd (md_cb T i) i (T (24 + i)))) B := by rw [ew_4]; exact md_I.int (by decide) (by decide) hM
            refine lv_iinc (v := nI (i + 1)) (lv' := [(6, .int (nI (i + 1))), (1, .int (nI rows)), (0, .ref (μ 0))]) hx hb d_MD_read_451 hl (k := 0) rfl (by rw [lit1]; exact nI_1 i) (by decide) rfl (fun ls hl => ?_)
            refine lv_goto (tgt := 427) hx hb d_MD_read_454 (by decide) ?_
            exact ih (i + 1) _ _ _ ls (by omega) (by omega) (by rw [cb_upr_upr, md_cb_s] at hM; exact hM) hP hD hS (lv_sub hl [0, 1, 2] rfl)
      exact loop2 25 0 _ _ _ ls (by decide) (by decide) (by rw [md_cb_0]; exact hM) hP hD hS (lv_sub hl [0, 3, 4] rfl)
    · skip
      subst hwr
      refine lv_iload hx hb d_MD_read_386 (lv_at hl 0 rfl) ?_
      refine lv_if_ge (tgt := 401) hx hb d_MD_read_388 (by decide) (fun c_388 => absurd c_388 (by decide)) (fun c_388 => ?_)
      refine lv_iload_n hx hb d_MD_read_391 rfl (lv_at hl 1 rfl) ?_
      refine lv_if_eq (tgt := 401) hx hb d_MD_read_392 (by decide) (fun c_392 => absurd (gx_eqn (b := 0) c_392) hst0) (fun c_392 => ?_)
      refine lv_aload_n hx hb d_MD_read_395 rfl (lv_at hl 3 rfl) ?_
      refine va_get (D := D) (ci := iMD) (v := .int (x 1)) (C := R_MD) (T := F_MD) (N := 23) hx hb (fl_MD hg) (fun _ h9 => h9) hown hK hP 0 (hM.1) rfl 2 (by decide) (hg _ k_558) (fun _ h9 => h9) rfl d_MD_read_396 ?_
      refine lv_istore (lv' := [(5, .int (x 1)), (2, .int (nI st)), (1, .int (nI rows)), (0, .ref (μ 0))]) hx hb d_MD_read_399 hl (by decide) rfl (fun ls hl => ?_)
      refine lv_aload_n hx hb d_MD_read_401 rfl (lv_at hl 3 rfl) ?_
      refine lv_iconst (v := 0) hx hb d_MD_read_402 (by decide) ?_
      refine va_put (D := D) (ci := iMD) (v := .int 0) (ty := .int) (C := R_MD) (T := F_MD) (N := 23) hx hb (fl_MD hg) (fun _ h9 => h9) t_MD t_MD_ok n_MD hown hK hP hD hS 0 (hM.1) rfl 2 (by decide) (hg _ k_558) (fun _ h9 => h9) rfl (by decide +kernel) rfl rfl (Nat.le_of_ble_eq_true rfl) d_MD_read_403 (fun H locs hP hD hS => ?_)
      obtain ⟨w_5, ew_5⟩ : ∃ y : va_W, y = wx.set 0 (μ 0, .inr (iMD, md_o μ (upd (upd (upd x 0 0) 3 (nI nt)) 1 0))) := ⟨_, rfl⟩
      replace hP : va_P D classes w_5 H := by rw [ew_5]; exact hP
      replace hD : va_D (va_A ws sz) w_5 := by rw [ew_5]; exact hD
      replace hM : md_I cI cJ cZ w_5 μ (upd (upd (upd x 0 0) 3 (nI nt)) 1 0) (cb_upr A 2 T) B := by rw [ew_5]; exact md_I.obj (x := (upd (upd x 0 0) 3 (nI nt))) (x' := upd (upd (upd x 0 0) 3 (nI nt)) 1 0) hM
      refine lv_iload hx hb d_MD_read_406 (lv_at hl 0 rfl) ?_
      refine lv_if_lt (tgt := 416) hx hb d_MD_read_408 (by decide) (fun c_408 => absurd c_408 (by rw [hx1]; exact nI_pos (by omega))) (fun c_408 => ?_)
      refine lv_iconst (v := (-1)) hx hb d_MD_read_411 (by decide) ?_
      refine lv_iload hx hb d_MD_read_412 (lv_at hl 0 rfl) ?_
      refine lv_isub hx hb d_MD_read_414 ?_
      exact gx_iret hx hb hr hlocks rfl hS hP hD (by decide) (by decide) d_MD_read_415 (Or.inl ⟨n, Nat.le_refl n, by rw [hx1], _, hend, _, _, hM, rfl, rfl, rfl, rfl, rfl, fun k hk => by unfold cb_upr; rw [if_neg hk], hT24⟩)
  refine lv_aload_n hx hb d_MD_read_0 rfl (lv_at hl 0 rfl) ?_
  refine lv_iconst (v := 0) hx hb d_MD_read_1 (by decide) ?_
  refine va_put (D := D) (ci := iMD) (v := .int 0) (ty := .int) (C := R_MD) (T := F_MD) (N := 23) hx hb (fl_MD hg) (fun _ h9 => h9) t_MD t_MD_ok n_MD hown hK hP hD hS 0 (hM.1) rfl 0 (by decide) (hg _ k_556) (fun _ h9 => h9) rfl (by decide +kernel) rfl rfl (Nat.le_of_ble_eq_true rfl) d_MD_read_2 (fun H locs hP hD hS => ?_)
  obtain ⟨w_6, ew_6⟩ : ∃ y : va_W, y = ws.set 0 (μ 0, .inr (iMD, md_o μ (upd x 0 0))) := ⟨_, rfl⟩
  replace hP : va_P D classes w_6 H := by rw [ew_6]; exact hP
  replace hD : va_D (va_A ws sz) w_6 := by rw [ew_6]; exact hD
  replace hM : md_I cI cJ cZ w_6 μ (upd x 0 0) A B := by rw [ew_6]; exact md_I.obj (x := x) (x' := upd x 0 0) hM
  refine lv_aload_n hx hb d_MD_read_5 rfl (lv_at hl 0 rfl) ?_
  refine lv_aload_n hx hb d_MD_read_6 rfl (lv_at hl 0 rfl) ?_
  refine va_get (D := D) (ci := iMD) (v := .int (x 2)) (C := R_MD) (T := F_MD) (N := 23) hx hb (fl_MD hg) (fun _ h9 => h9) hown hK hP 0 (hM.1) rfl 3 (by decide) (hg _ k_559) (fun _ h9 => h9) rfl d_MD_read_7 ?_
  refine va_put (D := D) (ci := iMD) (v := .int (x 2)) (ty := .int) (C := R_MD) (T := F_MD) (N := 23) hx hb (fl_MD hg) (fun _ h9 => h9) t_MD t_MD_ok n_MD hown hK hP hD hS 0 (hM.1) rfl 5 (by decide) (hg _ k_561) (fun _ h9 => h9) rfl (by decide +kernel) rfl rfl (Nat.le_of_ble_eq_true rfl) d_MD_read_10 (fun H locs hP hD hS => ?_)
  obtain ⟨w_7, ew_7⟩ : ∃ y : va_W, y = w_6.set 0 (μ 0, .inr (iMD, md_o μ (upd (upd x 0 0) 3 (x 2)))) := ⟨_, rfl⟩
  replace hP : va_P D classes w_7 H := by rw [ew_7]; exact hP
  replace hD : va_D (va_A ws sz) w_7 := by rw [ew_7]; exact hD
  replace hM : md_I cI cJ cZ w_7 μ (upd (upd x 0 0) 3 (x 2)) A B := by rw [ew_7]; exact md_I.obj (x := (upd x 0 0)) (x' := upd (upd x 0 0) 3 (x 2)) hM
  refine lv_iconst (v := 0) hx hb d_MD_read_13 (by decide) ?_
  refine lv_istore_n (lv' := [(1, .int 0), (0, .ref (μ 0))]) hx hb d_MD_read_14 rfl hl (by decide) rfl (fun ls hl => ?_)
  have loop0 : ∀ (nn : Nat) (i : Nat) (wx : va_W) (H : Heap) (locs : List Loc) (ls : Array Slot) (hi : i ≤ 24) (hf : 25 ≤ i + nn) (hM : md_I cI cJ cZ wx μ (upd (upd x 0 0) 3 (x 2)) (cb_upr A 2 (md_cp (A 2) i)) B) (hP : va_P D classes wx H) (hD : va_D (va_A ws sz) wx) (hS : va_S (va_A ws sz) s.heap H locs) (hl : lv_has ls 12 [(1, .int (nI i)), (0, .ref (μ 0))]), W p l e ({ frames := 1, cells := 0, slots := 0, locals := 40 } : Room) s m ([.ref (μ 0)] : List Value).toArray below meth c H locs 0 0 (MQ below (va_Qi (fun r w1 => (∃ q, q ≤ n ∧ r = -1 - nI q ∧ ∃ s9, md_end (A 1) n (0, 0, 0, 0, mw, md_cp (A 2) 24) (some q) s9 ∧ ∃ (x9 : Nat → Int32) (A9 : Nat → Nat → Int32), md_I cI cJ cZ w1 μ x9 A9 B ∧ x9 0 = 0 ∧ x9 1 = 0 ∧ x9 2 = x 2 ∧ x9 4 = x 4 ∧ x9 5 = x 5 ∧ (∀ k, k ≠ 2 → A9 k = A k) ∧ ∀ j, j < 24 → A9 2 j = A 2 j) ∨ (∃ s9 : md_S, md_end (A 1) n (0, 0, 0, 0, mw, md_cp (A 2) 24) none s9 ∧ r = nI s9.1 ∧ s9.2.2.2.2.1 < 64 ∧ ∃ (x9 : Nat → Int32) (A9 : Nat → Nat → Int32), md_I cI cJ cZ w1 μ x9 A9 B ∧ x9 0 = 0 ∧ x9 1 = 0 ∧ x9 2 = nI s9.2.2.2.2.1 ∧ x9 4 = x 4 ∧ x9 5 = x 5 ∧ (∀ k, k ≠ 2 → A9 k = A k) ∧ ∀ j, j < 24 → A9 2 j = s9.2.2.2.2.2 (24 + j))) (gx_B D classes ws sz) (va_A ws sz)) ([.ref (μ 0)] : List Value).toArray s 0 0 (va_A ws sz)) (F0 m 15 ls []) := by
    intro nn
    induction nn with
    | zero =>
      intro i wx H locs ls hi hf hM hP hD hS hl
      exact absurd hf (by omega)
    | succ nn ih =>
      intro i wx H locs ls hi hf hM hP hD hS hl
      refine lv_iload_n hx hb d_MD_read_15 rfl (lv_at hl 0 rfl) ?_
      refine lv_bipush (v := 24) hx hb d_MD_read_16 (by decide) ?_
      refine lv_icmp_ge (tgt := 42) hx hb d_MD_read_18 (by decide) (fun c_18 => ?_) (fun c_18 => ?_)
      · skip
        have hi24 : i = 24 := by have := gx_ngt (a := 24) c_18; omega
        rw [hi24] at hM
        refine lv_iconst (v := 0) hx hb d_MD_read_42 (by decide) ?_
        refine lv_istore_n (lv' := [(1, .int 0), (0, .ref (μ 0))]) hx hb d_MD_read_43 rfl hl (by decide) rfl (fun ls hl => ?_)
        refine lv_iconst (v := 0) hx hb d_MD_read_44 (by decide) ?_
        refine lv_istore_n (lv' := [(2, .int 0), (1, .int 0), (0, .ref (μ 0))]) hx hb d_MD_read_45 rfl hl (by decide) rfl (fun ls hl => ?_)
        refine lv_iconst (v := 0) hx hb d_MD_read_46 (by decide) ?_
        refine lv_istore_n (lv' := [(3, .int 0), (2, .int 0), (1, .int 0), (0, .ref (μ 0))]) hx hb d_MD_read_47 rfl hl (by decide) rfl (fun ls hl => ?_)
        refine lv_iconst (v := 0) hx hb d_MD_read_48 (by decide) ?_
        refine lv_istore (lv' := [(4, .int 0), (3, .int 0), (2, .int 0), (1, .int 0), (0, .ref (μ 0))]) hx hb d_MD_read_49 hl (by decide) rfl (fun ls hl => ?_)
        refine lv_aload_n hx hb d_MD_read_51 rfl (lv_at hl 4 rfl) ?_
        refine va_get (D := D) (ci := iMD) (v := .int (x 1)) (C := R_MD) (T := F_MD) (N := 23) hx hb (fl_MD hg) (fun _ h9 => h9) hown hK hP 0 (hM.1) rfl 2 (by decide) (hg _ k_558) (fun _ h9 => h9) rfl d_MD_read_52 ?_
        refine lv_if_ne (tgt := 62) hx hb d_MD_read_55 (by decide) (fun c_55 => ?_) (fun c_55 => ?_)
        · skip
          have hnp : 0 < n := by
            rcases Nat.eq_zero_or_pos n with z | z
            · exact absurd (show x 1 = 0 by rw [hx1, z]; rfl) c_55
            · exact z
          refine lv_iconst (v := (-1)) hx hb d_MD_read_62 (by decide) ?_
          refine lv_istore (lv' := [(5, .int (-1)), (4, .int 0), (3, .int 0), (2, .int 0), (1, .int 0), (0, .ref (μ 0))]) hx hb d_MD_read_63 hl (by decide) rfl (fun ls hl => ?_)
          refine lv_iconst (v := 0) hx hb d_MD_read_65 (by decide) ?_
          refine lv_istore (lv' := [(6, .int 0), (5, .int (-1)), (4, .int 0), (3, .int 0), (2, .int 0), (1, .int 0), (0, .ref (μ 0))]) hx hb d_MD_read_66 hl (by decide) rfl (fun ls hl => ?_)
          have loopm : ∀ (nn : Nat) (p9 : Nat) (rows st dg kd nt : Nat) (T : Nat → Int32) (wx : va_W) (H : Heap) (locs : List Loc) (ls : Array Slot) (hp9 : p9 ≤ n) (hf : n + 1 ≤ p9 + nn) (hst : st ≤ 5 ∧ st ≠ 1) (hdg : dg ≤ 6) (hkd : kd < 6) (hnt : nt < 64) (hrw : rows ≤ p9) (hT24 : ∀ j, j < 24 → T j = A 2 j) (hgo : md_go (A 1) 0 p9 (0, 0, 0, 0, mw, md_cp (A 2) 24) (rows, st, dg, kd, nt, T)) (hM : md_I cI cJ cZ wx μ (upd (upd x 0 0) 3 (nI nt)) (cb_upr A 2 T) B) (hP : va_P D classes wx H) (hD : va_D (va_A ws sz) wx) (hS : va_S (va_A ws sz) s.heap H locs) (hl : lv_has ls 12 [(6, .int (nI p9)), (5, .int (-1)), (1, .int (nI rows)), (2, .int (nI st)), (3, .int (nI dg)), (4, .int (nI kd)), (0, .ref (μ 0))]), W p l e ({ frames := 1, cells := 0, slots := 0, locals := 40 } : Room) s m ([.ref (μ 0)] : List Value).toArray below meth c H locs 0 0 (MQ below (va_Qi (fun r w1 => (∃ q, q ≤ n ∧ r = -1 - nI q ∧ ∃ s9, md_end (A 1) n (0, 0, 0, 0, mw, md_cp (A 2) 24) (some q) s9 ∧ ∃ (x9 : Nat → Int32) (A9 : Nat → Nat → Int32), md_I cI cJ cZ w1 μ x9 A9 B ∧ x9 0 = 0 ∧ x9 1 = 0 ∧ x9 2 = x 2 ∧ x9 4 = x 4 ∧ x9 5 = x 5 ∧ (∀ k, k ≠ 2 → A9 k = A k) ∧ ∀ j, j < 24 → A9 2 j = A 2 j) ∨ (∃ s9 : md_S, md_end (A 1) n (0, 0, 0, 0, mw, md_cp (A 2) 24) none s9 ∧ r = nI s9.1 ∧ s9.2.2.2.2.1 < 64 ∧ ∃ (x9 : Nat → Int32) (A9 : Nat → Nat → Int32), md_I cI cJ cZ w1 μ x9 A9 B ∧ x9 0 = 0 ∧ x9 1 = 0 ∧ x9 2 = nI s9.2.2.2.2.1 ∧ x9 4 = x 4 ∧ x9 5 = x 5 ∧ (∀ k, k ≠ 2 → A9 k = A k) ∧ ∀ j, j < 24 → A9 2 j = s9.2.2.2.2.2 (24 + j))) (gx_B D classes ws sz) (va_A ws sz)) ([.ref (μ 0)] : List Value).toArray s 0 0 (va_A ws sz)) (F0 m 68 ls []) := by
            intro nn
            induction nn with
            | zero =>
              intro p9 rows st dg kd nt T wx H locs ls hp9 hf hst hdg hkd hnt hrw hT24 hgo hM hP hD hS hl
              exact absurd hf (by omega)
            | succ nn ih =>
              intro p9 rows st dg kd nt T wx H locs ls hp9 hf hst hdg hkd hnt hrw hT24 hgo hM hP hD hS hl
              refine lv_iload hx hb d_MD_read_68 (lv_at hl 0 rfl) ?_
              refine lv_aload_n hx hb d_MD_read_70 rfl (lv_at hl 6 rfl) ?_
              refine va_get (D := D) (ci := iMD) (v := .int (x 1)) (C := R_MD) (T := F_MD) (N := 23) hx hb (fl_MD hg) (fun _ h9 => h9) hown hK hP 0 (hM.1) rfl 2 (by decide) (hg _ k_558) (fun _ h9 => h9) rfl d_MD_read_71 ?_
              refine lv_icmp_ge (tgt := 386) hx hb d_MD_read_74 (by decide) (fun c_74 => ?_) (fun c_74 => ?_)
              · skip
                rw [hx1] at c_74
                have hpn : p9 = n := by have := gx_ngt c_74; omega
                by_cases h0 : st = 0
                · exact st386 rows st dg kd nt T _ _ _ _ ls (Or.inr (Or.inl ⟨rfl, h0, hnt, Or.inr ⟨hnp, Or.inl ⟨rfl, by rw [← hpn]; exact hgo, h0⟩⟩⟩)) hT24 hM hP hD hS (lv_sub hl [1, 3, 2, 6] rfl)
                · exact st386 rows st dg kd nt T _ _ _ _ ls (Or.inr (Or.inr ⟨rfl, h0, hst.1, Or.inr ⟨hnp, Or.inr (Or.inl ⟨rfl, by rw [← hpn]; exact hgo, h0⟩)⟩⟩)) hT24 hM hP hD hS (lv_sub hl [1, 3, 2, 6] rfl)
              · skip
                rw [hx1] at c_74
                have hlt : p9 < n := gx_nlt c_74
                refine lv_iload hx hb d_MD_read_77 (lv_at hl 1 rfl) ?_
                refine lv_if_ge (tgt := 386) hx hb d_MD_read_79 (by decide) (fun c_79 => absurd c_79 (by decide)) (fun c_79 => ?_)
                skip
                have st161 : ∀ (wh dt : Int32) (mo : Nat) (ls : Array Slot) (hmo : mo = md_most st) (hdt : (dt = 1 ∧ ¬ A 1 p9 < 48 ∧ ¬ 57 < A 1 p9) ∨ (dt = 0 ∧ (A 1 p9 < 48 ∨ 57 < A 1 p9))) (hwh : (wh = 1 ∧ md_whl st dg kd T) ∨ (wh = 0 ∧ ¬ md_whl st dg kd T)) (hl : lv_has ls 12 [(10, .int wh), (9, .int (nI mo)), (8, .int dt), (7, .int (A 1 p9)), (6, .int (nI p9)), (5, .int (-1)), (1, .int (nI rows)), (2, .int (nI st)), (3, .int (nI dg)), (4, .int (nI kd)), (0, .ref (μ 0))]), W p l e ({ frames := 1, cells := 0, slots := 0, locals := 40 } : Room) s m ([.ref (μ 0)] : List Value).toArray below meth c H locs 0 0 (MQ below (va_Qi (fun r w1 => (∃ q, q ≤ n ∧ r = -1 - nI q ∧ ∃ s9, md_end (A 1) n (0, 0, 0, 0, mw, md_cp (A 2) 24) (some q) s9 ∧ ∃ (x9 : Nat → Int32) (A9 : Nat → Nat → Int32), md_I cI cJ cZ w1 μ x9 A9 B ∧ x9 0 = 0 ∧ x9 1 = 0 ∧ x9 2 = x 2 ∧ x9 4 = x 4 ∧ x9 5 = x 5 ∧ (∀ k, k ≠ 2 → A9 k = A k) ∧ ∀ j, j < 24 → A9 2 j = A 2 j) ∨ (∃ s9 : md_S, md_end (A 1) n (0, 0, 0, 0, mw, md_cp (A 2) 24) none s9 ∧ r = nI s9.1 ∧ s9.2.2.2.2.1 < 64 ∧ ∃ (x9 : Nat → Int32) (A9 : Nat → Nat → Int32), md_I cI cJ cZ w1 μ x9 A9 B ∧ x9 0 = 0 ∧ x9 1 = 0 ∧ x9 2 = nI s9.2.2.2.2.1 ∧ x9 4 = x 4 ∧ x9 5 = x 5 ∧ (∀ k, k ≠ 2 → A9 k = A k) ∧ ∀ j, j < 24 → A9 2 j = s9.2.2.2.2.2 (24 + j))) (gx_B D classes ws sz) (va_A ws sz)) ([.ref (μ 0)] : List Value).toArray s 0 0 (va_A ws sz)) (F0 m 161 ls []) := by
                  intro wh dt mo ls hmo hdt hwh hl
                  refine lv_iload_n hx hb d_MD_read_161 rfl (lv_at hl 7 rfl) ?_
                  refine lv_if_ne (tgt := 265) hx hb d_MD_read_162 (by decide) (fun c_162 => ?_) (fun c_162 => ?_)
                  · skip
                    have hs0 : ¬ st = 0 := fun z => c_162 (by rw [z]; rfl)
                    have hs2 : 2 ≤ st := by omega
                    have hnL : ¬ md_isL (A 1 p9) st := fun z => hs0 z.1
                    refine lv_iload_n hx hb d_MD_read_265 rfl (lv_at hl 7 rfl) ?_
                    refine lv_iconst (v := 2) hx hb d_MD_read_266 (by decide) ?_
                    refine lv_icmp_lt (tgt := 331) hx hb d_MD_read_267 (by decide) (fun c_267 => absurd (gx_ltn (b := 2) c_267) (by omega)) (fun c_267 => ?_)
                    refine lv_iload hx hb d_MD_read_270 (lv_at hl 2 rfl) ?_
                    refine lv_if_eq (tgt := 331) hx hb d_MD_read_272 (by decide) (fun c_272 => ?_) (fun c_272 => ?_)
                    · skip
                      have hnD : ¬ md_isD (A 1 p9) st dg := fun z => hdt.elim (fun q => by rw [q.1] at c_272; exact absurd c_272 (by decide)) (fun q => q.2.elim z.2.1.1 z.2.1.2)
                      refine lv_iload hx hb d_MD_read_331 (lv_at hl 0 rfl) ?_
                      refine lv_if_eq (tgt := 356) hx hb d_MD_read_333 (by decide) (fun c_333 => ?_) (fun c_333 => ?_)
                      · skip
                        have hnW : ¬ md_whl st dg kd T := hwh.elim (fun q => absurd (q.1.symm.trans c_333) (by decide)) (fun q => q.2)
                        have hbad : md_wrg (A 1 p9) (rows, st, dg, kd, nt, T) := ⟨hnL, hnD, Or.inl hnW⟩
                        refine lv_iload hx hb d_MD_read_356 (lv_at hl 0 rfl) ?_
                        refine lv_if_eq (tgt := 376) hx hb d_MD_read_358 (by decide) (fun c_358 => ?_) (fun c_358 => absurd c_333 c_358)
                        refine lv_iload hx hb d_MD_read_376 (lv_at hl 4 rfl) ?_
                        refine lv_istore (lv' := [(5, .int (nI p9)), (10, .int wh), (9, .int (nI mo)), (8, .int dt), (7, .int (A 1 p9)), (6, .int (nI p9)), (1, .int (nI rows)), (2, .int (nI st)), (3, .int (nI dg)), (4, .int (nI kd)), (0, .ref (μ 0))]) hx hb d_MD_read_378 hl (by decide) rfl (fun ls hl => ?_)
                        refine lv_iinc (v := nI (p9 + 1)) (lv' := [(6, .int (nI (p9 + 1))), (5, .int (nI p9)), (10, .int wh), (9, .int (nI mo)), (8, .int dt), (7, .int (A 1 p9)), (1, .int (nI rows)), (2, .int (nI st)), (3, .int (nI dg)), (4, .int (nI kd)), (0, .ref (μ 0))]) hx hb d_MD_read_380 hl (k := 5) rfl (by rw [lit1]; exact nI_1 _) (by decide) rfl (fun ls hl => ?_)
                        refine lv_goto (tgt := 68) hx hb d_MD_read_383 (by decide) ?_
                        refine lv_iload hx hb d_MD_read_68 (lv_at hl 0 rfl) ?_
                        refine lv_aload_n hx hb d_MD_read_70 rfl (lv_at hl 10 rfl) ?_
                        refine va_get (D := D) (ci := iMD) (v := .int (x 1)) (C := R_MD) (T := F_MD) (N := 23) hx hb (fl_MD hg) (fun _ h9 => h9) hown hK hP 0 (hM.1) rfl 2 (by decide) (hg _ k_558) (fun _ h9 => h9) rfl d_MD_read_71 ?_
                        refine lv_icmp_ge (tgt := 386) hx hb d_MD_read_74 (by decide) (fun c_74 => ?_) (fun c_74 => ?_)
                        · skip
                          exact st386 rows st dg kd nt T _ _ _ _ ls (Or.inl ⟨p9, hp9, rfl, _, Or.inr ⟨by omega, Or.inr (Or.inr ⟨p9, hlt, rfl, hgo, hbad⟩)⟩⟩) hT24 hM hP hD hS (lv_sub hl [1, 7, 6, 10] rfl)
                        · skip
                          refine lv_iload hx hb d_MD_read_77 (lv_at hl 1 rfl) ?_
                          refine lv_if_ge (tgt := 386) hx hb d_MD_read_79 (by decide) (fun c_79 => ?_) (fun c_79 => absurd (nI_pos' (by omega)) c_79)
                          exact st386 rows st dg kd nt T _ _ _ _ ls (Or.inl ⟨p9, hp9, rfl, _, Or.inr ⟨by omega, Or.inr (Or.inr ⟨p9, hlt, rfl, hgo, hbad⟩)⟩⟩) hT24 hM hP hD hS (lv_sub hl [1, 7, 6, 10] rfl)
                      · skip
                        have hW9 : md_whl st dg kd T := hwh.elim (fun q => q.2) (fun q => absurd q.1 c_333)
                        refine lv_iload hx hb d_MD_read_336 (lv_at hl 3 rfl) ?_
                        refine gx_readi (va_runS (As := [.int (A 1 p9)]) (rest := []) ⟨hx, hb, hml, hown, gx_nil⟩ (c_MD_begins F _ _ _) ⟨gx_cb (hg _ k_650) (hg _ k_7) (hg _ k_648) nd_MD_begins ⟨by decide, by decide⟩, hg _ k_649⟩ (gx_preS hV hP hD hS hA0) rfl rfl hl.1 rfl (lv_room (Nat.le_of_ble_eq_true rfl)) d_MD_read_338 ⟨by decide, by decide⟩) (fun r_338 h_338 => ?_)
                        rw [md_bg_eq] at h_338
                        subst h_338
                        refine lv_iload_n hx hb d_MD_read_341 rfl (lv_at hl 7 rfl) ?_
                        refine lv_icmp_le (tgt := 356) hx hb d_MD_read_342 (by decide) (fun c_342 => ?_) (fun c_342 => ?_)
                        · skip
                          have hnb : ¬ st < md_bgN (A 1 p9) := by have h8 := hbg9 (A 1 p9); have := gx_ngt c_342 (by omega); omega
                          refine lv_iload hx hb d_MD_read_356 (lv_at hl 0 rfl) ?_
                          refine lv_if_eq (tgt := 376) hx hb d_MD_read_358 (by decide) (fun c_358 => absurd c_358 c_333) (fun c_358 => ?_)
                          refine lv_iload hx hb d_MD_read_361 (lv_at hl 3 rfl) ?_
                          refine lv_bipush (v := 59) hx hb d_MD_read_363 (by decide) ?_
                          refine lv_icmp_ne (tgt := 376) hx hb d_MD_read_365 (by decide) (fun c_365 => ?_) (fun c_365 => ?_)
                          · skip
                            have hbad : md_wrg (A 1 p9) (rows, st, dg, kd, nt, T) := ⟨hnL, hnD, Or.inr ⟨hnb, c_365⟩⟩
                            refine lv_iload hx hb d_MD_read_376 (lv_at hl 4 rfl) ?_
                            refine lv_istore (lv' := [(5, .int (nI p9)), (10, .int wh), (9, .int (nI mo)), (8, .int dt), (7, .int (A 1 p9)), (6, .int (nI p9)), (1, .int (nI rows)), (2, .int (nI st)), (3, .int (nI dg)), (4, .int (nI kd)), (0, .ref (μ 0))]) hx hb d_MD_read_378 hl (by decide) rfl (fun ls hl => ?_)
                            refine lv_iinc (v := nI (p9 + 1)) (lv' := [(6, .int (nI (p9 + 1))), (5, .int (nI p9)), (10, .int wh), (9, .int (nI mo)), (8, .int dt), (7, .int (A 1 p9)), (1, .int (nI rows)), (2, .int (nI st)), (3, .int (nI dg)), (4, .int (nI kd)), (0, .ref (μ 0))]) hx hb d_MD_read_380 hl (k := 5) rfl (by rw [lit1]; exact nI_1 _) (by decide) rfl (fun ls hl => ?_)
                            refine lv_goto (tgt := 68) hx hb d_MD_read_383 (by decide) ?_
                            refine lv_iload hx hb d_MD_read_68 (lv_at hl 0 rfl) ?_
                            refine lv_aload_n hx hb d_MD_read_70 rfl (lv_at hl 10 rfl) ?_
                            refine va_get (D := D) (ci := iMD) (v := .int (x 1)) (C := R_MD) (T := F_MD) (N := 23) hx hb (fl_MD hg) (fun _ h9 => h9) hown hK hP 0 (hM.1) rfl 2 (by decide) (hg _ k_558) (fun _ h9 => h9) rfl d_MD_read_71 ?_
                            refine lv_icmp_ge (tgt := 386) hx hb d_MD_read_74 (by decide) (fun c_74 => ?_) (fun c_74 => ?_)
                            · skip
                              exact st386 rows st dg kd nt T _ _ _ _ ls (Or.inl ⟨p9, hp9, rfl, _, Or.inr ⟨by omega, Or.inr (Or.inr ⟨p9, hlt, rfl, hgo, hbad⟩)⟩⟩) hT24 hM hP hD hS (lv_sub hl [1, 7, 6, 10] rfl)
                            · skip
                              refine lv_iload hx hb d_MD_read_77 (lv_at hl 1 rfl) ?_
                              refine lv_if_ge (tgt := 386) hx hb d_MD_read_79 (by decide) (fun c_79 => ?_) (fun c_79 => absurd (nI_pos' (by omega)) c_79)
                              exact st386 rows st dg kd nt T _ _ _ _ ls (Or.inl ⟨p9, hp9, rfl, _, Or.inr ⟨by omega, Or.inr (Or.inr ⟨p9, hlt, rfl, hgo, hbad⟩)⟩⟩) hT24 hM hP hD hS (lv_sub hl [1, 7, 6, 10] rfl)
                          · skip
                            refine lv_iinc (v := nI (rows + 1)) (lv' := [(1, .int (nI (rows + 1))), (10, .int wh), (9, .int (nI mo)), (8, .int dt), (7, .int (A 1 p9)), (6, .int (nI p9)), (5, .int (-1)), (2, .int (nI st)), (3, .int (nI dg)), (4, .int (nI kd)), (0, .ref (μ 0))]) hx hb d_MD_read_368 hl (k := 6) rfl (by rw [lit1]; exact nI_1 _) (by decide) rfl (fun ls hl => ?_)
                            refine lv_iconst (v := 0) hx hb d_MD_read_371 (by decide) ?_
                            refine lv_istore_n (lv' := [(2, .int 0), (1, .int (nI (rows + 1))), (10, .int wh), (9, .int (nI mo)), (8, .int dt), (7, .int (A 1 p9)), (6, .int (nI p9)), (5, .int (-1)), (3, .int (nI dg)), (4, .int (nI kd)), (0, .ref (μ 0))]) hx hb d_MD_read_372 rfl hl (by decide) rfl (fun ls hl => ?_)
                            have hstep : md_stp (A 1 (0 + p9)) (rows, st, dg, kd, nt, T) (rows + 1, 0, dg, kd, nt, T) := by
                              rw [Nat.zero_add]
                              exact Or.inr (Or.inr (Or.inr ⟨hnL, hnD, hW9, hnb, c_365, rfl⟩))
                            refine lv_goto (tgt := 380) hx hb d_MD_read_373 (by decide) ?_
                            refine lv_iinc (v := nI (p9 + 1)) (lv' := [(6, .int (nI (p9 + 1))), (2, .int 0), (1, .int (nI (rows + 1))), (10, .int wh), (9, .int (nI mo)), (8, .int dt), (7, .int (A 1 p9)), (5, .int (-1)), (3, .int (nI dg)), (4, .int (nI kd)), (0, .ref (μ 0))]) hx hb d_MD_read_380 hl (k := 6) rfl (by rw [lit1]; exact nI_1 _) (by decide) rfl (fun ls hl => ?_)
                            refine lv_goto (tgt := 68) hx hb d_MD_read_383 (by decide) ?_
                            exact ih (p9 + 1) (rows + 1) 0 dg kd nt T _ _ _ ls (by omega) (by omega) (by decide) hdg hkd hnt (by omega) hT24 ⟨_, hgo, hstep⟩ hM hP hD hS (lv_sub hl [0, 7, 2, 1, 8, 9, 10] rfl)
                        · skip
                          have hb9 : st < md_bgN (A 1 p9) := by have h8 := hbg9 (A 1 p9); exact gx_nlt c_342 (by omega)
                          refine lv_iload hx hb d_MD_read_345 (lv_at hl 3 rfl) ?_
                          refine gx_readi (va_runS (As := [.int (A 1 p9)]) (rest := []) ⟨hx, hb, hml, hown, gx_nil⟩ (c_MD_begins F _ _ _) ⟨gx_cb (hg _ k_650) (hg _ k_7) (hg _ k_648) nd_MD_begins ⟨by decide, by decide⟩, hg _ k_649⟩ (gx_preS hV hP hD hS hA0) rfl rfl hl.1 rfl (lv_room (Nat.le_of_ble_eq_true rfl)) d_MD_read_347 ⟨by decide, by decide⟩) (fun r_347 h_347 => ?_)
                          rw [md_bg_eq] at h_347
                          subst h_347
                          refine lv_istore_n (lv' := [(2, .int (nI (md_bgN (A 1 p9)))), (10, .int wh), (9, .int (nI mo)), (8, .int dt), (7, .int (A 1 p9)), (6, .int (nI p9)), (5, .int (-1)), (1, .int (nI rows)), (3, .int (nI dg)), (4, .int (nI kd)), (0, .ref (μ 0))]) hx hb d_MD_read_350 rfl hl (by decide) rfl (fun ls hl => ?_)
                          refine lv_iconst (v := 0) hx hb d_MD_read_351 (by decide) ?_
                          refine lv_istore_n (lv' := [(3, .int 0), (2, .int (nI (md_bgN (A 1 p9)))), (10, .int wh), (9, .int (nI mo)), (8, .int dt), (7, .int (A 1 p9)), (6, .int (nI p9)), (5, .int (-1)), (1, .int (nI rows)), (4, .int (nI kd)), (0, .ref (μ 0))]) hx hb d_MD_read_352 rfl hl (by decide) rfl (fun ls hl => ?_)
                          have hstep : md_stp (A 1 (0 + p9)) (rows, st, dg, kd, nt, T) (rows, md_bgN (A 1 p9), 0, kd, nt, T) := by
                            rw [Nat.zero_add]
                            exact Or.inr (Or.inr (Or.inl ⟨hnL, hnD, hW9, hb9, rfl⟩))
                          refine lv_goto (tgt := 380) hx hb d_MD_read_353 (by decide) ?_
                          refine lv_iinc (v := nI (p9 + 1)) (lv' := [(6, .int (nI (p9 + 1))), (3, .int 0), (2, .int (nI (md_bgN (A 1 p9)))), (10, .int wh), (9, .int (nI mo)), (8, .int dt), (7, .int (A 1 p9)), (5, .int (-1)), (1, .int (nI rows)), (4, .int (nI kd)), (0, .ref (μ 0))]) hx hb d_MD_read_380 hl (k := 6) rfl (by rw [lit1]; exact nI_1 _) (by decide) rfl (fun ls hl => ?_)
                          refine lv_goto (tgt := 68) hx hb d_MD_read_383 (by decide) ?_
                          exact ih (p9 + 1) rows (md_bgN (A 1 p9)) 0 kd nt T _ _ _ ls (by omega) (by omega) (md_bgN_le _) (by decide) hkd hnt (by omega) hT24 ⟨_, hgo, hstep⟩ hM hP hD hS (lv_sub hl [0, 7, 8, 2, 1, 9, 10] rfl)
                    · skip
                      have hD9 : ¬ A 1 p9 < 48 ∧ ¬ 57 < A 1 p9 := hdt.elim (fun q => q.2) (fun q => absurd q.1 c_272)
                      refine lv_iload_n hx hb d_MD_read_275 rfl (lv_at hl 8 rfl) ?_
                      refine lv_iload hx hb d_MD_read_276 (lv_at hl 1 rfl) ?_
                      refine lv_icmp_ge (tgt := 331) hx hb d_MD_read_278 (by decide) (fun c_278 => ?_) (fun c_278 => ?_)
                      · skip
                        have hnD : ¬ md_isD (A 1 p9) st dg := fun z => absurd z.2.2 (by have h8 := hmo9 hmo; have := gx_ngt c_278 (by omega); omega)
                        refine lv_iload hx hb d_MD_read_331 (lv_at hl 0 rfl) ?_
                        refine lv_if_eq (tgt := 356) hx hb d_MD_read_333 (by decide) (fun c_333 => ?_) (fun c_333 => ?_)
                        · skip
                          have hnW : ¬ md_whl st dg kd T := hwh.elim (fun q => absurd (q.1.symm.trans c_333) (by decide)) (fun q => q.2)
                          have hbad : md_wrg (A 1 p9) (rows, st, dg, kd, nt, T) := ⟨hnL, hnD, Or.inl hnW⟩
                          refine lv_iload hx hb d_MD_read_356 (lv_at hl 0 rfl) ?_
                          refine lv_if_eq (tgt := 376) hx hb d_MD_read_358 (by decide) (fun c_358 => ?_) (fun c_358 => absurd c_333 c_358)
                          refine lv_iload hx hb d_MD_read_376 (lv_at hl 4 rfl) ?_
                          refine lv_istore (lv' := [(5, .int (nI p9)), (10, .int wh), (9, .int (nI mo)), (8, .int dt), (7, .int (A 1 p9)), (6, .int (nI p9)), (1, .int (nI rows)), (2, .int (nI st)), (3, .int (nI dg)), (4, .int (nI kd)), (0, .ref (μ 0))]) hx hb d_MD_read_378 hl (by decide) rfl (fun ls hl => ?_)
                          refine lv_iinc (v := nI (p9 + 1)) (lv' := [(6, .int (nI (p9 + 1))), (5, .int (nI p9)), (10, .int wh), (9, .int (nI mo)), (8, .int dt), (7, .int (A 1 p9)), (1, .int (nI rows)), (2, .int (nI st)), (3, .int (nI dg)), (4, .int (nI kd)), (0, .ref (μ 0))]) hx hb d_MD_read_380 hl (k := 5) rfl (by rw [lit1]; exact nI_1 _) (by decide) rfl (fun ls hl => ?_)
                          refine lv_goto (tgt := 68) hx hb d_MD_read_383 (by decide) ?_
                          refine lv_iload hx hb d_MD_read_68 (lv_at hl 0 rfl) ?_
                          refine lv_aload_n hx hb d_MD_read_70 rfl (lv_at hl 10 rfl) ?_
                          refine va_get (D := D) (ci := iMD) (v := .int (x 1)) (C := R_MD) (T := F_MD) (N := 23) hx hb (fl_MD hg) (fun _ h9 => h9) hown hK hP 0 (hM.1) rfl 2 (by decide) (hg _ k_558) (fun _ h9 => h9) rfl d_MD_read_71 ?_
                          refine lv_icmp_ge (tgt := 386) hx hb d_MD_read_74 (by decide) (fun c_74 => ?_) (fun c_74 => ?_)
                          · skip
                            exact st386 rows st dg kd nt T _ _ _ _ ls (Or.inl ⟨p9, hp9, rfl, _, Or.inr ⟨by omega, Or.inr (Or.inr ⟨p9, hlt, rfl, hgo, hbad⟩)⟩⟩) hT24 hM hP hD hS (lv_sub hl [1, 7, 6, 10] rfl)
                          · skip
                            refine lv_iload hx hb d_MD_read_77 (lv_at hl 1 rfl) ?_
                            refine lv_if_ge (tgt := 386) hx hb d_MD_read_79 (by decide) (fun c_79 => ?_) (fun c_79 => absurd (nI_pos' (by omega)) c_79)
                            exact st386 rows st dg kd nt T _ _ _ _ ls (Or.inl ⟨p9, hp9, rfl, _, Or.inr ⟨by omega, Or.inr (Or.inr ⟨p9, hlt, rfl, hgo, hbad⟩)⟩⟩) hT24 hM hP hD hS (lv_sub hl [1, 7, 6, 10] rfl)
                        · skip
                          have hW9 : md_whl st dg kd T := hwh.elim (fun q => q.2) (fun q => absurd q.1 c_333)
                          refine lv_iload hx hb d_MD_read_336 (lv_at hl 3 rfl) ?_
                          refine gx_readi (va_runS (As := [.int (A 1 p9)]) (rest := []) ⟨hx, hb, hml, hown, gx_nil⟩ (c_MD_begins F _ _ _) ⟨gx_cb (hg _ k_650) (hg _ k_7) (hg _ k_648) nd_MD_begins ⟨by decide, by decide⟩, hg _ k_649⟩ (gx_preS hV hP hD hS hA0) rfl rfl hl.1 rfl (lv_room (Nat.le_of_ble_eq_true rfl)) d_MD_read_338 ⟨by decide, by decide⟩) (fun r_338 h_338 => ?_)
                          rw [md_bg_eq] at h_338
                          subst h_338
                          refine lv_iload_n hx hb d_MD_read_341 rfl (lv_at hl 7 rfl) ?_
                          refine lv_icmp_le (tgt := 356) hx hb d_MD_read_342 (by decide) (fun c_342 => ?_) (fun c_342 => ?_)
                          · skip
                            have hnb : ¬ st < md_bgN (A 1 p9) := by have h8 := hbg9 (A 1 p9); have := gx_ngt c_342 (by omega); omega
                            refine lv_iload hx hb d_MD_read_356 (lv_at hl 0 rfl) ?_
                            refine lv_if_eq (tgt := 376) hx hb d_MD_read_358 (by decide) (fun c_358 => absurd c_358 c_333) (fun c_358 => ?_)
                            refine lv_iload hx hb d_MD_read_361 (lv_at hl 3 rfl) ?_
                            refine lv_bipush (v := 59) hx hb d_MD_read_363 (by decide) ?_
                            refine lv_icmp_ne (tgt := 376) hx hb d_MD_read_365 (by decide) (fun c_365 => ?_) (fun c_365 => ?_)
                            · skip
                              have hbad : md_wrg (A 1 p9) (rows, st, dg, kd, nt, T) := ⟨hnL, hnD, Or.inr ⟨hnb, c_365⟩⟩
                              refine lv_iload hx hb d_MD_read_376 (lv_at hl 4 rfl) ?_
                              refine lv_istore (lv' := [(5, .int (nI p9)), (10, .int wh), (9, .int (nI mo)), (8, .int dt), (7, .int (A 1 p9)), (6, .int (nI p9)), (1, .int (nI rows)), (2, .int (nI st)), (3, .int (nI dg)), (4, .int (nI kd)), (0, .ref (μ 0))]) hx hb d_MD_read_378 hl (by decide) rfl (fun ls hl => ?_)
                              refine lv_iinc (v := nI (p9 + 1)) (lv' := [(6, .int (nI (p9 + 1))), (5, .int (nI p9)), (10, .int wh), (9, .int (nI mo)), (8, .int dt), (7, .int (A 1 p9)), (1, .int (nI rows)), (2, .int (nI st)), (3, .int (nI dg)), (4, .int (nI kd)), (0, .ref (μ 0))]) hx hb d_MD_read_380 hl (k := 5) rfl (by rw [lit1]; exact nI_1 _) (by decide) rfl (fun ls hl => ?_)
                              refine lv_goto (tgt := 68) hx hb d_MD_read_383 (by decide) ?_
                              refine lv_iload hx hb d_MD_read_68 (lv_at hl 0 rfl) ?_
                              refine lv_aload_n hx hb d_MD_read_70 rfl (lv_at hl 10 rfl) ?_
                              refine va_get (D := D) (ci := iMD) (v := .int (x 1)) (C := R_MD) (T := F_MD) (N := 23) hx hb (fl_MD hg) (fun _ h9 => h9) hown hK hP 0 (hM.1) rfl 2 (by decide) (hg _ k_558) (fun _ h9 => h9) rfl d_MD_read_71 ?_
                              refine lv_icmp_ge (tgt := 386) hx hb d_MD_read_74 (by decide) (fun c_74 => ?_) (fun c_74 => ?_)
                              · skip
                                exact st386 rows st dg kd nt T _ _ _ _ ls (Or.inl ⟨p9, hp9, rfl, _, Or.inr ⟨by omega, Or.inr (Or.inr ⟨p9, hlt, rfl, hgo, hbad⟩)⟩⟩) hT24 hM hP hD hS (lv_sub hl [1, 7, 6, 10] rfl)
                              · skip
                                refine lv_iload hx hb d_MD_read_77 (lv_at hl 1 rfl) ?_
                                refine lv_if_ge (tgt := 386) hx hb d_MD_read_79 (by decide) (fun c_79 => ?_) (fun c_79 => absurd (nI_pos' (by omega)) c_79)
                                exact st386 rows st dg kd nt T _ _ _ _ ls (Or.inl ⟨p9, hp9, rfl, _, Or.inr ⟨by omega, Or.inr (Or.inr ⟨p9, hlt, rfl, hgo, hbad⟩)⟩⟩) hT24 hM hP hD hS (lv_sub hl [1, 7, 6, 10] rfl)
                            · skip
                              refine lv_iinc (v := nI (rows + 1)) (lv' := [(1, .int (nI (rows + 1))), (10, .int wh), (9, .int (nI mo)), (8, .int dt), (7, .int (A 1 p9)), (6, .int (nI p9)), (5, .int (-1)), (2, .int (nI st)), (3, .int (nI dg)), (4, .int (nI kd)), (0, .ref (μ 0))]) hx hb d_MD_read_368 hl (k := 6) rfl (by rw [lit1]; exact nI_1 _) (by decide) rfl (fun ls hl => ?_)
                              refine lv_iconst (v := 0) hx hb d_MD_read_371 (by decide) ?_
                              refine lv_istore_n (lv' := [(2, .int 0), (1, .int (nI (rows + 1))), (10, .int wh), (9, .int (nI mo)), (8, .int dt), (7, .int (A 1 p9)), (6, .int (nI p9)), (5, .int (-1)), (3, .int (nI dg)), (4, .int (nI kd)), (0, .ref (μ 0))]) hx hb d_MD_read_372 rfl hl (by decide) rfl (fun ls hl => ?_)
                              have hstep : md_stp (A 1 (0 + p9)) (rows, st, dg, kd, nt, T) (rows + 1, 0, dg, kd, nt, T) := by
                                rw [Nat.zero_add]
                                exact Or.inr (Or.inr (Or.inr ⟨hnL, hnD, hW9, hnb, c_365, rfl⟩))
                              refine lv_goto (tgt := 380) hx hb d_MD_read_373 (by decide) ?_
                              refine lv_iinc (v := nI (p9 + 1)) (lv' := [(6, .int (nI (p9 + 1))), (2, .int 0), (1, .int (nI (rows + 1))), (10, .int wh), (9, .int (nI mo)), (8, .int dt), (7, .int (A 1 p9)), (5, .int (-1)), (3, .int (nI dg)), (4, .int (nI kd)), (0, .ref (μ 0))]) hx hb d_MD_read_380 hl (k := 6) rfl (by rw [lit1]; exact nI_1 _) (by decide) rfl (fun ls hl => ?_)
                              refine lv_goto (tgt := 68) hx hb d_MD_read_383 (by decide) ?_
                              exact ih (p9 + 1) (rows + 1) 0 dg kd nt T _ _ _ ls (by omega) (by omega) (by decide) hdg hkd hnt (by omega) hT24 ⟨_, hgo, hstep⟩ hM hP hD hS (lv_sub hl [0, 7, 2, 1, 8, 9, 10] rfl)
                          · skip
                            have hb9 : st < md_bgN (A 1 p9) := by have h8 := hbg9 (A 1 p9); exact gx_nlt c_342 (by omega)
                            refine lv_iload hx hb d_MD_read_345 (lv_at hl 3 rfl) ?_
                            refine gx_readi (va_runS (As := [.int (A 1 p9)]) (rest := []) ⟨hx, hb, hml, hown, gx_nil⟩ (c_MD_begins F _ _ _) ⟨gx_cb (hg _ k_650) (hg _ k_7) (hg _ k_648) nd_MD_begins ⟨by decide, by decide⟩, hg _ k_649⟩ (gx_preS hV hP hD hS hA0) rfl rfl hl.1 rfl (lv_room (Nat.le_of_ble_eq_true rfl)) d_MD_read_347 ⟨by decide, by decide⟩) (fun r_347 h_347 => ?_)
                            rw [md_bg_eq] at h_347
                            subst h_347
                            refine lv_istore_n (lv' := [(2, .int (nI (md_bgN (A 1 p9)))), (10, .int wh), (9, .int (nI mo)), (8, .int dt), (7, .int (A 1 p9)), (6, .int (nI p9)), (5, .int (-1)), (1, .int (nI rows)), (3, .int (nI dg)), (4, .int (nI kd)), (0, .ref (μ 0))]) hx hb d_MD_read_350 rfl hl (by decide) rfl (fun ls hl => ?_)
                            refine lv_iconst (v := 0) hx hb d_MD_read_351 (by decide) ?_
                            refine lv_istore_n (lv' := [(3, .int 0), (2, .int (nI (md_bgN (A 1 p9)))), (10, .int wh), (9, .int (nI mo)), (8, .int dt), (7, .int (A 1 p9)), (6, .int (nI p9)), (5, .int (-1)), (1, .int (nI rows)), (4, .int (nI kd)), (0, .ref (μ 0))]) hx hb d_MD_read_352 rfl hl (by decide) rfl (fun ls hl => ?_)
                            have hstep : md_stp (A 1 (0 + p9)) (rows, st, dg, kd, nt, T) (rows, md_bgN (A 1 p9), 0, kd, nt, T) := by
                              rw [Nat.zero_add]
                              exact Or.inr (Or.inr (Or.inl ⟨hnL, hnD, hW9, hb9, rfl⟩))
                            refine lv_goto (tgt := 380) hx hb d_MD_read_353 (by decide) ?_
                            refine lv_iinc (v := nI (p9 + 1)) (lv' := [(6, .int (nI (p9 + 1))), (3, .int 0), (2, .int (nI (md_bgN (A 1 p9)))), (10, .int wh), (9, .int (nI mo)), (8, .int dt), (7, .int (A 1 p9)), (5, .int (-1)), (1, .int (nI rows)), (4, .int (nI kd)), (0, .ref (μ 0))]) hx hb d_MD_read_380 hl (k := 6) rfl (by rw [lit1]; exact nI_1 _) (by decide) rfl (fun ls hl => ?_)
                            refine lv_goto (tgt := 68) hx hb d_MD_read_383 (by decide) ?_
                            exact ih (p9 + 1) rows (md_bgN (A 1 p9)) 0 kd nt T _ _ _ ls (by omega) (by omega) (md_bgN_le _) (by decide) hkd hnt (by omega) hT24 ⟨_, hgo, hstep⟩ hM hP hD hS (lv_sub hl [0, 7, 8, 2, 1, 9, 10] rfl)
                      · skip
                        have hdg1 : dg < mo := by have h8 := hmo9 hmo; exact gx_nlt c_278 (by omega)
                        have hdg2 : dg + 1 ≤ 6 := by have := (hmo9 hmo); omega
                        refine lv_bipush (v := 24) hx hb d_MD_read_281 (by decide) ?_
                        refine lv_iconst (v := 4) hx hb d_MD_read_283 (by decide) ?_
                        refine lv_iload hx hb d_MD_read_284 (lv_at hl 9 rfl) ?_
                        refine lv_imul hx hb d_MD_read_286 ?_
                        refine lv_iadd hx hb d_MD_read_287 ?_
                        refine lv_iload_n hx hb d_MD_read_288 rfl (lv_at hl 7 rfl) ?_
                        refine lv_iadd hx hb d_MD_read_289 ?_
                        refine lv_iconst (v := 2) hx hb d_MD_read_290 (by decide) ?_
                        refine lv_isub hx hb d_MD_read_291 ?_
                        rw [show (24 : Int32) + 4 * nI kd + nI st - 2 = nI (24 + 4 * kd + st - 2) from md_at hs2]
                        refine lv_istore (lv' := [(11, .int (nI (24 + 4 * kd + st - 2))), (10, .int wh), (9, .int (nI mo)), (8, .int dt), (7, .int (A 1 p9)), (6, .int (nI p9)), (5, .int (-1)), (1, .int (nI rows)), (2, .int (nI st)), (3, .int (nI dg)), (4, .int (nI kd)), (0, .ref (μ 0))]) hx hb d_MD_read_292 hl (by decide) rfl (fun ls hl => ?_)
                        refine lv_aload_n hx hb d_MD_read_294 rfl (lv_at hl 11 rfl) ?_
                        refine va_get (D := D) (ci := iMD) (v := .ref (μ 2)) (C := R_MD) (T := F_MD) (N := 23) hx hb (fl_MD hg) (fun _ h9 => h9) hown hK hP 0 (hM.1) rfl 4 (by decide) (hg _ k_560) (fun _ h9 => h9) rfl d_MD_read_295 ?_
                        refine lv_iload hx hb d_MD_read_298 (lv_at hl 0 rfl) ?_
                        refine lv_iload_n hx hb d_MD_read_300 rfl (lv_at hl 9 rfl) ?_
                        refine lv_if_ne (tgt := 308) hx hb d_MD_read_301 (by decide) (fun c_301 => ?_) (fun c_301 => ?_)
                        · skip
                          refine lv_bipush (v := 10) hx hb d_MD_read_308 (by decide) ?_
                          refine lv_aload_n hx hb d_MD_read_310 rfl (lv_at hl 11 rfl) ?_
                          refine va_get (D := D) (ci := iMD) (v := .ref (μ 2)) (C := R_MD) (T := F_MD) (N := 23) hx hb (fl_MD hg) (fun _ h9 => h9) hown hK hP 0 (hM.1) rfl 4 (by decide) (hg _ k_560) (fun _ h9 => h9) rfl d_MD_read_311 ?_
                          refine lv_iload hx hb d_MD_read_314 (lv_at hl 0 rfl) ?_
                          refine gx_il (f := T) hx hb hK hP 2 0 (hM.2.1 2 (by decide) (by decide)) rfl (24 + 4 * kd + st - 2) (rfl) (show 24 + 4 * kd + st - 2 < 48 by omega) (by decide) d_MD_read_316 ?_
                          refine lv_imul hx hb d_MD_read_317 ?_
                          refine lv_iload hx hb d_MD_read_318 (lv_at hl 4 rfl) ?_
                          refine lv_iadd hx hb d_MD_read_320 ?_
                          refine lv_bipush (v := 48) hx hb d_MD_read_321 (by decide) ?_
                          refine lv_isub hx hb d_MD_read_323 ?_
                          rw [show ((10 * (T (24 + 4 * kd + st - 2))) + (A 1 p9)) - 48 = (if dg = 0 then 0 else 10 * T (24 + 4 * kd + st - 2)) + A 1 p9 - 48 from by rw [if_neg (fun z => c_301 (by rw [z]; rfl))]]
                          refine gx_is (f := T) hx hb hK hP hD hS 2 0 (hM.2.1 2 (by decide) (by decide)) rfl (24 + 4 * kd + st - 2) (rfl) (show 24 + 4 * kd + st - 2 < 48 by omega) (by decide) d_MD_read_324 (fun H locs hP hD hS => ?_)
                          obtain ⟨w_8, ew_8⟩ : ∃ y : va_W, y = wx.set 2 (μ 2, .inl (cI, md_n 2, .inl (upd T (24 + 4 * kd + st - 2) ((if dg = 0 then 0 else 10 * T (24 + 4 * kd + st - 2)) + A 1 p9 - 48)))) := ⟨_, rfl⟩
                          replace hP : va_P D classes w_8 H := by rw [ew_8]; exact hP
                          replace hD : va_D (va_A ws sz) w_8 := by rw [ew_8]; exact hD
                          replace hM : md_I cI cJ cZ w_8 μ (upd (upd x 0 0) 3 (nI nt)) (cb_upr (cb_upr A 2 T) 2 (upd T (24 + 4 * kd + st - 2) ((if dg = 0 then 0 else 10 * T (24 + 4 * kd + st - 2)) + A 1 p9 - 48))) B := by rw [ew_8]; exact md_I.int (by decide) (by decide) hM
                          refine lv_iinc (v := nI (dg + 1)) (lv' := [(3, .int (nI (dg + 1))), (11, .int (nI (24 + 4 * kd + st - 2))), (10, .int wh), (9, .int (nI mo)), (8, .int dt), (7, .int (A 1 p9)), (6, .int (nI p9)), (5, .int (-1)), (1, .int (nI rows)), (2, .int (nI st)), (4, .int (nI kd)), (0, .ref (μ 0))]) hx hb d_MD_read_325 hl (k := 9) rfl (by rw [lit1]; exact nI_1 _) (by decide) rfl (fun ls hl => ?_)
                          have hstep : md_stp (A 1 (0 + p9)) (rows, st, dg, kd, nt, T) (rows, st, dg + 1, kd, nt, md_td T (24 + 4 * kd + st - 2) dg (A 1 p9)) := by
                            rw [Nat.zero_add]
                            exact Or.inr (Or.inl ⟨hnL, ⟨hs2, hD9, by rw [← hmo]; exact hdg1⟩, rfl⟩)
                          refine lv_goto (tgt := 380) hx hb d_MD_read_328 (by decide) ?_
                          refine lv_iinc (v := nI (p9 + 1)) (lv' := [(6, .int (nI (p9 + 1))), (3, .int (nI (dg + 1))), (11, .int (nI (24 + 4 * kd + st - 2))), (10, .int wh), (9, .int (nI mo)), (8, .int dt), (7, .int (A 1 p9)), (5, .int (-1)), (1, .int (nI rows)), (2, .int (nI st)), (4, .int (nI kd)), (0, .ref (μ 0))]) hx hb d_MD_read_380 hl (k := 6) rfl (by rw [lit1]; exact nI_1 _) (by decide) rfl (fun ls hl => ?_)
                          refine lv_goto (tgt := 68) hx hb d_MD_read_383 (by decide) ?_
                          exact ih (p9 + 1) rows st (dg + 1) kd nt (md_td T (24 + 4 * kd + st - 2) dg (A 1 p9)) _ _ _ ls (by omega) (by omega) hst hdg2 hkd hnt (by omega) (fun j hj => (md_td_lo (by omega)).trans (hT24 j hj)) ⟨_, hgo, hstep⟩ (by rw [cb_upr_upr] at hM; exact hM) hP hD hS (lv_sub hl [0, 7, 8, 9, 1, 10, 11] rfl)
                        · skip
                          refine lv_iconst (v := 0) hx hb d_MD_read_304 (by decide) ?_
                          refine lv_goto (tgt := 318) hx hb d_MD_read_305 (by decide) ?_
                          refine lv_iload hx hb d_MD_read_318 (lv_at hl 4 rfl) ?_
                          refine lv_iadd hx hb d_MD_read_320 ?_
                          refine lv_bipush (v := 48) hx hb d_MD_read_321 (by decide) ?_
                          refine lv_isub hx hb d_MD_read_323 ?_
                          rw [show (0 + (A 1 p9)) - 48 = (if dg = 0 then 0 else 10 * T (24 + 4 * kd + st - 2)) + A 1 p9 - 48 from by rw [if_pos (gx_eqn (b := 0) c_301)]]
                          refine gx_is (f := T) hx hb hK hP hD hS 2 0 (hM.2.1 2 (by decide) (by decide)) rfl (24 + 4 * kd + st - 2) (rfl) (show 24 + 4 * kd + st - 2 < 48 by omega) (by decide) d_MD_read_324 (fun H locs hP hD hS => ?_)
                          obtain ⟨w_9, ew_9⟩ : ∃ y : va_W, y = wx.set 2 (μ 2, .inl (cI, md_n 2, .inl (upd T (24 + 4 * kd + st - 2) ((if dg = 0 then 0 else 10 * T (24 + 4 * kd + st - 2)) + A 1 p9 - 48)))) := ⟨_, rfl⟩
                          replace hP : va_P D classes w_9 H := by rw [ew_9]; exact hP
                          replace hD : va_D (va_A ws sz) w_9 := by rw [ew_9]; exact hD
                          replace hM : md_I cI cJ cZ w_9 μ (upd (upd x 0 0) 3 (nI nt)) (cb_upr (cb_upr A 2 T) 2 (upd T (24 + 4 * kd + st - 2) ((if dg = 0 then 0 else 10 * T (24 + 4 * kd + st - 2)) + A 1 p9 - 48))) B := by rw [ew_9]; exact md_I.int (by decide) (by decide) hM
                          refine lv_iinc (v := nI (dg + 1)) (lv' := [(3, .int (nI (dg + 1))), (11, .int (nI (24 + 4 * kd + st - 2))), (10, .int wh), (9, .int (nI mo)), (8, .int dt), (7, .int (A 1 p9)), (6, .int (nI p9)), (5, .int (-1)), (1, .int (nI rows)), (2, .int (nI st)), (4, .int (nI kd)), (0, .ref (μ 0))]) hx hb d_MD_read_325 hl (k := 9) rfl (by rw [lit1]; exact nI_1 _) (by decide) rfl (fun ls hl => ?_)
                          have hstep : md_stp (A 1 (0 + p9)) (rows, st, dg, kd, nt, T) (rows, st, dg + 1, kd, nt, md_td T (24 + 4 * kd + st - 2) dg (A 1 p9)) := by
                            rw [Nat.zero_add]
                            exact Or.inr (Or.inl ⟨hnL, ⟨hs2, hD9, by rw [← hmo]; exact hdg1⟩, rfl⟩)
                          refine lv_goto (tgt := 380) hx hb d_MD_read_328 (by decide) ?_
                          refine lv_iinc (v := nI (p9 + 1)) (lv' := [(6, .int (nI (p9 + 1))), (3, .int (nI (dg + 1))), (11, .int (nI (24 + 4 * kd + st - 2))), (10, .int wh), (9, .int (nI mo)), (8, .int dt), (7, .int (A 1 p9)), (5, .int (-1)), (1, .int (nI rows)), (2, .int (nI st)), (4, .int (nI kd)), (0, .ref (μ 0))]) hx hb d_MD_read_380 hl (k := 6) rfl (by rw [lit1]; exact nI_1 _) (by decide) rfl (fun ls hl => ?_)
                          refine lv_goto (tgt := 68) hx hb d_MD_read_383 (by decide) ?_
                          exact ih (p9 + 1) rows st (dg + 1) kd nt (md_td T (24 + 4 * kd + st - 2) dg (A 1 p9)) _ _ _ ls (by omega) (by omega) hst hdg2 hkd hnt (by omega) (fun j hj => (md_td_lo (by omega)).trans (hT24 j hj)) ⟨_, hgo, hstep⟩ (by rw [cb_upr_upr] at hM; exact hM) hP hD hS (lv_sub hl [0, 7, 8, 9, 1, 10, 11] rfl)
                  · skip
                    have hs0 : st = 0 := gx_eqn (b := 0) c_162
                    refine lv_iload hx hb d_MD_read_165 (lv_at hl 3 rfl) ?_
                    refine lv_i2l (v := (A 1 p9).toInt64) hx hb d_MD_read_167 (rfl) ?_
                    refine lv_ldc2 (v := 65) hx hb hown (hg _ k_646) d_MD_read_168 ?_
                    refine lv_ldc2 (v := 70) hx hb hown (hg _ k_647) d_MD_read_171 ?_
                    refine gx_readi (va_runS (As := [.long ((A 1 p9).toInt64), .long (65 : Int64), .long (70 : Int64)]) (rest := []) ⟨hx, hb, hml, hown, gx_nil⟩ (c_MD_in F _ _ _ _ _) ⟨gx_cb (hg _ k_639) (hg _ k_7) (hg _ k_637) nd_MD_in ⟨by decide, by decide⟩, hg _ k_638⟩ (gx_preS hV hP hD hS hA0) rfl rfl hl.1 rfl (lv_room (Nat.le_of_ble_eq_true rfl)) d_MD_read_174 ⟨by decide, by decide⟩) (fun r_174 h_174 => ?_)
                    rcases h_174 with ⟨rfl, hi1, hi2⟩ | ⟨rfl, hib⟩
                    · skip
                      obtain ⟨hA1, hA2⟩ := md_good (p := A 1 p9) (lo := 65) (hi := 70) hi1 hi2
                      refine lv_if_eq (tgt := 265) hx hb d_MD_read_177 (by decide) (fun c_177 => absurd c_177 (by decide)) (fun c_177 => ?_)
                      refine lv_iload hx hb d_MD_read_180 (lv_at hl 3 rfl) ?_
                      refine lv_bipush (v := 65) hx hb d_MD_read_182 (by decide) ?_
                      refine lv_isub hx hb d_MD_read_184 ?_
                      obtain ⟨k, hk, hkc⟩ := md_let hA1 hA2
                      rw [hkc]
                      refine lv_istore (lv' := [(4, .int (nI k)), (10, .int wh), (9, .int (nI mo)), (8, .int dt), (7, .int (A 1 p9)), (6, .int (nI p9)), (5, .int (-1)), (1, .int (nI rows)), (2, .int (nI st)), (3, .int (nI dg)), (0, .ref (μ 0))]) hx hb d_MD_read_185 hl (by decide) rfl (fun ls hl => ?_)
                      refine lv_aload_n hx hb d_MD_read_187 rfl (lv_at hl 10 rfl) ?_
                      refine lv_dup hx hb d_MD_read_188 rfl ?_
                      refine va_get (D := D) (ci := iMD) (v := .int (nI nt)) (C := R_MD) (T := F_MD) (N := 23) hx hb (fl_MD hg) (fun _ h9 => h9) hown hK hP 0 (hM.1) rfl 5 (by decide) (hg _ k_561) (fun _ h9 => h9) rfl d_MD_read_189 ?_
                      refine lv_iconst (v := 1) hx hb d_MD_read_192 (by decide) ?_
                      refine lv_iload hx hb d_MD_read_193 (lv_at hl 0 rfl) ?_
                      refine lv_ishl hx hb d_MD_read_195 ?_
                      refine lv_ior hx hb d_MD_read_196 ?_
                      refine va_put (D := D) (ci := iMD) (v := .int ((nI nt) ||| (1 <<< ((nI k) &&& 31)))) (ty := .int) (C := R_MD) (T := F_MD) (N := 23) hx hb (fl_MD hg) (fun _ h9 => h9) t_MD t_MD_ok n_MD hown hK hP hD hS 0 (hM.1) rfl 5 (by decide) (hg _ k_561) (fun _ h9 => h9) rfl (by decide +kernel) rfl rfl (Nat.le_of_ble_eq_true rfl) d_MD_read_197 (fun H locs hP hD hS => ?_)
                      obtain ⟨w_10, ew_10⟩ : ∃ y : va_W, y = wx.set 0 (μ 0, .inr (iMD, md_o μ (upd (upd (upd x 0 0) 3 (nI nt)) 3 ((nI nt) ||| (1 <<< ((nI k) &&& 31)))))) := ⟨_, rfl⟩
                      replace hP : va_P D classes w_10 H := by rw [ew_10]; exact hP
                      replace hD : va_D (va_A ws sz) w_10 := by rw [ew_10]; exact hD
                      replace hM : md_I cI cJ cZ w_10 μ (upd (upd (upd x 0 0) 3 (nI nt)) 3 ((nI nt) ||| (1 <<< ((nI k) &&& 31)))) (cb_upr A 2 T) B := by rw [ew_10]; exact md_I.obj (x := (upd (upd x 0 0) 3 (nI nt))) (x' := upd (upd (upd x 0 0) 3 (nI nt)) 3 ((nI nt) ||| (1 <<< ((nI k) &&& 31)))) hM
                      refine lv_aload_n hx hb d_MD_read_200 rfl (lv_at hl 10 rfl) ?_
                      refine va_get (D := D) (ci := iMD) (v := .ref (μ 2)) (C := R_MD) (T := F_MD) (N := 23) hx hb (fl_MD hg) (fun _ h9 => h9) hown hK hP 0 (hM.1) rfl 4 (by decide) (hg _ k_560) (fun _ h9 => h9) rfl d_MD_read_201 ?_
                      refine lv_bipush (v := 24) hx hb d_MD_read_204 (by decide) ?_
                      refine lv_iconst (v := 4) hx hb d_MD_read_206 (by decide) ?_
                      refine lv_iload hx hb d_MD_read_207 (lv_at hl 0 rfl) ?_
                      refine lv_imul hx hb d_MD_read_209 ?_
                      refine lv_iadd hx hb d_MD_read_210 ?_
                      refine lv_iconst (v := 0) hx hb d_MD_read_211 (by decide) ?_
                      refine gx_is (f := T) hx hb hK hP hD hS 2 0 (hM.2.1 2 (by decide) (by decide)) rfl (24 + 4 * k) (by rw [show (24 : Int32) = nI 24 from rfl, show (4 : Int32) = nI 4 from rfl, md_mul, nI_add]) (show 24 + 4 * k < 48 by omega) (by decide) d_MD_read_212 (fun H locs hP hD hS => ?_)
                      obtain ⟨w_11, ew_11⟩ : ∃ y : va_W, y = w_10.set 2 (μ 2, .inl (cI, md_n 2, .inl (upd T (24 + 4 * k) 0))) := ⟨_, rfl⟩
                      replace hP : va_P D classes w_11 H := by rw [ew_11]; exact hP
                      replace hD : va_D (va_A ws sz) w_11 := by rw [ew_11]; exact hD
                      replace hM : md_I cI cJ cZ w_11 μ (upd (upd (upd x 0 0) 3 (nI nt)) 3 ((nI nt) ||| (1 <<< ((nI k) &&& 31)))) (cb_upr (cb_upr A 2 T) 2 (upd T (24 + 4 * k) 0)) B := by rw [ew_11]; exact md_I.int (by decide) (by decide) hM
                      refine lv_aload_n hx hb d_MD_read_213 rfl (lv_at hl 10 rfl) ?_
                      refine va_get (D := D) (ci := iMD) (v := .ref (μ 2)) (C := R_MD) (T := F_MD) (N := 23) hx hb (fl_MD hg) (fun _ h9 => h9) hown hK hP 0 (hM.1) rfl 4 (by decide) (hg _ k_560) (fun _ h9 => h9) rfl d_MD_read_214 ?_
                      refine lv_bipush (v := 24) hx hb d_MD_read_217 (by decide) ?_
                      refine lv_iconst (v := 4) hx hb d_MD_read_219 (by decide) ?_
                      refine lv_iload hx hb d_MD_read_220 (lv_at hl 0 rfl) ?_
                      refine lv_imul hx hb d_MD_read_222 ?_
                      refine lv_iadd hx hb d_MD_read_223 ?_
                      refine lv_iconst (v := 1) hx hb d_MD_read_224 (by decide) ?_
                      refine lv_iadd hx hb d_MD_read_225 ?_
                      refine lv_iconst (v := 1) hx hb d_MD_read_226 (by decide) ?_
                      refine gx_is (f := upd T (24 + 4 * k) 0) hx hb hK hP hD hS 2 0 (hM.2.1 2 (by decide) (by decide)) rfl (24 + 4 * k + 1) (by rw [show (24 : Int32) = nI 24 from rfl, show (4 : Int32) = nI 4 from rfl, md_mul, nI_add, nI_1]) (show 24 + 4 * k + 1 < 48 by omega) (by decide) d_MD_read_227 (fun H locs hP hD hS => ?_)
                      obtain ⟨w_12, ew_12⟩ : ∃ y : va_W, y = w_11.set 2 (μ 2, .inl (cI, md_n 2, .inl (upd (upd T (24 + 4 * k) 0) (24 + 4 * k + 1) 1))) := ⟨_, rfl⟩
                      replace hP : va_P D classes w_12 H := by rw [ew_12]; exact hP
                      replace hD : va_D (va_A ws sz) w_12 := by rw [ew_12]; exact hD
                      replace hM : md_I cI cJ cZ w_12 μ (upd (upd (upd x 0 0) 3 (nI nt)) 3 ((nI nt) ||| (1 <<< ((nI k) &&& 31)))) (cb_upr (cb_upr (cb_upr A 2 T) 2 (upd T (24 + 4 * k) 0)) 2 (upd (upd T (24 + 4 * k) 0) (24 + 4 * k + 1) 1)) B := by rw [ew_12]; exact md_I.int (by decide) (by decide) hM
                      refine lv_aload_n hx hb d_MD_read_228 rfl (lv_at hl 10 rfl) ?_
                      refine va_get (D := D) (ci := iMD) (v := .ref (μ 2)) (C := R_MD) (T := F_MD) (N := 23) hx hb (fl_MD hg) (fun _ h9 => h9) hown hK hP 0 (hM.1) rfl 4 (by decide) (hg _ k_560) (fun _ h9 => h9) rfl d_MD_read_229 ?_
                      refine lv_bipush (v := 24) hx hb d_MD_read_232 (by decide) ?_
                      refine lv_iconst (v := 4) hx hb d_MD_read_234 (by decide) ?_
                      refine lv_iload hx hb d_MD_read_235 (lv_at hl 0 rfl) ?_
                      refine lv_imul hx hb d_MD_read_237 ?_
                      refine lv_iadd hx hb d_MD_read_238 ?_
                      refine lv_iconst (v := 2) hx hb d_MD_read_239 (by decide) ?_
                      refine lv_iadd hx hb d_MD_read_240 ?_
                      refine lv_iconst (v := 0) hx hb d_MD_read_241 (by decide) ?_
                      refine gx_is (f := upd (upd T (24 + 4 * k) 0) (24 + 4 * k + 1) 1) hx hb hK hP hD hS 2 0 (hM.2.1 2 (by decide) (by decide)) rfl (24 + 4 * k + 2) (by rw [show (24 : Int32) = nI 24 from rfl, show (4 : Int32) = nI 4 from rfl, show (2 : Int32) = nI 2 from rfl, md_mul, nI_add, nI_add]) (show 24 + 4 * k + 2 < 48 by omega) (by decide) d_MD_read_242 (fun H locs hP hD hS => ?_)
                      obtain ⟨w_13, ew_13⟩ : ∃ y : va_W, y = w_12.set 2 (μ 2, .inl (cI, md_n 2, .inl (upd (upd (upd T (24 + 4 * k) 0) (24 + 4 * k + 1) 1) (24 + 4 * k + 2) 0))) := ⟨_, rfl⟩
                      replace hP : va_P D classes w_13 H := by rw [ew_13]; exact hP
                      replace hD : va_D (va_A ws sz) w_13 := by rw [ew_13]; exact hD
                      replace hM : md_I cI cJ cZ w_13 μ (upd (upd (upd x 0 0) 3 (nI nt)) 3 ((nI nt) ||| (1 <<< ((nI k) &&& 31)))) (cb_upr (cb_upr (cb_upr (cb_upr A 2 T) 2 (upd T (24 + 4 * k) 0)) 2 (upd (upd T (24 + 4 * k) 0) (24 + 4 * k + 1) 1)) 2 (upd (upd (upd T (24 + 4 * k) 0) (24 + 4 * k + 1) 1) (24 + 4 * k + 2) 0)) B := by rw [ew_13]; exact md_I.int (by decide) (by decide) hM
                      refine lv_aload_n hx hb d_MD_read_243 rfl (lv_at hl 10 rfl) ?_
                      refine va_get (D := D) (ci := iMD) (v := .ref (μ 2)) (C := R_MD) (T := F_MD) (N := 23) hx hb (fl_MD hg) (fun _ h9 => h9) hown hK hP 0 (hM.1) rfl 4 (by decide) (hg _ k_560) (fun _ h9 => h9) rfl d_MD_read_244 ?_
                      refine lv_bipush (v := 24) hx hb d_MD_read_247 (by decide) ?_
                      refine lv_iconst (v := 4) hx hb d_MD_read_249 (by decide) ?_
                      refine lv_iload hx hb d_MD_read_250 (lv_at hl 0 rfl) ?_
                      refine lv_imul hx hb d_MD_read_252 ?_
                      refine lv_iadd hx hb d_MD_read_253 ?_
                      refine lv_iconst (v := 3) hx hb d_MD_read_254 (by decide) ?_
                      refine lv_iadd hx hb d_MD_read_255 ?_
                      refine lv_iconst (v := 0) hx hb d_MD_read_256 (by decide) ?_
                      refine gx_is (f := upd (upd (upd T (24 + 4 * k) 0) (24 + 4 * k + 1) 1) (24 + 4 * k + 2) 0) hx hb hK hP hD hS 2 0 (hM.2.1 2 (by decide) (by decide)) rfl (24 + 4 * k + 3) (by rw [show (24 : Int32) = nI 24 from rfl, show (4 : Int32) = nI 4 from rfl, show (3 : Int32) = nI 3 from rfl, md_mul, nI_add, nI_add]) (show 24 + 4 * k + 3 < 48 by omega) (by decide) d_MD_read_257 (fun H locs hP hD hS => ?_)
                      obtain ⟨w_14, ew_14⟩ : ∃ y : va_W, y = w_13.set 2 (μ 2, .inl (cI, md_n 2, .inl (upd (upd (upd (upd T (24 + 4 * k) 0) (24 + 4 * k + 1) 1) (24 + 4 * k + 2) 0) (24 + 4 * k + 3) 0))) := ⟨_, rfl⟩
                      replace hP : va_P D classes w_14 H := by rw [ew_14]; exact hP
                      replace hD : va_D (va_A ws sz) w_14 := by rw [ew_14]; exact hD
                      replace hM : md_I cI cJ cZ w_14 μ (upd (upd (upd x 0 0) 3 (nI nt)) 3 ((nI nt) ||| (1 <<< ((nI k) &&& 31)))) (cb_upr (cb_upr (cb_upr (cb_upr (cb_upr A 2 T) 2 (upd T (24 + 4 * k) 0)) 2 (upd (upd T (24 + 4 * k) 0) (24 + 4 * k + 1) 1)) 2 (upd (upd (upd T (24 + 4 * k) 0) (24 + 4 * k + 1) 1) (24 + 4 * k + 2) 0)) 2 (upd (upd (upd (upd T (24 + 4 * k) 0) (24 + 4 * k + 1) 1) (24 + 4 * k + 2) 0) (24 + 4 * k + 3) 0)) B := by rw [ew_14]; exact md_I.int (by decide) (by decide) hM
                      refine lv_iconst (v := 2) hx hb d_MD_read_258 (by decide) ?_
                      refine lv_istore_n (lv' := [(2, .int 2), (4, .int (nI k)), (10, .int wh), (9, .int (nI mo)), (8, .int dt), (7, .int (A 1 p9)), (6, .int (nI p9)), (5, .int (-1)), (1, .int (nI rows)), (3, .int (nI dg)), (0, .ref (μ 0))]) hx hb d_MD_read_259 rfl hl (by decide) rfl (fun ls hl => ?_)
                      refine lv_iconst (v := 0) hx hb d_MD_read_260 (by decide) ?_
                      refine lv_istore_n (lv' := [(3, .int 0), (2, .int 2), (4, .int (nI k)), (10, .int wh), (9, .int (nI mo)), (8, .int dt), (7, .int (A 1 p9)), (6, .int (nI p9)), (5, .int (-1)), (1, .int (nI rows)), (0, .ref (μ 0))]) hx hb d_MD_read_261 rfl hl (by decide) rfl (fun ls hl => ?_)
                      have hstep : md_stp (A 1 (0 + p9)) (rows, st, dg, kd, nt, T) (rows, 2, 0, k, nt ||| 2 ^ k, md_t0 T k) := by
                        rw [Nat.zero_add]
                        exact Or.inl ⟨⟨hs0, hA1, hA2⟩, by rw [hkc, nI_clamp (by omega)]⟩
                      refine lv_goto (tgt := 380) hx hb d_MD_read_262 (by decide) ?_
                      refine lv_iinc (v := nI (p9 + 1)) (lv' := [(6, .int (nI (p9 + 1))), (3, .int 0), (2, .int 2), (4, .int (nI k)), (10, .int wh), (9, .int (nI mo)), (8, .int dt), (7, .int (A 1 p9)), (5, .int (-1)), (1, .int (nI rows)), (0, .ref (μ 0))]) hx hb d_MD_read_380 hl (k := 7) rfl (by rw [lit1]; exact nI_1 _) (by decide) rfl (fun ls hl => ?_)
                      refine lv_goto (tgt := 68) hx hb d_MD_read_383 (by decide) ?_
                      exact ih (p9 + 1) rows 2 0 k (nt ||| 2 ^ k) (md_t0 T k) _ _ _ ls (by omega) (by omega) (by decide) (by decide) hk (cb_or nt hnt k hk).2 (by omega) (fun j hj => (md_t0_lo hj).trans (hT24 j hj)) ⟨_, hgo, hstep⟩ (by rw [cb_uu, (cb_or nt hnt k hk).1, cb_upr_upr, cb_upr_upr, cb_upr_upr, cb_upr_upr] at hM; exact hM) hP hD hS (lv_sub hl [0, 8, 9, 2, 1, 3, 10] rfl)
                    · skip
                      have hnL : ¬ md_isL (A 1 p9) st := fun z => (md_bad (p := A 1 p9) (lo := 65) (hi := 70) hib).elim z.2.1 z.2.2
                      refine lv_if_eq (tgt := 265) hx hb d_MD_read_177 (by decide) (fun c_177 => ?_) (fun c_177 => absurd c_177 (by decide))
                      refine lv_iload_n hx hb d_MD_read_265 rfl (lv_at hl 7 rfl) ?_
                      refine lv_iconst (v := 2) hx hb d_MD_read_266 (by decide) ?_
                      refine lv_icmp_lt (tgt := 331) hx hb d_MD_read_267 (by decide) (fun c_267 => ?_) (fun c_267 => absurd (show nI st < 2 by rw [hs0]; decide) c_267)
                      have hnD : ¬ md_isD (A 1 p9) st dg := fun z => absurd z.1 (by omega)
                      refine lv_iload hx hb d_MD_read_331 (lv_at hl 0 rfl) ?_
                      refine lv_if_eq (tgt := 356) hx hb d_MD_read_333 (by decide) (fun c_333 => ?_) (fun c_333 => ?_)
                      · skip
                        have hnW : ¬ md_whl st dg kd T := hwh.elim (fun q => absurd (q.1.symm.trans c_333) (by decide)) (fun q => q.2)
                        have hbad : md_wrg (A 1 p9) (rows, st, dg, kd, nt, T) := ⟨hnL, hnD, Or.inl hnW⟩
                        refine lv_iload hx hb d_MD_read_356 (lv_at hl 0 rfl) ?_
                        refine lv_if_eq (tgt := 376) hx hb d_MD_read_358 (by decide) (fun c_358 => ?_) (fun c_358 => absurd c_333 c_358)
                        refine lv_iload hx hb d_MD_read_376 (lv_at hl 4 rfl) ?_
                        refine lv_istore (lv' := [(5, .int (nI p9)), (10, .int wh), (9, .int (nI mo)), (8, .int dt), (7, .int (A 1 p9)), (6, .int (nI p9)), (1, .int (nI rows)), (2, .int (nI st)), (3, .int (nI dg)), (4, .int (nI kd)), (0, .ref (μ 0))]) hx hb d_MD_read_378 hl (by decide) rfl (fun ls hl => ?_)
                        refine lv_iinc (v := nI (p9 + 1)) (lv' := [(6, .int (nI (p9 + 1))), (5, .int (nI p9)), (10, .int wh), (9, .int (nI mo)), (8, .int dt), (7, .int (A 1 p9)), (1, .int (nI rows)), (2, .int (nI st)), (3, .int (nI dg)), (4, .int (nI kd)), (0, .ref (μ 0))]) hx hb d_MD_read_380 hl (k := 5) rfl (by rw [lit1]; exact nI_1 _) (by decide) rfl (fun ls hl => ?_)
                        refine lv_goto (tgt := 68) hx hb d_MD_read_383 (by decide) ?_
                        refine lv_iload hx hb d_MD_read_68 (lv_at hl 0 rfl) ?_
                        refine lv_aload_n hx hb d_MD_read_70 rfl (lv_at hl 10 rfl) ?_
                        refine va_get (D := D) (ci := iMD) (v := .int (x 1)) (C := R_MD) (T := F_MD) (N := 23) hx hb (fl_MD hg) (fun _ h9 => h9) hown hK hP 0 (hM.1) rfl 2 (by decide) (hg _ k_558) (fun _ h9 => h9) rfl d_MD_read_71 ?_
                        refine lv_icmp_ge (tgt := 386) hx hb d_MD_read_74 (by decide) (fun c_74 => ?_) (fun c_74 => ?_)
                        · skip
                          exact st386 rows st dg kd nt T _ _ _ _ ls (Or.inl ⟨p9, hp9, rfl, _, Or.inr ⟨by omega, Or.inr (Or.inr ⟨p9, hlt, rfl, hgo, hbad⟩)⟩⟩) hT24 hM hP hD hS (lv_sub hl [1, 7, 6, 10] rfl)
                        · skip
                          refine lv_iload hx hb d_MD_read_77 (lv_at hl 1 rfl) ?_
                          refine lv_if_ge (tgt := 386) hx hb d_MD_read_79 (by decide) (fun c_79 => ?_) (fun c_79 => absurd (nI_pos' (by omega)) c_79)
                          exact st386 rows st dg kd nt T _ _ _ _ ls (Or.inl ⟨p9, hp9, rfl, _, Or.inr ⟨by omega, Or.inr (Or.inr ⟨p9, hlt, rfl, hgo, hbad⟩)⟩⟩) hT24 hM hP hD hS (lv_sub hl [1, 7, 6, 10] rfl)
                      · skip
                        have hW9 : md_whl st dg kd T := hwh.elim (fun q => q.2) (fun q => absurd q.1 c_333)
                        refine lv_iload hx hb d_MD_read_336 (lv_at hl 3 rfl) ?_
                        refine gx_readi (va_runS (As := [.int (A 1 p9)]) (rest := []) ⟨hx, hb, hml, hown, gx_nil⟩ (c_MD_begins F _ _ _) ⟨gx_cb (hg _ k_650) (hg _ k_7) (hg _ k_648) nd_MD_begins ⟨by decide, by decide⟩, hg _ k_649⟩ (gx_preS hV hP hD hS hA0) rfl rfl hl.1 rfl (lv_room (Nat.le_of_ble_eq_true rfl)) d_MD_read_338 ⟨by decide, by decide⟩) (fun r_338 h_338 => ?_)
                        rw [md_bg_eq] at h_338
                        subst h_338
                        refine lv_iload_n hx hb d_MD_read_341 rfl (lv_at hl 7 rfl) ?_
                        refine lv_icmp_le (tgt := 356) hx hb d_MD_read_342 (by decide) (fun c_342 => ?_) (fun c_342 => ?_)
                        · skip
                          have hnb : ¬ st < md_bgN (A 1 p9) := by have h8 := hbg9 (A 1 p9); have := gx_ngt c_342 (by omega); omega
                          refine lv_iload hx hb d_MD_read_356 (lv_at hl 0 rfl) ?_
                          refine lv_if_eq (tgt := 376) hx hb d_MD_read_358 (by decide) (fun c_358 => absurd c_358 c_333) (fun c_358 => ?_)
                          refine lv_iload hx hb d_MD_read_361 (lv_at hl 3 rfl) ?_
                          refine lv_bipush (v := 59) hx hb d_MD_read_363 (by decide) ?_
                          refine lv_icmp_ne (tgt := 376) hx hb d_MD_read_365 (by decide) (fun c_365 => ?_) (fun c_365 => ?_)
                          · skip
                            have hbad : md_wrg (A 1 p9) (rows, st, dg, kd, nt, T) := ⟨hnL, hnD, Or.inr ⟨hnb, c_365⟩⟩
                            refine lv_iload hx hb d_MD_read_376 (lv_at hl 4 rfl) ?_
                            refine lv_istore (lv' := [(5, .int (nI p9)), (10, .int wh), (9, .int (nI mo)), (8, .int dt), (7, .int (A 1 p9)), (6, .int (nI p9)), (1, .int (nI rows)), (2, .int (nI st)), (3, .int (nI dg)), (4, .int (nI kd)), (0, .ref (μ 0))]) hx hb d_MD_read_378 hl (by decide) rfl (fun ls hl => ?_)
                            refine lv_iinc (v := nI (p9 + 1)) (lv' := [(6, .int (nI (p9 + 1))), (5, .int (nI p9)), (10, .int wh), (9, .int (nI mo)), (8, .int dt), (7, .int (A 1 p9)), (1, .int (nI rows)), (2, .int (nI st)), (3, .int (nI dg)), (4, .int (nI kd)), (0, .ref (μ 0))]) hx hb d_MD_read_380 hl (k := 5) rfl (by rw [lit1]; exact nI_1 _) (by decide) rfl (fun ls hl => ?_)
                            refine lv_goto (tgt := 68) hx hb d_MD_read_383 (by decide) ?_
                            refine lv_iload hx hb d_MD_read_68 (lv_at hl 0 rfl) ?_
                            refine lv_aload_n hx hb d_MD_read_70 rfl (lv_at hl 10 rfl) ?_
                            refine va_get (D := D) (ci := iMD) (v := .int (x 1)) (C := R_MD) (T := F_MD) (N := 23) hx hb (fl_MD hg) (fun _ h9 => h9) hown hK hP 0 (hM.1) rfl 2 (by decide) (hg _ k_558) (fun _ h9 => h9) rfl d_MD_read_71 ?_
                            refine lv_icmp_ge (tgt := 386) hx hb d_MD_read_74 (by decide) (fun c_74 => ?_) (fun c_74 => ?_)
                            · skip
                              exact st386 rows st dg kd nt T _ _ _ _ ls (Or.inl ⟨p9, hp9, rfl, _, Or.inr ⟨by omega, Or.inr (Or.inr ⟨p9, hlt, rfl, hgo, hbad⟩)⟩⟩) hT24 hM hP hD hS (lv_sub hl [1, 7, 6, 10] rfl)
                            · skip
                              refine lv_iload hx hb d_MD_read_77 (lv_at hl 1 rfl) ?_
                              refine lv_if_ge (tgt := 386) hx hb d_MD_read_79 (by decide) (fun c_79 => ?_) (fun c_79 => absurd (nI_pos' (by omega)) c_79)
                              exact st386 rows st dg kd nt T _ _ _ _ ls (Or.inl ⟨p9, hp9, rfl, _, Or.inr ⟨by omega, Or.inr (Or.inr ⟨p9, hlt, rfl, hgo, hbad⟩)⟩⟩) hT24 hM hP hD hS (lv_sub hl [1, 7, 6, 10] rfl)
                          · skip
                            refine lv_iinc (v := nI (rows + 1)) (lv' := [(1, .int (nI (rows + 1))), (10, .int wh), (9, .int (nI mo)), (8, .int dt), (7, .int (A 1 p9)), (6, .int (nI p9)), (5, .int (-1)), (2, .int (nI st)), (3, .int (nI dg)), (4, .int (nI kd)), (0, .ref (μ 0))]) hx hb d_MD_read_368 hl (k := 6) rfl (by rw [lit1]; exact nI_1 _) (by decide) rfl (fun ls hl => ?_)
                            refine lv_iconst (v := 0) hx hb d_MD_read_371 (by decide) ?_
                            refine lv_istore_n (lv' := [(2, .int 0), (1, .int (nI (rows + 1))), (10, .int wh), (9, .int (nI mo)), (8, .int dt), (7, .int (A 1 p9)), (6, .int (nI p9)), (5, .int (-1)), (3, .int (nI dg)), (4, .int (nI kd)), (0, .ref (μ 0))]) hx hb d_MD_read_372 rfl hl (by decide) rfl (fun ls hl => ?_)
                            have hstep : md_stp (A 1 (0 + p9)) (rows, st, dg, kd, nt, T) (rows + 1, 0, dg, kd, nt, T) := by
                              rw [Nat.zero_add]
                              exact Or.inr (Or.inr (Or.inr ⟨hnL, hnD, hW9, hnb, c_365, rfl⟩))
                            refine lv_goto (tgt := 380) hx hb d_MD_read_373 (by decide) ?_
                            refine lv_iinc (v := nI (p9 + 1)) (lv' := [(6, .int (nI (p9 + 1))), (2, .int 0), (1, .int (nI (rows + 1))), (10, .int wh), (9, .int (nI mo)), (8, .int dt), (7, .int (A 1 p9)), (5, .int (-1)), (3, .int (nI dg)), (4, .int (nI kd)), (0, .ref (μ 0))]) hx hb d_MD_read_380 hl (k := 6) rfl (by rw [lit1]; exact nI_1 _) (by decide) rfl (fun ls hl => ?_)
                            refine lv_goto (tgt := 68) hx hb d_MD_read_383 (by decide) ?_
                            exact ih (p9 + 1) (rows + 1) 0 dg kd nt T _ _ _ ls (by omega) (by omega) (by decide) hdg hkd hnt (by omega) hT24 ⟨_, hgo, hstep⟩ hM hP hD hS (lv_sub hl [0, 7, 2, 1, 8, 9, 10] rfl)
                        · skip
                          have hb9 : st < md_bgN (A 1 p9) := by have h8 := hbg9 (A 1 p9); exact gx_nlt c_342 (by omega)
                          refine lv_iload hx hb d_MD_read_345 (lv_at hl 3 rfl) ?_
                          refine gx_readi (va_runS (As := [.int (A 1 p9)]) (rest := []) ⟨hx, hb, hml, hown, gx_nil⟩ (c_MD_begins F _ _ _) ⟨gx_cb (hg _ k_650) (hg _ k_7) (hg _ k_648) nd_MD_begins ⟨by decide, by decide⟩, hg _ k_649⟩ (gx_preS hV hP hD hS hA0) rfl rfl hl.1 rfl (lv_room (Nat.le_of_ble_eq_true rfl)) d_MD_read_347 ⟨by decide, by decide⟩) (fun r_347 h_347 => ?_)
                          rw [md_bg_eq] at h_347
                          subst h_347
                          refine lv_istore_n (lv' := [(2, .int (nI (md_bgN (A 1 p9)))), (10, .int wh), (9, .int (nI mo)), (8, .int dt), (7, .int (A 1 p9)), (6, .int (nI p9)), (5, .int (-1)), (1, .int (nI rows)), (3, .int (nI dg)), (4, .int (nI kd)), (0, .ref (μ 0))]) hx hb d_MD_read_350 rfl hl (by decide) rfl (fun ls hl => ?_)
                          refine lv_iconst (v := 0) hx hb d_MD_read_351 (by decide) ?_
                          refine lv_istore_n (lv' := [(3, .int 0), (2, .int (nI (md_bgN (A 1 p9)))), (10, .int wh), (9, .int (nI mo)), (8, .int dt), (7, .int (A 1 p9)), (6, .int (nI p9)), (5, .int (-1)), (1, .int (nI rows)), (4, .int (nI kd)), (0, .ref (μ 0))]) hx hb d_MD_read_352 rfl hl (by decide) rfl (fun ls hl => ?_)
                          have hstep : md_stp (A 1 (0 + p9)) (rows, st, dg, kd, nt, T) (rows, md_bgN (A 1 p9), 0, kd, nt, T) := by
                            rw [Nat.zero_add]
                            exact Or.inr (Or.inr (Or.inl ⟨hnL, hnD, hW9, hb9, rfl⟩))
                          refine lv_goto (tgt := 380) hx hb d_MD_read_353 (by decide) ?_
                          refine lv_iinc (v := nI (p9 + 1)) (lv' := [(6, .int (nI (p9 + 1))), (3, .int 0), (2, .int (nI (md_bgN (A 1 p9)))), (10, .int wh), (9, .int (nI mo)), (8, .int dt), (7, .int (A 1 p9)), (5, .int (-1)), (1, .int (nI rows)), (4, .int (nI kd)), (0, .ref (μ 0))]) hx hb d_MD_read_380 hl (k := 6) rfl (by rw [lit1]; exact nI_1 _) (by decide) rfl (fun ls hl => ?_)
                          refine lv_goto (tgt := 68) hx hb d_MD_read_383 (by decide) ?_
                          exact ih (p9 + 1) rows (md_bgN (A 1 p9)) 0 kd nt T _ _ _ ls (by omega) (by omega) (md_bgN_le _) (by decide) hkd hnt (by omega) hT24 ⟨_, hgo, hstep⟩ hM hP hD hS (lv_sub hl [0, 7, 8, 2, 1, 9, 10] rfl)
                have st123 : ∀ (dt : Int32) (mo : Nat) (ls : Array Slot) (hmo : mo = md_most st) (hdt : (dt = 1 ∧ ¬ A 1 p9 < 48 ∧ ¬ 57 < A 1 p9) ∨ (dt = 0 ∧ (A 1 p9 < 48 ∨ 57 < A 1 p9))) (hl : lv_has ls 12 [(9, .int (nI mo)), (8, .int dt), (7, .int (A 1 p9)), (6, .int (nI p9)), (5, .int (-1)), (1, .int (nI rows)), (2, .int (nI st)), (3, .int (nI dg)), (4, .int (nI kd)), (0, .ref (μ 0))]), W p l e ({ frames := 1, cells := 0, slots := 0, locals := 40 } : Room) s m ([.ref (μ 0)] : List Value).toArray below meth c H locs 0 0 (MQ below (va_Qi (fun r w1 => (∃ q, q ≤ n ∧ r = -1 - nI q ∧ ∃ s9, md_end (A 1) n (0, 0, 0, 0, mw, md_cp (A 2) 24) (some q) s9 ∧ ∃ (x9 : Nat → Int32) (A9 : Nat → Nat → Int32), md_I cI cJ cZ w1 μ x9 A9 B ∧ x9 0 = 0 ∧ x9 1 = 0 ∧ x9 2 = x 2 ∧ x9 4 = x 4 ∧ x9 5 = x 5 ∧ (∀ k, k ≠ 2 → A9 k = A k) ∧ ∀ j, j < 24 → A9 2 j = A 2 j) ∨ (∃ s9 : md_S, md_end (A 1) n (0, 0, 0, 0, mw, md_cp (A 2) 24) none s9 ∧ r = nI s9.1 ∧ s9.2.2.2.2.1 < 64 ∧ ∃ (x9 : Nat → Int32) (A9 : Nat → Nat → Int32), md_I cI cJ cZ w1 μ x9 A9 B ∧ x9 0 = 0 ∧ x9 1 = 0 ∧ x9 2 = nI s9.2.2.2.2.1 ∧ x9 4 = x 4 ∧ x9 5 = x 5 ∧ (∀ k, k ≠ 2 → A9 k = A k) ∧ ∀ j, j < 24 → A9 2 j = s9.2.2.2.2.2 (24 + j))) (gx_B D classes ws sz) (va_A ws sz)) ([.ref (μ 0)] : List Value).toArray s 0 0 (va_A ws sz)) (F0 m 123 ls []) := by
                  intro dt mo ls hmo hdt hl
                  refine lv_iload_n hx hb d_MD_read_123 rfl (lv_at hl 6 rfl) ?_
                  refine lv_iconst (v := 2) hx hb d_MD_read_124 (by decide) ?_
                  refine lv_icmp_lt (tgt := 158) hx hb d_MD_read_125 (by decide) (fun c_125 => ?_) (fun c_125 => ?_)
                  · skip
                    refine lv_iconst (v := 0) hx hb d_MD_read_158 (by decide) ?_
                    refine lv_istore (lv' := [(10, .int 0), (9, .int (nI mo)), (8, .int dt), (7, .int (A 1 p9)), (6, .int (nI p9)), (5, .int (-1)), (1, .int (nI rows)), (2, .int (nI st)), (3, .int (nI dg)), (4, .int (nI kd)), (0, .ref (μ 0))]) hx hb d_MD_read_159 hl (by decide) rfl (fun ls hl => ?_)
                    exact st161 _ dt mo ls hmo hdt (Or.inr ⟨rfl, fun z => absurd z.1 (Nat.not_le.mpr (gx_ltn (b := 2) c_125))⟩) (lv_sub hl [0, 1, 2, 3, 4, 5, 6, 7, 8, 9, 10] rfl)
                  · skip
                    refine lv_iload_n hx hb d_MD_read_128 rfl (lv_at hl 7 rfl) ?_
                    refine lv_if_le (tgt := 158) hx hb d_MD_read_129 (by decide) (fun c_129 => ?_) (fun c_129 => ?_)
                    · skip
                      refine lv_iconst (v := 0) hx hb d_MD_read_158 (by decide) ?_
                      refine lv_istore (lv' := [(10, .int 0), (9, .int (nI mo)), (8, .int dt), (7, .int (A 1 p9)), (6, .int (nI p9)), (5, .int (-1)), (1, .int (nI rows)), (2, .int (nI st)), (3, .int (nI dg)), (4, .int (nI kd)), (0, .ref (μ 0))]) hx hb d_MD_read_159 hl (by decide) rfl (fun ls hl => ?_)
                      exact st161 _ dt mo ls hmo hdt (Or.inr ⟨rfl, fun z => absurd z.2.1 (by have := gx_ngt (b := 0) c_129; omega)⟩) (lv_sub hl [0, 1, 2, 3, 4, 5, 6, 7, 8, 9, 10] rfl)
                    · skip
                      refine lv_iload_n hx hb d_MD_read_132 rfl (lv_at hl 6 rfl) ?_
                      refine lv_iconst (v := 3) hx hb d_MD_read_133 (by decide) ?_
                      refine lv_icmp_ne (tgt := 154) hx hb d_MD_read_134 (by decide) (fun c_134 => ?_) (fun c_134 => ?_)
                      · skip
                        refine lv_iconst (v := 1) hx hb d_MD_read_154 (by decide) ?_
                        refine lv_goto (tgt := 159) hx hb d_MD_read_155 (by decide) ?_
                        refine lv_istore (lv' := [(10, .int 1), (9, .int (nI mo)), (8, .int dt), (7, .int (A 1 p9)), (6, .int (nI p9)), (5, .int (-1)), (1, .int (nI rows)), (2, .int (nI st)), (3, .int (nI dg)), (4, .int (nI kd)), (0, .ref (μ 0))]) hx hb d_MD_read_159 hl (by decide) rfl (fun ls hl => ?_)
                        exact st161 _ dt mo ls hmo hdt (Or.inl ⟨rfl, md_2le c_125, gx_npos c_129, fun z => c_134 (by rw [z.1]; rfl)⟩) (lv_sub hl [0, 1, 2, 3, 4, 5, 6, 7, 8, 9, 10] rfl)
                      · skip
                        refine lv_aload_n hx hb d_MD_read_137 rfl (lv_at hl 9 rfl) ?_
                        refine va_get (D := D) (ci := iMD) (v := .ref (μ 2)) (C := R_MD) (T := F_MD) (N := 23) hx hb (fl_MD hg) (fun _ h9 => h9) hown hK hP 0 (hM.1) rfl 4 (by decide) (hg _ k_560) (fun _ h9 => h9) rfl d_MD_read_138 ?_
                        refine lv_bipush (v := 24) hx hb d_MD_read_141 (by decide) ?_
                        refine lv_iconst (v := 4) hx hb d_MD_read_143 (by decide) ?_
                        refine lv_iload hx hb d_MD_read_144 (lv_at hl 8 rfl) ?_
                        refine lv_imul hx hb d_MD_read_146 ?_
                        refine lv_iadd hx hb d_MD_read_147 ?_
                        refine lv_iconst (v := 1) hx hb d_MD_read_148 (by decide) ?_
                        refine lv_iadd hx hb d_MD_read_149 ?_
                        refine gx_il (f := T) hx hb hK hP 2 0 (hM.2.1 2 (by decide) (by decide)) rfl (24 + 4 * kd + 1) (by rw [show (24 : Int32) = nI 24 from rfl, show (4 : Int32) = nI 4 from rfl, md_mul, nI_add, nI_1]) (show 24 + 4 * kd + 1 < 48 by omega) (by decide) d_MD_read_150 ?_
                        refine lv_if_eq (tgt := 158) hx hb d_MD_read_151 (by decide) (fun c_151 => ?_) (fun c_151 => ?_)
                        · skip
                          refine lv_iconst (v := 0) hx hb d_MD_read_158 (by decide) ?_
                          refine lv_istore (lv' := [(10, .int 0), (9, .int (nI mo)), (8, .int dt), (7, .int (A 1 p9)), (6, .int (nI p9)), (5, .int (-1)), (1, .int (nI rows)), (2, .int (nI st)), (3, .int (nI dg)), (4, .int (nI kd)), (0, .ref (μ 0))]) hx hb d_MD_read_159 hl (by decide) rfl (fun ls hl => ?_)
                          exact st161 _ dt mo ls hmo hdt (Or.inr ⟨rfl, fun z => z.2.2 ⟨gx_eqn (b := 3) c_134, c_151⟩⟩) (lv_sub hl [0, 1, 2, 3, 4, 5, 6, 7, 8, 9, 10] rfl)
                        · skip
                          refine lv_iconst (v := 1) hx hb d_MD_read_154 (by decide) ?_
                          refine lv_goto (tgt := 159) hx hb d_MD_read_155 (by decide) ?_
                          refine lv_istore (lv' := [(10, .int 1), (9, .int (nI mo)), (8, .int dt), (7, .int (A 1 p9)), (6, .int (nI p9)), (5, .int (-1)), (1, .int (nI rows)), (2, .int (nI st)), (3, .int (nI dg)), (4, .int (nI kd)), (0, .ref (μ 0))]) hx hb d_MD_read_159 hl (by decide) rfl (fun ls hl => ?_)
                          exact st161 _ dt mo ls hmo hdt (Or.inl ⟨rfl, md_2le c_125, gx_npos c_129, fun z => c_151 z.2⟩) (lv_sub hl [0, 1, 2, 3, 4, 5, 6, 7, 8, 9, 10] rfl)
                have st105 : ∀ (dt : Int32) (ls : Array Slot) (hdt : (dt = 1 ∧ ¬ A 1 p9 < 48 ∧ ¬ 57 < A 1 p9) ∨ (dt = 0 ∧ (A 1 p9 < 48 ∨ 57 < A 1 p9))) (hl : lv_has ls 12 [(8, .int dt), (7, .int (A 1 p9)), (6, .int (nI p9)), (5, .int (-1)), (1, .int (nI rows)), (2, .int (nI st)), (3, .int (nI dg)), (4, .int (nI kd)), (0, .ref (μ 0))]), W p l e ({ frames := 1, cells := 0, slots := 0, locals := 40 } : Room) s m ([.ref (μ 0)] : List Value).toArray below meth c H locs 0 0 (MQ below (va_Qi (fun r w1 => (∃ q, q ≤ n ∧ r = -1 - nI q ∧ ∃ s9, md_end (A 1) n (0, 0, 0, 0, mw, md_cp (A 2) 24) (some q) s9 ∧ ∃ (x9 : Nat → Int32) (A9 : Nat → Nat → Int32), md_I cI cJ cZ w1 μ x9 A9 B ∧ x9 0 = 0 ∧ x9 1 = 0 ∧ x9 2 = x 2 ∧ x9 4 = x 4 ∧ x9 5 = x 5 ∧ (∀ k, k ≠ 2 → A9 k = A k) ∧ ∀ j, j < 24 → A9 2 j = A 2 j) ∨ (∃ s9 : md_S, md_end (A 1) n (0, 0, 0, 0, mw, md_cp (A 2) 24) none s9 ∧ r = nI s9.1 ∧ s9.2.2.2.2.1 < 64 ∧ ∃ (x9 : Nat → Int32) (A9 : Nat → Nat → Int32), md_I cI cJ cZ w1 μ x9 A9 B ∧ x9 0 = 0 ∧ x9 1 = 0 ∧ x9 2 = nI s9.2.2.2.2.1 ∧ x9 4 = x 4 ∧ x9 5 = x 5 ∧ (∀ k, k ≠ 2 → A9 k = A k) ∧ ∀ j, j < 24 → A9 2 j = s9.2.2.2.2.2 (24 + j))) (gx_B D classes ws sz) (va_A ws sz)) ([.ref (μ 0)] : List Value).toArray s 0 0 (va_A ws sz)) (F0 m 105 ls []) := by
                  intro dt ls hdt hl
                  refine lv_iload_n hx hb d_MD_read_105 rfl (lv_at hl 5 rfl) ?_
                  refine lv_iconst (v := 3) hx hb d_MD_read_106 (by decide) ?_
                  refine lv_icmp_eq (tgt := 115) hx hb d_MD_read_107 (by decide) (fun c_107 => ?_) (fun c_107 => ?_)
                  · skip
                    refine lv_iconst (v := 4) hx hb d_MD_read_115 (by decide) ?_
                    refine lv_goto (tgt := 121) hx hb d_MD_read_116 (by decide) ?_
                    refine lv_istore (lv' := [(9, .int 4), (8, .int dt), (7, .int (A 1 p9)), (6, .int (nI p9)), (5, .int (-1)), (1, .int (nI rows)), (2, .int (nI st)), (3, .int (nI dg)), (4, .int (nI kd)), (0, .ref (μ 0))]) hx hb d_MD_read_121 hl (by decide) rfl (fun ls hl => ?_)
                    exact st123 dt _ ls ((if_pos (Or.inl (gx_eqn (b := 3) c_107))).symm) hdt (lv_sub hl [0, 1, 2, 3, 4, 5, 6, 7, 8, 9] rfl)
                  · skip
                    refine lv_iload_n hx hb d_MD_read_110 rfl (lv_at hl 5 rfl) ?_
                    refine lv_iconst (v := 4) hx hb d_MD_read_111 (by decide) ?_
                    refine lv_icmp_ne (tgt := 119) hx hb d_MD_read_112 (by decide) (fun c_112 => ?_) (fun c_112 => ?_)
                    · skip
                      refine lv_bipush (v := 6) hx hb d_MD_read_119 (by decide) ?_
                      refine lv_istore (lv' := [(9, .int 6), (8, .int dt), (7, .int (A 1 p9)), (6, .int (nI p9)), (5, .int (-1)), (1, .int (nI rows)), (2, .int (nI st)), (3, .int (nI dg)), (4, .int (nI kd)), (0, .ref (μ 0))]) hx hb d_MD_read_121 hl (by decide) rfl (fun ls hl => ?_)
                      exact st123 dt _ ls ((if_neg (fun z => z.elim (fun z => c_107 (by rw [z]; rfl)) (fun z => c_112 (by rw [z]; rfl)))).symm) hdt (lv_sub hl [0, 1, 2, 3, 4, 5, 6, 7, 8, 9] rfl)
                    · skip
                      refine lv_iconst (v := 4) hx hb d_MD_read_115 (by decide) ?_
                      refine lv_goto (tgt := 121) hx hb d_MD_read_116 (by decide) ?_
                      refine lv_istore (lv' := [(9, .int 4), (8, .int dt), (7, .int (A 1 p9)), (6, .int (nI p9)), (5, .int (-1)), (1, .int (nI rows)), (2, .int (nI st)), (3, .int (nI dg)), (4, .int (nI kd)), (0, .ref (μ 0))]) hx hb d_MD_read_121 hl (by decide) rfl (fun ls hl => ?_)
                      exact st123 dt _ ls ((if_pos (Or.inr (gx_eqn (b := 4) c_112))).symm) hdt (lv_sub hl [0, 1, 2, 3, 4, 5, 6, 7, 8, 9] rfl)
                refine lv_aload_n hx hb d_MD_read_82 rfl (lv_at hl 6 rfl) ?_
                refine va_get (D := D) (ci := iMD) (v := .ref (μ 1)) (C := R_MD) (T := F_MD) (N := 23) hx hb (fl_MD hg) (fun _ h9 => h9) hown hK hP 0 (hM.1) rfl 1 (by decide) (hg _ k_557) (fun _ h9 => h9) rfl d_MD_read_83 ?_
                refine lv_iload hx hb d_MD_read_86 (lv_at hl 0 rfl) ?_
                refine gx_il (f := A 1) hx hb hK hP 1 0 (hM.2.1 1 (by decide) (by decide)) rfl p9 (rfl) (show p9 < 120 by omega) (by decide) d_MD_read_88 ?_
                refine lv_istore (lv' := [(7, .int ((A 1) p9)), (6, .int (nI p9)), (5, .int (-1)), (1, .int (nI rows)), (2, .int (nI st)), (3, .int (nI dg)), (4, .int (nI kd)), (0, .ref (μ 0))]) hx hb d_MD_read_89 hl (by decide) rfl (fun ls hl => ?_)
                refine lv_iload hx hb d_MD_read_91 (lv_at hl 0 rfl) ?_
                refine lv_i2l (v := ((A 1) p9).toInt64) hx hb d_MD_read_93 (rfl) ?_
                refine lv_ldc2 (v := 48) hx hb hown (hg _ k_644) d_MD_read_94 ?_
                refine lv_ldc2 (v := 57) hx hb hown (hg _ k_645) d_MD_read_97 ?_
                refine gx_readi (va_runS (As := [.long (((A 1) p9).toInt64), .long (48 : Int64), .long (57 : Int64)]) (rest := []) ⟨hx, hb, hml, hown, gx_nil⟩ (c_MD_in F _ _ _ _ _) ⟨gx_cb (hg _ k_639) (hg _ k_7) (hg _ k_637) nd_MD_in ⟨by decide, by decide⟩, hg _ k_638⟩ (gx_preS hV hP hD hS hA0) rfl rfl hl.1 rfl (lv_room (Nat.le_of_ble_eq_true rfl)) d_MD_read_100 ⟨by decide, by decide⟩) (fun r_100 h_100 => ?_)
                rcases h_100 with ⟨rfl, hi1, hi2⟩ | ⟨rfl, hib⟩
                · skip
                  refine lv_istore (lv' := [(8, .int 1), (7, .int ((A 1) p9)), (6, .int (nI p9)), (5, .int (-1)), (1, .int (nI rows)), (2, .int (nI st)), (3, .int (nI dg)), (4, .int (nI kd)), (0, .ref (μ 0))]) hx hb d_MD_read_103 hl (by decide) rfl (fun ls hl => ?_)
                  exact st105 _ ls (Or.inl ⟨rfl, md_good (lo := 48) (hi := 57) hi1 hi2⟩) (lv_sub hl [0, 1, 2, 3, 4, 5, 6, 7, 8] rfl)
                · skip
                  refine lv_istore (lv' := [(8, .int 0), (7, .int ((A 1) p9)), (6, .int (nI p9)), (5, .int (-1)), (1, .int (nI rows)), (2, .int (nI st)), (3, .int (nI dg)), (4, .int (nI kd)), (0, .ref (μ 0))]) hx hb d_MD_read_103 hl (by decide) rfl (fun ls hl => ?_)
                  exact st105 _ ls (Or.inr ⟨rfl, md_bad (lo := 48) (hi := 57) hib⟩) (lv_sub hl [0, 1, 2, 3, 4, 5, 6, 7, 8] rfl)
          exact loopm (n + 1) 0 0 0 0 0 mw (md_cp (A 2) 24) _ _ _ ls (by omega) (by omega) (by decide) (by decide) (by decide) hmw (by omega) (fun j hj => if_neg (by omega)) rfl (by rw [← hx2]; exact hM) hP hD hS (lv_sub hl [0, 1, 5, 4, 3, 2, 6] rfl)
        · skip
          have hn0 : n = 0 := gx_eqn (b := 0) (hx1.symm.trans c_55)
          refine lv_iconst (v := 0) hx hb d_MD_read_58 (by decide) ?_
          refine lv_goto (tgt := 63) hx hb d_MD_read_59 (by decide) ?_
          refine lv_istore (lv' := [(5, .int 0), (4, .int 0), (3, .int 0), (2, .int 0), (1, .int 0), (0, .ref (μ 0))]) hx hb d_MD_read_63 hl (by decide) rfl (fun ls hl => ?_)
          refine lv_iconst (v := 0) hx hb d_MD_read_65 (by decide) ?_
          refine lv_istore (lv' := [(6, .int 0), (5, .int 0), (4, .int 0), (3, .int 0), (2, .int 0), (1, .int 0), (0, .ref (μ 0))]) hx hb d_MD_read_66 hl (by decide) rfl (fun ls hl => ?_)
          refine lv_iload hx hb d_MD_read_68 (lv_at hl 0 rfl) ?_
          refine lv_aload_n hx hb d_MD_read_70 rfl (lv_at hl 6 rfl) ?_
          refine va_get (D := D) (ci := iMD) (v := .int (x 1)) (C := R_MD) (T := F_MD) (N := 23) hx hb (fl_MD hg) (fun _ h9 => h9) hown hK hP 0 (hM.1) rfl 2 (by decide) (hg _ k_558) (fun _ h9 => h9) rfl d_MD_read_71 ?_
          refine lv_icmp_ge (tgt := 386) hx hb d_MD_read_74 (by decide) (fun c_74 => ?_) (fun c_74 => absurd (show x 1 ≤ 0 by rw [hx1, hn0]; decide) c_74)
          exact st386 0 0 0 0 mw (md_cp (A 2) 24) _ _ _ _ ls (Or.inl ⟨0, Nat.zero_le n, rfl, (0, 0, 0, 0, mw, md_cp (A 2) 24), Or.inl ⟨hn0, rfl⟩⟩) (fun j hj => if_neg (by omega)) (by rw [← hx2]; exact hM) hP hD hS (lv_sub hl [1, 4, 5, 6] rfl)
      · skip
        have hi24 : i < 24 := gx_nlt (a := 24) c_18
        refine lv_aload_n hx hb d_MD_read_21 rfl (lv_at hl 1 rfl) ?_
        refine va_get (D := D) (ci := iMD) (v := .ref (μ 2)) (C := R_MD) (T := F_MD) (N := 23) hx hb (fl_MD hg) (fun _ h9 => h9) hown hK hP 0 (hM.1) rfl 4 (by decide) (hg _ k_560) (fun _ h9 => h9) rfl d_MD_read_22 ?_
        refine lv_bipush (v := 24) hx hb d_MD_read_25 (by decide) ?_
        refine lv_iload_n hx hb d_MD_read_27 rfl (lv_at hl 0 rfl) ?_
        refine lv_iadd hx hb d_MD_read_28 ?_
        refine lv_aload_n hx hb d_MD_read_29 rfl (lv_at hl 1 rfl) ?_
        refine va_get (D := D) (ci := iMD) (v := .ref (μ 2)) (C := R_MD) (T := F_MD) (N := 23) hx hb (fl_MD hg) (fun _ h9 => h9) hown hK hP 0 (hM.1) rfl 4 (by decide) (hg _ k_560) (fun _ h9 => h9) rfl d_MD_read_30 ?_
        refine lv_iload_n hx hb d_MD_read_33 rfl (lv_at hl 0 rfl) ?_
        refine gx_il (f := md_cp (A 2) i) hx hb hK hP 2 0 (hM.2.1 2 (by decide) (by decide)) rfl i (rfl) (show i < 48 by omega) (by decide) d_MD_read_34 ?_
        rw [md_cp_i hi24]
        refine gx_is (f := md_cp (A 2) i) hx hb hK hP hD hS 2 0 (hM.2.1 2 (by decide) (by decide)) rfl (24 + i) (by rw [show (24 : Int32) = nI 24 from rfl, nI_add]) (show 24 + i < 48 by omega) (by decide) d_MD_read_35 (fun H locs hP hD hS => ?_)
        obtain ⟨w_15, ew_15⟩ : ∃ y : va_W, y = wx.set 2 (μ 2, .inl (cI, md_n 2, .inl (upd (md_cp (A 2) i) (24 + i) (A 2 i)))) := ⟨_, rfl⟩
        replace hP : va_P D classes w_15 H := by rw [ew_15]; exact hP
        replace hD : va_D (va_A ws sz) w_15 := by rw [ew_15]; exact hD
        replace hM : md_I cI cJ cZ w_15 μ (upd (upd x 0 0) 3 (x 2)) (cb_upr (cb_upr A 2 (md_cp (A 2) i)) 2 (upd (md_cp (A 2) i) (24 + i) (A 2 i))) B := by rw [ew_15]; exact md_I.int (by decide) (by decide) hM
        refine lv_iinc (v := nI (i + 1)) (lv' := [(1, .int (nI (i + 1))), (0, .ref (μ 0))]) hx hb d_MD_read_36 hl (k := 0) rfl (by rw [lit1]; exact nI_1 i) (by decide) rfl (fun ls hl => ?_)
        refine lv_goto (tgt := 15) hx hb d_MD_read_39 (by decide) ?_
        exact ih (i + 1) _ _ _ ls (by omega) (by omega) (by rw [cb_upr_upr, md_cp_s hi24] at hM; exact hM) hP hD hS (lv_sub hl [0, 1] rfl)
  exact loop0 25 0 _ _ _ ls (by decide) (by decide) (by rw [md_cp_0, cb_upr_id]; exact hM) hP hD hS (lv_sub hl [0, 1] rfl)

