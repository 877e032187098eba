theorem md_kce_eq {x2 : Int32} {A : Nat → Nat → Int32} {k j nw d : Nat} {ch : Int32} {ce le v : Int64} (hch : ch = md_kch x2 A k j nw) (hce : ce = md_ce (md_pa A (6 * k + j) (md_ab x2 A j ch) d) (md_pb A (6 * k + j) (md_be x2 A j) d)) (hle : le = md_le x2 A j ch) (hv : (¬ ce < le ∧ v = ce) ∨ (ce < le ∧ v = le)) : v = md_kce x2 A k j nw d := by
  unfold md_kce md_mx
  rw [← hch, ← hce, ← hle]
  rcases hv with ⟨h1, h2⟩ | ⟨h1, h2⟩
  · rw [if_neg h1]; exact h2
  · rw [if_pos h1]; exact h2

set_option maxRecDepth 100000 in
set_option maxHeartbeats 4000000 in
theorem c_MD_billKind {l : Launch} {s0 : State} {D : va_G} {cI cC cJ cII cO cZ : ClassId} (F : FX l s0 D cI cC cJ cII cO cZ) {ws : va_W} {μ : Nat → Nat} {x : Nat → Int32} {A : Nat → Nat → Int32} {B : Nat → Nat → Int64} (hM : md_I cI cJ cZ ws μ x A B) (sz : Nat) (nl : Nat) (hlt : nl < 200) (hx5 : x 5 = nI nl) (nw : Nat) (hnw : nw ≤ 100) (hx4 : x 4 = nI nw) (k j d : Nat) (hk : k < 10) (hj : j < 6) (hd3 : d ≤ 3) (hd9 : A 6 (6 * k + j) = nI d) (hbel : ¬ md_pb A (6 * k + j) (md_be (x 2) A j) d = 0)  : Met l y_MD_billKind [.code y_MD_billKind b_MD_billKind 16 none] { frames := 1, cells := 0, slots := 0, locals := 40 } (gx_P s0 D classes ws sz [.ref (μ 0), .int (nI k), .int (nI j)]) (va_Qv (fun w1 => md_I cI cJ cZ w1 μ (upd x 5 (x 5 + 1)) (md_nl (cb_upr A 17 (upd (A 17) nl (md_fb (x 2) j))) nl (nI k) (nI j) (md_us A (nI k) (nI j) nw) (md_kch (x 2) A k j nw) (-1)) (cb_upr B 14 (vp_updL (B 14) nl (md_kce (x 2) A k j nw d)))) (gx_B D classes ws sz) (va_A ws sz)) 0 0 (va_A ws sz) := by
  refine gx_met (by decide +kernel) (Nat.le_of_ble_eq_true rfl) ?_
  intro p e s m below meth c ls hx hb hr hml hown hlocks hnm hsz hV hP hD hS hA hA0 hl
  have hg := fx_g F hV ([.ref (μ 0), .int (nI k), .int (nI j)] : List Value).toArray
  have hK := fx_k F hV
  have hn9 := fx_n F hV
  have hl : lv_has ls 16 [(0, .ref (μ 0)), (1, .int (nI k)), (2, .int (nI j))] := hl
  refine lv_aload_n hx hb d_MD_billKind_0 rfl (lv_at hl 0 rfl) ?_
  refine va_get (D := D) (ci := iMD) (v := .int (x 2)) (C := R_MD) (T := F_MD) (N := 23) hx hb (fl_MD hg) (fun _ h9 => h9) hown hK hP 0 (hM.1) rfl 3 (by decide) (hg _ k_559) (fun _ h9 => h9) rfl d_MD_billKind_1 ?_
  refine lv_iload_n hx hb d_MD_billKind_4 rfl (lv_at hl 2 rfl) ?_
  refine lv_ishr hx hb d_MD_billKind_5 ?_
  refine lv_iconst (v := 1) hx hb d_MD_billKind_6 (by decide) ?_
  refine lv_iand hx hb d_MD_billKind_7 ?_
  refine lv_iconst (v := 1) hx hb d_MD_billKind_8 (by decide) ?_
  refine lv_icmp_ne (tgt := 16) hx hb d_MD_billKind_9 (by decide) (fun c_9 => ?_) (fun c_9 => ?_)
  · skip
    refine lv_iconst (v := 0) hx hb d_MD_billKind_16 (by decide) ?_
    have hh := c_9
    refine lv_istore_n (lv' := [(3, .int 0), (0, .ref (μ 0)), (1, .int (nI k)), (2, .int (nI j))]) hx hb d_MD_billKind_17 rfl hl (by decide) rfl (fun ls hl => ?_)
    refine lv_aload_n hx hb d_MD_billKind_18 rfl (lv_at hl 1 rfl) ?_
    refine lv_iload_n hx hb d_MD_billKind_19 rfl (lv_at hl 2 rfl) ?_
    refine lv_iload_n hx hb d_MD_billKind_20 rfl (lv_at hl 3 rfl) ?_
    refine gx_readi (va_runV (As := [.int (nI k), .int (nI j)]) (rest := []) ⟨hx, hb, hml, hown, gx_nil⟩ (c_MD_unitsOf F hM _ nw hnw hx4 _ _) ⟨gx_cb (hg _ k_686) (hg _ k_7) (hg _ k_683) nd_MD_unitsOf ⟨by decide, by decide⟩, hg _ k_685, hg _ ks_23⟩ (gx_preV hV hP hD hS hA0 (va_recv hK hP rfl (hM.1))) rfl rfl hl.1 rfl (lv_room (Nat.le_of_ble_eq_true rfl)) d_MD_billKind_21 ⟨by decide, by decide⟩) (fun r_21 h_21 => ?_)
    subst h_21
    refine lv_istore (lv' := [(4, .int (md_us A (nI k) (nI j) nw)), (3, .int 0), (0, .ref (μ 0)), (1, .int (nI k)), (2, .int (nI j))]) hx hb d_MD_billKind_24 hl (by decide) rfl (fun ls hl => ?_)
    refine lv_iload_n hx hb d_MD_billKind_26 rfl (lv_at hl 1 rfl) ?_
    refine lv_if_eq (tgt := 43) hx hb d_MD_billKind_27 (by decide) (fun c_27 => ?_) (fun c_27 => absurd c_27 (by decide))
    refine lv_iconst (v := 0) hx hb d_MD_billKind_43 (by decide) ?_
    rw [show (0 : Int32) = md_free (x 2) A j from (if_neg hh).symm]
    refine lv_istore (lv' := [(5, .int (md_free (x 2) A j)), (4, .int (md_us A (nI k) (nI j) nw)), (3, .int 0), (0, .ref (μ 0)), (1, .int (nI k)), (2, .int (nI j))]) hx hb d_MD_billKind_44 hl (by decide) rfl (fun ls hl => ?_)
    have st64 : ∀ (ch : Int32) (ls : Array Slot) (hch : ch = md_kch (x 2) A k j nw) (hl : lv_has ls 16 [(6, .int ch), (3, .int 0), (0, .ref (μ 0)), (1, .int (nI k)), (2, .int (nI j)), (4, .int (md_us A (nI k) (nI j) nw))]), W p l e ({ frames := 1, cells := 0, slots := 0, locals := 40 } : Room) s m ([.ref (μ 0), .int (nI k), .int (nI j)] : List Value).toArray below meth c s.heap [] 0 0 (MQ below (va_Qv (fun w1 => md_I cI cJ cZ w1 μ (upd x 5 (x 5 + 1)) (md_nl (cb_upr A 17 (upd (A 17) nl (md_fb (x 2) j))) nl (nI k) (nI j) (md_us A (nI k) (nI j) nw) (md_kch (x 2) A k j nw) (-1)) (cb_upr B 14 (vp_updL (B 14) nl (md_kce (x 2) A k j nw d)))) (gx_B D classes ws sz) (va_A ws sz)) ([.ref (μ 0), .int (nI k), .int (nI j)] : List Value).toArray s 0 0 (va_A ws sz)) (F0 m 64 ls []) := by
      intro ch ls hch hl
      refine lv_iload_n hx hb d_MD_billKind_64 rfl (lv_at hl 1 rfl) ?_
      refine lv_if_eq (tgt := 79) hx hb d_MD_billKind_65 (by decide) (fun c_65 => ?_) (fun c_65 => absurd c_65 (by decide))
      refine lv_bipush (v := 7) hx hb d_MD_billKind_79 (by decide) ?_
      refine lv_i2l (v := (7 : Int32).toInt64) hx hb d_MD_billKind_81 (rfl) ?_
      refine lv_iload hx hb d_MD_billKind_82 (lv_at hl 0 rfl) ?_
      refine lv_i2l (v := ch.toInt64) hx hb d_MD_billKind_84 (rfl) ?_
      refine lv_lmul hx hb d_MD_billKind_85 ?_
      rw [show ((7 : Int32).toInt64) * ch.toInt64 = md_ab (x 2) A j ch from congrArg (fun q : Int32 => q.toInt64 * ch.toInt64) (if_neg hh).symm]
      refine lv_lstore (lv' := [(7, .long (md_ab (x 2) A j ch)), (6, .int ch), (3, .int 0), (0, .ref (μ 0)), (1, .int (nI k)), (2, .int (nI j)), (4, .int (md_us A (nI k) (nI j) nw))]) hx hb d_MD_billKind_86 hl (by decide) rfl (fun ls hl => ?_)
      refine lv_iload_n hx hb d_MD_billKind_88 rfl (lv_at hl 2 rfl) ?_
      refine lv_if_eq (tgt := 106) hx hb d_MD_billKind_89 (by decide) (fun c_89 => ?_) (fun c_89 => absurd c_89 (by decide))
      refine lv_lconst (v := 1) hx hb d_MD_billKind_106 (by decide) ?_
      rw [show (1 : Int64) = md_be (x 2) A j from (if_neg hh).symm]
      refine lv_lstore (lv' := [(9, .long (md_be (x 2) A j)), (7, .long (md_ab (x 2) A j ch)), (6, .int ch), (3, .int 0), (0, .ref (μ 0)), (1, .int (nI k)), (2, .int (nI j)), (4, .int (md_us A (nI k) (nI j) nw))]) hx hb d_MD_billKind_107 hl (by decide) rfl (fun ls hl => ?_)
      refine lv_bipush (v := 6) hx hb d_MD_billKind_109 (by decide) ?_
      refine lv_iload_n hx hb d_MD_billKind_111 rfl (lv_at hl 5 rfl) ?_
      refine lv_imul hx hb d_MD_billKind_112 ?_
      rw [show (6 : Int32) * nI k = nI (6 * k) by rw [show (6 : Int32) = nI 6 from rfl, md_mul]]
      refine lv_iload_n hx hb d_MD_billKind_113 rfl (lv_at hl 6 rfl) ?_
      refine lv_iadd hx hb d_MD_billKind_114 ?_
      rw [nI_add]
      refine lv_istore (lv' := [(11, .int (nI (6 * k + j))), (9, .long (md_be (x 2) A j)), (7, .long (md_ab (x 2) A j ch)), (6, .int ch), (3, .int 0), (0, .ref (μ 0)), (1, .int (nI k)), (2, .int (nI j)), (4, .int (md_us A (nI k) (nI j) nw))]) hx hb d_MD_billKind_115 hl (by decide) rfl (fun ls hl => ?_)
      refine lv_iconst (v := 3) hx hb d_MD_billKind_117 (by decide) ?_
      refine lv_iload hx hb d_MD_billKind_118 (lv_at hl 0 rfl) ?_
      refine lv_imul hx hb d_MD_billKind_120 ?_
      rw [show (3 : Int32) * nI (6 * k + j) = nI (3 * (6 * k + j)) by rw [show (3 : Int32) = nI 3 from rfl, md_mul]]
      refine lv_istore (lv' := [(12, .int (nI (3 * (6 * k + j)))), (11, .int (nI (6 * k + j))), (9, .long (md_be (x 2) A j)), (7, .long (md_ab (x 2) A j ch)), (6, .int ch), (3, .int 0), (0, .ref (μ 0)), (1, .int (nI k)), (2, .int (nI j)), (4, .int (md_us A (nI k) (nI j) nw))]) hx hb d_MD_billKind_121 hl (by decide) rfl (fun ls hl => ?_)
      have loop : ∀ (nn : Nat) (i : Nat) (ls : Array Slot) (hi : i ≤ d) (hf : d + 1 ≤ i + nn) (hl : lv_has ls 16 [(12, .int (nI (3 * (6 * k + j) + i))), (7, .long (md_pa A (6 * k + j) (md_ab (x 2) A j ch) i)), (9, .long (md_pb A (6 * k + j) (md_be (x 2) A j) i)), (11, .int (nI (6 * k + j))), (6, .int ch), (3, .int 0), (0, .ref (μ 0)), (1, .int (nI k)), (2, .int (nI j)), (4, .int (md_us A (nI k) (nI j) nw))]), W p l e ({ frames := 1, cells := 0, slots := 0, locals := 40 } : Room) s m ([.ref (μ 0), .int (nI k), .int (nI j)] : List Value).toArray below meth c s.heap [] 0 0 (MQ below (va_Qv (fun w1 => md_I cI cJ cZ w1 μ (upd x 5 (x 5 + 1)) (md_nl (cb_upr A 17 (upd (A 17) nl (md_fb (x 2) j))) nl (nI k) (nI j) (md_us A (nI k) (nI j) nw) (md_kch (x 2) A k j nw) (-1)) (cb_upr B 14 (vp_updL (B 14) nl (md_kce (x 2) A k j nw d)))) (gx_B D classes ws sz) (va_A ws sz)) ([.ref (μ 0), .int (nI k), .int (nI j)] : List Value).toArray s 0 0 (va_A ws sz)) (F0 m 123 ls []) := by
        intro nn
        induction nn with
        | zero =>
          intro i ls hi hf hl
          exact absurd hf (by omega)
        | succ nn ih =>
          intro i ls hi hf hl
          refine lv_iload hx hb d_MD_billKind_123 (lv_at hl 0 rfl) ?_
          refine lv_iconst (v := 3) hx hb d_MD_billKind_125 (by decide) ?_
          refine lv_iload hx hb d_MD_billKind_126 (lv_at hl 3 rfl) ?_
          refine lv_imul hx hb d_MD_billKind_128 ?_
          rw [show (3 : Int32) * nI (6 * k + j) = nI (3 * (6 * k + j)) by rw [show (3 : Int32) = nI 3 from rfl, md_mul]]
          refine lv_aload_n hx hb d_MD_billKind_129 rfl (lv_at hl 6 rfl) ?_
          refine va_get (D := D) (ci := iMD) (v := .ref (μ 6)) (C := R_MD) (T := F_MD) (N := 23) hx hb (fl_MD hg) (fun _ h9 => h9) hown hK hP 0 (hM.1) rfl 10 (by decide) (hg _ k_566) (fun _ h9 => h9) rfl d_MD_billKind_130 ?_
          refine lv_iload hx hb d_MD_billKind_133 (lv_at hl 3 rfl) ?_
          refine gx_il (f := A 6) hx hb hK hP 6 0 (hM.2.1 6 (by decide) (by decide)) rfl (6 * k + j) (rfl) (show 6 * k + j < 60 by omega) (by decide) d_MD_billKind_135 ?_
          refine lv_iadd hx hb d_MD_billKind_136 ?_
          rw [hd9, nI_add]
          refine lv_icmp_ge (tgt := 180) hx hb d_MD_billKind_137 (by decide) (fun c_137 => ?_) (fun c_137 => ?_)
          · skip
            have hin : i = d := by have := gx_ngt c_137; omega
            rw [hin] at hl
            have st208 : ∀ (ce : Int64) (ls : Array Slot) (hce : ce = md_ce (md_pa A (6 * k + j) (md_ab (x 2) A j ch) d) (md_pb A (6 * k + j) (md_be (x 2) A j) d)) (hl : lv_has ls 16 [(12, .long ce), (6, .int ch), (3, .int 0), (0, .ref (μ 0)), (1, .int (nI k)), (2, .int (nI j)), (4, .int (md_us A (nI k) (nI j) nw))]), W p l e ({ frames := 1, cells := 0, slots := 0, locals := 40 } : Room) s m ([.ref (μ 0), .int (nI k), .int (nI j)] : List Value).toArray below meth c s.heap [] 0 0 (MQ below (va_Qv (fun w1 => md_I cI cJ cZ w1 μ (upd x 5 (x 5 + 1)) (md_nl (cb_upr A 17 (upd (A 17) nl (md_fb (x 2) j))) nl (nI k) (nI j) (md_us A (nI k) (nI j) nw) (md_kch (x 2) A k j nw) (-1)) (cb_upr B 14 (vp_updL (B 14) nl (md_kce (x 2) A k j nw d)))) (gx_B D classes ws sz) (va_A ws sz)) ([.ref (μ 0), .int (nI k), .int (nI j)] : List Value).toArray s 0 0 (va_A ws sz)) (F0 m 208 ls []) := by
              intro ce ls hce hl
              refine lv_iload_n hx hb d_MD_billKind_208 rfl (lv_at hl 2 rfl) ?_
              refine lv_if_eq (tgt := 231) hx hb d_MD_billKind_209 (by decide) (fun c_209 => ?_) (fun c_209 => absurd c_209 (by decide))
              refine lv_lconst (v := 0) hx hb d_MD_billKind_231 (by decide) ?_
              rw [show (0 : Int64) = md_le (x 2) A j ch from (if_neg hh).symm]
              refine lv_lstore (lv' := [(14, .long (md_le (x 2) A j ch)), (12, .long ce), (6, .int ch), (3, .int 0), (0, .ref (μ 0)), (1, .int (nI k)), (2, .int (nI j)), (4, .int (md_us A (nI k) (nI j) nw))]) hx hb d_MD_billKind_232 hl (by decide) rfl (fun ls hl => ?_)
              refine lv_aload_n hx hb d_MD_billKind_234 rfl (lv_at hl 4 rfl) ?_
              refine va_get (D := D) (ci := iMD) (v := .ref (μ 17)) (C := R_MD) (T := F_MD) (N := 23) hx hb (fl_MD hg) (fun _ h9 => h9) hown hK hP 0 (hM.1) rfl 21 (by decide) (hg _ k_577) (fun _ h9 => h9) rfl d_MD_billKind_235 ?_
              refine lv_aload_n hx hb d_MD_billKind_238 rfl (lv_at hl 4 rfl) ?_
              refine va_get (D := D) (ci := iMD) (v := .int (x 5)) (C := R_MD) (T := F_MD) (N := 23) hx hb (fl_MD hg) (fun _ h9 => h9) hown hK hP 0 (hM.1) rfl 13 (by decide) (hg _ k_569) (fun _ h9 => h9) rfl d_MD_billKind_239 ?_
              refine lv_iload_n hx hb d_MD_billKind_242 rfl (lv_at hl 3 rfl) ?_
              refine lv_if_ne (tgt := 250) hx hb d_MD_billKind_243 (by decide) (fun c_243 => absurd c_243 (by decide)) (fun c_243 => ?_)
              refine lv_iconst (v := 1) hx hb d_MD_billKind_246 (by decide) ?_
              refine lv_goto (tgt := 251) hx hb d_MD_billKind_247 (by decide) ?_
              refine gx_zs (f := A 17) hx hb hK hP hD hS 17 5 (hM.2.2.2 17 (by decide) (by decide)) rfl nl (hx5) (show nl < 200 from hlt) (by decide) (rfl) d_MD_billKind_251 (fun H locs hP hD hS => ?_)
              obtain ⟨w_1, ew_1⟩ : ∃ y : va_W, y = ws.set 17 (μ 17, .inl (cZ, md_n 17, .inl (upd (A 17) nl 1))) := ⟨_, rfl⟩
              replace hP : va_P D classes w_1 H := by rw [ew_1]; exact hP
              replace hD : va_D (va_A ws sz) w_1 := by rw [ew_1]; exact hD
              replace hM : md_I cI cJ cZ w_1 μ x (cb_upr A 17 (upd (A 17) nl 1)) B := by rw [ew_1]; exact md_I.boo (by decide) (by decide) hM
              refine lv_aload_n hx hb d_MD_billKind_252 rfl (lv_at hl 4 rfl) ?_
              refine lv_iload_n hx hb d_MD_billKind_253 rfl (lv_at hl 5 rfl) ?_
              refine lv_iload_n hx hb d_MD_billKind_254 rfl (lv_at hl 6 rfl) ?_
              refine lv_iload hx hb d_MD_billKind_255 (lv_at hl 7 rfl) ?_
              refine lv_iload hx hb d_MD_billKind_257 (lv_at hl 2 rfl) ?_
              refine lv_lload hx hb d_MD_billKind_259 (lv_at hl 1 rfl) ?_
              refine lv_lload hx hb d_MD_billKind_261 (lv_at hl 0 rfl) ?_
              refine W.lcmp hx hb d_MD_billKind_263 ?_
              refine lv_if_ge (tgt := 272) hx hb d_MD_billKind_264 (by decide) (fun c_264 => ?_) (fun c_264 => ?_)
              · skip
                refine lv_lload hx hb d_MD_billKind_272 (lv_at hl 1 rfl) ?_
                obtain ⟨vv, hvv⟩ : ∃ q : Int64, q = ce := ⟨_, rfl⟩
                rw [← hvv]
                have hfin := md_kce_eq hch hce rfl (Or.inl ⟨Int64.not_lt.mpr ((lg_cmp_ge _ _).mp c_264), rfl⟩)
                rw [← hvv] at hfin
                refine lv_iconst (v := (-1)) hx hb d_MD_billKind_274 (by decide) ?_
                refine gx_callv (va_runV (As := [.int (nI k), .int (nI j), .int (md_us A (nI k) (nI j) nw), .int ch, .long vv, .int (-1)]) (rest := []) ⟨hx, hb, hml, hown, gx_nil⟩ (c_MD_newLine F hM _ nl hlt hx5 _ _ _ _ _ _) ⟨gx_cb (hg _ k_695) (hg _ k_7) (hg _ k_692) nd_MD_newLine ⟨by decide, by decide⟩, hg _ k_694, hg _ ks_25⟩ (gx_preV hV hP hD hS hA0 (va_recv hK hP rfl (hM.1))) rfl rfl hl.1 rfl (lv_room (Nat.le_of_ble_eq_true rfl)) d_MD_billKind_275 ⟨by decide, by decide⟩) hD hS hA (fun w1 H locs h_275 hP hD hS => ?_)
                exact gx_vret hx hb hr hlocks hS hP hD (by decide) (by decide) d_MD_billKind_278 (by rw [← hfin, ← hch, show md_fb (x 2) j = 1 from if_neg hh]; exact h_275)
              · skip
                refine lv_lload hx hb d_MD_billKind_267 (lv_at hl 0 rfl) ?_
                refine lv_goto (tgt := 274) hx hb d_MD_billKind_269 (by decide) ?_
                obtain ⟨vv, hvv⟩ : ∃ q : Int64, q = md_le (x 2) A j ch := ⟨_, rfl⟩
                rw [← hvv]
                have hfin := md_kce_eq hch hce rfl (Or.inr ⟨Int64.not_le.mp (fun q => c_264 ((lg_cmp_ge _ _).mpr q)), rfl⟩)
                rw [← hvv] at hfin
                refine lv_iconst (v := (-1)) hx hb d_MD_billKind_274 (by decide) ?_
                refine gx_callv (va_runV (As := [.int (nI k), .int (nI j), .int (md_us A (nI k) (nI j) nw), .int ch, .long vv, .int (-1)]) (rest := []) ⟨hx, hb, hml, hown, gx_nil⟩ (c_MD_newLine F hM _ nl hlt hx5 _ _ _ _ _ _) ⟨gx_cb (hg _ k_695) (hg _ k_7) (hg _ k_692) nd_MD_newLine ⟨by decide, by decide⟩, hg _ k_694, hg _ ks_25⟩ (gx_preV hV hP hD hS hA0 (va_recv hK hP rfl (hM.1))) rfl rfl hl.1 rfl (lv_room (Nat.le_of_ble_eq_true rfl)) d_MD_billKind_275 ⟨by decide, by decide⟩) hD hS hA (fun w1 H locs h_275 hP hD hS => ?_)
                exact gx_vret hx hb hr hlocks hS hP hD (by decide) (by decide) d_MD_billKind_278 (by rw [← hfin, ← hch, show md_fb (x 2) j = 1 from if_neg hh]; exact h_275)
            refine lv_lload hx hb d_MD_billKind_180 (lv_at hl 1 rfl) ?_
            refine lv_lload hx hb d_MD_billKind_182 (lv_at hl 2 rfl) ?_
            refine lv_ldiv hx hb d_MD_billKind_184 (hbel) ?_
            refine lv_ldc2 (v := 2) hx hb hown (hg _ k_691) d_MD_billKind_185 ?_
            refine lv_lload hx hb d_MD_billKind_188 (lv_at hl 1 rfl) ?_
            refine lv_lload hx hb d_MD_billKind_190 (lv_at hl 2 rfl) ?_
            refine lv_lrem hx hb d_MD_billKind_192 (hbel) ?_
            refine lv_lmul hx hb d_MD_billKind_193 ?_
            refine lv_lload hx hb d_MD_billKind_194 (lv_at hl 2 rfl) ?_
            refine W.lcmp hx hb d_MD_billKind_196 ?_
            refine lv_if_lt (tgt := 204) hx hb d_MD_billKind_197 (by decide) (fun c_197 => ?_) (fun c_197 => ?_)
            · skip
              refine lv_lconst (v := 0) hx hb d_MD_billKind_204 (by decide) ?_
              refine lv_ladd hx hb d_MD_billKind_205 ?_
              refine lv_lstore (lv' := [(12, .long (((md_pa A (6 * k + j) (md_ab (x 2) A j ch) d) / (md_pb A (6 * k + j) (md_be (x 2) A j) d)) + (0 : Int64))), (7, .long (md_pa A (6 * k + j) (md_ab (x 2) A j ch) d)), (9, .long (md_pb A (6 * k + j) (md_be (x 2) A j) d)), (11, .int (nI (6 * k + j))), (6, .int ch), (3, .int 0), (0, .ref (μ 0)), (1, .int (nI k)), (2, .int (nI j)), (4, .int (md_us A (nI k) (nI j) nw))]) hx hb d_MD_billKind_206 hl (by decide) rfl (fun ls hl => ?_)
              exact st208 _ ls (congrArg (_ + ·) (if_pos ((lg_cmp_lt _ _).mp c_197)).symm) (lv_sub hl [0, 4, 5, 6, 7, 8, 9] rfl)
            · skip
              refine lv_lconst (v := 1) hx hb d_MD_billKind_200 (by decide) ?_
              refine lv_goto (tgt := 205) hx hb d_MD_billKind_201 (by decide) ?_
              refine lv_ladd hx hb d_MD_billKind_205 ?_
              refine lv_lstore (lv' := [(12, .long (((md_pa A (6 * k + j) (md_ab (x 2) A j ch) d) / (md_pb A (6 * k + j) (md_be (x 2) A j) d)) + (1 : Int64))), (7, .long (md_pa A (6 * k + j) (md_ab (x 2) A j ch) d)), (9, .long (md_pb A (6 * k + j) (md_be (x 2) A j) d)), (11, .int (nI (6 * k + j))), (6, .int ch), (3, .int 0), (0, .ref (μ 0)), (1, .int (nI k)), (2, .int (nI j)), (4, .int (md_us A (nI k) (nI j) nw))]) hx hb d_MD_billKind_206 hl (by decide) rfl (fun ls hl => ?_)
              exact st208 _ ls (congrArg (_ + ·) (if_neg (fun q => c_197 ((lg_cmp_lt _ _).mpr q))).symm) (lv_sub hl [0, 4, 5, 6, 7, 8, 9] rfl)
          · skip
            have hin : i < d := by have := gx_nlt c_137; omega
            refine lv_lload hx hb d_MD_billKind_140 (lv_at hl 1 rfl) ?_
            refine lv_aload_n hx hb d_MD_billKind_142 rfl (lv_at hl 6 rfl) ?_
            refine va_get (D := D) (ci := iMD) (v := .ref (μ 8)) (C := R_MD) (T := F_MD) (N := 23) hx hb (fl_MD hg) (fun _ h9 => h9) hown hK hP 0 (hM.1) rfl 12 (by decide) (hg _ k_568) (fun _ h9 => h9) rfl d_MD_billKind_143 ?_
            refine lv_iload hx hb d_MD_billKind_146 (lv_at hl 0 rfl) ?_
            refine gx_il (f := A 8) hx hb hK hP 8 0 (hM.2.1 8 (by decide) (by decide)) rfl (3 * (6 * k + j) + i) (rfl) (show 3 * (6 * k + j) + i < 180 by omega) (by decide) d_MD_billKind_148 ?_
            refine lv_aload_n hx hb d_MD_billKind_149 rfl (lv_at hl 6 rfl) ?_
            refine va_get (D := D) (ci := iMD) (v := .ref (μ 7)) (C := R_MD) (T := F_MD) (N := 23) hx hb (fl_MD hg) (fun _ h9 => h9) hown hK hP 0 (hM.1) rfl 11 (by decide) (hg _ k_567) (fun _ h9 => h9) rfl d_MD_billKind_150 ?_
            refine lv_iload hx hb d_MD_billKind_153 (lv_at hl 0 rfl) ?_
            refine gx_il (f := A 7) hx hb hK hP 7 0 (hM.2.1 7 (by decide) (by decide)) rfl (3 * (6 * k + j) + i) (rfl) (show 3 * (6 * k + j) + i < 180 by omega) (by decide) d_MD_billKind_155 ?_
            refine lv_isub hx hb d_MD_billKind_156 ?_
            refine lv_i2l (v := (((A 8) (3 * (6 * k + j) + i)) - ((A 7) (3 * (6 * k + j) + i))).toInt64) hx hb d_MD_billKind_157 (rfl) ?_
            refine lv_lmul hx hb d_MD_billKind_158 ?_
            refine lv_lstore (lv' := [(7, .long ((md_pa A (6 * k + j) (md_ab (x 2) A j ch) i) * ((((A 8) (3 * (6 * k + j) + i)) - ((A 7) (3 * (6 * k + j) + i))).toInt64))), (12, .int (nI (3 * (6 * k + j) + i))), (9, .long (md_pb A (6 * k + j) (md_be (x 2) A j) i)), (11, .int (nI (6 * k + j))), (6, .int ch), (3, .int 0), (0, .ref (μ 0)), (1, .int (nI k)), (2, .int (nI j)), (4, .int (md_us A (nI k) (nI j) nw))]) hx hb d_MD_billKind_159 hl (by decide) rfl (fun ls hl => ?_)
            refine lv_lload hx hb d_MD_billKind_161 (lv_at hl 2 rfl) ?_
            refine lv_aload_n hx hb d_MD_billKind_163 rfl (lv_at hl 6 rfl) ?_
            refine va_get (D := D) (ci := iMD) (v := .ref (μ 8)) (C := R_MD) (T := F_MD) (N := 23) hx hb (fl_MD hg) (fun _ h9 => h9) hown hK hP 0 (hM.1) rfl 12 (by decide) (hg _ k_568) (fun _ h9 => h9) rfl d_MD_billKind_164 ?_
            refine lv_iload hx hb d_MD_billKind_167 (lv_at hl 1 rfl) ?_
            refine gx_il (f := A 8) hx hb hK hP 8 0 (hM.2.1 8 (by decide) (by decide)) rfl (3 * (6 * k + j) + i) (rfl) (show 3 * (6 * k + j) + i < 180 by omega) (by decide) d_MD_billKind_169 ?_
            refine lv_i2l (v := ((A 8) (3 * (6 * k + j) + i)).toInt64) hx hb d_MD_billKind_170 (rfl) ?_
            refine lv_lmul hx hb d_MD_billKind_171 ?_
            refine lv_lstore (lv' := [(9, .long ((md_pb A (6 * k + j) (md_be (x 2) A j) i) * (((A 8) (3 * (6 * k + j) + i)).toInt64))), (7, .long ((md_pa A (6 * k + j) (md_ab (x 2) A j ch) i) * ((((A 8) (3 * (6 * k + j) + i)) - ((A 7) (3 * (6 * k + j) + i))).toInt64))), (12, .int (nI (3 * (6 * k + j) + i))), (11, .int (nI (6 * k + j))), (6, .int ch), (3, .int 0), (0, .ref (μ 0)), (1, .int (nI k)), (2, .int (nI j)), (4, .int (md_us A (nI k) (nI j) nw))]) hx hb d_MD_billKind_172 hl (by decide) rfl (fun ls hl => ?_)
            refine lv_iinc (v := nI (3 * (6 * k + j) + (i + 1))) (lv' := [(12, .int (nI (3 * (6 * k + j) + (i + 1)))), (9, .long ((md_pb A (6 * k + j) (md_be (x 2) A j) i) * (((A 8) (3 * (6 * k + j) + i)).toInt64))), (7, .long ((md_pa A (6 * k + j) (md_ab (x 2) A j ch) i) * ((((A 8) (3 * (6 * k + j) + i)) - ((A 7) (3 * (6 * k + j) + i))).toInt64))), (11, .int (nI (6 * k + j))), (6, .int ch), (3, .int 0), (0, .ref (μ 0)), (1, .int (nI k)), (2, .int (nI j)), (4, .int (md_us A (nI k) (nI j) nw))]) hx hb d_MD_billKind_174 hl (k := 2) rfl (by rw [lit1]; exact nI_1 _) (by decide) rfl (fun ls hl => ?_)
            refine lv_goto (tgt := 123) hx hb d_MD_billKind_177 (by decide) ?_
            exact ih (i + 1) ls (by omega) (by omega) (lv_sub hl [0, 2, 1, 3, 4, 5, 6, 7, 8, 9] rfl)
      exact loop (d + 1) 0 ls (by omega) (by omega) (lv_sub hl [0, 3, 2, 1, 4, 5, 6, 7, 8, 9] rfl)
    refine lv_iload hx hb d_MD_billKind_46 (lv_at hl 1 rfl) ?_
    refine lv_iload hx hb d_MD_billKind_48 (lv_at hl 0 rfl) ?_
    refine lv_icmp_le (tgt := 61) hx hb d_MD_billKind_50 (by decide) (fun c_50 => ?_) (fun c_50 => ?_)
    · skip
      refine lv_iconst (v := 0) hx hb d_MD_billKind_61 (by decide) ?_
      refine lv_istore (lv' := [(6, .int 0), (5, .int (md_free (x 2) A j)), (4, .int (md_us A (nI k) (nI j) nw)), (3, .int 0), (0, .ref (μ 0)), (1, .int (nI k)), (2, .int (nI j))]) hx hb d_MD_billKind_62 hl (by decide) rfl (fun ls hl => ?_)
      exact st64 _ ls ((if_pos c_50).symm) (lv_sub hl [0, 3, 4, 5, 6, 2] rfl)
    · skip
      refine lv_iload hx hb d_MD_billKind_53 (lv_at hl 1 rfl) ?_
      refine lv_iload hx hb d_MD_billKind_55 (lv_at hl 0 rfl) ?_
      refine lv_isub hx hb d_MD_billKind_57 ?_
      refine lv_goto (tgt := 62) hx hb d_MD_billKind_58 (by decide) ?_
      refine lv_istore (lv' := [(6, .int ((md_us A (nI k) (nI j) nw) - (md_free (x 2) A j))), (5, .int (md_free (x 2) A j)), (4, .int (md_us A (nI k) (nI j) nw)), (3, .int 0), (0, .ref (μ 0)), (1, .int (nI k)), (2, .int (nI j))]) hx hb d_MD_billKind_62 hl (by decide) rfl (fun ls hl => ?_)
      exact st64 _ ls ((if_neg c_50).symm) (lv_sub hl [0, 3, 4, 5, 6, 2] rfl)
  · skip
    refine lv_iconst (v := 1) hx hb d_MD_billKind_12 (by decide) ?_
    refine lv_goto (tgt := 17) hx hb d_MD_billKind_13 (by decide) ?_
    have hh := c_9
    refine lv_istore_n (lv' := [(3, .int 1), (0, .ref (μ 0)), (1, .int (nI k)), (2, .int (nI j))]) hx hb d_MD_billKind_17 rfl hl (by decide) rfl (fun ls hl => ?_)
    refine lv_aload_n hx hb d_MD_billKind_18 rfl (lv_at hl 1 rfl) ?_
    refine lv_iload_n hx hb d_MD_billKind_19 rfl (lv_at hl 2 rfl) ?_
    refine lv_iload_n hx hb d_MD_billKind_20 rfl (lv_at hl 3 rfl) ?_
    refine gx_readi (va_runV (As := [.int (nI k), .int (nI j)]) (rest := []) ⟨hx, hb, hml, hown, gx_nil⟩ (c_MD_unitsOf F hM _ nw hnw hx4 _ _) ⟨gx_cb (hg _ k_686) (hg _ k_7) (hg _ k_683) nd_MD_unitsOf ⟨by decide, by decide⟩, hg _ k_685, hg _ ks_23⟩ (gx_preV hV hP hD hS hA0 (va_recv hK hP rfl (hM.1))) rfl rfl hl.1 rfl (lv_room (Nat.le_of_ble_eq_true rfl)) d_MD_billKind_21 ⟨by decide, by decide⟩) (fun r_21 h_21 => ?_)
    subst h_21
    refine lv_istore (lv' := [(4, .int (md_us A (nI k) (nI j) nw)), (3, .int 1), (0, .ref (μ 0)), (1, .int (nI k)), (2, .int (nI j))]) hx hb d_MD_billKind_24 hl (by decide) rfl (fun ls hl => ?_)
    refine lv_iload_n hx hb d_MD_billKind_26 rfl (lv_at hl 1 rfl) ?_
    refine lv_if_eq (tgt := 43) hx hb d_MD_billKind_27 (by decide) (fun c_27 => absurd c_27 (by decide)) (fun c_27 => ?_)
    refine lv_aload_n hx hb d_MD_billKind_30 rfl (lv_at hl 2 rfl) ?_
    refine va_get (D := D) (ci := iMD) (v := .ref (μ 2)) (C := R_MD) (T := F_MD) (N := 23) hx hb (fl_MD hg) (fun _ h9 => h9) hown hK hP 0 (hM.1) rfl 4 (by decide) (hg _ k_560) (fun _ h9 => h9) rfl d_MD_billKind_31 ?_
    refine lv_iconst (v := 4) hx hb d_MD_billKind_34 (by decide) ?_
    refine lv_iload_n hx hb d_MD_billKind_35 rfl (lv_at hl 4 rfl) ?_
    refine lv_imul hx hb d_MD_billKind_36 ?_
    refine lv_iconst (v := 2) hx hb d_MD_billKind_37 (by decide) ?_
    refine lv_iadd hx hb d_MD_billKind_38 ?_
    refine gx_il (f := A 2) hx hb hK hP 2 0 (hM.2.1 2 (by decide) (by decide)) rfl (4 * j + 2) (by rw [show (4 : Int32) = nI 4 from rfl, md_mul, show (2 : Int32) = nI 2 from rfl, nI_add]) (show 4 * j + 2 < 48 by omega) (by decide) d_MD_billKind_39 ?_
    refine lv_goto (tgt := 44) hx hb d_MD_billKind_40 (by decide) ?_
    rw [show ((A 2) (4 * j + 2)) = md_free (x 2) A j from (if_pos hh).symm]
    refine lv_istore (lv' := [(5, .int (md_free (x 2) A j)), (4, .int (md_us A (nI k) (nI j) nw)), (3, .int 1), (0, .ref (μ 0)), (1, .int (nI k)), (2, .int (nI j))]) hx hb d_MD_billKind_44 hl (by decide) rfl (fun ls hl => ?_)
    have st64 : ∀ (ch : Int32) (ls : Array Slot) (hch : ch = md_kch (x 2) A k j nw) (hl : lv_has ls 16 [(6, .int ch), (3, .int 1), (0, .ref (μ 0)), (1, .int (nI k)), (2, .int (nI j)), (4, .int (md_us A (nI k) (nI j) nw))]), W p l e ({ frames := 1, cells := 0, slots := 0, locals := 40 } : Room) s m ([.ref (μ 0), .int (nI k), .int (nI j)] : List Value).toArray below meth c s.heap [] 0 0 (MQ below (va_Qv (fun w1 => md_I cI cJ cZ w1 μ (upd x 5 (x 5 + 1)) (md_nl (cb_upr A 17 (upd (A 17) nl (md_fb (x 2) j))) nl (nI k) (nI j) (md_us A (nI k) (nI j) nw) (md_kch (x 2) A k j nw) (-1)) (cb_upr B 14 (vp_updL (B 14) nl (md_kce (x 2) A k j nw d)))) (gx_B D classes ws sz) (va_A ws sz)) ([.ref (μ 0), .int (nI k), .int (nI j)] : List Value).toArray s 0 0 (va_A ws sz)) (F0 m 64 ls []) := by
      intro ch ls hch hl
      refine lv_iload_n hx hb d_MD_billKind_64 rfl (lv_at hl 1 rfl) ?_
      refine lv_if_eq (tgt := 79) hx hb d_MD_billKind_65 (by decide) (fun c_65 => absurd c_65 (by decide)) (fun c_65 => ?_)
      refine lv_aload_n hx hb d_MD_billKind_68 rfl (lv_at hl 2 rfl) ?_
      refine va_get (D := D) (ci := iMD) (v := .ref (μ 2)) (C := R_MD) (T := F_MD) (N := 23) hx hb (fl_MD hg) (fun _ h9 => h9) hown hK hP 0 (hM.1) rfl 4 (by decide) (hg _ k_560) (fun _ h9 => h9) rfl d_MD_billKind_69 ?_
      refine lv_iconst (v := 4) hx hb d_MD_billKind_72 (by decide) ?_
      refine lv_iload_n hx hb d_MD_billKind_73 rfl (lv_at hl 4 rfl) ?_
      refine lv_imul hx hb d_MD_billKind_74 ?_
      refine gx_il (f := A 2) hx hb hK hP 2 0 (hM.2.1 2 (by decide) (by decide)) rfl (4 * j) (by rw [show (4 : Int32) = nI 4 from rfl, md_mul]) (show 4 * j < 48 by omega) (by decide) d_MD_billKind_75 ?_
      refine lv_goto (tgt := 81) hx hb d_MD_billKind_76 (by decide) ?_
      refine lv_i2l (v := ((A 2) (4 * j)).toInt64) hx hb d_MD_billKind_81 (rfl) ?_
      refine lv_iload hx hb d_MD_billKind_82 (lv_at hl 0 rfl) ?_
      refine lv_i2l (v := ch.toInt64) hx hb d_MD_billKind_84 (rfl) ?_
      refine lv_lmul hx hb d_MD_billKind_85 ?_
      rw [show (((A 2) (4 * j)).toInt64) * ch.toInt64 = md_ab (x 2) A j ch from congrArg (fun q : Int32 => q.toInt64 * ch.toInt64) (if_pos hh).symm]
      refine lv_lstore (lv' := [(7, .long (md_ab (x 2) A j ch)), (6, .int ch), (3, .int 1), (0, .ref (μ 0)), (1, .int (nI k)), (2, .int (nI j)), (4, .int (md_us A (nI k) (nI j) nw))]) hx hb d_MD_billKind_86 hl (by decide) rfl (fun ls hl => ?_)
      refine lv_iload_n hx hb d_MD_billKind_88 rfl (lv_at hl 2 rfl) ?_
      refine lv_if_eq (tgt := 106) hx hb d_MD_billKind_89 (by decide) (fun c_89 => absurd c_89 (by decide)) (fun c_89 => ?_)
      refine lv_aload_n hx hb d_MD_billKind_92 rfl (lv_at hl 3 rfl) ?_
      refine va_get (D := D) (ci := iMD) (v := .ref (μ 2)) (C := R_MD) (T := F_MD) (N := 23) hx hb (fl_MD hg) (fun _ h9 => h9) hown hK hP 0 (hM.1) rfl 4 (by decide) (hg _ k_560) (fun _ h9 => h9) rfl d_MD_billKind_93 ?_
      refine lv_iconst (v := 4) hx hb d_MD_billKind_96 (by decide) ?_
      refine lv_iload_n hx hb d_MD_billKind_97 rfl (lv_at hl 5 rfl) ?_
      refine lv_imul hx hb d_MD_billKind_98 ?_
      refine lv_iconst (v := 1) hx hb d_MD_billKind_99 (by decide) ?_
      refine lv_iadd hx hb d_MD_billKind_100 ?_
      refine gx_il (f := A 2) hx hb hK hP 2 0 (hM.2.1 2 (by decide) (by decide)) rfl (4 * j + 1) (by rw [show (4 : Int32) = nI 4 from rfl, md_mul, nI_1]) (show 4 * j + 1 < 48 by omega) (by decide) d_MD_billKind_101 ?_
      refine lv_i2l (v := ((A 2) (4 * j + 1)).toInt64) hx hb d_MD_billKind_102 (rfl) ?_
      refine lv_goto (tgt := 107) hx hb d_MD_billKind_103 (by decide) ?_
      rw [show ((A 2) (4 * j + 1)).toInt64 = md_be (x 2) A j from (if_pos hh).symm]
      refine lv_lstore (lv' := [(9, .long (md_be (x 2) A j)), (7, .long (md_ab (x 2) A j ch)), (6, .int ch), (3, .int 1), (0, .ref (μ 0)), (1, .int (nI k)), (2, .int (nI j)), (4, .int (md_us A (nI k) (nI j) nw))]) hx hb d_MD_billKind_107 hl (by decide) rfl (fun ls hl => ?_)
      refine lv_bipush (v := 6) hx hb d_MD_billKind_109 (by decide) ?_
      refine lv_iload_n hx hb d_MD_billKind_111 rfl (lv_at hl 5 rfl) ?_
      refine lv_imul hx hb d_MD_billKind_112 ?_
      rw [show (6 : Int32) * nI k = nI (6 * k) by rw [show (6 : Int32) = nI 6 from rfl, md_mul]]
      refine lv_iload_n hx hb d_MD_billKind_113 rfl (lv_at hl 6 rfl) ?_
      refine lv_iadd hx hb d_MD_billKind_114 ?_
      rw [nI_add]
      refine lv_istore (lv' := [(11, .int (nI (6 * k + j))), (9, .long (md_be (x 2) A j)), (7, .long (md_ab (x 2) A j ch)), (6, .int ch), (3, .int 1), (0, .ref (μ 0)), (1, .int (nI k)), (2, .int (nI j)), (4, .int (md_us A (nI k) (nI j) nw))]) hx hb d_MD_billKind_115 hl (by decide) rfl (fun ls hl => ?_)
      refine lv_iconst (v := 3) hx hb d_MD_billKind_117 (by decide) ?_
      refine lv_iload hx hb d_MD_billKind_118 (lv_at hl 0 rfl) ?_
      refine lv_imul hx hb d_MD_billKind_120 ?_
      rw [show (3 : Int32) * nI (6 * k + j) = nI (3 * (6 * k + j)) by rw [show (3 : Int32) = nI 3 from rfl, md_mul]]
      refine lv_istore (lv' := [(12, .int (nI (3 * (6 * k + j)))), (11, .int (nI (6 * k + j))), (9, .long (md_be (x 2) A j)), (7, .long (md_ab (x 2) A j ch)), (6, .int ch), (3, .int 1), (0, .ref (μ 0)), (1, .int (nI k)), (2, .int (nI j)), (4, .int (md_us A (nI k) (nI j) nw))]) hx hb d_MD_billKind_121 hl (by decide) rfl (fun ls hl => ?_)
      have loop : ∀ (nn : Nat) (i : Nat) (ls : Array Slot) (hi : i ≤ d) (hf : d + 1 ≤ i + nn) (hl : lv_has ls 16 [(12, .int (nI (3 * (6 * k + j) + i))), (7, .long (md_pa A (6 * k + j) (md_ab (x 2) A j ch) i)), (9, .long (md_pb A (6 * k + j) (md_be (x 2) A j) i)), (11, .int (nI (6 * k + j))), (6, .int ch), (3, .int 1), (0, .ref (μ 0)), (1, .int (nI k)), (2, .int (nI j)), (4, .int (md_us A (nI k) (nI j) nw))]), W p l e ({ frames := 1, cells := 0, slots := 0, locals := 40 } : Room) s m ([.ref (μ 0), .int (nI k), .int (nI j)] : List Value).toArray below meth c s.heap [] 0 0 (MQ below (va_Qv (fun w1 => md_I cI cJ cZ w1 μ (upd x 5 (x 5 + 1)) (md_nl (cb_upr A 17 (upd (A 17) nl (md_fb (x 2) j))) nl (nI k) (nI j) (md_us A (nI k) (nI j) nw) (md_kch (x 2) A k j nw) (-1)) (cb_upr B 14 (vp_updL (B 14) nl (md_kce (x 2) A k j nw d)))) (gx_B D classes ws sz) (va_A ws sz)) ([.ref (μ 0), .int (nI k), .int (nI j)] : List Value).toArray s 0 0 (va_A ws sz)) (F0 m 123 ls []) := by
        intro nn
        induction nn with
        | zero =>
          intro i ls hi hf hl
          exact absurd hf (by omega)
        | succ nn ih =>
          intro i ls hi hf hl
          refine lv_iload hx hb d_MD_billKind_123 (lv_at hl 0 rfl) ?_
          refine lv_iconst (v := 3) hx hb d_MD_billKind_125 (by decide) ?_
          refine lv_iload hx hb d_MD_billKind_126 (lv_at hl 3 rfl) ?_
          refine lv_imul hx hb d_MD_billKind_128 ?_
          rw [show (3 : Int32) * nI (6 * k + j) = nI (3 * (6 * k + j)) by rw [show (3 : Int32) = nI 3 from rfl, md_mul]]
          refine lv_aload_n hx hb d_MD_billKind_129 rfl (lv_at hl 6 rfl) ?_
          refine va_get (D := D) (ci := iMD) (v := .ref (μ 6)) (C := R_MD) (T := F_MD) (N := 23) hx hb (fl_MD hg) (fun _ h9 => h9) hown hK hP 0 (hM.1) rfl 10 (by decide) (hg _ k_566) (fun _ h9 => h9) rfl d_MD_billKind_130 ?_
          refine lv_iload hx hb d_MD_billKind_133 (lv_at hl 3 rfl) ?_
          refine gx_il (f := A 6) hx hb hK hP 6 0 (hM.2.1 6 (by decide) (by decide)) rfl (6 * k + j) (rfl) (show 6 * k + j < 60 by omega) (by decide) d_MD_billKind_135 ?_
          refine lv_iadd hx hb d_MD_billKind_136 ?_
          rw [hd9, nI_add]
          refine lv_icmp_ge (tgt := 180) hx hb d_MD_billKind_137 (by decide) (fun c_137 => ?_) (fun c_137 => ?_)
          · skip
            have hin : i = d := by have := gx_ngt c_137; omega
            rw [hin] at hl
            have st208 : ∀ (ce : Int64) (ls : Array Slot) (hce : ce = md_ce (md_pa A (6 * k + j) (md_ab (x 2) A j ch) d) (md_pb A (6 * k + j) (md_be (x 2) A j) d)) (hl : lv_has ls 16 [(12, .long ce), (6, .int ch), (3, .int 1), (0, .ref (μ 0)), (1, .int (nI k)), (2, .int (nI j)), (4, .int (md_us A (nI k) (nI j) nw))]), W p l e ({ frames := 1, cells := 0, slots := 0, locals := 40 } : Room) s m ([.ref (μ 0), .int (nI k), .int (nI j)] : List Value).toArray below meth c s.heap [] 0 0 (MQ below (va_Qv (fun w1 => md_I cI cJ cZ w1 μ (upd x 5 (x 5 + 1)) (md_nl (cb_upr A 17 (upd (A 17) nl (md_fb (x 2) j))) nl (nI k) (nI j) (md_us A (nI k) (nI j) nw) (md_kch (x 2) A k j nw) (-1)) (cb_upr B 14 (vp_updL (B 14) nl (md_kce (x 2) A k j nw d)))) (gx_B D classes ws sz) (va_A ws sz)) ([.ref (μ 0), .int (nI k), .int (nI j)] : List Value).toArray s 0 0 (va_A ws sz)) (F0 m 208 ls []) := by
              intro ce ls hce hl
              refine lv_iload_n hx hb d_MD_billKind_208 rfl (lv_at hl 2 rfl) ?_
              refine lv_if_eq (tgt := 231) hx hb d_MD_billKind_209 (by decide) (fun c_209 => absurd c_209 (by decide)) (fun c_209 => ?_)
              refine lv_iload hx hb d_MD_billKind_212 (lv_at hl 1 rfl) ?_
              refine lv_if_le (tgt := 231) hx hb d_MD_billKind_214 (by decide) (fun c_214 => ?_) (fun c_214 => ?_)
              · skip
                refine lv_lconst (v := 0) hx hb d_MD_billKind_231 (by decide) ?_
                rw [show (0 : Int64) = md_le (x 2) A j ch from ((if_pos hh).trans (if_pos c_214)).symm]
                refine lv_lstore (lv' := [(14, .long (md_le (x 2) A j ch)), (12, .long ce), (6, .int ch), (3, .int 1), (0, .ref (μ 0)), (1, .int (nI k)), (2, .int (nI j)), (4, .int (md_us A (nI k) (nI j) nw))]) hx hb d_MD_billKind_232 hl (by decide) rfl (fun ls hl => ?_)
                refine lv_aload_n hx hb d_MD_billKind_234 rfl (lv_at hl 4 rfl) ?_
                refine va_get (D := D) (ci := iMD) (v := .ref (μ 17)) (C := R_MD) (T := F_MD) (N := 23) hx hb (fl_MD hg) (fun _ h9 => h9) hown hK hP 0 (hM.1) rfl 21 (by decide) (hg _ k_577) (fun _ h9 => h9) rfl d_MD_billKind_235 ?_
                refine lv_aload_n hx hb d_MD_billKind_238 rfl (lv_at hl 4 rfl) ?_
                refine va_get (D := D) (ci := iMD) (v := .int (x 5)) (C := R_MD) (T := F_MD) (N := 23) hx hb (fl_MD hg) (fun _ h9 => h9) hown hK hP 0 (hM.1) rfl 13 (by decide) (hg _ k_569) (fun _ h9 => h9) rfl d_MD_billKind_239 ?_
                refine lv_iload_n hx hb d_MD_billKind_242 rfl (lv_at hl 3 rfl) ?_
                refine lv_if_ne (tgt := 250) hx hb d_MD_billKind_243 (by decide) (fun c_243 => ?_) (fun c_243 => absurd c_243 (by decide))
                refine lv_iconst (v := 0) hx hb d_MD_billKind_250 (by decide) ?_
                refine gx_zs (f := A 17) hx hb hK hP hD hS 17 5 (hM.2.2.2 17 (by decide) (by decide)) rfl nl (hx5) (show nl < 200 from hlt) (by decide) (rfl) d_MD_billKind_251 (fun H locs hP hD hS => ?_)
                obtain ⟨w_2, ew_2⟩ : ∃ y : va_W, y = ws.set 17 (μ 17, .inl (cZ, md_n 17, .inl (upd (A 17) nl 0))) := ⟨_, rfl⟩
                replace hP : va_P D classes w_2 H := by rw [ew_2]; exact hP
                replace hD : va_D (va_A ws sz) w_2 := by rw [ew_2]; exact hD
                replace hM : md_I cI cJ cZ w_2 μ x (cb_upr A 17 (upd (A 17) nl 0)) B := by rw [ew_2]; exact md_I.boo (by decide) (by decide) hM
                refine lv_aload_n hx hb d_MD_billKind_252 rfl (lv_at hl 4 rfl) ?_
                refine lv_iload_n hx hb d_MD_billKind_253 rfl (lv_at hl 5 rfl) ?_
                refine lv_iload_n hx hb d_MD_billKind_254 rfl (lv_at hl 6 rfl) ?_
                refine lv_iload hx hb d_MD_billKind_255 (lv_at hl 7 rfl) ?_
                refine lv_iload hx hb d_MD_billKind_257 (lv_at hl 2 rfl) ?_
                refine lv_lload hx hb d_MD_billKind_259 (lv_at hl 1 rfl) ?_
                refine lv_lload hx hb d_MD_billKind_261 (lv_at hl 0 rfl) ?_
                refine W.lcmp hx hb d_MD_billKind_263 ?_
                refine lv_if_ge (tgt := 272) hx hb d_MD_billKind_264 (by decide) (fun c_264 => ?_) (fun c_264 => ?_)
                · skip
                  refine lv_lload hx hb d_MD_billKind_272 (lv_at hl 1 rfl) ?_
                  obtain ⟨vv, hvv⟩ : ∃ q : Int64, q = ce := ⟨_, rfl⟩
                  rw [← hvv]
                  have hfin := md_kce_eq hch hce rfl (Or.inl ⟨Int64.not_lt.mpr ((lg_cmp_ge _ _).mp c_264), rfl⟩)
                  rw [← hvv] at hfin
                  refine lv_iconst (v := (-1)) hx hb d_MD_billKind_274 (by decide) ?_
                  refine gx_callv (va_runV (As := [.int (nI k), .int (nI j), .int (md_us A (nI k) (nI j) nw), .int ch, .long vv, .int (-1)]) (rest := []) ⟨hx, hb, hml, hown, gx_nil⟩ (c_MD_newLine F hM _ nl hlt hx5 _ _ _ _ _ _) ⟨gx_cb (hg _ k_695) (hg _ k_7) (hg _ k_692) nd_MD_newLine ⟨by decide, by decide⟩, hg _ k_694, hg _ ks_25⟩ (gx_preV hV hP hD hS hA0 (va_recv hK hP rfl (hM.1))) rfl rfl hl.1 rfl (lv_room (Nat.le_of_ble_eq_true rfl)) d_MD_billKind_275 ⟨by decide, by decide⟩) hD hS hA (fun w1 H locs h_275 hP hD hS => ?_)
                  exact gx_vret hx hb hr hlocks hS hP hD (by decide) (by decide) d_MD_billKind_278 (by rw [← hfin, ← hch, show md_fb (x 2) j = 0 from if_pos hh]; exact h_275)
                · skip
                  refine lv_lload hx hb d_MD_billKind_267 (lv_at hl 0 rfl) ?_
                  refine lv_goto (tgt := 274) hx hb d_MD_billKind_269 (by decide) ?_
                  obtain ⟨vv, hvv⟩ : ∃ q : Int64, q = md_le (x 2) A j ch := ⟨_, rfl⟩
                  rw [← hvv]
                  have hfin := md_kce_eq hch hce rfl (Or.inr ⟨Int64.not_le.mp (fun q => c_264 ((lg_cmp_ge _ _).mpr q)), rfl⟩)
                  rw [← hvv] at hfin
                  refine lv_iconst (v := (-1)) hx hb d_MD_billKind_274 (by decide) ?_
                  refine gx_callv (va_runV (As := [.int (nI k), .int (nI j), .int (md_us A (nI k) (nI j) nw), .int ch, .long vv, .int (-1)]) (rest := []) ⟨hx, hb, hml, hown, gx_nil⟩ (c_MD_newLine F hM _ nl hlt hx5 _ _ _ _ _ _) ⟨gx_cb (hg _ k_695) (hg _ k_7) (hg _ k_692) nd_MD_newLine ⟨by decide, by decide⟩, hg _ k_694, hg _ ks_25⟩ (gx_preV hV hP hD hS hA0 (va_recv hK hP rfl (hM.1))) rfl rfl hl.1 rfl (lv_room (Nat.le_of_ble_eq_true rfl)) d_MD_billKind_275 ⟨by decide, by decide⟩) hD hS hA (fun w1 H locs h_275 hP hD hS => ?_)
                  exact gx_vret hx hb hr hlocks hS hP hD (by decide) (by decide) d_MD_billKind_278 (by rw [← hfin, ← hch, show md_fb (x 2) j = 0 from if_pos hh]; exact h_275)
              · skip
                refine lv_aload_n hx hb d_MD_billKind_217 rfl (lv_at hl 3 rfl) ?_
                refine va_get (D := D) (ci := iMD) (v := .ref (μ 2)) (C := R_MD) (T := F_MD) (N := 23) hx hb (fl_MD hg) (fun _ h9 => h9) hown hK hP 0 (hM.1) rfl 4 (by decide) (hg _ k_560) (fun _ h9 => h9) rfl d_MD_billKind_218 ?_
                refine lv_iconst (v := 4) hx hb d_MD_billKind_221 (by decide) ?_
                refine lv_iload_n hx hb d_MD_billKind_222 rfl (lv_at hl 5 rfl) ?_
                refine lv_imul hx hb d_MD_billKind_223 ?_
                refine lv_iconst (v := 3) hx hb d_MD_billKind_224 (by decide) ?_
                refine lv_iadd hx hb d_MD_billKind_225 ?_
                refine gx_il (f := A 2) hx hb hK hP 2 0 (hM.2.1 2 (by decide) (by decide)) rfl (4 * j + 3) (by rw [show (4 : Int32) = nI 4 from rfl, md_mul, show (3 : Int32) = nI 3 from rfl, nI_add]) (show 4 * j + 3 < 48 by omega) (by decide) d_MD_billKind_226 ?_
                refine lv_i2l (v := ((A 2) (4 * j + 3)).toInt64) hx hb d_MD_billKind_227 (rfl) ?_
                refine lv_goto (tgt := 232) hx hb d_MD_billKind_228 (by decide) ?_
                rw [show ((A 2) (4 * j + 3)).toInt64 = md_le (x 2) A j ch from ((if_pos hh).trans (if_neg c_214)).symm]
                refine lv_lstore (lv' := [(14, .long (md_le (x 2) A j ch)), (12, .long ce), (6, .int ch), (3, .int 1), (0, .ref (μ 0)), (1, .int (nI k)), (2, .int (nI j)), (4, .int (md_us A (nI k) (nI j) nw))]) hx hb d_MD_billKind_232 hl (by decide) rfl (fun ls hl => ?_)
                refine lv_aload_n hx hb d_MD_billKind_234 rfl (lv_at hl 4 rfl) ?_
                refine va_get (D := D) (ci := iMD) (v := .ref (μ 17)) (C := R_MD) (T := F_MD) (N := 23) hx hb (fl_MD hg) (fun _ h9 => h9) hown hK hP 0 (hM.1) rfl 21 (by decide) (hg _ k_577) (fun _ h9 => h9) rfl d_MD_billKind_235 ?_
                refine lv_aload_n hx hb d_MD_billKind_238 rfl (lv_at hl 4 rfl) ?_
                refine va_get (D := D) (ci := iMD) (v := .int (x 5)) (C := R_MD) (T := F_MD) (N := 23) hx hb (fl_MD hg) (fun _ h9 => h9) hown hK hP 0 (hM.1) rfl 13 (by decide) (hg _ k_569) (fun _ h9 => h9) rfl d_MD_billKind_239 ?_
                refine lv_iload_n hx hb d_MD_billKind_242 rfl (lv_at hl 3 rfl) ?_
                refine lv_if_ne (tgt := 250) hx hb d_MD_billKind_243 (by decide) (fun c_243 => ?_) (fun c_243 => absurd c_243 (by decide))
                refine lv_iconst (v := 0) hx hb d_MD_billKind_250 (by decide) ?_
                refine gx_zs (f := A 17) hx hb hK hP hD hS 17 5 (hM.2.2.2 17 (by decide) (by decide)) rfl nl (hx5) (show nl < 200 from hlt) (by decide) (rfl) d_MD_billKind_251 (fun H locs hP hD hS => ?_)
                obtain ⟨w_3, ew_3⟩ : ∃ y : va_W, y = ws.set 17 (μ 17, .inl (cZ, md_n 17, .inl (upd (A 17) nl 0))) := ⟨_, rfl⟩
                replace hP : va_P D classes w_3 H := by rw [ew_3]; exact hP
                replace hD : va_D (va_A ws sz) w_3 := by rw [ew_3]; exact hD
                replace hM : md_I cI cJ cZ w_3 μ x (cb_upr A 17 (upd (A 17) nl 0)) B := by rw [ew_3]; exact md_I.boo (by decide) (by decide) hM
                refine lv_aload_n hx hb d_MD_billKind_252 rfl (lv_at hl 4 rfl) ?_
                refine lv_iload_n hx hb d_MD_billKind_253 rfl (lv_at hl 5 rfl) ?_
                refine lv_iload_n hx hb d_MD_billKind_254 rfl (lv_at hl 6 rfl) ?_
                refine lv_iload hx hb d_MD_billKind_255 (lv_at hl 7 rfl) ?_
                refine lv_iload hx hb d_MD_billKind_257 (lv_at hl 2 rfl) ?_
                refine lv_lload hx hb d_MD_billKind_259 (lv_at hl 1 rfl) ?_
                refine lv_lload hx hb d_MD_billKind_261 (lv_at hl 0 rfl) ?_
                refine W.lcmp hx hb d_MD_billKind_263 ?_
                refine lv_if_ge (tgt := 272) hx hb d_MD_billKind_264 (by decide) (fun c_264 => ?_) (fun c_264 => ?_)
                · skip
                  refine lv_lload hx hb d_MD_billKind_272 (lv_at hl 1 rfl) ?_
                  obtain ⟨vv, hvv⟩ : ∃ q : Int64, q = ce := ⟨_, rfl⟩
                  rw [← hvv]
                  have hfin := md_kce_eq hch hce rfl (Or.inl ⟨Int64.not_lt.mpr ((lg_cmp_ge _ _).mp c_264), rfl⟩)
                  rw [← hvv] at hfin
                  refine lv_iconst (v := (-1)) hx hb d_MD_billKind_274 (by decide) ?_
                  refine gx_callv (va_runV (As := [.int (nI k), .int (nI j), .int (md_us A (nI k) (nI j) nw), .int ch, .long vv, .int (-1)]) (rest := []) ⟨hx, hb, hml, hown, gx_nil⟩ (c_MD_newLine F hM _ nl hlt hx5 _ _ _ _ _ _) ⟨gx_cb (hg _ k_695) (hg _ k_7) (hg _ k_692) nd_MD_newLine ⟨by decide, by decide⟩, hg _ k_694, hg _ ks_25⟩ (gx_preV hV hP hD hS hA0 (va_recv hK hP rfl (hM.1))) rfl rfl hl.1 rfl (lv_room (Nat.le_of_ble_eq_true rfl)) d_MD_billKind_275 ⟨by decide, by decide⟩) hD hS hA (fun w1 H locs h_275 hP hD hS => ?_)
                  exact gx_vret hx hb hr hlocks hS hP hD (by decide) (by decide) d_MD_billKind_278 (by rw [← hfin, ← hch, show md_fb (x 2) j = 0 from if_pos hh]; exact h_275)
                · skip
                  refine lv_lload hx hb d_MD_billKind_267 (lv_at hl 0 rfl) ?_
                  refine lv_goto (tgt := 274) hx hb d_MD_billKind_269 (by decide) ?_
                  obtain ⟨vv, hvv⟩ : ∃ q : Int64, q = md_le (x 2) A j ch := ⟨_, rfl⟩
                  rw [← hvv]
                  have hfin := md_kce_eq hch hce rfl (Or.inr ⟨Int64.not_le.mp (fun q => c_264 ((lg_cmp_ge _ _).mpr q)), rfl⟩)
                  rw [← hvv] at hfin
                  refine lv_iconst (v := (-1)) hx hb d_MD_billKind_274 (by decide) ?_
                  refine gx_callv (va_runV (As := [.int (nI k), .int (nI j), .int (md_us A (nI k) (nI j) nw), .int ch, .long vv, .int (-1)]) (rest := []) ⟨hx, hb, hml, hown, gx_nil⟩ (c_MD_newLine F hM _ nl hlt hx5 _ _ _ _ _ _) ⟨gx_cb (hg _ k_695) (hg _ k_7) (hg _ k_692) nd_MD_newLine ⟨by decide, by decide⟩, hg _ k_694, hg _ ks_25⟩ (gx_preV hV hP hD hS hA0 (va_recv hK hP rfl (hM.1))) rfl rfl hl.1 rfl (lv_room (Nat.le_of_ble_eq_true rfl)) d_MD_billKind_275 ⟨by decide, by decide⟩) hD hS hA (fun w1 H locs h_275 hP hD hS => ?_)
                  exact gx_vret hx hb hr hlocks hS hP hD (by decide) (by decide) d_MD_billKind_278 (by rw [← hfin, ← hch, show md_fb (x 2) j = 0 from if_pos hh]; exact h_275)
            refine lv_lload hx hb d_MD_billKind_180 (lv_at hl 1 rfl) ?_
            refine lv_lload hx hb d_MD_billKind_182 (lv_at hl 2 rfl) ?_
            refine lv_ldiv hx hb d_MD_billKind_184 (hbel) ?_
            refine lv_ldc2 (v := 2) hx hb hown (hg _ k_691) d_MD_billKind_185 ?_
            refine lv_lload hx hb d_MD_billKind_188 (lv_at hl 1 rfl) ?_
            refine lv_lload hx hb d_MD_billKind_190 (lv_at hl 2 rfl) ?_
            refine lv_lrem hx hb d_MD_billKind_192 (hbel) ?_
            refine lv_lmul hx hb d_MD_billKind_193 ?_
            refine lv_lload hx hb d_MD_billKind_194 (lv_at hl 2 rfl) ?_
            refine W.lcmp hx hb d_MD_billKind_196 ?_
            refine lv_if_lt (tgt := 204) hx hb d_MD_billKind_197 (by decide) (fun c_197 => ?_) (fun c_197 => ?_)
            · skip
              refine lv_lconst (v := 0) hx hb d_MD_billKind_204 (by decide) ?_
              refine lv_ladd hx hb d_MD_billKind_205 ?_
              refine lv_lstore (lv' := [(12, .long (((md_pa A (6 * k + j) (md_ab (x 2) A j ch) d) / (md_pb A (6 * k + j) (md_be (x 2) A j) d)) + (0 : Int64))), (7, .long (md_pa A (6 * k + j) (md_ab (x 2) A j ch) d)), (9, .long (md_pb A (6 * k + j) (md_be (x 2) A j) d)), (11, .int (nI (6 * k + j))), (6, .int ch), (3, .int 1), (0, .ref (μ 0)), (1, .int (nI k)), (2, .int (nI j)), (4, .int (md_us A (nI k) (nI j) nw))]) hx hb d_MD_billKind_206 hl (by decide) rfl (fun ls hl => ?_)
              exact st208 _ ls (congrArg (_ + ·) (if_pos ((lg_cmp_lt _ _).mp c_197)).symm) (lv_sub hl [0, 4, 5, 6, 7, 8, 9] rfl)
            · skip
              refine lv_lconst (v := 1) hx hb d_MD_billKind_200 (by decide) ?_
              refine lv_goto (tgt := 205) hx hb d_MD_billKind_201 (by decide) ?_
              refine lv_ladd hx hb d_MD_billKind_205 ?_
              refine lv_lstore (lv' := [(12, .long (((md_pa A (6 * k + j) (md_ab (x 2) A j ch) d) / (md_pb A (6 * k + j) (md_be (x 2) A j) d)) + (1 : Int64))), (7, .long (md_pa A (6 * k + j) (md_ab (x 2) A j ch) d)), (9, .long (md_pb A (6 * k + j) (md_be (x 2) A j) d)), (11, .int (nI (6 * k + j))), (6, .int ch), (3, .int 1), (0, .ref (μ 0)), (1, .int (nI k)), (2, .int (nI j)), (4, .int (md_us A (nI k) (nI j) nw))]) hx hb d_MD_billKind_206 hl (by decide) rfl (fun ls hl => ?_)
              exact st208 _ ls (congrArg (_ + ·) (if_neg (fun q => c_197 ((lg_cmp_lt _ _).mpr q))).symm) (lv_sub hl [0, 4, 5, 6, 7, 8, 9] rfl)
          · skip
            have hin : i < d := by have := gx_nlt c_137; omega
            refine lv_lload hx hb d_MD_billKind_140 (lv_at hl 1 rfl) ?_
            refine lv_aload_n hx hb d_MD_billKind_142 rfl (lv_at hl 6 rfl) ?_
            refine va_get (D := D) (ci := iMD) (v := .ref (μ 8)) (C := R_MD) (T := F_MD) (N := 23) hx hb (fl_MD hg) (fun _ h9 => h9) hown hK hP 0 (hM.1) rfl 12 (by decide) (hg _ k_568) (fun _ h9 => h9) rfl d_MD_billKind_143 ?_
            refine lv_iload hx hb d_MD_billKind_146 (lv_at hl 0 rfl) ?_
            refine gx_il (f := A 8) hx hb hK hP 8 0 (hM.2.1 8 (by decide) (by decide)) rfl (3 * (6 * k + j) + i) (rfl) (show 3 * (6 * k + j) + i < 180 by omega) (by decide) d_MD_billKind_148 ?_
            refine lv_aload_n hx hb d_MD_billKind_149 rfl (lv_at hl 6 rfl) ?_
            refine va_get (D := D) (ci := iMD) (v := .ref (μ 7)) (C := R_MD) (T := F_MD) (N := 23) hx hb (fl_MD hg) (fun _ h9 => h9) hown hK hP 0 (hM.1) rfl 11 (by decide) (hg _ k_567) (fun _ h9 => h9) rfl d_MD_billKind_150 ?_
            refine lv_iload hx hb d_MD_billKind_153 (lv_at hl 0 rfl) ?_
            refine gx_il (f := A 7) hx hb hK hP 7 0 (hM.2.1 7 (by decide) (by decide)) rfl (3 * (6 * k + j) + i) (rfl) (show 3 * (6 * k + j) + i < 180 by omega) (by decide) d_MD_billKind_155 ?_
            refine lv_isub hx hb d_MD_billKind_156 ?_
            refine lv_i2l (v := (((A 8) (3 * (6 * k + j) + i)) - ((A 7) (3 * (6 * k + j) + i))).toInt64) hx hb d_MD_billKind_157 (rfl) ?_
            refine lv_lmul hx hb d_MD_billKind_158 ?_
            refine lv_lstore (lv' := [(7, .long ((md_pa A (6 * k + j) (md_ab (x 2) A j ch) i) * ((((A 8) (3 * (6 * k + j) + i)) - ((A 7) (3 * (6 * k + j) + i))).toInt64))), (12, .int (nI (3 * (6 * k + j) + i))), (9, .long (md_pb A (6 * k + j) (md_be (x 2) A j) i)), (11, .int (nI (6 * k + j))), (6, .int ch), (3, .int 1), (0, .ref (μ 0)), (1, .int (nI k)), (2, .int (nI j)), (4, .int (md_us A (nI k) (nI j) nw))]) hx hb d_MD_billKind_159 hl (by decide) rfl (fun ls hl => ?_)
            refine lv_lload hx hb d_MD_billKind_161 (lv_at hl 2 rfl) ?_
            refine lv_aload_n hx hb d_MD_billKind_163 rfl (lv_at hl 6 rfl) ?_
            refine va_get (D := D) (ci := iMD) (v := .ref (μ 8)) (C := R_MD) (T := F_MD) (N := 23) hx hb (fl_MD hg) (fun _ h9 => h9) hown hK hP 0 (hM.1) rfl 12 (by decide) (hg _ k_568) (fun _ h9 => h9) rfl d_MD_billKind_164 ?_
            refine lv_iload hx hb d_MD_billKind_167 (lv_at hl 1 rfl) ?_
            refine gx_il (f := A 8) hx hb hK hP 8 0 (hM.2.1 8 (by decide) (by decide)) rfl (3 * (6 * k + j) + i) (rfl) (show 3 * (6 * k + j) + i < 180 by omega) (by decide) d_MD_billKind_169 ?_
            refine lv_i2l (v := ((A 8) (3 * (6 * k + j) + i)).toInt64) hx hb d_MD_billKind_170 (rfl) ?_
            refine lv_lmul hx hb d_MD_billKind_171 ?_
            refine lv_lstore (lv' := [(9, .long ((md_pb A (6 * k + j) (md_be (x 2) A j) i) * (((A 8) (3 * (6 * k + j) + i)).toInt64))), (7, .long ((md_pa A (6 * k + j) (md_ab (x 2) A j ch) i) * ((((A 8) (3 * (6 * k + j) + i)) - ((A 7) (3 * (6 * k + j) + i))).toInt64))), (12, .int (nI (3 * (6 * k + j) + i))), (11, .int (nI (6 * k + j))), (6, .int ch), (3, .int 1), (0, .ref (μ 0)), (1, .int (nI k)), (2, .int (nI j)), (4, .int (md_us A (nI k) (nI j) nw))]) hx hb d_MD_billKind_172 hl (by decide) rfl (fun ls hl => ?_)
            refine lv_iinc (v := nI (3 * (6 * k + j) + (i + 1))) (lv' := [(12, .int (nI (3 * (6 * k + j) + (i + 1)))), (9, .long ((md_pb A (6 * k + j) (md_be (x 2) A j) i) * (((A 8) (3 * (6 * k + j) + i)).toInt64))), (7, .long ((md_pa A (6 * k + j) (md_ab (x 2) A j ch) i) * ((((A 8) (3 * (6 * k + j) + i)) - ((A 7) (3 * (6 * k + j) + i))).toInt64))), (11, .int (nI (6 * k + j))), (6, .int ch), (3, .int 1), (0, .ref (μ 0)), (1, .int (nI k)), (2, .int (nI j)), (4, .int (md_us A (nI k) (nI j) nw))]) hx hb d_MD_billKind_174 hl (k := 2) rfl (by rw [lit1]; exact nI_1 _) (by decide) rfl (fun ls hl => ?_)
            refine lv_goto (tgt := 123) hx hb d_MD_billKind_177 (by decide) ?_
            exact ih (i + 1) ls (by omega) (by omega) (lv_sub hl [0, 2, 1, 3, 4, 5, 6, 7, 8, 9] rfl)
      exact loop (d + 1) 0 ls (by omega) (by omega) (lv_sub hl [0, 3, 2, 1, 4, 5, 6, 7, 8, 9] rfl)
    refine lv_iload hx hb d_MD_billKind_46 (lv_at hl 1 rfl) ?_
    refine lv_iload hx hb d_MD_billKind_48 (lv_at hl 0 rfl) ?_
    refine lv_icmp_le (tgt := 61) hx hb d_MD_billKind_50 (by decide) (fun c_50 => ?_) (fun c_50 => ?_)
    · skip
      refine lv_iconst (v := 0) hx hb d_MD_billKind_61 (by decide) ?_
      refine lv_istore (lv' := [(6, .int 0), (5, .int (md_free (x 2) A j)), (4, .int (md_us A (nI k) (nI j) nw)), (3, .int 1), (0, .ref (μ 0)), (1, .int (nI k)), (2, .int (nI j))]) hx hb d_MD_billKind_62 hl (by decide) rfl (fun ls hl => ?_)
      exact st64 _ ls ((if_pos c_50).symm) (lv_sub hl [0, 3, 4, 5, 6, 2] rfl)
    · skip
      refine lv_iload hx hb d_MD_billKind_53 (lv_at hl 1 rfl) ?_
      refine lv_iload hx hb d_MD_billKind_55 (lv_at hl 0 rfl) ?_
      refine lv_isub hx hb d_MD_billKind_57 ?_
      refine lv_goto (tgt := 62) hx hb d_MD_billKind_58 (by decide) ?_
      refine lv_istore (lv' := [(6, .int ((md_us A (nI k) (nI j) nw) - (md_free (x 2) A j))), (5, .int (md_free (x 2) A j)), (4, .int (md_us A (nI k) (nI j) nw)), (3, .int 1), (0, .ref (μ 0)), (1, .int (nI k)), (2, .int (nI j))]) hx hb d_MD_billKind_62 hl (by decide) rfl (fun ls hl => ?_)
      exact st64 _ ls ((if_neg c_50).symm) (lv_sub hl [0, 3, 4, 5, 6, 2] rfl)

