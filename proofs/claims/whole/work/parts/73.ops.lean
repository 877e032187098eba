/-! OPS: class and reference side by side -/
section OPS
variable {l : Launch} {s0 : State} {D : va_G} {cI cC cJ cII cO cZ : ClassId} {F : FX l s0 D cI cC cJ cII cO cZ} {xa ma : Nat} {wc wm : va_W} {κ : Nat → Nat} {ra : Nat → Nat → Nat} {z sg : Nat → Int32} {G : Nat → Nat → Nat → Int32} {we : Nat → Int32} {pd : Nat → Int64} {nl : Nat} {la lp : Nat → Nat} {li : Nat → Nat → Int32} {ll : Nat → Nat → Int64} {μ : Nat → Nat} {x : Nat → Int32} {A : Nat → Nat → Int32} {B : Nat → Nat → Int64}
theorem op_tariff (hI : cb_I cI cC cJ cII wc κ ra z sg G we pd) (hL : cb_L cO wc (κ 62) (z 5) (fx_e0 F) nl la lp li ll) (hκ : κ 0 = xa) (hμ : μ 0 = ma) (hS : rS z x sg G we pd nl li ll A B) {o : Nat} {ov : Nat → Int64} (p0 p1 : Int32)  {r : Int32} {w1 : va_W} (hc : (fun (r : Int32) (w1 : va_W) => ∃ (wc9 : va_W) (ov9 : Nat → Int64), w1 = (o, .inl (cJ, 1, .inr (.inl ov9))) :: wc9 ∧ ((r = 0 ∧ wc9 = wc ∧ ∃ v9 : Int32, (fun r => ∃ k j, k < 6 ∧ j < 4 ∧ p0 = nI k ∧ p1 = nI j ∧ r = if (z 3 >>> (nI k &&& 31)) &&& 1 = 1 then G 1 k j else -1) v9 ∧ ov9 = vp_updL ov 0 v9.toInt64) ∨ (r = 1 ∧ (fun E => E = "java/lang/IllegalArgumentException" ∧ ((p0 < 0 ∨ nI 6 ≤ p0) ∨ (p1 < 0 ∨ nI 4 ≤ p1))) "java/lang/IllegalArgumentException" ∧ wc9 = wc ∧ ov9 = ov))) r w1) {b : Int32} {wm9 : va_W} (hm : (fun (r : Int32) (w1 : va_W) => (((p0 < 0 ∨ nI 6 ≤ p0) ∨ (p1 < 0 ∨ 3 < p1)) ∧ md_I cI cJ cZ w1 μ (upd x 0 1) A B) ∨ (∃ k9 j9, k9 < 6 ∧ j9 < 4 ∧ p0 = nI k9 ∧ p1 = nI j9 ∧ r = (if (x 2 >>> (nI k9 &&& 31)) &&& 1 = 0 then -1 else A 2 (4 * k9 + j9)) ∧ md_I cI cJ cZ w1 μ (upd x 0 0) A B)) b wm9) : ∃ (wc9 : va_W) (ov9 : Nat → Int64), w1 = (o, .inl (cJ, 1, .inr (.inl ov9))) :: wc9 ∧ rQ F xa ma wc9 wm9 r ∧ (r = 0 → ov9 0 = b.toInt64) := by
  obtain ⟨hT, hK, hE, hD, hLL, hP⟩ := hS
  obtain ⟨wc9, ov9, e, hc⟩ := hc
  refine ⟨wc9, ov9, e, ?_⟩
  rcases hc with ⟨hr, hw, v9, ⟨k, j, hk, hj, ek, ej, ev⟩, eo⟩ | ⟨hr, ⟨-, hx⟩, hw, eo⟩
  · subst hw hr
    rcases hm with ⟨hx, hM⟩ | ⟨k9, j9, hk9, hj9, ek9, ej9, eb, hM⟩
    · exfalso
      rcases hx with hx | hx
      · exact nI_no hk (by omega) ek hx
      · exact nI_no hj (by omega) ej (hx.imp id (fun q => by
          rw [Int32.lt_iff_toInt_lt] at q
          rw [Int32.le_iff_toInt_le]
          have e1 : (nI 4).toInt = 4 := rfl
          have e2 : (3 : Int32).toInt = 3 := rfl
          omega))
    · have e1 := nI_inj (by omega) (by omega) ek ek9
      have e2 := nI_inj (by omega) (by omega) ej ej9
      subst e1 e2
      refine ⟨⟨κ, ra, z, sg, G, we, pd, nl, la, lp, li, ll, μ, _, A, B, hI, hL, hM, hκ, hμ, ⟨hT, hK, hE, hD, hLL, hP⟩, rfl⟩, fun _ => ?_⟩
      obtain ⟨mw, m1, m2, m3, m4⟩ := hK
      rw [eo, eb, ev, updL_s, m2, m3]
      congr 1
      by_cases q : mw.testBit k = true
      · rw [if_pos ((cb_bit mw m1 k hk).mpr q), if_neg (fun w => (cb_bit0 mw m1 k hk).mp w q), (m4 k hk).1 j hj, if_pos q]
      · rw [if_neg (fun w => q ((cb_bit mw m1 k hk).mp w)), if_pos ((cb_bit0 mw m1 k hk).mpr q)]
  · subst hw hr
    rcases hm with ⟨-, hM⟩ | ⟨k9, j9, hk9, hj9, ek9, ej9, eb, hM⟩
    · exact ⟨⟨κ, ra, z, sg, G, we, pd, nl, la, lp, li, ll, μ, _, A, B, hI, hL, hM, hκ, hμ, ⟨hT, hK, hE, hD, hLL, hP⟩, rfl⟩, fun q => absurd q (by decide)⟩
    · exfalso
      rcases hx with hx | hx
      · exact nI_no hk9 (by omega) ek9 hx
      · exact nI_no hj9 (by omega) ej9 hx
theorem op_event (hI : cb_I cI cC cJ cII wc κ ra z sg G we pd) (hL : cb_L cO wc (κ 62) (z 5) (fx_e0 F) nl la lp li ll) (hκ : κ 0 = xa) (hμ : μ 0 = ma) (hS : rS z x sg G we pd nl li ll A B) {o : Nat} {ov : Nat → Int64} (p0 p1 p2 : Int32) {nw : Nat} (hnw : nw ≤ 100) (hx4 : x 4 = nI nw) {r : Int32} {w1 : va_W} (hc : (fun (r : Int32) (w1 : va_W) => ∃ (wc9 : va_W) (ov9 : Nat → Int64), w1 = (o, .inl (cJ, 1, .inr (.inl ov9))) :: wc9 ∧ ((r = 0 ∧ ∃ v9 : Int32, (fun r w1 => ∃ k j, k < 10 ∧ j < 6 ∧ p0 = nI k ∧ p1 = nI j ∧ ¬ p2 < 1 ∧ ¬ 50000 < p2 ∧ z 4 < 100 ∧ r = cb_bu p2 (fx_unit j) ∧ cb_I cI cC cJ cII w1 κ ra (upd z 4 (z 4 + 1)) sg (cb_upg G 2 k (upd (G 2 k) j (G 2 k j + cb_bu p2 (fx_unit j)))) (upd we k (we k + 1)) pd ∧ cb_hi wc w1) v9 wc9 ∧ ov9 = vp_updL ov 0 v9.toInt64) ∨ (r = 1 ∧ (fun E => (E = "java/lang/IllegalArgumentException" ∧ ((p0 < 0 ∨ nI 10 ≤ p0) ∨ (p1 < 0 ∨ nI 6 ≤ p1) ∨ p2 < 1 ∨ 50000 < p2)) ∨ (E = "java/lang/IllegalStateException" ∧ ∃ k j, k < 10 ∧ j < 6 ∧ p0 = nI k ∧ p1 = nI j ∧ ¬ p2 < 1 ∧ ¬ 50000 < p2 ∧ ¬ z 4 < 100)) "java/lang/IllegalArgumentException" ∧ wc9 = wc ∧ ov9 = ov) ∨ (r = 2 ∧ (fun E => (E = "java/lang/IllegalArgumentException" ∧ ((p0 < 0 ∨ nI 10 ≤ p0) ∨ (p1 < 0 ∨ nI 6 ≤ p1) ∨ p2 < 1 ∨ 50000 < p2)) ∨ (E = "java/lang/IllegalStateException" ∧ ∃ k j, k < 10 ∧ j < 6 ∧ p0 = nI k ∧ p1 = nI j ∧ ¬ p2 < 1 ∧ ¬ 50000 < p2 ∧ ¬ z 4 < 100)) "java/lang/IllegalStateException" ∧ wc9 = wc ∧ ov9 = ov))) r w1) {b : Int32} {wm9 : va_W} (hm : (fun (r : Int32) (w1 : va_W) => (((p0 < 0 ∨ nI 10 ≤ p0) ∨ (p1 < 0 ∨ nI 6 ≤ p1) ∨ (p2 < 1 ∨ 50000 < p2)) ∧ md_I cI cJ cZ w1 μ (upd x 0 1) A B) ∨ (∃ k9 j9, k9 < 10 ∧ j9 < 6 ∧ p0 = nI k9 ∧ p1 = nI j9 ∧ ¬ p2 < 1 ∧ ¬ 50000 < p2 ∧ nw = 100 ∧ md_I cI cJ cZ w1 μ (upd x 0 2) A B) ∨ (∃ k9 j9, k9 < 10 ∧ j9 < 6 ∧ p0 = nI k9 ∧ p1 = nI j9 ∧ ¬ p2 < 1 ∧ ¬ 50000 < p2 ∧ nw < 100 ∧ r = md_ev p2 (fx_unit j9) ∧ md_I cI cJ cZ w1 μ (upd (upd x 0 0) 4 (x 4 + 1)) (cb_upr (cb_upr (cb_upr A 3 (upd (A 3) nw (nI k9))) 4 (upd (A 4) nw (nI j9))) 5 (upd (A 5) nw (md_ev p2 (fx_unit j9)))) B)) b wm9) : ∃ (wc9 : va_W) (ov9 : Nat → Int64), w1 = (o, .inl (cJ, 1, .inr (.inl ov9))) :: wc9 ∧ rQ F xa ma wc9 wm9 r ∧ (r = 0 → ov9 0 = b.toInt64) := by
  obtain ⟨hT, hK, hE, hD, hLL, hP⟩ := hS
  obtain ⟨wc9, ov9, e, hc⟩ := hc
  refine ⟨wc9, ov9, e, ?_⟩
  have hz4 : z 4 = nI nw := by
    obtain ⟨n, a1, a2, a3, -⟩ := hE
    rw [a2, nI_inj (by omega) (by omega) a3 hx4]
  rcases hc with ⟨hr, v9, ⟨k, j, hk, hj, ek, ej, c1, c2, c3, ev, hI9, hh⟩, eo⟩ | ⟨hr, hx, hw, eo⟩ | ⟨hr, hx, hw, eo⟩
  · subst hr
    rcases hm with ⟨hx, -⟩ | ⟨k9, j9, hk9, hj9, ek9, ej9, -, -, h100, -⟩ | ⟨k9, j9, hk9, hj9, ek9, ej9, d1, d2, d3, eb, hM⟩
    · exfalso
      rcases hx with hx | hx | hx
      · exact nI_no hk (by omega) ek hx
      · exact nI_no hj (by omega) ej hx
      · exact hx.elim c1 c2
    · rw [hz4, h100] at c3
      exact absurd c3 (by decide)
    · have e1 := nI_inj (by omega) (by omega) ek ek9
      have e2 := nI_inj (by omega) (by omega) ej ej9
      subst e1 e2
      obtain ⟨q, q1, q2, q3, q4⟩ := cb_ev hj c1 c2
      rw [q3] at hI9 ev
      rw [q4] at hM eb
      refine ⟨⟨κ, ra, _, sg, _, _, pd, nl, la, lp, li, ll, μ, _, _, B, hI9, hL.of hh, hM, hκ, hμ, ⟨hT, hK, ?_, ?_, ?_, hP⟩, rfl⟩, fun _ => ?_⟩
      · exact rE.put (nw := nw) hE hx4 d3 hk hj rfl ⟨q1, q2⟩ (fun c d => by
          by_cases w : c = k
          · subst w; rw [cb_upg_s, if_pos rfl]
          · rw [cb_upg_n (fun w2 => w w2.2), if_neg w]) rfl rfl rfl
      · exact rD.ext (A := A) rfl rfl rfl hD
      · exact rL.ext (x5 := x 5) (A := A) (B := B) rfl rfl rfl rfl rfl rfl rfl rfl rfl hLL
      · rw [eo, eb, ev, updL_s]
  · subst hw hr
    rcases hx with ⟨-, hx⟩ | ⟨hx, -⟩
    · rcases hm with ⟨-, hM⟩ | ⟨k9, j9, hk9, hj9, ek9, ej9, d1, d2, h100, -⟩ | ⟨k9, j9, hk9, hj9, ek9, ej9, d1, d2, d3, eb, hM⟩
      · exact ⟨⟨κ, ra, z, sg, G, we, pd, nl, la, lp, li, ll, μ, _, A, B, hI, hL, hM, hκ, hμ, ⟨hT, hK, hE, hD, hLL, hP⟩, rfl⟩, fun q => absurd q (by decide)⟩
      · exfalso
        rcases hx with hx | hx | hx | hx
        · exact nI_no hk9 (by omega) ek9 hx
        · exact nI_no hj9 (by omega) ej9 hx
        · exact d1 hx
        · exact d2 hx
      · exfalso
        rcases hx with hx | hx | hx | hx
        · exact nI_no hk9 (by omega) ek9 hx
        · exact nI_no hj9 (by omega) ej9 hx
        · exact d1 hx
        · exact d2 hx
    · exact absurd hx (by decide)
  · subst hw hr
    rcases hx with ⟨hx, -⟩ | ⟨-, k, j, hk, hj, ek, ej, c1, c2, c3⟩
    · exact absurd hx (by decide)
    · rcases hm with ⟨hx, hM⟩ | ⟨k9, j9, hk9, hj9, ek9, ej9, d1, d2, h100, hM⟩ | ⟨k9, j9, hk9, hj9, ek9, ej9, d1, d2, d3, eb, hM⟩
      · exfalso
        rcases hx with hx | hx | hx
        · exact nI_no hk (by omega) ek hx
        · exact nI_no hj (by omega) ej hx
        · exact hx.elim c1 c2
      · exact ⟨⟨κ, ra, z, sg, G, we, pd, nl, la, lp, li, ll, μ, _, A, B, hI, hL, hM, hκ, hμ, ⟨hT, hK, hE, hD, hLL, hP⟩, rfl⟩, fun q => absurd q (by decide)⟩
      · exfalso
        rw [hz4] at c3
        exact c3 (nI_lt (b := 100) d3 (by omega))
theorem op_correct (hI : cb_I cI cC cJ cII wc κ ra z sg G we pd) (hL : cb_L cO wc (κ 62) (z 5) (fx_e0 F) nl la lp li ll) (hκ : κ 0 = xa) (hμ : μ 0 = ma) (hS : rS z x sg G we pd nl li ll A B) {o : Nat} {ov : Nat → Int64} (p0 : Int32) (p1 : Int64)  {r : Int32} {w1 : va_W} (hc : (fun (r : Int32) (w1 : va_W) => ∃ (wc9 : va_W) (ov9 : Nat → Int64), w1 = (o, .inl (cJ, 1, .inr (.inl ov9))) :: wc9 ∧ ((r = 0 ∧ ∃ v9 : Int32, (fun r w1 => ∃ t9, t9 < nl ∧ p0 = nI t9 ∧ ¬ p1 < 0 ∧ ¬ 1000000000000 < p1 ∧ nl < 200 ∧ ((r = -1 ∧ (¬ li t9 4 = -1 ∨ ll t9 1 = p1) ∧ w1 = wc) ∨ (r = nI nl ∧ li t9 4 = -1 ∧ ¬ ll t9 1 = p1 ∧ ∃ (la9 lp9 : Nat → Nat), cb_I cI cC cJ cII w1 κ ra (upd z 5 (z 5 + 1)) sg G we pd ∧ cb_L cO w1 (κ 62) (z 5 + 1) (fx_e0 F) (nl + 1) la9 lp9 (cb_upr li nl (upd (cb_mli (li t9 0) (li t9 1) 0 0 (nI t9) 0) 6 (li t9 6))) (cb_upr (cb_upr ll t9 (vp_updL (ll t9) 1 p1)) nl (fun _ => p1 - ll t9 1))))) v9 wc9 ∧ ov9 = vp_updL ov 0 v9.toInt64) ∨ (r = 1 ∧ (fun E => (E = "java/lang/IllegalArgumentException" ∧ ((p0 < 0 ∨ nI nl ≤ p0) ∨ (p1 < 0 ∨ 1000000000000 < p1))) ∨ (E = "java/lang/IllegalStateException" ∧ ∃ t9, t9 < nl ∧ p0 = nI t9 ∧ ¬ p1 < 0 ∧ ¬ 1000000000000 < p1 ∧ ¬ nl < 200)) "java/lang/IllegalArgumentException" ∧ wc9 = wc ∧ ov9 = ov) ∨ (r = 2 ∧ (fun E => (E = "java/lang/IllegalArgumentException" ∧ ((p0 < 0 ∨ nI nl ≤ p0) ∨ (p1 < 0 ∨ 1000000000000 < p1))) ∨ (E = "java/lang/IllegalStateException" ∧ ∃ t9, t9 < nl ∧ p0 = nI t9 ∧ ¬ p1 < 0 ∧ ¬ 1000000000000 < p1 ∧ ¬ nl < 200)) "java/lang/IllegalStateException" ∧ wc9 = wc ∧ ov9 = ov))) r w1) {b : Int32} {wm9 : va_W} (hm : (fun (r : Int32) (w1 : va_W) => (((p0 < 0 ∨ nI nl ≤ p0) ∨ (p1 < 0 ∨ 1000000000000 < p1)) ∧ md_I cI cJ cZ w1 μ (upd x 0 1) A B) ∨ (∃ t9, t9 < nl ∧ p0 = nI t9 ∧ ¬ p1 < 0 ∧ ¬ 1000000000000 < p1 ∧ ((nl = 200 ∧ md_I cI cJ cZ w1 μ (upd x 0 2) A B) ∨ (nl < 200 ∧ ((r = -1 ∧ (¬ A 13 t9 = -1 ∨ md_wh A B t9 nl = p1) ∧ md_I cI cJ cZ w1 μ (upd x 0 0) A B) ∨ (r = nI nl ∧ A 13 t9 = -1 ∧ ¬ md_wh A B t9 nl = p1 ∧ md_I cI cJ cZ w1 μ (upd (upd x 0 0) 5 (x 5 + 1)) (md_nl (cb_upr A 17 (upd (A 17) nl 0)) nl (A 9 t9) (A 10 t9) 0 0 (nI t9)) (cb_upr B 14 (vp_updL (B 14) nl (p1 - md_wh A B t9 nl))))))))) b wm9) : ∃ (wc9 : va_W) (ov9 : Nat → Int64), w1 = (o, .inl (cJ, 1, .inr (.inl ov9))) :: wc9 ∧ rQ F xa ma wc9 wm9 r ∧ (r = 0 → ov9 0 = b.toInt64) := by
  obtain ⟨hT, hK, hE, hD, hLL, hP⟩ := hS
  obtain ⟨wc9, ov9, e, hc⟩ := hc
  refine ⟨wc9, ov9, e, ?_⟩
  have hnl := hLL.1
  rcases hc with ⟨hr, v9, ⟨t, ht, et, c1, c2, c3, hc⟩, eo⟩ | ⟨hr, hx, hw, eo⟩ | ⟨hr, hx, hw, eo⟩
  · subst hr
    rcases hm with ⟨hx, -⟩ | ⟨t9, ht9, et9, d1, d2, hm⟩
    · exfalso
      rcases hx with hx | hx
      · exact nI_no ht (by omega) et hx
      · exact hx.elim c1 c2
    · have e1 := nI_inj (by omega) (by omega) et et9
      subst e1
      obtain ⟨b0, b1, b2, b3, b4, b5, b6, b7, b8, b9⟩ := hLL.2.2.1 t ht
      rcases hm with ⟨h200, -⟩ | ⟨-, hm⟩
      · omega
      · rcases hc with ⟨ev, hn, hw⟩ | ⟨ev, g1, g2, la9, lp9, hI9, hL9⟩
        · subst hw
          rcases hm with ⟨eb, -, hM⟩ | ⟨eb, g1, g2, hM⟩
          · exact ⟨⟨κ, ra, z, sg, G, we, pd, nl, la, lp, li, ll, μ, _, A, B, hI, hL, hM, hκ, hμ, ⟨hT, hK, hE, hD, hLL, hP⟩, rfl⟩, fun _ => by rw [eo, eb, ev, updL_s]⟩
          · exfalso
            rcases hn with hn | hn
            · exact hn (b4.trans g1)
            · rw [if_pos g1] at b8
              exact g2 (b8.symm.trans hn)
        · have g3 : A 13 t = -1 := b4.symm.trans g1
          rw [if_pos g3] at b8
          rcases hm with ⟨eb, hn, hM⟩ | ⟨eb, -, -, hM⟩
          · exfalso
            rcases hn with hn | hn
            · exact hn g3
            · exact g2 (b8.trans hn)
          · refine ⟨⟨κ, ra, _, sg, G, we, pd, _, la9, lp9, _, _, μ, _, _, _, hI9, hL9, hM, hκ, hμ, ⟨hT, hK, ?_, ?_, ?_, hP⟩, rfl⟩, fun _ => by rw [eo, eb, ev, updL_s]⟩
            · exact rE.ext (z4 := z 4) (x4 := x 4) (A := A) rfl rfl rfl rfl rfl hE
            · exact rD.ext (A := A) rfl rfl rfl hD
            · exact rL.cor hLL c3 (by
                show x 5 + 1 = _
                rw [hLL.2.1, nI_1]) ht g3
  · subst hw hr
    rcases hx with ⟨-, hx⟩ | ⟨hx, -⟩
    · rcases hm with ⟨-, hM⟩ | ⟨t9, ht9, et9, d1, d2, hm⟩
      · exact ⟨⟨κ, ra, z, sg, G, we, pd, nl, la, lp, li, ll, μ, _, A, B, hI, hL, hM, hκ, hμ, ⟨hT, hK, hE, hD, hLL, hP⟩, rfl⟩, fun q => absurd q (by decide)⟩
      · exfalso
        rcases hx with hx | hx
        · exact nI_no ht9 (by omega) et9 hx
        · exact hx.elim d1 d2
    · exact absurd hx (by decide)
  · subst hw hr
    rcases hx with ⟨hx, -⟩ | ⟨-, t, ht, et, c1, c2, c3⟩
    · exact absurd hx (by decide)
    · rcases hm with ⟨hx, hM⟩ | ⟨t9, ht9, et9, d1, d2, hm⟩
      · exfalso
        rcases hx with hx | hx
        · exact nI_no ht (by omega) et hx
        · exact hx.elim c1 c2
      · rcases hm with ⟨h200, hM⟩ | ⟨h200, hm⟩
        · exact ⟨⟨κ, ra, z, sg, G, we, pd, nl, la, lp, li, ll, μ, _, A, B, hI, hL, hM, hκ, hμ, ⟨hT, hK, hE, hD, hLL, hP⟩, rfl⟩, fun q => absurd q (by decide)⟩
        · omega
theorem op_dispute (hI : cb_I cI cC cJ cII wc κ ra z sg G we pd) (hL : cb_L cO wc (κ 62) (z 5) (fx_e0 F) nl la lp li ll) (hκ : κ 0 = xa) (hμ : μ 0 = ma) (hS : rS z x sg G we pd nl li ll A B) {o : Nat} {ov : Nat → Int64} (p0 p1 : Int32) (hb01 : p1 = 0 ∨ p1 = 1) {r : Int32} {w1 : va_W} (hc : (fun (r : Int32) (w1 : va_W) => ∃ (wc9 : va_W) (ov9 : Nat → Int64), w1 = (o, .inl (cJ, 1, .inr (.inl ov9))) :: wc9 ∧ ((r = 0 ∧ ∃ v9 : Int32, (fun r w1 => ∃ t9, t9 < nl ∧ p0 = nI t9 ∧ ((r = 0 ∧ (¬ li t9 4 = -1 ∨ li t9 6 = p1) ∧ w1 = wc) ∨ (r = 1 ∧ li t9 4 = -1 ∧ ¬ li t9 6 = p1 ∧ cb_I cI cC cJ cII w1 κ ra z sg G we pd ∧ cb_L cO w1 (κ 62) (z 5) (fx_e0 F) nl la lp (cb_dsp li t9 p1 nl) ll))) v9 wc9 ∧ ov9 = vp_updL ov 0 v9.toInt64) ∨ (r = 1 ∧ (fun E => E = "java/lang/IllegalArgumentException" ∧ (p0 < 0 ∨ nI nl ≤ p0)) "java/lang/IllegalArgumentException" ∧ wc9 = wc ∧ ov9 = ov))) r w1) {b : Int32} {wm9 : va_W} (hm : (fun (r : Int32) (w1 : va_W) => ((p0 < 0 ∨ nI nl ≤ p0) ∧ md_I cI cJ cZ w1 μ (upd x 0 1) A B) ∨ (∃ t9, t9 < nl ∧ p0 = nI t9 ∧ ((r = 0 ∧ (¬ A 13 t9 = -1 ∨ A 16 t9 = p1) ∧ md_I cI cJ cZ w1 μ (upd x 0 0) A B) ∨ (r = 1 ∧ A 13 t9 = -1 ∧ ¬ A 16 t9 = p1 ∧ md_I cI cJ cZ w1 μ (upd x 0 0) (cb_upr A 16 (upd (A 16) t9 p1)) B)))) b wm9) : ∃ (wc9 : va_W) (ov9 : Nat → Int64), w1 = (o, .inl (cJ, 1, .inr (.inl ov9))) :: wc9 ∧ rQ F xa ma wc9 wm9 r ∧ (r = 0 → ov9 0 = b.toInt64) := by
  obtain ⟨hT, hK, hE, hD, hLL, hP⟩ := hS
  obtain ⟨wc9, ov9, e, hc⟩ := hc
  refine ⟨wc9, ov9, e, ?_⟩
  have hnl := hLL.1
  rcases hc with ⟨hr, v9, ⟨t, ht, et, hc⟩, eo⟩ | ⟨hr, ⟨-, hx⟩, hw, eo⟩
  · subst hr
    rcases hm with ⟨hx, -⟩ | ⟨t9, ht9, et9, hm⟩
    · exact absurd hx (nI_no ht (by omega) et)
    · have e1 := nI_inj (by omega) (by omega) et et9
      subst e1
      obtain ⟨b0, b1, b2, b3, b4, b5, b6, b7, b8, b9⟩ := hLL.2.2.1 t ht
      rcases hc with ⟨ev, hn, hw⟩ | ⟨ev, g1, g2, hI9, hL9⟩
      · subst hw
        rcases hm with ⟨eb, -, hM⟩ | ⟨eb, g1, g2, hM⟩
        · exact ⟨⟨κ, ra, z, sg, G, we, pd, nl, la, lp, li, ll, μ, _, A, B, hI, hL, hM, hκ, hμ, ⟨hT, hK, hE, hD, hLL, hP⟩, rfl⟩, fun _ => by rw [eo, eb, ev, updL_s]⟩
        · exfalso
          rcases hn with hn | hn
          · exact hn (b4.trans g1)
          · rw [md_root_m g1] at b6
            exact g2 (b6.symm.trans hn)
      · have g3 : A 13 t = -1 := b4.symm.trans g1
        rw [md_root_m g3] at b6
        rcases hm with ⟨eb, hn, hM⟩ | ⟨eb, -, -, hM⟩
        · exfalso
          rcases hn with hn | hn
          · exact hn g3
          · exact g2 (b6.trans hn)
        · refine ⟨⟨κ, ra, _, sg, G, we, pd, _, la, lp, _, _, μ, _, _, _, hI9, hL9, hM, hκ, hμ, ⟨hT, hK, ?_, ?_, ?_, hP⟩, rfl⟩, fun _ => by rw [eo, eb, ev, updL_s]⟩
          · exact rE.ext (z4 := z 4) (x4 := x 4) (A := A) rfl rfl rfl rfl rfl hE
          · exact rD.ext (A := A) rfl rfl rfl hD
          · exact rL.dsp hLL ht g3 hb01
  · subst hw hr
    rcases hm with ⟨-, hM⟩ | ⟨t9, ht9, et9, hm⟩
    · exact ⟨⟨κ, ra, z, sg, G, we, pd, nl, la, lp, li, ll, μ, _, A, B, hI, hL, hM, hκ, hμ, ⟨hT, hK, hE, hD, hLL, hP⟩, rfl⟩, fun q => absurd q (by decide)⟩
    · exact absurd hx (nI_no ht9 (by omega) et9)
theorem op_pay (hI : cb_I cI cC cJ cII wc κ ra z sg G we pd) (hL : cb_L cO wc (κ 62) (z 5) (fx_e0 F) nl la lp li ll) (hκ : κ 0 = xa) (hμ : μ 0 = ma) (hS : rS z x sg G we pd nl li ll A B) {o : Nat} {ov : Nat → Int64} (p0 : Int32) (p1 : Int64)  {r : Int32} {w1 : va_W} (hc : (fun (r : Int32) (w1 : va_W) => ∃ (wc9 : va_W) (ov9 : Nat → Int64), w1 = (o, .inl (cJ, 1, .inr (.inl ov9))) :: wc9 ∧ ((r = 0 ∧ ∃ v9 : Int64, (fun r w1 => ∃ k, k < 10 ∧ p0 = nI k ∧ ¬ p1 < 1 ∧ ¬ 1000000000000 < p1 ∧ r = cb_ow (nI k) li ll (-(vp_updL pd k (pd k + p1) k)) nl ∧ cb_I cI cC cJ cII w1 κ ra z sg G we (vp_updL pd k (pd k + p1)) ∧ cb_hi wc w1) v9 wc9 ∧ ov9 = vp_updL ov 0 v9) ∨ (r = 1 ∧ (fun E => E = "java/lang/IllegalArgumentException" ∧ ((p0 < 0 ∨ nI 10 ≤ p0) ∨ (p1 < 1 ∨ 1000000000000 < p1))) "java/lang/IllegalArgumentException" ∧ wc9 = wc ∧ ov9 = ov))) r w1) {b : Int64} {wm9 : va_W} (hm : (fun (r : Int64) (w1 : va_W) => (((p0 < 0 ∨ nI 10 ≤ p0) ∨ (p1 < 1 ∨ 1000000000000 < p1)) ∧ md_I cI cJ cZ w1 μ (upd x 0 1) A B) ∨ (∃ k9, k9 < 10 ∧ p0 = nI k9 ∧ ¬ p1 < 1 ∧ ¬ 1000000000000 < p1 ∧ r = md_lf A (cb_upr B 15 (vp_updL (B 15) k9 (B 15 k9 + p1))) (nI k9) (-(B 15 k9 + p1)) nl ∧ md_I cI cJ cZ w1 μ (upd x 0 0) A (cb_upr B 15 (vp_updL (B 15) k9 (B 15 k9 + p1))))) b wm9) : ∃ (wc9 : va_W) (ov9 : Nat → Int64), w1 = (o, .inl (cJ, 1, .inr (.inl ov9))) :: wc9 ∧ rQ F xa ma wc9 wm9 r ∧ (r = 0 → ov9 0 = b) := by
  obtain ⟨hT, hK, hE, hD, hLL, hP⟩ := hS
  obtain ⟨wc9, ov9, e, hc⟩ := hc
  refine ⟨wc9, ov9, e, ?_⟩
  rcases hc with ⟨hr, v9, ⟨k, hk, ek, c1, c2, ev, hI9, hh⟩, eo⟩ | ⟨hr, ⟨-, hx⟩, hw, eo⟩
  · subst hr
    rcases hm with ⟨hx, -⟩ | ⟨k9, hk9, ek9, d1, d2, eb, hM⟩
    · exfalso
      rcases hx with hx | hx
      · exact nI_no hk (by omega) ek hx
      · exact hx.elim c1 c2
    · have e1 := nI_inj (by omega) (by omega) ek ek9
      subst e1
      refine ⟨⟨κ, ra, z, sg, G, we, _, nl, la, lp, li, ll, μ, _, A, _, hI9, hL.of hh, hM, hκ, hμ, ⟨hT, hK, hE, hD, ?_, ?_⟩, rfl⟩, fun _ => ?_⟩
      · exact rL.ext (x5 := x 5) (A := A) (B := B) rfl rfl rfl rfl rfl rfl rfl rfl rfl hLL
      · intro c hc
        show vp_updL pd k (pd k + p1) c = vp_updL (B 15) k (B 15 k + p1) c
        by_cases w : c = k
        · subst w; rw [updL_s, updL_s, hP c hc]
        · rw [updL_n w, updL_n w]; exact hP c hc
      · rw [eo, updL_s, ev, eb, md_lf_e (B := B) (B' := cb_upr B 15 (vp_updL (B 15) k (B 15 k + p1))) rfl, updL_s, hP k hk]
        exact hLL.owe nl (Nat.le_refl _)
  · subst hw hr
    rcases hm with ⟨-, hM⟩ | ⟨k9, hk9, ek9, d1, d2, eb, hM⟩
    · exact ⟨⟨κ, ra, z, sg, G, we, pd, nl, la, lp, li, ll, μ, _, A, B, hI, hL, hM, hκ, hμ, ⟨hT, hK, hE, hD, hLL, hP⟩, rfl⟩, fun q => absurd q (by decide)⟩
    · exfalso
      rcases hx with hx | hx
      · exact nI_no hk9 (by omega) ek9 hx
      · exact hx.elim d1 d2
theorem op_unpaid (hI : cb_I cI cC cJ cII wc κ ra z sg G we pd) (hL : cb_L cO wc (κ 62) (z 5) (fx_e0 F) nl la lp li ll) (hκ : κ 0 = xa) (hμ : μ 0 = ma) (hS : rS z x sg G we pd nl li ll A B) {o : Nat} {ov : Nat → Int64} (p0 : Int32)  {r : Int32} {w1 : va_W} (hc : (fun (r : Int32) (w1 : va_W) => ∃ (wc9 : va_W) (ov9 : Nat → Int64), w1 = (o, .inl (cJ, 1, .inr (.inl ov9))) :: wc9 ∧ ((r = 0 ∧ wc9 = wc ∧ ∃ v9 : Int64, (fun r => ∃ k, k < 10 ∧ p0 = nI k ∧ r = cb_ow (nI k) li ll (-(pd k)) nl) v9 ∧ ov9 = vp_updL ov 0 v9) ∨ (r = 1 ∧ (fun E => E = "java/lang/IllegalArgumentException" ∧ (p0 < 0 ∨ nI 10 ≤ p0)) "java/lang/IllegalArgumentException" ∧ wc9 = wc ∧ ov9 = ov))) r w1) {b : Int64} {wm9 : va_W} (hm : (fun (r : Int64) (w1 : va_W) => ((p0 < 0 ∨ nI 10 ≤ p0) ∧ md_I cI cJ cZ w1 μ (upd x 0 1) A B) ∨ (∃ k9, k9 < 10 ∧ p0 = nI k9 ∧ r = md_lf A B (nI k9) (-(B 15 k9)) nl ∧ md_I cI cJ cZ w1 μ (upd x 0 0) A B)) b wm9) : ∃ (wc9 : va_W) (ov9 : Nat → Int64), w1 = (o, .inl (cJ, 1, .inr (.inl ov9))) :: wc9 ∧ rQ F xa ma wc9 wm9 r ∧ (r = 0 → ov9 0 = b) := by
  obtain ⟨hT, hK, hE, hD, hLL, hP⟩ := hS
  obtain ⟨wc9, ov9, e, hc⟩ := hc
  refine ⟨wc9, ov9, e, ?_⟩
  rcases hc with ⟨hr, hw, v9, ⟨k, hk, ek, ev⟩, eo⟩ | ⟨hr, ⟨-, hx⟩, hw, eo⟩
  · subst hw hr
    rcases hm with ⟨hx, -⟩ | ⟨k9, hk9, ek9, eb, hM⟩
    · exact absurd hx (nI_no hk (by omega) ek)
    · have e1 := nI_inj (by omega) (by omega) ek ek9
      subst e1
      refine ⟨⟨κ, ra, z, sg, G, we, pd, nl, la, lp, li, ll, μ, _, A, B, hI, hL, hM, hκ, hμ, ⟨hT, hK, hE, hD, hLL, hP⟩, rfl⟩, fun _ => ?_⟩
      rw [eo, updL_s, ev, eb, hP k hk]
      exact hLL.owe nl (Nat.le_refl _)
  · subst hw hr
    rcases hm with ⟨-, hM⟩ | ⟨k9, hk9, ek9, eb, hM⟩
    · exact ⟨⟨κ, ra, z, sg, G, we, pd, nl, la, lp, li, ll, μ, _, A, B, hI, hL, hM, hκ, hμ, ⟨hT, hK, hE, hD, hLL, hP⟩, rfl⟩, fun q => absurd q (by decide)⟩
    · exact absurd hx (nI_no hk9 (by omega) ek9)
theorem op_share (hI : cb_I cI cC cJ cII wc κ ra z sg G we pd) (hL : cb_L cO wc (κ 62) (z 5) (fx_e0 F) nl la lp li ll) (hκ : κ 0 = xa) (hμ : μ 0 = ma) (hS : rS z x sg G we pd nl li ll A B) {o : Nat} {ov : Nat → Int64} (p0 : Int64) (p1 p2 : Int32)  {r : Int32} {w1 : va_W} (hc : (fun (r : Int32) (w1 : va_W) => ∃ (wc9 : va_W) (ov9 : Nat → Int64), w1 = (o, .inl (cJ, 1, .inr (.inl ov9))) :: wc9 ∧ ((r = 0 ∧ wc9 = wc ∧ ∃ v9 : Int64, (fun r => ¬ p0 < 0 ∧ ¬ 1000000000000 < p0 ∧ ∃ k j, k ≤ 1000000 ∧ j ≤ 1000000 ∧ p1 = nI k ∧ p2 = nI j ∧ ¬ nI j = 0 ∧ r = cb_quo (p0 * (nI k).toInt64) (nI j).toInt64) v9 ∧ ov9 = vp_updL ov 0 v9) ∨ (r = 1 ∧ (fun E => (E = "java/lang/IllegalArgumentException" ∧ ((p0 < 0 ∨ 1000000000000 < p0) ∨ (p1 < 0 ∨ nI 1000000 < p1) ∨ (p2 < 0 ∨ nI 1000000 < p2))) ∨ (E = "java/lang/ArithmeticException" ∧ ¬ p0 < 0 ∧ ¬ 1000000000000 < p0 ∧ ∃ k j, k ≤ 1000000 ∧ j ≤ 1000000 ∧ p1 = nI k ∧ p2 = nI j ∧ nI j = 0)) "java/lang/IllegalArgumentException" ∧ wc9 = wc ∧ ov9 = ov) ∨ (r = 2 ∧ (fun E => (E = "java/lang/IllegalArgumentException" ∧ ((p0 < 0 ∨ 1000000000000 < p0) ∨ (p1 < 0 ∨ nI 1000000 < p1) ∨ (p2 < 0 ∨ nI 1000000 < p2))) ∨ (E = "java/lang/ArithmeticException" ∧ ¬ p0 < 0 ∧ ¬ 1000000000000 < p0 ∧ ∃ k j, k ≤ 1000000 ∧ j ≤ 1000000 ∧ p1 = nI k ∧ p2 = nI j ∧ nI j = 0)) "java/lang/ArithmeticException" ∧ wc9 = wc ∧ ov9 = ov))) r w1) {b : Int64} {wm9 : va_W} (hm : (fun (r : Int64) (w1 : va_W) => (((p0 < 0 ∨ 1000000000000 < p0) ∨ (p1 < 0 ∨ 1000000 < p1) ∨ (p2 < 0 ∨ 1000000 < p2)) ∧ md_I cI cJ cZ w1 μ (upd x 0 1) A B) ∨ (¬ p0 < 0 ∧ ¬ 1000000000000 < p0 ∧ ¬ p1 < 0 ∧ ¬ 1000000 < p1 ∧ ¬ p2 < 0 ∧ ¬ 1000000 < p2 ∧ ((p2 = 0 ∧ md_I cI cJ cZ w1 μ (upd x 0 2) A B) ∨ (¬ p2 = 0 ∧ r = p0 * p1.toInt64 / p2.toInt64 ∧ md_I cI cJ cZ w1 μ (upd x 0 0) A B)))) b wm9) : ∃ (wc9 : va_W) (ov9 : Nat → Int64), w1 = (o, .inl (cJ, 1, .inr (.inl ov9))) :: wc9 ∧ rQ F xa ma wc9 wm9 r ∧ (r = 0 → ov9 0 = b) := by
  obtain ⟨hT, hK, hE, hD, hLL, hP⟩ := hS
  obtain ⟨wc9, ov9, e, hc⟩ := hc
  refine ⟨wc9, ov9, e, ?_⟩
  rcases hc with ⟨hr, hw, v9, ⟨c1, c2, k, j, hk, hj, ek, ej, hj0, ev⟩, eo⟩ | ⟨hr, hx, hw, eo⟩ | ⟨hr, hx, hw, eo⟩
  · subst hw hr
    rcases hm with ⟨hx, -⟩ | ⟨d1, d2, d3, d4, d5, d6, ⟨h0, -⟩ | ⟨h0, eb, hM⟩⟩
    · exfalso
      rcases hx with hx | hx | hx
      · exact hx.elim c1 c2
      · exact hx.elim (fun q => nI_pos (by omega) (ek ▸ q)) (fun q => nI_nlt (a := 1000000) (b := k) hk (by omega) (ek ▸ q))
      · exact hx.elim (fun q => nI_pos (by omega) (ej ▸ q)) (fun q => nI_nlt (a := 1000000) (b := j) hj (by omega) (ej ▸ q))
    · exact absurd (ej.symm.trans h0) hj0
    · refine ⟨⟨κ, ra, z, sg, G, we, pd, nl, la, lp, li, ll, μ, _, A, B, hI, hL, hM, hκ, hμ, ⟨hT, hK, hE, hD, hLL, hP⟩, rfl⟩, fun _ => ?_⟩
      rw [eo, updL_s, ev, eb, ek, ej]
      unfold cb_quo
      have hj1 : ¬ j = 0 := fun q => hj0 (by rw [q]; rfl)
      rw [if_neg (by
        rw [nI_l (by omega)]
        intro q
        have := (lN_lt (a := j) (b := 1) (by omega) (by omega)).mp q
        omega)]
  · subst hw hr
    rcases hx with ⟨-, hx⟩ | ⟨hx, -⟩
    · rcases hm with ⟨-, hM⟩ | ⟨d1, d2, d3, d4, d5, d6, -⟩
      · exact ⟨⟨κ, ra, z, sg, G, we, pd, nl, la, lp, li, ll, μ, _, A, B, hI, hL, hM, hκ, hμ, ⟨hT, hK, hE, hD, hLL, hP⟩, rfl⟩, fun q => absurd q (by decide)⟩
      · exfalso
        rcases hx with hx | hx | hx
        · exact hx.elim d1 d2
        · exact hx.elim d3 d4
        · exact hx.elim d5 d6
    · exact absurd hx (by decide)
  · subst hw hr
    rcases hx with ⟨hx, -⟩ | ⟨-, c1, c2, k, j, hk, hj, ek, ej, hj0⟩
    · exact absurd hx (by decide)
    · rcases hm with ⟨hx, -⟩ | ⟨d1, d2, d3, d4, d5, d6, ⟨h0, hM⟩ | ⟨h0, eb, hM⟩⟩
      · exfalso
        rcases hx with hx | hx | hx
        · exact hx.elim c1 c2
        · exact hx.elim (fun q => nI_pos (by omega) (ek ▸ q)) (fun q => nI_nlt (a := 1000000) (b := k) hk (by omega) (ek ▸ q))
        · exact hx.elim (fun q => nI_pos (by omega) (ej ▸ q)) (fun q => nI_nlt (a := 1000000) (b := j) hj (by omega) (ej ▸ q))
      · exact ⟨⟨κ, ra, z, sg, G, we, pd, nl, la, lp, li, ll, μ, _, A, B, hI, hL, hM, hκ, hμ, ⟨hT, hK, hE, hD, hLL, hP⟩, rfl⟩, fun q => absurd q (by decide)⟩
      · exact absurd (ej.trans hj0) h0
theorem op_line (hI : cb_I cI cC cJ cII wc κ ra z sg G we pd) (hL : cb_L cO wc (κ 62) (z 5) (fx_e0 F) nl la lp li ll) (hκ : κ 0 = xa) (hμ : μ 0 = ma) (hS : rS z x sg G we pd nl li ll A B) {o : Nat} {ov : Nat → Int64} (p0 p1 : Int32)  {r : Int32} {w1 : va_W} (hc : (fun (r : Int32) (w1 : va_W) => ∃ (wc9 : va_W) (ov9 : Nat → Int64), w1 = (o, .inl (cJ, 1, .inr (.inl ov9))) :: wc9 ∧ ((r = 0 ∧ wc9 = wc ∧ ∃ v9 : Int64, (fun r => ∃ j w, j < nl ∧ w < 9 ∧ p0 = nI j ∧ p1 = nI w ∧ r = cb_part (li j) (ll j) w) v9 ∧ ov9 = vp_updL ov 0 v9) ∨ (r = 1 ∧ (fun E => E = "java/lang/IndexOutOfBoundsException" ∧ ((p0 < 0 ∨ nI nl ≤ p0) ∨ (p1 < 0 ∨ nI 9 ≤ p1))) "java/lang/IndexOutOfBoundsException" ∧ wc9 = wc ∧ ov9 = ov))) r w1) {b : Int64} {wm9 : va_W} (hm : (fun (r : Int64) (w1 : va_W) => (((p0 < 0 ∨ nI nl ≤ p0) ∨ (p1 < 0 ∨ nI 9 ≤ p1)) ∧ md_I cI cJ cZ w1 μ (upd x 0 1) A B) ∨ (∃ j9 w9, j9 < nl ∧ w9 < 9 ∧ p0 = nI j9 ∧ p1 = nI w9 ∧ r = md_pt A B j9 nl w9 ∧ md_I cI cJ cZ w1 μ (upd x 0 0) A B)) b wm9) : ∃ (wc9 : va_W) (ov9 : Nat → Int64), w1 = (o, .inl (cJ, 1, .inr (.inl ov9))) :: wc9 ∧ rQ F xa ma wc9 wm9 r ∧ (r = 0 → ov9 0 = b) := by
  obtain ⟨hT, hK, hE, hD, hLL, hP⟩ := hS
  obtain ⟨wc9, ov9, e, hc⟩ := hc
  refine ⟨wc9, ov9, e, ?_⟩
  have hnl := hLL.1
  rcases hc with ⟨hr, hw, v9, ⟨j, w, hj, hw9, ej, ew, ev⟩, eo⟩ | ⟨hr, ⟨-, hx⟩, hw, eo⟩
  · subst hw hr
    rcases hm with ⟨hx, -⟩ | ⟨j9, w9, hj9, hw99, ej9, ew9, eb, hM⟩
    · exfalso
      rcases hx with hx | hx
      · exact nI_no hj (by omega) ej hx
      · exact nI_no hw9 (by omega) ew hx
    · have e1 := nI_inj (by omega) (by omega) ej ej9
      have e2 := nI_inj (by omega) (by omega) ew ew9
      subst e1 e2
      exact ⟨⟨κ, ra, z, sg, G, we, pd, nl, la, lp, li, ll, μ, _, A, B, hI, hL, hM, hκ, hμ, ⟨hT, hK, hE, hD, hLL, hP⟩, rfl⟩, fun _ => by rw [eo, updL_s, ev, eb, hLL.part hj]⟩
  · subst hw hr
    rcases hm with ⟨-, hM⟩ | ⟨j9, w9, hj9, hw99, ej9, ew9, eb, hM⟩
    · exact ⟨⟨κ, ra, z, sg, G, we, pd, nl, la, lp, li, ll, μ, _, A, B, hI, hL, hM, hκ, hμ, ⟨hT, hK, hE, hD, hLL, hP⟩, rfl⟩, fun q => absurd q (by decide)⟩
    · exfalso
      rcases hx with hx | hx
      · exact nI_no hj9 (by omega) ej9 hx
      · exact nI_no hw99 (by omega) ew9 hx
theorem op_sign (hI : cb_I cI cC cJ cII wc κ ra z sg G we pd) (hL : cb_L cO wc (κ 62) (z 5) (fx_e0 F) nl la lp li ll) (hκ : κ 0 = xa) (hμ : μ 0 = ma) (hS : rS z x sg G we pd nl li ll A B) (p0 : Int32) {n : Nat} (hn : n ≤ 120) (h0 : z 0 = nI n) (hx1 : x 1 = nI n) {r : Int32} {w1 : va_W} (hc : (fun (r : Int32) (w1 : va_W) => (r = 0 ∧ (p0 < 33 ∨ 126 < p0 ∨ n = 120) ∧ w1 = wc) ∨ (r = 1 ∧ ¬ p0 < 33 ∧ ¬ 126 < p0 ∧ n < 120 ∧ cb_I cI cC cJ cII w1 κ ra (upd z 0 (z 0 + 1)) (upd sg n p0) G we pd ∧ cb_hi wc w1)) r w1) {b : Int32} {wm9 : va_W} (hm : (fun (r : Int32) (w1 : va_W) => (r = 0 ∧ (p0 < 33 ∨ 126 < p0 ∨ n = 120) ∧ md_I cI cJ cZ w1 μ (upd x 0 0) A B) ∨ (r = 1 ∧ ¬ p0 < 33 ∧ ¬ 126 < p0 ∧ n < 120 ∧ md_I cI cJ cZ w1 μ (upd (upd x 0 0) 1 (x 1 + 1)) (cb_upr A 1 (upd (A 1) n p0)) B)) b wm9) : rQ F xa ma w1 wm9 0 ∧ r = b := by
  obtain ⟨hT, hK, hE, hD, hLL, hP⟩ := hS
  rcases hc with ⟨er, hx, hw⟩ | ⟨er, c1, c2, c3, hI9, hh⟩
  · subst hw
    rcases hm with ⟨eb, -, hM⟩ | ⟨eb, d1, d2, d3, hM⟩
    · exact ⟨⟨κ, ra, z, sg, G, we, pd, nl, la, lp, li, ll, μ, _, A, B, hI, hL, hM, hκ, hμ, ⟨hT, hK, hE, hD, hLL, hP⟩, rfl⟩, er.trans eb.symm⟩
    · exfalso
      rcases hx with hx | hx | hx
      · exact d1 hx
      · exact d2 hx
      · omega
  · rcases hm with ⟨eb, hx, hM⟩ | ⟨eb, d1, d2, d3, hM⟩
    · exfalso
      rcases hx with hx | hx | hx
      · exact c1 hx
      · exact c2 hx
      · omega
    · refine ⟨⟨κ, ra, _, _, G, we, pd, nl, la, lp, li, ll, μ, _, _, B, hI9, hL.of hh, hM, hκ, hμ, ⟨?_, hK, ?_, ?_, ?_, hP⟩, rfl⟩, er.trans eb.symm⟩
      · obtain ⟨n9, a1, a2, a3, a4, a5⟩ := hT
        have e1 := nI_inj (by omega) (by omega) h0 a2
        subst e1
        refine ⟨n + 1, by omega, ?_, ?_, fun j hj => ?_, fun j => ?_⟩
        · show z 0 + 1 = _
          rw [h0, nI_1]
        · show x 1 + 1 = _
          rw [hx1, nI_1]
        · show upd (A 1) n p0 j = upd sg n p0 j
          by_cases w : j = n
          · rw [w, upd_s, upd_s]
          · rw [upd_n w, upd_n w]; exact a4 j (by omega)
        · by_cases w : j = n
          · rw [w, upd_s]; exact cb_fitc c1 c2
          · rw [upd_n w]; exact a5 j
      · exact rE.ext (z4 := z 4) (x4 := x 4) (A := A) rfl rfl rfl rfl rfl hE
      · exact rD.ext (A := A) rfl rfl rfl hD
      · exact rL.ext (x5 := x 5) (A := A) (B := B) rfl rfl rfl rfl rfl rfl rfl rfl rfl hLL
theorem op_discount (hI : cb_I cI cC cJ cII wc κ ra z sg G we pd) (hL : cb_L cO wc (κ 62) (z 5) (fx_e0 F) nl la lp li ll) (hκ : κ 0 = xa) (hμ : μ 0 = ma) (hS : rS z x sg G we pd nl li ll A B) (p0 p1 p2 p3 : Int32)  {r : Int32} {w1 : va_W} (hc : (fun (r : Int32) (w1 : va_W) => (r = 0 ∧ w1 = wc ∧ (((p0 < 0 ∨ nI 10 ≤ p0) ∨ (p1 < 0 ∨ nI 6 ≤ p1) ∨ p3 < 1 ∨ 100 < p3 ∨ p2 < 0 ∨ p3 < p2) ∨ ∃ k j, k < 10 ∧ j < 6 ∧ p0 = nI k ∧ p1 = nI j ∧ ¬ p3 < 1 ∧ ¬ 100 < p3 ∧ ¬ p2 < 0 ∧ ¬ p3 < p2 ∧ ¬ G 3 k j < 3)) ∨ (r = 1 ∧ ∃ k j, k < 10 ∧ j < 6 ∧ p0 = nI k ∧ p1 = nI j ∧ ¬ p3 < 1 ∧ ¬ 100 < p3 ∧ ¬ p2 < 0 ∧ ¬ p3 < p2 ∧ G 3 k j < 3 ∧ cb_I cI cC cJ cII w1 κ ra z sg (cb_upg (cb_upg (cb_upg G 3 k (upd (G 3 k) j (G 3 k j + 1))) 4 k (upd (G 4 k) j (G 4 k j * (p3 - p2)))) 5 k (upd (G 5 k) j (G 5 k j * p3))) we pd ∧ cb_hi wc w1)) r w1) {b : Int32} {wm9 : va_W} (hm : (fun (r : Int32) (w1 : va_W) => (r = 0 ∧ ((p0 < 0 ∨ nI 10 ≤ p0) ∨ (p1 < 0 ∨ nI 6 ≤ p1) ∨ (p3 < 1 ∨ 100 < p3) ∨ (p2 < 0 ∨ p3 < p2)) ∧ md_I cI cJ cZ w1 μ (upd x 0 0) A B) ∨ (∃ k9 j9, k9 < 10 ∧ j9 < 6 ∧ p0 = nI k9 ∧ p1 = nI j9 ∧ ¬ p3 < 1 ∧ ¬ 100 < p3 ∧ ¬ p2 < 0 ∧ ¬ p3 < p2 ∧ A 6 (6 * k9 + j9) = 3 ∧ r = 0 ∧ md_I cI cJ cZ w1 μ (upd x 0 0) A B) ∨ (∃ k9 j9, k9 < 10 ∧ j9 < 6 ∧ p0 = nI k9 ∧ p1 = nI j9 ∧ ¬ p3 < 1 ∧ ¬ 100 < p3 ∧ ¬ p2 < 0 ∧ ¬ p3 < p2 ∧ ∃ d9, d9 < 3 ∧ A 6 (6 * k9 + j9) = nI d9 ∧ r = 1 ∧ md_I cI cJ cZ w1 μ (upd x 0 0) (cb_upr (cb_upr (cb_upr A 7 (upd (A 7) (3 * (6 * k9 + j9) + d9) p2)) 8 (upd (A 8) (3 * (6 * k9 + j9) + d9) p3)) 6 (upd (A 6) (6 * k9 + j9) (nI d9 + 1))) B)) b wm9) : rQ F xa ma w1 wm9 0 ∧ r = b := by
  obtain ⟨hT, hK, hE, hD, hLL, hP⟩ := hS
  rcases hc with ⟨er, hw, hx⟩ | ⟨er, k, j, hk, hj, ek, ej, c1, c2, c3, c4, c5, hI9, hh⟩
  · subst hw
    rcases hm with ⟨eb, -, hM⟩ | ⟨k9, j9, hk9, hj9, ek9, ej9, d1, d2, d3, d4, d5, eb, hM⟩ | ⟨k9, j9, hk9, hj9, ek9, ej9, d1, d2, d3, d4, d9, d5, d6, eb, hM⟩
    · exact ⟨⟨κ, ra, z, sg, G, we, pd, nl, la, lp, li, ll, μ, _, A, B, hI, hL, hM, hκ, hμ, ⟨hT, hK, hE, hD, hLL, hP⟩, rfl⟩, er.trans eb.symm⟩
    · exact ⟨⟨κ, ra, z, sg, G, we, pd, nl, la, lp, li, ll, μ, _, A, B, hI, hL, hM, hκ, hμ, ⟨hT, hK, hE, hD, hLL, hP⟩, rfl⟩, er.trans eb.symm⟩
    · exfalso
      rcases hx with hx | ⟨k, j, hk, hj, ek, ej, -, -, -, -, hx⟩
      · rcases hx with hx | hx | hx | hx | hx | hx
        · exact nI_no hk9 (by omega) ek9 hx
        · exact nI_no hj9 (by omega) ej9 hx
        · exact d1 hx
        · exact d2 hx
        · exact d3 hx
        · exact d4 hx
      · have e1 := nI_inj (by omega) (by omega) ek ek9
        have e2 := nI_inj (by omega) (by omega) ej ej9
        subst e1 e2
        obtain ⟨d, -, f1, f2, -⟩ := hD k hk j hj
        rw [f2, ← f1, d6] at hx
        exact hx (nI_lt (b := 3) d5 (by omega))
  · rcases hm with ⟨eb, hx, hM⟩ | ⟨k9, j9, hk9, hj9, ek9, ej9, d1, d2, d3, d4, d5, eb, hM⟩ | ⟨k9, j9, hk9, hj9, ek9, ej9, d1, d2, d3, d4, d9, d5, d6, eb, hM⟩
    · exfalso
      rcases hx with hx | hx | hx | hx
      · exact nI_no hk (by omega) ek hx
      · exact nI_no hj (by omega) ej hx
      · exact hx.elim c1 c2
      · exact hx.elim c3 c4
    · exfalso
      have e1 := nI_inj (by omega) (by omega) ek ek9
      have e2 := nI_inj (by omega) (by omega) ej ej9
      subst e1 e2
      obtain ⟨d, -, f1, f2, -⟩ := hD k hk j hj
      rw [f2, ← f1, d5] at c5
      exact absurd c5 (by decide)
    · have e1 := nI_inj (by omega) (by omega) ek ek9
      have e2 := nI_inj (by omega) (by omega) ej ej9
      subst e1 e2
      have h30 : ¬ p3 < 0 := fun q => c1 (by rw [Int32.lt_iff_toInt_lt] at q ⊢; have i0 : (0 : Int32).toInt = 0 := rfl; have i1 : (1 : Int32).toInt = 1 := rfl; omega)
      obtain ⟨dn, hdn, edn⟩ := nI_of2 (M := 100) (n := 100) (by decide) h30 (Int32.not_lt.mp c2)
      have hdn1 : 1 ≤ dn := by
        rcases Nat.eq_zero_or_pos dn with q | q
        · rw [q] at edn; rw [edn] at c1; exact absurd (show nI 0 < 1 by decide) c1
        · exact q
      obtain ⟨up, hup, eup⟩ := nI_of c3
      have hud : up ≤ dn := by
        rw [edn, eup] at c4
        rcases Nat.lt_or_ge dn up with q | q
        · exact absurd (nI_lt q hup) c4
        · exact q
      refine ⟨⟨κ, ra, z, sg, _, we, pd, nl, la, lp, li, ll, μ, _, _, B, hI9, hL.of hh, hM, hκ, hμ, ⟨hT, hK, ?_, ?_, ?_, hP⟩, rfl⟩, er.trans eb.symm⟩
      · exact rE.ext (z4 := z 4) (x4 := x 4) (A := A) rfl rfl rfl rfl rfl hE
      · refine rD.put (k := k) (j := j) hD hk hj d5 d6 ⟨hdn1, hdn⟩ hud eup edn (fun c d => ?_) (fun c d => ?_) (fun c d => ?_) rfl rfl rfl
        · by_cases w : c = k
          · subst w; rw [cb_upg_n (fun q => absurd q.1 (by decide)), cb_upg_n (fun q => absurd q.1 (by decide)), cb_upg_s, if_pos rfl]
          · rw [cb_upg_n (fun q => absurd q.1 (by decide)), cb_upg_n (fun q => absurd q.1 (by decide)), cb_upg_n (fun w2 => w w2.2), if_neg w]
        · by_cases w : c = k
          · subst w; rw [cb_upg_n (fun q => absurd q.1 (by decide)), cb_upg_s, if_pos rfl]
          · rw [cb_upg_n (fun q => absurd q.1 (by decide)), cb_upg_n (fun w2 => w w2.2), cb_upg_n (fun q => absurd q.1 (by decide)), if_neg w]
        · by_cases w : c = k
          · subst w; rw [cb_upg_s, if_pos rfl]
          · rw [cb_upg_n (fun w2 => w w2.2), cb_upg_n (fun q => absurd q.1 (by decide)), cb_upg_n (fun q => absurd q.1 (by decide)), if_neg w]
      · exact rL.ext (x5 := x 5) (A := A) (B := B) rfl rfl rfl rfl rfl rfl rfl rfl rfl hLL
theorem op_count (hI : cb_I cI cC cJ cII wc κ ra z sg G we pd) (hL : cb_L cO wc (κ 62) (z 5) (fx_e0 F) nl la lp li ll) (hκ : κ 0 = xa) (hμ : μ 0 = ma) (hS : rS z x sg G we pd nl li ll A B) (p0 : Int32) {nw : Nat} (hnw : nw ≤ 100) (hx4 : x 4 = nI nw) {r : Int32} (hc : (fun (r : Int32) => (∃ k, k < 10 ∧ p0 - 10 = nI k ∧ r = nI (cb_cnt (fun j => decide (li j 0 = p0 - 10)) nl)) ∨ (∃ k, k < 10 ∧ p0 - 20 = nI k ∧ r = we k) ∨ (p0 = 0 ∧ r = z 0) ∨ (p0 = 1 ∧ r = z 4) ∨ (p0 = 2 ∧ r = nI nl) ∨ (p0 = 3 ∧ r = z 3) ∨ ((p0 - 10 < 0 ∨ nI 10 ≤ p0 - 10) ∧ (p0 - 20 < 0 ∨ nI 10 ≤ p0 - 20) ∧ (p0.toInt < 0 ∨ 3 < p0.toInt) ∧ r = -1)) r) {b : Int32} {wm9 : va_W} (hm : (fun (r : Int32) (w1 : va_W) => ((∃ k, k < 10 ∧ p0 - 20 = nI k ∧ 20 ≤ p0 ∧ r = nI (cb_cnt (fun j => decide (A 3 j = p0 - 20)) nw)) ∨ (20 ≤ p0 ∧ (p0 - 20 < 0 ∨ nI 10 ≤ p0 - 20) ∧ r = -1) ∨ (p0 < 20 ∧ 10 ≤ p0 ∧ r = nI (cb_cnt (fun j => decide (A 9 j = p0 - 10)) nl)) ∨ (p0 = 0 ∧ r = x 1) ∨ (p0 = 1 ∧ r = x 4) ∨ (p0 = 2 ∧ r = x 5) ∨ (p0 = 3 ∧ r = x 2) ∨ (p0 < 10 ∧ (p0.toInt < 0 ∨ 3 < p0.toInt) ∧ r = -1)) ∧ md_I cI cJ cZ w1 μ (upd x 0 0) A B) b wm9) : rQ F xa ma wc wm9 0 ∧ r = b := by
  obtain ⟨hT, hK, hE, hD, hLL, hP⟩ := hS
  have hnl := hLL.1
  obtain ⟨hm, hM⟩ := hm
  refine ⟨⟨κ, ra, z, sg, G, we, pd, nl, la, lp, li, ll, μ, _, A, B, hI, hL, hM, hκ, hμ, ⟨hT, hK, hE, hD, hLL, hP⟩, rfl⟩, ?_⟩
  have back : ∀ (m k : Nat), p0 - nI m = nI k → p0 = nI (k + m) := fun m k q => by
    rw [← nI_add, ← q, Int32.sub_add_cancel]
  have forth : ∀ (m k : Nat), p0 = nI (k + m) → p0 - nI m = nI k := fun m k q => by
    rw [q, ← nI_add, Int32.add_sub_cancel]
  have i0 : (0 : Int32).toInt = 0 := rfl
  have i1 : (1 : Int32).toInt = 1 := rfl
  have i2 : (2 : Int32).toInt = 2 := rfl
  have i3 : (3 : Int32).toInt = 3 := rfl
  have i10 : (10 : Int32).toInt = 10 := rfl
  have i20 : (20 : Int32).toInt = 20 := rfl
  have hm2 : (∃ k, k < 10 ∧ p0 = nI (k + 20) ∧ b = nI (cb_cnt (fun j => decide (A 3 j = nI k)) nw)) ∨ (20 ≤ p0.toInt ∧ (∀ k, k < 10 → ¬ p0 = nI (k + 20)) ∧ b = -1) ∨ (∃ k, k < 10 ∧ p0 = nI (k + 10) ∧ b = nI (cb_cnt (fun j => decide (A 9 j = nI k)) nl)) ∨ (p0 = 0 ∧ b = x 1) ∨ (p0 = 1 ∧ b = x 4) ∨ (p0 = 2 ∧ b = x 5) ∨ (p0 = 3 ∧ b = x 2) ∨ (p0.toInt < 10 ∧ (p0.toInt < 0 ∨ 3 < p0.toInt) ∧ b = -1) := by
    rcases hm with ⟨k, hk, ek, -, eb⟩ | ⟨h20, hno, eb⟩ | ⟨h20, h10, eb⟩ | h | h | h | h | ⟨h10, h, eb⟩
    · exact Or.inl ⟨k, hk, back 20 k ek, by rw [eb, ek]⟩
    · exact Or.inr (Or.inl ⟨by rw [Int32.le_iff_toInt_le] at h20; omega, fun k hk q => nI_no hk (by omega) (forth 20 k q) hno, eb⟩)
    · refine Or.inr (Or.inr (Or.inl ?_))
      rw [Int32.lt_iff_toInt_lt] at h20
      rw [Int32.le_iff_toInt_le] at h10
      obtain ⟨q, hq, eq⟩ := nI_of (x := p0) (by rw [Int32.lt_iff_toInt_lt]; omega)
      have ti := nI_toInt hq
      rw [← eq] at ti
      have e2 : p0 = nI ((q - 10) + 10) := by rw [show q - 10 + 10 = q by omega]; exact eq
      refine ⟨q - 10, by omega, e2, ?_⟩
      rw [eb, show p0 - 10 = nI (q - 10) from forth 10 _ e2]
    · exact Or.inr (Or.inr (Or.inr (Or.inl h)))
    · exact Or.inr (Or.inr (Or.inr (Or.inr (Or.inl h))))
    · exact Or.inr (Or.inr (Or.inr (Or.inr (Or.inr (Or.inl h)))))
    · exact Or.inr (Or.inr (Or.inr (Or.inr (Or.inr (Or.inr (Or.inl h))))))
    · exact Or.inr (Or.inr (Or.inr (Or.inr (Or.inr (Or.inr (Or.inr ⟨by rw [Int32.lt_iff_toInt_lt] at h10; omega, h, eb⟩))))))
  have ti : ∀ m, m < 100 → p0 = nI m → p0.toInt = (m : Int) := fun m hm q => by rw [q]; exact nI_toInt (by omega)
  obtain ⟨nT, t1, t2, t3, -⟩ := hT
  obtain ⟨mw, k1, k2, k3, -⟩ := hK
  obtain ⟨nE, e1, e2, e3, e4, e5, -⟩ := hE
  have en : nE = nw := nI_inj (by omega) (by omega) e3 hx4
  subst en
  rcases hc with ⟨k, hk, ek, er⟩ | ⟨k, hk, ek, er⟩ | ⟨ep, er⟩ | ⟨ep, er⟩ | ⟨ep, er⟩ | ⟨ep, er⟩ | ⟨n1, n2, n3, er⟩
  · have tk := ti _ (by omega) (back 10 k ek)
    rcases hm2 with ⟨k9, hk9, ek9, eb⟩ | ⟨h20, -, eb⟩ | ⟨k9, hk9, ek9, eb⟩ | ⟨ep, -⟩ | ⟨ep, -⟩ | ⟨ep, -⟩ | ⟨ep, -⟩ | ⟨h10, -, -⟩
    · have := ti _ (by omega) ek9; omega
    · omega
    · have := ti _ (by omega) ek9
      have e9 : k9 = k := by omega
      subst e9
      rw [er, eb]
      congr 1
      exact cb_cnt_e (fun i hi => by rw [ek, (hLL.2.2.1 i hi).1])
    · have := ti 0 (by omega) ep; omega
    · have := ti 1 (by omega) ep; omega
    · have := ti 2 (by omega) ep; omega
    · have := ti 3 (by omega) ep; omega
    · omega
  · have tk := ti _ (by omega) (back 20 k ek)
    rcases hm2 with ⟨k9, hk9, ek9, eb⟩ | ⟨h20, hno, eb⟩ | ⟨k9, hk9, ek9, eb⟩ | ⟨ep, -⟩ | ⟨ep, -⟩ | ⟨ep, -⟩ | ⟨ep, -⟩ | ⟨h10, -, -⟩
    · have := ti _ (by omega) ek9
      have e9 : k9 = k := by omega
      subst e9
      rw [er, eb, e5 k9 hk]
    · exact absurd (back 20 k ek) (hno k hk)
    · have := ti _ (by omega) ek9; omega
    · have := ti 0 (by omega) ep; omega
    · have := ti 1 (by omega) ep; omega
    · have := ti 2 (by omega) ep; omega
    · have := ti 3 (by omega) ep; omega
    · omega
  · have tk := ti 0 (by omega) ep
    rcases hm2 with ⟨k9, hk9, ek9, eb⟩ | ⟨h20, hno, eb⟩ | ⟨k9, hk9, ek9, eb⟩ | ⟨eq, eb⟩ | ⟨eq, -⟩ | ⟨eq, -⟩ | ⟨eq, -⟩ | ⟨h10, h, -⟩
    · have := ti _ (by omega) ek9; omega
    · omega
    · have := ti _ (by omega) ek9; omega
    · rw [er, eb, t2, t3]
    · have := ti 1 (by omega) eq; omega
    · have := ti 2 (by omega) eq; omega
    · have := ti 3 (by omega) eq; omega
    · omega
  · have tk := ti 1 (by omega) ep
    rcases hm2 with ⟨k9, hk9, ek9, eb⟩ | ⟨h20, hno, eb⟩ | ⟨k9, hk9, ek9, eb⟩ | ⟨eq, eb⟩ | ⟨eq, eb⟩ | ⟨eq, -⟩ | ⟨eq, -⟩ | ⟨h10, h, -⟩
    · have := ti _ (by omega) ek9; omega
    · omega
    · have := ti _ (by omega) ek9; omega
    · have := ti 0 (by omega) eq; omega
    · rw [er, eb, e2, e3]
    · have := ti 2 (by omega) eq; omega
    · have := ti 3 (by omega) eq; omega
    · omega
  · have tk := ti 2 (by omega) ep
    rcases hm2 with ⟨k9, hk9, ek9, eb⟩ | ⟨h20, hno, eb⟩ | ⟨k9, hk9, ek9, eb⟩ | ⟨eq, eb⟩ | ⟨eq, eb⟩ | ⟨eq, eb⟩ | ⟨eq, -⟩ | ⟨h10, h, -⟩
    · have := ti _ (by omega) ek9; omega
    · omega
    · have := ti _ (by omega) ek9; omega
    · have := ti 0 (by omega) eq; omega
    · have := ti 1 (by omega) eq; omega
    · rw [er, eb, hLL.2.1]
    · have := ti 3 (by omega) eq; omega
    · omega
  · have tk := ti 3 (by omega) ep
    rcases hm2 with ⟨k9, hk9, ek9, eb⟩ | ⟨h20, hno, eb⟩ | ⟨k9, hk9, ek9, eb⟩ | ⟨eq, eb⟩ | ⟨eq, eb⟩ | ⟨eq, eb⟩ | ⟨eq, eb⟩ | ⟨h10, h, -⟩
    · have := ti _ (by omega) ek9; omega
    · omega
    · have := ti _ (by omega) ek9; omega
    · have := ti 0 (by omega) eq; omega
    · have := ti 1 (by omega) eq; omega
    · have := ti 2 (by omega) eq; omega
    · rw [er, eb, k2, k3]
    · omega
  · rcases hm2 with ⟨k9, hk9, ek9, eb⟩ | ⟨h20, hno, eb⟩ | ⟨k9, hk9, ek9, eb⟩ | ⟨eq, eb⟩ | ⟨eq, eb⟩ | ⟨eq, eb⟩ | ⟨eq, eb⟩ | ⟨h10, h, eb⟩
    · exact absurd n2 (nI_no hk9 (by omega) (forth 20 k9 ek9))
    · rw [er, eb]
    · exact absurd n1 (nI_no hk9 (by omega) (forth 10 k9 ek9))
    · have := ti 0 (by omega) eq; omega
    · have := ti 1 (by omega) eq; omega
    · have := ti 2 (by omega) eq; omega
    · have := ti 3 (by omega) eq; omega
    · rw [er, eb]
end OPS
