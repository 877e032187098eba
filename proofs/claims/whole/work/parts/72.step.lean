/-! STEPS of the relation, call by call -/
def rS (z x : Nat → Int32) (sg : Nat → Int32) (G : Nat → Nat → Nat → Int32) (we : Nat → Int32) (pd : Nat → Int64) (nl : Nat) (li : Nat → Nat → Int32) (ll : Nat → Nat → Int64) (A : Nat → Nat → Int32) (B : Nat → Nat → Int64) : Prop := rT (z 0) (x 1) sg (A 1) ∧ rK (z 3) (x 2) (G 1) (A 2) ∧ rE (z 4) (x 4) we (G 2) A ∧ rD (G 3) (G 4) (G 5) A ∧ rL nl (x 5) li ll A B ∧ rP pd B
/-- an object and the reference in their worlds; t is what the reference says it threw -/
def rQ {l : Launch} {s0 : State} {D : va_G} {cI cC cJ cII cO cZ : ClassId} (F : FX l s0 D cI cC cJ cII cO cZ) (xa ma : Nat) (wc wm : va_W) (t : Int32) : Prop :=
  ∃ (κ : Nat → Nat) (ra : Nat → Nat → Nat) (z sg : Nat → Int32) (G : Nat → Nat → Nat → Int32) (we : Nat → Int32) (pd : Nat → Int64) (nl : Nat) (la lp : Nat → Nat) (li : Nat → Nat → Int32) (ll : Nat → Nat → Int64) (μ : Nat → Nat) (x : Nat → Int32) (A : Nat → Nat → Int32) (B : Nat → Nat → Int64),
    cb_I cI cC cJ cII wc κ ra z sg G we pd ∧ cb_L cO wc (κ 62) (z 5) (fx_e0 F) nl la lp li ll ∧ md_I cI cJ cZ wm μ x A B ∧ κ 0 = xa ∧ μ 0 = ma ∧ rS z x sg G we pd nl li ll A B ∧ x 0 = t
theorem nI_no {p : Int32} {k n : Nat} (hk : k < n) (hn : n < 2 ^ 31) (h : p = nI k) : ¬ (p < 0 ∨ nI n ≤ p) := by
  subst h
  rintro (z | z)
  · exact nI_pos (by omega) z
  · exact nI_ge hk hn z
theorem nI_inj {p : Int32} {a b : Nat} (ha : a < 2 ^ 31) (hb : b < 2 ^ 31) (h : p = nI a) (h2 : p = nI b) : a = b := (nI_eq ha hb).mp (h.symm.trans h2)
theorem cb_cnt_e {q q' : Nat → Bool} : ∀ {n : Nat}, (∀ i, i < n → q i = q' i) → cb_cnt q n = cb_cnt q' n
  | 0, _ => rfl
  | n + 1, h => by
    show cb_cnt q n + _ = cb_cnt q' n + _
    rw [cb_cnt_e (fun i hi => h i (by omega)), h n (by omega)]
theorem md_us_el {A A' : Nat → Nat → Int32} {c k : Int32} : ∀ {n : Nat}, (∀ i, i < n → A' 3 i = A 3 i ∧ A' 4 i = A 4 i ∧ A' 5 i = A 5 i) → md_us A' c k n = md_us A c k n
  | 0, _ => rfl
  | n + 1, h => by
    show md_us A' c k n + (if A' 3 n = c ∧ A' 4 n = k then A' 5 n else 0) = md_us A c k n + (if A 3 n = c ∧ A 4 n = k then A 5 n else 0)
    obtain ⟨h3, h4, h5⟩ := h n (by omega)
    rw [md_us_el (fun i hi => h i (by omega)), h3, h4, h5]
theorem upd_s {f : Nat → Int32} {j : Nat} {v : Int32} : upd f j v j = v := if_pos rfl
theorem upd_n {f : Nat → Int32} {i j : Nat} {v : Int32} (h : ¬ i = j) : upd f j v i = f i := if_neg h
theorem upr_s {α : Type} {f : Nat → α} {j : Nat} {v : α} : cb_upr f j v j = v := if_pos rfl
theorem upr_n {α : Type} {f : Nat → α} {i j : Nat} {v : α} (h : ¬ i = j) : cb_upr f j v i = f i := if_neg h
theorem updL_s {f : Nat → Int64} {j : Nat} {v : Int64} : vp_updL f j v j = v := if_pos rfl
theorem updL_n {f : Nat → Int64} {i j : Nat} {v : Int64} (h : ¬ i = j) : vp_updL f j v i = f i := if_neg h
/-- an event comes -/
theorem rE.put {z4 x4 : Int32} {we : Nat → Int32} {g2 : Nat → Nat → Int32} {A : Nat → Nat → Int32} {nw k j q : Nat} {u : Int32} (h : rE z4 x4 we g2 A) (hx : x4 = nI nw) (hnw : nw < 100) (hk : k < 10) (hj : j < 6) (hu : u = nI q) (hq : 1 ≤ q ∧ q ≤ 50000) {g2' : Nat → Nat → Int32} (hg : ∀ c d, g2' c d = if c = k then (upd (g2 k) j (g2 k j + u)) d else g2 c d) {A' : Nat → Nat → Int32} (h3 : A' 3 = upd (A 3) nw (nI k)) (h4 : A' 4 = upd (A 4) nw (nI j)) (h5 : A' 5 = upd (A 5) nw u) : rE (z4 + 1) (x4 + 1) (upd we k (we k + 1)) g2' A' := by
  obtain ⟨n, a1, a2, a3, a4, a5, a6⟩ := h
  have e : n = nw := nI_inj (by omega) (by omega) a3 hx
  subst e
  have low : ∀ i, i < n → A' 3 i = A 3 i ∧ A' 4 i = A 4 i ∧ A' 5 i = A 5 i := fun i hi => by
    rw [h3, h4, h5, upd_n (by omega), upd_n (by omega), upd_n (by omega)]
    exact ⟨rfl, rfl, rfl⟩
  refine ⟨n + 1, by omega, by rw [a2, nI_1], by rw [a3, nI_1], fun i hi => ?_, fun c hc => ?_, fun c hc d hd => ?_⟩
  · by_cases e : i = n
    · subst e
      rw [h3, h5, upd_s, upd_s]
      exact ⟨⟨k, hk, rfl⟩, q, hq.1, hq.2, hu⟩
    · rw [(low i (by omega)).1, (low i (by omega)).2.2]
      exact a4 i (by omega)
  · have e0 : cb_cnt (fun i => decide (A' 3 i = nI c)) n = cb_cnt (fun i => decide (A 3 i = nI c)) n := cb_cnt_e (fun i hi => by rw [(low i hi).1])
    by_cases e : c = k
    · subst e
      rw [upd_s, cb_cnt_s (by rw [h3, upd_s]; exact decide_eq_true rfl), e0, ← nI_1, a5 c hc]
    · rw [upd_n e, cb_cnt_n (by rw [h3, upd_s]; exact decide_eq_false (fun z => e ((nI_eq (by omega) (by omega)).mp z).symm)), e0]
      exact a5 c hc
  · rw [hg]
    by_cases e : c = k
    · subst e
      rw [if_pos rfl]
      by_cases e2 : d = j
      · subst e2
        rw [upd_s, md_us_s (by rw [h3, h4, upd_s, upd_s]; exact ⟨rfl, rfl⟩), md_us_el low, h5, upd_s, ← a6 c hc d hd]
      · rw [upd_n e2, md_us_n (by rw [h4, upd_s]; exact fun z => e2 ((nI_eq (by omega) (by omega)).mp z.2).symm), md_us_el low, Int32.add_zero, ← a6 c hc d hd]
    · rw [if_neg e, md_us_n (by rw [h3, upd_s]; exact fun z => e ((nI_eq (by omega) (by omega)).mp z.1).symm), md_us_el low, Int32.add_zero, ← a6 c hc d hd]
theorem nI_ml {a b : Nat} (ha : a < 2 ^ 31) (hb : b < 2 ^ 31) (hab : a * b < 2 ^ 31) : (nI a).toInt64 * (nI b).toInt64 = (nI (a * b)).toInt64 := by
  rw [nI_l ha, nI_l hb, nI_l hab, lN_mul]
/-- a discount comes -/
theorem rD.put {g3 g4 g5 : Nat → Nat → Int32} {A : Nat → Nat → Int32} {k j d9 dn up : Nat} (h : rD g3 g4 g5 A) (hk : k < 10) (hj : j < 6) (hd9 : d9 < 3) (h6 : A 6 (6 * k + j) = nI d9) (hdn : 1 ≤ dn ∧ dn ≤ 100) (hup : up ≤ dn) {p2 p3 : Int32} (hp2 : p2 = nI up) (hp3 : p3 = nI dn) {g3' g4' g5' : Nat → Nat → Int32} (e3 : ∀ c d, g3' c d = if c = k then (upd (g3 k) j (g3 k j + 1)) d else g3 c d) (e4 : ∀ c d, g4' c d = if c = k then (upd (g4 k) j (g4 k j * (p3 - p2))) d else g4 c d) (e5 : ∀ c d, g5' c d = if c = k then (upd (g5 k) j (g5 k j * p3)) d else g5 c d) {A' : Nat → Nat → Int32} (f6 : A' 6 = upd (A 6) (6 * k + j) (nI d9 + 1)) (f7 : A' 7 = upd (A 7) (3 * (6 * k + j) + d9) p2) (f8 : A' 8 = upd (A 8) (3 * (6 * k + j) + d9) p3) : rD g3' g4' g5' A' := by
  intro c hc d hd
  obtain ⟨n, a1, a2, a3, a, b, b1, b2, b3, b4, b5, b6, b7⟩ := h c hc d hd
  rw [e3, e4, e5]
  by_cases e : c = k ∧ d = j
  · obtain ⟨ec, ed⟩ := e
    subst ec
    subst ed
    have en : n = d9 := nI_inj (by omega) (by omega) a2 h6
    subst en
    have hp : 100 ^ (n + 1) = 100 ^ n * 100 := Nat.pow_succ 100 n
    have hp2' : 100 ^ n ≤ 10000 := by
      rcases (show n = 0 ∨ n = 1 ∨ n = 2 by omega) with q | q | q <;> subst q <;> decide
    have m1 : a * (dn - up) ≤ 100 ^ n * 100 := Nat.mul_le_mul b1 (by omega)
    have m2 : b * dn ≤ 100 ^ n * 100 := Nat.mul_le_mul b3 (by omega)
    refine ⟨n + 1, by omega, by rw [f6, upd_s, nI_1], by rw [if_pos rfl, upd_s, a3, nI_1], a * (dn - up), b * dn, by omega, Nat.mul_pos b2 hdn.1, by omega, ?_, ?_, fun v => ?_, fun v => ?_⟩
    · rw [if_pos rfl, upd_s, b4, hp2, hp3, nI_subN hup, md_mul]
    · rw [if_pos rfl, upd_s, b5, hp3, md_mul]
    · show md_pa A' (6 * c + d) v n * (A' 8 (3 * (6 * c + d) + n) - A' 7 (3 * (6 * c + d) + n)).toInt64 = _
      rw [md_pa_e (A := A) (fun i hi => by rw [f7, upd_n (by omega)]) (fun i hi => by rw [f8, upd_n (by omega)]), b6, f7, f8, upd_s, upd_s, hp2, hp3, nI_subN hup, Int64.mul_assoc, nI_ml (by omega) (by omega) (by omega)]
    · show md_pb A' (6 * c + d) v n * (A' 8 (3 * (6 * c + d) + n)).toInt64 = _
      rw [md_pb_e (A := A) (fun i hi => by rw [f8, upd_n (by omega)]), b7, f8, upd_s, hp3, Int64.mul_assoc, nI_ml (by omega) (by omega) (by omega)]
  · have hne : ¬ 6 * c + d = 6 * k + j := by omega
    have u3 : ∀ (g : Nat → Nat → Int32) (v : Int32), (if c = k then (upd (g k) j v) d else g c d) = g c d := fun g v => by
      by_cases q : c = k
      · rw [if_pos q, upd_n (fun z => e ⟨q, z⟩), q]
      · rw [if_neg q]
    refine ⟨n, a1, by rw [f6, upd_n hne]; exact a2, by rw [u3]; exact a3, a, b, b1, b2, b3, by rw [u3]; exact b4, by rw [u3]; exact b5, fun v => ?_, fun v => ?_⟩
    · rw [md_pa_e (A := A) (fun i hi => by rw [f7, upd_n (by omega)]) (fun i hi => by rw [f8, upd_n (by omega)])]; exact b6 v
    · rw [md_pb_e (A := A) (fun i hi => by rw [f8, upd_n (by omega)])]; exact b7 v
theorem nI_m1 {t : Nat} (h : t < 2 ^ 31) : ¬ nI t = -1 := fun z => nI_pos h (by rw [z]; decide)
theorem md_root_c {A : Nat → Nat → Int32} {j t : Nat} (ht : t < 2 ^ 31) (h : A 13 j = nI t) : md_root A j = t := by
  unfold md_root
  rw [if_neg (by rw [h]; exact nI_m1 ht), h, nI_clamp ht]
theorem md_root_m {A : Nat → Nat → Int32} {j : Nat} (h : A 13 j = -1) : md_root A j = j := if_pos h
/-- a line is disputed, or no longer -/
theorem rL.dsp {nl : Nat} {x5 : Int32} {li : Nat → Nat → Int32} {ll : Nat → Nat → Int64} {A : Nat → Nat → Int32} {B : Nat → Nat → Int64} {t : Nat} {p : Int32} (h : rL nl x5 li ll A B) (ht : t < nl) (h13 : A 13 t = -1) (hp : p = 0 ∨ p = 1) : rL nl x5 (cb_dsp li t p nl) ll (cb_upr A 16 (upd (A 16) t p)) B := by
  obtain ⟨a1, a2, a3, a4, a5⟩ := h
  refine ⟨a1, a2, fun j hj => ?_, fun q => ?_, fun q hq => ?_⟩
  · obtain ⟨b0, b1, b2, b3, b4, b5, b6, b7, b8, b9⟩ := a3 j hj
    have hli : ∀ w, ¬ w = 6 → cb_dsp li t p nl j w = li j w := fun w hw => by
      unfold cb_dsp
      by_cases e : j = t ∨ (j < nl ∧ li j 4 = nI t)
      · rw [if_pos e, upd_n hw]
      · rw [if_neg e]
    refine ⟨by rw [hli 0 (by decide)]; exact b0, by rw [hli 1 (by decide)]; exact b1, by rw [hli 2 (by decide)]; exact b2, by rw [hli 3 (by decide)]; exact b3, by rw [hli 4 (by decide)]; exact b4, by rw [hli 5 (by decide)]; exact b5, ?_, b7, ?_, b9⟩
    · show cb_dsp li t p nl j 6 = upd (A 16) t p (md_root A j)
      unfold cb_dsp
      by_cases e : j = t ∨ (j < nl ∧ li j 4 = nI t)
      · rw [if_pos e, upd_s]
        have er : md_root A j = t := by
          rcases e with e | e
          · rw [e]; exact md_root_m h13
          · exact md_root_c (by omega) (b4.symm.trans e.2)
        rw [er, upd_s]
      · rw [if_neg e]
        have er : ¬ md_root A j = t := fun z => e (by
          rcases b9 with q | ⟨s, hs, q, _⟩
          · rw [md_root_m q] at z; exact Or.inl z
          · rw [md_root_c (by omega) q] at z; exact Or.inr ⟨hj, by rw [b4, q, z]⟩)
        rw [upd_n er]; exact b6
    · show ll j 1 = (if A 13 j = -1 then md_wh (cb_upr A 16 (upd (A 16) t p)) B j nl else B 14 j)
      rw [md_wh_e (A := A) (A' := cb_upr A 16 (upd (A 16) t p)) (B := B) (B' := B) rfl (fun i _ => rfl) (fun i _ => rfl)]
      exact b8
  · show upd (A 16) t p q = 0 ∨ upd (A 16) t p q = 1
    by_cases e : q = t
    · rw [e, upd_s]; exact hp
    · rw [upd_n e]; exact a4 q
  · show upd (A 16) t p q = 0
    rw [upd_n (by omega)]; exact a5 q hq
theorem md_wh_0 {A : Nat → Nat → Int32} {B : Nat → Nat → Int64} {t : Nat} : ∀ {n : Nat}, (∀ i, i < n → ¬ A 13 i = nI t) → md_wh A B t n = B 14 t
  | 0, _ => rfl
  | n + 1, h => by rw [md_wh_n (h n (by omega)), md_wh_0 (fun i hi => h i (by omega)), Int64.add_zero]
/-- a line is written: what is left of the others -/
theorem rL.low {nl : Nat} {x5 : Int32} {li : Nat → Nat → Int32} {ll : Nat → Nat → Int64} {A : Nat → Nat → Int32} {B : Nat → Nat → Int64} (h : rL nl x5 li ll A B) {li' : Nat → Nat → Int32} {ll' : Nat → Nat → Int64} {A' : Nat → Nat → Int32} {B' : Nat → Nat → Int64} {j : Nat} (hj : j < nl) (hli : li' j = li j) (hl0 : ll' j 0 = ll j 0) (hA : ∀ i, i < nl → A' 9 i = A 9 i ∧ A' 10 i = A 10 i ∧ A' 11 i = A 11 i ∧ A' 12 i = A 12 i ∧ A' 13 i = A 13 i ∧ A' 17 i = A 17 i) (h16 : A' 16 = A 16) (hB : ∀ i, i < nl → B' 14 i = B 14 i) (hl1 : A 13 j = -1 → ll' j 1 = md_wh A B j nl + (if A' 13 nl = nI j then B' 14 nl else 0)) (hl2 : ¬ A 13 j = -1 → ll' j 1 = ll j 1) : rLj (nl + 1) li' ll' A' B' j := by
  obtain ⟨b0, b1, b2, b3, b4, b5, b6, b7, b8, b9⟩ := h.2.2.1 j hj
  obtain ⟨c9, c10, c11, c12, c13, c17⟩ := hA j hj
  have hr : md_root A' j = md_root A j := by unfold md_root; rw [c13]
  refine ⟨by rw [hli, c9]; exact b0, by rw [hli, c10]; exact b1, by rw [hli, c11]; exact b2, by rw [hli, c12]; exact b3, by rw [hli, c13]; exact b4, by rw [hli, c17]; exact b5, by rw [hli, h16, hr]; exact b6, by rw [hl0, hB j hj]; exact b7, ?_, ?_⟩
  · rw [c13, hB j hj]
    by_cases e : A 13 j = -1
    · rw [if_pos e, hl1 e]
      show _ = md_wh A' B' j nl + (if A' 13 nl = nI j then B' 14 nl else 0)
      rw [md_wh_e (A := A) (B := B) (hB j hj) (fun i hi => (hA i hi).2.2.2.2.1) hB]
    · rw [if_neg e, hl2 e, b8, if_neg e]
  · rw [c13]
    exact b9.imp id (fun ⟨t, ht, q1, q2⟩ => ⟨t, by omega, q1, by rw [(hA t ht).2.2.2.2.1]; exact q2⟩)
theorem md_nl_low {A : Nat → Nat → Int32} {nl : Nat} {c k u ch co fb : Int32} : ∀ i, i < nl → md_nl (cb_upr A 17 (upd (A 17) nl fb)) nl c k u ch co 9 i = A 9 i ∧ md_nl (cb_upr A 17 (upd (A 17) nl fb)) nl c k u ch co 10 i = A 10 i ∧ md_nl (cb_upr A 17 (upd (A 17) nl fb)) nl c k u ch co 11 i = A 11 i ∧ md_nl (cb_upr A 17 (upd (A 17) nl fb)) nl c k u ch co 12 i = A 12 i ∧ md_nl (cb_upr A 17 (upd (A 17) nl fb)) nl c k u ch co 13 i = A 13 i ∧ md_nl (cb_upr A 17 (upd (A 17) nl fb)) nl c k u ch co 17 i = A 17 i := fun i hi => ⟨upd_n (by omega), upd_n (by omega), upd_n (by omega), upd_n (by omega), upd_n (by omega), upd_n (by omega)⟩
theorem md_nl_new {A : Nat → Nat → Int32} {nl : Nat} {c k u ch co fb : Int32} : md_nl (cb_upr A 17 (upd (A 17) nl fb)) nl c k u ch co 9 nl = c ∧ md_nl (cb_upr A 17 (upd (A 17) nl fb)) nl c k u ch co 10 nl = k ∧ md_nl (cb_upr A 17 (upd (A 17) nl fb)) nl c k u ch co 11 nl = u ∧ md_nl (cb_upr A 17 (upd (A 17) nl fb)) nl c k u ch co 12 nl = ch ∧ md_nl (cb_upr A 17 (upd (A 17) nl fb)) nl c k u ch co 13 nl = co ∧ md_nl (cb_upr A 17 (upd (A 17) nl fb)) nl c k u ch co 17 nl = fb := ⟨upd_s, upd_s, upd_s, upd_s, upd_s, upd_s⟩
/-- a billed line is written -/
theorem rL.add {nl : Nat} {x5 x5' : Int32} {li : Nat → Nat → Int32} {ll : Nat → Nat → Int64} {A : Nat → Nat → Int32} {B : Nat → Nat → Int64} (h : rL nl x5 li ll A B) (hnl : nl < 200) (hx : x5' = nI (nl + 1)) {c k u ch fb : Int32} {v : Int64} : rL (nl + 1) x5' (cb_upr li nl (cb_mli c k u ch (-1) fb)) (cb_upr ll nl (fun _ => v)) (md_nl (cb_upr A 17 (upd (A 17) nl fb)) nl c k u ch (-1)) (cb_upr B 14 (vp_updL (B 14) nl v)) := by
  obtain ⟨n9, n10, n11, n12, n13, n17⟩ := md_nl_new (A := A) (nl := nl) (c := c) (k := k) (u := u) (ch := ch) (co := -1) (fb := fb)
  have hB : ∀ i, i < nl → (cb_upr B 14 (vp_updL (B 14) nl v)) 14 i = B 14 i := fun i hi => updL_n (by omega)
  refine ⟨by omega, hx, fun j hj => ?_, h.2.2.2.1, fun q hq => h.2.2.2.2 q (by omega)⟩
  rcases Nat.lt_or_ge j nl with q | q
  · refine rL.low h q (upr_n (by omega)) (by rw [upr_n (by omega)]) md_nl_low rfl hB (fun e => ?_) (fun e => by rw [upr_n (by omega)])
    rw [upr_n (by omega), n13, if_neg (fun z => nI_m1 (by omega) z.symm), Int64.add_zero, (h.2.2.1 j q).2.2.2.2.2.2.2.2.1, if_pos e]
  · have e : j = nl := by omega
    subst e
    refine ⟨by rw [n9, upr_s]; rfl, by rw [n10, upr_s]; rfl, by rw [n11, upr_s]; rfl, by rw [n12, upr_s]; rfl, by rw [n13, upr_s]; rfl, by rw [n17, upr_s]; rfl, ?_, ?_, ?_, Or.inl n13⟩
    · rw [md_root_m n13, upr_s]
      exact (h.2.2.2.2 j (Nat.le_refl _)).symm
    · rw [upr_s]; exact updL_s.symm
    · rw [if_pos n13, upr_s]
      show v = md_wh _ _ j (j + 1)
      rw [md_wh_n (by rw [n13]; exact fun z => nI_m1 (by omega) z.symm), md_wh_0 (fun i hi => by
        rw [(md_nl_low i hi).2.2.2.2.1]
        intro z
        rcases (h.2.2.1 i hi).2.2.2.2.2.2.2.2.2 with q | ⟨t, ht, q, _⟩
        · exact nI_m1 (by omega) (z.symm.trans q)
        · have := nI_inj (by omega) (by omega) z q; omega), Int64.add_zero]
      exact updL_s.symm
theorem Int64.add_sub9 (a b : Int64) : a + (b - a) = b := by rw [Int64.add_comm, Int64.sub_add_cancel]
/-- a correction is written -/
theorem rL.cor {nl : Nat} {x5 x5' : Int32} {li : Nat → Nat → Int32} {ll : Nat → Nat → Int64} {A : Nat → Nat → Int32} {B : Nat → Nat → Int64} (h : rL nl x5 li ll A B) (hnl : nl < 200) (hx : x5' = nI (nl + 1)) {t : Nat} (ht : t < nl) (h13 : A 13 t = -1) {p1 : Int64} : rL (nl + 1) x5' (cb_upr li nl (upd (cb_mli (li t 0) (li t 1) 0 0 (nI t) 0) 6 (li t 6))) (cb_upr (cb_upr ll t (vp_updL (ll t) 1 p1)) nl (fun _ => p1 - ll t 1)) (md_nl (cb_upr A 17 (upd (A 17) nl 0)) nl (A 9 t) (A 10 t) 0 0 (nI t)) (cb_upr B 14 (vp_updL (B 14) nl (p1 - md_wh A B t nl))) := by
  obtain ⟨n9, n10, n11, n12, n13, n17⟩ := md_nl_new (A := A) (nl := nl) (c := A 9 t) (k := A 10 t) (u := 0) (ch := 0) (co := nI t) (fb := 0)
  obtain ⟨t0, t1, t2, t3, t4, t5, t6, t7, t8, t9⟩ := h.2.2.1 t ht
  rw [if_pos h13] at t8
  have hB : ∀ i, i < nl → (cb_upr B 14 (vp_updL (B 14) nl (p1 - md_wh A B t nl))) 14 i = B 14 i := fun i hi => updL_n (by omega)
  have hBn : (cb_upr B 14 (vp_updL (B 14) nl (p1 - md_wh A B t nl))) 14 nl = p1 - md_wh A B t nl := updL_s
  refine ⟨by omega, hx, fun j hj => ?_, h.2.2.2.1, fun q hq => h.2.2.2.2 q (by omega)⟩
  rcases Nat.lt_or_ge j nl with q | q
  · by_cases e : j = t
    · subst e
      refine rL.low h q (upr_n (by omega)) (by rw [upr_n (by omega), upr_s, updL_n (by decide)]) md_nl_low rfl hB (fun e => ?_) (fun e => absurd h13 e)
      rw [upr_n (by omega), upr_s, updL_s, n13, if_pos rfl, hBn, Int64.add_sub9]
    · refine rL.low h q (upr_n (by omega)) (by rw [upr_n (by omega), upr_n e]) md_nl_low rfl hB (fun e2 => ?_) (fun e => by rw [upr_n (by omega), upr_n (by assumption)])
      rw [upr_n (by omega), upr_n e, n13, if_neg (fun z => e ((nI_eq (by omega) (by omega)).mp z).symm), Int64.add_zero, (h.2.2.1 j q).2.2.2.2.2.2.2.2.1, if_pos e2]
  · have e : j = nl := by omega
    subst e
    refine ⟨by rw [n9, upr_s]; exact t0, by rw [n10, upr_s]; exact t1, by rw [n11, upr_s]; rfl, by rw [n12, upr_s]; rfl, by rw [n13, upr_s]; rfl, by rw [n17, upr_s]; rfl, ?_, ?_, ?_, Or.inr ⟨t, by omega, n13, by rw [(md_nl_low t ht).2.2.2.2.1]; exact h13⟩⟩
    · rw [md_root_c (by omega) n13, upr_s, upd_s, t6, md_root_m h13]
      rfl
    · rw [upr_s, hBn, t8]
    · rw [if_neg (by rw [n13]; exact nI_m1 (by omega)), upr_s, hBn, t8]
/-- what is owed -/
theorem rL.owe {nl : Nat} {x5 : Int32} {li : Nat → Nat → Int32} {ll : Nat → Nat → Int64} {A : Nat → Nat → Int32} {B : Nat → Nat → Int64} (h : rL nl x5 li ll A B) {k : Int32} {v : Int64} : ∀ n, n ≤ nl → cb_ow k li ll v n = md_lf A B k v n
  | 0, _ => rfl
  | n + 1, hn => by
    obtain ⟨b0, -, -, -, -, -, b6, b7, -, -⟩ := h.2.2.1 n (by omega)
    by_cases e : li n 0 = k ∧ li n 6 = 0
    · rw [cb_ow_s e, md_lf_s ⟨b0 ▸ e.1, b6 ▸ e.2⟩, rL.owe h n (by omega), b7]
    · rw [cb_ow_n e, md_lf_n (fun z => e ⟨b0.trans z.1, b6.trans z.2⟩), Int64.add_zero, rL.owe h n (by omega)]
theorem md_lf_e {A : Nat → Nat → Int32} {B B' : Nat → Nat → Int64} (hb : B' 14 = B 14) {k : Int32} {v : Int64} : ∀ {n : Nat}, md_lf A B' k v n = md_lf A B k v n
  | 0 => rfl
  | n + 1 => by
    show md_lf A B' k v n + (if A 9 n = k ∧ A 16 (md_root A n) = 0 then B' 14 n else 0) = md_lf A B k v n + (if A 9 n = k ∧ A 16 (md_root A n) = 0 then B 14 n else 0)
    rw [md_lf_e hb, hb]
/-- a line's part -/
theorem rL.part {nl : Nat} {x5 : Int32} {li : Nat → Nat → Int32} {ll : Nat → Nat → Int64} {A : Nat → Nat → Int32} {B : Nat → Nat → Int64} (h : rL nl x5 li ll A B) {j : Nat} (hj : j < nl) (w : Nat) : cb_part (li j) (ll j) w = md_pt A B j nl w := by
  obtain ⟨b0, b1, b2, b3, b4, b5, b6, b7, b8, -⟩ := h.2.2.1 j hj
  unfold cb_part md_pt
  rw [b0, b1, b2, b3, b4, b5, b6, b7, b8]
  rfl
