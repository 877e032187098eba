/-! OPS: bills -/
section OPS
variable {l : Launch} {s0 : State} {D : va_G} {cI cC cJ cII cO cZ : ClassId} {F : FX l s0 D cI cC cJ cII cO cZ} {xa ma : Nat} {wc wm : va_W} {κ : Nat → Nat} {ra : Nat → Nat → Nat} {z sg : Nat → Int32} {G : Nat → Nat → Nat → Int32} {we : Nat → Int32} {pd : Nat → Int64} {nl : Nat} {la lp : Nat → Nat} {li : Nat → Nat → Int32} {ll : Nat → Nat → Int64} {μ : Nat → Nat} {x : Nat → Int32} {A : Nat → Nat → Int32} {B : Nat → Nat → Int64}
/-- a kind's tariff, both ways -/
theorem rK.at {z3 x2 : Int32} {G : Nat → Nat → Nat → Int32} {A : Nat → Nat → Int32} (h : rK z3 x2 (G 1) (A 2)) {j : Nat} (hj : j < 6) : z3 = x2 ∧ md_free x2 A j = G 1 j 2 ∧ (∀ ch, md_ab x2 A j ch = (G 1 j 0).toInt64 * ch.toInt64) ∧ md_be x2 A j = (G 1 j 1).toInt64 ∧ (∀ ch, md_le x2 A j ch = if ch ≤ 0 then 0 else (G 1 j 3).toInt64) ∧ (∃ per, (1 ≤ per ∧ per ≤ 9999) ∧ G 1 j 1 = nI per) ∧ ∃ f, f ≤ 9999 ∧ G 1 j 2 = nI f := by
  obtain ⟨mw, m1, m2, m3, m4⟩ := h
  obtain ⟨n1, n2⟩ := m4 j hj
  refine ⟨m2.trans m3.symm, ?_⟩
  unfold md_free md_ab md_be md_le
  rw [m3, n1 0 (by omega), n1 1 (by omega), n1 2 (by omega), n1 3 (by omega)]
  by_cases q : mw.testBit j = true
  · have hb := (cb_bit mw m1 j hj).mpr q
    obtain ⟨⟨per, p1, p2, p3⟩, f, f1, f2⟩ := n2 q
    refine ⟨?_, fun ch => ?_, ?_, fun ch => ?_, ⟨per, ⟨p1, p2⟩, ?_⟩, f, f1, ?_⟩
    · rw [if_pos hb, if_pos q]
    · rw [if_pos hb, if_pos q]; rfl
    · rw [if_pos hb, if_pos q]
    · rw [if_pos hb, if_pos q]
    · rw [if_pos q]; exact p3
    · rw [if_pos q]; exact f2
  · have hb : ¬ (nI mw >>> (nI j &&& 31)) &&& 1 = 1 := fun w => q ((cb_bit mw m1 j hj).mp w)
    simp only [if_neg hb, if_neg q]
    refine ⟨rfl, fun _ => rfl, rfl, fun ch => ?_, ⟨1, ⟨by omega, by omega⟩, rfl⟩, 0, by omega, rfl⟩
    by_cases w : ch ≤ 0
    · rw [if_pos w]
    · rw [if_neg w]; rfl
/-- what is charged, both ways -/
theorem rE.chg {G : Nat → Nat → Nat → Int32} {A : Nat → Nat → Int32} {x2 : Int32} {k j nw q f : Nat} (h2 : G 2 k j = md_us A (nI k) (nI j) nw) (hq : md_us A (nI k) (nI j) nw = nI q) (hq2 : q ≤ 5000000) (hf : md_free x2 A j = G 1 j 2) (hf2 : G 1 j 2 = nI f) (hf3 : f ≤ 9999) : cb_chg G k j = md_kch x2 A k j nw ∧ ∃ a, a < 2 ^ 31 ∧ cb_chg G k j = nI a := by
  unfold cb_chg md_kch
  rw [h2, hf, hf2, hq]
  rcases Nat.lt_or_ge f q with w | w
  · rw [nI_subN (by omega)]
    have h1 : (0 : Int32) < nI (q - f) := (nI_ltI (a := 0) (b := q - f) (by omega) (by omega)).mpr (by omega)
    have h3 : ¬ nI q ≤ nI f := fun z => by have := (nI_leI (by omega) (by omega)).mp z; omega
    rw [if_pos h1, if_neg h3]
    exact ⟨rfl, q - f, by omega, rfl⟩
  · have h1 : ¬ (0 : Int32) < nI q - nI f := by
      rw [Int32.lt_iff_toInt_lt, Int32.toInt_sub, nI_toInt (by omega), nI_toInt (by omega), Int.bmod_eq_of_le (by omega) (by omega)]
      have e : (0 : Int32).toInt = 0 := rfl
      omega
    rw [if_neg h1, if_pos ((nI_leI (by omega) (by omega)).mpr w)]
    exact ⟨rfl, 0, by omega, rfl⟩
/-- a line's cents, both ways -/
theorem rD.cents {G : Nat → Nat → Nat → Int32} {A : Nat → Nat → Int32} {z3 x2 : Int32} {k j nw d a : Nat} (hK : rK z3 x2 (G 1) (A 2)) (hD : rD (G 3) (G 4) (G 5) A) (hk : k < 10) (hj : j < 6) (hd : d ≤ 3) (h6 : A 6 (6 * k + j) = nI d) (hch : cb_chg G k j = md_kch x2 A k j nw) (ha : a < 2 ^ 31) (hca : cb_chg G k j = nI a) : cb_cents (G 1 j) (G 4 k j) (G 5 k j) (cb_chg G k j) = md_kce x2 A k j nw d := by
  obtain ⟨-, -, t0, t1, t3, ⟨per, p1, p2⟩, -⟩ := hK.at hj
  obtain ⟨d', a1, a2, a3, a', b, b1, b2, b3, b4, b5, b6, b7⟩ := hD k hk j hj
  have e := nI_inj (by omega) (by omega) a2 h6
  subst e
  have hb : b ≤ 1000000 := Nat.le_trans b3 (by
    rcases (show d' = 0 ∨ d' = 1 ∨ d' = 2 ∨ d' = 3 by omega) with q | q | q | q <;> subst q <;> decide)
  have := (cb_ce (tr := G 1 j) (t0 := G 1 j 0) (t1 := G 1 j 1) (t3 := G 1 j 3) (kp := G 4 k j) (ko := G 5 k j) (ch := cb_chg G k j) p2 p1 b4 b5 ⟨b2, hb⟩ hca ha rfl rfl rfl).1
  rw [this]
  unfold md_kce
  rw [b6, b7, ← hch, t0, t1, t3, b4, b5]
/-- a divisor is never 0 -/
theorem rD.bel {G : Nat → Nat → Nat → Int32} {A : Nat → Nat → Int32} {z3 x2 : Int32} {k j d : Nat} (hK : rK z3 x2 (G 1) (A 2)) (hD : rD (G 3) (G 4) (G 5) A) (hk : k < 10) (hj : j < 6) (hd : d ≤ 3) (h6 : A 6 (6 * k + j) = nI d) : ¬ md_pb A (6 * k + j) (md_be x2 A j) d = 0 := by
  obtain ⟨-, -, t0, t1, t3, ⟨per, p1, p2⟩, -⟩ := hK.at hj
  obtain ⟨d', a1, a2, a3, a', b, b1, b2, b3, b4, b5, b6, b7⟩ := hD k hk j hj
  have e := nI_inj (by omega) (by omega) a2 h6
  subst e
  have hb : b ≤ 1000000 := Nat.le_trans b3 (by
    rcases (show d' = 0 ∨ d' = 1 ∨ d' = 2 ∨ d' = 3 by omega) with q | q | q | q <;> subst q <;> decide)
  have := (cb_ce (tr := G 1 j) (t0 := G 1 j 0) (t1 := G 1 j 1) (t3 := G 1 j 3) (kp := G 4 k j) (ko := G 5 k j) (ch := 0) (a := 0) p2 p1 b4 b5 ⟨b2, hb⟩ rfl (by omega) rfl rfl rfl).2
  rw [b7, t1, ← b5]
  exact this
theorem rD.dd {g3 g4 g5 : Nat → Nat → Int32} {A : Nat → Nat → Int32} (h : rD g3 g4 g5 A) : ∃ dd : Nat → Nat, ∀ q, q < 60 → dd q ≤ 3 ∧ A 6 q = nI (dd q) := by
  refine ⟨fun q => (A 6 q).toNatClampNeg, fun q hq => ?_⟩
  obtain ⟨d, a1, a2, -⟩ := h (q / 6) (by omega) (q % 6) (by omega)
  rw [show 6 * (q / 6) + q % 6 = q by omega] at a2
  show (A 6 q).toNatClampNeg ≤ 3 ∧ A 6 q = nI (A 6 q).toNatClampNeg
  rw [a2, nI_clamp (by omega)]
  exact ⟨a1, rfl⟩
/-- the lines of a bill, both ways -/
theorem rL.bill {z3 x2 : Int32} {G : Nat → Nat → Nat → Int32} {A : Nat → Nat → Int32} {B : Nat → Nat → Int64} {nl k nw : Nat} {x5 : Int32} {li : Nat → Nat → Int32} {ll : Nat → Nat → Int64} {dd : Nat → Nat} (h : rL nl x5 li ll A B) (hqq : ∀ j, j < 6 → cb_qq G k j = md_qq A k nw j) (hfi : ∀ j, j < 6 → cb_bfi z3 G k j = cb_mli (nI k) (nI j) (md_us A (nI k) (nI j) nw) (md_kch x2 A k j nw) (-1) (md_fb x2 j)) (hfl : ∀ j, j < 6 → cb_bfl G k j = fun _ => md_kce x2 A k j nw (dd (6 * k + j))) (hn : nl + cb_cnt (md_qq A k nw) 6 ≤ 200) : ∀ i, i ≤ 6 → rL (nl + cb_cnt (md_qq A k nw) i) (nI (nl + cb_cnt (md_qq A k nw) i)) (cb_BS z3 G k nl li ll i).2.1 (cb_BS z3 G k nl li ll i).2.2 (md_BA x2 A k nw nl i) (md_BB x2 A B dd k nw nl i)
  | 0, _ => by
    have e := h.2.1
    rw [e] at h
    exact h
  | i + 1, hi => by
    have ih := rL.bill h hqq hfi hfl hn i (by omega)
    by_cases q : md_qq A k nw i = true
    · have q' : cb_qq G k i = true := (hqq i (by omega)).trans q
      have hlt := cb_cnt_lt (q := md_qq A k nw) (show i < 6 by omega) q
      have e1 : (cb_bs (cb_qq G k) (cb_bfi z3 G k) (cb_bfl G k) nl li ll i).1 = nl + cb_cnt (md_qq A k nw) i := by
        rw [cb_bs_1, cb_cnt_e (fun j hj => hqq j (by omega))]
      unfold cb_BS at ih ⊢
      rw [cb_bs_s q', md_BA_s q, md_BB_s q, cb_cnt_s q]
      show rL _ _ (cb_upr _ (cb_bs (cb_qq G k) (cb_bfi z3 G k) (cb_bfl G k) nl li ll i).1 _) (cb_upr _ (cb_bs (cb_qq G k) (cb_bfi z3 G k) (cb_bfl G k) nl li ll i).1 _) _ _
      rw [e1, hfi i (by omega), hfl i (by omega)]
      exact rL.add ih (by omega) rfl
    · have q' : ¬ cb_qq G k i = true := fun w => q ((hqq i (by omega)).symm.trans w)
      unfold cb_BS at ih ⊢
      rw [cb_bs_n q', md_BA_n q, md_BB_n q, cb_cnt_n (by simpa using q)]
      exact ih
/-- the events but a call's -/
def md_t3 (b3 b4 b5 : Nat → Int32) : Nat → Nat → Int32 := fun w => if w = 3 then b3 else if w = 4 then b4 else b5
def teI (c : Int32) (a3 a4 a5 : Nat → Int32) (i n : Nat) (b3 b4 b5 : Nat → Int32) : Prop := n ≤ i ∧ (∀ j, i ≤ j → b3 j = a3 j ∧ b4 j = a4 j ∧ b5 j = a5 j) ∧ n + cb_cnt (fun j => decide (a3 j = c)) i = i ∧ (∀ j, j < n → ∃ i', i' < i ∧ ¬ a3 i' = c ∧ b3 j = a3 i' ∧ b5 j = a5 i') ∧ (∀ c', ¬ c' = c → cb_cnt (fun j => decide (b3 j = c')) n = cb_cnt (fun j => decide (a3 j = c')) i) ∧ ∀ c' k, ¬ c' = c → md_us (md_t3 b3 b4 b5) c' k n = md_us (md_t3 a3 a4 a5) c' k i
section TE
variable {c : Int32} {a3 a4 a5 : Nat → Int32} {i n : Nat} {b3 b4 b5 : Nat → Int32}
theorem teI.skip (h : teI c a3 a4 a5 i n b3 b4 b5) (hc : a3 i = c) : teI c a3 a4 a5 (i + 1) n b3 b4 b5 := by
  obtain ⟨h1, h2, h3, h4, h5, h6⟩ := h
  refine ⟨by omega, fun j hj => h2 j (by omega), ?_, fun j hj => ?_, fun c' hc' => ?_, fun c' k hc' => ?_⟩
  · rw [cb_cnt_s (decide_eq_true hc)]; omega
  · obtain ⟨i', q1, q2⟩ := h4 j hj
    exact ⟨i', by omega, q2⟩
  · rw [cb_cnt_n (decide_eq_false (fun q => hc' (q.symm.trans hc)))]; exact h5 c' hc'
  · rw [md_us_n (A := md_t3 a3 a4 a5) (i := i) (fun q => hc' (q.1.symm.trans hc)), Int32.add_zero]; exact h6 c' k hc'
theorem teI.take (h : teI c a3 a4 a5 i n b3 b4 b5) (hc : ¬ a3 i = c) : teI c a3 a4 a5 (i + 1) (n + 1) (upd b3 n (b3 i)) (upd b4 n (b4 i)) (upd b5 n (b5 i)) := by
  obtain ⟨h1, h2, h3, h4, h5, h6⟩ := h
  obtain ⟨g3, g4, g5⟩ := h2 i (Nat.le_refl _)
  refine ⟨by omega, fun j hj => ?_, ?_, fun j hj => ?_, fun c' hc' => ?_, fun c' k hc' => ?_⟩
  · rw [upd_n (by omega), upd_n (by omega), upd_n (by omega)]; exact h2 j (by omega)
  · rw [cb_cnt_n (decide_eq_false hc)]; omega
  · by_cases e : j = n
    · subst e
      rw [upd_s, upd_s]
      exact ⟨i, by omega, hc, g3, g5⟩
    · rw [upd_n e, upd_n e]
      obtain ⟨i', q1, q2⟩ := h4 j (by omega)
      exact ⟨i', by omega, q2⟩
  · have e0 : cb_cnt (fun j => decide (upd b3 n (b3 i) j = c')) n = cb_cnt (fun j => decide (b3 j = c')) n := cb_cnt_e (fun j hj => by rw [upd_n (by omega)])
    show cb_cnt (fun j => decide (upd b3 n (b3 i) j = c')) n + (if decide (upd b3 n (b3 i) n = c') = true then 1 else 0) = cb_cnt (fun j => decide (a3 j = c')) i + (if decide (a3 i = c') = true then 1 else 0)
    rw [e0, h5 c' hc', upd_s, g3]
  · have e0 : md_us (md_t3 (upd b3 n (b3 i)) (upd b4 n (b4 i)) (upd b5 n (b5 i))) c' k n = md_us (md_t3 b3 b4 b5) c' k n := md_us_el (fun j hj => ⟨upd_n (by omega), upd_n (by omega), upd_n (by omega)⟩)
    show md_us (md_t3 (upd b3 n (b3 i)) (upd b4 n (b4 i)) (upd b5 n (b5 i))) c' k n + (if upd b3 n (b3 i) n = c' ∧ upd b4 n (b4 i) n = k then upd b5 n (b5 i) n else 0) = md_us (md_t3 a3 a4 a5) c' k i + (if a3 i = c' ∧ a4 i = k then a5 i else 0)
    rw [e0, h6 c' k hc', upd_s, upd_s, upd_s, g3, g4, g5]
theorem te_all : ∀ i, teI c a3 a4 a5 i (md_te c a3 a4 a5 i).1 (md_te c a3 a4 a5 i).2.1 (md_te c a3 a4 a5 i).2.2.1 (md_te c a3 a4 a5 i).2.2.2
  | 0 => ⟨Nat.le_refl _, fun _ _ => ⟨rfl, rfl, rfl⟩, rfl, fun j hj => absurd hj (Nat.not_lt_zero _), fun _ _ => rfl, fun _ _ _ => rfl⟩
  | i + 1 => by
    have ih := te_all i
    have g := (ih.2.1 i (Nat.le_refl _)).1
    by_cases q : (md_te c a3 a4 a5 i).2.1 i = c
    · rw [md_te_n q]; exact ih.skip (g.symm.trans q)
    · rw [md_te_s q]; exact ih.take (fun w => q (g.trans w))
end TE
theorem cb_cnt_0 {q : Nat → Bool} : ∀ {n : Nat}, (∀ i, i < n → q i = false) → cb_cnt q n = 0
  | 0, _ => rfl
  | n + 1, h => by rw [cb_cnt_n (h n (by omega)), cb_cnt_0 (fun i hi => h i (by omega))]
theorem md_us_0 {A : Nat → Nat → Int32} {c k : Int32} : ∀ {n : Nat}, (∀ i, i < n → ¬ A 3 i = c) → md_us A c k n = 0
  | 0, _ => rfl
  | n + 1, h => by rw [md_us_n (fun q => h n (by omega) q.1), md_us_0 (fun i hi => h i (by omega))]; rfl
/-- a call's events go -/
theorem rE.gone {z4 x4 x4' : Int32} {we : Nat → Int32} {g2 g2' : Nat → Nat → Int32} {A A' : Nat → Nat → Int32} {nw k : Nat} (h : rE z4 x4 we g2 A) (hx : x4 = nI nw) (hnw : nw ≤ 100) (hk : k < 10) (hx' : x4' = nI (md_te (nI k) (A 3) (A 4) (A 5) nw).1) (h3 : A' 3 = (md_te (nI k) (A 3) (A 4) (A 5) nw).2.1) (h4 : A' 4 = (md_te (nI k) (A 3) (A 4) (A 5) nw).2.2.1) (h5 : A' 5 = (md_te (nI k) (A 3) (A 4) (A 5) nw).2.2.2) (hg : ∀ c d, d < 6 → g2' c d = if c = k then 0 else g2 c d) : rE (z4 - we k) x4' (upd we k 0) g2' A' := by
  obtain ⟨n, a1, a2, a3, a4, a5, a6⟩ := h
  have e : n = nw := nI_inj (by omega) (by omega) a3 hx
  subst e
  obtain ⟨t1, t2, t3, t4, t5, t6⟩ := te_all (c := nI k) (a3 := A 3) (a4 := A 4) (a5 := A 5) n
  have us : ∀ c d m, md_us (md_t3 (A 3) (A 4) (A 5)) c d m = md_us A c d m := fun c d m => md_us_e (A' := md_t3 (A 3) (A 4) (A 5)) (A := A) rfl rfl rfl
  refine ⟨(md_te (nI k) (A 3) (A 4) (A 5) n).1, by omega, ?_, hx', fun i hi => ?_, fun c hc => ?_, fun c hc d hd => ?_⟩
  · rw [a2, a5 k hk, nI_subN (by omega)]
    congr 1
    omega
  · obtain ⟨i', q1, q2, q3, q4⟩ := t4 i hi
    rw [h3, h5, q3, q4]
    exact a4 i' q1
  · rw [h3]
    by_cases e : c = k
    · subst e
      rw [upd_s, cb_cnt_0 (fun i hi => by
        obtain ⟨i', q1, q2, q3, q4⟩ := t4 i hi
        exact decide_eq_false (fun w => q2 (q3.symm.trans w)))]
      rfl
    · rw [upd_n e, t5 (nI c) (fun w => e ((nI_eq (by omega) (by omega)).mp w))]
      exact a5 c hc
  · rw [hg c d hd]
    by_cases e : c = k
    · subst e
      rw [if_pos rfl, md_us_0 (fun i hi => by
        obtain ⟨i', q1, q2, q3, q4⟩ := t4 i hi
        rw [h3, q3]
        exact q2)]
    · rw [if_neg e, a6 c hc d hd, ← us, ← t6 (nI c) (nI d) (fun w => e ((nI_eq (by omega) (by omega)).mp w))]
      exact md_us_e (A := A') h3.symm h4.symm h5.symm
/-- a bill leaves the events and the tariffs, and writes no deposits -/
theorem md_BA_16 {x2 : Int32} {A : Nat → Nat → Int32} {k nw nl : Nat} : ∀ i, md_BA x2 A k nw nl i 16 = A 16
  | 0 => rfl
  | i + 1 => by
    by_cases h : md_qq A k nw i = true
    · rw [md_BA_s h]; exact md_BA_16 i
    · rw [md_BA_n h]; exact md_BA_16 i
theorem md_BB_15 {x2 : Int32} {A : Nat → Nat → Int32} {B : Nat → Nat → Int64} {dd : Nat → Nat} {k nw nl : Nat} : ∀ i, md_BB x2 A B dd k nw nl i 15 = B 15
  | 0 => rfl
  | i + 1 => by
    by_cases h : md_qq A k nw i = true
    · rw [md_BB_s h]; exact md_BB_15 i
    · rw [md_BB_n h]; exact md_BB_15 i
theorem op_bill (hI : cb_I cI cC cJ cII wc κ ra z sg G we pd) (hL : cb_L cO wc (κ 62) (z 5) (fx_e0 F) nl la lp li ll) (hκ : κ 0 = xa) (hμ : μ 0 = ma) (hS : rS z x sg G we pd nl li ll A B) {o : Nat} {ov : Nat → Int64} (p0 : Int32) {nw : Nat} (hnw : nw ≤ 100) (hx4 : x 4 = nI nw) {dd : Nat → Nat} (hdd : ∀ q, q < 60 → dd q ≤ 3 ∧ A 6 q = nI (dd q)) {r : Int32} {w1 : va_W} (hc : (fun (r : Int32) (w1 : va_W) => ∃ (wc9 : va_W) (ov9 : Nat → Int64), w1 = (o, .inl (cJ, 1, .inr (.inl ov9))) :: wc9 ∧ ((r = 0 ∧ ∃ v9 : Int32, (fun r w1 => ∃ k9, k9 < 10 ∧ p0 = nI k9 ∧ nl + cb_cnt (cb_qq G k9) 6 ≤ 200 ∧ r = nI (cb_cnt (cb_qq G k9) 6) ∧ ∃ (z9 : Nat → Int32) (la9 lp9 : Nat → Nat), (∀ q, q < 4 → z9 q = z q) ∧ z9 4 = z 4 - we k9 ∧ cb_I cI cC cJ cII w1 κ ra z9 sg (cb_upg G 2 k9 (cb_fil (G 2 k9) 0 6)) (upd we k9 0) pd ∧ cb_L cO w1 (κ 62) (z9 5) (fx_e0 F) (cb_BS (z 3) G k9 nl li ll 6).1 la9 lp9 (cb_BS (z 3) G k9 nl li ll 6).2.1 (cb_BS (z 3) G k9 nl li ll 6).2.2) v9 wc9 ∧ ov9 = vp_updL ov 0 v9.toInt64) ∨ (r = 1 ∧ (fun E => (E = "java/lang/IllegalArgumentException" ∧ (p0 < 0 ∨ nI 10 ≤ p0)) ∨ (E = "java/lang/IllegalStateException" ∧ ∃ k9, k9 < 10 ∧ p0 = nI k9 ∧ 200 < nl + cb_cnt (cb_qq G k9) 6)) "java/lang/IllegalArgumentException" ∧ wc9 = wc ∧ ov9 = ov) ∨ (r = 2 ∧ (fun E => (E = "java/lang/IllegalArgumentException" ∧ (p0 < 0 ∨ nI 10 ≤ p0)) ∨ (E = "java/lang/IllegalStateException" ∧ ∃ k9, k9 < 10 ∧ p0 = nI k9 ∧ 200 < nl + cb_cnt (cb_qq G k9) 6)) "java/lang/IllegalStateException" ∧ wc9 = wc ∧ ov9 = ov))) r w1) {b : Int32} {wm9 : va_W} (hm : (fun (r : Int32) (w1 : va_W) => ((p0 < 0 ∨ nI 10 ≤ p0) ∧ md_I cI cJ cZ w1 μ (upd x 0 1) A B) ∨ (∃ k9, k9 < 10 ∧ p0 = nI k9 ∧ 200 < nl + cb_cnt (md_qq A k9 nw) 6 ∧ md_I cI cJ cZ w1 μ (upd x 0 2) A B) ∨ (∃ k9, k9 < 10 ∧ p0 = nI k9 ∧ nl + cb_cnt (md_qq A k9 nw) 6 ≤ 200 ∧ r = nI (cb_cnt (md_qq A k9 nw) 6) ∧ ∃ x9 : Nat → Int32, x9 0 = 0 ∧ x9 1 = x 1 ∧ x9 2 = x 2 ∧ x9 4 = nI (md_te (nI k9) (A 3) (A 4) (A 5) nw).1 ∧ x9 5 = nI (nl + cb_cnt (md_qq A k9 nw) 6) ∧ md_I cI cJ cZ w1 μ x9 (cb_upr (cb_upr (cb_upr (md_BA (x 2) A k9 nw nl 6) 3 (md_te (nI k9) (A 3) (A 4) (A 5) nw).2.1) 4 (md_te (nI k9) (A 3) (A 4) (A 5) nw).2.2.1) 5 (md_te (nI k9) (A 3) (A 4) (A 5) nw).2.2.2) (md_BB (x 2) A B dd k9 nw nl 6))) b wm9) : ∃ (wc9 : va_W) (ov9 : Nat → Int64), w1 = (o, .inl (cJ, 1, .inr (.inl ov9))) :: wc9 ∧ rQ F xa ma wc9 wm9 r ∧ (r = 0 → ov9 0 = b.toInt64) := by
  obtain ⟨hT, hK, hE, hD, hLL, hP⟩ := hS
  obtain ⟨wc9, ov9, e, hc⟩ := hc
  refine ⟨wc9, ov9, e, ?_⟩
  have hE' := hE
  obtain ⟨n0, a1, a2, a3, a4, a5, a6⟩ := hE'
  have en : n0 = nw := nI_inj (by omega) (by omega) a3 hx4
  subst en
  have hqq : ∀ k, k < 10 → ∀ j, j < 6 → cb_qq G k j = md_qq A k n0 j := fun k hk j hj => by
    unfold cb_qq md_qq
    rw [a6 k hk j hj]
  have hcn : ∀ k, k < 10 → cb_cnt (cb_qq G k) 6 = cb_cnt (md_qq A k n0) 6 := fun k hk => cb_cnt_e (hqq k hk)
  rcases hc with ⟨hr, v9, ⟨k, hk, ek, hle, ev, z9, la9, lp9, hz9, hz4, hI9, hL9⟩, eo⟩ | ⟨hr, hx, hw, eo⟩ | ⟨hr, hx, hw, eo⟩
  · subst hr
    rcases hm with ⟨hx, -⟩ | ⟨k9, hk9, ek9, hgt, -⟩ | ⟨k9, hk9, ek9, hle9, eb, x9, y0, y1, y2, y4, y5, hM⟩
    · exact absurd hx (nI_no hk (by omega) ek)
    · have e1 := nI_inj (by omega) (by omega) ek ek9
      subst e1
      rw [hcn k hk] at hle
      omega
    · have e1 := nI_inj (by omega) (by omega) ek ek9
      subst e1
      have hfi : ∀ j, j < 6 → cb_bfi (z 3) G k j = cb_mli (nI k) (nI j) (md_us A (nI k) (nI j) n0) (md_kch (x 2) A k j n0) (-1) (md_fb (x 2) j) ∧ cb_bfl G k j = fun _ => md_kce (x 2) A k j n0 (dd (6 * k + j)) := fun j hj => by
        obtain ⟨t, tf, -, -, -, -, f, f1, f2⟩ := hK.at hj
        obtain ⟨q, q1, q2⟩ := md_us_b (A := A) (c := nI k) (k := nI j) (n := n0) (fun i hi => (a4 i hi).2)
        obtain ⟨c1, a, ha, c2⟩ := rE.chg (x2 := x 2) (a6 k hk j hj) q2 (by omega) tf f2 f1
        obtain ⟨d1, d2⟩ := hdd (6 * k + j) (by omega)
        refine ⟨?_, funext fun w => ?_⟩
        · unfold cb_bfi md_fb
          rw [c1, a6 k hk j hj, t]
        · exact rD.cents (nw := n0) hK hD hk hj d1 d2 c1 ha c2
      have hLn := hLL.bill (z3 := z 3) (x2 := x 2) (dd := dd) (hqq k hk) (fun j hj => (hfi j hj).1) (fun j hj => (hfi j hj).2) hle9 6 (by omega)
      have e6 : (cb_BS (z 3) G k nl li ll 6).1 = nl + cb_cnt (md_qq A k n0) 6 := by
        unfold cb_BS
        rw [cb_bs_1, hcn k hk]
      rw [e6] at hL9
      have lo : ∀ q, q ≤ 8 → md_BA (x 2) A k n0 nl 6 q = A q := fun q hq => md_BA_lo 6 q hq
      refine ⟨⟨κ, ra, z9, sg, _, _, pd, _, la9, lp9, _, _, μ, x9, _, _, hI9, hL9, hM, hκ, hμ, ⟨?_, ?_, ?_, ?_, ?_, ?_⟩, y0⟩, fun _ => ?_⟩
      · rw [hz9 0 (by omega), y1]
        show rT _ _ _ (md_BA (x 2) A k n0 nl 6 1)
        rw [lo 1 (by omega)]
        exact hT
      · rw [hz9 3 (by omega), y2]
        show rK _ _ (G 1) (md_BA (x 2) A k n0 nl 6 2)
        rw [lo 2 (by omega)]
        exact hK
      · rw [hz4]
        refine rE.gone (nw := n0) hE hx4 hnw hk y4 rfl rfl rfl (fun c d hd => ?_)
        by_cases w : c = k
        · subst w
          rw [cb_upg_s, if_pos rfl]
          exact if_pos hd
        · rw [cb_upg_n (fun q => w q.2), if_neg w]
      · exact rD.ext (A := A) (lo 6 (by omega)) (lo 7 (by omega)) (lo 8 (by omega)) hD
      · exact rL.ext (A := md_BA (x 2) A k n0 nl 6) (B := md_BB (x 2) A B dd k n0 nl 6) y5 rfl rfl rfl rfl rfl rfl rfl rfl hLn
      · intro c hc
        rw [md_BB_15]
        exact hP c hc
      · rw [eo, updL_s, ev, eb, hcn k hk]
  · subst hw hr
    rcases hx with ⟨-, hx⟩ | ⟨q, -⟩
    · rcases hm with ⟨-, hM⟩ | ⟨k9, hk9, ek9, hgt, -⟩ | ⟨k9, hk9, ek9, hle9, -⟩
      · exact ⟨⟨κ, ra, z, sg, G, we, pd, nl, la, lp, li, ll, μ, _, A, B, hI, hL, hM, hκ, hμ, ⟨hT, hK, hE, hD, hLL, hP⟩, rfl⟩, fun q => absurd q (by decide)⟩
      · exact absurd hx (nI_no hk9 (by omega) ek9)
      · exact absurd hx (nI_no hk9 (by omega) ek9)
    · exact absurd q (by decide)
  · subst hw hr
    rcases hx with ⟨q, -⟩ | ⟨-, k, hk, ek, hgt⟩
    · exact absurd q (by decide)
    · rcases hm with ⟨hx, hM⟩ | ⟨k9, hk9, ek9, hgt9, hM⟩ | ⟨k9, hk9, ek9, hle9, -⟩
      · exact absurd hx (nI_no hk (by omega) ek)
      · exact ⟨⟨κ, ra, z, sg, G, we, pd, nl, la, lp, li, ll, μ, _, A, B, hI, hL, hM, hκ, hμ, ⟨hT, hK, hE, hD, hLL, hP⟩, rfl⟩, fun q => absurd q (by decide)⟩
      · have e1 := nI_inj (by omega) (by omega) ek ek9
        subst e1
        rw [hcn k hk] at hgt
        omega
end OPS
