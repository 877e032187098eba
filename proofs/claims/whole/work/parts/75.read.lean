/-! OPS: reading -/
section OPS
variable {l : Launch} {s0 : State} {D : va_G} {cI cC cJ cII cO cZ : ClassId} {F : FX l s0 D cI cC cJ cII cO cZ} {xa ma : Nat} {wc wm : va_W} {κ : Nat → Nat} {ra : Nat → Nat → Nat} {z sg : Nat → Int32} {G : Nat → Nat → Nat → Int32} {we : Nat → Int32} {pd : Nat → Int64} {nl : Nat} {la lp : Nat → Nat} {li : Nat → Nat → Int32} {ll : Nat → Nat → Int64} {μ : Nat → Nat} {x : Nat → Int32} {A : Nat → Nat → Int32} {B : Nat → Nat → Int64}
/-! READING, both ways -/
theorem ch_nat {c : Int32} (h : narrow .char (.int c) = .int c) : ∃ q, q ≤ 65535 ∧ c = nI q := by
  have h1 : c.toUInt32.toUInt16.toUInt32.toInt32 = c := Value.int.inj h
  refine ⟨c.toUInt32.toUInt16.toNat, by have := c.toUInt32.toUInt16.toNat_lt; omega, ?_⟩
  rw [← h1]
  have hlt := c.toUInt32.toUInt16.toNat_lt
  generalize c.toUInt32.toUInt16 = u at hlt
  apply Int32.toBitVec_inj.mp
  apply BitVec.eq_of_toNat_eq
  rw [pk_tn (by have := u.toUInt32.toInt32.toUInt32.toUInt16.toNat_lt; omega)]
  show u.toUInt32.toNat = u.toUInt32.toInt32.toUInt32.toUInt16.toNat
  simp
theorem ch_let {c : Int32} (h : narrow .char (.int c) = .int c) : (c - 65 < 0 ∨ nI 6 ≤ c - 65) ↔ (c < 65 ∨ 70 < c) := by
  obtain ⟨q, hq, rfl⟩ := ch_nat h
  have e : (nI q - 65).toInt = (q : Int) - 65 := by
    rw [Int32.toInt_sub, nI_toInt (by omega), show (65 : Int32).toInt = 65 from rfl, Int.bmod_eq_of_le (by omega) (by omega)]
  rw [Int32.lt_iff_toInt_lt, Int32.le_iff_toInt_le, Int32.lt_iff_toInt_lt, Int32.lt_iff_toInt_lt, e, nI_toInt (by omega), nI_toInt (by omega), show (65 : Int32).toInt = 65 from rfl, show (70 : Int32).toInt = 70 from rfl, show (0 : Int32).toInt = 0 from rfl]
  omega
/-! one sign after the other -/
theorem md_stp_det {c : Int32} {s t u : md_S} (h1 : md_stp c s t) (h2 : md_stp c s u) : t = u := by
  rcases h1 with ⟨a1, e1⟩ | ⟨a1, a2, e1⟩ | ⟨a1, a2, a3, a4, e1⟩ | ⟨a1, a2, a3, a4, a5, e1⟩ <;> rcases h2 with ⟨b1, e2⟩ | ⟨b1, b2, e2⟩ | ⟨b1, b2, b3, b4, e2⟩ | ⟨b1, b2, b3, b4, b5, e2⟩ <;> first | exact e1.trans e2.symm | contradiction
theorem md_wrg_no {c : Int32} {s t : md_S} (h1 : md_wrg c s) (h2 : md_stp c s t) : False := by
  obtain ⟨a1, a2, a3⟩ := h1
  rcases h2 with ⟨b1, -⟩ | ⟨-, b2, -⟩ | ⟨-, -, b3, b4, -⟩ | ⟨-, -, b3, b4, b5, -⟩
  · exact a1 b1
  · exact a2 b2
  · rcases a3 with a3 | a3
    · exact a3 b3
    · exact a3.1 b4
  · rcases a3 with a3 | a3
    · exact a3 b3
    · exact a3.2 b5
theorem md_go_det {a1 : Nat → Int32} {p : Nat} : ∀ {k : Nat} {s t u : md_S}, md_go a1 p k s t → md_go a1 p k s u → t = u
  | 0, _, _, _, h1, h2 => h1.trans h2.symm
  | k + 1, _, _, _, ⟨v, h1, h2⟩, ⟨w, h3, h4⟩ => by
    have e := md_go_det h1 h3
    subst e
    exact md_stp_det h2 h4
theorem md_go_pre {a1 : Nat → Int32} {p j : Nat} : ∀ {k : Nat} {s t : md_S}, j < k → md_go a1 p k s t → ∃ u v, md_go a1 p j s u ∧ md_stp (a1 (p + j)) u v
  | 0, _, _, h, _ => absurd h (Nat.not_lt_zero _)
  | k + 1, s, t, h, ⟨v, h1, h2⟩ => by
    by_cases e : j = k
    · subst e; exact ⟨v, t, h1, h2⟩
    · exact md_go_pre (by omega) h1
theorem md_go_ext {a1 b1 : Nat → Int32} {p : Nat} : ∀ {k : Nat} {s t : md_S}, (∀ j, p ≤ j → j < p + k → a1 j = b1 j) → md_go a1 p k s t → md_go b1 p k s t
  | 0, _, _, _, h => h
  | k + 1, s, t, he, ⟨v, h1, h2⟩ => ⟨v, md_go_ext (fun j h1 h2 => he j h1 (by omega)) h1, by rw [← he (p + k) (by omega) (by omega)]; exact h2⟩
theorem md_end_ext {a1 b1 : Nat → Int32} {n : Nat} {s0 s : md_S} {w : Option Nat} (he : ∀ j, j < n → a1 j = b1 j) (h : md_end a1 n s0 w s) : md_end b1 n s0 w s := by
  rcases h with h | ⟨h0, h⟩
  · exact Or.inl h
  · refine Or.inr ⟨h0, ?_⟩
    rcases h with ⟨h1, h2, h3⟩ | ⟨h1, h2, h3⟩ | ⟨q, hq, h1, h2, h3⟩
    · exact Or.inl ⟨h1, md_go_ext (fun j _ hj => he j (by omega)) h2, h3⟩
    · exact Or.inr (Or.inl ⟨h1, md_go_ext (fun j _ hj => he j (by omega)) h2, h3⟩)
    · exact Or.inr (Or.inr ⟨q, hq, h1, md_go_ext (fun j _ hj => he j (by omega)) h2, by rw [← he q hq]; exact h3⟩)
theorem md_end_wg {a1 : Nat → Int32} {p q : Nat} {s0 s t : md_S} (hq : q < p) (h1 : md_go a1 0 p s0 s) (h2 : md_go a1 0 q s0 t) (h3 : md_wrg (a1 q) t) : False := by
  obtain ⟨u, v, g1, g2⟩ := md_go_pre hq h1
  have e := md_go_det g1 h2
  subst e
  rw [Nat.zero_add] at g2
  exact md_wrg_no h3 g2
theorem md_end_det {a1 : Nat → Int32} {n : Nat} {s0 s t : md_S} {w v : Option Nat} (h1 : md_end a1 n s0 w s) (h2 : md_end a1 n s0 v t) : w = v ∧ (w = none → s = t) := by
  rcases h1 with ⟨z, e1⟩ | ⟨z, h1⟩
  · rcases h2 with ⟨_, e2⟩ | ⟨z2, -⟩
    · exact ⟨e1.trans e2.symm, fun q => by rw [e1] at q; cases q⟩
    · omega
  · rcases h2 with ⟨z2, e2⟩ | ⟨-, h2⟩
    · omega
    · rcases h1 with ⟨e1, g1, f1⟩ | ⟨e1, g1, f1⟩ | ⟨q, hq, e1, g1, f1⟩ <;> rcases h2 with ⟨e2, g2, f2⟩ | ⟨e2, g2, f2⟩ | ⟨q2, hq2, e2, g2, f2⟩
      · exact ⟨e1.trans e2.symm, fun _ => md_go_det g1 g2⟩
      · have e := md_go_det g1 g2
        subst e
        exact absurd f1 f2
      · exact (md_end_wg hq2 g1 g2 f2).elim
      · have e := md_go_det g1 g2
        subst e
        exact absurd f2 f1
      · exact ⟨e1.trans e2.symm, fun q => by rw [e1] at q; cases q⟩
      · exact (md_end_wg hq2 g1 g2 f2).elim
      · exact (md_end_wg hq g2 g1 f1).elim
      · exact (md_end_wg hq g2 g1 f1).elim
      · have e : q = q2 := by
          rcases Nat.lt_trichotomy q q2 with w | w | w
          · exact (md_end_wg w g2 g1 f1).elim
          · exact w
          · exact (md_end_wg w g1 g2 f2).elim
        subst e
        exact ⟨e1.trans e2.symm, fun q => by rw [e1] at q; cases q⟩
/-- from a place to another -/
def mg (a1 : Nat → Int32) (p q : Nat) (s s' : md_S) : Prop := ∃ k, q = p + k ∧ md_go a1 p k s s'
theorem mg_0 {a1 : Nat → Int32} {p : Nat} {s : md_S} : mg a1 p p s s := ⟨0, rfl, rfl⟩
theorem mg_s {a1 : Nat → Int32} {p q : Nat} {s t u : md_S} (h : mg a1 p q s t) (h2 : md_stp (a1 q) t u) : mg a1 p (q + 1) s u := by
  obtain ⟨k, rfl, h⟩ := h
  exact ⟨k + 1, rfl, t, h, h2⟩
theorem mg_t {a1 : Nat → Int32} {p q : Nat} {s t : md_S} (h : mg a1 p q s t) : ∀ {k : Nat} {u : md_S}, md_go a1 q k t u → mg a1 p (q + k) s u
  | 0, u, g => by
    have e : u = t := g
    subst e
    exact h
  | k + 1, u, ⟨v, g1, g2⟩ => mg_s (mg_t h g1) g2
theorem mg_tr {a1 : Nat → Int32} {p q r : Nat} {s t u : md_S} (h : mg a1 p q s t) (g : mg a1 q r t u) : mg a1 p r s u := by
  obtain ⟨k, rfl, g⟩ := g
  exact mg_t h g
theorem nx_in {sg : Nat → Int32} {n a : Nat} (h : a < n) : cb_nx sg n a = sg a := if_pos h
theorem num_v {v c : Int32} : v * 10 + (c - 48) = 10 * v + c - 48 := by
  rw [Int32.mul_comm v 10, Int32.sub_eq_add_neg, Int32.sub_eq_add_neg, Int32.add_assoc]
/-- digits, both ways -/
theorem num_go {sg : Nat → Int32} {n f st kd m : Nat} (h2 : 2 ≤ st) : ∀ (k dg a : Nat) (v : Int32) (T : Nat → Int32) (v0 : Nat), k + dg = md_most st → (dg = 0 → v = 0) → (¬ dg = 0 → T (24 + 4 * kd + st - 2) = v) → v = nI v0 → v0 < 10 ^ dg → a ≤ n →
    ∃ dg' T', mg sg a (cb_num sg n k a v).1 (f, st, dg, kd, m, T) (f, st, dg', kd, m, T') ∧ (cb_num sg n k a v).1 + dg = a + dg' ∧ dg' ≤ md_most st ∧ ((cb_num sg n k a v).1 = a → T' = T ∧ (cb_num sg n k a v).2 = v) ∧ (¬ (cb_num sg n k a v).1 = a → T' = upd T (24 + 4 * kd + st - 2) (cb_num sg n k a v).2) ∧ ((cb_num sg n k a v).1 < n → ¬ md_isD (sg (cb_num sg n k a v).1) st dg') ∧ ∃ w0, w0 < 10 ^ dg' ∧ (cb_num sg n k a v).2 = nI w0
  | 0, dg, a, v, T, v0, hk, hv0, hv1, hv, hb, ha => by
    show ∃ dg' T', mg sg a a _ _ ∧ a + dg = a + dg' ∧ dg' ≤ md_most st ∧ (a = a → T' = T ∧ v = v) ∧ (¬ a = a → T' = upd T (24 + 4 * kd + st - 2) v) ∧ (a < n → ¬ md_isD (sg a) st dg') ∧ ∃ w0, w0 < 10 ^ dg' ∧ v = nI w0
    exact ⟨dg, T, mg_0, rfl, by omega, fun _ => ⟨rfl, rfl⟩, fun q => absurd rfl q, fun _ q => by have := q.2.2; omega, v0, hb, hv⟩
  | k + 1, dg, a, v, T, v0, hk, hv0, hv1, hv, hb, ha => by
    by_cases q : cb_nx sg n a < 48 ∨ 57 < cb_nx sg n a
    · rw [cb_num_e q]
      exact ⟨dg, T, mg_0, rfl, by omega, fun _ => ⟨rfl, rfl⟩, fun q => absurd rfl q, fun h w => by rw [nx_in h] at q; exact q.elim w.2.1.1 w.2.1.2, v0, hb, hv⟩
    · rw [cb_num_s q]
      have hlt : a < n := by
        rcases Nat.lt_or_ge a n with h1 | h1
        · exact h1
        · exact absurd (Or.inl (by rw [cb_nx, if_neg (by omega)]; decide)) q
      rw [nx_in hlt] at q ⊢
      have hd : ¬ sg a < 48 ∧ ¬ 57 < sg a := ⟨fun z => q (Or.inl z), fun z => q (Or.inr z)⟩
      have hstp : md_stp (sg a) (f, st, dg, kd, m, T) (f, st, dg + 1, kd, m, md_td T (24 + 4 * kd + st - 2) dg (sg a)) := Or.inr (Or.inl ⟨fun z => by have := z.1; dsimp only at this; omega, ⟨h2, hd, by dsimp only; omega⟩, rfl⟩)
      have hT : md_td T (24 + 4 * kd + st - 2) dg (sg a) = upd T (24 + 4 * kd + st - 2) (v * 10 + (sg a - 48)) := by
        unfold md_td
        congr 1
        rw [num_v]
        by_cases z : dg = 0
        · rw [if_pos z, hv0 z]; rfl
        · rw [if_neg z, hv1 z]
      obtain ⟨dq, hdq, edq⟩ : ∃ dq, dq ≤ 9 ∧ sg a - 48 = nI dq := by
        have e0 : ¬ sg a < 0 := fun w => hd.1 (by simp only [Int32.lt_iff_toInt_lt] at w ⊢; have e1 : (0 : Int32).toInt = 0 := rfl; have e2 : (48 : Int32).toInt = 48 := rfl; omega)
        obtain ⟨q9, hq9, e9⟩ := nI_of2 (M := 57) (n := 57) (by decide) e0 (Int32.not_lt.mp hd.2)
        have h48 : 48 ≤ q9 := by
          rcases Nat.lt_or_ge q9 48 with h | h
          · exact absurd ((nI_ltI (a := q9) (b := 48) (by omega) (by omega)).mpr h) (by rw [← e9]; exact hd.1)
          · exact h
        exact ⟨q9 - 48, by omega, by rw [e9]; exact nI_subN h48⟩
      have hv' : v * 10 + (sg a - 48) = nI (v0 * 10 + dq) := by
        rw [edq, hv, show (10 : Int32) = nI 10 from rfl, md_mul, nI_add]
      have hb' : v0 * 10 + dq < 10 ^ (dg + 1) := by rw [Nat.pow_succ]; omega
      obtain ⟨dg', T', g1, g2, g3, g4, g5, g6, g7⟩ := num_go (sg := sg) (n := n) (f := f) (kd := kd) (m := m) h2 k (dg + 1) (a + 1) (v * 10 + (sg a - 48)) (md_td T (24 + 4 * kd + st - 2) dg (sg a)) (v0 * 10 + dq) (by omega) (fun z => absurd z (by omega)) (fun _ => by rw [hT, upd_s]) hv' hb' hlt
      have hle := (cb_num_le sg n k (a + 1) (v * 10 + (sg a - 48)) hlt).1
      refine ⟨dg', T', mg_tr (mg_s mg_0 hstp) g1, by omega, g3, fun z => by omega, fun _ => ?_, g6, g7⟩
      by_cases z : (cb_num sg n k (a + 1) (v * 10 + (sg a - 48))).1 = a + 1
      · rw [(g4 z).1, (g4 z).2, hT]
      · rw [g5 z, hT, cb_uu]
/-- a number at its begin -/
theorem num_0 {sg : Nat → Int32} {n f st kd m a k : Nat} {T : Nat → Int32} (h2 : 2 ≤ st) (hk : k = md_most st) (ha : a ≤ n) : a ≤ (cb_num sg n k a 0).1 ∧ (cb_num sg n k a 0).1 ≤ n ∧ ((cb_num sg n k a 0).1 = a → a < n → ¬ md_isD (sg a) st 0) ∧ (¬ (cb_num sg n k a 0).1 = a → ∃ dg, 0 < dg ∧ mg sg a (cb_num sg n k a 0).1 (f, st, 0, kd, m, T) (f, st, dg, kd, m, upd T (24 + 4 * kd + st - 2) (cb_num sg n k a 0).2) ∧ ((cb_num sg n k a 0).1 < n → ¬ md_isD (sg (cb_num sg n k a 0).1) st dg) ∧ ∃ w, w < 10 ^ md_most st ∧ (cb_num sg n k a 0).2 = nI w) := by
  obtain ⟨dg', T', g1, g2, g3, g4, g5, g6, w0, g7, g8⟩ := num_go (sg := sg) (n := n) (f := f) (kd := kd) (m := m) h2 k 0 a 0 T 0 (by omega) (fun _ => rfl) (fun z => absurd rfl z) rfl (by decide) ha
  obtain ⟨c1, c2⟩ := cb_num_le sg n k a 0 ha
  refine ⟨c1, c2, fun z hn => ?_, fun z => ⟨dg', by omega, by rw [← g5 z]; exact g1, g6, w0, Nat.lt_of_lt_of_le g7 (Nat.pow_le_pow_right (by decide) g3), g8⟩⟩
  have := g6 (by omega)
  rw [z, show dg' = 0 by omega] at this
  exact this
/-- a wrong place -/
def mx (sg : Nat → Int32) (n a : Nat) (s0 : md_S) (b : Nat) : Prop := b ≤ n ∧ ∃ s, mg sg a b s0 s ∧ ((b < n ∧ md_wrg (sg b) s) ∨ (b = n ∧ ¬ s.2.1 = 0))
/-- what a row comes to -/
def RO (sg : Nat → Int32) (n a : Nat) (s0 : md_S) (f kd m : Nat) (T0 : Nat → Int32) (q : cb_RW) : Prop :=
  (q.1 = false ∧ mx sg n a s0 q.2.1) ∨ (q.1 = true ∧ a < q.2.1 ∧ q.2.1 ≤ n ∧ ∃ d T9, mg sg a q.2.1 s0 (f + 1, 0, d, kd, m, T9) ∧ (∀ i, i < 4 → T9 (24 + 4 * kd + i) = cb_rwf q i) ∧ (∀ j, j < 24 + 4 * kd ∨ 24 + 4 * kd + 4 ≤ j → T9 j = T0 j) ∧ (∃ p, (1 ≤ p ∧ p ≤ 9999) ∧ cb_rwf q 1 = nI p) ∧ ∃ p, p ≤ 9999 ∧ cb_rwf q 2 = nI p)
theorem RO.pre {sg : Nat → Int32} {n a b : Nat} {s0 s : md_S} {f kd m : Nat} {T0 : Nat → Int32} {q : cb_RW} (hg : mg sg a b s0 s) (h : RO sg n b s f kd m T0 q) : RO sg n a s0 f kd m T0 q := by
  have hab : a ≤ b := by obtain ⟨k, hk, -⟩ := hg; omega
  rcases h with ⟨h1, h2, t, h3, h4⟩ | ⟨h1, h2, h3, d, T9, h4, h5⟩
  · exact Or.inl ⟨h1, h2, t, mg_tr hg h3, h4⟩
  · exact Or.inr ⟨h1, by omega, h3, d, T9, mg_tr hg h4, h5⟩
/-- a row's state at a place: part, digits, what was read -/
def RwH (sg : Nat → Int32) (n b st dg kd : Nat) (T T0 : Nat → Int32) (r p f l : Int32) : Prop := 2 ≤ st ∧ st ≤ 5 ∧ 0 < dg ∧ ¬ (st = 3 ∧ T (24 + 4 * kd + 1) = 0) ∧ (b < n → ¬ md_isD (sg b) st dg) ∧ b ≤ n ∧ T (24 + 4 * kd) = r ∧ T (24 + 4 * kd + 1) = p ∧ T (24 + 4 * kd + 2) = f ∧ T (24 + 4 * kd + 3) = l ∧ (∀ j, j < 24 + 4 * kd ∨ 24 + 4 * kd + 4 ≤ j → T j = T0 j) ∧ (∃ q, (1 ≤ q ∧ q ≤ 9999) ∧ p = nI q) ∧ ∃ q, q ≤ 9999 ∧ f = nI q
section RW
variable {sg : Nat → Int32} {n b st dg kd f0 m : Nat} {T T0 : Nat → Int32} {r p f l : Int32}
theorem RwH.h2 (h : RwH sg n b st dg kd T T0 r p f l) : 2 ≤ st := h.1
theorem RwH.h5 (h : RwH sg n b st dg kd T T0 r p f l) : st ≤ 5 := h.2.1
theorem RwH.hd (h : RwH sg n b st dg kd T T0 r p f l) : 0 < dg := h.2.2.1
theorem RwH.hw (h : RwH sg n b st dg kd T T0 r p f l) : ¬ (st = 3 ∧ T (24 + 4 * kd + 1) = 0) := h.2.2.2.1
theorem RwH.hi (h : RwH sg n b st dg kd T T0 r p f l) : b < n → ¬ md_isD (sg b) st dg := h.2.2.2.2.1
theorem RwH.hn (h : RwH sg n b st dg kd T T0 r p f l) : b ≤ n := h.2.2.2.2.2.1
theorem RwH.t0 (h : RwH sg n b st dg kd T T0 r p f l) : T (24 + 4 * kd) = r := h.2.2.2.2.2.2.1
theorem RwH.t1 (h : RwH sg n b st dg kd T T0 r p f l) : T (24 + 4 * kd + 1) = p := h.2.2.2.2.2.2.2.1
theorem RwH.t2 (h : RwH sg n b st dg kd T T0 r p f l) : T (24 + 4 * kd + 2) = f := h.2.2.2.2.2.2.2.2.1
theorem RwH.t3 (h : RwH sg n b st dg kd T T0 r p f l) : T (24 + 4 * kd + 3) = l := h.2.2.2.2.2.2.2.2.2.1
theorem RwH.to (h : RwH sg n b st dg kd T T0 r p f l) : ∀ j, j < 24 + 4 * kd ∨ 24 + 4 * kd + 4 ≤ j → T j = T0 j := h.2.2.2.2.2.2.2.2.2.2.1
theorem RwH.bp (h : RwH sg n b st dg kd T T0 r p f l) : ∃ q, (1 ≤ q ∧ q ≤ 9999) ∧ p = nI q := h.2.2.2.2.2.2.2.2.2.2.2.1
theorem RwH.bf (h : RwH sg n b st dg kd T T0 r p f l) : ∃ q, q ≤ 9999 ∧ f = nI q := h.2.2.2.2.2.2.2.2.2.2.2.2
theorem RwH.whl (h : RwH sg n b st dg kd T T0 r p f l) : md_whl st dg kd T := ⟨h.h2, h.hd, h.hw⟩
theorem RwH.noL (h : RwH sg n b st dg kd T T0 r p f l) {c : Int32} : ¬ md_isL c st := fun z => by have := z.1; have := h.h2; omega
/-- a part begins -/
theorem RwH.begin (h : RwH sg n b st dg kd T T0 r p f l) (hb : b < n) {st' : Nat} (hc : md_bgN (sg b) = st') (hst : st < st') : mg sg b (b + 1) (f0, st, dg, kd, m, T) (f0, st', 0, kd, m, T) :=
  mg_s mg_0 (Or.inr (Or.inr (Or.inl ⟨h.noL, h.hi hb, h.whl, by rw [hc]; exact hst, by rw [hc]⟩)))
/-- a part without a number -/
theorem mx_empty {st' : Nat} {s0 : md_S} (h2 : 2 ≤ st') (hg : mg sg b (b + 1) s0 (f0, st', 0, kd, m, T)) (hb : b < n) (hi : b + 1 < n → ¬ md_isD (sg (b + 1)) st' 0) : mx sg n b s0 (b + 1) := by
  refine ⟨by omega, _, hg, ?_⟩
  rcases Nat.lt_or_ge (b + 1) n with q | q
  · exact Or.inl ⟨q, fun z => by have := z.1; dsimp only at this; omega, hi q, Or.inl (fun z => absurd z.2.1 (Nat.lt_irrefl 0))⟩
  · exact Or.inr ⟨by omega, by dsimp only; omega⟩
theorem ro5 (h : RwH sg n b st dg kd T T0 r p f l) (hb : b < n → ¬ st < md_bgN (sg b)) : RO sg n b (f0, st, dg, kd, m, T) f0 kd m T0 (cb_row5 sg n b r p f l) := by
  unfold cb_row5
  by_cases e : cb_nx sg n b = 59
  · have hlt := cb_nx_lt (by decide) e
    rw [nx_in hlt] at e
    rw [if_pos (by rw [nx_in hlt]; exact e)]
    refine Or.inr ⟨rfl, Nat.lt_succ_self b, hlt, dg, T, mg_s mg_0 (Or.inr (Or.inr (Or.inr ⟨h.noL, h.hi hlt, h.whl, hb hlt, e, rfl⟩))), fun i hi => ?_, h.to, h.bp, h.bf⟩
    rcases (show i = 0 ∨ i = 1 ∨ i = 2 ∨ i = 3 by omega) with q | q | q | q <;> subst q
    · exact h.t0
    · exact h.t1
    · exact h.t2
    · exact h.t3
  · rw [if_neg e]
    refine Or.inl ⟨rfl, h.hn, _, mg_0, ?_⟩
    rcases Nat.lt_or_ge b n with q | q
    · rw [nx_in q] at e
      exact Or.inl ⟨q, h.noL, h.hi q, Or.inr ⟨hb q, e⟩⟩
    · exact Or.inr ⟨by have := h.hn; show b = n; omega, by have := h.h2; dsimp only; omega⟩
theorem md_bg0 {c : Int32} (h1 : ¬ c = 47) (h2 : ¬ c = 45) (h3 : ¬ c = 62) : md_bgN c = 0 := by
  unfold md_bgN
  rw [if_neg h1, if_neg h2, if_neg h3]
theorem md_bg47 : md_bgN 47 = 3 := rfl
theorem md_bg45 : md_bgN 45 = 4 := rfl
theorem md_bg62 : md_bgN 62 = 5 := rfl
theorem ro4 (h : RwH sg n b st dg kd T T0 r p f 0) (h4 : st ≤ 4) (hb : b < n → (sg b = 47 → 3 ≤ st) ∧ (sg b = 45 → 4 ≤ st)) : RO sg n b (f0, st, dg, kd, m, T) f0 kd m T0 (cb_row4 sg n b r p f) := by
  unfold cb_row4
  by_cases e : cb_nx sg n b = 62
  · have hlt := cb_nx_lt (by decide) e
    have e' := e
    rw [nx_in hlt] at e'
    have hbg := h.begin (f0 := f0) (m := m) hlt (st' := 5) (by rw [e']; rfl) (by omega)
    obtain ⟨c1, c2, c3, c4⟩ := num_0 (sg := sg) (n := n) (f := f0) (st := 5) (kd := kd) (m := m) (a := b + 1) (k := 6) (T := T) (by omega) rfl hlt
    rw [if_pos e]
    by_cases z : (cb_num sg n 6 (b + 1) 0).1 = b + 1
    · rw [if_pos z]
      exact Or.inl ⟨rfl, mx_empty (by omega) hbg hlt (c3 z)⟩
    · rw [if_neg z]
      obtain ⟨dg', d1, d2, d3, w, -, d4⟩ := c4 z
      refine RO.pre (mg_tr hbg d2) (ro5 ?_ (fun _ => by have := (md_bgN_le (sg (cb_num sg n 6 (b + 1) 0).1)).1; omega))
      exact ⟨by omega, by omega, d1, fun q => absurd q.1 (by decide), d3, c2, by rw [upd_n (by omega)]; exact h.t0, by rw [upd_n (by omega)]; exact h.t1, by rw [upd_n (by omega)]; exact h.t2, upd_s, fun j hj => by rw [upd_n (by omega)]; exact h.to j hj, h.bp, h.bf⟩
  · rw [if_neg e]
    refine ro5 h (fun hlt => ?_)
    rw [nx_in hlt] at e
    intro z
    by_cases q1 : sg b = 47
    · have := (hb hlt).1 q1; rw [q1, md_bg47] at z; omega
    · by_cases q2 : sg b = 45
      · have := (hb hlt).2 q2; rw [q2, md_bg45] at z; omega
      · rw [md_bg0 q1 q2 e] at z; omega
theorem ro3 (h : RwH sg n b st dg kd T T0 r p 0 0) (h4 : st ≤ 3) (hb : b < n → (sg b = 47 → 3 ≤ st)) : RO sg n b (f0, st, dg, kd, m, T) f0 kd m T0 (cb_row3 sg n b r p) := by
  unfold cb_row3
  by_cases e : cb_nx sg n b = 45
  · have hlt := cb_nx_lt (by decide) e
    have e' := e
    rw [nx_in hlt] at e'
    have hbg := h.begin (f0 := f0) (m := m) hlt (st' := 4) (by rw [e']; rfl) (by omega)
    obtain ⟨c1, c2, c3, c4⟩ := num_0 (sg := sg) (n := n) (f := f0) (st := 4) (kd := kd) (m := m) (a := b + 1) (k := 4) (T := T) (by omega) rfl hlt
    rw [if_pos e]
    by_cases z : (cb_num sg n 4 (b + 1) 0).1 = b + 1
    · rw [if_pos z]
      exact Or.inl ⟨rfl, mx_empty (by omega) hbg hlt (c3 z)⟩
    · rw [if_neg z]
      obtain ⟨dg', d1, d2, d3, w, d5, d4⟩ := c4 z
      refine RO.pre (mg_tr hbg d2) (ro4 ?_ (by omega) (fun _ => ⟨fun _ => by omega, fun _ => by omega⟩))
      have d5' : w < 10000 := d5
      exact ⟨by omega, by omega, d1, fun q => absurd q.1 (by decide), d3, c2, by rw [upd_n (by omega)]; exact h.t0, by rw [upd_n (by omega)]; exact h.t1, upd_s, by rw [upd_n (by omega)]; exact h.t3, fun j hj => by rw [upd_n (by omega)]; exact h.to j hj, h.bp, w, by omega, d4⟩
  · rw [if_neg e]
    refine ro4 h (by omega) (fun hlt => ⟨hb hlt, fun q => absurd q (by rw [nx_in hlt] at e; exact e)⟩)
theorem ro2 (h : RwH sg n b 2 dg kd T T0 r 1 0 0) : RO sg n b (f0, 2, dg, kd, m, T) f0 kd m T0 (cb_row2 sg n b r) := by
  unfold cb_row2
  by_cases e : cb_nx sg n b = 47
  · have hlt := cb_nx_lt (by decide) e
    have e' := e
    rw [nx_in hlt] at e'
    have hbg := h.begin (f0 := f0) (m := m) hlt (st' := 3) (by rw [e']; rfl) (by omega)
    obtain ⟨c1, c2, c3, c4⟩ := num_0 (sg := sg) (n := n) (f := f0) (st := 3) (kd := kd) (m := m) (a := b + 1) (k := 4) (T := T) (by omega) rfl hlt
    rw [if_pos e]
    by_cases z : (cb_num sg n 4 (b + 1) 0).1 = b + 1
    · rw [if_pos (Or.inl z), z]
      exact Or.inl ⟨rfl, mx_empty (by omega) hbg hlt (c3 z)⟩
    · obtain ⟨dg', d1, d2, d3, w, d5, d4⟩ := c4 z
      have d5' : w < 10000 := d5
      by_cases y : (cb_num sg n 4 (b + 1) 0).2 ≤ 0
      · rw [if_pos (Or.inr y)]
        have w0 : w = 0 := by
          rw [d4] at y
          have := (nI_leI (a := w) (b := 0) (by omega) (by omega)).mp y
          omega
        refine Or.inl ⟨rfl, c2, _, mg_tr hbg d2, ?_⟩
        rcases Nat.lt_or_ge (cb_num sg n 4 (b + 1) 0).1 n with q | q
        · exact Or.inl ⟨q, fun u => absurd u.1 (by show ¬ (3 : Nat) = 0; decide), d3 q, Or.inl (fun u => u.2.2 ⟨rfl, by
            show upd T (24 + 4 * kd + 1) _ (24 + 4 * kd + 1) = 0
            rw [upd_s, d4, w0]; rfl⟩)⟩
        · exact Or.inr ⟨by show (cb_num sg n 4 (b + 1) 0).1 = n; omega, by show ¬ (3 : Nat) = 0; decide⟩
      · rw [if_neg (fun u => u.elim z y)]
        have w1 : 1 ≤ w := by
          rcases Nat.eq_zero_or_pos w with q | q
          · exact absurd (by rw [d4, q]; decide) y
          · exact q
        refine RO.pre (mg_tr hbg d2) (ro3 ?_ (by omega) (fun _ _ => by omega))
        refine ⟨by omega, by omega, d1, fun q => y ?_, d3, c2, by rw [upd_n (by omega)]; exact h.t0, upd_s, by rw [upd_n (by omega)]; exact h.t2, by rw [upd_n (by omega)]; exact h.t3, fun j hj => by rw [upd_n (by omega)]; exact h.to j hj, ⟨w, ⟨w1, by omega⟩, d4⟩, h.bf⟩
        have q2 : upd T (24 + 4 * kd + 1) (cb_num sg n 4 (b + 1) 0).2 (24 + 4 * kd + 1) = 0 := q.2
        rw [upd_s] at q2
        rw [q2]; decide
  · rw [if_neg e]
    exact ro3 h (by omega) (fun hlt q => absurd q (by rw [nx_in hlt] at e; exact e))
end RW
/-- a row, both ways -/
theorem ro1 {sg : Nat → Int32} {n a f0 d k0 m : Nat} {T : Nat → Int32} (hc : narrow .char (.int (sg a)) = .int (sg a)) (ha : a < n) : (cb_row sg n a).1 = false ∧ mx sg n a (f0, 0, d, k0, m, T) (cb_row sg n a).2.1 ∨ ∃ kk, kk < 6 ∧ cb_nx sg n a - 65 = nI kk ∧ (a + 3 ≤ (cb_row sg n a).2.1 ∨ (cb_row sg n a).1 = false) ∧ RO sg n a (f0, 0, d, k0, m, T) f0 kk (m ||| 2 ^ kk) T (cb_row sg n a) := by
  unfold cb_row
  rw [nx_in ha]
  by_cases e : sg a - 65 < 0 ∨ nI 6 ≤ sg a - 65
  · rw [if_pos e]
    refine Or.inl ⟨rfl, Nat.le_of_lt ha, _, mg_0, Or.inl ⟨ha, fun z => ?_, fun z => absurd z.1 (by show ¬ 2 ≤ (0 : Nat); decide), Or.inl (fun z => absurd z.1 (by show ¬ 2 ≤ (0 : Nat); decide))⟩⟩
    exact ((ch_let hc).mp e).elim z.2.1 z.2.2
  · rw [if_neg e]
    have hl : ¬ sg a < 65 ∧ ¬ 70 < sg a := ⟨fun z => e ((ch_let hc).mpr (Or.inl z)), fun z => e ((ch_let hc).mpr (Or.inr z))⟩
    obtain ⟨kk, hkk, ek⟩ := md_let hl.1 hl.2
    refine Or.inr ⟨kk, hkk, ek, ?_⟩
    have hg : mg sg a (a + 1) (f0, 0, d, k0, m, T) (f0, 2, 0, kk, m ||| 2 ^ kk, md_t0 T kk) := mg_s mg_0 (Or.inl ⟨⟨rfl, hl.1, hl.2⟩, by rw [ek, nI_clamp (by omega)]⟩)
    obtain ⟨c1, c2, c3, c4⟩ := num_0 (sg := sg) (n := n) (f := f0) (st := 2) (kd := kk) (m := m ||| 2 ^ kk) (a := a + 1) (k := 6) (T := md_t0 T kk) (by omega) rfl ha
    by_cases z : (cb_num sg n 6 (a + 1) 0).1 = a + 1
    · rw [if_pos z]
      exact ⟨Or.inr rfl, Or.inl ⟨rfl, mx_empty (by omega) hg ha (c3 z)⟩⟩
    · rw [if_neg z]
      obtain ⟨dg', d1, d2, d3, w, d5, d4⟩ := c4 z
      have hro : RO sg n (cb_num sg n 6 (a + 1) 0).1 (f0, 2, dg', kk, m ||| 2 ^ kk, upd (md_t0 T kk) (24 + 4 * kk + 2 - 2) (cb_num sg n 6 (a + 1) 0).2) f0 kk (m ||| 2 ^ kk) T (cb_row2 sg n (cb_num sg n 6 (a + 1) 0).1 (cb_num sg n 6 (a + 1) 0).2) := by
        refine ro2 ⟨by omega, by omega, d1, fun q => absurd q.1 (by decide), d3, c2, upd_s, ?_, ?_, ?_, fun j hj => ?_, ⟨1, by omega, rfl⟩, 0, by omega, rfl⟩
        · rw [upd_n (by omega)]; unfold md_t0; rw [upd_n (by omega), upd_n (by omega), upd_s]
        · rw [upd_n (by omega)]; unfold md_t0; rw [upd_n (by omega), upd_s]
        · rw [upd_n (by omega)]; unfold md_t0; rw [upd_s]
        · rw [upd_n (by omega)]; unfold md_t0; rw [upd_n (by omega), upd_n (by omega), upd_n (by omega), upd_n (by omega)]
      refine ⟨?_, RO.pre (mg_tr hg d2) hro⟩
      rcases hro with ⟨q, -⟩ | ⟨-, q, -⟩
      · exact Or.inr q
      · exact Or.inl (by omega)
/-- the rows that are read -/
def RT (m : Nat) (R : Nat → Nat → Int32) (T T0 : Nat → Int32) : Prop := m < 64 ∧ ∀ k, k < 6 → (m.testBit k = true → (∀ i, i < 4 → T (24 + 4 * k + i) = R k i) ∧ (∃ q, (1 ≤ q ∧ q ≤ 9999) ∧ R k 1 = nI q) ∧ ∃ q, q ≤ 9999 ∧ R k 2 = nI q) ∧ (¬ m.testBit k = true → ∀ i, i < 4 → T (24 + 4 * k + i) = T0 (24 + 4 * k + i))
theorem RT.put {m kk : Nat} {R : Nat → Nat → Int32} {T T0 T9 : Nat → Int32} {q : cb_RW} (h : RT m R T T0) (hk : kk < 6) (h1 : ∀ i, i < 4 → T9 (24 + 4 * kk + i) = cb_rwf q i) (h2 : ∀ j, j < 24 + 4 * kk ∨ 24 + 4 * kk + 4 ≤ j → T9 j = T j) (h3 : ∃ p, (1 ≤ p ∧ p ≤ 9999) ∧ cb_rwf q 1 = nI p) (h4 : ∃ p, p ≤ 9999 ∧ cb_rwf q 2 = nI p) : RT (m ||| 2 ^ kk) (cb_upr R kk (cb_rwf q)) T9 T0 := by
  obtain ⟨a1, a2⟩ := h
  refine ⟨(cb_or m a1 kk hk).2, fun k hk6 => ?_⟩
  obtain ⟨b1, b2⟩ := a2 k hk6
  rw [cb_tb]
  by_cases e : kk = k
  · subst e
    rw [upr_s]
    exact ⟨fun _ => ⟨h1, h3, h4⟩, fun z => absurd (by rw [decide_eq_true rfl, Bool.or_true]) z⟩
  · rw [decide_eq_false e, Bool.or_false, upr_n (fun z => e z.symm)]
    have ht : ∀ i, i < 4 → T9 (24 + 4 * k + i) = T (24 + 4 * k + i) := fun i hi => h2 _ (by omega)
    refine ⟨fun z => ⟨fun i hi => by rw [ht i hi]; exact (b1 z).1 i hi, (b1 z).2⟩, fun z i hi => by rw [ht i hi]; exact b2 z i hi⟩
theorem cb_rows_x {sg : Nat → Int32} {n k a f m : Nat} {R : Nat → Nat → Int32} (h : (cb_row sg n a).1 = false) : (cb_rows sg n (k + 1) a f m R).1 = -1 - nI (cb_row sg n a).2.1 := by
  unfold cb_rows
  rw [if_pos h]
/-- the rows of a text, both ways -/
theorem rows_go {sg : Nat → Int32} {n mw : Nat} {T0 : Nat → Int32} (hc : ∀ j, narrow .char (.int (sg j)) = .int (sg j)) : ∀ (k a f m : Nat) (R : Nat → Nat → Int32) (d k0 : Nat) (T : Nat → Int32), a < n → n ≤ a + 3 * k → f + k ≤ 40 → RT m R T T0 →
    (∃ b, (cb_rows sg n k a f m R).1 = -1 - nI b ∧ mx sg n a (f, 0, d, k0, mw ||| m, T) b) ∨ (∃ f' d' k' T', (cb_rows sg n k a f m R).1 = nI f' ∧ 1 ≤ f' ∧ f' ≤ 40 ∧ mg sg a n (f, 0, d, k0, mw ||| m, T) (f', 0, d', k', mw ||| (cb_rows sg n k a f m R).2.1, T') ∧ RT (cb_rows sg n k a f m R).2.1 (cb_rows sg n k a f m R).2.2 T' T0)
  | 0, a, f, m, R, d, k0, T, ha, hk, _, _ => absurd hk (by omega)
  | k + 1, a, f, m, R, d, k0, T, ha, hk, hf, hR => by
    rcases ro1 (f0 := f) (d := d) (k0 := k0) (m := mw ||| m) (T := T) (hc a) ha with ⟨q1, q2⟩ | ⟨kk, hkk, ek, h3, hro⟩
    · refine Or.inl ⟨(cb_row sg n a).2.1, ?_, q2⟩
      exact cb_rows_x q1
    · rcases hro with ⟨q1, q2⟩ | ⟨q1, q2, q3, d', T9, g1, g2, g3, g4, g5⟩
      · refine Or.inl ⟨(cb_row sg n a).2.1, ?_, q2⟩
        exact cb_rows_x q1
      · have h3' : a + 3 ≤ (cb_row sg n a).2.1 := h3.elim id (fun z => by rw [z] at q1; cases q1)
        have hR' := hR.put hkk g2 g3 g4 g5
        rw [Nat.or_assoc] at g1
        by_cases en : (cb_row sg n a).2.1 = n
        · rw [cb_rows_e hkk ek rfl q1 en]
          rw [en] at g1
          exact Or.inr ⟨f + 1, d', kk, T9, rfl, by omega, by omega, g1, hR'⟩
        · rw [cb_rows_s hkk ek rfl q1 en]
          rcases rows_go (n := n) (mw := mw) hc k (cb_row sg n a).2.1 (f + 1) (m ||| 2 ^ kk) (cb_upr R kk (cb_rwf (cb_row sg n a))) d' kk T9 (by omega) (by omega) (by omega) hR' with ⟨b, e1, e2, t, e3, e4⟩ | ⟨f', d2, k2, T2, e1, e2, e3, e4, e5⟩
          · exact Or.inl ⟨b, e1, e2, t, mg_tr g1 e3, e4⟩
          · exact Or.inr ⟨f', d2, k2, T2, e1, e2, e3, mg_tr g1 e4, e5⟩
theorem mg_go {a1 : Nat → Int32} {q : Nat} {s t : md_S} (h : mg a1 0 q s t) : md_go a1 0 q s t := by
  obtain ⟨k, rfl, h⟩ := h
  rw [Nat.zero_add]
  exact h
theorem rK.ext {z3 x2 : Int32} {g1 g1' : Nat → Nat → Int32} {a2 a2' : Nat → Int32} (hg : g1' = g1) (ha : ∀ j, j < 24 → a2' j = a2 j) (h : rK z3 x2 g1 a2) : rK z3 x2 g1' a2' := by
  obtain ⟨mw, m1, m2, m3, m4⟩ := h
  subst hg
  refine ⟨mw, m1, m2, m3, fun k hk => ⟨fun j hj => ?_, fun hb => ?_⟩⟩
  · rw [ha _ (by omega)]; exact (m4 k hk).1 j hj
  · rw [ha _ (by omega), ha _ (by omega)]; exact (m4 k hk).2 hb
theorem op_read (hI : cb_I cI cC cJ cII wc κ ra z sg G we pd) (hL : cb_L cO wc (κ 62) (z 5) (fx_e0 F) nl la lp li ll) (hκ : κ 0 = xa) (hμ : μ 0 = ma) (hS : rS z x sg G we pd nl li ll A B)  {n : Nat} (hn : n ≤ 120) (h0 : z 0 = nI n) (hx1 : x 1 = nI n) {mw : Nat} (hmw : mw < 64) (hx2 : x 2 = nI mw) {r : Int32} {w1 : va_W} (hc : (fun (r : Int32) (w1 : va_W) => r = (cb_rows sg n 40 0 0 0 (fun _ _ => 0)).1 ∧ ∃ (z' : Nat → Int32) (G' : Nat → Nat → Nat → Int32) (mb : Nat) (R : Nat → Nat → Int32), cb_rows sg n 40 0 0 0 (fun _ _ => 0) = (r, mb, R) ∧ (0 < r → z' 3 = z 3 ||| nI mb ∧ mb < 64 ∧ ∀ k, k < 6 → ∀ j, j < 4 → G' 1 k j = if mb.testBit k = true then R k j else G 1 k j) ∧ (¬ 0 < r → z' 3 = z 3 ∧ G' 1 = G 1) ∧ cb_I cI cC cJ cII w1 κ ra z' sg G' we pd ∧ cb_hi wc w1 ∧ z' 0 = 0 ∧ z' 4 = z 4 ∧ z' 5 = z 5 ∧ (∀ g, 2 ≤ g → G' g = G g)) r w1) {b : Int32} {wm9 : va_W} (hm : (fun (r : Int32) (w1 : va_W) => (∃ q, q ≤ n ∧ r = -1 - nI q ∧ ∃ s9, md_end (A 1) n (0, 0, 0, 0, mw, md_cp (A 2) 24) (some q) s9 ∧ ∃ (x9 : Nat → Int32) (A9 : Nat → Nat → Int32), md_I cI cJ cZ w1 μ x9 A9 B ∧ x9 0 = 0 ∧ x9 1 = 0 ∧ x9 2 = x 2 ∧ x9 4 = x 4 ∧ x9 5 = x 5 ∧ (∀ k, k ≠ 2 → A9 k = A k) ∧ ∀ j, j < 24 → A9 2 j = A 2 j) ∨ (∃ s9 : md_S, md_end (A 1) n (0, 0, 0, 0, mw, md_cp (A 2) 24) none s9 ∧ r = nI s9.1 ∧ s9.2.2.2.2.1 < 64 ∧ ∃ (x9 : Nat → Int32) (A9 : Nat → Nat → Int32), md_I cI cJ cZ w1 μ x9 A9 B ∧ x9 0 = 0 ∧ x9 1 = 0 ∧ x9 2 = nI s9.2.2.2.2.1 ∧ x9 4 = x 4 ∧ x9 5 = x 5 ∧ (∀ k, k ≠ 2 → A9 k = A k) ∧ ∀ j, j < 24 → A9 2 j = s9.2.2.2.2.2 (24 + j))) b wm9) : rQ F xa ma w1 wm9 0 ∧ r = b := by
  obtain ⟨hT, hK, hE, hD, hLL, hP⟩ := hS
  have hT' := hT
  obtain ⟨n', t1, t2, t3, t4, t5⟩ := hT'
  have en := nI_inj (by omega) (by omega) t2 h0
  subst en
  have hK' := hK
  obtain ⟨mw', m1, m2, m3, m4⟩ := hK'
  have em := nI_inj (by omega) (by omega) m3 hx2
  subst em
  obtain ⟨er, z', G', mb, R, hrow, hc1, hc2, hI9, hh, z0, z4, z5, hG⟩ := hc
  have hT0 : ∀ (y z9 : Int32), y = 0 → z9 = 0 → rT y z9 sg (A 1) := fun y z9 h1 h2 => ⟨0, by omega, h1, h2, fun j hj => absurd hj (Nat.not_lt_zero _), t5⟩
  have hgg : G' 2 = G 2 ∧ G' 3 = G 3 ∧ G' 4 = G 4 ∧ G' 5 = G 5 := ⟨hG 2 (by omega), hG 3 (by omega), hG 4 (by omega), hG 5 (by omega)⟩
  -- what the class found is the reading's end
  have hend : (∃ q, r = -1 - nI q ∧ q ≤ n' ∧ ∃ s, md_end sg n' (0, 0, 0, 0, mw', md_cp (A 2) 24) (some q) s) ∨ (∃ f' d' k' T', r = nI f' ∧ 1 ≤ f' ∧ f' ≤ 40 ∧ md_end sg n' (0, 0, 0, 0, mw', md_cp (A 2) 24) none (f', 0, d', k', mw' ||| mb, T') ∧ RT mb R T' (md_cp (A 2) 24)) := by
    rcases Nat.eq_zero_or_pos n' with q | q
    · subst q
      refine Or.inl ⟨0, ?_, Nat.le_refl _, (0, 0, 0, 0, mw', md_cp (A 2) 24), Or.inl ⟨rfl, rfl⟩⟩
      rw [er]
      rfl
    · rcases rows_go (n := n') (mw := mw') (T0 := md_cp (A 2) 24) t5 40 0 0 0 (fun _ _ => 0) 0 0 (md_cp (A 2) 24) q (by omega) (by omega) ⟨by omega, fun k hk => ⟨fun z => absurd z (by rw [Nat.zero_testBit]; decide), fun _ i hi => rfl⟩⟩ with ⟨b, e1, e2, t, e3, e4⟩ | ⟨f', d2, k2, T2, e1, e2, e3, e4, e5⟩
      · rw [Nat.or_zero] at e3
        refine Or.inl ⟨b, by rw [er, e1], e2, t, Or.inr ⟨q, ?_⟩⟩
        rcases e4 with ⟨w1, w2⟩ | ⟨w1, w2⟩
        · exact Or.inr (Or.inr ⟨b, w1, rfl, mg_go e3, w2⟩)
        · subst w1
          exact Or.inr (Or.inl ⟨rfl, mg_go e3, w2⟩)
      · rw [Nat.or_zero] at e4
        rw [hrow] at e4 e5
        exact Or.inr ⟨f', d2, k2, T2, by rw [er, e1], e2, e3, Or.inr ⟨q, Or.inl ⟨rfl, mg_go e4, rfl⟩⟩, e5⟩
  rcases hm with ⟨q9, hq9, eb, s9, hs9, x9, A9, hM, y0, y1, y2, y4, y5, hA9, hA2⟩ | ⟨s9, hs9, eb, hs64, x9, A9, hM, y0, y1, y2, y4, y5, hA9, hA2⟩
  · have hs9 := md_end_ext t4 hs9
    rcases hend with ⟨q, e1, e2, s, e3⟩ | ⟨f', d', k', T', -, -, -, e3, -⟩
    · have e := (md_end_det e3 hs9).1
      have e := Option.some.inj e
      subst e
      have hr0 : ¬ 0 < r := by rw [e1]; exact cb_neg (n := n') e2 rfl
      obtain ⟨c3, c4⟩ := hc2 hr0
      refine ⟨⟨κ, ra, z', sg, G', we, pd, nl, la, lp, li, ll, μ, x9, A9, B, hI9, by rw [z5]; exact hL.of hh, hM, hκ, hμ, ⟨?_, ?_, ?_, ?_, ?_, hP⟩, y0⟩, e1.trans eb.symm⟩
      · rw [hA9 1 (by decide)]; exact hT0 _ _ z0 y1
      · rw [c3, y2]; exact rK.ext c4 hA2 hK
      · rw [hgg.1]; exact rE.ext (A := A) z4 y4 (hA9 3 (by decide)) (hA9 4 (by decide)) (hA9 5 (by decide)) hE
      · rw [hgg.2.1, hgg.2.2.1, hgg.2.2.2]; exact rD.ext (A := A) (hA9 6 (by decide)) (hA9 7 (by decide)) (hA9 8 (by decide)) hD
      · exact rL.ext (A := A) (B := B) y5 (hA9 9 (by decide)) (hA9 10 (by decide)) (hA9 11 (by decide)) (hA9 12 (by decide)) (hA9 13 (by decide)) (hA9 16 (by decide)) (hA9 17 (by decide)) rfl hLL
    · have e := (md_end_det e3 hs9).1
      cases e
  · have hs9 := md_end_ext t4 hs9
    rcases hend with ⟨q, e1, e2, s, e3⟩ | ⟨f', d', k', T', e1, e2, e4, e3, hR⟩
    · have e := (md_end_det e3 hs9).1
      cases e
    · have e := (md_end_det e3 hs9).2 rfl
      subst e
      have hr0 : 0 < r := by rw [e1]; exact (nI_ltI (a := 0) (b := f') (by omega) (by omega)).mpr (by omega)
      obtain ⟨c3, c4, c5⟩ := hc1 hr0
      refine ⟨⟨κ, ra, z', sg, G', we, pd, nl, la, lp, li, ll, μ, x9, A9, B, hI9, by rw [z5]; exact hL.of hh, hM, hκ, hμ, ⟨?_, ?_, ?_, ?_, ?_, hP⟩, y0⟩, e1.trans eb.symm⟩
      · rw [hA9 1 (by decide)]; exact hT0 _ _ z0 y1
      · obtain ⟨o1, o2⟩ := cb_or2 mw' m1 mb c4
        refine ⟨mw' ||| mb, o2, by rw [c3, m2, o1], y2, fun k hk => ?_⟩
        obtain ⟨r1, r2⟩ := hR.2 k hk
        obtain ⟨n1, n2⟩ := m4 k hk
        have hcp : ∀ i, i < 4 → md_cp (A 2) 24 (24 + 4 * k + i) = A 2 (4 * k + i) := fun i hi => by
          unfold md_cp
          rw [if_pos (by omega), show 24 + 4 * k + i - 24 = 4 * k + i by omega]
        have hA2' : ∀ i, i < 4 → A9 2 (4 * k + i) = T' (24 + 4 * k + i) := fun i hi => by
          rw [hA2 _ (by omega), Nat.add_assoc]
        rw [Nat.testBit_or]
        by_cases w : mb.testBit k = true
        · obtain ⟨p1, ⟨p, p2, p3⟩, g, g1, g2⟩ := r1 w
          refine ⟨fun j hj => ?_, fun _ => ⟨⟨p, p2.1, p2.2, ?_⟩, g, g1, ?_⟩⟩
          · rw [c5 k hk j hj, if_pos w, w, Bool.or_true, if_pos rfl, hA2' j hj]
            exact (p1 j hj).symm
          · rw [hA2' 1 (by omega), p1 1 (by omega)]; exact p3
          · rw [hA2' 2 (by omega), p1 2 (by omega)]; exact g2
        · have wf : mb.testBit k = false := by simpa using w
          refine ⟨fun j hj => ?_, fun hb => ?_⟩
          · rw [c5 k hk j hj, if_neg w, wf, Bool.or_false, hA2' j hj, r2 w j hj, hcp j hj]
            exact n1 j hj
          · rw [wf, Bool.or_false] at hb
            rw [hA2' 1 (by omega), hA2' 2 (by omega), r2 w 1 (by omega), r2 w 2 (by omega), hcp 1 (by omega), hcp 2 (by omega)]
            exact n2 hb
      · rw [hgg.1]; exact rE.ext (A := A) z4 y4 (hA9 3 (by decide)) (hA9 4 (by decide)) (hA9 5 (by decide)) hE
      · rw [hgg.2.1, hgg.2.2.1, hgg.2.2.2]; exact rD.ext (A := A) (hA9 6 (by decide)) (hA9 7 (by decide)) (hA9 8 (by decide)) hD
      · exact rL.ext (A := A) (B := B) y5 (hA9 9 (by decide)) (hA9 10 (by decide)) (hA9 11 (by decide)) (hA9 12 (by decide)) (hA9 13 (by decide)) (hA9 16 (by decide)) (hA9 17 (by decide)) rfl hLL
end OPS
