/-! PURE: the reference's reading, sign by sign. A state: rows, state, digits, kind, kinds as bits, told -/
abbrev md_S : Type := Nat × Nat × Nat × Nat × Nat × (Nat → Int32)
def md_most (st : Nat) : Nat := if st = 3 ∨ st = 4 then 4 else 6
def md_bgN (c : Int32) : Nat := if c = 47 then 3 else if c = 45 then 4 else if c = 62 then 5 else 0
theorem md_bg_eq (c : Int32) : md_bg c = nI (md_bgN c) := by
  unfold md_bg md_bgN
  by_cases h1 : c = 47
  · rw [if_pos h1, if_pos h1]; rfl
  · rw [if_neg h1, if_neg h1]
    by_cases h2 : c = 45
    · rw [if_pos h2, if_pos h2]; rfl
    · rw [if_neg h2, if_neg h2]
      by_cases h3 : c = 62
      · rw [if_pos h3, if_pos h3]; rfl
      · rw [if_neg h3, if_neg h3]; rfl
theorem md_bgN_le (c : Int32) : md_bgN c ≤ 5 ∧ md_bgN c ≠ 1 := by
  unfold md_bgN
  split
  · decide
  · split
    · decide
    · split <;> decide
def md_t0 (T : Nat → Int32) (k : Nat) : Nat → Int32 := upd (upd (upd (upd T (24 + 4 * k) 0) (24 + 4 * k + 1) 1) (24 + 4 * k + 2) 0) (24 + 4 * k + 3) 0
def md_td (T : Nat → Int32) (q dg : Nat) (c : Int32) : Nat → Int32 := upd T q ((if dg = 0 then 0 else 10 * T q) + c - 48)
/-- a sign taken as a digit -/
def md_isD (c : Int32) (st dg : Nat) : Prop := 2 ≤ st ∧ (¬ c < 48 ∧ ¬ 57 < c) ∧ dg < md_most st
def md_whl (st dg kd : Nat) (T : Nat → Int32) : Prop := 2 ≤ st ∧ 0 < dg ∧ ¬ (st = 3 ∧ T (24 + 4 * kd + 1) = 0)
def md_isL (c : Int32) (st : Nat) : Prop := st = 0 ∧ ¬ c < 65 ∧ ¬ 70 < c
/-- one sign; which of the five ways, and the state behind it -/
def md_stp (c : Int32) (s s' : md_S) : Prop :=
  (md_isL c s.2.1 ∧ s' = (s.1, 2, 0, (c - 65).toNatClampNeg, s.2.2.2.2.1 ||| 2 ^ (c - 65).toNatClampNeg, md_t0 s.2.2.2.2.2 (c - 65).toNatClampNeg)) ∨
  (¬ md_isL c s.2.1 ∧ md_isD c s.2.1 s.2.2.1 ∧ s' = (s.1, s.2.1, s.2.2.1 + 1, s.2.2.2.1, s.2.2.2.2.1, md_td s.2.2.2.2.2 (24 + 4 * s.2.2.2.1 + s.2.1 - 2) s.2.2.1 c)) ∨
  (¬ md_isL c s.2.1 ∧ ¬ md_isD c s.2.1 s.2.2.1 ∧ md_whl s.2.1 s.2.2.1 s.2.2.2.1 s.2.2.2.2.2 ∧ s.2.1 < md_bgN c ∧ s' = (s.1, md_bgN c, 0, s.2.2.2.1, s.2.2.2.2.1, s.2.2.2.2.2)) ∨
  (¬ md_isL c s.2.1 ∧ ¬ md_isD c s.2.1 s.2.2.1 ∧ md_whl s.2.1 s.2.2.1 s.2.2.2.1 s.2.2.2.2.2 ∧ ¬ s.2.1 < md_bgN c ∧ c = 59 ∧ s' = (s.1 + 1, 0, s.2.2.1, s.2.2.2.1, s.2.2.2.2.1, s.2.2.2.2.2))
def md_wrg (c : Int32) (s : md_S) : Prop := ¬ md_isL c s.2.1 ∧ ¬ md_isD c s.2.1 s.2.2.1 ∧ (¬ md_whl s.2.1 s.2.2.1 s.2.2.2.1 s.2.2.2.2.2 ∨ (¬ s.2.1 < md_bgN c ∧ ¬ c = 59))
/-- from a state at a place the signs up to another place are taken -/
def md_go (a1 : Nat → Int32) : Nat → Nat → md_S → md_S → Prop
  | p, 0, s, s' => s' = s
  | p, k + 1, s, s' => ∃ t, md_go a1 p k s t ∧ md_stp (a1 (p + k)) t s'
/-- the reading's end: no wrong place, and the state; or the first wrong place -/
def md_end (a1 : Nat → Int32) (n : Nat) (s0 : md_S) (w : Option Nat) (s : md_S) : Prop :=
  (n = 0 ∧ w = some 0) ∨ (0 < n ∧ ((w = none ∧ md_go a1 0 n s0 s ∧ s.2.1 = 0) ∨ (w = some n ∧ md_go a1 0 n s0 s ∧ ¬ s.2.1 = 0) ∨ ∃ q, q < n ∧ w = some q ∧ md_go a1 0 q s0 s ∧ md_wrg (a1 q) s))
def md_cp (f : Nat → Int32) (i : Nat) : Nat → Int32 := fun j => if 24 ≤ j ∧ j < 24 + i then f (j - 24) else f j
theorem md_cp_0 {f : Nat → Int32} : md_cp f 0 = f := funext fun j => if_neg (by omega)
theorem md_cp_i {f : Nat → Int32} {i : Nat} (h : i < 24) : md_cp f i i = f i := if_neg (by omega)
theorem md_cp_s {f : Nat → Int32} {i : Nat} (h : i < 24) : upd (md_cp f i) (24 + i) (f i) = md_cp f (i + 1) := funext fun j => by
  unfold upd md_cp
  by_cases e : j = 24 + i
  · rw [if_pos e, if_pos (by omega), show j - 24 = i by omega]
  · rw [if_neg e]
    by_cases q : 24 ≤ j ∧ j < 24 + i
    · rw [if_pos q, if_pos (by omega)]
    · rw [if_neg q, if_neg (by omega)]
def md_cb (T : Nat → Int32) (i : Nat) : Nat → Int32 := fun j => if j < i then T (24 + j) else T j
theorem md_cb_0 {T : Nat → Int32} : md_cb T 0 = T := funext fun j => if_neg (Nat.not_lt_zero j)
theorem md_cb_i {T : Nat → Int32} {i : Nat} (h : i < 24) : md_cb T i (24 + i) = T (24 + i) := if_neg (by omega)
theorem md_cb_s {T : Nat → Int32} {i : Nat} : upd (md_cb T i) i (T (24 + i)) = md_cb T (i + 1) := funext fun j => by
  unfold upd md_cb
  by_cases e : j = i
  · rw [if_pos e, if_pos (by omega), e]
  · rw [if_neg e]
    by_cases q : j < i
    · rw [if_pos q, if_pos (by omega)]
    · rw [if_neg q, if_neg (by omega)]
theorem cb_upr_upr {α : Type} {f : Nat → α} {j : Nat} {a b : α} : cb_upr (cb_upr f j a) j b = cb_upr f j b := funext fun k => by
  unfold cb_upr
  by_cases e : k = j
  · rw [if_pos e, if_pos e]
  · rw [if_neg e, if_neg e, if_neg e]
theorem md_let {c : Int32} (h1 : ¬ c < 65) (h2 : ¬ 70 < c) : ∃ k, k < 6 ∧ c - 65 = nI k := by
  have h0 : ¬ c < 0 := fun z => h1 (by simp only [Int32.lt_iff_toInt_lt] at z ⊢; have e1 : (0 : Int32).toInt = 0 := rfl; have e2 : (65 : Int32).toInt = 65 := rfl; omega)
  obtain ⟨k, hk, rfl⟩ := nI_of2 (M := 70) (n := 70) (by decide) h0 (Int32.not_lt.mp h2)
  have h65 : 65 ≤ k := by
    rcases Nat.lt_or_ge k 65 with h | h
    · exact absurd ((nI_ltI (a := k) (b := 65) (by omega) (by omega)).mpr h) h1
    · exact h
  refine ⟨k - 65, by omega, ?_⟩
  have e : ∀ q, q < 71 → 65 ≤ q → nI q - 65 = nI (q - 65) := by decide +kernel
  exact e k (by omega) h65
theorem md_t0_lo {T : Nat → Int32} {k j : Nat} (h : j < 24) : md_t0 T k j = T j := by
  unfold md_t0 upd
  rw [if_neg (by omega), if_neg (by omega), if_neg (by omega), if_neg (by omega)]
theorem md_td_lo {T : Nat → Int32} {q dg j : Nat} {c : Int32} (h : ¬ j = q) : md_td T q dg c j = T j := by
  unfold md_td upd
  rw [if_neg h]
theorem md_2le {st : Nat} (h : ¬ nI st < 2) (hs : st < 2 ^ 31 := by omega) : 2 ≤ st := by
  rcases Nat.lt_or_ge st 2 with z | z
  · exact absurd ((nI_ltI (b := 2) hs (by omega)).mpr z) h
  · exact z
theorem md_at {kd st : Nat} (h : 2 ≤ st) : (24 : Int32) + 4 * nI kd + nI st - 2 = nI (24 + 4 * kd + st - 2) := by
  obtain ⟨q, rfl⟩ : ∃ q, st = q + 2 := ⟨st - 2, by omega⟩
  rw [show (24 : Int32) = nI 24 from rfl, show (4 : Int32) = nI 4 from rfl, md_mul, nI_add, nI_add, show 24 + 4 * kd + (q + 2) = (24 + 4 * kd + q) + 2 by omega, ← nI_add, show (nI 2 : Int32) = 2 from rfl, Int32.add_sub_cancel, show 24 + 4 * kd + q + 2 - 2 = 24 + 4 * kd + q by omega]
