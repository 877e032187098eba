/-! PURE, third part: the lines of a bill -/
def cb_bs (q : Nat → Bool) (fi : Nat → Nat → Int32) (fl : Nat → Nat → Int64) (nl : Nat) (li : Nat → Nat → Int32) (ll : Nat → Nat → Int64) : Nat → Nat × (Nat → Nat → Int32) × (Nat → Nat → Int64)
  | 0 => (nl, li, ll)
  | i + 1 => if q i = true then ((cb_bs q fi fl nl li ll i).1 + 1, cb_upr (cb_bs q fi fl nl li ll i).2.1 (cb_bs q fi fl nl li ll i).1 (fi i), cb_upr (cb_bs q fi fl nl li ll i).2.2 (cb_bs q fi fl nl li ll i).1 (fl i)) else cb_bs q fi fl nl li ll i
section CBS
variable {q : Nat → Bool} {fi : Nat → Nat → Int32} {fl : Nat → Nat → Int64} {nl : Nat} {li : Nat → Nat → Int32} {ll : Nat → Nat → Int64}
theorem cb_bs_s {i : Nat} (h : q i = true) : cb_bs q fi fl nl li ll (i + 1) = ((cb_bs q fi fl nl li ll i).1 + 1, cb_upr (cb_bs q fi fl nl li ll i).2.1 (cb_bs q fi fl nl li ll i).1 (fi i), cb_upr (cb_bs q fi fl nl li ll i).2.2 (cb_bs q fi fl nl li ll i).1 (fl i)) := if_pos h
theorem cb_bs_n {i : Nat} (h : ¬ q i = true) : cb_bs q fi fl nl li ll (i + 1) = cb_bs q fi fl nl li ll i := if_neg h
theorem cb_bs_1 : ∀ i, (cb_bs q fi fl nl li ll i).1 = nl + cb_cnt q i
  | 0 => rfl
  | i + 1 => by
    by_cases h : q i = true
    · rw [cb_bs_s h, cb_cnt_s h]
      show (cb_bs q fi fl nl li ll i).1 + 1 = _
      rw [cb_bs_1 i]
      omega
    · rw [cb_bs_n h, cb_cnt_n (by cases hq : q i <;> simp_all), cb_bs_1 i]
theorem cb_cnt_mono : ∀ {i n : Nat}, i ≤ n → cb_cnt q i ≤ cb_cnt q n := by
  intro i n h
  induction n with
  | zero => rw [show i = 0 by omega]; exact Nat.le_refl _
  | succ n ih =>
    rcases Nat.lt_or_ge i (n + 1) with z | z
    · have := ih (by omega)
      simp only [cb_cnt]
      omega
    · rw [show i = n + 1 by omega]; exact Nat.le_refl _
theorem cb_cnt_lt {i n : Nat} (h : i < n) (hq : q i = true) : cb_cnt q i < cb_cnt q n := by
  have h1 := cb_cnt_mono (q := q) (show i + 1 ≤ n by omega)
  rw [cb_cnt_s hq] at h1
  omega
end CBS
/-- the kinds that wait; a kind's line -/
def cb_qq (G : Nat → Nat → Nat → Int32) (k : Nat) : Nat → Bool := fun j => decide (¬ G 2 k j ≤ 0)
def cb_chg (G : Nat → Nat → Nat → Int32) (k j : Nat) : Int32 := if (0 : Int32) < G 2 k j - G 1 j 2 then G 2 k j - G 1 j 2 else 0
def cb_bfi (z3 : Int32) (G : Nat → Nat → Nat → Int32) (k : Nat) : Nat → Nat → Int32 := fun j => cb_mli (nI k) (nI j) (G 2 k j) (cb_chg G k j) (-1) (if (z3 >>> (nI j &&& 31)) &&& 1 = 1 then 0 else 1)
def cb_bfl (G : Nat → Nat → Nat → Int32) (k : Nat) : Nat → Nat → Int64 := fun j _ => cb_cents (G 1 j) (G 4 k j) (G 5 k j) (cb_chg G k j)
def cb_BS (z3 : Int32) (G : Nat → Nat → Nat → Int32) (k nl : Nat) (li : Nat → Nat → Int32) (ll : Nat → Nat → Int64) (i : Nat) : Nat × (Nat → Nat → Int32) × (Nat → Nat → Int64) := cb_bs (cb_qq G k) (cb_bfi z3 G k) (cb_bfl G k) nl li ll i
