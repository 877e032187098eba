/-! PURE: what the class computes -/
def cb_quo (x y : Int64) : Int64 := if y < 1 then 0 else x / y
def cb_bu (x y : Int32) : Int32 := (cb_quo (x - 1).toInt64 y.toInt64).toInt32 + 1
def cb_rhu (x y : Int64) : Int64 := if 2 * (x - cb_quo x y * y) < y then cb_quo x y else cb_quo x y + 1
def cb_cents (tr : Nat → Int32) (kp ko ch : Int32) : Int64 := if ch = 0 then 0 else if (tr 3).toInt64 < cb_rhu ((tr 0).toInt64 * ch.toInt64 * kp.toInt64) ((tr 1).toInt64 * ko.toInt64) then cb_rhu ((tr 0).toInt64 * ch.toInt64 * kp.toInt64) ((tr 1).toInt64 * ko.toInt64) else (tr 3).toInt64
theorem cb_quo_ge {x y : Int64} (h : 0 ≤ lg_cmp y 1) : cb_quo x y = x / y := if_neg (fun z => by
  have := (lg_cmp_ge y 1).mp h
  exact absurd z (Int64.not_lt.mpr this))
theorem cb_quo_lt {x y : Int64} (h : ¬ 0 ≤ lg_cmp y 1) : cb_quo x y = 0 := if_pos (by
  rw [lg_cmp_ge] at h
  exact Int64.not_le.mp h)
theorem gx_lne {y : Int64} (h : 0 ≤ lg_cmp y 1) : ¬ y = 0 := fun z => by
  subst z
  exact absurd h (by decide)
theorem cb_rhu_lt {x y : Int64} (h : lg_cmp (2 * (x - cb_quo x y * y)) y < 0) : cb_quo x y = cb_rhu x y := (if_pos ((lg_cmp_lt _ _).mp h)).symm
theorem cb_rhu_ge {x y : Int64} (h : ¬ lg_cmp (2 * (x - cb_quo x y * y)) y < 0) : cb_quo x y + 1 = cb_rhu x y := (if_neg (fun z => h ((lg_cmp_lt _ _).mpr z))).symm
theorem cb_cents_0 {tr : Nat → Int32} {kp ko ch : Int32} (h : ch = 0) : (0 : Int64) = cb_cents tr kp ko ch := (if_pos h).symm
theorem cb_cents_1 {tr : Nat → Int32} {kp ko ch : Int32} {r : Int64} (h : ¬ ch = 0) (hr : r = cb_rhu ((tr 0).toInt64 * ch.toInt64 * kp.toInt64) ((tr 1).toInt64 * ko.toInt64)) : (if (tr 3).toInt64 < r then r else (tr 3).toInt64) = cb_cents tr kp ko ch := by
  subst hr
  exact (if_neg h).symm
theorem gx_rnk {x : Int32} (h0 : ¬ x < 0) (h1 : ¬ 1000000 < x) : ∃ k : Nat, k ≤ 1000000 ∧ x = nI k := nI_of2 (M := 1000000) (by decide) h0 (Int32.not_lt.mp h1)
/-- how many of the first n are so -/
def cb_cnt (q : Nat → Bool) : Nat → Nat
  | 0 => 0
  | n + 1 => cb_cnt q n + (if q n then 1 else 0)
theorem cb_cnt_n {q : Nat → Bool} {n : Nat} (h : q n = false) : cb_cnt q (n + 1) = cb_cnt q n := by simp [cb_cnt, h]
theorem cb_cnt_s {q : Nat → Bool} {n : Nat} (h : q n = true) : cb_cnt q (n + 1) = cb_cnt q n + 1 := by simp [cb_cnt, h]
theorem cb_cnt_le (q : Nat → Bool) : ∀ n, cb_cnt q n ≤ n
  | 0 => Nat.le_refl 0
  | n + 1 => by
    have := cb_cnt_le q n
    simp only [cb_cnt]
    split <;> omega
theorem gx_nlt {a b : Nat} (h : ¬ nI a ≤ nI b) (hb : a < 2 ^ 31 ∧ b < 2 ^ 31 := by omega) : b < a := by
  rw [nI_leI hb.1 hb.2] at h
  omega
theorem gx_ngt {a b : Nat} (h : nI a ≤ nI b) (hb : a < 2 ^ 31 ∧ b < 2 ^ 31 := by omega) : a ≤ b := (nI_leI hb.1 hb.2).mp h
theorem gx_ltn {a b : Nat} (h : nI a < nI b) (hb : a < 2 ^ 31 ∧ b < 2 ^ 31 := by omega) : a < b := (nI_ltI hb.1 hb.2).mp h
theorem gx_nltn {a b : Nat} (h : ¬ nI a < nI b) (hb : a < 2 ^ 31 ∧ b < 2 ^ 31 := by omega) : ¬ a < b := fun z => h ((nI_ltI hb.1 hb.2).mpr z)
/-- the sign at a place of the text, 0 behind its end -/
def cb_nx (sg : Nat → Int32) (n a : Nat) : Int32 := if a < n then sg a else 0
/-- the digits from a place on: the place behind them, the number -/
def cb_num (sg : Nat → Int32) (n : Nat) : Nat → Nat → Int32 → Nat × Int32
  | 0, a, v => (a, v)
  | k + 1, a, v => if cb_nx sg n a < 48 ∨ 57 < cb_nx sg n a then (a, v) else cb_num sg n k (a + 1) (v * 10 + (cb_nx sg n a - 48))
theorem cb_sign {p0 : Int32} (h1 : ¬ p0 < 33) (h2 : ¬ 126 < p0) : ∃ k : Nat, 33 ≤ k ∧ k ≤ 126 ∧ p0 = nI k := by
  have h0 : ¬ p0 < 0 := fun z => h1 (by simp only [Int32.lt_iff_toInt_lt] at z ⊢; have e1 : (0 : Int32).toInt = 0 := rfl; have e2 : (33 : Int32).toInt = 33 := rfl; omega)
  obtain ⟨k, hk, rfl⟩ := nI_of2 (M := 126) (n := 126) (by decide) h0 (Int32.not_lt.mp h2)
  exact ⟨k, by
    rcases Nat.lt_or_ge k 33 with h | h
    · exact absurd ((nI_ltI (a := k) (b := 33) (by omega) (by omega)).mpr h) h1
    · exact h, hk, rfl⟩
theorem cb_i2c {p0 : Int32} (h1 : ¬ p0 < 33) (h2 : ¬ 126 < p0) : (p0.toUInt32 % 65536).toInt32 = p0 := by
  obtain ⟨k, -, hk, rfl⟩ := cb_sign h1 h2
  rw [pk_char, pk_tn (by omega), Nat.mod_eq_of_lt (by omega)]
theorem cb_nar {p0 : Int32} (h1 : ¬ p0 < 33) (h2 : ¬ 126 < p0) : vp_nar .char p0 = p0 := by
  have := cb_i2c h1 h2
  have h3 := pk_vc p0
  rw [this] at h3
  exact h3
theorem cb_fitc {p0 : Int32} (h1 : ¬ p0 < 33) (h2 : ¬ 126 < p0) : narrow .char (.int p0) = .int p0 := by
  have h := pk_nc p0
  rw [cb_i2c h1 h2] at h
  exact h
theorem cb_us {z : Nat → Int32} {k : Nat} {v : Int32} (h : z k = v) : upd z k v = z := funext fun j => by
  unfold upd
  by_cases e : j = k
  · rw [if_pos e, e, h]
  · rw [if_neg e]
theorem cb_uu {z : Nat → Int32} {k : Nat} {v w : Int32} : upd (upd z k v) k w = upd z k w := funext fun j => by
  unfold upd
  by_cases e : j = k
  · rw [if_pos e, if_pos e]
  · rw [if_neg e, if_neg e, if_neg e]
theorem cb_num_s {sg : Nat → Int32} {n k a : Nat} {v : Int32} (h : ¬ (cb_nx sg n a < 48 ∨ 57 < cb_nx sg n a)) : cb_num sg n (k + 1) a v = cb_num sg n k (a + 1) (v * 10 + (cb_nx sg n a - 48)) := if_neg h
theorem cb_num_e {sg : Nat → Int32} {n k a : Nat} {v : Int32} (h : cb_nx sg n a < 48 ∨ 57 < cb_nx sg n a) : cb_num sg n (k + 1) a v = (a, v) := if_pos h
theorem gx_npos {d : Nat} (h : ¬ nI d ≤ 0) : 0 < d := by
  rcases Nat.eq_zero_or_pos d with q | q
  · subst q; exact absurd (show nI 0 ≤ 0 by decide) h
  · exact q
theorem cb_uc {z : Nat → Int32} {x y : Int32} : upd (upd z 1 x) 2 y = upd (upd z 2 y) 1 x := funext fun j => by
  unfold upd
  by_cases e : j = 1
  · subst e; simp
  · simp [e]
theorem cb_gg {G : Nat → Nat → Nat → Int32} {g i : Nat} {f f2 : Nat → Int32} : cb_upg (cb_upg G g i f) g i f2 = cb_upg G g i f2 := funext fun a => funext fun b => by
  unfold cb_upg
  by_cases e : a = g ∧ b = i
  · rw [if_pos e, if_pos e]
  · rw [if_neg e, if_neg e, if_neg e]
/-- a row from a place on: right or not, the place behind it (or the first wrong one), RATE, PER, FREE, LEAST -/
abbrev cb_RW : Type := Bool × Nat × Int32 × Int32 × Int32 × Int32
def cb_row5 (sg : Nat → Int32) (n b : Nat) (r p f l : Int32) : cb_RW := if cb_nx sg n b = 59 then (true, b + 1, r, p, f, l) else (false, b, 0, 0, 0, 0)
def cb_row4 (sg : Nat → Int32) (n b : Nat) (r p f : Int32) : cb_RW := if cb_nx sg n b = 62 then (if (cb_num sg n 6 (b + 1) 0).1 = b + 1 then (false, b + 1, 0, 0, 0, 0) else cb_row5 sg n (cb_num sg n 6 (b + 1) 0).1 r p f (cb_num sg n 6 (b + 1) 0).2) else cb_row5 sg n b r p f 0
def cb_row3 (sg : Nat → Int32) (n b : Nat) (r p : Int32) : cb_RW := if cb_nx sg n b = 45 then (if (cb_num sg n 4 (b + 1) 0).1 = b + 1 then (false, b + 1, 0, 0, 0, 0) else cb_row4 sg n (cb_num sg n 4 (b + 1) 0).1 r p (cb_num sg n 4 (b + 1) 0).2) else cb_row4 sg n b r p 0
def cb_row2 (sg : Nat → Int32) (n b : Nat) (r : Int32) : cb_RW := if cb_nx sg n b = 47 then (if (cb_num sg n 4 (b + 1) 0).1 = b + 1 ∨ (cb_num sg n 4 (b + 1) 0).2 ≤ 0 then (false, (cb_num sg n 4 (b + 1) 0).1, 0, 0, 0, 0) else cb_row3 sg n (cb_num sg n 4 (b + 1) 0).1 r (cb_num sg n 4 (b + 1) 0).2) else cb_row3 sg n b r 1
def cb_row (sg : Nat → Int32) (n a : Nat) : cb_RW := if cb_nx sg n a - 65 < 0 ∨ nI 6 ≤ cb_nx sg n a - 65 then (false, a, 0, 0, 0, 0) else if (cb_num sg n 6 (a + 1) 0).1 = a + 1 then (false, a + 1, 0, 0, 0, 0) else cb_row2 sg n (cb_num sg n 6 (a + 1) 0).1 (cb_num sg n 6 (a + 1) 0).2
theorem cb_num_le (sg : Nat → Int32) (n : Nat) : ∀ (k a : Nat) (v : Int32), a ≤ n → a ≤ (cb_num sg n k a v).1 ∧ (cb_num sg n k a v).1 ≤ n
  | 0, a, v, h => ⟨Nat.le_refl _, h⟩
  | k + 1, a, v, h => by
    by_cases q : cb_nx sg n a < 48 ∨ 57 < cb_nx sg n a
    · rw [cb_num_e q]; exact ⟨Nat.le_refl _, h⟩
    · rw [cb_num_s q]
      have hlt : a < n := by
        rcases Nat.lt_or_ge a n with h1 | h1
        · exact h1
        · exact absurd (Or.inl (by rw [cb_nx, if_neg (by omega)]; decide)) q
      have := cb_num_le sg n k (a + 1) (v * 10 + (cb_nx sg n a - 48)) hlt
      omega
theorem cb_nx_lt {sg : Nat → Int32} {n a : Nat} {c : Int32} (hc : ¬ c = 0) (h : cb_nx sg n a = c) : a < n := by
  rcases Nat.lt_or_ge a n with h1 | h1
  · exact h1
  · rw [cb_nx, if_neg (by omega)] at h
    exact absurd h.symm hc
theorem cb_gk_u {G : Nat → Nat → Nat → Int32} {i : Nat} {f : Nat → Int32} : ∀ g, g ≠ 0 → cb_upg G 0 i f g = G g := fun g hg => funext fun j => by simp [cb_upg, hg]
theorem cb_kd_ok {x : Int32} {kk : Nat} (hk : kk < 6) (h : x = nI kk) : ¬ (x < 0 ∨ nI 6 ≤ x) := by
  subst h
  intro z
  rcases z with z | z
  · exact nI_pos (by omega) z
  · exact nI_ge hk (by omega) z
theorem cb_nx_kd {sg : Nat → Int32} {n a kk : Nat} (hk : kk < 6) (h : cb_nx sg n a - 65 = nI kk) : a < n := by
  rcases Nat.lt_or_ge a n with h1 | h1
  · exact h1
  · rw [cb_nx, if_neg (by omega)] at h
    exact absurd (Or.inl (by decide)) (cb_kd_ok (x := 0 - 65) hk h)
theorem cb_or : ∀ m, m < 64 → ∀ k, k < 6 → nI m ||| ((1 : Int32) <<< (nI k &&& 31)) = nI (m ||| 2 ^ k) ∧ m ||| 2 ^ k < 64 := by decide +kernel
theorem cb_bit : ∀ m, m < 64 → ∀ k, k < 6 → (((nI m >>> (nI k &&& 31)) &&& 1 = 1) ↔ m.testBit k = true) := by decide +kernel
theorem cb_or2 : ∀ m, m < 64 → ∀ k, k < 64 → nI m ||| nI k = nI (m ||| k) ∧ m ||| k < 64 := by decide +kernel
theorem cb_tb {m k j : Nat} : (m ||| 2 ^ k).testBit j = (m.testBit j || decide (k = j)) := by
  rw [Nat.testBit_or, Nat.testBit_two_pow]
/-- a row's four parts -/
def cb_rwf (q : cb_RW) : Nat → Int32 := fun j => if j = 0 then q.2.2.1 else if j = 1 then q.2.2.2.1 else if j = 2 then q.2.2.2.2.1 else q.2.2.2.2.2
theorem cb_rwf_eq {b : Nat} {rf : Nat → Int32} {t : Bool} : ∀ j, j < 4 → cb_rwf (t, b, rf 0, rf 1, rf 2, rf 3) j = rf j := fun j hj => by
  rcases (show j = 0 ∨ j = 1 ∨ j = 2 ∨ j = 3 by omega) with rfl | rfl | rfl | rfl <;> rfl
/-- the rows of a text, from a place on: the answer; which kinds, as bits; their rows -/
def cb_rows (sg : Nat → Int32) (n : Nat) : Nat → Nat → Nat → Nat → (Nat → Nat → Int32) → Int32 × Nat × (Nat → Nat → Int32)
  | 0, a, _, _, _ => (-1 - nI a, 0, fun _ _ => 0)
  | k + 1, a, f, m, R =>
    if (cb_row sg n a).1 = false then (-1 - nI (cb_row sg n a).2.1, 0, fun _ _ => 0)
    else if (cb_row sg n a).2.1 = n then (nI (f + 1), m ||| 2 ^ (cb_nx sg n a - 65).toNatClampNeg, cb_upr R (cb_nx sg n a - 65).toNatClampNeg (cb_rwf (cb_row sg n a)))
    else cb_rows sg n k (cb_row sg n a).2.1 (f + 1) (m ||| 2 ^ (cb_nx sg n a - 65).toNatClampNeg) (cb_upr R (cb_nx sg n a - 65).toNatClampNeg (cb_rwf (cb_row sg n a)))
theorem cb_rows_f {sg : Nat → Int32} {n k a f m b : Nat} {R : Nat → Nat → Int32} (h : cb_row sg n a = (false, b, 0, 0, 0, 0)) : cb_rows sg n (k + 1) a f m R = (-1 - nI b, 0, fun _ _ => 0) := by
  show (if (cb_row sg n a).1 = false then _ else _) = _
  rw [h]; rfl
theorem cb_rows_e {sg : Nat → Int32} {n k a f m kk : Nat} {R : Nat → Nat → Int32} {q : cb_RW} (hk : kk < 6) (hkd : cb_nx sg n a - 65 = nI kk) (h : cb_row sg n a = q) (ht : q.1 = true) (hn : q.2.1 = n) : cb_rows sg n (k + 1) a f m R = (nI (f + 1), m ||| 2 ^ kk, cb_upr R kk (cb_rwf q)) := by
  show (if (cb_row sg n a).1 = false then _ else _) = _
  rw [h, hkd, nI_clamp (by omega), if_neg (by rw [ht]; decide), if_pos hn]
theorem cb_rows_s {sg : Nat → Int32} {n k a f m kk : Nat} {R : Nat → Nat → Int32} {q : cb_RW} (hk : kk < 6) (hkd : cb_nx sg n a - 65 = nI kk) (h : cb_row sg n a = q) (ht : q.1 = true) (hn : ¬ q.2.1 = n) : cb_rows sg n (k + 1) a f m R = cb_rows sg n k q.2.1 (f + 1) (m ||| 2 ^ kk) (cb_upr R kk (cb_rwf q)) := by
  show (if (cb_row sg n a).1 = false then _ else _) = _
  rw [h, hkd, nI_clamp (by omega), if_neg (by rw [ht]; decide), if_neg hn]
/-- the text's rows hold what the reading found, where a kind's bit is set -/
def cb_rk (m : Nat) (R : Nat → Nat → Int32) (G : Nat → Nat → Nat → Int32) : Prop := ∀ k, k < 6 → m.testBit k = true → ∀ j, j < 4 → G 0 k j = R k j
theorem cb_rk.put {m kk b : Nat} {R : Nat → Nat → Int32} {G : Nat → Nat → Nat → Int32} {rf : Nat → Int32} {t : Bool} (h : cb_rk m R G) : cb_rk (m ||| 2 ^ kk) (cb_upr R kk (cb_rwf (t, b, rf 0, rf 1, rf 2, rf 3))) (cb_upg G 0 kk rf) := by
  intro k hk hb j hj
  by_cases e : k = kk
  · subst e
    rw [cb_upg_s]
    simp only [cb_upr, if_true]
    exact (cb_rwf_eq j hj).symm
  · rw [cb_upg_n (fun z => e z.2)]
    simp only [cb_upr, if_neg e]
    rw [cb_tb] at hb
    have : m.testBit k = true := by
      rcases Bool.or_eq_true_iff.mp hb with q | q
      · exact q
      · exact absurd (of_decide_eq_true q).symm e
    exact h k hk this j hj
theorem gx_eqn {a b : Nat} (h : nI a = nI b) (hb : a < 2 ^ 31 ∧ b < 2 ^ 31 := by omega) : a = b := (nI_eq hb.1 hb.2).mp h
theorem cb_neg {n b : Nat} {x : Int32} (hb : b ≤ n) (hx : x = nI b) (hn : n ≤ 120 := by omega) : ¬ 0 < -1 - x := by
  subst hx
  rw [Int32.lt_iff_toInt_lt]
  have e : ∀ b, b ≤ 120 → (-1 - nI b).toInt < 0 := by decide +kernel
  have := e b (by omega)
  have e0 : (0 : Int32).toInt = 0 := rfl
  omega
theorem cb_gk1 {G : Nat → Nat → Nat → Int32} {i : Nat} {f : Nat → Int32} : ∀ g, g ≠ 1 → cb_upg G 1 i f g = G g := fun g hg => funext fun j => by simp [cb_upg, hg]
theorem cb_tk_s {G G' : Nat → Nat → Nat → Int32} {m i : Nat} (hG : ∀ g, g ≠ 1 → G' g = G g) (h : ∀ k, G' 1 k = if k < i ∧ m.testBit k = true then va_cpy (G 0 k) (G 1 k) 0 0 4 else G 1 k) (hb : m.testBit i = true) : ∀ k, cb_upg G' 1 i (va_cpy (G' 0 i) (G' 1 i) 0 0 4) 1 k = if k < i + 1 ∧ m.testBit k = true then va_cpy (G 0 k) (G 1 k) 0 0 4 else G 1 k := by
  intro k
  by_cases e : k = i
  · subst e
    rw [cb_upg_s, if_pos ⟨by omega, hb⟩, hG 0 (by decide), h k, if_neg (fun q => absurd q.1 (by omega))]
  · rw [cb_upg_n (fun q => e q.2), h k]
    have : (k < i + 1 ∧ m.testBit k = true) ↔ (k < i ∧ m.testBit k = true) := ⟨fun q => ⟨by omega, q.2⟩, fun q => ⟨by omega, q.2⟩⟩
    simp only [this]
theorem cb_tk_n {G G' : Nat → Nat → Nat → Int32} {m i : Nat} (h : ∀ k, G' 1 k = if k < i ∧ m.testBit k = true then va_cpy (G 0 k) (G 1 k) 0 0 4 else G 1 k) (hb : ¬ m.testBit i = true) : ∀ k, G' 1 k = if k < i + 1 ∧ m.testBit k = true then va_cpy (G 0 k) (G 1 k) 0 0 4 else G 1 k := by
  intro k
  rw [h k]
  have : (k < i + 1 ∧ m.testBit k = true) ↔ (k < i ∧ m.testBit k = true) := ⟨fun q => ⟨by
    rcases Nat.lt_or_ge k i with z | z
    · exact z
    · have : k = i := by omega
      subst this
      exact absurd q.2 hb, q.2⟩, fun q => ⟨by omega, q.2⟩⟩
  simp only [this]
theorem cb_tk_e {G : Nat → Nat → Nat → Int32} {m k j : Nat} (hk : k < 6) (hj : j < 4) : (if k < 6 ∧ m.testBit k = true then va_cpy (G 0 k) (G 1 k) 0 0 4 else G 1 k) j = if m.testBit k = true then G 0 k j else G 1 k j := by
  by_cases q : m.testBit k = true
  · rw [if_pos ⟨hk, q⟩, if_pos q, pk_cpy_in (by omega) (by omega)]
    simp
  · rw [if_neg (fun z => q z.2), if_neg q]
theorem gx_pos9 {x : Int32} (h : ¬ x ≤ 0) : 0 < x := Int32.not_le.mp h
theorem gx_neg9 {x : Int32} (h : x ≤ 0) : ¬ 0 < x := Int32.not_lt.mpr h
/-- a line's parts by their numbers -/
def cb_part (fi : Nat → Int32) (fl : Nat → Int64) (k : Nat) : Int64 := match k with
  | 0 => (fi 0).toInt64
  | 1 => (fi 1).toInt64
  | 2 => (fi 2).toInt64
  | 3 => (fi 3).toInt64
  | 4 => fl 0
  | 5 => (fi 4).toInt64
  | 6 => if fi 6 = 0 then 0 else 1
  | 7 => if fi 5 = 0 then 0 else 1
  | _ => fl 1
/-- what is owed: the undisputed lines of a call on top of x -/
def cb_ow (k : Int32) (li : Nat → Nat → Int32) (ll : Nat → Nat → Int64) (x : Int64) : Nat → Int64
  | 0 => x
  | n + 1 => if li n 0 = k ∧ li n 6 = 0 then cb_ow k li ll x n + ll n 0 else cb_ow k li ll x n
theorem cb_ow_s {k : Int32} {li : Nat → Nat → Int32} {ll : Nat → Nat → Int64} {x : Int64} {n : Nat} (h : li n 0 = k ∧ li n 6 = 0) : cb_ow k li ll x (n + 1) = cb_ow k li ll x n + ll n 0 := if_pos h
theorem cb_ow_n {k : Int32} {li : Nat → Nat → Int32} {ll : Nat → Nat → Int64} {x : Int64} {n : Nat} (h : ¬ (li n 0 = k ∧ li n 6 = 0)) : cb_ow k li ll x (n + 1) = cb_ow k li ll x n := if_neg h
