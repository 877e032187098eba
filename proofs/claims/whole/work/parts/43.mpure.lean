/-! PURE, of the reference -/
theorem md_unit1 {j : Nat} (h2 : ¬ j = 2) (h3 : ¬ j = 3) (h4 : ¬ j = 4) : fx_unit j = 1 := by
  unfold fx_unit
  rw [if_neg h2, if_neg h3, if_neg h4]
/-- the part of a row that a sign begins -/
def md_bg (c : Int32) : Int32 := if c = 47 then 3 else if c = 45 then 4 else if c = 62 then 5 else 0
theorem md_34 {p : Int32} (h : nI 4 ≤ p) : 3 < p := by
  rw [Int32.le_iff_toInt_le] at h
  rw [Int32.lt_iff_toInt_lt]
  have e1 : (nI 4).toInt = 4 := by decide
  have e2 : (3 : Int32).toInt = 3 := by decide
  omega
theorem md_up3 {A : Nat → Nat → Int32} {a b c a' b' c' : Nat → Int32} : cb_upr (cb_upr (cb_upr (cb_upr (cb_upr (cb_upr A 3 a) 4 b) 5 c) 3 a') 4 b') 5 c' = cb_upr (cb_upr (cb_upr A 3 a') 4 b') 5 c' := funext fun k => by
  unfold cb_upr
  by_cases h5 : k = 5
  · simp [h5]
  · by_cases h4 : k = 4
    · simp [h4]
    · by_cases h3 : k = 3
      · simp [h3]
      · simp [h3, h4, h5]
theorem md_up0 {A : Nat → Nat → Int32} {c : Int32} : cb_upr (cb_upr (cb_upr A 3 (md_te c (A 3) (A 4) (A 5) 0).2.1) 4 (md_te c (A 3) (A 4) (A 5) 0).2.2.1) 5 (md_te c (A 3) (A 4) (A 5) 0).2.2.2 = A := funext fun k => by
  show cb_upr (cb_upr (cb_upr A 3 (A 3)) 4 (A 4)) 5 (A 5) k = A k
  unfold cb_upr
  by_cases h5 : k = 5
  · simp [h5]
  · by_cases h4 : k = 4
    · simp [h4]
    · by_cases h3 : k = 3
      · simp [h3]
      · simp [h3, h4, h5]
theorem md_wh_ext {A A' : Nat → Nat → Int32} {B : Nat → Nat → Int64} {t : Nat} (h : ∀ i, A 13 i = A' 13 i) : ∀ {n : Nat}, md_wh A B t n = md_wh A' B t n
  | 0 => rfl
  | n + 1 => by
    show md_wh A B t n + (if A 13 n = nI t then B 14 n else 0) = md_wh A' B t n + (if A' 13 n = nI t then B 14 n else 0)
    rw [md_wh_ext h, h n]
theorem md_ne64 {p : Int32} (h : ¬ p = 0) : ¬ p.toInt64 = 0 := fun q => h (by
  have h1 : p.toInt64.toInt = 0 := by rw [q]; rfl
  rw [Int32.toInt_toInt64] at h1
  exact Int32.toInt_inj.mp h1)
theorem md_root_ne {A : Nat → Nat → Int32} {nl j : Nat} (h : md_cr A nl) (hn : nl ≤ 200) (hj : j < nl) (c : ¬ A 13 j = -1) : A 13 j = nI (md_root A j) := by
  unfold md_root
  rw [if_neg c]
  rcases h j hj with q | ⟨t, ht, q⟩
  · exact absurd q c
  · rw [q, nI_clamp (by omega)]
theorem md_89 {p : Int32} (h : nI 9 ≤ p) : 8 < p := by
  rw [Int32.le_iff_toInt_le] at h
  rw [Int32.lt_iff_toInt_lt]
  have e1 : (nI 9).toInt = 9 := by decide
  have e2 : (8 : Int32).toInt = 8 := by decide
  omega
theorem md_98 {p : Int32} (h : 8 < p) : nI 9 ≤ p := by
  rw [Int32.lt_iff_toInt_lt] at h
  rw [Int32.le_iff_toInt_le]
  have e1 : (nI 9).toInt = 9 := by decide
  have e2 : (8 : Int32).toInt = 8 := by decide
  omega
/-- a line's parts -/
def md_pt (A : Nat → Nat → Int32) (B : Nat → Nat → Int64) (j nl k : Nat) : Int64 := match k with
  | 0 => (A 9 j).toInt64
  | 1 => (A 10 j).toInt64
  | 2 => (A 11 j).toInt64
  | 3 => (A 12 j).toInt64
  | 4 => B 14 j
  | 5 => (A 13 j).toInt64
  | 6 => if A 16 (md_root A j) = 0 then 0 else 1
  | 7 => if A 17 j = 0 then 0 else 1
  | _ => if A 13 j = -1 then md_wh A B j nl else B 14 j
