/-! PURE, of the reference -/
theorem md_unit1 {j : Nat} (h2 : ¬ j = 2) (h3 : ¬ j = 3) (h4 : ¬ j = 4) : fx_unit j = 1 := by
  unfold fx_unit
  rw [if_neg h2, if_neg h3, if_neg h4]
/-- the part of a row that a sign begins -/
def md_bg (c : Int32) : Int32 := if c = 47 then 3 else if c = 45 then 4 else if c = 62 then 5 else 0
theorem md_34 {p : Int32} (h : nI 4 ≤ p) : 3 < p := by
  rw [Int32.le_iff_toInt_le] at h
  rw [Int32.lt_iff_toInt_lt]
  have e1 : (nI 4).toInt = 4 := by decide
  have e2 : (3 : Int32).toInt = 3 := by decide
  omega
