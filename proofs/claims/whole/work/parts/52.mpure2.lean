/-! PURE, of the reference's bills -/
def md_free (x2 : Int32) (A : Nat → Nat → Int32) (j : Nat) : Int32 := if (x2 >>> (nI j &&& 31)) &&& 1 = 1 then A 2 (4 * j + 2) else 0
def md_ab (x2 : Int32) (A : Nat → Nat → Int32) (j : Nat) (ch : Int32) : Int64 := (if (x2 >>> (nI j &&& 31)) &&& 1 = 1 then A 2 (4 * j) else 7).toInt64 * ch.toInt64
def md_be (x2 : Int32) (A : Nat → Nat → Int32) (j : Nat) : Int64 := if (x2 >>> (nI j &&& 31)) &&& 1 = 1 then (A 2 (4 * j + 1)).toInt64 else 1
def md_le (x2 : Int32) (A : Nat → Nat → Int32) (j : Nat) (ch : Int32) : Int64 := if (x2 >>> (nI j &&& 31)) &&& 1 = 1 then (if ch ≤ 0 then 0 else (A 2 (4 * j + 3)).toInt64) else 0
def md_fb (x2 : Int32) (j : Nat) : Int32 := if (x2 >>> (nI j &&& 31)) &&& 1 = 1 then 0 else 1
def md_pa (A : Nat → Nat → Int32) (q : Nat) (v : Int64) : Nat → Int64
  | 0 => v
  | i + 1 => md_pa A q v i * (A 8 (3 * q + i) - A 7 (3 * q + i)).toInt64
def md_pb (A : Nat → Nat → Int32) (q : Nat) (v : Int64) : Nat → Int64
  | 0 => v
  | i + 1 => md_pb A q v i * (A 8 (3 * q + i)).toInt64
def md_ce (a b : Int64) : Int64 := a / b + (if 2 * (a - a / b * b) < b then 0 else 1)
def md_mx (ce le : Int64) : Int64 := if ce < le then le else ce
def md_kch (x2 : Int32) (A : Nat → Nat → Int32) (k j nw : Nat) : Int32 := if md_us A (nI k) (nI j) nw ≤ md_free x2 A j then 0 else md_us A (nI k) (nI j) nw - md_free x2 A j
def md_kce (x2 : Int32) (A : Nat → Nat → Int32) (k j nw d : Nat) : Int64 := md_mx (md_ce (md_pa A (6 * k + j) (md_ab x2 A j (md_kch x2 A k j nw)) d) (md_pb A (6 * k + j) (md_be x2 A j) d)) (md_le x2 A j (md_kch x2 A k j nw))
section MDX
variable {A A' : Nat → Nat → Int32}
theorem md_us_ext (h : ∀ q, q ≤ 8 → A' q = A q) {c k : Int32} : ∀ {n : Nat}, md_us A' c k n = md_us A c k n
  | 0 => rfl
  | n + 1 => by
    show md_us A' c k n + (if A' 3 n = c ∧ A' 4 n = k then A' 5 n else 0) = md_us A c k n + (if A 3 n = c ∧ A 4 n = k then A 5 n else 0)
    rw [md_us_ext h, h 3 (by decide), h 4 (by decide), h 5 (by decide)]
theorem md_pa_ext (h : ∀ q, q ≤ 8 → A' q = A q) {q : Nat} {v : Int64} : ∀ {n : Nat}, md_pa A' q v n = md_pa A q v n
  | 0 => rfl
  | n + 1 => by
    show md_pa A' q v n * _ = md_pa A q v n * _
    rw [md_pa_ext h, h 8 (by decide), h 7 (by decide)]
theorem md_pb_ext (h : ∀ q, q ≤ 8 → A' q = A q) {q : Nat} {v : Int64} : ∀ {n : Nat}, md_pb A' q v n = md_pb A q v n
  | 0 => rfl
  | n + 1 => by
    show md_pb A' q v n * _ = md_pb A q v n * _
    rw [md_pb_ext h, h 8 (by decide)]
theorem md_kch_ext (h : ∀ q, q ≤ 8 → A' q = A q) {x2 : Int32} {k j nw : Nat} : md_kch x2 A' k j nw = md_kch x2 A k j nw := by
  unfold md_kch md_free
  rw [md_us_ext h, h 2 (by decide)]
theorem md_be_ext (h : ∀ q, q ≤ 8 → A' q = A q) {x2 : Int32} {j : Nat} : md_be x2 A' j = md_be x2 A j := by
  unfold md_be
  rw [h 2 (by decide)]
theorem md_kce_ext (h : ∀ q, q ≤ 8 → A' q = A q) {x2 : Int32} {k j nw d : Nat} : md_kce x2 A' k j nw d = md_kce x2 A k j nw d := by
  unfold md_kce
  rw [md_kch_ext h, md_be_ext h, md_pa_ext h, md_pb_ext h]
  unfold md_ab md_le
  rw [h 2 (by decide)]
end MDX
/-- the kinds that wait; the lines of a bill -/
def md_qq (A : Nat → Nat → Int32) (k nw : Nat) : Nat → Bool := fun j => decide (¬ md_us A (nI k) (nI j) nw ≤ 0)
def md_BA (x2 : Int32) (A : Nat → Nat → Int32) (k nw nl : Nat) : Nat → Nat → Nat → Int32
  | 0 => A
  | i + 1 => if md_qq A k nw i = true then md_nl (cb_upr (md_BA x2 A k nw nl i) 17 (upd (md_BA x2 A k nw nl i 17) (nl + cb_cnt (md_qq A k nw) i) (md_fb x2 i))) (nl + cb_cnt (md_qq A k nw) i) (nI k) (nI i) (md_us A (nI k) (nI i) nw) (md_kch x2 A k i nw) (-1) else md_BA x2 A k nw nl i
def md_BB (x2 : Int32) (A : Nat → Nat → Int32) (B : Nat → Nat → Int64) (dd : Nat → Nat) (k nw nl : Nat) : Nat → Nat → Nat → Int64
  | 0 => B
  | i + 1 => if md_qq A k nw i = true then cb_upr (md_BB x2 A B dd k nw nl i) 14 (vp_updL (md_BB x2 A B dd k nw nl i 14) (nl + cb_cnt (md_qq A k nw) i) (md_kce x2 A k i nw (dd (6 * k + i)))) else md_BB x2 A B dd k nw nl i
theorem md_BA_s {x2 : Int32} {A : Nat → Nat → Int32} {k nw nl i : Nat} (h : md_qq A k nw i = true) : md_BA x2 A k nw nl (i + 1) = md_nl (cb_upr (md_BA x2 A k nw nl i) 17 (upd (md_BA x2 A k nw nl i 17) (nl + cb_cnt (md_qq A k nw) i) (md_fb x2 i))) (nl + cb_cnt (md_qq A k nw) i) (nI k) (nI i) (md_us A (nI k) (nI i) nw) (md_kch x2 A k i nw) (-1) := if_pos h
theorem md_BA_n {x2 : Int32} {A : Nat → Nat → Int32} {k nw nl i : Nat} (h : ¬ md_qq A k nw i = true) : md_BA x2 A k nw nl (i + 1) = md_BA x2 A k nw nl i := if_neg h
theorem md_BB_s {x2 : Int32} {A : Nat → Nat → Int32} {B : Nat → Nat → Int64} {dd : Nat → Nat} {k nw nl i : Nat} (h : md_qq A k nw i = true) : md_BB x2 A B dd k nw nl (i + 1) = cb_upr (md_BB x2 A B dd k nw nl i) 14 (vp_updL (md_BB x2 A B dd k nw nl i 14) (nl + cb_cnt (md_qq A k nw) i) (md_kce x2 A k i nw (dd (6 * k + i)))) := if_pos h
theorem md_BB_n {x2 : Int32} {A : Nat → Nat → Int32} {B : Nat → Nat → Int64} {dd : Nat → Nat} {k nw nl i : Nat} (h : ¬ md_qq A k nw i = true) : md_BB x2 A B dd k nw nl (i + 1) = md_BB x2 A B dd k nw nl i := if_neg h
theorem md_BA_lo {x2 : Int32} {A : Nat → Nat → Int32} {k nw nl : Nat} : ∀ i q, q ≤ 8 → md_BA x2 A k nw nl i q = A q
  | 0, _, _ => rfl
  | i + 1, q, hq => by
    by_cases h : md_qq A k nw i = true
    · rw [md_BA_s h]
      unfold md_nl cb_upr
      simp only [if_neg (show ¬ q = 13 by omega), if_neg (show ¬ q = 12 by omega), if_neg (show ¬ q = 11 by omega), if_neg (show ¬ q = 10 by omega), if_neg (show ¬ q = 9 by omega), if_neg (show ¬ q = 17 by omega)]
      exact md_BA_lo i q hq
    · rw [md_BA_n h]
      exact md_BA_lo i q hq
