/-! PURE, second part -/
theorem cb_sw4 (x : Int32) : x = 0 ∨ x = 1 ∨ x = 2 ∨ x = 3 ∨ (x.toInt < 0 ∨ 3 < x.toInt) := by
  by_cases h1 : x.toInt < 0
  · exact Or.inr (Or.inr (Or.inr (Or.inr (Or.inl h1))))
  · by_cases h2 : 3 < x.toInt
    · exact Or.inr (Or.inr (Or.inr (Or.inr (Or.inr h2))))
    · have h : x.toInt = 0 ∨ x.toInt = 1 ∨ x.toInt = 2 ∨ x.toInt = 3 := by omega
      rcases h with h | h | h | h
      · exact Or.inl (Int32.toInt_inj.mp h)
      · exact Or.inr (Or.inl (Int32.toInt_inj.mp h))
      · exact Or.inr (Or.inr (Or.inl (Int32.toInt_inj.mp h)))
      · exact Or.inr (Or.inr (Or.inr (Or.inl (Int32.toInt_inj.mp h))))
theorem cb_upr_id {α : Type} {f : Nat → α} {j : Nat} : cb_upr f j (f j) = f := funext fun a => by
  unfold cb_upr
  by_cases e : a = j
  · rw [if_pos e, e]
  · rw [if_neg e]
/-- the lines, the line t and those before n that correct it disputed or not -/
def cb_dsp (li : Nat → Nat → Int32) (t : Nat) (b : Int32) (n : Nat) : Nat → Nat → Int32 := fun j => if j = t ∨ (j < n ∧ li j 4 = nI t) then upd (li j) 6 b else li j
theorem cb_dsp_0 {li : Nat → Nat → Int32} {t : Nat} {b : Int32} : cb_upr li t (upd (li t) 6 b) = cb_dsp li t b 0 := funext fun j => by
  unfold cb_upr cb_dsp
  by_cases e : j = t
  · subst e; rw [if_pos rfl, if_pos (Or.inl rfl)]
  · rw [if_neg e, if_neg (fun q => q.elim e (fun q => absurd q.1 (Nat.not_lt_zero j)))]
theorem cb_dsp_4 (li : Nat → Nat → Int32) (t : Nat) (b : Int32) (n j : Nat) : cb_dsp li t b n j 4 = li j 4 := by
  unfold cb_dsp
  by_cases e : j = t ∨ (j < n ∧ li j 4 = nI t)
  · rw [if_pos e]; rfl
  · rw [if_neg e]
theorem cb_dsp_s {li : Nat → Nat → Int32} {t i : Nat} {b : Int32} (h : li i 4 = nI t) : cb_upr (cb_dsp li t b i) i (upd (cb_dsp li t b i i) 6 b) = cb_dsp li t b (i + 1) := funext fun j => by
  unfold cb_upr
  by_cases e : j = i
  · subst e
    rw [if_pos rfl]
    unfold cb_dsp
    rw [if_pos (c := j = t ∨ (j < j + 1 ∧ li j 4 = nI t)) (Or.inr ⟨by omega, h⟩)]
    by_cases q : j = t ∨ (j < j ∧ li j 4 = nI t)
    · rw [if_pos q]
      exact cb_uu
    · rw [if_neg q]
  · rw [if_neg e]
    unfold cb_dsp
    have : (j = t ∨ (j < i ∧ li j 4 = nI t)) ↔ (j = t ∨ (j < i + 1 ∧ li j 4 = nI t)) := ⟨fun q => q.imp id (fun q => ⟨by omega, q.2⟩), fun q => q.imp id (fun q => ⟨by omega, q.2⟩)⟩
    simp only [this]
theorem cb_dsp_n {li : Nat → Nat → Int32} {t i : Nat} {b : Int32} (h : ¬ li i 4 = nI t) : cb_dsp li t b i = cb_dsp li t b (i + 1) := funext fun j => by
  unfold cb_dsp
  have : (j = t ∨ (j < i ∧ li j 4 = nI t)) ↔ (j = t ∨ (j < i + 1 ∧ li j 4 = nI t)) := ⟨fun q => q.imp id (fun q => ⟨by omega, q.2⟩), fun q => q.imp id (fun q => ⟨by
    rcases Nat.lt_or_ge j i with z | z
    · exact z
    · have e : j = i := by omega
      subst e
      exact absurd q.2 h, q.2⟩)⟩
  simp only [this]
