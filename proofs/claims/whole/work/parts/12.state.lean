/-! STATE of a PortBills: its cells in a world, by place. z: 0 length, 1 at, 2 kinds (of the text), 3 kindsWithTariff, 4 waitingInAll, 5 modCount of the list; G: the grids 0 rows, 1 tariffs, 2 waitingUnits, 3 discounts, 4 kept, 5 keptOf -/
def cb_gp (g : Nat) : Nat := if g = 0 then 3 else if g = 1 then 10 else if g = 2 then 17 else if g = 3 then 29 else if g = 4 then 40 else 51
def cb_nr (g : Nat) : Nat := if g < 2 then 6 else 10
def cb_wd (g : Nat) : Nat := if g < 2 then 4 else 6
theorem cb_gp_lt : ∀ g, g < 6 → ∀ i, i < cb_nr g → 3 < cb_gp g + 1 + i ∧ cb_gp g + 1 + i < 62 ∧ cb_gp g + 1 + i ≠ 28 ∧ (∀ h, h < 6 → cb_gp g + 1 + i ≠ cb_gp h) := by
  decide
theorem cb_gp_o : ∀ g, g < 6 → 3 ≤ cb_gp g ∧ cb_gp g < 52 ∧ cb_gp g ≠ 28 := by decide
def cb_inv (k : Nat) : Nat × Nat := if k < 10 then (0, k - 4) else if k < 17 then (1, k - 11) else if k < 28 then (2, k - 18) else if k < 40 then (3, k - 30) else if k < 51 then (4, k - 41) else (5, k - 52)
theorem cb_inv_at : ∀ g, g < 6 → ∀ i, i < cb_nr g → cb_inv (cb_gp g + 1 + i) = (g, i) := by decide
theorem cb_gp_inj : ∀ g, g < 6 → ∀ h, h < 6 → ∀ i, i < cb_nr g → ∀ j, j < cb_nr h → cb_gp g + 1 + i = cb_gp h + 1 + j → g = h ∧ i = j := fun g hg h hh i hi j hj e => by
  have h1 := cb_inv_at g hg i hi
  rw [e, cb_inv_at h hh j hj] at h1
  exact ⟨(Prod.mk.inj h1).1.symm, (Prod.mk.inj h1).2.symm⟩
/-- an outer array's references -/
def cb_rf (n : Nat) (r : Nat → Nat) : Nat → Option Nat := fun i => if i < n then some (r i) else none
/-- a line's fields: ints 0 call, 1 kind, 2 units, 3 charged, 4 corrects, 5 byFallback, 6 disputed; longs 0 cents, 1 corrected -/
def cb_ln (li : Nat → Int32) (ll : Nat → Int64) : List Value := [.int (li 0), .int (li 1), .int (li 2), .int (li 3), .long (ll 0), .int (li 4), .int (li 5), .int (li 6), .long (ll 1)]
def cb_up2 {α : Type} (f : Nat → Nat → α) (i j : Nat) (v : α) : Nat → Nat → α := fun a b => if a = i ∧ b = j then v else f a b
def cb_upr {α : Type} (f : Nat → α) (i : Nat) (v : α) : Nat → α := fun a => if a = i then v else f a
/-- a grid's row is another one -/
def cb_upg (G : Nat → Nat → Nat → Int32) (g i : Nat) (f : Nat → Int32) : Nat → Nat → Nat → Int32 := fun a b => if a = g ∧ b = i then f else G a b
theorem cb_upg_s {G : Nat → Nat → Nat → Int32} {g i : Nat} {f : Nat → Int32} : cb_upg G g i f g i = f := by simp [cb_upg]
theorem cb_upg_n {G : Nat → Nat → Nat → Int32} {g i a b : Nat} {f : Nat → Int32} (h : ¬ (a = g ∧ b = i)) : cb_upg G g i f a b = G a b := by simp [cb_upg, h]
section CB
variable (cI cC cJ cII cO : ClassId)
/-- the cells with a fixed place -/
def cb_I (ws : va_W) (κ : Nat → Nat) (ra : Nat → Nat → Nat) (z sg : Nat → Int32) (G : Nat → Nat → Nat → Int32) (we : Nat → Int32) (pd : Nat → Int64) : Prop :=
  ws[0]? = some (κ 0, .inr (iPB, [.ref (κ 1), .ref (κ 10), .int (z 3), .ref (κ 17), .ref (κ 28), .int (z 4), .ref (κ 29), .ref (κ 40), .ref (κ 51), .ref (κ 62), .ref (κ 63)])) ∧
  ws[1]? = some (κ 1, .inr (iTT, [.ref (κ 2), .int (z 0), .int (z 1), .ref (κ 3), .int (z 2)])) ∧
  ws[2]? = some (κ 2, .inl (cC, 120, .inl sg)) ∧
  ws[28]? = some (κ 28, .inl (cI, 10, .inl we)) ∧
  ws[63]? = some (κ 63, .inl (cJ, 10, .inr (.inl pd))) ∧
  (∀ g, g < 6 → ws[cb_gp g]? = some (κ (cb_gp g), .inl (cII, cb_nr g, .inr (.inr (.inr (.inr (cb_rf (cb_nr g) (ra g)))))))) ∧
  (∀ g, g < 6 → ∀ i, i < cb_nr g → ws[cb_gp g + 1 + i]? = some (ra g i, .inl (cI, cb_wd g, .inl (G g i))))
/-- the list and its lines -/
def cb_L (ws : va_W) (a4 : Nat) (md : Int32) (e0 nl : Nat) (la lp : Nat → Nat) (li : Nat → Nat → Int32) (ll : Nat → Nat → Int64) : Prop :=
  ∃ (ea : Nat), ws[62]? = some (a4, .inr (iAL, [.int md, .ref ea, .int (nI nl)])) ∧
  (∀ j, j < nl → 64 ≤ lp j ∧ ws[lp j]? = some (la j, .inr (iLN, cb_ln (li j) (ll j)))) ∧
  (∀ i j, i < nl → j < nl → lp i = lp j → i = j) ∧
  ((nl = 0 ∧ ea = e0) ∨ ∃ (ep cap : Nat) (ef : Nat → Option Nat), 64 ≤ ep ∧ nl ≤ cap ∧ 10 ≤ cap ∧ cap ≤ 400 ∧ ws[ep]? = some (ea, .inl (cO, cap, .inr (.inr (.inr (.inr ef))))) ∧ (∀ j, j < nl → ef j = some (la j)) ∧ ∀ j, j < cap → ∀ y, ef j = some y → ∃ i, i < nl ∧ y = la i)
end CB
theorem gx_sn {ws : va_W} {i j : Nat} {c c' : Nat × va_E} (h : i ≠ j) (hj : ws[j]? = some c') : (ws.set i c)[j]? = some c' := by rw [List.getElem?_set_ne h]; exact hj
theorem gx_ss {ws : va_W} {i : Nat} {c c' : Nat × va_E} (h : ws[i]? = some c') : (ws.set i c)[i]? = some c := List.getElem?_set_self (List.getElem?_eq_some_iff.mp h).1
theorem gx_ap {ws w2 : va_W} {j : Nat} {c' : Nat × va_E} (h : ws[j]? = some c') : (ws ++ w2)[j]? = some c' := by
  rw [List.getElem?_append_left (List.getElem?_eq_some_iff.mp h).1]; exact h
section CBu
variable {cI cC cJ cII cO : ClassId} {ws w2 : va_W} {κ : Nat → Nat} {ra : Nat → Nat → Nat} {z sg : Nat → Int32} {G : Nat → Nat → Nat → Int32} {we : Nat → Int32} {pd : Nat → Int64}
variable {a4 e0 nl : Nat} {md : Int32} {la lp : Nat → Nat} {li : Nat → Nat → Int32} {ll : Nat → Nat → Int64}
theorem cb_I.app (h : cb_I cI cC cJ cII ws κ ra z sg G we pd) : cb_I cI cC cJ cII (ws ++ w2) κ ra z sg G we pd := by
  obtain ⟨h0, h1, h2, h3, h4, h5, h6⟩ := h
  exact ⟨gx_ap h0, gx_ap h1, gx_ap h2, gx_ap h3, gx_ap h4, fun g hg => gx_ap (h5 g hg), fun g hg i hi => gx_ap (h6 g hg i hi)⟩
theorem cb_I.hi {q : Nat} {c : Nat × va_E} (hq : 62 ≤ q) (hq2 : q ≠ 63) (h : cb_I cI cC cJ cII ws κ ra z sg G we pd) : cb_I cI cC cJ cII (ws.set q c) κ ra z sg G we pd := by
  obtain ⟨h0, h1, h2, h3, h4, h5, h6⟩ := h
  exact ⟨gx_sn (by omega) h0, gx_sn (by omega) h1, gx_sn (by omega) h2, gx_sn (by omega) h3, gx_sn hq2 h4, fun g hg => gx_sn (by have := cb_gp_o g hg; omega) (h5 g hg), fun g hg i hi => gx_sn (by have := cb_gp_lt g hg i hi; omega) (h6 g hg i hi)⟩
theorem cb_I.text {z' : Nat → Int32} (h3' : z' 3 = z 3) (h4' : z' 4 = z 4) (h : cb_I cI cC cJ cII ws κ ra z sg G we pd) : cb_I cI cC cJ cII (ws.set 1 (κ 1, .inr (iTT, [.ref (κ 2), .int (z' 0), .int (z' 1), .ref (κ 3), .int (z' 2)]))) κ ra z' sg G we pd := by
  obtain ⟨h0, h1, h2, h3, h4, h5, h6⟩ := h
  refine ⟨gx_sn (by decide) (by rw [h3', h4']; exact h0), gx_ss h1, gx_sn (by decide) h2, gx_sn (by decide) h3, gx_sn (by decide) h4, fun g hg => gx_sn (by have := cb_gp_o g hg; omega) (h5 g hg), fun g hg i hi => gx_sn (by have := cb_gp_lt g hg i hi; omega) (h6 g hg i hi)⟩
theorem cb_I.obj {z' : Nat → Int32} (h0' : z' 0 = z 0) (h1' : z' 1 = z 1) (h2' : z' 2 = z 2) (h : cb_I cI cC cJ cII ws κ ra z sg G we pd) : cb_I cI cC cJ cII (ws.set 0 (κ 0, .inr (iPB, [.ref (κ 1), .ref (κ 10), .int (z' 3), .ref (κ 17), .ref (κ 28), .int (z' 4), .ref (κ 29), .ref (κ 40), .ref (κ 51), .ref (κ 62), .ref (κ 63)]))) κ ra z' sg G we pd := by
  obtain ⟨h0, h1, h2, h3, h4, h5, h6⟩ := h
  refine ⟨gx_ss h0, gx_sn (by decide) (by rw [h0', h1', h2']; exact h1), gx_sn (by decide) h2, gx_sn (by decide) h3, gx_sn (by decide) h4, fun g hg => gx_sn (by have := cb_gp_o g hg; omega) (h5 g hg), fun g hg i hi => gx_sn (by have := cb_gp_lt g hg i hi; omega) (h6 g hg i hi)⟩
theorem cb_I.signs {sg' : Nat → Int32} (h : cb_I cI cC cJ cII ws κ ra z sg G we pd) : cb_I cI cC cJ cII (ws.set 2 (κ 2, .inl (cC, 120, .inl sg'))) κ ra z sg' G we pd := by
  obtain ⟨h0, h1, h2, h3, h4, h5, h6⟩ := h
  exact ⟨gx_sn (by decide) h0, gx_sn (by decide) h1, gx_ss h2, gx_sn (by decide) h3, gx_sn (by decide) h4, fun g hg => gx_sn (by have := cb_gp_o g hg; omega) (h5 g hg), fun g hg i hi => gx_sn (by have := cb_gp_lt g hg i hi; omega) (h6 g hg i hi)⟩
theorem cb_I.wev {we' : Nat → Int32} (h : cb_I cI cC cJ cII ws κ ra z sg G we pd) : cb_I cI cC cJ cII (ws.set 28 (κ 28, .inl (cI, 10, .inl we'))) κ ra z sg G we' pd := by
  obtain ⟨h0, h1, h2, h3, h4, h5, h6⟩ := h
  exact ⟨gx_sn (by decide) h0, gx_sn (by decide) h1, gx_sn (by decide) h2, gx_ss h3, gx_sn (by decide) h4, fun g hg => gx_sn (by have := cb_gp_o g hg; omega) (h5 g hg), fun g hg i hi => gx_sn (by have := cb_gp_lt g hg i hi; omega) (h6 g hg i hi)⟩
theorem cb_I.paid {pd' : Nat → Int64} (h : cb_I cI cC cJ cII ws κ ra z sg G we pd) : cb_I cI cC cJ cII (ws.set 63 (κ 63, .inl (cJ, 10, .inr (.inl pd')))) κ ra z sg G we pd' := by
  obtain ⟨h0, h1, h2, h3, h4, h5, h6⟩ := h
  exact ⟨gx_sn (by decide) h0, gx_sn (by decide) h1, gx_sn (by decide) h2, gx_sn (by decide) h3, gx_ss h4, fun g hg => gx_sn (by have := cb_gp_o g hg; omega) (h5 g hg), fun g hg i hi => gx_sn (by have := cb_gp_lt g hg i hi; omega) (h6 g hg i hi)⟩
theorem cb_I.row {g i : Nat} (hg : g < 6) (hi : i < cb_nr g) {f : Nat → Int32} (h : cb_I cI cC cJ cII ws κ ra z sg G we pd) : cb_I cI cC cJ cII (ws.set (cb_gp g + 1 + i) (ra g i, .inl (cI, cb_wd g, .inl f))) κ ra z sg (cb_upg G g i f) we pd := by
  obtain ⟨h0, h1, h2, h3, h4, h5, h6⟩ := h
  have q := cb_gp_lt g hg i hi
  refine ⟨gx_sn (by omega) h0, gx_sn (by omega) h1, gx_sn (by omega) h2, gx_sn (by omega) h3, gx_sn (by omega) h4, fun a ha => gx_sn (q.2.2.2 a ha) (h5 a ha), fun a ha b hb => ?_⟩
  by_cases e : a = g ∧ b = i
  · obtain ⟨rfl, rfl⟩ := e
    rw [cb_upg_s]
    exact gx_ss (h6 a ha b hb)
  · rw [cb_upg_n e]
    exact gx_sn (fun z => e (by have := cb_gp_inj g hg a ha i hi b hb z; exact ⟨this.1.symm, this.2.symm⟩)) (h6 a ha b hb)
theorem cb_L.app (h : cb_L cO ws a4 md e0 nl la lp li ll) : cb_L cO (ws ++ w2) a4 md e0 nl la lp li ll := by
  obtain ⟨ea, h1, h2, h3, h4⟩ := h
  refine ⟨ea, gx_ap h1, fun j hj => ⟨(h2 j hj).1, gx_ap (h2 j hj).2⟩, h3, ?_⟩
  rcases h4 with h4 | ⟨ep, cap, ef, q1, q2, q3, q4, q5, q6⟩
  · exact Or.inl h4
  · exact Or.inr ⟨ep, cap, ef, q1, q2, q3, q4, gx_ap q5, q6⟩
theorem cb_L.low {q : Nat} {c : Nat × va_E} (hq : q < 64) (hq2 : q ≠ 62) (h : cb_L cO ws a4 md e0 nl la lp li ll) : cb_L cO (ws.set q c) a4 md e0 nl la lp li ll := by
  obtain ⟨ea, h1, h2, h3, h4⟩ := h
  refine ⟨ea, gx_sn hq2 h1, fun j hj => ⟨(h2 j hj).1, gx_sn (by have := (h2 j hj).1; omega) (h2 j hj).2⟩, h3, ?_⟩
  rcases h4 with h4 | ⟨ep, cap, ef, q1, q2, q3, q4, q5, q6⟩
  · exact Or.inl h4
  · exact Or.inr ⟨ep, cap, ef, q1, q2, q3, q4, gx_sn (by omega) q5, q6⟩
theorem cb_L.line {j : Nat} (hj : j < nl) {a : Nat → Int32} {b : Nat → Int64} (h : cb_L cO ws a4 md e0 nl la lp li ll) : cb_L cO (ws.set (lp j) (la j, .inr (iLN, cb_ln a b))) a4 md e0 nl la lp (cb_upr li j a) (cb_upr ll j b) := by
  obtain ⟨ea, h1, h2, h3, h4⟩ := h
  have hj2 := h2 j hj
  refine ⟨ea, gx_sn (by omega) h1, fun i hi => ⟨(h2 i hi).1, ?_⟩, h3, ?_⟩
  · by_cases e : i = j
    · subst e
      simp only [cb_upr, if_true]
      exact gx_ss hj2.2
    · simp only [cb_upr, if_neg e]
      exact gx_sn (fun z => e (h3 i j hi hj z.symm)) (h2 i hi).2
  · rcases h4 with h4 | ⟨ep, cap, ef, q1, q2, q3, q4, q5, q6⟩
    · exact Or.inl h4
    · refine Or.inr ⟨ep, cap, ef, q1, q2, q3, q4, gx_sn (fun z => ?_) q5, q6⟩
      have hx := hj2.2
      rw [z, q5] at hx
      cases hx
end CBu
/-- the places from 62 on are as they were (63 aside): the list and its lines -/
def cb_hi (ws w1 : va_W) : Prop := ∀ k, 62 ≤ k ∧ k ≠ 63 → w1[k]? = ws[k]?
theorem cb_hi.set {ws w1 : va_W} {q : Nat} {c : Nat × va_E} (hq : q < 62) (h : cb_hi ws w1) : cb_hi ws (w1.set q c) := fun k hk => by
  rw [List.getElem?_set_ne (by omega)]; exact h k hk
theorem cb_hi.set63 {ws w1 : va_W} {c : Nat × va_E} (h : cb_hi ws w1) : cb_hi ws (w1.set 63 c) := fun k hk => by
  rw [List.getElem?_set_ne (by omega)]; exact h k hk
theorem cb_hi.trans {ws w1 w2 : va_W} (h : cb_hi ws w1) (h2 : cb_hi w1 w2) : cb_hi ws w2 := fun k hk => (h2 k hk).trans (h k hk)
theorem cb_L.of {cO : ClassId} {ws w1 : va_W} {a4 e0 nl : Nat} {md : Int32} {la lp : Nat → Nat} {li : Nat → Nat → Int32} {ll : Nat → Nat → Int64} (hh : cb_hi ws w1) (h : cb_L cO ws a4 md e0 nl la lp li ll) : cb_L cO w1 a4 md e0 nl la lp li ll := by
  obtain ⟨ea, h1, h2, h3, h4⟩ := h
  refine ⟨ea, (hh 62 (by decide)).trans h1, fun j hj => ⟨(h2 j hj).1, (hh _ (by have := (h2 j hj).1; omega)).trans (h2 j hj).2⟩, h3, ?_⟩
  rcases h4 with h4 | ⟨ep, cap, ef, q1, q2, q3, q4, q5, q6⟩
  · exact Or.inl h4
  · exact Or.inr ⟨ep, cap, ef, q1, q2, q3, q4, (hh ep (by omega)).trans q5, q6⟩
