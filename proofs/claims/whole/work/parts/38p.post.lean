/-! CONTRACTS, weaker -/
theorem gx_post {l : Launch} {y : MethodName} {ts : List Cond} {rm : Room} {Pc : Array Value → State → Prop} {Qc Qc' : Array Value → State → Outcome → State → Prop} {mc ms : Nat} {free : Addr → Prop} (h : Met l y ts rm Pc Qc mc ms free) (hQ : ∀ a s o t, Qc a s o t → Qc' a s o t) : Met l y ts rm Pc Qc' mc ms free := by
  intro p e ha hc hk s m args below hf happ hp hk'
  obtain ⟨n, o, h1, h2, h3, h4, h5⟩ := h p e ha hc hk s m args below hf happ hp hk'
  exact ⟨n, o, h1, h2, h3, hQ _ _ _ _ h4, h5⟩
theorem gx_posti {l : Launch} {y : MethodName} {ts : List Cond} {rm : Room} {Pc : Array Value → State → Prop} {post post' : Int32 → va_W → Prop} {B : va_W → State → Prop} {A : Nat → Prop} {mc ms : Nat} {free : Addr → Prop} (h : Met l y ts rm Pc (va_Qi post B A) mc ms free) (hQ : ∀ r w, post r w → post' r w) : Met l y ts rm Pc (va_Qi post' B A) mc ms free :=
  gx_post h (fun a s o t q => by
    obtain ⟨⟨v, u, h1, h2, h3⟩, h4⟩ := q
    exact ⟨⟨v, u, h1, hQ v u h2, h3⟩, h4⟩)
/-- the places with a fixed number are as they were: so is the picture -/
theorem cb_I.ext {cI cC cJ cII : ClassId} {ws w1 : va_W} {κ : Nat → Nat} {ra : Nat → Nat → Nat} {z sg : Nat → Int32} {G : Nat → Nat → Nat → Int32} {we : Nat → Int32} {pd : Nat → Int64} (he : ∀ k, k < 64 → k ≠ 62 → w1[k]? = ws[k]?) (h : cb_I cI cC cJ cII ws κ ra z sg G we pd) : cb_I cI cC cJ cII w1 κ ra z sg G we pd := by
  obtain ⟨h0, h1, h2, h3, h4, h5, h6⟩ := h
  exact ⟨(he 0 (by decide) (by decide)).trans h0, (he 1 (by decide) (by decide)).trans h1, (he 2 (by decide) (by decide)).trans h2, (he 28 (by decide) (by decide)).trans h3, (he 63 (by decide) (by decide)).trans h4, fun g hg => (he _ (by have := cb_gp_o g hg; omega) (by have := cb_gp_o g hg; omega)).trans (h5 g hg), fun g hg i hi => (he _ (by have := cb_gp_lt g hg i hi; omega) (by have := cb_gp_lt g hg i hi; omega)).trans (h6 g hg i hi)⟩
/-- the list has one line more -/
theorem cb_L.add {cI cC cJ cII cO : ClassId} {ws w0 w1 : va_W} {κ : Nat → Nat} {ra : Nat → Nat → Nat} {z sg : Nat → Int32} {G : Nat → Nat → Nat → Int32} {we : Nat → Int32} {pd : Nat → Int64} {a4 e0 nl ea : Nat} {md2 : Int32} {la lp : Nat → Nat} {li : Nat → Nat → Int32} {ll : Nat → Nat → Int64} {ef : Nat → Option Nat} {pk v ep0 cx : Nat} {fi : Nat → Int32} {fl : Nat → Int64} {vs : List Value}
    (hI : cb_I cI cC cJ cII ws κ ra z sg G we pd) (hL2 : ∀ j, j < nl → 64 ≤ lp j ∧ ws[lp j]? = some (la j, .inr (iLN, cb_ln (li j) (ll j)))) (hL3 : ∀ i j, i < nl → j < nl → lp i = lp j → i = j) (h62 : ws[62]? = some (a4, .inr (iAL, vs)))
    (hef : ∀ j, j < nl → ef j = some (la j)) (hef2 : ∀ j, j < cx → ∀ y, ef j = some y → (∃ i, i < nl ∧ y = la i)) (hep : (64 ≤ ep0 ∧ ∃ b x, ws[ep0]? = some (b, .inl x)) ∨ ep0 = w0.length)
    (hv : ws[pk]? = some (v, .inr (iLN, cb_ln fi fl))) (h64 : 64 ≤ pk) (hne : ∀ j, j < nl → lp j ≠ pk) (hw0 : w0 = ws.set 62 (a4, .inr (iAL, [.int md2, .ref ea, .int (nI nl)]))) (ha : cb_added cO w0 w1 62 a4 md2 nl ef v ep0 cx) :
    cb_I cI cC cJ cII w1 κ ra z sg G we pd ∧ cb_L cO w1 a4 md2 e0 (nl + 1) (cb_upr la nl v) (cb_upr lp nl pk) (cb_upr li nl fi) (cb_upr ll nl fl) := by
  obtain ⟨ea', ep', cap', ef', a1, a2, a3, a4', a5, a6, a7, a8, a9, a10⟩ := ha
  have hlen : w0.length = ws.length := by rw [hw0, List.length_set]
  have h63 : 63 < ws.length := (List.getElem?_eq_some_iff.mp hI.2.2.2.2.1).1
  have hep' : 64 ≤ ep' := by
    rcases a3 with q | q
    · rcases hep with z | z
      · omega
      · omega
    · omega
  have hk : ∀ k, k ≠ 62 → k ≠ ep' → k < ws.length → w1[k]? = ws[k]? := fun k h1 h2 h3 => by
    rw [a10 k h1 h2 (by omega), hw0, List.getElem?_set_ne (Ne.symm h1)]
  have hno : ∀ (k : Nat) (b : Nat) (o : Nat × List Value), ws[k]? = some (b, .inr o) → k ≠ ep' := fun k b o h q => by
    have hkl := (List.getElem?_eq_some_iff.mp h).1
    rcases a3 with z | z
    · rcases hep with y | y
      · obtain ⟨-, b9, x9, h9⟩ := y
        rw [q, z, h9] at h
        cases h
      · omega
    · omega
  refine ⟨cb_I.ext (fun k h1 h2 => hk k h2 (by omega) (by omega)) hI, ea', a1, ?_, ?_, Or.inr ⟨ep', cap', ef', hep', by omega, a5, a6, a2, ?_, ?_⟩⟩
  · intro j hj
    by_cases e : j = nl
    · subst e
      simp only [cb_upr, if_true]
      exact ⟨h64, (hk pk (by omega) (hno _ _ _ hv) (List.getElem?_eq_some_iff.mp hv).1).trans hv⟩
    · have hj2 : j < nl := by omega
      have h2 := hL2 j hj2
      simp only [cb_upr, if_neg e]
      exact ⟨h2.1, (hk _ (by omega) (hno _ _ _ h2.2) (List.getElem?_eq_some_iff.mp h2.2).1).trans h2.2⟩
  · intro i j hi hj h
    by_cases e1 : i = nl
    · by_cases e2 : j = nl
      · omega
      · simp only [cb_upr, if_pos e1, if_neg e2] at h
        exact absurd h.symm (hne j (by omega))
    · by_cases e2 : j = nl
      · simp only [cb_upr, if_neg e1, if_pos e2] at h
        exact absurd h (hne i (by omega))
      · simp only [cb_upr, if_neg e1, if_neg e2] at h
        exact hL3 i j (by omega) (by omega) h
  · intro j hj
    by_cases e : j = nl
    · subst e
      simp only [cb_upr, if_true]
      exact a8
    · simp only [cb_upr, if_neg e]
      exact (a7 j (by omega)).trans (hef j (by omega))
  · intro j hj y hy
    by_cases e : j = nl
    · refine ⟨nl, by omega, ?_⟩
      rw [e, a8] at hy
      simp only [cb_upr, if_true]
      exact (Option.some.inj hy).symm
    · rcases a9 j e hj with ⟨q, qx⟩ | q
      · rw [q] at hy
        obtain ⟨i, hi, h⟩ := hef2 j qx y hy
        refine ⟨i, by omega, ?_⟩
        simp only [cb_upr, if_neg (show ¬ i = nl by omega)]
        exact h
      · rw [q] at hy
        cases hy
