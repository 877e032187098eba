/-! NUMBERS -/
theorem nI_subN {a b : Nat} (h : b ≤ a) : nI a - nI b = nI (a - b) := by
  obtain ⟨q, rfl⟩ : ∃ q, a = q + b := ⟨a - b, by omega⟩
  rw [← nI_add, Int32.add_sub_cancel, show q + b - b = q by omega]
theorem nI_divN {a b : Nat} (ha : a < 2 ^ 31) (hb : b < 2 ^ 31) : nI a / nI b = nI (a / b) := by
  apply Int32.toInt_inj.mp
  have hq : a / b < 2 ^ 31 := Nat.lt_of_le_of_lt (Nat.div_le_self a b) ha
  rw [Int32.toInt_div, nI_toInt ha, nI_toInt hb, nI_toInt hq, ← Int.ofNat_tdiv]
  generalize a / b = q at hq
  exact Int.bmod_eq_of_le (by omega) (by omega)
theorem lN_divN {a b : Nat} (ha : a < 2 ^ 31) (hb : b < 2 ^ 31) : lN a / lN b = lN (a / b) := by
  apply Int64.toInt_inj.mp
  have hq : a / b < 2 ^ 31 := Nat.lt_of_le_of_lt (Nat.div_le_self a b) ha
  rw [Int64.toInt_div, lN_toInt ha, lN_toInt hb, lN_toInt hq, ← Int.ofNat_tdiv]
  generalize a / b = q at hq
  exact Int.bmod_eq_of_le (by omega) (by omega)
theorem cb_unit : ∀ j, j < 6 → ∃ u, (u = 1 ∨ u = 60 ∨ u = 1440 ∨ u = 1000) ∧ fx_unit j = nI u := by
  intro j hj
  rcases (show j = 0 ∨ j = 1 ∨ j = 2 ∨ j = 3 ∨ j = 4 ∨ j = 5 by omega) with rfl | rfl | rfl | rfl | rfl | rfl
  · exact ⟨1, Or.inl rfl, rfl⟩
  · exact ⟨1, Or.inl rfl, rfl⟩
  · exact ⟨60, Or.inr (Or.inl rfl), rfl⟩
  · exact ⟨1440, Or.inr (Or.inr (Or.inl rfl)), rfl⟩
  · exact ⟨1000, Or.inr (Or.inr (Or.inr rfl)), rfl⟩
  · exact ⟨1, Or.inl rfl, rfl⟩
/-- begun units, both ways -/
theorem cb_ev {p : Int32} {j : Nat} (hj : j < 6) (h1 : ¬ p < 1) (h2 : ¬ 50000 < p) : ∃ q, 1 ≤ q ∧ q ≤ 50000 ∧ cb_bu p (fx_unit j) = nI q ∧ md_ev p (fx_unit j) = nI q := by
  have h0 : ¬ p < 0 := fun z => h1 (by simp only [Int32.lt_iff_toInt_lt] at z ⊢; have e1 : (0 : Int32).toInt = 0 := rfl; have e2 : (1 : Int32).toInt = 1 := rfl; omega)
  obtain ⟨a, ha, rfl⟩ := nI_of2 (M := 50000) (n := 50000) (by decide) h0 (Int32.not_lt.mp h2)
  have ha1 : 1 ≤ a := by
    rcases Nat.eq_zero_or_pos a with z | z
    · subst z; exact absurd (show nI 0 < 1 by decide) h1
    · exact z
  obtain ⟨u, hu, eu⟩ := cb_unit j hj
  have hu1 : 1 ≤ u ∧ u ≤ 1440 := by omega
  have hd : (a - 1) / u + 1 = a / u + (if a % u = 0 then 0 else 1) := by
    rcases hu with rfl | rfl | rfl | rfl <;> split <;> omega
  have hle : (a - 1) / u ≤ a - 1 := Nat.div_le_self _ _
  refine ⟨(a - 1) / u + 1, Nat.le_add_left 1 _, by clear hd; omega, ?_, ?_⟩
  · rw [eu]
    unfold cb_bu cb_quo
    rw [show nI a - 1 = nI (a - 1) from nI_subN (b := 1) ha1, nI_l (by omega), nI_l (by omega), if_neg (by
      intro z
      have := (lN_lt (a := u) (b := 1) (by omega) (by omega)).mp z
      omega), lN_divN (by omega) (by omega), lN_i, nI_1]
  · rw [eu]
    unfold md_ev
    have hm : u * (a / u) ≤ a := Nat.mul_div_le a u
    rw [nI_divN (by omega) (by omega), md_mul, nI_subN (by rw [Nat.mul_comm]; exact hm), hd]
    have hr : a - a / u * u = a % u := by have := Nat.div_add_mod a u; rw [Nat.mul_comm]; omega
    rw [hr]
    have hl : a % u < u := Nat.mod_lt _ (by omega)
    by_cases e : a % u = 0
    · rw [if_pos e, e, if_pos (by decide)]; exact Int32.add_zero _
    · rw [if_neg e, if_neg (show ¬ nI (a % u) ≤ 0 from fun z => e (Nat.le_zero.mp ((nI_leI (a := a % u) (b := 0) (by omega) (by omega)).mp z))), nI_1]
theorem cb_bit0 : ∀ m, m < 64 → ∀ k, k < 6 → (((nI m >>> (nI k &&& 31)) &&& 1 = 0) ↔ ¬ m.testBit k = true) := by decide +kernel
/-- the units that wait: a number that is not too large -/
theorem md_us_b {A : Nat → Nat → Int32} {c k : Int32} : ∀ {n : Nat}, (∀ i, i < n → ∃ u, 1 ≤ u ∧ u ≤ 50000 ∧ A 5 i = nI u) → ∃ q, q ≤ 50000 * n ∧ md_us A c k n = nI q
  | 0, _ => ⟨0, by omega, rfl⟩
  | n + 1, h => by
    obtain ⟨q, hq, e⟩ := md_us_b (A := A) (c := c) (k := k) (n := n) (fun i hi => h i (by omega))
    obtain ⟨u, -, hu, e2⟩ := h n (by omega)
    by_cases z : A 3 n = c ∧ A 4 n = k
    · exact ⟨q + u, by omega, by rw [md_us_s z, e, e2, nI_add]⟩
    · exact ⟨q, by omega, by rw [md_us_n z, e]; exact Int32.add_zero _⟩
/-- a line's cents, both ways -/
theorem cb_ce {t0 t1 t3 kp ko ch : Int32} {per kk kb a : Nat} (h1 : t1 = nI per) (hp : 1 ≤ per ∧ per ≤ 9999) (hk : kp = nI kk) (hb : ko = nI kb) (hkb : 1 ≤ kb ∧ kb ≤ 1000000) (hc : ch = nI a) (ha : a < 2 ^ 31) {tr : Nat → Int32} (e0 : tr 0 = t0) (e1 : tr 1 = t1) (e3 : tr 3 = t3) :
    cb_cents tr kp ko ch = md_mx (md_ce (t0.toInt64 * ch.toInt64 * kp.toInt64) (t1.toInt64 * ko.toInt64)) (if ch ≤ 0 then 0 else t3.toInt64) ∧ ¬ t1.toInt64 * ko.toInt64 = 0 := by
  have hu : t1.toInt64 * ko.toInt64 = Int64.ofNat (per * kb) := by
    rw [h1, hb, nI_l (by omega), nI_l (by omega)]
    exact lN_mul per kb
  have hpk : per * kb ≤ 9999 * 1000000 := Nat.mul_le_mul hp.2 hkb.2
  have hpk1 : 1 ≤ per * kb := Nat.mul_pos hp.1 hkb.1
  have hi : (Int64.ofNat (per * kb)).toInt = ((per * kb : Nat) : Int) := Int64.toInt_ofNat_of_lt (by omega)
  have hn1 : ¬ t1.toInt64 * ko.toInt64 < 1 := by
    rw [hu, Int64.lt_iff_toInt_lt, hi]
    have e : (1 : Int64).toInt = 1 := rfl
    omega
  have hn0 : ¬ t1.toInt64 * ko.toInt64 = 0 := fun z => hn1 (by rw [z]; decide)
  refine ⟨?_, hn0⟩
  generalize hov : t0.toInt64 * ch.toInt64 * kp.toInt64 = ov
  generalize hun : t1.toInt64 * ko.toInt64 = un at hn1 hn0 hu
  have hq : cb_quo ov un = ov / un := if_neg hn1
  have hr : cb_rhu ov un = md_ce ov un := by
    unfold cb_rhu md_ce
    rw [hq]
    by_cases z : 2 * (ov - ov / un * un) < un
    · rw [if_pos z, if_pos z]; exact (Int64.add_zero _).symm
    · rw [if_neg z, if_neg z]
  unfold cb_cents
  rw [e0, e1, e3, hov, hun, hr]
  by_cases z : ch = 0
  · rw [if_pos z, if_pos (by rw [z]; decide)]
    have h0 : ov = 0 := by rw [← hov, z]; show t0.toInt64 * 0 * kp.toInt64 = 0; rw [Int64.mul_zero, Int64.zero_mul]
    rw [h0]
    have hd0 : (0 : Int64) / un = 0 := Int64.zero_div
    have hce : md_ce 0 un = 0 := by
      unfold md_ce
      rw [hd0, Int64.zero_mul, Int64.sub_zero, Int64.mul_zero]
      have hlt : (0 : Int64) < un := by
        rw [Int64.lt_iff_toInt_lt]
        rw [Int64.lt_iff_toInt_lt] at hn1
        have e : (1 : Int64).toInt = 1 := rfl
        have e' : (0 : Int64).toInt = 0 := rfl
        have hne : un.toInt ≠ 0 := fun q => hn0 (Int64.toInt_inj.mp q)
        omega
      rw [if_pos hlt]; rfl
    rw [hce]
    rfl
  · have ha0 : ¬ a = 0 := fun q => z (by rw [hc, q]; rfl)
    have hc0 : ¬ ch ≤ 0 := fun q => ha0 (by rw [hc] at q; have := (nI_leI (a := a) (b := 0) ha (by omega)).mp q; omega)
    rw [if_neg z, if_neg hc0]
    unfold md_mx
    generalize md_ce ov un = r
    generalize t3.toInt64 = w
    by_cases q1 : w < r
    · rw [if_pos q1, if_neg (by rw [Int64.lt_iff_toInt_lt] at q1 ⊢; omega)]
    · rw [if_neg q1]
      by_cases q2 : r < w
      · rw [if_pos q2]
      · rw [if_neg q2]; exact Int64.toInt_inj.mp (by rw [Int64.lt_iff_toInt_lt] at q1 q2; omega)
