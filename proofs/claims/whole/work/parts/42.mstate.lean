/-! THE REFERENCE's STATE: its cells in a world. x: 0 thrown, 1 signs, 2 tariffs, 3 newTariffs, 4 waiting, 5 lines; A: int arrays by place (16, 17 of booleans); B: long arrays by place -/
def md_n (k : Nat) : Nat := if k = 1 then 120 else if k = 2 then 48 else if k < 6 then 100 else if k = 6 then 60 else if k < 9 then 180 else if k = 15 then 10 else 200
def md_o (μ : Nat → Nat) (x : Nat → Int32) : List Value := [.int (x 0), .ref (μ 1), .int (x 1), .int (x 2), .ref (μ 2), .int (x 3), .int (x 4), .ref (μ 3), .ref (μ 4), .ref (μ 5), .ref (μ 6), .ref (μ 7), .ref (μ 8), .int (x 5), .ref (μ 9), .ref (μ 10), .ref (μ 11), .ref (μ 12), .ref (μ 14), .ref (μ 13), .ref (μ 16), .ref (μ 17), .ref (μ 15)]
def md_I (cI cJ cZ : ClassId) (ws : va_W) (μ : Nat → Nat) (x : Nat → Int32) (A : Nat → Nat → Int32) (B : Nat → Nat → Int64) : Prop :=
  ws[0]? = some (μ 0, .inr (iMD, md_o μ x)) ∧ (∀ k, 1 ≤ k → k ≤ 13 → ws[k]? = some (μ k, .inl (cI, md_n k, .inl (A k)))) ∧ (∀ k, 14 ≤ k → k ≤ 15 → ws[k]? = some (μ k, .inl (cJ, md_n k, .inr (.inl (B k))))) ∧ (∀ k, 16 ≤ k → k ≤ 17 → ws[k]? = some (μ k, .inl (cZ, md_n k, .inl (A k))))
section MDI
variable {cI cJ cZ : ClassId} {ws : va_W} {μ : Nat → Nat} {x x' : Nat → Int32} {A : Nat → Nat → Int32} {B : Nat → Nat → Int64}
theorem md_I.obj (h : md_I cI cJ cZ ws μ x A B) : md_I cI cJ cZ (ws.set 0 (μ 0, .inr (iMD, md_o μ x'))) μ x' A B := by
  obtain ⟨h0, h1, h2, h3⟩ := h
  exact ⟨gx_ss h0, fun k a b => gx_sn (by omega) (h1 k a b), fun k a b => gx_sn (by omega) (h2 k a b), fun k a b => gx_sn (by omega) (h3 k a b)⟩
theorem md_I.int {j : Nat} {f : Nat → Int32} (j1 : 1 ≤ j) (j2 : j ≤ 13) (h : md_I cI cJ cZ ws μ x A B) : md_I cI cJ cZ (ws.set j (μ j, .inl (cI, md_n j, .inl f))) μ x (cb_upr A j f) B := by
  obtain ⟨h0, h1, h2, h3⟩ := h
  refine ⟨gx_sn (by omega) h0, fun k a b => ?_, fun k a b => gx_sn (by omega) (h2 k a b), fun k a b => ?_⟩
  · by_cases e : k = j
    · subst e
      simp only [cb_upr, if_true]
      exact gx_ss (h1 k a b)
    · simp only [cb_upr, if_neg e]
      exact gx_sn (Ne.symm e) (h1 k a b)
  · simp only [cb_upr, if_neg (show ¬ k = j by omega)]
    exact gx_sn (by omega) (h3 k a b)
theorem md_I.boo {j : Nat} {f : Nat → Int32} (j1 : 16 ≤ j) (j2 : j ≤ 17) (h : md_I cI cJ cZ ws μ x A B) : md_I cI cJ cZ (ws.set j (μ j, .inl (cZ, md_n j, .inl f))) μ x (cb_upr A j f) B := by
  obtain ⟨h0, h1, h2, h3⟩ := h
  refine ⟨gx_sn (by omega) h0, fun k a b => ?_, fun k a b => gx_sn (by omega) (h2 k a b), fun k a b => ?_⟩
  · simp only [cb_upr, if_neg (show ¬ k = j by omega)]
    exact gx_sn (by omega) (h1 k a b)
  · by_cases e : k = j
    · subst e
      simp only [cb_upr, if_true]
      exact gx_ss (h3 k a b)
    · simp only [cb_upr, if_neg e]
      exact gx_sn (Ne.symm e) (h3 k a b)
theorem md_I.lng {j : Nat} {f : Nat → Int64} (j1 : 14 ≤ j) (j2 : j ≤ 15) (h : md_I cI cJ cZ ws μ x A B) : md_I cI cJ cZ (ws.set j (μ j, .inl (cJ, md_n j, .inr (.inl f)))) μ x A (cb_upr B j f) := by
  obtain ⟨h0, h1, h2, h3⟩ := h
  refine ⟨gx_sn (by omega) h0, fun k a b => gx_sn (by omega) (h1 k a b), fun k a b => ?_, fun k a b => gx_sn (by omega) (h3 k a b)⟩
  by_cases e : k = j
  · subst e
    simp only [cb_upr, if_true]
    exact gx_ss (h2 k a b)
  · simp only [cb_upr, if_neg e]
    exact gx_sn (Ne.symm e) (h2 k a b)
end MDI
section GXz
variable {p : Program} {l : Launch} {e : Env} {R : Room} {s : State} {m : MethodId} {args : Array Value} {below : List Frame} {meth : Method} {c : Code} {H : Heap} {locs : List Loc} {cells slots : Nat} {Q : State → Prop}
variable {cc : ByteArray} {pc : Nat} {ls : Array Slot} {rest : List Value} {D : va_G} {cl : List vw_C} {A : Nat → Prop} {a : Nat} {tys : List (ClassId × FieldType)} {ws : va_W} {H0 : Heap}
theorem gx_zl (hexec : p.tables.exec = Jvm.exec) (hb : c.code = cc) (hK : va_K D cl tys s) (hP : va_P D cl ws H) (q0 t0 : Nat) {cA : ClassId} {n : Nat} {f : Nat → Int32} (ha : ws[q0]? = some (a, .inl (cA, n, .inl f))) (ht : tys[t0]? = some (cA, .boolean)) {i : Int32} (j : Nat) (hi : i = nI j) (hj : j < n) (hn : n < 2 ^ 31) (hdg : decode cc pc = .ok (.baload, 1))
    (kk : W p l e R s m args below meth c H locs cells slots Q (F0 m (pc + 1) ls (.int (f j) :: rest))) : W p l e R s m args below meth c H locs cells slots Q (F0 m pc ls (.int i :: .ref a :: rest)) := by
  subst hi
  refine va_zald hexec hb hK hP q0 t0 ha ht (vp_in_nI hj hn) hdg ?_
  rw [nI_clamp (by omega)]
  exact kk
theorem gx_zs (hexec : p.tables.exec = Jvm.exec) (hb : c.code = cc) (hK : va_K D cl tys s) (hP : va_P D cl ws H) (hD : va_D A ws) (hS : va_S A H0 H locs) (q0 t0 : Nat) {cA : ClassId} {n : Nat} {f : Nat → Int32} (ha : ws[q0]? = some (a, .inl (cA, n, .inl f))) (ht : tys[t0]? = some (cA, .boolean)) {i : Int32} {x : Int32} (j : Nat) (hi : i = nI j) (hj : j < n) (hn : n < 2 ^ 31) (hx9 : vp_nar .boolean x = x) (hdg : decode cc pc = .ok (.bastore, 1))
    (kk : ∀ (H1 : Heap) (locs1 : List Loc), va_P D cl (ws.set q0 (a, .inl (cA, n, .inl (upd f j x)))) H1 → va_D A (ws.set q0 (a, .inl (cA, n, .inl (upd f j x)))) → va_S A H0 H1 locs1 → W p l e R s m args below meth c H1 locs1 cells slots Q (F0 m (pc + 1) ls rest)) : W p l e R s m args below meth c H locs cells slots Q (F0 m pc ls (.int x :: .int i :: .ref a :: rest)) := by
  subst hi
  refine va_zast hexec hb hK hP hD hS q0 t0 ha ht (vp_in_nI hj hn) hdg ?_
  rw [nI_clamp (by omega), hx9]
  exact kk
end GXz
theorem md_mul (a b : Nat) : nI a * nI b = nI (a * b) := (Int32.ofNat_mul a b).symm
theorem md_lt (p c : Int32) : p.toInt64 < c.toInt64 ↔ p < c := by
  rw [Int64.lt_iff_toInt_lt, Int32.lt_iff_toInt_lt, Int32.toInt_toInt64, Int32.toInt_toInt64]
theorem md_bad {p : Int32} {lo hi : Int32} (h : p.toInt64 < lo.toInt64 ∨ hi.toInt64 < p.toInt64) : p < lo ∨ hi < p := h.imp (md_lt p lo).mp (md_lt hi p).mp
theorem md_good {p : Int32} {lo hi : Int32} (h1 : ¬ p.toInt64 < lo.toInt64) (h2 : ¬ hi.toInt64 < p.toInt64) : ¬ p < lo ∧ ¬ hi < p := ⟨fun q => h1 ((md_lt p lo).mpr q), fun q => h2 ((md_lt hi p).mpr q)⟩
theorem fx_unit_ne : ∀ j, j < 6 → ¬ fx_unit j = 0 := by decide
/-- an event's units -/
def md_ev (p u : Int32) : Int32 := p / u + (if p - p / u * u ≤ 0 then 0 else 1)
/-- the units that wait, of a call and kind, among the first events -/
def md_us (A : Nat → Nat → Int32) (c k : Int32) : Nat → Int32
  | 0 => 0
  | i + 1 => md_us A c k i + (if A 3 i = c ∧ A 4 i = k then A 5 i else 0)
theorem md_us_s {A : Nat → Nat → Int32} {c k : Int32} {i : Nat} (h : A 3 i = c ∧ A 4 i = k) : md_us A c k (i + 1) = md_us A c k i + A 5 i := by
  show md_us A c k i + (if A 3 i = c ∧ A 4 i = k then A 5 i else 0) = _
  rw [if_pos h]
theorem md_us_n {A : Nat → Nat → Int32} {c k : Int32} {i : Nat} (h : ¬ (A 3 i = c ∧ A 4 i = k)) : md_us A c k (i + 1) = md_us A c k i + 0 := by
  show md_us A c k i + (if A 3 i = c ∧ A 4 i = k then A 5 i else 0) = _
  rw [if_neg h]
/-- a line is written -/
def md_nl (A : Nat → Nat → Int32) (nl : Nat) (c k u ch co : Int32) : Nat → Nat → Int32 := cb_upr (cb_upr (cb_upr (cb_upr (cb_upr A 9 (upd (A 9) nl c)) 10 (upd (A 10) nl k)) 11 (upd (A 11) nl u)) 12 (upd (A 12) nl ch)) 13 (upd (A 13) nl co)
/-- a line with its corrections -/
def md_wh (A : Nat → Nat → Int32) (B : Nat → Nat → Int64) (t : Nat) : Nat → Int64
  | 0 => B 14 t
  | i + 1 => md_wh A B t i + (if A 13 i = nI t then B 14 i else 0)
theorem md_wh_s {A : Nat → Nat → Int32} {B : Nat → Nat → Int64} {t i : Nat} (h : A 13 i = nI t) : md_wh A B t (i + 1) = md_wh A B t i + B 14 i := by
  show md_wh A B t i + (if A 13 i = nI t then B 14 i else 0) = _
  rw [if_pos h]
theorem md_wh_n {A : Nat → Nat → Int32} {B : Nat → Nat → Int64} {t i : Nat} (h : ¬ A 13 i = nI t) : md_wh A B t (i + 1) = md_wh A B t i + 0 := by
  show md_wh A B t i + (if A 13 i = nI t then B 14 i else 0) = _
  rw [if_neg h]
/-- the line that a line speaks of -/
def md_root (A : Nat → Nat → Int32) (j : Nat) : Nat := if A 13 j = -1 then j else (A 13 j).toNatClampNeg
def md_cr (A : Nat → Nat → Int32) (nl : Nat) : Prop := ∀ j, j < nl → A 13 j = -1 ∨ ∃ t, t < nl ∧ A 13 j = nI t
theorem md_root_lt {A : Nat → Nat → Int32} {nl j : Nat} (h : md_cr A nl) (hn : nl ≤ 200) (hj : j < nl) : md_root A j < nl := by
  unfold md_root
  by_cases e : A 13 j = -1
  · rw [if_pos e]; exact hj
  · rw [if_neg e]
    rcases h j hj with q | ⟨t, ht, q⟩
    · exact absurd q e
    · rw [q, nI_clamp (by omega)]; exact ht
/-- what is owed: the undisputed lines of a call on top of v -/
def md_lf (A : Nat → Nat → Int32) (B : Nat → Nat → Int64) (c : Int32) (v : Int64) : Nat → Int64
  | 0 => v
  | i + 1 => md_lf A B c v i + (if A 9 i = c ∧ A 16 (md_root A i) = 0 then B 14 i else 0)
theorem md_lf_s {A : Nat → Nat → Int32} {B : Nat → Nat → Int64} {c : Int32} {v : Int64} {i : Nat} (h : A 9 i = c ∧ A 16 (md_root A i) = 0) : md_lf A B c v (i + 1) = md_lf A B c v i + B 14 i := by
  show md_lf A B c v i + (if A 9 i = c ∧ A 16 (md_root A i) = 0 then B 14 i else 0) = _
  rw [if_pos h]
theorem md_lf_n {A : Nat → Nat → Int32} {B : Nat → Nat → Int64} {c : Int32} {v : Int64} {i : Nat} (h : ¬ (A 9 i = c ∧ A 16 (md_root A i) = 0)) : md_lf A B c v (i + 1) = md_lf A B c v i + 0 := by
  show md_lf A B c v i + (if A 9 i = c ∧ A 16 (md_root A i) = 0 then B 14 i else 0) = _
  rw [if_neg h]
/-- the events but a call's, moved together -/
def md_te (c : Int32) (a3 a4 a5 : Nat → Int32) : Nat → Nat × (Nat → Int32) × (Nat → Int32) × (Nat → Int32)
  | 0 => (0, a3, a4, a5)
  | i + 1 => if (md_te c a3 a4 a5 i).2.1 i = c then md_te c a3 a4 a5 i else ((md_te c a3 a4 a5 i).1 + 1, upd (md_te c a3 a4 a5 i).2.1 (md_te c a3 a4 a5 i).1 ((md_te c a3 a4 a5 i).2.1 i), upd (md_te c a3 a4 a5 i).2.2.1 (md_te c a3 a4 a5 i).1 ((md_te c a3 a4 a5 i).2.2.1 i), upd (md_te c a3 a4 a5 i).2.2.2 (md_te c a3 a4 a5 i).1 ((md_te c a3 a4 a5 i).2.2.2 i))
theorem md_te_s {c : Int32} {a3 a4 a5 : Nat → Int32} {i : Nat} (h : ¬ (md_te c a3 a4 a5 i).2.1 i = c) : md_te c a3 a4 a5 (i + 1) = ((md_te c a3 a4 a5 i).1 + 1, upd (md_te c a3 a4 a5 i).2.1 (md_te c a3 a4 a5 i).1 ((md_te c a3 a4 a5 i).2.1 i), upd (md_te c a3 a4 a5 i).2.2.1 (md_te c a3 a4 a5 i).1 ((md_te c a3 a4 a5 i).2.2.1 i), upd (md_te c a3 a4 a5 i).2.2.2 (md_te c a3 a4 a5 i).1 ((md_te c a3 a4 a5 i).2.2.2 i)) := if_neg h
theorem md_te_n {c : Int32} {a3 a4 a5 : Nat → Int32} {i : Nat} (h : (md_te c a3 a4 a5 i).2.1 i = c) : md_te c a3 a4 a5 (i + 1) = md_te c a3 a4 a5 i := if_pos h
theorem md_te_le (c : Int32) (a3 a4 a5 : Nat → Int32) : ∀ i, (md_te c a3 a4 a5 i).1 ≤ i
  | 0 => Nat.le_refl 0
  | i + 1 => by
    have := md_te_le c a3 a4 a5 i
    by_cases h : (md_te c a3 a4 a5 i).2.1 i = c
    · rw [md_te_n h]; omega
    · rw [md_te_s h]; show (md_te c a3 a4 a5 i).1 + 1 ≤ _; omega
