/-! THE RELATION of an object and the reference -/
def rT (z0 x1 : Int32) (sg a1 : Nat → Int32) : Prop := ∃ n, n ≤ 120 ∧ z0 = nI n ∧ x1 = nI n ∧ (∀ j, j < n → a1 j = sg j) ∧ ∀ j, narrow .char (.int (sg j)) = .int (sg j)
def rK (z3 x2 : Int32) (g1 : Nat → Nat → Int32) (a2 : Nat → Int32) : Prop := ∃ mw, mw < 64 ∧ z3 = nI mw ∧ x2 = nI mw ∧ ∀ k, k < 6 → (∀ j, j < 4 → g1 k j = if mw.testBit k = true then a2 (4 * k + j) else cb_t0 j) ∧ (mw.testBit k = true → (∃ q, 1 ≤ q ∧ q ≤ 9999 ∧ a2 (4 * k + 1) = nI q) ∧ (∃ q, q ≤ 9999 ∧ a2 (4 * k + 2) = nI q))
def rE (z4 x4 : Int32) (we : Nat → Int32) (g2 : Nat → Nat → Int32) (A : Nat → Nat → Int32) : Prop := ∃ nw, nw ≤ 100 ∧ z4 = nI nw ∧ x4 = nI nw ∧ (∀ i, i < nw → (∃ c, c < 10 ∧ A 3 i = nI c) ∧ (∃ u, 1 ≤ u ∧ u ≤ 50000 ∧ A 5 i = nI u)) ∧ (∀ c, c < 10 → we c = nI (cb_cnt (fun i => decide (A 3 i = nI c)) nw)) ∧ ∀ c, c < 10 → ∀ k, k < 6 → g2 c k = md_us A (nI c) (nI k) nw
def rD (g3 g4 g5 : Nat → Nat → Int32) (A : Nat → Nat → Int32) : Prop := ∀ c, c < 10 → ∀ k, k < 6 → ∃ d, d ≤ 3 ∧ A 6 (6 * c + k) = nI d ∧ g3 c k = nI d ∧ ∃ a b : Nat, a ≤ 100 ^ d ∧ 1 ≤ b ∧ b ≤ 100 ^ d ∧ g4 c k = nI a ∧ g5 c k = nI b ∧ (∀ v, md_pa A (6 * c + k) v d = v * (nI a).toInt64) ∧ (∀ v, md_pb A (6 * c + k) v d = v * (nI b).toInt64)
def rLj (nl : Nat) (li : Nat → Nat → Int32) (ll : Nat → Nat → Int64) (A : Nat → Nat → Int32) (B : Nat → Nat → Int64) (j : Nat) : Prop := li j 0 = A 9 j ∧ li j 1 = A 10 j ∧ li j 2 = A 11 j ∧ li j 3 = A 12 j ∧ li j 4 = A 13 j ∧ li j 5 = A 17 j ∧ li j 6 = A 16 (md_root A j) ∧ ll j 0 = B 14 j ∧ ll j 1 = (if A 13 j = -1 then md_wh A B j nl else B 14 j) ∧ (A 13 j = -1 ∨ ∃ t, t < nl ∧ A 13 j = nI t ∧ A 13 t = -1)
def rL (nl : Nat) (x5 : Int32) (li : Nat → Nat → Int32) (ll : Nat → Nat → Int64) (A : Nat → Nat → Int32) (B : Nat → Nat → Int64) : Prop := nl ≤ 200 ∧ x5 = nI nl ∧ (∀ j, j < nl → rLj nl li ll A B j) ∧ (∀ q, A 16 q = 0 ∨ A 16 q = 1) ∧ (∀ q, nl ≤ q → A 16 q = 0)
def rP (pd : Nat → Int64) (B : Nat → Nat → Int64) : Prop := ∀ c, c < 10 → pd c = B 15 c
theorem md_us_e {A A' : Nat → Nat → Int32} (h3 : A' 3 = A 3) (h4 : A' 4 = A 4) (h5 : A' 5 = A 5) {c k : Int32} : ∀ {n : Nat}, md_us A' c k n = md_us A c k n
  | 0 => rfl
  | n + 1 => by
    show md_us A' c k n + (if A' 3 n = c ∧ A' 4 n = k then A' 5 n else 0) = md_us A c k n + (if A 3 n = c ∧ A 4 n = k then A 5 n else 0)
    rw [md_us_e h3 h4 h5, h3, h4, h5]
theorem rE.ext {z4 x4 z4' x4' : Int32} {we : Nat → Int32} {g2 : Nat → Nat → Int32} {A A' : Nat → Nat → Int32} (hz : z4' = z4) (hx : x4' = x4) (h3 : A' 3 = A 3) (h4 : A' 4 = A 4) (h5 : A' 5 = A 5) (h : rE z4 x4 we g2 A) : rE z4' x4' we g2 A' := by
  obtain ⟨nw, a1, a2, a3, a4, a5, a6⟩ := h
  refine ⟨nw, a1, hz.trans a2, hx.trans a3, fun i hi => by rw [h3, h5]; exact a4 i hi, fun c hc => by rw [h3]; exact a5 c hc, fun c hc k hk => by rw [md_us_e h3 h4 h5]; exact a6 c hc k hk⟩
theorem md_pa_e {A A' : Nat → Nat → Int32} {q : Nat} {v : Int64} : ∀ {n : Nat}, (∀ i, i < n → A' 7 (3 * q + i) = A 7 (3 * q + i)) → (∀ i, i < n → A' 8 (3 * q + i) = A 8 (3 * q + i)) → md_pa A' q v n = md_pa A q v n
  | 0, _, _ => rfl
  | n + 1, h7, h8 => by
    show md_pa A' q v n * _ = md_pa A q v n * _
    rw [md_pa_e (fun i hi => h7 i (by omega)) (fun i hi => h8 i (by omega)), h7 n (by omega), h8 n (by omega)]
theorem md_pb_e {A A' : Nat → Nat → Int32} {q : Nat} {v : Int64} : ∀ {n : Nat}, (∀ i, i < n → A' 8 (3 * q + i) = A 8 (3 * q + i)) → md_pb A' q v n = md_pb A q v n
  | 0, _ => rfl
  | n + 1, h8 => by
    show md_pb A' q v n * _ = md_pb A q v n * _
    rw [md_pb_e (fun i hi => h8 i (by omega)), h8 n (by omega)]
theorem rD.ext {g3 g4 g5 : Nat → Nat → Int32} {A A' : Nat → Nat → Int32} (h6 : A' 6 = A 6) (h7 : A' 7 = A 7) (h8 : A' 8 = A 8) (h : rD g3 g4 g5 A) : rD g3 g4 g5 A' := by
  intro c hc k hk
  obtain ⟨d, a1, a2, a3, a, b, b1, b2, b3, b4, b5, b6, b7⟩ := h c hc k hk
  refine ⟨d, a1, by rw [h6]; exact a2, a3, a, b, b1, b2, b3, b4, b5, fun v => ?_, fun v => ?_⟩
  · rw [md_pa_e (A := A) (fun i _ => by rw [h7]) (fun i _ => by rw [h8])]; exact b6 v
  · rw [md_pb_e (A := A) (fun i _ => by rw [h8])]; exact b7 v
theorem md_wh_e {A A' : Nat → Nat → Int32} {B B' : Nat → Nat → Int64} {t : Nat} (ht : B' 14 t = B 14 t) : ∀ {n : Nat}, (∀ i, i < n → A' 13 i = A 13 i) → (∀ i, i < n → B' 14 i = B 14 i) → md_wh A' B' t n = md_wh A B t n
  | 0, _, _ => ht
  | n + 1, h, hb => by
    show md_wh A' B' t n + (if A' 13 n = nI t then B' 14 n else 0) = md_wh A B t n + (if A 13 n = nI t then B 14 n else 0)
    rw [md_wh_e ht (fun i hi => h i (by omega)) (fun i hi => hb i (by omega)), h n (by omega), hb n (by omega)]
theorem rL.ext {nl : Nat} {x5 x5' : Int32} {li : Nat → Nat → Int32} {ll : Nat → Nat → Int64} {A A' : Nat → Nat → Int32} {B B' : Nat → Nat → Int64} (hx : x5' = x5) (h9 : A' 9 = A 9) (h10 : A' 10 = A 10) (h11 : A' 11 = A 11) (h12 : A' 12 = A 12) (h13 : A' 13 = A 13) (h16 : A' 16 = A 16) (h17 : A' 17 = A 17) (hb : B' 14 = B 14) (h : rL nl x5 li ll A B) : rL nl x5' li ll A' B' := by
  obtain ⟨a1, a2, a3, a4, a5⟩ := h
  refine ⟨a1, hx.trans a2, fun j hj => ?_, by rw [h16]; exact a4, by rw [h16]; exact a5⟩
  obtain ⟨b0, b1, b2, b3, b4, b5, b6, b7, b8, b9⟩ := a3 j hj
  have hr : md_root A' j = md_root A j := by unfold md_root; rw [h13]
  refine ⟨by rw [h9]; exact b0, by rw [h10]; exact b1, by rw [h11]; exact b2, by rw [h12]; exact b3, by rw [h13]; exact b4, by rw [h17]; exact b5, by rw [h16, hr]; exact b6, by rw [hb]; exact b7, ?_, by rw [h13]; exact b9⟩
  rw [md_wh_e (A := A) (B := B) (by rw [hb]) (fun i _ => by rw [h13]) (fun i _ => by rw [hb]), h13, hb]
  exact b8
theorem rL.cr {nl : Nat} {x5 : Int32} {li : Nat → Nat → Int32} {ll : Nat → Nat → Int64} {A : Nat → Nat → Int32} {B : Nat → Nat → Int64} (h : rL nl x5 li ll A B) : md_cr A nl := fun j hj => (h.2.2.1 j hj).2.2.2.2.2.2.2.2.2.imp id (fun ⟨t, ht, h1, _⟩ => ⟨t, ht, h1⟩)
theorem rL.bz {nl : Nat} {x5 : Int32} {li : Nat → Nat → Int32} {ll : Nat → Nat → Int64} {A : Nat → Nat → Int32} {B : Nat → Nat → Int64} (h : rL nl x5 li ll A B) : ∀ j, j < nl → li j 6 = 0 ∨ li j 6 = 1 := fun j hj => by
  rw [(h.2.2.1 j hj).2.2.2.2.2.2.1]
  exact h.2.2.2.1 _
/-- an object and the reference, in their worlds -/
def rR {l : Launch} {s0 : State} {D : va_G} {cI cC cJ cII cO cZ : ClassId} (F : FX l s0 D cI cC cJ cII cO cZ) (xa ma : Nat) (wc wm : va_W) : Prop :=
  ∃ (κ : Nat → Nat) (ra : Nat → Nat → Nat) (z sg : Nat → Int32) (G : Nat → Nat → Nat → Int32) (we : Nat → Int32) (pd : Nat → Int64) (nl : Nat) (la lp : Nat → Nat) (li : Nat → Nat → Int32) (ll : Nat → Nat → Int64) (μ : Nat → Nat) (x : Nat → Int32) (A : Nat → Nat → Int32) (B : Nat → Nat → Int64),
    cb_I cI cC cJ cII wc κ ra z sg G we pd ∧ cb_L cO wc (κ 62) (z 5) (fx_e0 F) nl la lp li ll ∧ md_I cI cJ cZ wm μ x A B ∧ κ 0 = xa ∧ μ 0 = ma ∧ rT (z 0) (x 1) sg (A 1) ∧ rK (z 3) (x 2) (G 1) (A 2) ∧ rE (z 4) (x 4) we (G 2) A ∧ rD (G 3) (G 4) (G 5) A ∧ rL nl (x 5) li ll A B ∧ rP pd B
