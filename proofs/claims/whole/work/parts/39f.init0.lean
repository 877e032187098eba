/-! A NEW OBJECT: what its making needs -/
section FXi
variable {s : State} {D : va_G} {cI cC cJ cII cO cZ cA : ClassId}
theorem gx_sameI (hK : va_K D classes (fx_ty cI cC cJ cII cO cZ ++ [(cA, .int)]) s) : cA = cI := by
  have h1 : s.vm.findClass ("[" ++ FieldType.int.toString) = some cA := (hK.2 6 _ rfl).2
  have h2 : s.vm.findClass ("[" ++ FieldType.int.toString) = some cI := (hK.2 0 _ rfl).2
  exact Option.some.inj (h1.symm.trans h2)
theorem gx_sameC (hK : va_K D classes (fx_ty cI cC cJ cII cO cZ ++ [(cA, .char)]) s) : cA = cC := by
  have h1 : s.vm.findClass ("[" ++ FieldType.char.toString) = some cA := (hK.2 6 _ rfl).2
  have h2 : s.vm.findClass ("[" ++ FieldType.char.toString) = some cC := (hK.2 1 _ rfl).2
  exact Option.some.inj (h1.symm.trans h2)
theorem gx_sameJ (hK : va_K D classes (fx_ty cI cC cJ cII cO cZ ++ [(cA, .long)]) s) : cA = cJ := by
  have h1 : s.vm.findClass ("[" ++ FieldType.long.toString) = some cA := (hK.2 6 _ rfl).2
  have h2 : s.vm.findClass ("[" ++ FieldType.long.toString) = some cJ := (hK.2 2 _ rfl).2
  exact Option.some.inj (h1.symm.trans h2)
theorem gx_sameZ (hK : va_K D classes (fx_ty cI cC cJ cII cO cZ ++ [(cA, .boolean)]) s) : cA = cZ := by
  have h1 : s.vm.findClass ("[" ++ FieldType.boolean.toString) = some cA := (hK.2 6 _ rfl).2
  have h2 : s.vm.findClass ("[" ++ FieldType.boolean.toString) = some cZ := (hK.2 5 _ rfl).2
  exact Option.some.inj (h1.symm.trans h2)
end FXi
def gx_grid (cI cII : ClassId) (h N K : Nat) : va_W := (h, .inl (cII, N, .inr (.inr (.inr (.inr (fun j => if j < N then some (h + 1 + j) else none)))))) :: (List.range N).map (fun j => (h + 1 + j, .inl (cI, K, .inl (fun _ => 0))))
theorem gx_grid_len {cI cII : ClassId} {h N K : Nat} : (gx_grid cI cII h N K).length = N + 1 := by simp [gx_grid]
theorem gx_grid_0 {w : va_W} {cI cII : ClassId} {h N K n : Nat} (hn : w.length = n) : (w ++ gx_grid cI cII h N K)[n]? = some (h, .inl (cII, N, .inr (.inr (.inr (.inr (fun j => if j < N then some (h + 1 + j) else none)))))) := by
  subst hn
  rw [List.getElem?_append_right (Nat.le_refl _), Nat.sub_self]
  rfl
theorem gx_grid_s {w : va_W} {cI cII : ClassId} {h N K n i : Nat} (hn : w.length = n) (hi : i < N) : (w ++ gx_grid cI cII h N K)[n + 1 + i]? = some (h + 1 + i, .inl (cI, K, .inl (fun _ => 0))) := by
  subst hn
  rw [List.getElem?_append_right (by omega), show w.length + 1 + i - w.length = i + 1 by omega]
  simp [gx_grid, hi]
theorem gx_lat2 {w : va_W} {x : Nat × va_E} {n : Nat} (hn : w.length = n) : (w ++ [x])[n]? = some x := by
  subst hn
  exact gx_lat _ _
def cb_κ0 (a tt qs h3 h10 h17 q28 h29 h40 h51 q62 q63 : Nat) : Nat → Nat := fun k => if k = 0 then a else if k = 1 then tt else if k = 2 then qs else if k = 3 then h3 else if k = 10 then h10 else if k = 17 then h17 else if k = 28 then q28 else if k = 29 then h29 else if k = 40 then h40 else if k = 51 then h51 else if k = 62 then q62 else q63
def cb_ra0 (h3 h10 h17 h29 h40 h51 : Nat) : Nat → Nat → Nat := fun g i => (if g = 0 then h3 else if g = 1 then h10 else if g = 2 then h17 else if g = 3 then h29 else if g = 4 then h40 else h51) + 1 + i
/-- a kind's row without a tariff -/
def cb_t0 : Nat → Int32 := upd (upd (fun _ => 0) 0 7) 1 1
theorem cb_t0_s {G : Nat → Nat → Nat → Int32} {i : Nat} {f : Nat → Int32} (h : ∀ k, G 1 k = if k < i then cb_t0 else fun _ => 0) : ∀ k, cb_upg (cb_upg G 1 i f) 1 i (upd (upd (G 1 i) 0 7) 1 1) 1 k = if k < i + 1 then cb_t0 else fun _ => 0 := by
  intro k
  rw [cb_gg]
  by_cases e : k = i
  · subst e
    rw [cb_upg_s, if_pos (by omega), h k, if_neg (by omega)]
    rfl
  · rw [cb_upg_n (fun q => e q.2), h k]
    by_cases q : k < i
    · rw [if_pos q, if_pos (by omega)]
    · rw [if_neg q, if_neg (by omega)]
theorem cb_f0_s {G : Nat → Nat → Nat → Int32} {g i : Nat} (h : ∀ k, G g k = if k < i then cb_fil (fun _ => 0) 1 6 else fun _ => 0) : ∀ k, cb_upg G g i (cb_fil (G g i) 1 6) g k = if k < i + 1 then cb_fil (fun _ => 0) 1 6 else fun _ => 0 := by
  intro k
  by_cases e : k = i
  · subst e
    rw [cb_upg_s, if_pos (by omega), h k, if_neg (by omega)]
  · rw [cb_upg_n (fun q => e q.2), h k]
    by_cases q : k < i
    · rw [if_pos q, if_pos (by omega)]
    · rw [if_neg q, if_neg (by omega)]
theorem cb_gk {G : Nat → Nat → Nat → Int32} {h i : Nat} {f : Nat → Int32} : ∀ g, g ≠ h → cb_upg G h i f g = G g := fun g hg => funext fun j => by simp [cb_upg, hg]
