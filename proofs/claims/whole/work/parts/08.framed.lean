/-! FRAMED: calls that take the right half of the world; calls that may throw, caught by the caller -/
theorem gx_swap {D : va_G} {cl : List vw_C} {w1 w2 : va_W} {H : Heap} (h : va_P D cl (w1 ++ w2) H) : va_P D cl (w2 ++ w1) H := va_P.app (gx_right h) (gx_left h)
theorem gx_swapD {A : Nat → Prop} {w1 w2 : va_W} (h : va_D A (w1 ++ w2)) : va_D A (w2 ++ w1) := by
  refine va_D.app (gx_rightD h) (gx_leftD h) (fun i j p q hp hq hpq => ?_)
  have h1 : (w1 ++ w2)[w1.length + i]? = some p := by rw [List.getElem?_append_right (Nat.le_add_right _ _), Nat.add_sub_cancel_left]; exact hp
  have h2 : (w1 ++ w2)[j]? = some q := by rw [List.getElem?_append_left (List.getElem?_eq_some_iff.mp hq).1]; exact hq
  have h3 := h.1 _ _ p q h1 h2 hpq
  have h4 := (List.getElem?_eq_some_iff.mp hq).1
  omega
section GXf
variable {p : Program} {l : Launch} {e : Env} {R : Room} {s : State} {m : MethodId} {args : Array Value} {below : List Frame} {meth : Method} {c : Code} {H : Heap} {locs : List Loc} {cells slots : Nat} {Q : State → Prop}
variable {cc : ByteArray} {pc : Nat} {ls : Array Slot} {rest st0 : List Value} {D : va_G} {cl : List vw_C} {A : Nat → Prop} {wr wc : va_W} {H0 : Heap} {mc ms : Nat} {a : Array Value} {s0 : State}
theorem gx_fcalli {post : Int32 → va_W → Prop} (hr : va_Run p l e R s m args below meth c H locs cells slots mc ms (F0 m pc ls st0) rest (va_Qi post (gx_B D cl wc H.size) (va_A wc H.size) a) (va_A wc H.size)) (hP : va_P D cl (wr ++ wc) H) (hD : va_D A (wr ++ wc)) (hS : va_S A H0 H locs) (hA : ∀ q, H0.size ≤ q → A q)
    (kk : ∀ (r : Int32) (w1 : va_W) (H1 : Heap) (locs1 : List Loc), post r w1 → va_P D cl (wr ++ w1) H1 → va_D A (wr ++ w1) → va_S A H0 H1 locs1 → W p l e R s m args below meth c H1 locs1 (cells + mc) (slots + ms) Q (F0 m (pc + 3) ls (.int r :: rest))) : W p l e R s m args below meth c H locs cells slots Q (F0 m pc ls st0) :=
  va_calli hr hS (fun q _ h => gx_all (gx_rightD hD) hS hA q h) (gx_all (gx_rightD hD) hS hA) (fun r u t H1 locs1 ht hvm hp hB hz hk hS1 => by
    obtain ⟨j1, j2⟩ := gx_join hP hD hk (gx_all (gx_rightD hD) hS hA) (by rw [← ht]; exact hB.1) hB.2
    exact kk r u H1 locs1 hp j1 j2 hS1)
theorem gx_fcalll {post : Int64 → va_W → Prop} (hr : va_Run p l e R s m args below meth c H locs cells slots mc ms (F0 m pc ls st0) rest (va_Ql post (gx_B D cl wc H.size) (va_A wc H.size) a) (va_A wc H.size)) (hP : va_P D cl (wr ++ wc) H) (hD : va_D A (wr ++ wc)) (hS : va_S A H0 H locs) (hA : ∀ q, H0.size ≤ q → A q)
    (kk : ∀ (r : Int64) (w1 : va_W) (H1 : Heap) (locs1 : List Loc), post r w1 → va_P D cl (wr ++ w1) H1 → va_D A (wr ++ w1) → va_S A H0 H1 locs1 → W p l e R s m args below meth c H1 locs1 (cells + mc) (slots + ms) Q (F0 m (pc + 3) ls (.long r :: rest))) : W p l e R s m args below meth c H locs cells slots Q (F0 m pc ls st0) :=
  va_calll hr hS (fun q _ h => gx_all (gx_rightD hD) hS hA q h) (gx_all (gx_rightD hD) hS hA) (fun r u t H1 locs1 ht hvm hp hB hz hk hS1 => by
    obtain ⟨j1, j2⟩ := gx_join hP hD hk (gx_all (gx_rightD hD) hS hA) (by rw [← ht]; exact hB.1) hB.2
    exact kk r u H1 locs1 hp j1 j2 hS1)
theorem gx_fcallv {post : va_W → Prop} (hr : va_Run p l e R s m args below meth c H locs cells slots mc ms (F0 m pc ls st0) rest (va_Qv post (gx_B D cl wc H.size) (va_A wc H.size) a) (va_A wc H.size)) (hP : va_P D cl (wr ++ wc) H) (hD : va_D A (wr ++ wc)) (hS : va_S A H0 H locs) (hA : ∀ q, H0.size ≤ q → A q)
    (kk : ∀ (w1 : va_W) (H1 : Heap) (locs1 : List Loc), post w1 → va_P D cl (wr ++ w1) H1 → va_D A (wr ++ w1) → va_S A H0 H1 locs1 → W p l e R s m args below meth c H1 locs1 (cells + mc) (slots + ms) Q (F0 m (pc + 3) ls rest)) : W p l e R s m args below meth c H locs cells slots Q (F0 m pc ls st0) :=
  va_callv hr hS (fun q _ h => gx_all (gx_rightD hD) hS hA q h) (gx_all (gx_rightD hD) hS hA) (fun u t H1 locs1 ht hvm hp hB hz hk hS1 => by
    obtain ⟨j1, j2⟩ := gx_join hP hD hk (gx_all (gx_rightD hD) hS hA) (by rw [← ht]; exact hB.1) hB.2
    exact kk u H1 locs1 hp j1 j2 hS1)
end GXf
