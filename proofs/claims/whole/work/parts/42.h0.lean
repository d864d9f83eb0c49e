/-! the heap behind both constructors, as the layout has it -/
set_option maxRecDepth 100000 in
theorem net_H4 {D : va_G} {cs : ClassId × ClassId × ClassId} {b n : Nat} {H : Heap} (h : ∀ i x, (nc_oX3 (lay D cs b) (b + nb n))[i]? = some x → va_at D vwCl (b + nb n + i, x) H) : va_at D vwCl (b + off (7, n, 0, 0), nf_cell (lay D cs b) s0 (7, n, 0, 0)) H := by
  have h1 := h 12 _ rfl
  rw [Nat.add_assoc] at h1
  refine Eq.trans (show H[b + (nb n + 12)]? = some (vp_cell _ _) from h1) ?_
  refine congrArg some (qf_ofFn (fun j hj => ?_) _)
  rcases (show j = 0 ∨ j = 1 ∨ j = 2 ∨ j = 3 ∨ j = 4 ∨ j = 5 by omega) with rfl | rfl | rfl | rfl | rfl | rfl <;> simp [va_up, lay, off, Nat.add_assoc]
theorem lq_at (b k : Nat) (hk : k < 4) : lq b 4 0 (fun _ => none) k = some (b + nb (k + 1)) := by
  rcases (show k = 0 ∨ k = 1 ∨ k = 2 ∨ k = 3 by omega) with rfl | rfl | rfl | rfl <;> simp [lq, va_up, nb]
