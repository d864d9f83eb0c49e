/-! a net's block as the layout has it -/
theorem qf_ofFn {N : Nat} {f g : Nat → Option Nat} (h : ∀ j, j < N → f j = g j) (cA : ClassId) : vp_cell cA (N, .inr (.inr (.inr (.inr f)))) = vp_cell cA (N, .inr (.inr (.inr (.inr g)))) := by
  simp only [vp_cell, arrV]
  congr 1
  apply congrArg Array.ofFn
  funext x
  rw [h x.val x.isLt]
set_option maxRecDepth 100000 in
theorem net_H1 {D : va_G} {cs : ClassId × ClassId × ClassId} {b n : Nat} {H : Heap} (h : ∀ i x, (nc_oX3 (lay D cs b) (b + nb n))[i]? = some x → va_at D vwCl (b + nb n + i, x) H) (hn : n < 5) :
    va_at D vwCl (b + off (1, n, 0, 0), nf_cell (lay D cs b) s0 (1, n, 0, 0)) H ∧ va_at D vwCl (b + off (2, n, 0, 0), nf_cell (lay D cs b) s0 (2, n, 0, 0)) H ∧ va_at D vwCl (b + off (3, n, 0, 0), nf_cell (lay D cs b) s0 (3, n, 0, 0)) H := by
  have h5 : ¬ n = 5 := by omega
  refine ⟨?_, ?_, ?_⟩
  · have := h 0 _ rfl
    simp only [nf_cell, lay, off, cof, h5, if_false, Nat.add_assoc, Nat.reduceAdd, Nat.add_zero] at this ⊢
    exact this
  · have := h 2 _ rfl
    simp only [nf_cell, lay, off, cof, h5, if_false, Nat.add_assoc, Nat.reduceAdd, Nat.add_zero] at this ⊢
    exact this
  · have := h 6 _ rfl
    simp only [nf_cell, lay, off, cof, h5, if_false, Nat.add_assoc, Nat.reduceAdd, Nat.add_zero] at this ⊢
    exact this
