/-! a net's block as the layout has it -/
theorem qf_ofFn {N : Nat} {f g : Nat → Option Nat} (h : ∀ j, j < N → f j = g j) (cA : ClassId) : vp_cell cA (N, .inr (.inr (.inr (.inr f)))) = vp_cell cA (N, .inr (.inr (.inr (.inr g)))) := by
  simp only [vp_cell, arrV]
  congr 1
  apply congrArg Array.ofFn
  funext x
  rw [h x.val x.isLt]
set_option maxRecDepth 100000 in
theorem net_H1 {D : va_G} {cs : ClassId × ClassId × ClassId} {b n : Nat} {H : Heap} (h : ∀ i x, (nc_oX3 (lay D cs b) (b + nb n))[i]? = some x → va_at D vwCl (b + nb n + i, x) H) (hn : n < 5) :
    va_at D vwCl (b + off (1, n, 0, 0), nf_cell (lay D cs b) s0 (1, n, 0, 0)) H ∧ va_at D vwCl (b + off (2, n, 0, 0), nf_cell (lay D cs b) s0 (2, n, 0, 0)) H ∧ va_at D vwCl (b + off (3, n, 0, 0), nf_cell (lay D cs b) s0 (3, n, 0, 0)) H := by
  have h5 : ¬ n = 5 := by omega
  refine ⟨?_, ?_, ?_⟩
  · have := h 0 _ rfl
    simp only [nf_cell, lay, off, cof, h5, if_false, Nat.add_assoc, Nat.reduceAdd, Nat.add_zero] at this ⊢
    exact this
  · have := h 2 _ rfl
    simp only [nf_cell, lay, off, cof, h5, if_false, Nat.add_assoc, Nat.reduceAdd, Nat.add_zero] at this ⊢
    exact this
  · have := h 6 _ rfl
    simp only [nf_cell, lay, off, cof, h5, if_false, Nat.add_assoc, Nat.reduceAdd, Nat.add_zero] at this ⊢
    exact this
set_option maxRecDepth 100000 in
theorem net_H2 {D : va_G} {cs : ClassId × ClassId × ClassId} {b n : Nat} {H : Heap} (h : ∀ i x, (nc_oX3 (lay D cs b) (b + nb n))[i]? = some x → va_at D vwCl (b + nb n + i, x) H) (hn : n < 5) : va_at D vwCl (b + off (5, n, 0, 0), nf_cell (lay D cs b) s0 (5, n, 0, 0)) H ∧ ∀ c, c < 12 → va_at D vwCl (b + off (9, n, c, 0), nf_cell (lay D cs b) s0 (9, n, c, 0)) H := by
  have h5 : ¬ n = 5 := by omega
  refine ⟨?_, fun c hc => ?_⟩
  · have := h 13 _ rfl
    simp only [nf_cell, lay, off, cof, h5, if_false, Nat.add_assoc, Nat.reduceAdd, Nat.add_zero] at this ⊢
    exact this
  · rcases (show c = 0 ∨ c = 1 ∨ c = 2 ∨ c = 3 ∨ c = 4 ∨ c = 5 ∨ c = 6 ∨ c = 7 ∨ c = 8 ∨ c = 9 ∨ c = 10 ∨ c = 11 by omega) with rfl | rfl | rfl | rfl | rfl | rfl | rfl | rfl | rfl | rfl | rfl | rfl
    · have := h 1 _ rfl
      simp only [nf_cell, lay, off, cof, h5, if_false, Nat.add_assoc, Nat.reduceAdd, Nat.add_zero] at this ⊢; exact this
    · have := h 16 _ rfl
      simp only [nf_cell, lay, off, cof, h5, if_false, Nat.add_assoc, Nat.reduceAdd, Nat.add_zero] at this ⊢; exact this
    · have := h 3 _ rfl
      simp only [nf_cell, lay, off, cof, h5, if_false, Nat.add_assoc, Nat.reduceAdd, Nat.add_zero] at this ⊢; exact this
    · have := h 4 _ rfl
      simp only [nf_cell, lay, off, cof, h5, if_false, Nat.add_assoc, Nat.reduceAdd, Nat.add_zero] at this ⊢; exact this
    · have := h 5 _ rfl
      simp only [nf_cell, lay, off, cof, h5, if_false, Nat.add_assoc, Nat.reduceAdd, Nat.add_zero] at this ⊢; exact this
    · have := h 7 _ rfl
      simp only [nf_cell, lay, off, cof, h5, if_false, Nat.add_assoc, Nat.reduceAdd, Nat.add_zero] at this ⊢; exact this
    · have := h 8 _ rfl
      simp only [nf_cell, lay, off, cof, h5, if_false, Nat.add_assoc, Nat.reduceAdd, Nat.add_zero] at this ⊢; exact this
    · have := h 9 _ rfl
      simp only [nf_cell, lay, off, cof, h5, if_false, Nat.add_assoc, Nat.reduceAdd, Nat.add_zero] at this ⊢; exact this
    · have := h 10 _ rfl
      simp only [nf_cell, lay, off, cof, h5, if_false, Nat.add_assoc, Nat.reduceAdd, Nat.add_zero] at this ⊢; exact this
    · have := h 11 _ rfl
      simp only [nf_cell, lay, off, cof, h5, if_false, Nat.add_assoc, Nat.reduceAdd, Nat.add_zero] at this ⊢; exact this
    · have := h 14 _ rfl
      simp only [nf_cell, lay, off, cof, h5, if_false, Nat.add_assoc, Nat.reduceAdd, Nat.add_zero] at this ⊢; exact this
    · have := h 15 _ rfl
      simp only [nf_cell, lay, off, cof, h5, if_false, Nat.add_assoc, Nat.reduceAdd, Nat.add_zero] at this ⊢; exact this
set_option maxRecDepth 100000 in
theorem net_H3 {D : va_G} {cs : ClassId × ClassId × ClassId} {b n : Nat} {H : Heap} (h : ∀ i x, (nc_oX3 (lay D cs b) (b + nb n))[i]? = some x → va_at D vwCl (b + nb n + i, x) H) (hn : n < 5) (x : Nat) (hx : x < 6) : va_at D vwCl (b + off (4, n, 0, x), nf_cell (lay D cs b) s0 (4, n, 0, x)) H ∧ va_at D vwCl (b + off (9, n, 12, x), nf_cell (lay D cs b) s0 (9, n, 12, x)) H ∧ va_at D vwCl (b + off (9, n, 13, x), nf_cell (lay D cs b) s0 (9, n, 13, x)) H := by
  have h5 : ¬ n = 5 := by omega
  rcases (show x = 0 ∨ x = 1 ∨ x = 2 ∨ x = 3 ∨ x = 4 ∨ x = 5 by omega) with rfl | rfl | rfl | rfl | rfl | rfl
  · refine ⟨?_, ?_, ?_⟩
    · have := h 17 _ rfl
      simp only [nf_cell, lay, off, cof, h5, if_false, Nat.add_assoc, Nat.reduceAdd, Nat.reduceMul, Nat.add_zero] at this ⊢; exact this
    · have := h 18 _ rfl
      simp only [nf_cell, lay, off, cof, h5, if_false, Nat.add_assoc, Nat.reduceAdd, Nat.reduceMul, Nat.add_zero] at this ⊢; exact this
    · have := h 19 _ rfl
      simp only [nf_cell, lay, off, cof, h5, if_false, Nat.add_assoc, Nat.reduceAdd, Nat.reduceMul, Nat.add_zero] at this ⊢; exact this
  · refine ⟨?_, ?_, ?_⟩
    · have := h 20 _ rfl
      simp only [nf_cell, lay, off, cof, h5, if_false, Nat.add_assoc, Nat.reduceAdd, Nat.reduceMul, Nat.add_zero] at this ⊢; exact this
    · have := h 21 _ rfl
      simp only [nf_cell, lay, off, cof, h5, if_false, Nat.add_assoc, Nat.reduceAdd, Nat.reduceMul, Nat.add_zero] at this ⊢; exact this
    · have := h 22 _ rfl
      simp only [nf_cell, lay, off, cof, h5, if_false, Nat.add_assoc, Nat.reduceAdd, Nat.reduceMul, Nat.add_zero] at this ⊢; exact this
  · refine ⟨?_, ?_, ?_⟩
    · have := h 23 _ rfl
      simp only [nf_cell, lay, off, cof, h5, if_false, Nat.add_assoc, Nat.reduceAdd, Nat.reduceMul, Nat.add_zero] at this ⊢; exact this
    · have := h 24 _ rfl
      simp only [nf_cell, lay, off, cof, h5, if_false, Nat.add_assoc, Nat.reduceAdd, Nat.reduceMul, Nat.add_zero] at this ⊢; exact this
    · have := h 25 _ rfl
      simp only [nf_cell, lay, off, cof, h5, if_false, Nat.add_assoc, Nat.reduceAdd, Nat.reduceMul, Nat.add_zero] at this ⊢; exact this
  · refine ⟨?_, ?_, ?_⟩
    · have := h 26 _ rfl
      simp only [nf_cell, lay, off, cof, h5, if_false, Nat.add_assoc, Nat.reduceAdd, Nat.reduceMul, Nat.add_zero] at this ⊢; exact this
    · have := h 27 _ rfl
      simp only [nf_cell, lay, off, cof, h5, if_false, Nat.add_assoc, Nat.reduceAdd, Nat.reduceMul, Nat.add_zero] at this ⊢; exact this
    · have := h 28 _ rfl
      simp only [nf_cell, lay, off, cof, h5, if_false, Nat.add_assoc, Nat.reduceAdd, Nat.reduceMul, Nat.add_zero] at this ⊢; exact this
  · refine ⟨?_, ?_, ?_⟩
    · have := h 29 _ rfl
      simp only [nf_cell, lay, off, cof, h5, if_false, Nat.add_assoc, Nat.reduceAdd, Nat.reduceMul, Nat.add_zero] at this ⊢; exact this
    · have := h 30 _ rfl
      simp only [nf_cell, lay, off, cof, h5, if_false, Nat.add_assoc, Nat.reduceAdd, Nat.reduceMul, Nat.add_zero] at this ⊢; exact this
    · have := h 31 _ rfl
      simp only [nf_cell, lay, off, cof, h5, if_false, Nat.add_assoc, Nat.reduceAdd, Nat.reduceMul, Nat.add_zero] at this ⊢; exact this
  · refine ⟨?_, ?_, ?_⟩
    · have := h 32 _ rfl
      simp only [nf_cell, lay, off, cof, h5, if_false, Nat.add_assoc, Nat.reduceAdd, Nat.reduceMul, Nat.add_zero] at this ⊢; exact this
    · have := h 33 _ rfl
      simp only [nf_cell, lay, off, cof, h5, if_false, Nat.add_assoc, Nat.reduceAdd, Nat.reduceMul, Nat.add_zero] at this ⊢; exact this
    · have := h 34 _ rfl
      simp only [nf_cell, lay, off, cof, h5, if_false, Nat.add_assoc, Nat.reduceAdd, Nat.reduceMul, Nat.add_zero] at this ⊢; exact this
