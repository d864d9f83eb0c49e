/-! the heap behind both constructors, as the layout has it -/
set_option maxRecDepth 100000 in
theorem net_H4 {D : va_G} {cs : ClassId × ClassId × ClassId} {b n : Nat} {H : Heap} (h : ∀ i x, (nc_oX3 (lay D cs b) (b + nb n))[i]? = some x → va_at D vwCl (b + nb n + i, x) H) : va_at D vwCl (b + off (7, n, 0, 0), nf_cell (lay D cs b) s0 (7, n, 0, 0)) H := by
  have h1 := h 12 _ rfl
  rw [Nat.add_assoc] at h1
  refine Eq.trans (show H[b + (nb n + 12)]? = some (vp_cell _ _) from h1) ?_
  refine congrArg some (qf_ofFn (fun j hj => ?_) _)
  rcases (show j = 0 ∨ j = 1 ∨ j = 2 ∨ j = 3 ∨ j = 4 ∨ j = 5 by omega) with rfl | rfl | rfl | rfl | rfl | rfl <;> simp [va_up, lay, off, Nat.add_assoc]
theorem lq_at (b k : Nat) (hk : k < 4) : lq b 4 0 (fun _ => none) k = some (b + nb (k + 1)) := by
  rcases (show k = 0 ∨ k = 1 ∨ k = 2 ∨ k = 3 by omega) with rfl | rfl | rfl | rfl <;> simp [lq, va_up, nb]
theorem oX3_len (L : nf_L) (a : Nat) : (nc_oX3 L a).length = 35 := rfl
def t5 (L : nf_L) (b : Nat) : nc_T := (.inr (5, [.ref (b + 1), .ref (b + 36), .ref (b + 39), .int 0, .ref (b + 40)]) :: (nc_oX3 L (b + 1) ++ nc_oX4 L (b + 36))) ++ (qx L (lq b 4 0 (fun _ => none)) :: za L 4 :: ([] ++ lns (fun a => nc_oX3 L a) b 4 0))
theorem t5_blk {D : va_G} {cs : ClassId × ClassId × ClassId} {b : Nat} {H : Heap} {L : nf_L} (h5 : ∀ i x, (t5 L b)[i]? = some x → va_at D vwCl (b + i, x) H) {n : Nat} (hn : n < 5) : ∀ i x, (nc_oX3 L (b + nb n))[i]? = some x → va_at D vwCl (b + nb n + i, x) H := by
  intro i x hx
  have hi : i < 35 := (List.getElem?_eq_some_iff.mp hx).1
  unfold t5 at h5
  by_cases h0 : n = 0
  · subst h0
    have := h5 (1 + i) x (by rw [t5_net0 (oX3_len L (b + 1)) hi]; exact hx)
    rw [← Nat.add_assoc] at this
    exact this
  · have e : nb n = 41 + 35 * (n - 1) := by unfold nb; rw [if_neg h0]; omega
    rw [e] at hx ⊢
    have := h5 (41 + 35 * (n - 1) + i) x (by rw [t5_net (N := fun a => nc_oX3 L a) (oX3_len L (b + 1)) rfl (fun a => oX3_len L a) (by omega) hi]; exact hx)
    rw [← Nat.add_assoc] at this
    exact this
theorem lay_H {D : va_G} {cs : ClassId × ClassId × ClassId} {b : Nat} {H : Heap} (h5 : ∀ i x, (t5 (lay D cs b) b)[i]? = some x → va_at D vwCl (b + i, x) H) (h6 : ∀ i x, (t6 (lay D cs b) (b + 181) r60)[i]? = some x → va_at D vwCl (b + 181 + i, x) H) : nf_H (lay D cs b) s0 H := by
  have hb := fun n (hn : n < 5) => t5_blk (D := D) (cs := cs) h5 hn
  intro q hq
  obtain ⟨k, n, c, x⟩ := q
  show va_at D vwCl (b + off (k, n, c, x), _) H
  match k, hq with
  | 0, hq =>
    cases hq
    have := h5 0 _ (by unfold t5; rfl)
    exact this
  | 1, hq => obtain ⟨h1, h2⟩ := hq; cases h2; exact (net_H1 (hb n h1) h1).1
  | 2, hq => obtain ⟨h1, h2⟩ := hq; cases h2; exact (net_H1 (hb n h1) h1).2.1
  | 3, hq => obtain ⟨h1, h2⟩ := hq; cases h2; exact (net_H1 (hb n h1) h1).2.2
  | 4, hq => obtain ⟨h1, h2, h3⟩ := hq; simp only at h1 h2 h3; subst h2; exact (net_H3 (hb n h1) h1 x h3).1
  | 5, hq =>
    obtain ⟨h1, h2⟩ := hq; cases h2
    by_cases h : n = 5
    · subst h
      have := h5 (36 + 0) _ (by unfold t5; rw [t5_tk (oX3_len _ _) rfl (by decide)]; rfl)
      exact this
    · exact (net_H2 (hb n (by simp only at h1; omega)) (by simp only at h1; omega)).1
  | 6, hq =>
    cases hq
    have := h5 (39 + 0) _ (by unfold t5; rw [t5_r (oX3_len _ _) rfl]; rfl)
    refine Eq.trans (show H[b + 39]? = some (vp_cell _ _) from this) (congrArg some (qf_ofFn (fun j hj => ?_) _))
    rw [lq_at b j hj]; rfl
  | 7, hq => obtain ⟨h1, h2⟩ := hq; cases h2; exact net_H4 (hb n h1)
  | 8, hq =>
    cases hq
    exact h6 0 _ rfl
  | 9, hq =>
    rcases hq with ⟨h1, (⟨h2, h3⟩ | ⟨h2, h3⟩)⟩ | ⟨h1, h2, h3⟩
    · simp only at h1 h2 h3; subst h3; exact (net_H2 (hb n h1) h1).2 c h2
    · simp only at h1 h2 h3
      rcases h2 with rfl | rfl
      · exact (net_H3 (hb n h1) h1 x h3).2.1
      · exact (net_H3 (hb n h1) h1 x h3).2.2
    · simp only at h1 h2 h3; subst h1; subst h3
      rcases h2 with rfl | rfl
      · have := h5 (36 + 1) _ (by unfold t5; rw [t5_tk (oX3_len _ _) rfl (by decide)]; rfl)
        exact this
      · have := h5 (36 + 2) _ (by unfold t5; rw [t5_tk (oX3_len _ _) rfl (by decide)]; rfl)
        exact this
  | 10, hq =>
    obtain ⟨h1, h2⟩ := hq; cases h2
    simp only at h1
    rcases (show n = 0 ∨ n = 1 ∨ n = 2 ∨ n = 3 ∨ n = 4 by omega) with rfl | rfl | rfl | rfl | rfl
    · have := h5 (39 + 1) _ (by unfold t5; rw [t5_r (oX3_len _ _) rfl]; rfl)
      exact this
    · exact h6 1 _ rfl
    · exact h6 2 _ rfl
    · exact h6 3 _ rfl
    · exact h6 4 _ rfl
