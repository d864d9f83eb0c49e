/-! the invariant at the start -/
theorem z_exp : ∀ g, g < 4 → cf_fill (fun _ => 0) 5 4 g = r60 (2 + g) := by decide +kernel
theorem z_grp : ∀ h, h < 6 → (15 : Int32) = r60 (43 + h) := by decide +kernel
theorem z_art : ∀ a, a < 30 → r60 (50 + 5 * a + 0) = nI 0 := by decide +kernel
theorem z_kn : ∀ h, h < 6 → ∀ a, a < 30 → cf_fill (fun _ => 0) (-1) 30 a = r60 (200 + 30 * h + a) ∧ cf_fill (fun _ => 0) (-1) 30 a = -1 := by decide +kernel
theorem z_st : ∀ h, h < 6 → (0 : Int32) = r60 (380 + h) := by decide +kernel
theorem z_pn : ∀ h, h < 6 → ∀ a, a < 30 → (0 : Int32) = r60 (386 + 30 * h + a) := by decide +kernel
theorem z_ct : ∀ j, j < 6 → (0 : Int32) = r60 (566 + j) := by decide +kernel
theorem inv0 : Inv s0 0 := by
  refine ⟨0, 0, 0, ⟨by decide, rfl, fun k hk => ?_⟩, fun i j _ _ h => ?_, rfl, fun j hj => rfl, ⟨?_, ⟨⟨fun h hh a ha => ?_, fun h hh => ?_, fun h hh a ha => ?_, fun j hj => ?_⟩, ⟨[], List.nodup_nil, fun a s t => ?_, rfl, fun k a s t hk => by simp at hk⟩, fun i hi => ⟨⟨0, by decide, rfl⟩, ⟨0, by decide, rfl⟩, fun _ => rfl, b_0 _⟩⟩, fun i hi t ht hb => ?_⟩, fun j hj => absurd hj (Nat.not_lt_zero j)⟩
  · show 0 < k + 1 ∧ k + 1 < 5
    omega
  · have h : i + 1 = j + 1 := h
    omega
  · refine ⟨by decide, by decide, rfl, rfl, fun g hg => z_exp g hg, rfl, rfl, fun k hk => absurd hk (Nat.not_lt_zero k), fun h hh => z_grp h hh, rfl, rfl, fun a ha => absurd ha (Nat.not_lt_zero a), fun a ha => ⟨0, by decide, z_art a ha⟩, 0, Nat.le_refl _, rfl⟩
  · exact ⟨(z_kn h hh a ha).1, fun _ => (z_kn h hh a ha).2⟩
  · exact ⟨z_st h hh, fun a _ _ => b_0 a⟩
  · exact ⟨z_pn h hh a ha, 0, by decide, rfl⟩
  · exact z_ct j hj
  · show (a, s, t) ∈ [] ↔ a < 30 ∧ s < 6 ∧ t < 6 ∧ bt 0 t = true
    rw [b_0]; simp
  · have hb : bt 0 t = true := hb
    rw [b_0] at hb; cases hb
