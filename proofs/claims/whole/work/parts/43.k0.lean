/-! what the tables say at the law's entry: the classes, the array classes, the nest's links -/
theorem lw_K {s : State} {args : Array Value} (hts : ∀ w ∈ lw_tbl, w.before args s = true) : ∃ (D : va_G) (cs : ClassId × ClassId × ClassId), ∀ b, nc_K (lay D cs b) s := by
  have htf : ∀ w ∈ nf_tbl, w.before args s = true := fun w hw => hts w (List.mem_filter.mp hw).1
  obtain ⟨c0, i0, h0⟩ := u_known (n := 6) htf nf_inX0 (htf _ is_X0)
  obtain ⟨c1, i1, h1⟩ := u_known (n := 4) htf nf_inX1 (htf _ is_X1)
  obtain ⟨c2, i2, h2⟩ := u_known (n := 4) htf nf_inX2 (htf _ is_X2)
  obtain ⟨c3, i3, h3⟩ := u_known (n := 8) htf nf_inX3 (htf _ is_X3)
  obtain ⟨c4, i4, h4⟩ := u_known (n := 2) htf nf_inX4 (htf _ is_X4)
  obtain ⟨c5, i5, h5⟩ := u_known (n := 5) htf nf_inX5 (htf _ is_X5)
  obtain ⟨c6, i6, h6⟩ := u_known (n := 5) htf nf_inX6 (htf _ is_X6)
  obtain ⟨cI, kI, pI, a1, a2, a3⟩ := Cond.arrayClass_spec (htf _ nc_arw)
  have o1 : (Cond.arrayOver (.object RX1)).before args s = true := hts _ (List.mem_of_getElem? (i := 107) (by decide +kernel))
  have o3 : (Cond.arrayOver (.object RX3)).before args s = true := hts _ (List.mem_of_getElem? (i := 183) (by decide +kernel))
  obtain ⟨pH, cH, kH, b1, -, b3, b4, b5⟩ := Cond.arrayOver_spec o1
  obtain ⟨pN, cN, kN, d1, -, d3, d4, d5⟩ := Cond.arrayOver_spec o3
  refine ⟨(fun k => match k with | 0 => c0 | 1 => c1 | 2 => c2 | 3 => c3 | 4 => c4 | 5 => c5 | _ => c6, fun k => match k with | 0 => i0 | 1 => i1 | 2 => i2 | 3 => i3 | 4 => i4 | 5 => i5 | _ => i6), (cI, cH, cN), fun b => ⟨⟨⟨fun k q hq => ?_, fun k q hq => ?_⟩, fun w hw => ?_⟩, fun w hw => ?_, va_AO.of o1, va_AO.of o3⟩⟩
  · match k, hq with
    | 0, hq => cases hq; exact h0
    | 1, hq => cases hq; exact h1
    | 2, hq => cases hq; exact h2
    | 3, hq => cases hq; exact h3
    | 4, hq => cases hq; exact h4
    | 5, hq => cases hq; exact h5
    | 6, hq => cases hq; exact h6
    | k + 7, hq => simp [vwCl] at hq
  · match k, hq with
    | 0, hq => cases hq; exact ⟨fun N z => ⟨(fun k h => by cases h), kI, a2, pI, a3⟩, a1⟩
    | 1, hq => cases hq; exact ⟨fun N z => ⟨(fun k h => by cases h), kH, b3, pH, b4⟩, kH, pH, b3, b4, b1, b5⟩
    | 2, hq => cases hq; exact ⟨fun N z => ⟨(fun k h => by cases h), kN, d3, pN, d4⟩, kN, pN, d3, d4, d1, d5⟩
    | k + 3, hq => simp [nf_tys] at hq
  · have hm : w ∈ lw_tbl := by
      simp only [nf_nw, List.mem_cons, List.not_mem_nil, or_false] at hw
      rcases hw with rfl | rfl | rfl | rfl
      · exact List.mem_of_getElem? (i := 261) (by decide +kernel)
      · exact List.mem_of_getElem? (i := 305) (by decide +kernel)
      · exact List.mem_of_getElem? (i := 336) (by decide +kernel)
      · exact List.mem_of_getElem? (i := 366) (by decide +kernel)
    have hw1 := hts w hm
    simp only [nf_nw, List.mem_cons, List.not_mem_nil, or_false] at hw
    rcases hw with rfl | rfl | rfl | rfl <;> exact va_Nw.of rfl hw1
  · have hm : w ∈ lw_tbl := by
      simp only [nc_nw, List.mem_cons, List.not_mem_nil, or_false] at hw
      rcases hw with rfl | rfl | rfl | rfl
      · exact List.mem_of_getElem? (i := 46) (by decide +kernel)
      · exact List.mem_of_getElem? (i := 71) (by decide +kernel)
      · exact List.mem_of_getElem? (i := 110) (by decide +kernel)
      · exact List.mem_of_getElem? (i := 182) (by decide +kernel)
    have hw1 := hts w hm
    simp only [nc_nw, List.mem_cons, List.not_mem_nil, or_false] at hw
    rcases hw with rfl | rfl | rfl | rfl <;> exact va_Nw.of rfl hw1
