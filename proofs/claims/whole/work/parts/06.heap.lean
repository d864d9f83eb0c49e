def nf_all : List nf_Pos := [(0, 0, 0, 0), (6, 0, 0, 0), (8, 0, 0, 0)] ++ ((List.range 5).flatMap (fun n => [(1, n, 0, 0), (2, n, 0, 0), (3, n, 0, 0), (7, n, 0, 0)] ++ ((List.range 6).flatMap (fun h => [(4, n, 0, h), (9, n, 12, h), (9, n, 13, h)]) ++ (List.range 12).map (fun c => (9, n, c, 0)))) ++ ((List.range 6).map (fun n => (5, n, 0, 0)) ++ ([(9, 5, 10, 0), (9, 5, 11, 0)] ++ (List.range 5).map (fun x => (10, x, 0, 0)))))
set_option maxRecDepth 100000 in
theorem nf_all_nodup : nf_all.Nodup := by decide +kernel
theorem nf_all_in {q : nf_Pos} (h : nf_ok q) : q ∈ nf_all := by
  obtain ⟨k, n, c, x⟩ := q
  unfold nf_all
  match k, h with
  | 0, h => cases h; simp
  | 1, h => obtain ⟨h1, h2⟩ := h; cases h2; simp at h1; simp [h1]
  | 2, h => obtain ⟨h1, h2⟩ := h; cases h2; simp at h1; simp [h1]
  | 3, h => obtain ⟨h1, h2⟩ := h; cases h2; simp at h1; simp [h1]
  | 4, h => obtain ⟨h1, h2, h3⟩ := h; simp at h1 h2 h3; subst h2; simp [h1, h3]
  | 5, h => obtain ⟨h1, h2⟩ := h; cases h2; simp at h1; simp [h1]
  | 6, h => cases h; simp
  | 7, h => obtain ⟨h1, h2⟩ := h; cases h2; simp at h1; simp [h1]
  | 8, h => cases h; simp
  | 9, h =>
    rcases h with ⟨h1, (⟨h2, h3⟩ | ⟨h2, h3⟩)⟩ | ⟨h1, h2, h3⟩
    · simp at h1 h2 h3; subst h3; simp [h1, h2]; exact Or.inl ⟨n, h1, Or.inr rfl⟩
    · simp at h1 h2 h3; rcases h2 with rfl | rfl <;> simp [h1, h3] <;> exact ⟨n, h1, Or.inl rfl⟩
    · simp at h1 h2 h3; subst h1; subst h3; rcases h2 with rfl | rfl <;> simp
  | 10, h => obtain ⟨h1, h2⟩ := h; cases h2; simp at h1; simp [h1]
  | k + 11, h => exact absurd h (by simp [nf_ok])
theorem nf_all_ok {q : nf_Pos} (h : q ∈ nf_all) : nf_ok q := by
  unfold nf_all at h
  simp only [List.mem_append, List.mem_cons, List.not_mem_nil, or_false, List.mem_flatMap, List.mem_map, List.mem_range] at h
  rcases h with (rfl | rfl | rfl) | ⟨n, hn, (rfl | rfl | rfl | rfl) | ⟨x, hx, rfl | rfl | rfl⟩ | ⟨c, hc, rfl⟩⟩ | ⟨n, hn, rfl⟩ | (rfl | rfl) | ⟨n, hn, rfl⟩
  all_goals simp_all [nf_ok]
def nf_cs (L : nf_L) (S : nf_S) : va_W := nf_all.map (fun q => (L.2.2 q, nf_cell L S q))
theorem nf_cs_at {L : nf_L} {S : nf_S} {k : Nat} {q : nf_Pos} (h : nf_all[k]? = some q) : (nf_cs L S)[k]? = some (L.2.2 q, nf_cell L S q) := by
  unfold nf_cs; rw [List.getElem?_map, h]; rfl
theorem nf_place {q : nf_Pos} (h : nf_ok q) : ∃ k : Nat, nf_all[k]? = some q := List.getElem?_of_mem (nf_all_in h)
theorem nf_cs_of {L : nf_L} {S : nf_S} {k : Nat} {e : Nat × va_E} (h : (nf_cs L S)[k]? = some e) : ∃ q, nf_all[k]? = some q ∧ nf_ok q ∧ e = (L.2.2 q, nf_cell L S q) := by
  unfold nf_cs at h
  rw [List.getElem?_map] at h
  cases hq : nf_all[k]? with
  | none => rw [hq] at h; cases h
  | some q =>
    rw [hq] at h
    exact ⟨q, rfl, nf_all_ok (List.mem_of_getElem? hq), (Option.some.inj h).symm⟩
theorem nf_idx {i j : Nat} {q : nf_Pos} (h1 : nf_all[i]? = some q) (h2 : nf_all[j]? = some q) : i = j := by
  obtain ⟨a1, b1⟩ := List.getElem?_eq_some_iff.mp h1
  obtain ⟨a2, b2⟩ := List.getElem?_eq_some_iff.mp h2
  have hp := List.pairwise_iff_getElem.mp nf_all_nodup
  rcases Nat.lt_trichotomy i j with h | h | h
  · exact absurd (b1.trans b2.symm) (hp i j a1 a2 h)
  · exact h
  · exact absurd (b2.trans b1.symm) (hp j i a2 a1 h)
theorem nf_H.P {L : nf_L} {S : nf_S} {H : Heap} (h : nf_H L S H) : va_P L.1 vwCl (nf_cs L S) H := by
  intro k e he
  obtain ⟨q, _, hq, rfl⟩ := nf_cs_of he
  exact h q hq
theorem nf_D {L : nf_L} {S : nf_S} (hj : nf_inj L) : va_D (nf_Ad L) (nf_cs L S) := by
  refine ⟨fun i j p q hp hq h => ?_, fun k e he => ?_⟩
  · obtain ⟨p1, a1, b1, rfl⟩ := nf_cs_of hp
    obtain ⟨q1, a2, b2, rfl⟩ := nf_cs_of hq
    have e := hj _ _ b1 b2 h
    subst e
    exact nf_idx a1 a2
  · obtain ⟨q, _, hq, rfl⟩ := nf_cs_of he
    exact ⟨q, hq, rfl⟩
theorem nf_H.back {L : nf_L} {S S1 : nf_S} {H1 : Heap} {k : Nat} {q : nf_Pos} {E : va_E} (hk : nf_all[k]? = some q) (hP : va_P L.1 vwCl ((nf_cs L S).set k (L.2.2 q, E)) H1) (hE : va_at L.1 vwCl (L.2.2 q, E) H1 → va_at L.1 vwCl (L.2.2 q, nf_cell L S1 q) H1) (hc : ∀ q', nf_ok q' → q' ≠ q → nf_cell L S1 q' = nf_cell L S q') : nf_H L S1 H1 := by
  intro q' hq'
  obtain ⟨j, hj⟩ := nf_place hq'
  by_cases e : q' = q
  · subst e
    have e2 := nf_idx hj hk
    subst e2
    have hlen : j < (nf_cs L S).length := (List.getElem?_eq_some_iff.mp (nf_cs_at (L := L) (S := S) hk)).1
    exact hE (hP j _ (by rw [List.getElem?_set_self hlen]))
  · have hne : k ≠ j := fun e2 => by subst e2; exact e (Option.some.inj (hj.symm.trans hk))
    rw [hc q' hq' e]
    exact hP j _ (by rw [List.getElem?_set_ne hne]; exact nf_cs_at hj)
section NfHeap
variable {L : nf_L} {d : Nat} {cc : ByteArray} {own : String} {nL : Nat} {ret : Option FieldType} {r : Option Value} {S2 : nf_S} {pc : Nat} {ls : List (Option Value)} {st : List Value} {S : nf_S}
theorem nf_getf {q : nf_Pos} {ci : Nat} {fs : List Value} {C : String} {T : u_T} {N k idx : Nat} {v : Value} (hq : nf_ok q) (he : nf_cell L S q = .inr (ci, fs)) (hc : vwCl[ci]? = some (C, T, N)) (hin : ∀ w ∈ u_ws C T N, w ∈ nf_tbl) (hk : k < N) (hl : Cond.fieldLink own idx (T k).1 (T k).2.1 (T k).2.2.1 ∈ nf_tbl) (hv : fs[k]? = some v) (dg : decode cc pc = .ok (.getfield idx, 3))
    (kk : nf_V L d cc own nL ret r S2 (pc + 3) ls (v :: st) S) : nf_V L d cc own nL ret r S2 pc ls (.ref (L.2.2 q) :: st) S := by
  intro p l e s m args below meth c H locs la hC hH hl2
  obtain ⟨j, hj⟩ := nf_place hq
  have h0 := nf_cs_at (L := L) (S := S) hj
  rw [he] at h0
  exact va_get hC.1 hC.2.1 hC.2.2.2.2.2.1 hin hC.2.2.2.2.1 hC.2.2.2.2.2.2.2.2.1 hH.1.P j h0 hc k hk (hC.2.2.2.2.2.1 _ hl) (fun _ h => h) hv dg (kk p l e s m args below meth c H locs la hC hH hl2)
theorem nf_putf {S1 : nf_S} {q : nf_Pos} {ci : Nat} {fs : List Value} {C : String} {T : u_T} {N k idx : Nat} {v : Value} {ty : FieldType} (ty0 : Nat → FieldType) (hq : nf_ok q) (he : nf_cell L S q = .inr (ci, fs)) (hc : vwCl[ci]? = some (C, T, N)) (hin : ∀ w ∈ u_ws C T N, w ∈ nf_tbl) (hty : ∀ k, k < N → parseFieldDescriptor (T k).2.2.1 = some (ty0 k)) (hnm : ∀ a, a < N → ∀ b, b < N → a ≠ b → (T a).2.1 ≠ (T b).2.1) (hk : k < N) (hl : Cond.fieldLink own idx (T k).1 (T k).2.1 (T k).2.2.1 ∈ nf_tbl)
    (hfin : (T k).2.2.2 = false) (hd : parseFieldDescriptor (T k).2.2.1 = some ty) (hn : narrow ty v = v) (hfit : fits ty v = true) (hlen : k < fs.length) (h1 : nf_cell L S1 q = .inr (ci, fs.set k v)) (h2 : ∀ q', nf_ok q' → q' ≠ q → nf_cell L S1 q' = nf_cell L S q') (dg : decode cc pc = .ok (.putfield idx, 3))
    (kk : nf_V L d cc own nL ret r S2 (pc + 3) ls st S1) : nf_V L d cc own nL ret r S2 pc ls (v :: .ref (L.2.2 q) :: st) S := by
  intro p l e s m args below meth c H locs la hC hH hl2
  obtain ⟨j, hj⟩ := nf_place hq
  have h0 := nf_cs_at (L := L) (S := S) hj
  rw [he] at h0
  exact va_put hC.1 hC.2.1 hC.2.2.2.2.2.1 hin ty0 hty hnm hC.2.2.2.2.1 hC.2.2.2.2.2.2.2.2.1 hH.1.P (nf_D hC.2.2.2.2.2.2.2.1) hH.2 j h0 hc k hk (hC.2.2.2.2.2.1 _ hl) (fun _ h => h) hfin hd hn hfit hlen dg
    (fun H1 locs1 hP hD hS => kk p l e s m args below meth c H1 locs1 la hC ⟨nf_H.back hj hP (fun h => by rw [h1]; exact h) h2, hS⟩ hl2)
/-- reading an int array of a net -/
theorem nf_iald {n c h : Nat} {i : Int32} (hq : nf_ok (9, n, c, h)) (hi : vp_in i (nf_len c)) (dg : decode cc pc = .ok (.iaload, 1)) (kk : nf_V L d cc own nL ret r S2 (pc + 1) ls (.int (nf_A S n c h i.toNatClampNeg) :: st) S) : nf_V L d cc own nL ret r S2 pc ls (.int i :: .ref (L.2.2 (9, n, c, h)) :: st) S := by
  intro p l e s m args below meth c H locs la hC hH hl2
  obtain ⟨j, hj⟩ := nf_place hq
  exact va_iald hC.1 hC.2.1 hC.2.2.2.2.2.2.2.2.1 hH.1.P j 0 (nf_cs_at hj) rfl hi dg (kk p l e s m args below meth c H locs la hC hH hl2)
theorem nf_ialdO {x : Nat} {i : Int32} (hq : nf_ok (10, x, 0, 0)) (hi : vp_in i (nf_lenO x)) (dg : decode cc pc = .ok (.iaload, 1)) (kk : nf_V L d cc own nL ret r S2 (pc + 1) ls (.int (nf_O S x i.toNatClampNeg) :: st) S) : nf_V L d cc own nL ret r S2 pc ls (.int i :: .ref (L.2.2 (10, x, 0, 0)) :: st) S := by
  intro p l e s m args below meth c H locs la hC hH hl2
  obtain ⟨j, hj⟩ := nf_place hq
  exact va_iald hC.1 hC.2.1 hC.2.2.2.2.2.2.2.2.1 hH.1.P j 0 (nf_cs_at hj) rfl hi dg (kk p l e s m args below meth c H locs la hC hH hl2)
theorem nf_alen {n c h : Nat} {v : Int32} (hq : nf_ok (9, n, c, h)) (hv : Int32.ofNat (nf_len c) = v) (dg : decode cc pc = .ok (.arraylength, 1)) (kk : nf_V L d cc own nL ret r S2 (pc + 1) ls (.int v :: st) S) : nf_V L d cc own nL ret r S2 pc ls (.ref (L.2.2 (9, n, c, h)) :: st) S := by
  intro p l e s m args below meth c H locs la hC hH hl2
  obtain ⟨j, hj⟩ := nf_place hq
  exact va_alen hC.1 hC.2.1 hC.2.2.2.2.2.2.2.2.1 hH.1.P j 0 (nf_cs_at hj) rfl hv dg (kk p l e s m args below meth c H locs la hC hH hl2)
theorem nf_alenO {x : Nat} {v : Int32} (hq : nf_ok (10, x, 0, 0)) (hv : Int32.ofNat (nf_lenO x) = v) (dg : decode cc pc = .ok (.arraylength, 1)) (kk : nf_V L d cc own nL ret r S2 (pc + 1) ls (.int v :: st) S) : nf_V L d cc own nL ret r S2 pc ls (.ref (L.2.2 (10, x, 0, 0)) :: st) S := by
  intro p l e s m args below meth c H locs la hC hH hl2
  obtain ⟨j, hj⟩ := nf_place hq
  exact va_alen hC.1 hC.2.1 hC.2.2.2.2.2.2.2.2.1 hH.1.P j 0 (nf_cs_at hj) rfl hv dg (kk p l e s m args below meth c H locs la hC hH hl2)
theorem nf_cell_sA {n c h : Nat} {f : Nat → Int32} (q : nf_Pos) (hq : q ≠ (9, n, c, h)) : nf_cell L (nf_sA S n c h f) q = nf_cell L S q := by
  obtain ⟨k, n', c', h'⟩ := q
  match k with
  | 0 => rfl
  | 1 => rfl
  | 2 => rfl
  | 3 => rfl
  | 4 => rfl
  | 5 => rfl
  | 6 => rfl
  | 7 => rfl
  | 8 => rfl
  | 9 =>
    have : ¬ (n' = n ∧ c' = c ∧ h' = h) := fun e => hq (by rw [e.1, e.2.1, e.2.2])
    simp only [nf_cell, nf_A_sA, if_neg this]
  | k + 10 => rfl
theorem nf_cell_sO {x : Nat} {f : Nat → Int32} (q : nf_Pos) (h0 : nf_ok q) (hq : q ≠ (10, x, 0, 0)) : nf_cell L (nf_sO S x f) q = nf_cell L S q := by
  obtain ⟨k, n', c', h'⟩ := q
  match k, h0 with
  | 0, _ => rfl
  | 1, _ => rfl
  | 2, _ => rfl
  | 3, _ => rfl
  | 4, _ => rfl
  | 5, _ => rfl
  | 6, _ => rfl
  | 7, _ => rfl
  | 8, _ => rfl
  | 9, _ => rfl
  | 10, h0 =>
    have : ¬ n' = x := fun e => hq (by have := h0.2; simp at this; rw [e, this.1, this.2])
    simp only [nf_cell, nf_O_sO, if_neg this]
  | k + 11, h0 => exact absurd h0 (by simp [nf_ok])
theorem nf_iast {n c h : Nat} {i x : Int32} (hq : nf_ok (9, n, c, h)) (hi : vp_in i (nf_len c)) (dg : decode cc pc = .ok (.iastore, 1)) (kk : nf_V L d cc own nL ret r S2 (pc + 1) ls st (nf_sA S n c h (upd (nf_A S n c h) i.toNatClampNeg x))) : nf_V L d cc own nL ret r S2 pc ls (.int x :: .int i :: .ref (L.2.2 (9, n, c, h)) :: st) S := by
  intro p l e s m args below meth c H locs la hC hH hl2
  obtain ⟨j, hj⟩ := nf_place hq
  refine va_iast hC.1 hC.2.1 hC.2.2.2.2.2.2.2.2.1 hH.1.P (nf_D hC.2.2.2.2.2.2.2.1) hH.2 j 0 (nf_cs_at hj) rfl hi dg (fun H1 locs1 hP hD hS => kk p l e s m args below meth c H1 locs1 la hC ⟨nf_H.back hj hP (fun h => ?_) (fun q' _ hne => nf_cell_sA q' hne), hS⟩ hl2)
  simp only [nf_cell, nf_A_sA, and_self, if_true]
  exact h
theorem nf_iastO {x0 : Nat} {i x : Int32} (hq : nf_ok (10, x0, 0, 0)) (hi : vp_in i (nf_lenO x0)) (dg : decode cc pc = .ok (.iastore, 1)) (kk : nf_V L d cc own nL ret r S2 (pc + 1) ls st (nf_sO S x0 (upd (nf_O S x0) i.toNatClampNeg x))) : nf_V L d cc own nL ret r S2 pc ls (.int x :: .int i :: .ref (L.2.2 (10, x0, 0, 0)) :: st) S := by
  intro p l e s m args below meth c H locs la hC hH hl2
  obtain ⟨j, hj⟩ := nf_place hq
  refine va_iast hC.1 hC.2.1 hC.2.2.2.2.2.2.2.2.1 hH.1.P (nf_D hC.2.2.2.2.2.2.2.1) hH.2 j 0 (nf_cs_at hj) rfl hi dg (fun H1 locs1 hP hD hS => kk p l e s m args below meth c H1 locs1 la hC ⟨nf_H.back hj hP (fun h => ?_) (fun q' h0 hne => nf_cell_sO q' h0 hne), hS⟩ hl2)
  simp only [nf_cell, nf_O_sO, if_true]
  exact h
/-- hosts[i] -/
theorem nf_hald {n : Nat} {i : Int32} (hn : n < 5) (hi : vp_in i 6) (dg : decode cc pc = .ok (.aaload, 1)) (kk : nf_V L d cc own nL ret r S2 (pc + 1) ls (.ref (L.2.2 (4, n, 0, i.toNatClampNeg)) :: st) S) : nf_V L d cc own nL ret r S2 pc ls (.int i :: .ref (L.2.2 (7, n, 0, 0)) :: st) S := by
  intro p l e s m args below meth c H locs la hC hH hl2
  obtain ⟨j, hj⟩ := nf_place (q := (7, n, 0, 0)) ⟨hn, rfl⟩
  exact va_aldq hC.1 hC.2.1 hC.2.2.2.2.2.2.2.2.1 hH.1.P j 1 (nf_cs_at hj) rfl hi dg (kk p l e s m args below meth c H locs la hC hH hl2)
/-- saved[i] -/
theorem nf_sald {i : Int32} (hi : vp_in i 4) (dg : decode cc pc = .ok (.aaload, 1)) (kk : nf_V L d cc own nL ret r S2 (pc + 1) ls (.ref (L.2.2 (1, nf_v S i.toNatClampNeg, 0, 0)) :: st) S) : nf_V L d cc own nL ret r S2 pc ls (.int i :: .ref (L.2.2 (6, 0, 0, 0)) :: st) S := by
  intro p l e s m args below meth c H locs la hC hH hl2
  obtain ⟨j, hj⟩ := nf_place (q := (6, 0, 0, 0)) rfl
  exact va_aldq hC.1 hC.2.1 hC.2.2.2.2.2.2.2.2.1 hH.1.P j 2 (nf_cs_at hj) rfl hi dg (kk p l e s m args below meth c H locs la hC hH hl2)
theorem nf_cell_sv {g : Nat → Nat} (q : nf_Pos) (hq : nf_ok q) (hne : q ≠ (6, 0, 0, 0)) : nf_cell L (nf_sv S g) q = nf_cell L S q := by
  obtain ⟨k, n', c', h'⟩ := q
  match k, hq with
  | 0, _ => rfl
  | 1, _ => rfl
  | 2, _ => rfl
  | 3, _ => rfl
  | 4, _ => rfl
  | 5, _ => rfl
  | 6, h0 => exact absurd (by have h1 : (n', c', h') = (0, 0, 0) := h0; rw [h1]) hne
  | 7, _ => rfl
  | 8, _ => rfl
  | 9, _ => rfl
  | k + 10, _ => rfl
/-- saved[i] = net n -/
theorem nf_sast {i : Int32} {n : Nat} (hn : n < 5) (hi : vp_in i 4) (dg : decode cc pc = .ok (.aastore, 1)) (kk : nf_V L d cc own nL ret r S2 (pc + 1) ls st (nf_sv S (va_up (nf_v S) i.toNatClampNeg n))) : nf_V L d cc own nL ret r S2 pc ls (.ref (L.2.2 (1, n, 0, 0)) :: .int i :: .ref (L.2.2 (6, 0, 0, 0)) :: st) S := by
  intro p l e s m args below meth c H locs la hC hH hl2
  obtain ⟨j, hj⟩ := nf_place (q := (6, 0, 0, 0)) rfl
  obtain ⟨j2, hj2⟩ := nf_place (q := (1, n, 0, 0)) ⟨hn, rfl⟩
  refine va_astq hC.1 hC.2.1 hC.2.2.2.2.2.2.2.2.1 hH.1.P (nf_D hC.2.2.2.2.2.2.2.1) hH.2 j 2 j2 3 (r := (RX3, TX3, 8)) (nf_cs_at hj) rfl (nf_cs_at hj2) rfl hi dg (fun H1 locs1 hP hD hS => kk p l e s m args below meth c H1 locs1 la hC ⟨nf_H.back hj hP (fun h => ?_) (fun q' h0 hne => nf_cell_sv q' h0 hne), hS⟩ hl2)
  have e : (fun k => some (L.2.2 (1, nf_v (nf_sv S (va_up (nf_v S) i.toNatClampNeg n)) k, 0, 0))) = va_up (fun k => some (L.2.2 (1, nf_v S k, 0, 0))) i.toNatClampNeg (some (L.2.2 (1, n, 0, 0))) := by
    funext k
    rw [nf_v_sv]
    simp only [va_up]
    by_cases hk : k = i.toNatClampNeg <;> simp [hk]
  simp only [nf_cell]
  rw [e]
  exact h
/-- System.arraycopy of a whole row into a row of the same length -/
theorem nf_copy {n1 n2 c h1 h2 idx : Nat} {N : Int32} (hq1 : nf_ok (9, n1, c, h1)) (hq2 : nf_ok (9, n2, c, h2)) (hN : N.toNatClampNeg = nf_len c) (hN0 : ¬ N < 0) (hlink : Cond.methodLink own idx arraycopyName ∈ nf_tbl) (hnat : Cond.native arraycopyName ∈ nf_tbl) (hstat : Cond.static arraycopyName ∈ nf_tbl) (hini : Cond.initialized "java/lang/System" ∈ nf_tbl)
    (hd : 1 ≤ d) (hlo : (st.map fun v => v.category).sum + (nativeFrameWords "java/lang/System" "arraycopy" 5 + 11) ≤ 40 * d) (dg : decode cc pc = .ok (.invokestatic idx, 3))
    (kk : nf_V L d cc own nL ret r S2 (pc + 3) ls st (nf_sA S n2 c h2 (nf_A S n1 c h1))) : nf_V L d cc own nL ret r S2 pc ls (.int N :: .int 0 :: .ref (L.2.2 (9, n2, c, h2)) :: .int 0 :: .ref (L.2.2 (9, n1, c, h1)) :: st) S := by
  intro p l e s m args below meth c H locs la hC hH hl2
  obtain ⟨j1, hj1⟩ := nf_place hq1
  obtain ⟨j2, hj2⟩ := nf_place hq2
  have hts := hC.2.2.2.2.2.1
  refine va_copyi (ty := .int) hC.1 hC.2.1 (by rw [hC.2.2.2.1]; exact hl2.1.symm) hC.2.2.2.2.1 (hts _ hlink) (hts _ hnat) (hts _ hstat) (hts _ hini) hC.2.2.2.2.2.2.2.2.1 hH.1.P (nf_D hC.2.2.2.2.2.2.2.1) hH.2 j1 j2 0 0 (nf_cs_at hj1) (nf_cs_at hj2) rfl rfl rfl (by decide) (by decide) hN0 (by rw [hN]; simp) (by rw [hN]; simp) (fun _ _ => rfl) hd hlo dg
    (fun H1 locs1 hP hD hS => kk p l e s m args below meth c H1 locs1 la hC ⟨nf_H.back hj2 hP (fun h => ?_) (fun q' _ hne => nf_cell_sA q' hne), hS⟩ hl2)
  simp only [nf_cell, nf_A_sA, and_self, if_true]
  refine (show H1[_]? = some (vp_cell _ _) from h).trans ?_
  congr 1
  simp only [vp_cell, arrV]
  congr 1
  apply congrArg Array.ofFn
  funext x
  have hx : x.val < N.toNatClampNeg := by rw [hN]; exact x.isLt
  simp [va_cpy, hx]

theorem nf_good (y : MethodName) (cc : ByteArray) (nL : Nat) (ret : Option FieldType) (hc : Cond.code y cc nL ret ∈ nf_tbl) : GoodIn nf_tbl (nf_ws y cc nL ret) := by
  intro w hw
  have h1 : w ∈ nf_tbl := by
    rcases List.mem_cons.mp hw with rfl | h
    · exact hc
    · exact h
  exact ⟨h1, good_of_word (List.mem_filter.mp h1).2⟩
theorem nf_blind {as : List Value} : FrameBlind (nf_Pc L as S) := by
  intro a U g mk h
  obtain ⟨h1, h2, h3, h4, h5⟩ := h
  exact ⟨h1, h2, h3, va_K.moved (u := U) (U := U.calling g mk a) (Vm.Alike.refl U.vm) h4, fun w hw => va_Nw.same (u := U) (U := U.calling g mk a) (by simp only [nf_nw, List.mem_cons, List.not_mem_nil, or_false] at hw; rcases hw with rfl | rfl | rfl | rfl <;> rfl) rfl (h5 w hw)⟩
theorem nf_pre {s : State} {H : Heap} {as : List Value} (hj : nf_inj L) (hK : nf_K L s) (hH : nf_H L S H) (U : State) (hU : U.heap = H) (hW : s.WarmedH U.vm) : nf_Pc L as S as.toArray U :=
  ⟨rfl, hj, by rw [hU]; exact hH, hK.warm hW⟩
/-- behind a call -/
theorem nf_after {p : Program} {l : Launch} {e : Env} {R : Room} {s : State} {m : MethodId} {args : Array Value} {below : List Frame} {meth : Method} {c : Code} {H : Heap} {locs : List Loc} {cells slots : Nat} {Q : State → Prop} {la : Array Slot} {st0 rest : List Value} {a : Array Value} {v : Option Value} {S1 : nf_S}
    (hr : CallRun p l e R s m args below meth c H locs cells slots 0 0 (F0 m pc la st0) rest (nf_Qc L v S1 a) (nf_Ad L)) (hS : va_S (nf_Ad L) s.heap H locs)
    (kk : ∀ (H1 : Heap) (locs1 : List Loc), nf_Hp L S1 s H1 locs1 → W p l e R s m args below meth c H1 locs1 cells slots Q (F0 m (pc + 3) la (v.toList ++ rest))) : W p l e R s m args below meth c H locs cells slots Q (F0 m pc la st0) := by
  intro T hT X
  obtain ⟨v', st₀, t, T', Lc, h0, X', hL, e1, ⟨hv, hh, hF⟩, hst⟩ := hr T hT X
  cases hv
  have hS1 : va_S (nf_Ad L) s.heap t.heap (locs ++ Lc) := by
    obtain ⟨z1, z2⟩ := hF
    rw [h0] at z1 z2
    refine ⟨Nat.le_trans hS.1 z1, fun q hq hA => ?_, fun x hx => ?_⟩
    · rw [z2 q (Nat.lt_of_lt_of_le hq hS.1) hA]
      exact hS.2.1 q hq hA
    · rcases List.mem_append.mp hx with h | h
      · exact hS.2.2 x h
      · exact hL x h
  obtain ⟨t2, a1, b1⟩ := kk t.heap (locs ++ Lc) ⟨hh, hS1⟩ T' e1 X'
  exact ⟨t2, hst t2 a1, b1⟩
theorem nf_recv {q : nf_Pos} {ci : Nat} {fs : List Value} {t : vw_C} {s : State} {H : Heap} (hK : nf_K L s) (hH : nf_H L S H) (hq : nf_ok q) (he : nf_cell L S q = .inr (ci, fs)) (hc : vwCl[ci]? = some t) : ∃ cell : Cell, H[L.2.2 q]? = some cell ∧ cell.vm.isStatics = false ∧ s.vm.findClass t.1 = some cell.cls := by
  obtain ⟨j, hj⟩ := nf_place hq
  have h0 := nf_cs_at (L := L) (S := S) hj
  rw [he] at h0
  exact va_recv hK.1 hH.P hc h0
/-- what a call of y needs of the tables: its link, its code, its holder made ready -/
def nf_lk (own : String) (idx : Nat) (y : MethodName) (bytes : ByteArray) (mL : Nat) (rt : Option FieldType) : Prop := Cond.methodLink own idx y ∈ nf_tbl ∧ Cond.code y bytes mL rt ∈ nf_tbl ∧ Cond.initialized y.cls ∈ nf_tbl
def nf_nm (y : MethodName) (n : Nat) : Prop := (y.cls ≠ "java/lang/invoke/MethodHandle" ∧ y.cls ≠ "java/lang/invoke/VarHandle") ∧ (parseMethodDescriptor y.desc).map (fun d => d.parameters.length) = some n
theorem nf_cb {s : State} {args : Array Value} {R : Room} {d1 idx mL n : Nat} {y : MethodName} {bytes : ByteArray} {rt : Option FieldType} (hts : ∀ w ∈ nf_tbl, w.before args s = true) (hk : nf_lk own idx y bytes mL rt) (hn : nf_nm y n) (hR : d1 + 1 ≤ R.frames ∧ 8 + (mL + 11) + 40 * d1 ≤ R.locals) : CallB R s args own idx y bytes mL rt (nf_ws y bytes mL rt) (nf_rm d1) 0 0 n :=
  callB_of n hts (nf_good y bytes mL rt hk.2.1) rfl rfl rfl (hts _ hk.2.2) (hts _ hk.1) ⟨hn.1.1, hn.1.2, hn.2⟩ hR
theorem nf_callS {d1 idx mL n : Nat} {y : MethodName} {bytes : ByteArray} {rt : Option FieldType} {as st : List Value} {v : Option Value} {S1 : nf_S} (hs : nf_Sp L d1 y bytes mL rt as S v S1) (hk : nf_lk own idx y bytes mL rt) (hst : Cond.static y ∈ nf_tbl) (hn : nf_nm y n) (ha : as.length = n) (hR : d1 + 1 ≤ d ∧ 8 + (mL + 11) + 40 * d1 ≤ 40 * d) (hW : (st.map fun v => v.category).sum ≤ 8) (dg : decode cc pc = .ok (.invokestatic idx, 3))
    (kk : nf_V L d cc own nL ret r S2 (pc + 3) ls (v.toList ++ st) S1) : nf_V L d cc own nL ret r S2 pc ls (as.reverse ++ st) S := by
  intro p l e s m args below meth c H locs la hC hH hl2
  exact nf_after (W.runS (n := n) ⟨hC.1, hC.2.1, hC.2.2.2.1, hC.2.2.2.2.1, hC.2.2.2.2.2.1⟩ (hs l) ⟨nf_cb hC.2.2.2.2.2.1 hk hn hR, hC.2.2.2.2.2.1 _ hst⟩ ⟨nf_blind, nf_pre hC.2.2.2.2.2.2.2.1 hC.2.2.2.2.2.2.2.2 hH.1⟩ rfl ha hl2.1 rfl (lv_room hW) dg ⟨Nat.zero_le _, Nat.zero_le _⟩) hH.2
    (fun H1 locs1 hH1 => kk p l e s m args below meth c H1 locs1 la hC hH1 hl2)
theorem nf_callV {q : nf_Pos} {ci : Nat} {fs : List Value} {t : vw_C} {d1 idx mL n : Nat} {y : MethodName} {bytes : ByteArray} {rt : Option FieldType} {as st : List Value} {v : Option Value} {S1 : nf_S} (hs : nf_Sp L d1 y bytes mL rt (.ref (L.2.2 q) :: as) S v S1) (hq : nf_ok q) (he : nf_cell L S q = .inr (ci, fs)) (hc : vwCl[ci]? = some t) (hk : nf_lk own idx y bytes mL rt) (hin : Cond.instanceMethod y ∈ nf_tbl) (hse : Cond.selects t.1 y y ∈ nf_tbl) (hn : nf_nm y n) (ha : as.length = n) (hR : d1 + 1 ≤ d ∧ 8 + (mL + 11) + 40 * d1 ≤ 40 * d) (hW : (st.map fun v => v.category).sum ≤ 8) (dg : decode cc pc = .ok (.invokevirtual idx, 3))
    (kk : nf_V L d cc own nL ret r S2 (pc + 3) ls (v.toList ++ st) S1) : nf_V L d cc own nL ret r S2 pc ls (as.reverse ++ .ref (L.2.2 q) :: st) S := by
  intro p l e s m args below meth c H locs la hC hH hl2
  exact nf_after (W.runV (n := n) ⟨hC.1, hC.2.1, hC.2.2.2.1, hC.2.2.2.2.1, hC.2.2.2.2.2.1⟩ (hs l) ⟨nf_cb hC.2.2.2.2.2.1 hk hn hR, hC.2.2.2.2.2.1 _ hin, hC.2.2.2.2.2.1 _ hse⟩ ⟨nf_blind, nf_recv hC.2.2.2.2.2.2.2.2 hH.1 hq he hc, nf_pre hC.2.2.2.2.2.2.2.1 hC.2.2.2.2.2.2.2.2 hH.1⟩ rfl ha hl2.1 rfl (lv_room hW) dg ⟨Nat.zero_le _, Nat.zero_le _⟩) hH.2
    (fun H1 locs1 hH1 => kk p l e s m args below meth c H1 locs1 la hC hH1 hl2)
/-- a static method of a nest mate -/
theorem nf_callN {host : String} {d1 idx mL n : Nat} {y : MethodName} {bytes : ByteArray} {rt : Option FieldType} {as st : List Value} {v : Option Value} {S1 : nf_S} (hs : nf_Sp L d1 y bytes mL rt as S v S1) (hk : Cond.methodLinkNest own idx y host ∈ nf_nw ∧ Cond.code y bytes mL rt ∈ nf_tbl ∧ Cond.initialized y.cls ∈ nf_tbl) (hst : Cond.static y ∈ nf_tbl) (hn : nf_nm y n) (ha : as.length = n) (hR : d1 + 1 ≤ d ∧ 8 + (mL + 11) + 40 * d1 ≤ 40 * d) (hW : (st.map fun v => v.category).sum ≤ 8) (dg : decode cc pc = .ok (.invokestatic idx, 3))
    (kk : nf_V L d cc own nL ret r S2 (pc + 3) ls (v.toList ++ st) S1) : nf_V L d cc own nL ret r S2 pc ls (as.reverse ++ st) S := by
  intro p l e s m args below meth c H locs la hC hH hl2
  have hr := va_runSN (n := n) (host := host) ⟨hC.1, hC.2.1, hC.2.2.2.1, hC.2.2.2.2.1, hC.2.2.2.2.2.1⟩ (hs l) ⟨va_cnB n hC.2.2.2.2.2.1 (nf_good y bytes mL rt hk.2.1) rfl rfl rfl (hC.2.2.2.2.2.2.2.2.2 _ hk.1) (hC.2.2.2.2.2.1 _ hk.2.2) ⟨hn.1.1, hn.1.2, hn.2⟩ hR, hC.2.2.2.2.2.1 _ hst, trivial⟩ ⟨nf_blind, nf_pre hC.2.2.2.2.2.2.2.1 hC.2.2.2.2.2.2.2.2 hH.1⟩ (g := F0 m pc la (as.reverse ++ st)) (locs := locs) (cells := 0) (slots := 0) (p := p) (e := e) (below := below) (meth := meth) (R := nf_rm d) (rest := st) rfl ha hl2.1 rfl (lv_room hW) dg ⟨Nat.zero_le _, Nat.zero_le _⟩
  refine nf_after (v := v) (S1 := S1) (a := as.toArray) (rest := st) ?_ hH.2 (fun H1 locs1 hH1 => kk p l e s m args below meth c H1 locs1 la hC hH1 hl2)
  intro T hT X
  obtain ⟨v', st₀, t, T', Lc, h0, X', hL, e1, e2, hQ, hstp⟩ := hr T hT X
  exact ⟨v', st₀, t, T', Lc, h0, X', hL, e1, hQ, hstp⟩
/-- a contract's start -/
theorem nf_start {y : MethodName} {as : List Value} (hy : plainName y.cls = true) (hl : (lg_sl as).length ≤ nL) (ho : y.cls = own) {ls0 : List (Option Value)} (hls : lv_args 0 as = nf_prs 0 ls0) (k : nf_V L d cc own nL ret r S2 0 ls0 [] S) : nf_Sp L d y cc nL ret as S r S2 := by
  intro l
  refine Met.ofW (cc := cc) (maxL := nL) (ret := ret) hy rfl ?_
  intro p e s m args below meth c s₁ B hml hv
  obtain ⟨rfl, hj, hH, hK⟩ := hv
  have hts := atoms_spec (ws := nf_ws y cc nL ret) B.pre
  have hown : s.vm.findClass own = some m.cls := by rw [← ho]; exact findClass_of_methodNamed B.named
  have hle := lv_entry as (n := nL) hl
  rw [hls] at hle
  rw [lg_entry_eq]
  exact k p l e s m as.toArray below meth c s.heap [] _ ⟨B.exec, B.bytes, B.returns, hml, hown, fun w hw => hts w (List.mem_cons_of_mem _ hw), B.notSynchronized, hj, hK⟩ ⟨hH, va_S.rf⟩ hle
end NfHeap
