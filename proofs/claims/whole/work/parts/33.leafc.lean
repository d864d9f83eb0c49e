/-! constructors -/
theorem nc_eq {L : nf_L} {d : Nat × Nat × Nat} {cc : ByteArray} {own : String} {nL : Nat} {ret : String} {r : Nat} {S2 : nc_T} {pc : Nat} {ls : List (Option Value)} {st st' : List Value} {S S' : (Nat × Nat) × nc_T} (h1 : S = S') (h2 : st = st') (k : nc_V L d cc own nL ret r S2 pc ls st' S') : nc_V L d cc own nL ret r S2 pc ls st S := by subst h1; subst h2; exact k
abbrev za (L : nf_L) (n : Nat) : va_E := .inl (L.2.1.1, n, .inl (fun _ => 0))
abbrev zf (L : nf_L) (n : Nat) (v : Int32) : va_E := .inl (L.2.1.1, n, .inl (cf_fill (fun _ => 0) v n))
theorem ob_X5 : Cond.methodLink RX5 3 objectInit ∈ nf_tbl := List.mem_filter.mpr ⟨List.mem_of_getElem? (i := 35) (by decide +kernel), by decide +kernel⟩
theorem ob_X3 : Cond.methodLink RX3 3 objectInit ∈ nf_tbl := List.mem_filter.mpr ⟨List.mem_of_getElem? (i := 43) (by decide +kernel), by decide +kernel⟩
theorem ob_X2 : Cond.methodLink RX2 3 objectInit ∈ nf_tbl := List.mem_filter.mpr ⟨List.mem_of_getElem? (i := 49) (by decide +kernel), by decide +kernel⟩
theorem ob_X0 : Cond.methodLink RX0 3 objectInit ∈ nf_tbl := List.mem_filter.mpr ⟨List.mem_of_getElem? (i := 74) (by decide +kernel), by decide +kernel⟩
theorem ob_X4 : Cond.methodLink RX4 3 objectInit ∈ nf_tbl := List.mem_filter.mpr ⟨List.mem_of_getElem? (i := 113) (by decide +kernel), by decide +kernel⟩
theorem ob_X1 : Cond.methodLink RX1 3 objectInit ∈ nf_tbl := List.mem_filter.mpr ⟨List.mem_of_getElem? (i := 130) (by decide +kernel), by decide +kernel⟩
theorem ob_X6 : Cond.methodLink RX6 1 objectInit ∈ nf_tbl := List.mem_filter.mpr ⟨List.mem_of_getElem? (i := 481) (by decide +kernel), by decide +kernel⟩
theorem cl_X5_9 : Cond.classLink RX5 9 RX3 ∈ nf_tbl := List.mem_filter.mpr ⟨List.mem_of_getElem? (i := 38) (by decide +kernel), by decide +kernel⟩
theorem cl_X3_22 : Cond.classLink RX3 22 RX2 ∈ nf_tbl := List.mem_filter.mpr ⟨List.mem_of_getElem? (i := 44) (by decide +kernel), by decide +kernel⟩
theorem cl_X3_29 : Cond.classLink RX3 29 RX0 ∈ nf_tbl := List.mem_filter.mpr ⟨List.mem_of_getElem? (i := 69) (by decide +kernel), by decide +kernel⟩
theorem cl_X3_36 : Cond.classLink RX3 36 RX1 ∈ nf_tbl := List.mem_filter.mpr ⟨List.mem_of_getElem? (i := 106) (by decide +kernel), by decide +kernel⟩
theorem cl_X3_42 : Cond.classLink RX3 42 RX4 ∈ nf_tbl := List.mem_filter.mpr ⟨List.mem_of_getElem? (i := 108) (by decide +kernel), by decide +kernel⟩
theorem cl_X5_16 : Cond.classLink RX5 16 RX4 ∈ nf_tbl := List.mem_filter.mpr ⟨List.mem_of_getElem? (i := 181) (by decide +kernel), by decide +kernel⟩
theorem is_X5 : Cond.instantiable RX5 5 ∈ nf_tbl := List.mem_filter.mpr ⟨List.mem_of_getElem? (i := 31) (by decide +kernel), by decide +kernel⟩
theorem is_X3 : Cond.instantiable RX3 8 ∈ nf_tbl := List.mem_filter.mpr ⟨List.mem_of_getElem? (i := 39) (by decide +kernel), by decide +kernel⟩
theorem is_X2 : Cond.instantiable RX2 4 ∈ nf_tbl := List.mem_filter.mpr ⟨List.mem_of_getElem? (i := 45) (by decide +kernel), by decide +kernel⟩
theorem is_X0 : Cond.instantiable RX0 6 ∈ nf_tbl := List.mem_filter.mpr ⟨List.mem_of_getElem? (i := 70) (by decide +kernel), by decide +kernel⟩
theorem is_X4 : Cond.instantiable RX4 2 ∈ nf_tbl := List.mem_filter.mpr ⟨List.mem_of_getElem? (i := 109) (by decide +kernel), by decide +kernel⟩
theorem is_X1 : Cond.instantiable RX1 4 ∈ nf_tbl := List.mem_filter.mpr ⟨List.mem_of_getElem? (i := 126) (by decide +kernel), by decide +kernel⟩
theorem is_X6 : Cond.instantiable RX6 5 ∈ nf_tbl := List.mem_filter.mpr ⟨List.mem_of_getElem? (i := 477) (by decide +kernel), by decide +kernel⟩
theorem mc_X3_24 : Cond.methodLinkNest RX3 24 yX2_init RX5 ∈ nc_nw ∧ Cond.code yX2_init cX2_init 1 none ∈ nf_tbl ∧ Cond.initialized yX2_init.cls ∈ nf_tbl := ⟨by decide +kernel, cd_X2_init, ini_X2⟩
theorem mc_X3_31 : Cond.methodLinkNest RX3 31 yX0_init RX5 ∈ nc_nw ∧ Cond.code yX0_init cX0_init 1 none ∈ nf_tbl ∧ Cond.initialized yX0_init.cls ∈ nf_tbl := ⟨by decide +kernel, cd_X0_init, ini_X0⟩
theorem mc_X3_44 : Cond.methodLinkNest RX3 44 yX4_init RX5 ∈ nc_nw ∧ Cond.code yX4_init cX4_init 1 none ∈ nf_tbl ∧ Cond.initialized yX4_init.cls ∈ nf_tbl := ⟨by decide +kernel, cd_X4_init, ini_X4⟩
theorem mc_X5_18 : Cond.methodLinkNest RX5 18 yX4_init RX5 ∈ nc_nw ∧ Cond.code yX4_init cX4_init 1 none ∈ nf_tbl ∧ Cond.initialized yX4_init.cls ∈ nf_tbl := ⟨by decide +kernel, cd_X4_init, ini_X4⟩
theorem nn_X0 : nf_nm yX0_init 0 := ⟨⟨by decide +kernel, by decide +kernel⟩, by decide +kernel⟩
theorem nn_X1 : nf_nm yX1_init 0 := ⟨⟨by decide +kernel, by decide +kernel⟩, by decide +kernel⟩
theorem nn_X2 : nf_nm yX2_init 0 := ⟨⟨by decide +kernel, by decide +kernel⟩, by decide +kernel⟩
theorem nn_X3 : nf_nm yX3_init 0 := ⟨⟨by decide +kernel, by decide +kernel⟩, by decide +kernel⟩
theorem nn_X4 : nf_nm yX4_init 0 := ⟨⟨by decide +kernel, by decide +kernel⟩, by decide +kernel⟩
set_option maxRecDepth 100000 in
theorem lpc_fill {L : nf_L} {b i n : Nat} {v : Int32} {tbl : nc_T} (hn : n < 2 ^ 31) (hi : i < tbl.length) : ∀ (m k : Nat) (f : Nat → Int32), k + m = n → nc_V L (0, 0, 0) cJ7_fill_53178 RJ7 4 "fill" b (tbl.set i (.inl (L.2.1.1, n, .inl (fun j => if k ≤ j ∧ j < n then v else f j)))) 5 [some (.ref (b + i)), some (.int v), some (.int (nI k)), some (.int (nI n))] [] ((0, 0), tbl.set i (.inl (L.2.1.1, n, .inl f))) := by
  intro m
  induction m with
  | zero =>
    intro k f hkm
    have e : (fun j => if k ≤ j ∧ j < n then v else f j) = f := by funext j; rw [if_neg (by omega)]
    rw [e]
    refine nc_iln (pc := 5) dJ7_fill_53178_5 rfl ?_
    refine nc_iln (pc := 6) dJ7_fill_53178_6 rfl ?_
    refine nc_ic_ge (pc := 7) 20 dJ7_fill_53178_7 (by decide) (fun _ => ?_) (fun h => absurd (show nI n ≤ nI k by rw [show k = n by omega]; exact Int32.le_refl _) h)
    exact nc_vret (pc := 20) dJ7_fill_53178_20
  | succ m ih =>
    intro k f hkm
    refine nc_iln (pc := 5) dJ7_fill_53178_5 rfl ?_
    refine nc_iln (pc := 6) dJ7_fill_53178_6 rfl ?_
    refine nc_ic_ge (pc := 7) 20 dJ7_fill_53178_7 (by decide) (fun h => absurd (nI_lt (show k < n by omega) hn) (Int32.not_lt.mpr h)) (fun _ => ?_)
    refine nc_aln (pc := 10) dJ7_fill_53178_10 rfl ?_
    refine nc_iln (pc := 11) dJ7_fill_53178_11 rfl ?_
    refine nc_iln (pc := 12) dJ7_fill_53178_12 rfl ?_
    refine nc_iast (pc := 13) (i := i) (n := n) (f := f) (by rw [List.getElem?_set, if_pos rfl, if_pos hi]) (nf_inI (show k < n by omega) hn) dJ7_fill_53178_13 ?_
    refine nc_eq (S' := ((0, 0), tbl.set i (.inl (L.2.1.1, n, .inl (upd f k v))))) (by rw [List.set_set, nI_clamp (show k < 2 ^ 31 by omega)]) rfl ?_
    refine nc_iincg (pc := 14) (v := nI (k + 1)) dJ7_fill_53178_14 rfl (nI_succ k).symm (fun o h _ => by have h9 := Option.some.inj h; rw [← h9]; rfl) (by decide) (Nat.le_of_ble_eq_true rfl) ?_
    refine nc_goto (pc := 17) 5 dJ7_fill_53178_17 (by decide) ?_
    have e : (fun j => if k ≤ j ∧ j < n then v else f j) = (fun j => if k + 1 ≤ j ∧ j < n then v else upd f k v j) := by
      funext j
      simp only [upd]
      by_cases h1 : j = k
      · subst h1; rw [if_pos (by omega), if_neg (by omega), if_pos rfl]
      · rw [if_neg h1]
        by_cases h2 : k ≤ j ∧ j < n
        · rw [if_pos h2, if_pos (by omega)]
        · rw [if_neg h2, if_neg (by omega)]
    rw [e]
    exact ih (k + 1) (upd f k v) (by omega)
theorem sc_fill {L : nf_L} {b i n : Nat} {v : Int32} {f : Nat → Int32} {tbl : nc_T} (hn : n < 2 ^ 31) (he : tbl[i]? = some (.inl (L.2.1.1, n, .inl f))) : nc_Sp L (0, 0, 0) yJ7_fill_53178 cJ7_fill_53178 4 b [.ref (b + i), .int v] tbl (tbl.set i (.inl (L.2.1.1, n, .inl (cf_fill f v n)))) := by
  have hi : i < tbl.length := (List.getElem?_eq_some_iff.mp he).1
  refine nc_start (own := RJ7) (ret := "fill") (ls0 := [some (.ref (b + i)), some (.int v), none, none]) (by decide) (Nat.le_of_ble_eq_true rfl) rfl rfl rfl ?_
  refine nc_iconst (pc := 0) (v := nI 0) dJ7_fill_53178_0 (by decide) ?_
  refine nc_is2 (pc := 1) dJ7_fill_53178_1 rfl (by decide) ?_
  refine nc_aln (pc := 2) dJ7_fill_53178_2 rfl ?_
  refine nc_alen (pc := 3) (i := i) (n := n) (f := f) he dJ7_fill_53178_3 ?_
  refine nc_is3 (pc := 4) dJ7_fill_53178_4 rfl (by decide) ?_
  have e : tbl.set i (.inl (L.2.1.1, n, .inl f)) = tbl := by
    apply List.ext_getElem?
    intro j
    rw [List.getElem?_set]
    by_cases h : i = j
    · subst h; rw [if_pos rfl, if_pos hi, he]
    · rw [if_neg h]
  have h0 := lpc_fill (L := L) (b := b) (v := v) hn hi n 0 f (by omega)
  rw [e] at h0
  have e2 : cf_fill f v n = (fun j => if 0 ≤ j ∧ j < n then v else f j) := by funext j; simp [cf_fill]
  rw [e2]
  exact h0
abbrev nc_oX2 (L : nf_L) (b : Nat) : nc_T := [.inr (2, [.int 0, .ref (b + 1), .ref (b + 2), .ref (b + 3)]), za L 12, za L 12, za L 12]
set_option maxRecDepth 100000 in
set_option maxHeartbeats 4000000 in
theorem sc_X2 {L : nf_L} {b : Nat} : nc_Sp L (1, 3, 36) yX2_init cX2_init 1 b [.ref b] [.inr (2, [.int 0, .null, .null, .null])] (nc_oX2 L b) := by
  refine nc_start (own := RX2) (ret := "<init>") (ls0 := [some (.ref b)]) (by decide) (Nat.le_of_ble_eq_true rfl) rfl rfl rfl ?_
  refine nc_aln (pc := 0) dX2_init_0 rfl ?_
  refine nc_obj (pc := 1) ob_X2 (by decide) (Nat.le_of_ble_eq_true rfl) dX2_init_1 ?_
  refine nc_aln (pc := 4) dX2_init_4 rfl ?_
  refine nc_iconst (pc := 5) (v := 0) dX2_init_5 (by decide) ?_
  refine nc_put (pc := 6) (i := 0) (ci := 2) (fs := [.int 0, .null, .null, .null]) (k0 := 0) (ty := .int) tyX2 rfl rfl nf_inX2 tyX2_ok nmX2 (by decide) lk_X2_9 rfl (by decide +kernel) rfl rfl (Nat.le_of_ble_eq_true rfl) dX2_init_6 ?_
  refine nc_eq (S' := ((0, 0), [.inr (2, [.int 0, .null, .null, .null])])) (st' := []) rfl rfl ?_
  refine nc_aln (pc := 9) dX2_init_9 rfl ?_
  refine nc_bipush (pc := 10) (v := 12) dX2_init_10 (by decide) ?_
  refine nc_newa (pc := 12) (N := 12) (by decide) (by decide) (Nat.le_of_ble_eq_true rfl) (Nat.le_of_ble_eq_true rfl) (Nat.le_of_ble_eq_true rfl) dX2_init_12 ?_
  refine nc_eq (S' := ((1, 12), [.inr (2, [.int 0, .null, .null, .null]), za L 12])) (st' := [.ref (b + 1), .ref b]) rfl rfl ?_
  refine nc_putF (pc := 14) (i := 0) (ci := 2) (fs := [.int 0, .null, .null, .null]) (k0 := 1) (ty := .array .int) tyX2 rfl rfl nf_inX2 tyX2_ok nmX2 (by decide) lk_X2_15 rfl rfl rfl (by decide +kernel) rfl rfl (Nat.le_of_ble_eq_true rfl) dX2_init_14 ?_
  refine nc_eq (S' := ((1, 12), [.inr (2, [.int 0, .ref (b + 1), .null, .null]), za L 12])) (st' := []) rfl rfl ?_
  refine nc_aln (pc := 17) dX2_init_17 rfl ?_
  refine nc_bipush (pc := 18) (v := 12) dX2_init_18 (by decide) ?_
  refine nc_newa (pc := 20) (N := 12) (by decide) (by decide) (Nat.le_of_ble_eq_true rfl) (Nat.le_of_ble_eq_true rfl) (Nat.le_of_ble_eq_true rfl) dX2_init_20 ?_
  refine nc_eq (S' := ((2, 24), [.inr (2, [.int 0, .ref (b + 1), .null, .null]), za L 12, za L 12])) (st' := [.ref (b + 2), .ref b]) rfl rfl ?_
  refine nc_putF (pc := 22) (i := 0) (ci := 2) (fs := [.int 0, .ref (b + 1), .null, .null]) (k0 := 2) (ty := .array .int) tyX2 rfl rfl nf_inX2 tyX2_ok nmX2 (by decide) lk_X2_19 rfl rfl rfl (by decide +kernel) rfl rfl (Nat.le_of_ble_eq_true rfl) dX2_init_22 ?_
  refine nc_eq (S' := ((2, 24), [.inr (2, [.int 0, .ref (b + 1), .ref (b + 2), .null]), za L 12, za L 12])) (st' := []) rfl rfl ?_
  refine nc_aln (pc := 25) dX2_init_25 rfl ?_
  refine nc_bipush (pc := 26) (v := 12) dX2_init_26 (by decide) ?_
  refine nc_newa (pc := 28) (N := 12) (by decide) (by decide) (Nat.le_of_ble_eq_true rfl) (Nat.le_of_ble_eq_true rfl) (Nat.le_of_ble_eq_true rfl) dX2_init_28 ?_
  refine nc_eq (S' := ((3, 36), [.inr (2, [.int 0, .ref (b + 1), .ref (b + 2), .null]), za L 12, za L 12, za L 12])) (st' := [.ref (b + 3), .ref b]) rfl rfl ?_
  refine nc_putF (pc := 30) (i := 0) (ci := 2) (fs := [.int 0, .ref (b + 1), .ref (b + 2), .null]) (k0 := 3) (ty := .array .int) tyX2 rfl rfl nf_inX2 tyX2_ok nmX2 (by decide) lk_X2_22 rfl rfl rfl (by decide +kernel) rfl rfl (Nat.le_of_ble_eq_true rfl) dX2_init_30 ?_
  refine nc_eq (S' := ((3, 36), [.inr (2, [.int 0, .ref (b + 1), .ref (b + 2), .ref (b + 3)]), za L 12, za L 12, za L 12])) (st' := []) rfl rfl ?_
  exact nc_vret (pc := 33) dX2_init_33
abbrev nc_oX0 (L : nf_L) (b : Nat) : nc_T := [.inr (0, [.int 0, .ref (b + 1), .ref (b + 2), .ref (b + 3), .ref (b + 4), .ref (b + 5)]), za L 30, za L 30, za L 30, za L 30, za L 30]
set_option maxRecDepth 100000 in
set_option maxHeartbeats 4000000 in
theorem sc_X0 {L : nf_L} {b : Nat} : nc_Sp L (1, 5, 150) yX0_init cX0_init 1 b [.ref b] [.inr (0, [.int 0, .null, .null, .null, .null, .null])] (nc_oX0 L b) := by
  refine nc_start (own := RX0) (ret := "<init>") (ls0 := [some (.ref b)]) (by decide) (Nat.le_of_ble_eq_true rfl) rfl rfl rfl ?_
  refine nc_aln (pc := 0) dX0_init_0 rfl ?_
  refine nc_obj (pc := 1) ob_X0 (by decide) (Nat.le_of_ble_eq_true rfl) dX0_init_1 ?_
  refine nc_aln (pc := 4) dX0_init_4 rfl ?_
  refine nc_iconst (pc := 5) (v := 0) dX0_init_5 (by decide) ?_
  refine nc_put (pc := 6) (i := 0) (ci := 0) (fs := [.int 0, .null, .null, .null, .null, .null]) (k0 := 0) (ty := .int) tyX0 rfl rfl nf_inX0 tyX0_ok nmX0 (by decide) lk_X0_9 rfl (by decide +kernel) rfl rfl (Nat.le_of_ble_eq_true rfl) dX0_init_6 ?_
  refine nc_eq (S' := ((0, 0), [.inr (0, [.int 0, .null, .null, .null, .null, .null])])) (st' := []) rfl rfl ?_
  refine nc_aln (pc := 9) dX0_init_9 rfl ?_
  refine nc_bipush (pc := 10) (v := 30) dX0_init_10 (by decide) ?_
  refine nc_newa (pc := 12) (N := 30) (by decide) (by decide) (Nat.le_of_ble_eq_true rfl) (Nat.le_of_ble_eq_true rfl) (Nat.le_of_ble_eq_true rfl) dX0_init_12 ?_
  refine nc_eq (S' := ((1, 30), [.inr (0, [.int 0, .null, .null, .null, .null, .null]), za L 30])) (st' := [.ref (b + 1), .ref b]) rfl rfl ?_
  refine nc_putF (pc := 14) (i := 0) (ci := 0) (fs := [.int 0, .null, .null, .null, .null, .null]) (k0 := 1) (ty := .array .int) tyX0 rfl rfl nf_inX0 tyX0_ok nmX0 (by decide) lk_X0_15 rfl rfl rfl (by decide +kernel) rfl rfl (Nat.le_of_ble_eq_true rfl) dX0_init_14 ?_
  refine nc_eq (S' := ((1, 30), [.inr (0, [.int 0, .ref (b + 1), .null, .null, .null, .null]), za L 30])) (st' := []) rfl rfl ?_
  refine nc_aln (pc := 17) dX0_init_17 rfl ?_
  refine nc_bipush (pc := 18) (v := 30) dX0_init_18 (by decide) ?_
  refine nc_newa (pc := 20) (N := 30) (by decide) (by decide) (Nat.le_of_ble_eq_true rfl) (Nat.le_of_ble_eq_true rfl) (Nat.le_of_ble_eq_true rfl) dX0_init_20 ?_
  refine nc_eq (S' := ((2, 60), [.inr (0, [.int 0, .ref (b + 1), .null, .null, .null, .null]), za L 30, za L 30])) (st' := [.ref (b + 2), .ref b]) rfl rfl ?_
  refine nc_putF (pc := 22) (i := 0) (ci := 0) (fs := [.int 0, .ref (b + 1), .null, .null, .null, .null]) (k0 := 2) (ty := .array .int) tyX0 rfl rfl nf_inX0 tyX0_ok nmX0 (by decide) lk_X0_19 rfl rfl rfl (by decide +kernel) rfl rfl (Nat.le_of_ble_eq_true rfl) dX0_init_22 ?_
  refine nc_eq (S' := ((2, 60), [.inr (0, [.int 0, .ref (b + 1), .ref (b + 2), .null, .null, .null]), za L 30, za L 30])) (st' := []) rfl rfl ?_
  refine nc_aln (pc := 25) dX0_init_25 rfl ?_
  refine nc_bipush (pc := 26) (v := 30) dX0_init_26 (by decide) ?_
  refine nc_newa (pc := 28) (N := 30) (by decide) (by decide) (Nat.le_of_ble_eq_true rfl) (Nat.le_of_ble_eq_true rfl) (Nat.le_of_ble_eq_true rfl) dX0_init_28 ?_
  refine nc_eq (S' := ((3, 90), [.inr (0, [.int 0, .ref (b + 1), .ref (b + 2), .null, .null, .null]), za L 30, za L 30, za L 30])) (st' := [.ref (b + 3), .ref b]) rfl rfl ?_
  refine nc_putF (pc := 30) (i := 0) (ci := 0) (fs := [.int 0, .ref (b + 1), .ref (b + 2), .null, .null, .null]) (k0 := 3) (ty := .array .int) tyX0 rfl rfl nf_inX0 tyX0_ok nmX0 (by decide) lk_X0_22 rfl rfl rfl (by decide +kernel) rfl rfl (Nat.le_of_ble_eq_true rfl) dX0_init_30 ?_
  refine nc_eq (S' := ((3, 90), [.inr (0, [.int 0, .ref (b + 1), .ref (b + 2), .ref (b + 3), .null, .null]), za L 30, za L 30, za L 30])) (st' := []) rfl rfl ?_
  refine nc_aln (pc := 33) dX0_init_33 rfl ?_
  refine nc_bipush (pc := 34) (v := 30) dX0_init_34 (by decide) ?_
  refine nc_newa (pc := 36) (N := 30) (by decide) (by decide) (Nat.le_of_ble_eq_true rfl) (Nat.le_of_ble_eq_true rfl) (Nat.le_of_ble_eq_true rfl) dX0_init_36 ?_
  refine nc_eq (S' := ((4, 120), [.inr (0, [.int 0, .ref (b + 1), .ref (b + 2), .ref (b + 3), .null, .null]), za L 30, za L 30, za L 30, za L 30])) (st' := [.ref (b + 4), .ref b]) rfl rfl ?_
  refine nc_putF (pc := 38) (i := 0) (ci := 0) (fs := [.int 0, .ref (b + 1), .ref (b + 2), .ref (b + 3), .null, .null]) (k0 := 4) (ty := .array .int) tyX0 rfl rfl nf_inX0 tyX0_ok nmX0 (by decide) lk_X0_25 rfl rfl rfl (by decide +kernel) rfl rfl (Nat.le_of_ble_eq_true rfl) dX0_init_38 ?_
  refine nc_eq (S' := ((4, 120), [.inr (0, [.int 0, .ref (b + 1), .ref (b + 2), .ref (b + 3), .ref (b + 4), .null]), za L 30, za L 30, za L 30, za L 30])) (st' := []) rfl rfl ?_
  refine nc_aln (pc := 41) dX0_init_41 rfl ?_
  refine nc_bipush (pc := 42) (v := 30) dX0_init_42 (by decide) ?_
  refine nc_newa (pc := 44) (N := 30) (by decide) (by decide) (Nat.le_of_ble_eq_true rfl) (Nat.le_of_ble_eq_true rfl) (Nat.le_of_ble_eq_true rfl) dX0_init_44 ?_
  refine nc_eq (S' := ((5, 150), [.inr (0, [.int 0, .ref (b + 1), .ref (b + 2), .ref (b + 3), .ref (b + 4), .null]), za L 30, za L 30, za L 30, za L 30, za L 30])) (st' := [.ref (b + 5), .ref b]) rfl rfl ?_
  refine nc_putF (pc := 46) (i := 0) (ci := 0) (fs := [.int 0, .ref (b + 1), .ref (b + 2), .ref (b + 3), .ref (b + 4), .null]) (k0 := 5) (ty := .array .int) tyX0 rfl rfl nf_inX0 tyX0_ok nmX0 (by decide) lk_X0_28 rfl rfl rfl (by decide +kernel) rfl rfl (Nat.le_of_ble_eq_true rfl) dX0_init_46 ?_
  refine nc_eq (S' := ((5, 150), [.inr (0, [.int 0, .ref (b + 1), .ref (b + 2), .ref (b + 3), .ref (b + 4), .ref (b + 5)]), za L 30, za L 30, za L 30, za L 30, za L 30])) (st' := []) rfl rfl ?_
  exact nc_vret (pc := 49) dX0_init_49
abbrev nc_oX4 (L : nf_L) (b : Nat) : nc_T := [.inr (4, [.ref (b + 1), .ref (b + 2)]), za L 180, za L 180]
set_option maxRecDepth 100000 in
set_option maxHeartbeats 4000000 in
theorem sc_X4 {L : nf_L} {b : Nat} : nc_Sp L (1, 2, 360) yX4_init cX4_init 1 b [.ref b] [.inr (4, [.null, .null])] (nc_oX4 L b) := by
  refine nc_start (own := RX4) (ret := "<init>") (ls0 := [some (.ref b)]) (by decide) (Nat.le_of_ble_eq_true rfl) rfl rfl rfl ?_
  refine nc_aln (pc := 0) dX4_init_0 rfl ?_
  refine nc_obj (pc := 1) ob_X4 (by decide) (Nat.le_of_ble_eq_true rfl) dX4_init_1 ?_
  refine nc_aln (pc := 4) dX4_init_4 rfl ?_
  refine nc_sipush (pc := 5) (v := 180) dX4_init_5 (by decide) ?_
  refine nc_newa (pc := 8) (N := 180) (by decide) (by decide) (Nat.le_of_ble_eq_true rfl) (Nat.le_of_ble_eq_true rfl) (Nat.le_of_ble_eq_true rfl) dX4_init_8 ?_
  refine nc_eq (S' := ((1, 180), [.inr (4, [.null, .null]), za L 180])) (st' := [.ref (b + 1), .ref b]) rfl rfl ?_
  refine nc_putF (pc := 10) (i := 0) (ci := 4) (fs := [.null, .null]) (k0 := 0) (ty := .array .int) tyX4 rfl rfl nf_inX4 tyX4_ok nmX4 (by decide) lk_X4_9 rfl rfl rfl (by decide +kernel) rfl rfl (Nat.le_of_ble_eq_true rfl) dX4_init_10 ?_
  refine nc_eq (S' := ((1, 180), [.inr (4, [.ref (b + 1), .null]), za L 180])) (st' := []) rfl rfl ?_
  refine nc_aln (pc := 13) dX4_init_13 rfl ?_
  refine nc_sipush (pc := 14) (v := 180) dX4_init_14 (by decide) ?_
  refine nc_newa (pc := 17) (N := 180) (by decide) (by decide) (Nat.le_of_ble_eq_true rfl) (Nat.le_of_ble_eq_true rfl) (Nat.le_of_ble_eq_true rfl) dX4_init_17 ?_
  refine nc_eq (S' := ((2, 360), [.inr (4, [.ref (b + 1), .null]), za L 180, za L 180])) (st' := [.ref (b + 2), .ref b]) rfl rfl ?_
  refine nc_putF (pc := 19) (i := 0) (ci := 4) (fs := [.ref (b + 1), .null]) (k0 := 1) (ty := .array .int) tyX4 rfl rfl nf_inX4 tyX4_ok nmX4 (by decide) lk_X4_15 rfl rfl rfl (by decide +kernel) rfl rfl (Nat.le_of_ble_eq_true rfl) dX4_init_19 ?_
  refine nc_eq (S' := ((2, 360), [.inr (4, [.ref (b + 1), .ref (b + 2)]), za L 180, za L 180])) (st' := []) rfl rfl ?_
  exact nc_vret (pc := 22) dX4_init_22
abbrev nc_oX1 (L : nf_L) (b : Nat) : nc_T := [.inr (1, [.int 15, .int 0, .ref (b + 1), .ref (b + 2)]), zf L 30 (-1), za L 30]
set_option maxRecDepth 100000 in
set_option maxHeartbeats 4000000 in
theorem sc_X1 {L : nf_L} {b : Nat} : nc_Sp L (1, 2, 60) yX1_init cX1_init 1 b [.ref b] [.inr (1, [.int 0, .int 0, .null, .null])] (nc_oX1 L b) := by
  refine nc_start (own := RX1) (ret := "<init>") (ls0 := [some (.ref b)]) (by decide) (Nat.le_of_ble_eq_true rfl) rfl rfl rfl ?_
  refine nc_aln (pc := 0) dX1_init_0 rfl ?_
  refine nc_obj (pc := 1) ob_X1 (by decide) (Nat.le_of_ble_eq_true rfl) dX1_init_1 ?_
  refine nc_aln (pc := 4) dX1_init_4 rfl ?_
  refine nc_bipush (pc := 5) (v := 15) dX1_init_5 (by decide) ?_
  refine nc_put (pc := 7) (i := 0) (ci := 1) (fs := [.int 0, .int 0, .null, .null]) (k0 := 0) (ty := .int) tyX1 rfl rfl nf_inX1 tyX1_ok nmX1 (by decide) lk_X1_9 rfl (by decide +kernel) rfl rfl (Nat.le_of_ble_eq_true rfl) dX1_init_7 ?_
  refine nc_eq (S' := ((0, 0), [.inr (1, [.int 15, .int 0, .null, .null])])) (st' := []) rfl rfl ?_
  refine nc_aln (pc := 10) dX1_init_10 rfl ?_
  refine nc_iconst (pc := 11) (v := 0) dX1_init_11 (by decide) ?_
  refine nc_put (pc := 12) (i := 0) (ci := 1) (fs := [.int 15, .int 0, .null, .null]) (k0 := 1) (ty := .int) tyX1 rfl rfl nf_inX1 tyX1_ok nmX1 (by decide) lk_X1_15 rfl (by decide +kernel) rfl rfl (Nat.le_of_ble_eq_true rfl) dX1_init_12 ?_
  refine nc_eq (S' := ((0, 0), [.inr (1, [.int 15, .int 0, .null, .null])])) (st' := []) rfl rfl ?_
  refine nc_aln (pc := 15) dX1_init_15 rfl ?_
  refine nc_bipush (pc := 16) (v := 30) dX1_init_16 (by decide) ?_
  refine nc_newa (pc := 18) (N := 30) (by decide) (by decide) (Nat.le_of_ble_eq_true rfl) (Nat.le_of_ble_eq_true rfl) (Nat.le_of_ble_eq_true rfl) dX1_init_18 ?_
  refine nc_eq (S' := ((1, 30), [.inr (1, [.int 15, .int 0, .null, .null]), za L 30])) (st' := [.ref (b + 1), .ref b]) rfl rfl ?_
  refine nc_putF (pc := 20) (i := 0) (ci := 1) (fs := [.int 15, .int 0, .null, .null]) (k0 := 2) (ty := .array .int) tyX1 rfl rfl nf_inX1 tyX1_ok nmX1 (by decide) lk_X1_18 rfl rfl rfl (by decide +kernel) rfl rfl (Nat.le_of_ble_eq_true rfl) dX1_init_20 ?_
  refine nc_eq (S' := ((1, 30), [.inr (1, [.int 15, .int 0, .ref (b + 1), .null]), za L 30])) (st' := []) rfl rfl ?_
  refine nc_aln (pc := 23) dX1_init_23 rfl ?_
  refine nc_bipush (pc := 24) (v := 30) dX1_init_24 (by decide) ?_
  refine nc_newa (pc := 26) (N := 30) (by decide) (by decide) (Nat.le_of_ble_eq_true rfl) (Nat.le_of_ble_eq_true rfl) (Nat.le_of_ble_eq_true rfl) dX1_init_26 ?_
  refine nc_eq (S' := ((2, 60), [.inr (1, [.int 15, .int 0, .ref (b + 1), .null]), za L 30, za L 30])) (st' := [.ref (b + 2), .ref b]) rfl rfl ?_
  refine nc_putF (pc := 28) (i := 0) (ci := 1) (fs := [.int 15, .int 0, .ref (b + 1), .null]) (k0 := 3) (ty := .array .int) tyX1 rfl rfl nf_inX1 tyX1_ok nmX1 (by decide) lk_X1_22 rfl rfl rfl (by decide +kernel) rfl rfl (Nat.le_of_ble_eq_true rfl) dX1_init_28 ?_
  refine nc_eq (S' := ((2, 60), [.inr (1, [.int 15, .int 0, .ref (b + 1), .ref (b + 2)]), za L 30, za L 30])) (st' := []) rfl rfl ?_
  refine nc_aln (pc := 31) dX1_init_31 rfl ?_
  refine nc_get (pc := 32) (i := 0) (ci := 1) (fs := [.int 15, .int 0, .ref (b + 1), .ref (b + 2)]) (k0 := 2) rfl rfl nf_inX1 (by decide) lk_X1_18 rfl dX1_init_32 ?_
  refine nc_iconst (pc := 35) (v := (-1)) dX1_init_35 (by decide) ?_
  refine nc_callS (pc := 36) (d1 := (0, 0, 0)) (sc_fill (i := 1) (n := 30) (f := fun _ => 0) (by decide) rfl) mk_X1_25 st_J7_fill_53178 ⟨⟨by decide +kernel, by decide +kernel⟩, by decide +kernel⟩ (by rw [List.length_set]; exact Nat.le_refl _) ⟨by decide, (Nat.le_of_ble_eq_true rfl)⟩ (Nat.le_of_ble_eq_true rfl) ⟨(Nat.le_of_ble_eq_true rfl), (Nat.le_of_ble_eq_true rfl)⟩ dX1_init_36 ?_
  refine nc_eq (S' := ((2, 60), [.inr (1, [.int 15, .int 0, .ref (b + 1), .ref (b + 2)]), zf L 30 (-1), za L 30])) (st' := []) rfl rfl ?_
  exact nc_vret (pc := 39) dX1_init_39
