/-! the reference's constructor -/
abbrev t6 (L : nf_L) (b : Nat) (f : Nat → Int32) : nc_T := [.inr (6, [.ref (b + 1), .ref (b + 2), .int 0, .ref (b + 3), .ref (b + 4)]), .inl (L.2.1.1, 1597, .inl f), za L 6388, za L 4, za L 1024]
def w6 (f : Nat → Int32) (off n : Nat) (v : Int32) (k : Nat) : Nat → Int32 := fun j => if off + k ≤ j ∧ j < off + n then v else f j
theorem w6_z (f : Nat → Int32) (off n : Nat) (v : Int32) : w6 f off n v n = f := by funext j; simp only [w6]; rw [if_neg (by omega)]
theorem w6_s (f : Nat → Int32) (off n : Nat) (v : Int32) (k : Nat) (h : k < n) : w6 (upd f (off + k) v) off n v (k + 1) = w6 f off n v k := by
  funext j
  simp only [w6, upd]
  by_cases h1 : j = off + k
  · subst h1; rw [if_neg (by omega), if_pos rfl, if_pos (by omega)]
  · rw [if_neg h1]
    by_cases h2 : off + k ≤ j ∧ j < off + n
    · rw [if_pos h2, if_pos (by omega)]
    · rw [if_neg h2, if_neg (by omega)]
set_option maxRecDepth 100000 in
theorem lp6_1 {L : nf_L} {b : Nat} {tout : nc_T} {f0 : Nat → Int32} (K : nc_V L (1, 4, 9013) cX6_init RX6 2 "<init>" b tout 68 [some (.ref b), some (.int (nI 4))] [] ((4, 9013), t6 L b f0)) : ∀ (m k : Nat) (f : Nat → Int32), k + m = 4 → w6 f 2 4 5 k = f0 → nc_V L (1, 4, 9013) cX6_init RX6 2 "<init>" b tout 48 [some (.ref b), some (.int (nI k))] [] ((4, 9013), t6 L b f) := by
  intro m
  induction m with
  | zero =>
    intro k f hk hf
    have hk4 : k = 4 := by omega
    subst hk4
    rw [w6_z] at hf
    subst hf
    refine nc_iln (pc := 48) dX6_init_48 rfl ?_
    refine nc_iconst (pc := 49) (v := nI 4) dX6_init_49 (by decide) ?_
    refine nc_ic_ge (pc := 50) 68 dX6_init_50 (by decide) (fun _ => K) (fun h => absurd (by decide) h)
  | succ m ih =>
    intro k f hk hf
    refine nc_iln (pc := 48) dX6_init_48 rfl ?_
    refine nc_iconst (pc := 49) (v := nI 4) dX6_init_49 (by decide) ?_
    refine nc_ic_ge (pc := 50) 68 dX6_init_50 (by decide) (fun h => absurd (nI_lt (show k < 4 by omega) (by decide)) (Int32.not_lt.mpr h)) (fun _ => ?_)
    refine nc_aln (pc := 53) dX6_init_53 rfl ?_
    refine nc_get (pc := 54) (i := 0) (ci := 6) (fs := [.ref (b + 1), .ref (b + 2), .int 0, .ref (b + 3), .ref (b + 4)]) (k0 := 0) rfl rfl nf_inX6 (by decide) lk_X6_7 rfl dX6_init_54 ?_
    refine nc_iconst (pc := 57) (v := nI 2) dX6_init_57 (by decide) ?_
    refine nc_iln (pc := 58) dX6_init_58 rfl ?_
    refine nc_iadd (pc := 59) dX6_init_59 ?_
    refine nc_iconst (pc := 60) (v := 5) dX6_init_60 (by decide) ?_
    refine nc_iast (pc := 61) (i := 1) (n := 1597) (f := f) rfl (by rw [nI_add]; exact nf_inI (N := 1597) (k := 2 + k) (by omega) (by decide)) dX6_init_61 ?_
    refine nc_eq (S' := ((4, 9013), t6 L b (upd f (2 + k) 5))) (st' := []) (by rw [nI_add, nI_clamp (show 2 + k < 2 ^ 31 by omega)]; rfl) rfl ?_
    refine nc_iincg (pc := 62) (v := nI (k + 1)) dX6_init_62 rfl (nI_succ k).symm (fun o h _ => by have h9 := Option.some.inj h; rw [← h9]; rfl) (by decide) (Nat.le_of_ble_eq_true rfl) ?_
    refine nc_goto (pc := 65) 48 dX6_init_65 (by decide) ?_
    exact ih (k + 1) (upd f (2 + k) 5) (by omega) (by rw [w6_s f 2 4 5 k (by omega)]; exact hf)
set_option maxRecDepth 100000 in
theorem lp6_2 {L : nf_L} {b : Nat} {tout : nc_T} {f0 : Nat → Int32} (K : nc_V L (1, 4, 9013) cX6_init RX6 2 "<init>" b tout 93 [some (.ref b), some (.int (nI 6))] [] ((4, 9013), t6 L b f0)) : ∀ (m k : Nat) (f : Nat → Int32), k + m = 6 → w6 f 43 6 15 k = f0 → nc_V L (1, 4, 9013) cX6_init RX6 2 "<init>" b tout 70 [some (.ref b), some (.int (nI k))] [] ((4, 9013), t6 L b f) := by
  intro m
  induction m with
  | zero =>
    intro k f hk hf
    have hk4 : k = 6 := by omega
    subst hk4
    rw [w6_z] at hf
    subst hf
    refine nc_iln (pc := 70) dX6_init_70 rfl ?_
    refine nc_bipush (pc := 71) (v := nI 6) dX6_init_71 (by decide) ?_
    refine nc_ic_ge (pc := 73) 93 dX6_init_73 (by decide) (fun _ => K) (fun h => absurd (by decide) h)
  | succ m ih =>
    intro k f hk hf
    refine nc_iln (pc := 70) dX6_init_70 rfl ?_
    refine nc_bipush (pc := 71) (v := nI 6) dX6_init_71 (by decide) ?_
    refine nc_ic_ge (pc := 73) 93 dX6_init_73 (by decide) (fun h => absurd (nI_lt (show k < 6 by omega) (by decide)) (Int32.not_lt.mpr h)) (fun _ => ?_)
    refine nc_aln (pc := 76) dX6_init_76 rfl ?_
    refine nc_get (pc := 77) (i := 0) (ci := 6) (fs := [.ref (b + 1), .ref (b + 2), .int 0, .ref (b + 3), .ref (b + 4)]) (k0 := 0) rfl rfl nf_inX6 (by decide) lk_X6_7 rfl dX6_init_77 ?_
    refine nc_bipush (pc := 80) (v := nI 43) dX6_init_80 (by decide) ?_
    refine nc_iln (pc := 82) dX6_init_82 rfl ?_
    refine nc_iadd (pc := 83) dX6_init_83 ?_
    refine nc_bipush (pc := 84) (v := 15) dX6_init_84 (by decide) ?_
    refine nc_iast (pc := 86) (i := 1) (n := 1597) (f := f) rfl (by rw [nI_add]; exact nf_inI (N := 1597) (k := 43 + k) (by omega) (by decide)) dX6_init_86 ?_
    refine nc_eq (S' := ((4, 9013), t6 L b (upd f (43 + k) 15))) (st' := []) (by rw [nI_add, nI_clamp (show 43 + k < 2 ^ 31 by omega)]; rfl) rfl ?_
    refine nc_iincg (pc := 87) (v := nI (k + 1)) dX6_init_87 rfl (nI_succ k).symm (fun o h _ => by have h9 := Option.some.inj h; rw [← h9]; rfl) (by decide) (Nat.le_of_ble_eq_true rfl) ?_
    refine nc_goto (pc := 90) 70 dX6_init_90 (by decide) ?_
    exact ih (k + 1) (upd f (43 + k) 15) (by omega) (by rw [w6_s f 43 6 15 k (by omega)]; exact hf)
set_option maxRecDepth 100000 in
theorem lp6_3 {L : nf_L} {b : Nat} {tout : nc_T} {f0 : Nat → Int32} (K : nc_V L (1, 4, 9013) cX6_init RX6 2 "<init>" b tout 119 [some (.ref b), some (.int (nI 180))] [] ((4, 9013), t6 L b f0)) : ∀ (m k : Nat) (f : Nat → Int32), k + m = 180 → w6 f 200 180 (-1) k = f0 → nc_V L (1, 4, 9013) cX6_init RX6 2 "<init>" b tout 95 [some (.ref b), some (.int (nI k))] [] ((4, 9013), t6 L b f) := by
  intro m
  induction m with
  | zero =>
    intro k f hk hf
    have hk4 : k = 180 := by omega
    subst hk4
    rw [w6_z] at hf
    subst hf
    refine nc_iln (pc := 95) dX6_init_95 rfl ?_
    refine nc_sipush (pc := 96) (v := nI 180) dX6_init_96 (by decide) ?_
    refine nc_ic_ge (pc := 99) 119 dX6_init_99 (by decide) (fun _ => K) (fun h => absurd (by decide) h)
  | succ m ih =>
    intro k f hk hf
    refine nc_iln (pc := 95) dX6_init_95 rfl ?_
    refine nc_sipush (pc := 96) (v := nI 180) dX6_init_96 (by decide) ?_
    refine nc_ic_ge (pc := 99) 119 dX6_init_99 (by decide) (fun h => absurd (nI_lt (show k < 180 by omega) (by decide)) (Int32.not_lt.mpr h)) (fun _ => ?_)
    refine nc_aln (pc := 102) dX6_init_102 rfl ?_
    refine nc_get (pc := 103) (i := 0) (ci := 6) (fs := [.ref (b + 1), .ref (b + 2), .int 0, .ref (b + 3), .ref (b + 4)]) (k0 := 0) rfl rfl nf_inX6 (by decide) lk_X6_7 rfl dX6_init_103 ?_
    refine nc_sipush (pc := 106) (v := nI 200) dX6_init_106 (by decide) ?_
    refine nc_iln (pc := 109) dX6_init_109 rfl ?_
    refine nc_iadd (pc := 110) dX6_init_110 ?_
    refine nc_iconst (pc := 111) (v := (-1)) dX6_init_111 (by decide) ?_
    refine nc_iast (pc := 112) (i := 1) (n := 1597) (f := f) rfl (by rw [nI_add]; exact nf_inI (N := 1597) (k := 200 + k) (by omega) (by decide)) dX6_init_112 ?_
    refine nc_eq (S' := ((4, 9013), t6 L b (upd f (200 + k) (-1)))) (st' := []) (by rw [nI_add, nI_clamp (show 200 + k < 2 ^ 31 by omega)]; rfl) rfl ?_
    refine nc_iincg (pc := 113) (v := nI (k + 1)) dX6_init_113 rfl (nI_succ k).symm (fun o h _ => by have h9 := Option.some.inj h; rw [← h9]; rfl) (by decide) (Nat.le_of_ble_eq_true rfl) ?_
    refine nc_goto (pc := 116) 95 dX6_init_116 (by decide) ?_
    exact ih (k + 1) (upd f (200 + k) (-1)) (by omega) (by rw [w6_s f 200 180 (-1) k (by omega)]; exact hf)
def r60 : Nat → Int32 := w6 (w6 (w6 (upd (fun _ => 0) 1 10) 2 4 5 0) 43 6 15 0) 200 180 (-1) 0
set_option maxRecDepth 100000 in
set_option maxHeartbeats 1000000 in
theorem sc_X6 {L : nf_L} {b : Nat} : nc_Sp L (1, 4, 9013) yX6_init cX6_init 2 b [.ref b] [.inr (6, [.null, .null, .int 0, .null, .null])] (t6 L b r60) := by
  refine nc_start (own := RX6) (ret := "<init>") (ls0 := [some (.ref b), none]) (by decide) (Nat.le_of_ble_eq_true rfl) rfl rfl rfl ?_
  refine nc_aln (pc := 0) dX6_init_0 rfl ?_
  refine nc_obj (pc := 1) ob_X6 (by decide) (Nat.le_of_ble_eq_true rfl) dX6_init_1 ?_
  refine nc_aln (pc := 4) dX6_init_4 rfl ?_
  refine nc_sipush (pc := 5) (v := 1597) dX6_init_5 (by decide) ?_
  refine nc_newa (pc := 8) (N := 1597) (by decide) (by decide) (Nat.le_of_ble_eq_true rfl) (Nat.le_of_ble_eq_true rfl) (Nat.le_of_ble_eq_true rfl) dX6_init_8 ?_
  refine nc_putF (pc := 10) (i := 0) (ci := 6) (fs := [.null, .null, .int 0, .null, .null]) (k0 := 0) (ty := .array .int) tyX6 rfl rfl nf_inX6 tyX6_ok nmX6 (by decide) lk_X6_7 rfl rfl rfl (by decide +kernel) rfl rfl (Nat.le_of_ble_eq_true rfl) dX6_init_10 ?_
  refine nc_eq (S' := ((1, 1597), [.inr (6, [.ref (b + 1), .null, .int 0, .null, .null]), za L 1597])) (st' := []) rfl rfl ?_
  refine nc_aln (pc := 13) dX6_init_13 rfl ?_
  refine nc_sipush (pc := 14) (v := 6388) dX6_init_14 (by decide) ?_
  refine nc_newa (pc := 17) (N := 6388) (by decide) (by decide) (Nat.le_of_ble_eq_true rfl) (Nat.le_of_ble_eq_true rfl) (Nat.le_of_ble_eq_true rfl) dX6_init_17 ?_
  refine nc_putF (pc := 19) (i := 0) (ci := 6) (fs := [.ref (b + 1), .null, .int 0, .null, .null]) (k0 := 1) (ty := .array .int) tyX6 rfl rfl nf_inX6 tyX6_ok nmX6 (by decide) lk_X6_13 rfl rfl rfl (by decide +kernel) rfl rfl (Nat.le_of_ble_eq_true rfl) dX6_init_19 ?_
  refine nc_eq (S' := ((2, 7985), [.inr (6, [.ref (b + 1), .ref (b + 2), .int 0, .null, .null]), za L 1597, za L 6388])) (st' := []) rfl rfl ?_
  refine nc_aln (pc := 22) dX6_init_22 rfl ?_
  refine nc_iconst (pc := 23) (v := 4) dX6_init_23 (by decide) ?_
  refine nc_newa (pc := 24) (N := 4) (by decide) (by decide) (Nat.le_of_ble_eq_true rfl) (Nat.le_of_ble_eq_true rfl) (Nat.le_of_ble_eq_true rfl) dX6_init_24 ?_
  refine nc_putF (pc := 26) (i := 0) (ci := 6) (fs := [.ref (b + 1), .ref (b + 2), .int 0, .null, .null]) (k0 := 3) (ty := .array .int) tyX6 rfl rfl nf_inX6 tyX6_ok nmX6 (by decide) lk_X6_16 rfl rfl rfl (by decide +kernel) rfl rfl (Nat.le_of_ble_eq_true rfl) dX6_init_26 ?_
  refine nc_eq (S' := ((3, 7989), [.inr (6, [.ref (b + 1), .ref (b + 2), .int 0, .ref (b + 3), .null]), za L 1597, za L 6388, za L 4])) (st' := []) rfl rfl ?_
  refine nc_aln (pc := 29) dX6_init_29 rfl ?_
  refine nc_sipush (pc := 30) (v := 1024) dX6_init_30 (by decide) ?_
  refine nc_newa (pc := 33) (N := 1024) (by decide) (by decide) (Nat.le_of_ble_eq_true rfl) (Nat.le_of_ble_eq_true rfl) (Nat.le_of_ble_eq_true rfl) dX6_init_33 ?_
  refine nc_putF (pc := 35) (i := 0) (ci := 6) (fs := [.ref (b + 1), .ref (b + 2), .int 0, .ref (b + 3), .null]) (k0 := 4) (ty := .array .int) tyX6 rfl rfl nf_inX6 tyX6_ok nmX6 (by decide) lk_X6_19 rfl rfl rfl (by decide +kernel) rfl rfl (Nat.le_of_ble_eq_true rfl) dX6_init_35 ?_
  refine nc_eq (S' := ((4, 9013), [.inr (6, [.ref (b + 1), .ref (b + 2), .int 0, .ref (b + 3), .ref (b + 4)]), za L 1597, za L 6388, za L 4, za L 1024])) (st' := []) rfl rfl ?_
  refine nc_aln (pc := 38) dX6_init_38 rfl ?_
  refine nc_get (pc := 39) (i := 0) (ci := 6) (fs := [.ref (b + 1), .ref (b + 2), .int 0, .ref (b + 3), .ref (b + 4)]) (k0 := 0) rfl rfl nf_inX6 (by decide) lk_X6_7 rfl dX6_init_39 ?_
  refine nc_iconst (pc := 42) (v := nI 1) dX6_init_42 (by decide) ?_
  refine nc_bipush (pc := 43) (v := 10) dX6_init_43 (by decide) ?_
  refine nc_iast (pc := 45) (i := 1) (n := 1597) (f := fun _ => 0) rfl (nf_inI (N := 1597) (k := 1) (by decide) (by decide)) dX6_init_45 ?_
  refine nc_eq (S' := ((4, 9013), t6 L b (upd (fun _ => 0) 1 10))) (st' := []) (by rw [nI_clamp (show 1 < 2 ^ 31 by decide)]; rfl) rfl ?_
  refine nc_iconst (pc := 46) (v := nI 0) dX6_init_46 (by decide) ?_
  refine nc_is1 (pc := 47) dX6_init_47 rfl (by decide) ?_
  refine lp6_1 ?_ 4 0 _ rfl rfl
  refine nc_iconst (pc := 68) (v := nI 0) dX6_init_68 (by decide) ?_
  refine nc_is1 (pc := 69) dX6_init_69 rfl (by decide) ?_
  refine lp6_2 ?_ 6 0 _ rfl rfl
  refine nc_iconst (pc := 93) (v := nI 0) dX6_init_93 (by decide) ?_
  refine nc_is1 (pc := 94) dX6_init_94 rfl (by decide) ?_
  refine lp6_3 ?_ 180 0 _ rfl rfl
  exact nc_vret (pc := 119) dX6_init_119
