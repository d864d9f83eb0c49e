set_option maxRecDepth 100000 in
set_option maxHeartbeats 1000000 in
theorem hd_X5 {L : nf_L} {b : Nat} {N Q : Nat → nc_T} (hN : ∀ a, (N a).length = 35 ∧ ∃ g, (N a)[0]? = some (.inr (3, g))) (hs : ∀ a, nc_Sp L (2, 34, 958) yX3_init cX3_init 2 a [.ref a] [.inr (3, fd3)] (N a)) (hQ : ∀ a, (Q a).length = 3) (hsQ : ∀ a, nc_Sp L (1, 2, 360) yX4_init cX4_init 1 a [.ref a] [.inr (4, [.null, .null])] (Q a)) :
    nc_Sp L (3, 180, 5200) yX5_init cX5_init 2 b [.ref b] [.inr (5, [.null, .null, .null, .int 0, .null])] ((.inr (5, [.ref (b + 1), .ref (b + 36), .ref (b + 39), .int 0, .ref (b + 40)]) :: (N (b + 1) ++ Q (b + 36))) ++ (qx L (lq b 4 0 (fun _ => none)) :: za L 4 :: ([] ++ lns N b 4 0))) := by
  have h1 := (hN (b + 1)).1
  have h2 := hQ (b + 36)
  generalize hM : N (b + 1) = M at h1 ⊢
  generalize hP : Q (b + 36) = Z at h2 ⊢
  have hs1 : nc_Sp L (2, 34, 958) yX3_init cX3_init 2 (b + 1) [.ref (b + 1)] [.inr (3, fd3)] M := by rw [← hM]; exact hs (b + 1)
  have hs2 : nc_Sp L (1, 2, 360) yX4_init cX4_init 1 (b + 36) [.ref (b + 36)] [.inr (4, [.null, .null])] Z := by rw [← hP]; exact hsQ (b + 36)
  refine nc_start (own := RX5) (ret := "<init>") (ls0 := [some (.ref b), none]) (by decide) (Nat.le_of_ble_eq_true rfl) rfl rfl rfl ?_
  refine nc_aln (pc := 0) dX5_init_0 rfl ?_
  refine nc_obj (pc := 1) ob_X5 (by decide) (Nat.le_of_ble_eq_true rfl) dX5_init_1 ?_
  refine nc_aln (pc := 4) dX5_init_4 rfl ?_
  refine nc_new (pc := 5) (ci := 3) (fs := fd3) cl_X5_9 is_X3 ini_X3 nf_inX3 tyX3 tyX3_ok rfl (by decide +kernel) (Nat.le_of_ble_eq_true rfl) (Nat.le_of_ble_eq_true rfl) dX5_init_5 ?_
  refine nc_dup (pc := 8) dX5_init_8 rfl ?_
  refine nc_callI (pc := 9) (d := (3, 180, 5200)) (r := b) (st := [.ref (b + 1), .ref b]) (cells := 1) (slots := 8) (d1 := (2, 34, 958)) (pre := [.inr (5, [.null, .null, .null, .int 0, .null])]) (tin := [.inr (3, fd3)]) (tout := M) hs1 mk_X5_11 im_X3_init rfl nn_X3 (by rw [h1]; decide) ⟨by decide, Nat.le_of_ble_eq_true rfl⟩ (Nat.le_of_ble_eq_true rfl) ⟨Nat.le_of_ble_eq_true rfl, Nat.le_of_ble_eq_true rfl⟩ dX5_init_9 ?_
  refine nc_putF (pc := 12) (i := 0) (ci := 5) (fs := [.null, .null, .null, .int 0, .null]) (k0 := 0) (ty := .object "NewsFlood$Network") tyX5 rfl rfl nf_inX5 tyX5_ok nmX5 (by decide) lk_X5_12 rfl rfl rfl (by decide +kernel) rfl rfl (Nat.le_of_ble_eq_true rfl) dX5_init_12 ?_
  refine nc_eq (S' := ((35, 966), .inr (5, [.ref (b + 1), .null, .null, .int 0, .null]) :: M)) (st' := []) rfl rfl ?_
  have e36 : b + (Sum.inr (5, [Value.ref (b + 1), .null, .null, .int 0, .null]) :: M : nc_T).length = b + 36 := by rw [List.length_cons, h1]
  refine nc_aln (pc := 15) dX5_init_15 rfl ?_
  refine nc_new (pc := 16) (ci := 4) (fs := [.null, .null]) cl_X5_16 is_X4 ini_X4 nf_inX4 tyX4 tyX4_ok rfl (by decide +kernel) (Nat.le_of_ble_eq_true rfl) (Nat.le_of_ble_eq_true rfl) dX5_init_16 ?_
  refine nc_dup (pc := 19) dX5_init_19 rfl ?_
  refine nc_callIN (pc := 20) (d := (3, 180, 5200)) (r := b) (st := [.ref (b + (Sum.inr (5, [Value.ref (b + 1), .null, .null, .int 0, .null]) :: M : nc_T).length), .ref b]) (cells := 36) (slots := 968) (d1 := (1, 2, 360)) (pre := .inr (5, [.ref (b + 1), .null, .null, .int 0, .null]) :: M) (tin := [.inr (4, [.null, .null])]) (tout := Z) (by rw [e36]; exact hs2) mc_X5_18 im_X4_init rfl nn_X4 (by rw [h2]; decide) ⟨by decide, Nat.le_of_ble_eq_true rfl⟩ (Nat.le_of_ble_eq_true rfl) ⟨Nat.le_of_ble_eq_true rfl, Nat.le_of_ble_eq_true rfl⟩ dX5_init_20 ?_
  refine nc_eq (S' := ((38, 1328), .inr (5, [.ref (b + 1), .null, .null, .int 0, .null]) :: (M ++ Z))) (st' := [.ref (b + 36), .ref b]) rfl (by rw [e36]) ?_
  refine nc_putF (pc := 23) (i := 0) (ci := 5) (fs := [.ref (b + 1), .null, .null, .int 0, .null]) (k0 := 1) (ty := .object "NewsFlood$Queue") tyX5 rfl rfl nf_inX5 tyX5_ok nmX5 (by decide) lk_X5_19 rfl rfl rfl (by decide +kernel) rfl rfl (Nat.le_of_ble_eq_true rfl) dX5_init_23 ?_
  refine nc_eq (S' := ((38, 1328), .inr (5, [.ref (b + 1), .ref (b + 36), .null, .int 0, .null]) :: (M ++ Z))) (st' := []) rfl rfl ?_
  refine nc_aln (pc := 26) dX5_init_26 rfl ?_
  refine nc_iconst (pc := 27) (v := 4) dX5_init_27 (by decide) ?_
  refine nc_newq (pc := 28) (t0 := 2) (N := 4) cl_X5_9 (fun U h => h.2.2.2) rfl (by decide) (by decide) (Nat.le_of_ble_eq_true rfl) (Nat.le_of_ble_eq_true rfl) (Nat.le_of_ble_eq_true rfl) dX5_init_28 ?_
  refine nc_eq (S' := ((39, 1332), .inr (5, [.ref (b + 1), .ref (b + 36), .null, .int 0, .null]) :: ((M ++ Z) ++ [qx L (fun _ => none)]))) (st' := [.ref (b + 39), .ref b]) rfl (by rw [List.length_cons, List.length_append, h1, h2]) ?_
  refine nc_putF (pc := 31) (i := 0) (ci := 5) (fs := [.ref (b + 1), .ref (b + 36), .null, .int 0, .null]) (k0 := 2) (ty := .array (.object "NewsFlood$Network")) tyX5 rfl rfl nf_inX5 tyX5_ok nmX5 (by decide) lk_X5_23 rfl rfl rfl (by decide +kernel) rfl rfl (Nat.le_of_ble_eq_true rfl) dX5_init_31 ?_
  refine nc_eq (S' := ((39, 1332), .inr (5, [.ref (b + 1), .ref (b + 36), .ref (b + 39), .int 0, .null]) :: ((M ++ Z) ++ [qx L (fun _ => none)]))) (st' := []) rfl rfl ?_
  refine nc_aln (pc := 34) dX5_init_34 rfl ?_
  refine nc_iconst (pc := 35) (v := 0) dX5_init_35 (by decide) ?_
  refine nc_put (pc := 36) (i := 0) (ci := 5) (fs := [.ref (b + 1), .ref (b + 36), .ref (b + 39), .int 0, .null]) (k0 := 3) (ty := .int) tyX5 rfl rfl nf_inX5 tyX5_ok nmX5 (by decide) lk_X5_27 rfl (by decide +kernel) rfl rfl (Nat.le_of_ble_eq_true rfl) dX5_init_36 ?_
  refine nc_eq (S' := ((39, 1332), .inr (5, [.ref (b + 1), .ref (b + 36), .ref (b + 39), .int 0, .null]) :: ((M ++ Z) ++ [qx L (fun _ => none)]))) (st' := []) rfl rfl ?_
  refine nc_aln (pc := 39) dX5_init_39 rfl ?_
  refine nc_iconst (pc := 40) (v := 4) dX5_init_40 (by decide) ?_
  refine nc_newa (pc := 41) (N := 4) (by decide) (by decide) (Nat.le_of_ble_eq_true rfl) (Nat.le_of_ble_eq_true rfl) (Nat.le_of_ble_eq_true rfl) dX5_init_41 ?_
  refine nc_eq (S' := ((40, 1336), .inr (5, [.ref (b + 1), .ref (b + 36), .ref (b + 39), .int 0, .null]) :: (((M ++ Z) ++ [qx L (fun _ => none)]) ++ [za L 4]))) (st' := [.ref (b + 40), .ref b]) rfl (by rw [List.length_cons, List.length_append, List.length_append, h1, h2]; rfl) ?_
  refine nc_putF (pc := 43) (i := 0) (ci := 5) (fs := [.ref (b + 1), .ref (b + 36), .ref (b + 39), .int 0, .null]) (k0 := 4) (ty := .array .int) tyX5 rfl rfl nf_inX5 tyX5_ok nmX5 (by decide) lk_X5_31 rfl rfl rfl (by decide +kernel) rfl rfl (Nat.le_of_ble_eq_true rfl) dX5_init_43 ?_
  refine nc_eq (S' := ((40 + 35 * 0, 1336 + 966 * 0), (.inr (5, [.ref (b + 1), .ref (b + 36), .ref (b + 39), .int 0, .ref (b + 40)]) :: (M ++ Z)) ++ (qx L (fun _ => none) :: za L 4 :: []))) (st' := []) (by show ((40, 1336), (_ :: (((M ++ Z) ++ [qx L (fun _ => none)]) ++ [za L 4]))) = _; rw [List.append_assoc (M ++ Z)]; rfl) rfl ?_
  refine nc_iconst (pc := 46) (v := nI 0) dX5_init_46 (by decide) ?_
  refine nc_is1 (pc := 47) dX5_init_47 rfl (by decide) ?_
  exact lp_X5 (by rw [List.length_cons, List.length_append, h1, h2]) rfl rfl hN hs 4 0 (fun _ => none) [] rfl rfl
theorem sc_X5 {L : nf_L} {b : Nat} : nc_Sp L (3, 180, 5200) yX5_init cX5_init 2 b [.ref b] [.inr (5, [.null, .null, .null, .int 0, .null])] ((.inr (5, [.ref (b + 1), .ref (b + 36), .ref (b + 39), .int 0, .ref (b + 40)]) :: (nc_oX3 L (b + 1) ++ nc_oX4 L (b + 36))) ++ (qx L (lq b 4 0 (fun _ => none)) :: za L 4 :: ([] ++ lns (nc_oX3 L) b 4 0))) :=
  hd_X5 (N := fun a => nc_oX3 L a) (Q := fun a => nc_oX4 L a) (fun a => ⟨rfl, _, rfl⟩) (fun a => sc_X3) (fun a => rfl) (fun a => sc_X4)
