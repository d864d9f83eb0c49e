/-! copying nets, saved states, error counters -/
/-- net n1 becomes as net n2 -/
def nf_cpN (S : nf_S) (n1 n2 : Nat) : nf_S := ((fun n c h => if n = n1 then S.1 n2 c h else S.1 n c h), (fun n c h => if n = n1 then S.2.1 n2 c h else S.2.1 n c h), S.2.2)
theorem nf_I_cpN (S : nf_S) (n1 n2 n c h : Nat) : nf_I (nf_cpN S n1 n2) n c h = if n = n1 then nf_I S n2 c h else nf_I S n c h := rfl
theorem nf_A_cpN (S : nf_S) (n1 n2 n c h : Nat) : nf_A (nf_cpN S n1 n2) n c h = if n = n1 then nf_A S n2 c h else nf_A S n c h := rfl
theorem nf_O_cpN (S : nf_S) (n1 n2 x : Nat) : nf_O (nf_cpN S n1 n2) x = nf_O S x := rfl
theorem nf_J_cpN (S : nf_S) (n1 n2 x : Nat) : nf_J (nf_cpN S n1 n2) x = nf_J S x := rfl
theorem nf_v_cpN (S : nf_S) (n1 n2 : Nat) : nf_v (nf_cpN S n1 n2) = nf_v S := rfl
def cs_cpL (S : nf_S) (n1 n2 : Nat) : nf_S := nf_sA (nf_sA (nf_sA (nf_sI S n1 2 0 (nf_I S n2 2 0)) n1 2 0 (nf_A S n2 2 0)) n1 3 0 (nf_A S n2 3 0)) n1 4 0 (nf_A S n2 4 0)
def cs_cpA (S : nf_S) (n1 n2 : Nat) : nf_S := nf_sA (nf_sA (nf_sA (nf_sA (nf_sA (nf_sI S n1 3 0 (nf_I S n2 3 0)) n1 5 0 (nf_A S n2 5 0)) n1 6 0 (nf_A S n2 6 0)) n1 7 0 (nf_A S n2 7 0)) n1 8 0 (nf_A S n2 8 0)) n1 9 0 (nf_A S n2 9 0)
def cs_cpH (S : nf_S) (n1 n2 k : Nat) : nf_S := ((fun n c h => if n = n1 ∧ (c = 4 ∨ c = 5) ∧ h < k then S.1 n2 c h else S.1 n c h), (fun n c h => if n = n1 ∧ (c = 12 ∨ c = 13) ∧ h < k then S.2.1 n2 c h else S.2.1 n c h), S.2.2)
theorem nf_I_cpH (S : nf_S) (n1 n2 k n c h : Nat) : nf_I (cs_cpH S n1 n2 k) n c h = if n = n1 ∧ (c = 4 ∨ c = 5) ∧ h < k then nf_I S n2 c h else nf_I S n c h := rfl
theorem nf_A_cpH (S : nf_S) (n1 n2 k n c h : Nat) : nf_A (cs_cpH S n1 n2 k) n c h = if n = n1 ∧ (c = 12 ∨ c = 13) ∧ h < k then nf_A S n2 c h else nf_A S n c h := rfl
theorem cs_cpH_0 (S : nf_S) (n1 n2 : Nat) : cs_cpH S n1 n2 0 = S := by
  refine nf_ext (fun n c h => ?_) (fun n c h => ?_) (fun _ => rfl) (fun _ => rfl) rfl
  · rw [nf_I_cpH, if_neg (by omega)]
  · rw [nf_A_cpH, if_neg (by omega)]
theorem cs_cpH_step (S : nf_S) (n1 n2 k : Nat) (hne : n1 ≠ n2) : nf_sA (nf_sA (nf_sI (nf_sI (cs_cpH S n1 n2 k) n1 4 k (nf_I (cs_cpH S n1 n2 k) n2 4 k)) n1 5 k (nf_I (cs_cpH S n1 n2 k) n2 5 k)) n1 12 k (nf_A (cs_cpH S n1 n2 k) n2 12 k)) n1 13 k (nf_A (cs_cpH S n1 n2 k) n2 13 k) = cs_cpH S n1 n2 (k + 1) := by
  have e : ¬ n2 = n1 := fun h => hne h.symm
  refine nf_ext (fun n c h => ?_) (fun n c h => ?_) (fun _ => rfl) (fun _ => rfl) rfl
  · simp only [nf_I_sA, nf_I_sI, nf_I_cpH, e, false_and, if_false]
    by_cases h1 : n = n1
    · subst h1
      by_cases h2 : h = k
      · subst h2
        by_cases h4 : c = 4
        · subst h4; simp
        · by_cases h5 : c = 5
          · subst h5; simp
          · simp [h4, h5]
      · have h3 : h < k + 1 ↔ h < k := by omega
        simp [h2, h3]
    · simp [h1]
  · simp only [nf_A_sA, nf_A_sI, nf_A_cpH, e, false_and, if_false]
    by_cases h1 : n = n1
    · subst h1
      by_cases h2 : h = k
      · subst h2
        by_cases h4 : c = 12
        · subst h4; simp
        · by_cases h5 : c = 13
          · subst h5; simp
          · simp [h4, h5]
      · have h3 : h < k + 1 ↔ h < k := by omega
        simp [h2, h3]
    · simp [h1]
set_option maxRecDepth 100000 in
set_option maxHeartbeats 4000000 in
theorem sp_X2_copyFrom {L : nf_L} {S : nf_S} {n1 n2 : Nat} (hn1 : n1 < 5) (hn2 : n2 < 5) (hne : n1 ≠ n2) : nf_Sp L 1 yX2_copyFrom cX2_copyFrom 2 none [.ref (L.2.2 (2, n1, 0, 0)), .ref (L.2.2 (2, n2, 0, 0))] S none (cs_cpL S n1 n2) := by
  have hne2 : ¬ n2 = n1 := fun h => hne h.symm
  refine nf_start (own := RX2) (ls0 := [some (.ref (L.2.2 (2, n1, 0, 0))), some (.ref (L.2.2 (2, n2, 0, 0)))]) (by decide) (Nat.le_of_ble_eq_true rfl) rfl rfl ?_
  refine nf_aln (pc := 0) dX2_copyFrom_0 rfl ?_
  refine nf_aln (pc := 1) dX2_copyFrom_1 rfl ?_
  refine gf_X2_count hn2 (pc := 2) lk_X2_9 dX2_copyFrom_2 ?_
  refine pf_X2_count hn1 (pc := 5) lk_X2_9 dX2_copyFrom_5 ?_
  refine nf_aln (pc := 8) dX2_copyFrom_8 rfl ?_
  refine gf_X2_first hn2 (pc := 9) lk_X2_15 dX2_copyFrom_9 ?_
  refine nf_iconst (pc := 12) (v := 0) dX2_copyFrom_12 (by decide) ?_
  refine nf_aln (pc := 13) dX2_copyFrom_13 rfl ?_
  refine gf_X2_first hn1 (pc := 14) lk_X2_15 dX2_copyFrom_14 ?_
  refine nf_iconst (pc := 17) (v := 0) dX2_copyFrom_17 (by decide) ?_
  refine nf_bipush (pc := 18) (v := 12) dX2_copyFrom_18 (by decide) ?_
  refine nf_copy (pc := 20) (nf_okA hn2 (by decide)) (nf_okA hn1 (by decide)) (by decide) (by decide) ac_X2_32 ac_native ac_static ini_J10 (by decide) (Nat.le_of_ble_eq_true rfl) dX2_copyFrom_20 ?_
  refine nf_aln (pc := 23) dX2_copyFrom_23 rfl ?_
  refine gf_X2_second hn2 (pc := 24) lk_X2_19 dX2_copyFrom_24 ?_
  refine nf_iconst (pc := 27) (v := 0) dX2_copyFrom_27 (by decide) ?_
  refine nf_aln (pc := 28) dX2_copyFrom_28 rfl ?_
  refine gf_X2_second hn1 (pc := 29) lk_X2_19 dX2_copyFrom_29 ?_
  refine nf_iconst (pc := 32) (v := 0) dX2_copyFrom_32 (by decide) ?_
  refine nf_bipush (pc := 33) (v := 12) dX2_copyFrom_33 (by decide) ?_
  refine nf_copy (pc := 35) (nf_okA hn2 (by decide)) (nf_okA hn1 (by decide)) (by decide) (by decide) ac_X2_32 ac_native ac_static ini_J10 (by decide) (Nat.le_of_ble_eq_true rfl) dX2_copyFrom_35 ?_
  refine nf_aln (pc := 38) dX2_copyFrom_38 rfl ?_
  refine gf_X2_kind hn2 (pc := 39) lk_X2_22 dX2_copyFrom_39 ?_
  refine nf_iconst (pc := 42) (v := 0) dX2_copyFrom_42 (by decide) ?_
  refine nf_aln (pc := 43) dX2_copyFrom_43 rfl ?_
  refine gf_X2_kind hn1 (pc := 44) lk_X2_22 dX2_copyFrom_44 ?_
  refine nf_iconst (pc := 47) (v := 0) dX2_copyFrom_47 (by decide) ?_
  refine nf_bipush (pc := 48) (v := 12) dX2_copyFrom_48 (by decide) ?_
  refine nf_copy (pc := 50) (nf_okA hn2 (by decide)) (nf_okA hn1 (by decide)) (by decide) (by decide) ac_X2_32 ac_native ac_static ini_J10 (by decide) (Nat.le_of_ble_eq_true rfl) dX2_copyFrom_50 ?_
  exact nf_to rfl (by simp [cs_cpL, nf_A_sA, nf_A_sI, nf_I_sA, nf_I_sI, hne2]) (nf_vret (pc := 53) dX2_copyFrom_53)
set_option maxRecDepth 100000 in
set_option maxHeartbeats 4000000 in
theorem sp_X0_copyFrom {L : nf_L} {S : nf_S} {n1 n2 : Nat} (hn1 : n1 < 5) (hn2 : n2 < 5) (hne : n1 ≠ n2) : nf_Sp L 1 yX0_copyFrom cX0_copyFrom 2 none [.ref (L.2.2 (3, n1, 0, 0)), .ref (L.2.2 (3, n2, 0, 0))] S none (cs_cpA S n1 n2) := by
  have hne2 : ¬ n2 = n1 := fun h => hne h.symm
  refine nf_start (own := RX0) (ls0 := [some (.ref (L.2.2 (3, n1, 0, 0))), some (.ref (L.2.2 (3, n2, 0, 0)))]) (by decide) (Nat.le_of_ble_eq_true rfl) rfl rfl ?_
  refine nf_aln (pc := 0) dX0_copyFrom_0 rfl ?_
  refine nf_aln (pc := 1) dX0_copyFrom_1 rfl ?_
  refine gf_X0_count hn2 (pc := 2) lk_X0_9 dX0_copyFrom_2 ?_
  refine pf_X0_count hn1 (pc := 5) lk_X0_9 dX0_copyFrom_5 ?_
  refine nf_aln (pc := 8) dX0_copyFrom_8 rfl ?_
  refine gf_X0_group hn2 (pc := 9) lk_X0_15 dX0_copyFrom_9 ?_
  refine nf_iconst (pc := 12) (v := 0) dX0_copyFrom_12 (by decide) ?_
  refine nf_aln (pc := 13) dX0_copyFrom_13 rfl ?_
  refine gf_X0_group hn1 (pc := 14) lk_X0_15 dX0_copyFrom_14 ?_
  refine nf_iconst (pc := 17) (v := 0) dX0_copyFrom_17 (by decide) ?_
  refine nf_bipush (pc := 18) (v := 30) dX0_copyFrom_18 (by decide) ?_
  refine nf_copy (pc := 20) (nf_okA hn2 (by decide)) (nf_okA hn1 (by decide)) (by decide) (by decide) ac_X0_31 ac_native ac_static ini_J10 (by decide) (Nat.le_of_ble_eq_true rfl) dX0_copyFrom_20 ?_
  refine nf_aln (pc := 23) dX0_copyFrom_23 rfl ?_
  refine gf_X0_author hn2 (pc := 24) lk_X0_19 dX0_copyFrom_24 ?_
  refine nf_iconst (pc := 27) (v := 0) dX0_copyFrom_27 (by decide) ?_
  refine nf_aln (pc := 28) dX0_copyFrom_28 rfl ?_
  refine gf_X0_author hn1 (pc := 29) lk_X0_19 dX0_copyFrom_29 ?_
  refine nf_iconst (pc := 32) (v := 0) dX0_copyFrom_32 (by decide) ?_
  refine nf_bipush (pc := 33) (v := 30) dX0_copyFrom_33 (by decide) ?_
  refine nf_copy (pc := 35) (nf_okA hn2 (by decide)) (nf_okA hn1 (by decide)) (by decide) (by decide) ac_X0_31 ac_native ac_static ini_J10 (by decide) (Nat.le_of_ble_eq_true rfl) dX0_copyFrom_35 ?_
  refine nf_aln (pc := 38) dX0_copyFrom_38 rfl ?_
  refine gf_X0_postedOn hn2 (pc := 39) lk_X0_22 dX0_copyFrom_39 ?_
  refine nf_iconst (pc := 42) (v := 0) dX0_copyFrom_42 (by decide) ?_
  refine nf_aln (pc := 43) dX0_copyFrom_43 rfl ?_
  refine gf_X0_postedOn hn1 (pc := 44) lk_X0_22 dX0_copyFrom_44 ?_
  refine nf_iconst (pc := 47) (v := 0) dX0_copyFrom_47 (by decide) ?_
  refine nf_bipush (pc := 48) (v := 30) dX0_copyFrom_48 (by decide) ?_
  refine nf_copy (pc := 50) (nf_okA hn2 (by decide)) (nf_okA hn1 (by decide)) (by decide) (by decide) ac_X0_31 ac_native ac_static ini_J10 (by decide) (Nat.le_of_ble_eq_true rfl) dX0_copyFrom_50 ?_
  refine nf_aln (pc := 53) dX0_copyFrom_53 rfl ?_
  refine gf_X0_action hn2 (pc := 54) lk_X0_25 dX0_copyFrom_54 ?_
  refine nf_iconst (pc := 57) (v := 0) dX0_copyFrom_57 (by decide) ?_
  refine nf_aln (pc := 58) dX0_copyFrom_58 rfl ?_
  refine gf_X0_action hn1 (pc := 59) lk_X0_25 dX0_copyFrom_59 ?_
  refine nf_iconst (pc := 62) (v := 0) dX0_copyFrom_62 (by decide) ?_
  refine nf_bipush (pc := 63) (v := 30) dX0_copyFrom_63 (by decide) ?_
  refine nf_copy (pc := 65) (nf_okA hn2 (by decide)) (nf_okA hn1 (by decide)) (by decide) (by decide) ac_X0_31 ac_native ac_static ini_J10 (by decide) (Nat.le_of_ble_eq_true rfl) dX0_copyFrom_65 ?_
  refine nf_aln (pc := 68) dX0_copyFrom_68 rfl ?_
  refine gf_X0_target hn2 (pc := 69) lk_X0_28 dX0_copyFrom_69 ?_
  refine nf_iconst (pc := 72) (v := 0) dX0_copyFrom_72 (by decide) ?_
  refine nf_aln (pc := 73) dX0_copyFrom_73 rfl ?_
  refine gf_X0_target hn1 (pc := 74) lk_X0_28 dX0_copyFrom_74 ?_
  refine nf_iconst (pc := 77) (v := 0) dX0_copyFrom_77 (by decide) ?_
  refine nf_bipush (pc := 78) (v := 30) dX0_copyFrom_78 (by decide) ?_
  refine nf_copy (pc := 80) (nf_okA hn2 (by decide)) (nf_okA hn1 (by decide)) (by decide) (by decide) ac_X0_31 ac_native ac_static ini_J10 (by decide) (Nat.le_of_ble_eq_true rfl) dX0_copyFrom_80 ?_
  exact nf_to rfl (by simp [cs_cpA, nf_A_sA, nf_A_sI, nf_I_sA, nf_I_sI, hne2]) (nf_vret (pc := 83) dX0_copyFrom_83)
set_option maxRecDepth 100000 in
set_option maxHeartbeats 4000000 in
theorem sp_X1_copyFrom {L : nf_L} {S : nf_S} {n1 n2 h : Nat} (hn1 : n1 < 5) (hn2 : n2 < 5) (hne : n1 ≠ n2) (hh : h < 6) : nf_Sp L 1 yX1_copyFrom cX1_copyFrom 2 none [.ref (L.2.2 (4, n1, 0, h)), .ref (L.2.2 (4, n2, 0, h))] S none (nf_sA (nf_sA (nf_sI (nf_sI S n1 4 h (nf_I S n2 4 h)) n1 5 h (nf_I S n2 5 h)) n1 12 h (nf_A S n2 12 h)) n1 13 h (nf_A S n2 13 h)) := by
  have hne2 : ¬ n2 = n1 := fun h => hne h.symm
  refine nf_start (own := RX1) (ls0 := [some (.ref (L.2.2 (4, n1, 0, h))), some (.ref (L.2.2 (4, n2, 0, h)))]) (by decide) (Nat.le_of_ble_eq_true rfl) rfl rfl ?_
  refine nf_aln (pc := 0) dX1_copyFrom_0 rfl ?_
  refine nf_aln (pc := 1) dX1_copyFrom_1 rfl ?_
  refine gf_X1_groups hn2 hh (pc := 2) lk_X1_9 dX1_copyFrom_2 ?_
  refine pf_X1_groups hn1 hh (pc := 5) lk_X1_9 dX1_copyFrom_5 ?_
  refine nf_aln (pc := 8) dX1_copyFrom_8 rfl ?_
  refine nf_aln (pc := 9) dX1_copyFrom_9 rfl ?_
  refine gf_X1_store hn2 hh (pc := 10) lk_X1_15 dX1_copyFrom_10 ?_
  refine pf_X1_store hn1 hh (pc := 13) lk_X1_15 dX1_copyFrom_13 ?_
  refine nf_aln (pc := 16) dX1_copyFrom_16 rfl ?_
  refine gf_X1_historyDay hn2 hh (pc := 17) lk_X1_18 dX1_copyFrom_17 ?_
  refine nf_iconst (pc := 20) (v := 0) dX1_copyFrom_20 (by decide) ?_
  refine nf_aln (pc := 21) dX1_copyFrom_21 rfl ?_
  refine gf_X1_historyDay hn1 hh (pc := 22) lk_X1_18 dX1_copyFrom_22 ?_
  refine nf_iconst (pc := 25) (v := 0) dX1_copyFrom_25 (by decide) ?_
  refine nf_bipush (pc := 26) (v := 30) dX1_copyFrom_26 (by decide) ?_
  refine nf_copy (pc := 28) (nf_ok12 hn2 hh) (nf_ok12 hn1 hh) (by decide) (by decide) ac_X1_41 ac_native ac_static ini_J10 (by decide) (Nat.le_of_ble_eq_true rfl) dX1_copyFrom_28 ?_
  refine nf_aln (pc := 31) dX1_copyFrom_31 rfl ?_
  refine gf_X1_cancelAuthors hn2 hh (pc := 32) lk_X1_22 dX1_copyFrom_32 ?_
  refine nf_iconst (pc := 35) (v := 0) dX1_copyFrom_35 (by decide) ?_
  refine nf_aln (pc := 36) dX1_copyFrom_36 rfl ?_
  refine gf_X1_cancelAuthors hn1 hh (pc := 37) lk_X1_22 dX1_copyFrom_37 ?_
  refine nf_iconst (pc := 40) (v := 0) dX1_copyFrom_40 (by decide) ?_
  refine nf_bipush (pc := 41) (v := 30) dX1_copyFrom_41 (by decide) ?_
  refine nf_copy (pc := 43) (nf_ok13 hn2 hh) (nf_ok13 hn1 hh) (by decide) (by decide) ac_X1_41 ac_native ac_static ini_J10 (by decide) (Nat.le_of_ble_eq_true rfl) dX1_copyFrom_43 ?_
  exact nf_to rfl (by simp [nf_A_sA, nf_A_sI, nf_I_sA, nf_I_sI, hne2]) (nf_vret (pc := 46) dX1_copyFrom_46)
set_option maxRecDepth 100000 in
set_option maxHeartbeats 4000000 in
theorem lp_cpH {L : nf_L} {r : Option Value} {S2 S0 : nf_S} {n1 n2 : Nat} (hn1 : n1 < 5) (hn2 : n2 < 5) (hne : n1 ≠ n2) : ∀ (m : Nat) (k : Nat), (k + m = 6) → (nf_V L 2 cX3_copyFrom RX3 3 none r S2 81 [some (.ref (L.2.2 (1, n1, 0, 0))), some (.ref (L.2.2 (1, n2, 0, 0))), some (.int (nI 6))] [] (cs_cpH S0 n1 n2 6)) → nf_V L 2 cX3_copyFrom RX3 3 none r S2 54 [some (.ref (L.2.2 (1, n1, 0, 0))), some (.ref (L.2.2 (1, n2, 0, 0))), some (.int (nI k))] [] (cs_cpH S0 n1 n2 k) := by
  intro m
  induction m with
  | zero =>
    intro k hkm hK
    refine nf_iln (pc := 54) dX3_copyFrom_54 rfl ?_
    refine nf_bipush (pc := 55) (v := 6) dX3_copyFrom_55 (by decide) ?_
    refine nf_ic_ge (pc := 57) 81 dX3_copyFrom_57 (by decide) (fun c_57 => ?_) (fun c_57 => ?_)
    · rw [show k = 6 by omega]
      exact hK
    · exact absurd (nI_le (a := 6) (by omega) (by omega)) c_57
  | succ m ih =>
    intro k hkm hK
    refine nf_iln (pc := 54) dX3_copyFrom_54 rfl ?_
    refine nf_bipush (pc := 55) (v := 6) dX3_copyFrom_55 (by decide) ?_
    refine nf_ic_ge (pc := 57) 81 dX3_copyFrom_57 (by decide) (fun c_57 => ?_) (fun c_57 => ?_)
    · exact absurd c_57 (nI_ge (b := 6) (by omega) (by omega))
    · refine nf_aln (pc := 60) dX3_copyFrom_60 rfl ?_
      refine gf_X3_hosts hn1 (pc := 61) lk_X3_38 dX3_copyFrom_61 ?_
      refine nf_iln (pc := 64) dX3_copyFrom_64 rfl ?_
      refine nf_haldI (pc := 65) (k := k) hn1 (show _ < 6 by omega) dX3_copyFrom_65 ?_
      refine nf_aln (pc := 66) dX3_copyFrom_66 rfl ?_
      refine gf_X3_hosts hn2 (pc := 67) lk_X3_38 dX3_copyFrom_67 ?_
      refine nf_iln (pc := 70) dX3_copyFrom_70 rfl ?_
      refine nf_haldI (pc := 71) (k := k) hn2 (show _ < 6 by omega) dX3_copyFrom_71 ?_
      refine nf_cVv1 (pc := 72) (sp_X1_copyFrom hn1 hn2 hne (show k < 6 by omega)) (nf_ok4 hn1 (show _ < 6 by omega)) rfl rfl mk_X3_171 im_X1_copyFrom se_X1_copyFrom nm_X1_copyFrom ⟨by decide, by decide⟩ (Nat.le_of_ble_eq_true rfl) dX3_copyFrom_72 ?_
      refine nf_iinc2 (pc := 75) (v := nI (k + 1)) dX3_copyFrom_75 (nI_succ (k)).symm rfl (by decide) ?_
      refine nf_goto (pc := 78) 54 dX3_copyFrom_78 (by decide) ?_
      refine nf_from (cs_cpH_step S0 n1 n2 k hne) ?_
      exact ih (k + 1) (by omega) hK
def cs_cp0 (S : nf_S) (n1 n2 : Nat) : nf_S := nf_sA (nf_sI (nf_sI S n1 0 0 (nf_I S n2 0 0)) n1 1 0 (nf_I S n2 1 0)) n1 0 0 (nf_A S n2 0 0)
def cs_cp9 (S : nf_S) (n1 n2 : Nat) : nf_S := nf_sA (cs_cpq S n1 n2) n1 1 0 (nf_A S n2 1 0)
theorem cs_cp_eqv (S : nf_S) (n1 n2 : Nat) (hne : n1 ≠ n2) : nf_eqv (cs_cp9 (cs_cpH (cs_cpA (cs_cpL (cs_cp0 S n1 n2) n1 n2) n1 n2) n1 n2 6) n1 n2) (nf_cpN S n1 n2) := by
  have e : ¬ n2 = n1 := fun h => hne h.symm
  refine ⟨fun n c h hn hr => ?_, fun n c h hq j hj => ?_, fun _ _ _ => rfl, fun _ => rfl, fun _ _ => rfl⟩
  · simp only [cs_cp9, cs_cpq, cs_cpA, cs_cpL, cs_cp0, nf_I_sA, nf_I_sI, nf_I_cpH, nf_I_cpN, e, false_and, if_false]
    by_cases h1 : n = n1
    · subst h1
      rcases hr with ⟨h2, rfl⟩ | ⟨h2, h3⟩
      · rcases (show c = 0 ∨ c = 1 ∨ c = 2 ∨ c = 3 by omega) with rfl | rfl | rfl | rfl <;> simp
      · rcases h2 with rfl | rfl <;> simp [h3]
    · simp [h1]
  · refine congrFun ?_ j
    simp only [cs_cp9, cs_cpq, cs_cpA, cs_cpL, cs_cp0, nf_A_sA, nf_A_sI, nf_A_cpH, nf_A_cpN, e, false_and, if_false]
    by_cases h1 : n = n1
    · subst h1
      rcases hq with ⟨_, ⟨h2, h3⟩ | ⟨h2, h3⟩⟩ | ⟨_, h2, h3⟩
      · simp at h2 h3
        subst h3
        rcases (show c = 0 ∨ c = 1 ∨ c = 2 ∨ c = 3 ∨ c = 4 ∨ c = 5 ∨ c = 6 ∨ c = 7 ∨ c = 8 ∨ c = 9 ∨ c = 10 ∨ c = 11 by omega) with rfl | rfl | rfl | rfl | rfl | rfl | rfl | rfl | rfl | rfl | rfl | rfl <;> simp
      · simp at h2 h3
        rcases h2 with rfl | rfl <;> simp [h3]
      · simp at h2 h3
        subst h3
        rcases h2 with rfl | rfl <;> simp
    · simp [h1]
set_option maxRecDepth 100000 in
set_option maxHeartbeats 4000000 in
theorem sp_cp {L : nf_L} {S : nf_S} {n1 n2 : Nat} (hn1 : n1 < 5) (hn2 : n2 < 5) (hne : n1 ≠ n2) : nf_Sp L 2 yX3_copyFrom cX3_copyFrom 3 none [.ref (L.2.2 (1, n1, 0, 0)), .ref (L.2.2 (1, n2, 0, 0))] S none (cs_cp9 (cs_cpH (cs_cpA (cs_cpL (cs_cp0 S n1 n2) n1 n2) n1 n2) n1 n2 6) n1 n2) := by
  have hne2 : ¬ n2 = n1 := fun h => hne h.symm
  refine nf_start (own := RX3) (ls0 := [some (.ref (L.2.2 (1, n1, 0, 0))), some (.ref (L.2.2 (1, n2, 0, 0))), none]) (by decide) (Nat.le_of_ble_eq_true rfl) rfl rfl ?_
  refine nf_aln (pc := 0) dX3_copyFrom_0 rfl ?_
  refine nf_aln (pc := 1) dX3_copyFrom_1 rfl ?_
  refine gf_X3_today hn2 (pc := 2) lk_X3_9 dX3_copyFrom_2 ?_
  refine pf_X3_today hn1 (pc := 5) lk_X3_9 dX3_copyFrom_5 ?_
  refine nf_aln (pc := 8) dX3_copyFrom_8 rfl ?_
  refine nf_aln (pc := 9) dX3_copyFrom_9 rfl ?_
  refine gf_X3_historyLimit hn2 (pc := 10) lk_X3_15 dX3_copyFrom_10 ?_
  refine pf_X3_historyLimit hn1 (pc := 13) lk_X3_15 dX3_copyFrom_13 ?_
  refine nf_aln (pc := 16) dX3_copyFrom_16 rfl ?_
  refine gf_X3_expiry hn2 (pc := 17) lk_X3_18 dX3_copyFrom_17 ?_
  refine nf_iconst (pc := 20) (v := 0) dX3_copyFrom_20 (by decide) ?_
  refine nf_aln (pc := 21) dX3_copyFrom_21 rfl ?_
  refine gf_X3_expiry hn1 (pc := 22) lk_X3_18 dX3_copyFrom_22 ?_
  refine nf_iconst (pc := 25) (v := 0) dX3_copyFrom_25 (by decide) ?_
  refine nf_iconst (pc := 26) (v := 4) dX3_copyFrom_26 (by decide) ?_
  refine nf_copy (pc := 27) (nf_okA hn2 (by decide)) (nf_okA hn1 (by decide)) (by decide) (by decide) ac_X3_159 ac_native ac_static ini_J10 (by decide) (Nat.le_of_ble_eq_true rfl) dX3_copyFrom_27 ?_
  refine nf_from (S' := cs_cp0 S n1 n2) (by simp [cs_cp0, nf_A_sI, nf_I_sI, hne2]) ?_
  refine nf_aln (pc := 30) dX3_copyFrom_30 rfl ?_
  refine gf_X3_links hn1 (pc := 31) lk_X3_25 dX3_copyFrom_31 ?_
  refine nf_aln (pc := 34) dX3_copyFrom_34 rfl ?_
  refine gf_X3_links hn2 (pc := 35) lk_X3_25 dX3_copyFrom_35 ?_
  refine nf_cVv1 (pc := 38) (sp_X2_copyFrom hn1 hn2 hne) ⟨hn1, rfl⟩ rfl rfl mk_X3_165 im_X2_copyFrom se_X2_copyFrom nm_X2_copyFrom ⟨by decide, by decide⟩ (Nat.le_of_ble_eq_true rfl) dX3_copyFrom_38 ?_
  refine nf_aln (pc := 41) dX3_copyFrom_41 rfl ?_
  refine gf_X3_articles hn1 (pc := 42) lk_X3_32 dX3_copyFrom_42 ?_
  refine nf_aln (pc := 45) dX3_copyFrom_45 rfl ?_
  refine gf_X3_articles hn2 (pc := 46) lk_X3_32 dX3_copyFrom_46 ?_
  refine nf_cVv1 (pc := 49) (sp_X0_copyFrom hn1 hn2 hne) ⟨hn1, rfl⟩ rfl rfl mk_X3_168 im_X0_copyFrom se_X0_copyFrom nm_X0_copyFrom ⟨by decide, by decide⟩ (Nat.le_of_ble_eq_true rfl) dX3_copyFrom_49 ?_
  refine nf_iconst (pc := 52) (v := 0) dX3_copyFrom_52 (by decide) ?_
  refine nf_is2 (pc := 53) dX3_copyFrom_53 rfl (by decide) ?_
  refine nf_from (cs_cpH_0 _ n1 n2).symm ?_
  refine lp_cpH hn1 hn2 hne 6 0 (by omega) ?_
  refine nf_aln (pc := 81) dX3_copyFrom_81 rfl ?_
  refine gf_X3_queue hn1 (pc := 82) lk_X3_45 dX3_copyFrom_82 ?_
  refine nf_aln (pc := 85) dX3_copyFrom_85 rfl ?_
  refine gf_X3_queue hn2 (pc := 86) lk_X3_45 dX3_copyFrom_86 ?_
  refine nf_cVv1 (pc := 89) (sp_X4_copyFrom (Nat.lt_succ_of_lt hn1) (Nat.lt_succ_of_lt hn2)) ⟨(Nat.lt_succ_of_lt hn1), rfl⟩ rfl rfl mk_X3_114 im_X4_copyFrom se_X4_copyFrom nm_X4_copyFrom ⟨by decide, by decide⟩ (Nat.le_of_ble_eq_true rfl) dX3_copyFrom_89 ?_
  refine nf_aln (pc := 92) dX3_copyFrom_92 rfl ?_
  refine gf_X3_counts hn2 (pc := 93) lk_X3_49 dX3_copyFrom_93 ?_
  refine nf_iconst (pc := 96) (v := 0) dX3_copyFrom_96 (by decide) ?_
  refine nf_aln (pc := 97) dX3_copyFrom_97 rfl ?_
  refine gf_X3_counts hn1 (pc := 98) lk_X3_49 dX3_copyFrom_98 ?_
  refine nf_iconst (pc := 101) (v := 0) dX3_copyFrom_101 (by decide) ?_
  refine nf_bipush (pc := 102) (v := 6) dX3_copyFrom_102 (by decide) ?_
  refine nf_copy (pc := 104) (nf_okA hn2 (by decide)) (nf_okA hn1 (by decide)) (by decide) (by decide) ac_X3_159 ac_native ac_static ini_J10 (by decide) (Nat.le_of_ble_eq_true rfl) dX3_copyFrom_104 ?_
  exact nf_to rfl (by simp [cs_cp9, cs_cpq, nf_A_sA, hne2]) (nf_vret (pc := 107) dX3_copyFrom_107)
theorem sp_X3_copyFrom {L : nf_L} {S : nf_S} {n1 n2 : Nat} (hn1 : n1 < 5) (hn2 : n2 < 5) (hne : n1 ≠ n2) : nf_Sp L 2 yX3_copyFrom cX3_copyFrom 3 none [.ref (L.2.2 (1, n1, 0, 0)), .ref (L.2.2 (1, n2, 0, 0))] S none (nf_cpN S n1 n2) :=
  (sp_cp hn1 hn2 hne).out (cs_cp_eqv S n1 n2 hne)
def cs_fail (S : nf_S) (j : Nat) : nf_S := nf_sO S 0 (upd (nf_O S 0) j (nf_O S 0 j + 1))
def cf_rot (v : Nat → Nat) : Nat → Nat := va_up (va_up (va_up (va_up v 0 (v 1)) 1 (v 2)) 2 (v 3)) 3 (v 0)
def cs_save (S : nf_S) (c : Nat) : nf_S := if c < 4 then nf_cpN (nf_sJ S 0 (nI (c + 1))) (nf_v S c) 0 else nf_cpN (nf_sv S (cf_rot (nf_v S))) (nf_v S 0) 0
/-- the saved nets lie apart from the live one, and the count is c -/
def cs_sv (S : nf_S) (c : Nat) : Prop := c ≤ 4 ∧ nf_J S 0 = nI c ∧ ∀ k, k < 4 → 0 < nf_v S k ∧ nf_v S k < 5
set_option maxRecDepth 100000 in
set_option maxHeartbeats 4000000 in
theorem sp_X5_fail {L : nf_L} {S : nf_S} {x : Int32} {j : Nat} (e : cf_slot x = nI j) (hj : j < 4) : nf_Sp L 1 yX5_fail cX5_fail 3 (some .int) [.ref (L.2.2 (0, 0, 0, 0)), .int x] S (some (.int x)) (cs_fail S j) := by
  refine nf_start (own := RX5) (ls0 := [some (.ref (L.2.2 (0, 0, 0, 0))), some (.int x), none]) (by decide) (Nat.le_of_ble_eq_true rfl) rfl rfl ?_
  refine nf_iln (pc := 0) dX5_fail_0 rfl ?_
  refine nf_cSi1 (pc := 1) sp_X5_errorSlot mk_X5_145 st_X5_errorSlot nm_X5_errorSlot ⟨by decide, by decide⟩ (Nat.le_of_ble_eq_true rfl) dX5_fail_1 ?_
  refine nf_topI (y := nI j) e ?_
  refine nf_is2 (pc := 4) dX5_fail_4 rfl (by decide) ?_
  refine nf_iln (pc := 5) dX5_fail_5 rfl ?_
  refine nf_iconst (pc := 6) (v := 4) dX5_fail_6 (by decide) ?_
  refine nf_cSi2 (pc := 7) sp_X5_isBelow mk_X5_35 st_X5_isBelow nm_X5_isBelow ⟨by decide, by decide⟩ (Nat.le_of_ble_eq_true rfl) dX5_fail_7 ?_
  refine nf_if_eqB (pc := 10) 23 dX5_fail_10 (by decide) (fun c_10 => ?_) (fun c_10 => ?_)
  · exact absurd c_10 (by rw [show (4 : Int32) = nI 4 from rfl, cf_below_I (by omega) (by omega)]; simp [hj])
  · refine nf_aln (pc := 13) dX5_fail_13 rfl ?_
    refine gf_X5_errors (pc := 14) lk_X5_31 dX5_fail_14 ?_
    refine nf_iln (pc := 17) dX5_fail_17 rfl ?_
    refine nf_dup2 (pc := 18) dX5_fail_18 rfl rfl ?_
    refine nf_ialdOI (pc := 19) (k := j) (nf_okO (by decide)) hj dX5_fail_19 ?_
    refine nf_iconst (pc := 20) (v := 1) dX5_fail_20 (by decide) ?_
    refine nf_iadd (pc := 21) dX5_fail_21 ?_
    refine nf_iastOI (pc := 22) (k := j) (nf_okO (by decide)) hj dX5_fail_22 ?_
    refine nf_iln (pc := 23) dX5_fail_23 rfl ?_
    exact nf_iret (pc := 24) dX5_fail_24
set_option maxRecDepth 100000 in
set_option maxHeartbeats 4000000 in
theorem sp_X5_save {L : nf_L} {S : nf_S} {c : Nat} (hs : cs_sv S c) : nf_Sp L 3 yX5_save cX5_save 3 none [.ref (L.2.2 (0, 0, 0, 0))] S none (cs_save S c) := by
  have hc4 := hs.1
  refine nf_start (own := RX5) (ls0 := [some (.ref (L.2.2 (0, 0, 0, 0))), none, none]) (by decide) (Nat.le_of_ble_eq_true rfl) rfl rfl ?_
  refine nf_aln (pc := 0) dX5_save_0 rfl ?_
  refine gf_X5_savedCount (pc := 1) lk_X5_27 dX5_save_1 ?_
  refine nf_topI (y := nI (c)) hs.2.1 ?_
  refine nf_iconst (pc := 4) (v := 4) dX5_save_4 (by decide) ?_
  refine nf_ic_ge (pc := 5) 21 dX5_save_5 (by decide) (fun c_5 => ?_) (fun c_5 => ?_)
  · obtain rfl : c = 4 := by
      rcases Nat.lt_or_ge c 4 with h | h
      · exact absurd c_5 (nI_ge (b := 4) h (by decide))
      · omega
    refine nf_aln (pc := 21) dX5_save_21 rfl ?_
    refine gf_X5_saved (pc := 22) lk_X5_23 dX5_save_22 ?_
    refine nf_iconst (pc := 25) (v := 0) dX5_save_25 (by decide) ?_
    refine nf_saldI (pc := 26) (k := 0) (by decide) dX5_save_26 ?_
    refine nf_as1 (pc := 27) dX5_save_27 rfl (by decide) ?_
    refine nf_iconst (pc := 28) (v := 1) dX5_save_28 (by decide) ?_
    refine nf_is2 (pc := 29) dX5_save_29 rfl (by decide) ?_
    refine nf_iln (pc := 30) dX5_save_30 rfl ?_
    refine nf_iconst (pc := 31) (v := 4) dX5_save_31 (by decide) ?_
    refine nf_ic_ge (pc := 32) 55 dX5_save_32 (by decide) (fun h => absurd h (by decide)) (fun _ => ?_)
    refine nf_aln (pc := 35) dX5_save_35 rfl ?_
    refine gf_X5_saved (pc := 36) lk_X5_23 dX5_save_36 ?_
    refine nf_iln (pc := 39) dX5_save_39 rfl ?_
    refine nf_iconst (pc := 40) (v := 1) dX5_save_40 (by decide) ?_
    refine nf_isub (pc := 41) dX5_save_41 ?_
    refine nf_topI (y := 0) (by decide) ?_
    refine nf_aln (pc := 42) dX5_save_42 rfl ?_
    refine gf_X5_saved (pc := 43) lk_X5_23 dX5_save_43 ?_
    refine nf_iln (pc := 46) dX5_save_46 rfl ?_
    refine nf_saldI (pc := 47) (k := 1) (by decide) dX5_save_47 ?_
    refine nf_topR (p2 := (1, (nf_v S 1), 0, 0)) (by simp [nf_v_sv, va_up]) ?_
    refine nf_sastI (pc := 48) (k := 0) (hs.2.2 1 (by decide)).2 (by decide) dX5_save_48 ?_
    refine nf_iinc2 (pc := 49) (v := 2) dX5_save_49 (by decide) rfl (by decide) ?_
    refine nf_goto (pc := 52) 30 dX5_save_52 (by decide) ?_
    refine nf_iln (pc := 30) dX5_save_30 rfl ?_
    refine nf_iconst (pc := 31) (v := 4) dX5_save_31 (by decide) ?_
    refine nf_ic_ge (pc := 32) 55 dX5_save_32 (by decide) (fun h => absurd h (by decide)) (fun _ => ?_)
    refine nf_aln (pc := 35) dX5_save_35 rfl ?_
    refine gf_X5_saved (pc := 36) lk_X5_23 dX5_save_36 ?_
    refine nf_iln (pc := 39) dX5_save_39 rfl ?_
    refine nf_iconst (pc := 40) (v := 1) dX5_save_40 (by decide) ?_
    refine nf_isub (pc := 41) dX5_save_41 ?_
    refine nf_topI (y := 1) (by decide) ?_
    refine nf_aln (pc := 42) dX5_save_42 rfl ?_
    refine gf_X5_saved (pc := 43) lk_X5_23 dX5_save_43 ?_
    refine nf_iln (pc := 46) dX5_save_46 rfl ?_
    refine nf_saldI (pc := 47) (k := 2) (by decide) dX5_save_47 ?_
    refine nf_topR (p2 := (1, (nf_v S 2), 0, 0)) (by simp [nf_v_sv, va_up]) ?_
    refine nf_sastI (pc := 48) (k := 1) (hs.2.2 2 (by decide)).2 (by decide) dX5_save_48 ?_
    refine nf_iinc2 (pc := 49) (v := 3) dX5_save_49 (by decide) rfl (by decide) ?_
    refine nf_goto (pc := 52) 30 dX5_save_52 (by decide) ?_
    refine nf_iln (pc := 30) dX5_save_30 rfl ?_
    refine nf_iconst (pc := 31) (v := 4) dX5_save_31 (by decide) ?_
    refine nf_ic_ge (pc := 32) 55 dX5_save_32 (by decide) (fun h => absurd h (by decide)) (fun _ => ?_)
    refine nf_aln (pc := 35) dX5_save_35 rfl ?_
    refine gf_X5_saved (pc := 36) lk_X5_23 dX5_save_36 ?_
    refine nf_iln (pc := 39) dX5_save_39 rfl ?_
    refine nf_iconst (pc := 40) (v := 1) dX5_save_40 (by decide) ?_
    refine nf_isub (pc := 41) dX5_save_41 ?_
    refine nf_topI (y := 2) (by decide) ?_
    refine nf_aln (pc := 42) dX5_save_42 rfl ?_
    refine gf_X5_saved (pc := 43) lk_X5_23 dX5_save_43 ?_
    refine nf_iln (pc := 46) dX5_save_46 rfl ?_
    refine nf_saldI (pc := 47) (k := 3) (by decide) dX5_save_47 ?_
    refine nf_topR (p2 := (1, (nf_v S 3), 0, 0)) (by simp [nf_v_sv, va_up]) ?_
    refine nf_sastI (pc := 48) (k := 2) (hs.2.2 3 (by decide)).2 (by decide) dX5_save_48 ?_
    refine nf_iinc2 (pc := 49) (v := 4) dX5_save_49 (by decide) rfl (by decide) ?_
    refine nf_goto (pc := 52) 30 dX5_save_52 (by decide) ?_
    refine nf_iln (pc := 30) dX5_save_30 rfl ?_
    refine nf_iconst (pc := 31) (v := 4) dX5_save_31 (by decide) ?_
    refine nf_ic_ge (pc := 32) 55 dX5_save_32 (by decide) (fun _ => ?_) (fun h => absurd h (by decide))
    refine nf_aln (pc := 55) dX5_save_55 rfl ?_
    refine gf_X5_saved (pc := 56) lk_X5_23 dX5_save_56 ?_
    refine nf_iconst (pc := 59) (v := 3) dX5_save_59 (by decide) ?_
    refine nf_aln (pc := 60) dX5_save_60 rfl ?_
    refine nf_sastI (pc := 61) (k := 3) (hs.2.2 0 (by decide)).2 (by decide) dX5_save_61 ?_
    refine nf_from (S' := nf_sv S (cf_rot (nf_v S))) rfl ?_
    refine nf_aln (pc := 62) dX5_save_62 rfl ?_
    refine gf_X5_saved (pc := 63) lk_X5_23 dX5_save_63 ?_
    refine nf_aln (pc := 66) dX5_save_66 rfl ?_
    refine gf_X5_savedCount (pc := 67) lk_X5_27 dX5_save_67 ?_
    refine nf_topI (y := nI (3 + 1)) hs.2.1 ?_
    refine nf_iconst (pc := 70) (v := 1) dX5_save_70 (by decide) ?_
    refine nf_isub (pc := 71) dX5_save_71 ?_
    refine nf_topI (y := nI (3)) (nf_succ_sub _) ?_
    refine nf_saldI (pc := 72) (k := 3) (by omega) dX5_save_72 ?_
    refine nf_topR (p2 := (1, (nf_v S 0), 0, 0)) (by simp [nf_v_sv, cf_rot, va_up]) ?_
    refine nf_aln (pc := 73) dX5_save_73 rfl ?_
    refine gf_X5_network (pc := 74) lk_X5_12 dX5_save_74 ?_
    refine nf_cVv1 (pc := 77) (sp_X3_copyFrom (hs.2.2 0 (by decide)).2 (by decide) (Nat.ne_of_gt (hs.2.2 0 (by decide)).1)) ⟨(hs.2.2 0 (by decide)).2, rfl⟩ rfl rfl mk_X5_141 im_X3_copyFrom se_X3_copyFrom nm_X3_copyFrom ⟨by decide, by decide⟩ (Nat.le_of_ble_eq_true rfl) dX5_save_77 ?_
    exact nf_to rfl (by rw [cs_save, if_neg (by decide)]) (nf_vret (pc := 80) dX5_save_80)
  · have h4 : c < 4 := by
      rcases Nat.lt_or_ge c 4 with h | h
      · exact h
      · exact absurd (nI_le (a := 4) h (by omega)) c_5
    refine nf_aln (pc := 8) dX5_save_8 rfl ?_
    refine nf_dup (pc := 9) dX5_save_9 rfl ?_
    refine gf_X5_savedCount (pc := 10) lk_X5_27 dX5_save_10 ?_
    refine nf_topI (y := nI (c)) hs.2.1 ?_
    refine nf_iconst (pc := 13) (v := 1) dX5_save_13 (by decide) ?_
    refine nf_iaddI (pc := 14) (a := c) (b := 1) dX5_save_14 ?_
    refine pf_X5_savedCount (pc := 15) lk_X5_27 dX5_save_15 ?_
    refine nf_goto (pc := 18) 62 dX5_save_18 (by decide) ?_
    refine nf_aln (pc := 62) dX5_save_62 rfl ?_
    refine gf_X5_saved (pc := 63) lk_X5_23 dX5_save_63 ?_
    refine nf_aln (pc := 66) dX5_save_66 rfl ?_
    refine gf_X5_savedCount (pc := 67) lk_X5_27 dX5_save_67 ?_
    refine nf_topI (y := nI (c + 1)) (by simp [nf_J_sJ]) ?_
    refine nf_iconst (pc := 70) (v := 1) dX5_save_70 (by decide) ?_
    refine nf_isub (pc := 71) dX5_save_71 ?_
    refine nf_topI (y := nI (c)) (nf_succ_sub _) ?_
    refine nf_saldI (pc := 72) (k := c) (by omega) dX5_save_72 ?_
    refine nf_aln (pc := 73) dX5_save_73 rfl ?_
    refine gf_X5_network (pc := 74) lk_X5_12 dX5_save_74 ?_
    refine nf_cVv1 (pc := 77) (sp_X3_copyFrom (hs.2.2 c h4).2 (by decide) (Nat.ne_of_gt (hs.2.2 c h4).1)) ⟨(hs.2.2 c h4).2, rfl⟩ rfl rfl mk_X5_141 im_X3_copyFrom se_X3_copyFrom nm_X3_copyFrom ⟨by decide, by decide⟩ (Nat.le_of_ble_eq_true rfl) dX5_save_77 ?_
    exact nf_to rfl (by rw [cs_save, if_pos h4]; rfl) (nf_vret (pc := 80) dX5_save_80)
theorem cs_save_I (S : nf_S) (c : Nat) (hs : cs_sv S c) (x h : Nat) : nf_I (cs_save S c) 0 x h = nf_I S 0 x h := by
  unfold cs_save
  split
  · rename_i h4
    rw [nf_I_cpN, if_neg (Nat.ne_of_lt (hs.2.2 c h4).1)]; rfl
  · rw [nf_I_cpN, if_neg (Nat.ne_of_lt (hs.2.2 0 (by decide)).1)]; rfl
theorem cs_save_A (S : nf_S) (c : Nat) (hs : cs_sv S c) (x h : Nat) : nf_A (cs_save S c) 0 x h = nf_A S 0 x h := by
  unfold cs_save
  split
  · rename_i h4
    rw [nf_A_cpN, if_neg (Nat.ne_of_lt (hs.2.2 c h4).1)]; rfl
  · rw [nf_A_cpN, if_neg (Nat.ne_of_lt (hs.2.2 0 (by decide)).1)]; rfl
theorem cs_save_O (S : nf_S) (c : Nat) (x : Nat) : nf_O (cs_save S c) x = nf_O S x := by unfold cs_save; split <;> rfl
theorem cs_save_J (S : nf_S) (c : Nat) (x : Nat) : nf_J (cs_save S c) (x + 1) = nf_J S (x + 1) := by unfold cs_save; split <;> rfl
theorem cs_ok.save {S : nf_S} {c nl na : Nat} (h : cs_ok S nl na) (hs : cs_sv S c) : cs_ok (cs_save S c) nl na := by
  obtain ⟨h1, h2, h3, h4, h5⟩ := h
  refine ⟨h1, h2, by rw [cs_save_I S c hs]; exact h3, by rw [cs_save_I S c hs]; exact h4, fun a ha => ?_⟩
  rw [cs_save_A S c hs, cs_save_A S c hs, cs_save_A S c hs]
  exact h5 a ha
theorem cs_save_sv (S : nf_S) (c : Nat) (hs : cs_sv S c) : cs_sv (cs_save S c) (if c < 4 then c + 1 else 4) := by
  unfold cs_save
  split
  · rename_i h4
    exact ⟨by omega, rfl, hs.2.2⟩
  · rename_i h4
    have hc : c = 4 := by have := hs.1; omega
    refine ⟨Nat.le_refl 4, by rw [nf_J_cpN, nf_J_sv, hs.2.1, hc], fun k hk => ?_⟩
    rw [nf_v_cpN, nf_v_sv]
    simp only [cf_rot, va_up]
    repeat' split
    all_goals first | exact hs.2.2 _ (by decide) | exact hs.2.2 k hk
