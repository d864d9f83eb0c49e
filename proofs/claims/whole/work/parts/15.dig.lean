/-! digest -/
def cf_mixr (f : Nat → Int32) (k : Nat) : Nat → Int64 → Int64
  | 0, h => h
  | m + 1, h => cf_mixr f (k + 1) m (cf_mix h (f k))
def cf_mixl (S : nf_S) (k : Nat) : Nat → Int64 → Int64
  | 0, h => h
  | m + 1, h => cf_mixl S (k + 1) m (cf_mix (cf_mix (cf_mix h (nf_A S 0 2 0 k)) (nf_A S 0 3 0 k)) (nf_A S 0 4 0 k))
def cf_mixa (S : nf_S) (k : Nat) : Nat → Int64 → Int64
  | 0, h => h
  | m + 1, h => cf_mixa S (k + 1) m (cf_mix (cf_mix (cf_mix (cf_mix (cf_mix h (nf_A S 0 5 0 k)) (nf_A S 0 6 0 k)) (nf_A S 0 7 0 k)) (nf_A S 0 8 0 k)) (nf_A S 0 9 0 k))
def cf_mixs (S : nf_S) (x : Nat) (k : Nat) : Nat → Int64 → Int64
  | 0, h => h
  | m + 1, h => cf_mixs S x (k + 1) m (cf_mix (cf_mix h (nf_b (cf_has (nf_I S 0 5 x) (nI k)))) (nf_A S 0 12 x k))
def cf_mixh (S : nf_S) (x na : Nat) (h : Int64) : Int64 := cf_mixs S x 0 na (cf_mix (cf_mix h (nf_I S 0 4 x)) (cf_sum (nf_A S 0 13 x) 0 30 0))
def cf_mixo (S : nf_S) (na : Nat) (k : Nat) : Nat → Int64 → Int64
  | 0, h => h
  | m + 1, h => cf_mixo S na (k + 1) m (cf_mixh S k na h)
def cf_dig (S : nf_S) (nl na : Nat) : Int64 :=
  cf_mix (cf_mix (cf_mixr (nf_A S 0 1 0) 0 6 (cf_mixo S na 0 6 (cf_mixa S 0 na (cf_mix (cf_mixl S 0 nl (cf_mixr (nf_A S 0 0 0) 0 4 (cf_mix (cf_mix (cf_mixr (nf_O S 0) 0 4 2659) (nf_I S 0 0 0)) (nf_I S 0 1 0)))) (nf_I S 0 3 0))))) (cf_sum (nf_A S 0 10 0) 0 180 0)) (nf_J S 0)
set_option maxRecDepth 100000 in
set_option maxHeartbeats 4000000 in
theorem lp_mixAllE {L : nf_L} {S : nf_S} {h0 : Int64}  : ∀ (m : Nat) (k : Nat) (h : Int64) (o8 : Option Value), (k + m = 4) → nf_V L 1 cX5_mixAll RX5 9 (some .long) (some (.long (cf_mixr (nf_O S 0) k m h))) S 13 [some (.long h0), none, some (.ref (L.2.2 (10, 0, 0, 0))), some (.long h), none, some (.ref (L.2.2 (10, 0, 0, 0))), some (.int (nI 4)), some (.int (nI k)), o8] [] S := by
  intro m
  induction m with
  | zero =>
    intro k h o8 hkm
    refine nf_il (pc := 13) dX5_mixAll_13 rfl ?_
    refine nf_il (pc := 15) dX5_mixAll_15 rfl ?_
    refine nf_ic_ge (pc := 17) 40 dX5_mixAll_17 (by decide) (fun c_17 => ?_) (fun c_17 => ?_)
    · refine nf_lln (pc := 40) dX5_mixAll_40 rfl ?_
      exact (nf_lret (pc := 41) dX5_mixAll_41)
    · exact absurd (nI_le (by omega) (by omega)) c_17
  | succ m ih =>
    intro k h o8 hkm
    refine nf_il (pc := 13) dX5_mixAll_13 rfl ?_
    refine nf_il (pc := 15) dX5_mixAll_15 rfl ?_
    refine nf_ic_ge (pc := 17) 40 dX5_mixAll_17 (by decide) (fun c_17 => ?_) (fun c_17 => ?_)
    · exact absurd c_17 (nI_ge (by omega) (by omega))
    · refine nf_al (pc := 20) dX5_mixAll_20 rfl ?_
      refine nf_il (pc := 22) dX5_mixAll_22 rfl ?_
      refine nf_ialdOI (pc := 24) (k := k) (nf_okO (by decide)) (show _ < 4 by omega) dX5_mixAll_24 ?_
      refine nf_is8 (pc := 25) dX5_mixAll_25 rfl (by decide) ?_
      refine nf_lln (pc := 27) dX5_mixAll_27 rfl ?_
      refine nf_il (pc := 28) dX5_mixAll_28 rfl ?_
      refine nf_cSl2 (pc := 30) sp_X5_mix mk_X5_154 st_X5_mix nm_X5_mix ⟨by decide, by decide⟩ (Nat.le_of_ble_eq_true rfl) dX5_mixAll_30 ?_
      refine nf_ls3 (pc := 33) dX5_mixAll_33 rfl (by decide) ?_
      refine nf_iinc7 (pc := 34) (v := nI (k + 1)) dX5_mixAll_34 (nI_succ (k)).symm rfl (by decide) ?_
      refine nf_goto (pc := 37) 13 dX5_mixAll_37 (by decide) ?_
      exact ih (k + 1) _ _ (by omega)
set_option maxRecDepth 100000 in
set_option maxHeartbeats 4000000 in
theorem sp_mixAllE {L : nf_L} {S : nf_S} {h : Int64}  : nf_Sp L 1 yX5_mixAll cX5_mixAll 9 (some .long) [.long h, .ref (L.2.2 (10, 0, 0, 0))] S (some (.long (cf_mixr (nf_O S 0) 0 4 h))) S := by
  refine nf_start (own := RX5) (ls0 := [some (.long h), none, some (.ref (L.2.2 (10, 0, 0, 0))), none, none, none, none, none, none]) (by decide) (Nat.le_of_ble_eq_true rfl) rfl rfl ?_
  refine nf_lln (pc := 0) dX5_mixAll_0 rfl ?_
  refine nf_ls3 (pc := 1) dX5_mixAll_1 rfl (by decide) ?_
  refine nf_aln (pc := 2) dX5_mixAll_2 rfl ?_
  refine nf_as5 (pc := 3) dX5_mixAll_3 rfl (by decide) ?_
  refine nf_al (pc := 5) dX5_mixAll_5 rfl ?_
  refine nf_alenO (pc := 7) (v := nI 4) (nf_okO (by decide)) rfl dX5_mixAll_7 ?_
  refine nf_is6 (pc := 8) dX5_mixAll_8 rfl (by decide) ?_
  refine nf_iconst (pc := 10) (v := 0) dX5_mixAll_10 (by decide) ?_
  refine nf_is7 (pc := 11) dX5_mixAll_11 rfl (by decide) ?_
  exact lp_mixAllE 4 0 h none (by omega)
set_option maxRecDepth 100000 in
set_option maxHeartbeats 4000000 in
theorem lp_mixAllX {L : nf_L} {S : nf_S} {h0 : Int64}  : ∀ (m : Nat) (k : Nat) (h : Int64) (o8 : Option Value), (k + m = 4) → nf_V L 1 cX5_mixAll RX5 9 (some .long) (some (.long (cf_mixr (nf_A S 0 0 0) k m h))) S 13 [some (.long h0), none, some (.ref (L.2.2 (9, 0, 0, 0))), some (.long h), none, some (.ref (L.2.2 (9, 0, 0, 0))), some (.int (nI 4)), some (.int (nI k)), o8] [] S := by
  intro m
  induction m with
  | zero =>
    intro k h o8 hkm
    refine nf_il (pc := 13) dX5_mixAll_13 rfl ?_
    refine nf_il (pc := 15) dX5_mixAll_15 rfl ?_
    refine nf_ic_ge (pc := 17) 40 dX5_mixAll_17 (by decide) (fun c_17 => ?_) (fun c_17 => ?_)
    · refine nf_lln (pc := 40) dX5_mixAll_40 rfl ?_
      exact (nf_lret (pc := 41) dX5_mixAll_41)
    · exact absurd (nI_le (by omega) (by omega)) c_17
  | succ m ih =>
    intro k h o8 hkm
    refine nf_il (pc := 13) dX5_mixAll_13 rfl ?_
    refine nf_il (pc := 15) dX5_mixAll_15 rfl ?_
    refine nf_ic_ge (pc := 17) 40 dX5_mixAll_17 (by decide) (fun c_17 => ?_) (fun c_17 => ?_)
    · exact absurd c_17 (nI_ge (by omega) (by omega))
    · refine nf_al (pc := 20) dX5_mixAll_20 rfl ?_
      refine nf_il (pc := 22) dX5_mixAll_22 rfl ?_
      refine nf_ialdI (pc := 24) (k := k) (nf_okA (by decide) (by decide)) (show _ < 4 by omega) dX5_mixAll_24 ?_
      refine nf_is8 (pc := 25) dX5_mixAll_25 rfl (by decide) ?_
      refine nf_lln (pc := 27) dX5_mixAll_27 rfl ?_
      refine nf_il (pc := 28) dX5_mixAll_28 rfl ?_
      refine nf_cSl2 (pc := 30) sp_X5_mix mk_X5_154 st_X5_mix nm_X5_mix ⟨by decide, by decide⟩ (Nat.le_of_ble_eq_true rfl) dX5_mixAll_30 ?_
      refine nf_ls3 (pc := 33) dX5_mixAll_33 rfl (by decide) ?_
      refine nf_iinc7 (pc := 34) (v := nI (k + 1)) dX5_mixAll_34 (nI_succ (k)).symm rfl (by decide) ?_
      refine nf_goto (pc := 37) 13 dX5_mixAll_37 (by decide) ?_
      exact ih (k + 1) _ _ (by omega)
set_option maxRecDepth 100000 in
set_option maxHeartbeats 4000000 in
theorem sp_mixAllX {L : nf_L} {S : nf_S} {h : Int64}  : nf_Sp L 1 yX5_mixAll cX5_mixAll 9 (some .long) [.long h, .ref (L.2.2 (9, 0, 0, 0))] S (some (.long (cf_mixr (nf_A S 0 0 0) 0 4 h))) S := by
  refine nf_start (own := RX5) (ls0 := [some (.long h), none, some (.ref (L.2.2 (9, 0, 0, 0))), none, none, none, none, none, none]) (by decide) (Nat.le_of_ble_eq_true rfl) rfl rfl ?_
  refine nf_lln (pc := 0) dX5_mixAll_0 rfl ?_
  refine nf_ls3 (pc := 1) dX5_mixAll_1 rfl (by decide) ?_
  refine nf_aln (pc := 2) dX5_mixAll_2 rfl ?_
  refine nf_as5 (pc := 3) dX5_mixAll_3 rfl (by decide) ?_
  refine nf_al (pc := 5) dX5_mixAll_5 rfl ?_
  refine nf_alen (pc := 7) (v := nI 4) (nf_okA (by decide) (by decide)) rfl dX5_mixAll_7 ?_
  refine nf_is6 (pc := 8) dX5_mixAll_8 rfl (by decide) ?_
  refine nf_iconst (pc := 10) (v := 0) dX5_mixAll_10 (by decide) ?_
  refine nf_is7 (pc := 11) dX5_mixAll_11 rfl (by decide) ?_
  exact lp_mixAllX 4 0 h none (by omega)
set_option maxRecDepth 100000 in
set_option maxHeartbeats 4000000 in
theorem lp_mixAllC {L : nf_L} {S : nf_S} {h0 : Int64}  : ∀ (m : Nat) (k : Nat) (h : Int64) (o8 : Option Value), (k + m = 6) → nf_V L 1 cX5_mixAll RX5 9 (some .long) (some (.long (cf_mixr (nf_A S 0 1 0) k m h))) S 13 [some (.long h0), none, some (.ref (L.2.2 (9, 0, 1, 0))), some (.long h), none, some (.ref (L.2.2 (9, 0, 1, 0))), some (.int (nI 6)), some (.int (nI k)), o8] [] S := by
  intro m
  induction m with
  | zero =>
    intro k h o8 hkm
    refine nf_il (pc := 13) dX5_mixAll_13 rfl ?_
    refine nf_il (pc := 15) dX5_mixAll_15 rfl ?_
    refine nf_ic_ge (pc := 17) 40 dX5_mixAll_17 (by decide) (fun c_17 => ?_) (fun c_17 => ?_)
    · refine nf_lln (pc := 40) dX5_mixAll_40 rfl ?_
      exact (nf_lret (pc := 41) dX5_mixAll_41)
    · exact absurd (nI_le (by omega) (by omega)) c_17
  | succ m ih =>
    intro k h o8 hkm
    refine nf_il (pc := 13) dX5_mixAll_13 rfl ?_
    refine nf_il (pc := 15) dX5_mixAll_15 rfl ?_
    refine nf_ic_ge (pc := 17) 40 dX5_mixAll_17 (by decide) (fun c_17 => ?_) (fun c_17 => ?_)
    · exact absurd c_17 (nI_ge (by omega) (by omega))
    · refine nf_al (pc := 20) dX5_mixAll_20 rfl ?_
      refine nf_il (pc := 22) dX5_mixAll_22 rfl ?_
      refine nf_ialdI (pc := 24) (k := k) (nf_okA (by decide) (by decide)) (show _ < 6 by omega) dX5_mixAll_24 ?_
      refine nf_is8 (pc := 25) dX5_mixAll_25 rfl (by decide) ?_
      refine nf_lln (pc := 27) dX5_mixAll_27 rfl ?_
      refine nf_il (pc := 28) dX5_mixAll_28 rfl ?_
      refine nf_cSl2 (pc := 30) sp_X5_mix mk_X5_154 st_X5_mix nm_X5_mix ⟨by decide, by decide⟩ (Nat.le_of_ble_eq_true rfl) dX5_mixAll_30 ?_
      refine nf_ls3 (pc := 33) dX5_mixAll_33 rfl (by decide) ?_
      refine nf_iinc7 (pc := 34) (v := nI (k + 1)) dX5_mixAll_34 (nI_succ (k)).symm rfl (by decide) ?_
      refine nf_goto (pc := 37) 13 dX5_mixAll_37 (by decide) ?_
      exact ih (k + 1) _ _ (by omega)
set_option maxRecDepth 100000 in
set_option maxHeartbeats 4000000 in
theorem sp_mixAllC {L : nf_L} {S : nf_S} {h : Int64}  : nf_Sp L 1 yX5_mixAll cX5_mixAll 9 (some .long) [.long h, .ref (L.2.2 (9, 0, 1, 0))] S (some (.long (cf_mixr (nf_A S 0 1 0) 0 6 h))) S := by
  refine nf_start (own := RX5) (ls0 := [some (.long h), none, some (.ref (L.2.2 (9, 0, 1, 0))), none, none, none, none, none, none]) (by decide) (Nat.le_of_ble_eq_true rfl) rfl rfl ?_
  refine nf_lln (pc := 0) dX5_mixAll_0 rfl ?_
  refine nf_ls3 (pc := 1) dX5_mixAll_1 rfl (by decide) ?_
  refine nf_aln (pc := 2) dX5_mixAll_2 rfl ?_
  refine nf_as5 (pc := 3) dX5_mixAll_3 rfl (by decide) ?_
  refine nf_al (pc := 5) dX5_mixAll_5 rfl ?_
  refine nf_alen (pc := 7) (v := nI 6) (nf_okA (by decide) (by decide)) rfl dX5_mixAll_7 ?_
  refine nf_is6 (pc := 8) dX5_mixAll_8 rfl (by decide) ?_
  refine nf_iconst (pc := 10) (v := 0) dX5_mixAll_10 (by decide) ?_
  refine nf_is7 (pc := 11) dX5_mixAll_11 rfl (by decide) ?_
  exact lp_mixAllC 6 0 h none (by omega)
set_option maxRecDepth 100000 in
set_option maxHeartbeats 4000000 in
theorem lp_mixLinks {L : nf_L} {S : nf_S} {nl na : Nat} {h0 : Int64} (hk : cs_ok S nl na) : ∀ (m : Nat) (k : Nat) (h : Int64), (k + m = nl) → nf_V L 1 cX5_mixLinks RX5 6 (some .long) (some (.long (cf_mixl S k m h))) S 5 [some (.long h0), none, some (.ref (L.2.2 (2, 0, 0, 0))), some (.long h), none, some (.int (nI k))] [] S := by
  intro m
  induction m with
  | zero =>
    intro k h hkm
    have hq := hk.1
    refine nf_il (pc := 5) dX5_mixLinks_5 rfl ?_
    refine nf_aln (pc := 7) dX5_mixLinks_7 rfl ?_
    refine gf_X2_count (by decide) (pc := 8) lk_X5_53 dX5_mixLinks_8 ?_
    refine nf_topI (y := nI (nl)) hk.2.2.1 ?_
    refine nf_ic_ge (pc := 11) 56 dX5_mixLinks_11 (by decide) (fun c_11 => ?_) (fun c_11 => ?_)
    · refine nf_lln (pc := 56) dX5_mixLinks_56 rfl ?_
      exact (nf_lret (pc := 57) dX5_mixLinks_57)
    · exact absurd (nI_le (by omega) (by omega)) c_11
  | succ m ih =>
    intro k h hkm
    have hq := hk.1
    refine nf_il (pc := 5) dX5_mixLinks_5 rfl ?_
    refine nf_aln (pc := 7) dX5_mixLinks_7 rfl ?_
    refine gf_X2_count (by decide) (pc := 8) lk_X5_53 dX5_mixLinks_8 ?_
    refine nf_topI (y := nI (nl)) hk.2.2.1 ?_
    refine nf_ic_ge (pc := 11) 56 dX5_mixLinks_11 (by decide) (fun c_11 => ?_) (fun c_11 => ?_)
    · exact absurd c_11 (nI_ge (by omega) (by omega))
    · refine nf_lln (pc := 14) dX5_mixLinks_14 rfl ?_
      refine nf_aln (pc := 15) dX5_mixLinks_15 rfl ?_
      refine gf_X2_first (by decide) (pc := 16) lk_X5_178 dX5_mixLinks_16 ?_
      refine nf_il (pc := 19) dX5_mixLinks_19 rfl ?_
      refine nf_ialdI (pc := 21) (k := k) (nf_okA (by decide) (by decide)) (show _ < 12 by omega) dX5_mixLinks_21 ?_
      refine nf_cSl2 (pc := 22) sp_X5_mix mk_X5_154 st_X5_mix nm_X5_mix ⟨by decide, by decide⟩ (Nat.le_of_ble_eq_true rfl) dX5_mixLinks_22 ?_
      refine nf_ls3 (pc := 25) dX5_mixLinks_25 rfl (by decide) ?_
      refine nf_lln (pc := 26) dX5_mixLinks_26 rfl ?_
      refine nf_aln (pc := 27) dX5_mixLinks_27 rfl ?_
      refine gf_X2_second (by decide) (pc := 28) lk_X5_181 dX5_mixLinks_28 ?_
      refine nf_il (pc := 31) dX5_mixLinks_31 rfl ?_
      refine nf_ialdI (pc := 33) (k := k) (nf_okA (by decide) (by decide)) (show _ < 12 by omega) dX5_mixLinks_33 ?_
      refine nf_cSl2 (pc := 34) sp_X5_mix mk_X5_154 st_X5_mix nm_X5_mix ⟨by decide, by decide⟩ (Nat.le_of_ble_eq_true rfl) dX5_mixLinks_34 ?_
      refine nf_ls3 (pc := 37) dX5_mixLinks_37 rfl (by decide) ?_
      refine nf_lln (pc := 38) dX5_mixLinks_38 rfl ?_
      refine nf_aln (pc := 39) dX5_mixLinks_39 rfl ?_
      refine gf_X2_kind (by decide) (pc := 40) lk_X5_67 dX5_mixLinks_40 ?_
      refine nf_il (pc := 43) dX5_mixLinks_43 rfl ?_
      refine nf_ialdI (pc := 45) (k := k) (nf_okA (by decide) (by decide)) (show _ < 12 by omega) dX5_mixLinks_45 ?_
      refine nf_cSl2 (pc := 46) sp_X5_mix mk_X5_154 st_X5_mix nm_X5_mix ⟨by decide, by decide⟩ (Nat.le_of_ble_eq_true rfl) dX5_mixLinks_46 ?_
      refine nf_ls3 (pc := 49) dX5_mixLinks_49 rfl (by decide) ?_
      refine nf_iinc5 (pc := 50) (v := nI (k + 1)) dX5_mixLinks_50 (nI_succ (k)).symm rfl (by decide) ?_
      refine nf_goto (pc := 53) 5 dX5_mixLinks_53 (by decide) ?_
      exact ih (k + 1) _ (by omega)
set_option maxRecDepth 100000 in
set_option maxHeartbeats 4000000 in
theorem sp_X5_mixLinks {L : nf_L} {S : nf_S} {nl na : Nat} {h : Int64} (hk : cs_ok S nl na) : nf_Sp L 1 yX5_mixLinks cX5_mixLinks 6 (some .long) [.long h, .ref (L.2.2 (2, 0, 0, 0))] S (some (.long (cf_mixl S 0 nl h))) S := by
  refine nf_start (own := RX5) (ls0 := [some (.long h), none, some (.ref (L.2.2 (2, 0, 0, 0))), none, none, none]) (by decide) (Nat.le_of_ble_eq_true rfl) rfl rfl ?_
  refine nf_lln (pc := 0) dX5_mixLinks_0 rfl ?_
  refine nf_ls3 (pc := 1) dX5_mixLinks_1 rfl (by decide) ?_
  refine nf_iconst (pc := 2) (v := 0) dX5_mixLinks_2 (by decide) ?_
  refine nf_is5 (pc := 3) dX5_mixLinks_3 rfl (by decide) ?_
  exact lp_mixLinks hk nl 0 h (by omega)
set_option maxRecDepth 100000 in
set_option maxHeartbeats 4000000 in
theorem lp_mixArticles {L : nf_L} {S : nf_S} {nl na : Nat} {h0 : Int64} (hk : cs_ok S nl na) : ∀ (m : Nat) (k : Nat) (h : Int64), (k + m = na) → nf_V L 1 cX5_mixArticles RX5 6 (some .long) (some (.long (cf_mixa S k m h))) S 12 [some (.long h0), none, some (.ref (L.2.2 (3, 0, 0, 0))), some (.long h), none, some (.int (nI k))] [] S := by
  intro m
  induction m with
  | zero =>
    intro k h hkm
    have hq := hk.2.1
    refine nf_il (pc := 12) dX5_mixArticles_12 rfl ?_
    refine nf_aln (pc := 14) dX5_mixArticles_14 rfl ?_
    refine gf_X0_count (by decide) (pc := 15) lk_X5_128 dX5_mixArticles_15 ?_
    refine nf_topI (y := nI (na)) hk.2.2.2.1 ?_
    refine nf_ic_ge (pc := 18) 87 dX5_mixArticles_18 (by decide) (fun c_18 => ?_) (fun c_18 => ?_)
    · refine nf_lln (pc := 87) dX5_mixArticles_87 rfl ?_
      exact (nf_lret (pc := 88) dX5_mixArticles_88)
    · exact absurd (nI_le (by omega) (by omega)) c_18
  | succ m ih =>
    intro k h hkm
    have hq := hk.2.1
    refine nf_il (pc := 12) dX5_mixArticles_12 rfl ?_
    refine nf_aln (pc := 14) dX5_mixArticles_14 rfl ?_
    refine gf_X0_count (by decide) (pc := 15) lk_X5_128 dX5_mixArticles_15 ?_
    refine nf_topI (y := nI (na)) hk.2.2.2.1 ?_
    refine nf_ic_ge (pc := 18) 87 dX5_mixArticles_18 (by decide) (fun c_18 => ?_) (fun c_18 => ?_)
    · exact absurd c_18 (nI_ge (by omega) (by omega))
    · refine nf_lln (pc := 21) dX5_mixArticles_21 rfl ?_
      refine nf_aln (pc := 22) dX5_mixArticles_22 rfl ?_
      refine gf_X0_group (by decide) (pc := 23) lk_X5_100 dX5_mixArticles_23 ?_
      refine nf_il (pc := 26) dX5_mixArticles_26 rfl ?_
      refine nf_ialdI (pc := 28) (k := k) (nf_okA (by decide) (by decide)) (show _ < 30 by omega) dX5_mixArticles_28 ?_
      refine nf_cSl2 (pc := 29) sp_X5_mix mk_X5_154 st_X5_mix nm_X5_mix ⟨by decide, by decide⟩ (Nat.le_of_ble_eq_true rfl) dX5_mixArticles_29 ?_
      refine nf_ls3 (pc := 32) dX5_mixArticles_32 rfl (by decide) ?_
      refine nf_lln (pc := 33) dX5_mixArticles_33 rfl ?_
      refine nf_aln (pc := 34) dX5_mixArticles_34 rfl ?_
      refine gf_X0_author (by decide) (pc := 35) lk_X5_184 dX5_mixArticles_35 ?_
      refine nf_il (pc := 38) dX5_mixArticles_38 rfl ?_
      refine nf_ialdI (pc := 40) (k := k) (nf_okA (by decide) (by decide)) (show _ < 30 by omega) dX5_mixArticles_40 ?_
      refine nf_cSl2 (pc := 41) sp_X5_mix mk_X5_154 st_X5_mix nm_X5_mix ⟨by decide, by decide⟩ (Nat.le_of_ble_eq_true rfl) dX5_mixArticles_41 ?_
      refine nf_ls3 (pc := 44) dX5_mixArticles_44 rfl (by decide) ?_
      refine nf_lln (pc := 45) dX5_mixArticles_45 rfl ?_
      refine nf_aln (pc := 46) dX5_mixArticles_46 rfl ?_
      refine gf_X0_postedOn (by decide) (pc := 47) lk_X5_187 dX5_mixArticles_47 ?_
      refine nf_il (pc := 50) dX5_mixArticles_50 rfl ?_
      refine nf_ialdI (pc := 52) (k := k) (nf_okA (by decide) (by decide)) (show _ < 30 by omega) dX5_mixArticles_52 ?_
      refine nf_cSl2 (pc := 53) sp_X5_mix mk_X5_154 st_X5_mix nm_X5_mix ⟨by decide, by decide⟩ (Nat.le_of_ble_eq_true rfl) dX5_mixArticles_53 ?_
      refine nf_ls3 (pc := 56) dX5_mixArticles_56 rfl (by decide) ?_
      refine nf_lln (pc := 57) dX5_mixArticles_57 rfl ?_
      refine nf_aln (pc := 58) dX5_mixArticles_58 rfl ?_
      refine gf_X0_action (by decide) (pc := 59) lk_X5_190 dX5_mixArticles_59 ?_
      refine nf_il (pc := 62) dX5_mixArticles_62 rfl ?_
      refine nf_ialdI (pc := 64) (k := k) (nf_okA (by decide) (by decide)) (show _ < 30 by omega) dX5_mixArticles_64 ?_
      refine nf_cSl2 (pc := 65) sp_X5_mix mk_X5_154 st_X5_mix nm_X5_mix ⟨by decide, by decide⟩ (Nat.le_of_ble_eq_true rfl) dX5_mixArticles_65 ?_
      refine nf_ls3 (pc := 68) dX5_mixArticles_68 rfl (by decide) ?_
      refine nf_lln (pc := 69) dX5_mixArticles_69 rfl ?_
      refine nf_aln (pc := 70) dX5_mixArticles_70 rfl ?_
      refine gf_X0_target (by decide) (pc := 71) lk_X5_193 dX5_mixArticles_71 ?_
      refine nf_il (pc := 74) dX5_mixArticles_74 rfl ?_
      refine nf_ialdI (pc := 76) (k := k) (nf_okA (by decide) (by decide)) (show _ < 30 by omega) dX5_mixArticles_76 ?_
      refine nf_cSl2 (pc := 77) sp_X5_mix mk_X5_154 st_X5_mix nm_X5_mix ⟨by decide, by decide⟩ (Nat.le_of_ble_eq_true rfl) dX5_mixArticles_77 ?_
      refine nf_ls3 (pc := 80) dX5_mixArticles_80 rfl (by decide) ?_
      refine nf_iinc5 (pc := 81) (v := nI (k + 1)) dX5_mixArticles_81 (nI_succ (k)).symm rfl (by decide) ?_
      refine nf_goto (pc := 84) 12 dX5_mixArticles_84 (by decide) ?_
      exact ih (k + 1) _ (by omega)
set_option maxRecDepth 100000 in
set_option maxHeartbeats 4000000 in
theorem sp_X5_mixArticles {L : nf_L} {S : nf_S} {nl na : Nat} {h : Int64} (hk : cs_ok S nl na) : nf_Sp L 1 yX5_mixArticles cX5_mixArticles 6 (some .long) [.long h, .ref (L.2.2 (3, 0, 0, 0))] S (some (.long (cf_mixa S 0 na (cf_mix h (nf_I S 0 3 0))))) S := by
  refine nf_start (own := RX5) (ls0 := [some (.long h), none, some (.ref (L.2.2 (3, 0, 0, 0))), none, none, none]) (by decide) (Nat.le_of_ble_eq_true rfl) rfl rfl ?_
  refine nf_lln (pc := 0) dX5_mixArticles_0 rfl ?_
  refine nf_aln (pc := 1) dX5_mixArticles_1 rfl ?_
  refine gf_X0_count (by decide) (pc := 2) lk_X5_128 dX5_mixArticles_2 ?_
  refine nf_cSl2 (pc := 5) sp_X5_mix mk_X5_154 st_X5_mix nm_X5_mix ⟨by decide, by decide⟩ (Nat.le_of_ble_eq_true rfl) dX5_mixArticles_5 ?_
  refine nf_ls3 (pc := 8) dX5_mixArticles_8 rfl (by decide) ?_
  refine nf_iconst (pc := 9) (v := 0) dX5_mixArticles_9 (by decide) ?_
  refine nf_is5 (pc := 10) dX5_mixArticles_10 rfl (by decide) ?_
  exact lp_mixArticles hk na 0 _ (by omega)
set_option maxRecDepth 100000 in
set_option maxHeartbeats 4000000 in
theorem lp_mixHost {L : nf_L} {S : nf_S} {x na : Nat} {h0 : Int64} (hx : x < 6) (hna : na ≤ 30) : ∀ (m : Nat) (k : Nat) (h : Int64), (k + m = na) → nf_V L 2 cX5_mixHost RX5 7 (some .long) (some (.long (cf_mixs S x k m h))) S 24 [some (.long h0), none, some (.ref (L.2.2 (4, 0, 0, x))), some (.int (nI na)), some (.long h), none, some (.int (nI k))] [] S := by
  intro m
  induction m with
  | zero =>
    intro k h hkm
    refine nf_il (pc := 24) dX5_mixHost_24 rfl ?_
    refine nf_iln (pc := 26) dX5_mixHost_26 rfl ?_
    refine nf_ic_ge (pc := 27) 71 dX5_mixHost_27 (by decide) (fun c_27 => ?_) (fun c_27 => ?_)
    · refine nf_ll (pc := 71) dX5_mixHost_71 rfl ?_
      exact (nf_lret (pc := 73) dX5_mixHost_73)
    · exact absurd (nI_le (by omega) (by omega)) c_27
  | succ m ih =>
    intro k h hkm
    refine nf_il (pc := 24) dX5_mixHost_24 rfl ?_
    refine nf_iln (pc := 26) dX5_mixHost_26 rfl ?_
    refine nf_ic_ge (pc := 27) 71 dX5_mixHost_27 (by decide) (fun c_27 => ?_) (fun c_27 => ?_)
    · exact absurd c_27 (nI_ge (by omega) (by omega))
    · refine nf_ll (pc := 30) dX5_mixHost_30 rfl ?_
      refine nf_aln (pc := 32) dX5_mixHost_32 rfl ?_
      refine nf_il (pc := 33) dX5_mixHost_33 rfl ?_
      refine nf_cVi1 (pc := 35) (sp_X1_stores (by decide) hx) (nf_ok4 (by decide) hx) rfl rfl mk_X5_119 im_X1_stores se_X1_stores nm_X1_stores ⟨by decide, by decide⟩ (Nat.le_of_ble_eq_true rfl) dX5_mixHost_35 ?_
      refine nf_if_eqB (pc := 38) 45 dX5_mixHost_38 (by decide) (fun c_38 => ?_) (fun c_38 => ?_)
      · refine nf_iconst (pc := 45) (v := 0) dX5_mixHost_45 (by decide) ?_
        refine nf_cSl2 (pc := 46) sp_X5_mix mk_X5_154 st_X5_mix nm_X5_mix ⟨by decide, by decide⟩ (Nat.le_of_ble_eq_true rfl) dX5_mixHost_46 ?_
        refine nf_ls4 (pc := 49) dX5_mixHost_49 rfl (by decide) ?_
        refine nf_ll (pc := 51) dX5_mixHost_51 rfl ?_
        refine nf_aln (pc := 53) dX5_mixHost_53 rfl ?_
        refine gf_X1_historyDay (by decide) hx (pc := 54) lk_X5_122 dX5_mixHost_54 ?_
        refine nf_il (pc := 57) dX5_mixHost_57 rfl ?_
        refine nf_ialdI (pc := 59) (k := k) (nf_ok12 (by decide) hx) (show _ < 30 by omega) dX5_mixHost_59 ?_
        refine nf_cSl2 (pc := 60) sp_X5_mix mk_X5_154 st_X5_mix nm_X5_mix ⟨by decide, by decide⟩ (Nat.le_of_ble_eq_true rfl) dX5_mixHost_60 ?_
        refine nf_ls4 (pc := 63) dX5_mixHost_63 rfl (by decide) ?_
        refine nf_iinc6 (pc := 65) (v := nI (k + 1)) dX5_mixHost_65 (nI_succ (k)).symm rfl (by decide) ?_
        refine nf_goto (pc := 68) 24 dX5_mixHost_68 (by decide) ?_
        exact nf_to (by simp [cf_mixs, nf_b, c_38] <;> rfl) rfl (ih (k + 1) _ (by omega))
      · refine nf_iconst (pc := 41) (v := 1) dX5_mixHost_41 (by decide) ?_
        refine nf_goto (pc := 42) 46 dX5_mixHost_42 (by decide) ?_
        refine nf_cSl2 (pc := 46) sp_X5_mix mk_X5_154 st_X5_mix nm_X5_mix ⟨by decide, by decide⟩ (Nat.le_of_ble_eq_true rfl) dX5_mixHost_46 ?_
        refine nf_ls4 (pc := 49) dX5_mixHost_49 rfl (by decide) ?_
        refine nf_ll (pc := 51) dX5_mixHost_51 rfl ?_
        refine nf_aln (pc := 53) dX5_mixHost_53 rfl ?_
        refine gf_X1_historyDay (by decide) hx (pc := 54) lk_X5_122 dX5_mixHost_54 ?_
        refine nf_il (pc := 57) dX5_mixHost_57 rfl ?_
        refine nf_ialdI (pc := 59) (k := k) (nf_ok12 (by decide) hx) (show _ < 30 by omega) dX5_mixHost_59 ?_
        refine nf_cSl2 (pc := 60) sp_X5_mix mk_X5_154 st_X5_mix nm_X5_mix ⟨by decide, by decide⟩ (Nat.le_of_ble_eq_true rfl) dX5_mixHost_60 ?_
        refine nf_ls4 (pc := 63) dX5_mixHost_63 rfl (by decide) ?_
        refine nf_iinc6 (pc := 65) (v := nI (k + 1)) dX5_mixHost_65 (nI_succ (k)).symm rfl (by decide) ?_
        refine nf_goto (pc := 68) 24 dX5_mixHost_68 (by decide) ?_
        exact nf_to (by simp [cf_mixs, nf_b, c_38] <;> rfl) rfl (ih (k + 1) _ (by omega))
set_option maxRecDepth 100000 in
set_option maxHeartbeats 4000000 in
theorem sp_X5_mixHost {L : nf_L} {S : nf_S} {x na : Nat} {h : Int64} (hx : x < 6) (hna : na ≤ 30) : nf_Sp L 2 yX5_mixHost cX5_mixHost 7 (some .long) [.long h, .ref (L.2.2 (4, 0, 0, x)), .int (nI na)] S (some (.long (cf_mixh S x na h))) S := by
  refine nf_start (own := RX5) (ls0 := [some (.long h), none, some (.ref (L.2.2 (4, 0, 0, x))), some (.int (nI na)), none, none, none]) (by decide) (Nat.le_of_ble_eq_true rfl) rfl rfl ?_
  refine nf_lln (pc := 0) dX5_mixHost_0 rfl ?_
  refine nf_aln (pc := 1) dX5_mixHost_1 rfl ?_
  refine gf_X1_groups (by decide) hx (pc := 2) lk_X5_74 dX5_mixHost_2 ?_
  refine nf_cSl2 (pc := 5) sp_X5_mix mk_X5_154 st_X5_mix nm_X5_mix ⟨by decide, by decide⟩ (Nat.le_of_ble_eq_true rfl) dX5_mixHost_5 ?_
  refine nf_ls4 (pc := 8) dX5_mixHost_8 rfl (by decide) ?_
  refine nf_ll (pc := 10) dX5_mixHost_10 rfl ?_
  refine nf_aln (pc := 12) dX5_mixHost_12 rfl ?_
  refine nf_cVi0 (pc := 13) (sp_X1_countCancels (by decide) hx) (nf_ok4 (by decide) hx) rfl rfl mk_X5_125 im_X1_countCancels se_X1_countCancels nm_X1_countCancels ⟨by decide, by decide⟩ (Nat.le_of_ble_eq_true rfl) dX5_mixHost_13 ?_
  refine nf_cSl2 (pc := 16) sp_X5_mix mk_X5_154 st_X5_mix nm_X5_mix ⟨by decide, by decide⟩ (Nat.le_of_ble_eq_true rfl) dX5_mixHost_16 ?_
  refine nf_ls4 (pc := 19) dX5_mixHost_19 rfl (by decide) ?_
  refine nf_iconst (pc := 21) (v := 0) dX5_mixHost_21 (by decide) ?_
  refine nf_is6 (pc := 22) dX5_mixHost_22 rfl (by decide) ?_
  exact lp_mixHost hx hna na 0 _ (by omega)
set_option maxRecDepth 100000 in
set_option maxHeartbeats 4000000 in
theorem lp_digest {L : nf_L} {r : Option Value} {S2 : nf_S} {S : nf_S} {nl na : Nat}  (hk : cs_ok S nl na) : ∀ (m : Nat) (k : Nat) (h : Int64), (k + m = 6) → (nf_V L 3 cX5_digest RX5 4 (some .long) r S2 109 [some (.ref (L.2.2 (0, 0, 0, 0))), some (.long (cf_mixo S na k m h)), none, some (.int (nI 6))] [] S) → nf_V L 3 cX5_digest RX5 4 (some .long) r S2 73 [some (.ref (L.2.2 (0, 0, 0, 0))), some (.long h), none, some (.int (nI k))] [] S := by
  intro m
  induction m with
  | zero =>
    intro k h hkm hK
    refine nf_iln (pc := 73) dX5_digest_73 rfl ?_
    refine nf_bipush (pc := 74) (v := 6) dX5_digest_74 (by decide) ?_
    refine nf_ic_ge (pc := 76) 109 dX5_digest_76 (by decide) (fun c_76 => ?_) (fun c_76 => ?_)
    · rw [show k = 6 by omega]
      exact hK
    · exact absurd (nI_le (a := 6) (by omega) (by omega)) c_76
  | succ m ih =>
    intro k h hkm hK
    refine nf_iln (pc := 73) dX5_digest_73 rfl ?_
    refine nf_bipush (pc := 74) (v := 6) dX5_digest_74 (by decide) ?_
    refine nf_ic_ge (pc := 76) 109 dX5_digest_76 (by decide) (fun c_76 => ?_) (fun c_76 => ?_)
    · exact absurd c_76 (nI_ge (b := 6) (by omega) (by omega))
    · refine nf_lln (pc := 79) dX5_digest_79 rfl ?_
      refine nf_aln (pc := 80) dX5_digest_80 rfl ?_
      refine gf_X5_network (pc := 81) lk_X5_12 dX5_digest_81 ?_
      refine gf_X3_hosts (by decide) (pc := 84) lk_X5_70 dX5_digest_84 ?_
      refine nf_iln (pc := 87) dX5_digest_87 rfl ?_
      refine nf_haldI (pc := 88) (k := k) (by decide) (show _ < 6 by omega) dX5_digest_88 ?_
      refine nf_aln (pc := 89) dX5_digest_89 rfl ?_
      refine gf_X5_network (pc := 90) lk_X5_12 dX5_digest_90 ?_
      refine gf_X3_articles (by decide) (pc := 93) lk_X5_96 dX5_digest_93 ?_
      refine gf_X0_count (by decide) (pc := 96) lk_X5_128 dX5_digest_96 ?_
      refine nf_topI (y := nI (na)) hk.2.2.2.1 ?_
      refine nf_cSl3 (pc := 99) (sp_X5_mixHost (show _ < 6 by omega) hk.2.1) mk_X5_166 st_X5_mixHost nm_X5_mixHost ⟨by decide, by decide⟩ (Nat.le_of_ble_eq_true rfl) dX5_digest_99 ?_
      refine nf_ls1 (pc := 102) dX5_digest_102 rfl (by decide) ?_
      refine nf_iinc3 (pc := 103) (v := nI (k + 1)) dX5_digest_103 (nI_succ (k)).symm rfl (by decide) ?_
      refine nf_goto (pc := 106) 73 dX5_digest_106 (by decide) ?_
      exact ih (k + 1) _ (by omega) hK
set_option maxRecDepth 100000 in
set_option maxHeartbeats 4000000 in
theorem sp_X5_digest {L : nf_L} {S : nf_S} {nl na : Nat}  (hk : cs_ok S nl na) : nf_Sp L 3 yX5_digest cX5_digest 4 (some .long) [.ref (L.2.2 (0, 0, 0, 0))] S (some (.long (cf_dig S nl na))) S := by
  refine nf_start (own := RX5) (ls0 := [some (.ref (L.2.2 (0, 0, 0, 0))), none, none, none]) (by decide) (Nat.le_of_ble_eq_true rfl) rfl rfl ?_
  refine nf_ldc2 (pc := 0) dX5_digest_0 kc_X5_148 ?_
  refine nf_aln (pc := 3) dX5_digest_3 rfl ?_
  refine gf_X5_errors (pc := 4) lk_X5_31 dX5_digest_4 ?_
  refine nf_cSl2 (pc := 7) sp_mixAllE mk_X5_150 st_X5_mixAll nm_X5_mixAll ⟨by decide, by decide⟩ (Nat.le_of_ble_eq_true rfl) dX5_digest_7 ?_
  refine nf_ls1 (pc := 10) dX5_digest_10 rfl (by decide) ?_
  refine nf_lln (pc := 11) dX5_digest_11 rfl ?_
  refine nf_aln (pc := 12) dX5_digest_12 rfl ?_
  refine gf_X5_network (pc := 13) lk_X5_12 dX5_digest_13 ?_
  refine gf_X3_today (by decide) (pc := 16) lk_X5_138 dX5_digest_16 ?_
  refine nf_cSl2 (pc := 19) sp_X5_mix mk_X5_154 st_X5_mix nm_X5_mix ⟨by decide, by decide⟩ (Nat.le_of_ble_eq_true rfl) dX5_digest_19 ?_
  refine nf_ls1 (pc := 22) dX5_digest_22 rfl (by decide) ?_
  refine nf_lln (pc := 23) dX5_digest_23 rfl ?_
  refine nf_aln (pc := 24) dX5_digest_24 rfl ?_
  refine gf_X5_network (pc := 25) lk_X5_12 dX5_digest_25 ?_
  refine gf_X3_historyLimit (by decide) (pc := 28) lk_X5_86 dX5_digest_28 ?_
  refine nf_cSl2 (pc := 31) sp_X5_mix mk_X5_154 st_X5_mix nm_X5_mix ⟨by decide, by decide⟩ (Nat.le_of_ble_eq_true rfl) dX5_digest_31 ?_
  refine nf_ls1 (pc := 34) dX5_digest_34 rfl (by decide) ?_
  refine nf_lln (pc := 35) dX5_digest_35 rfl ?_
  refine nf_aln (pc := 36) dX5_digest_36 rfl ?_
  refine gf_X5_network (pc := 37) lk_X5_12 dX5_digest_37 ?_
  refine gf_X3_expiry (by decide) (pc := 40) lk_X5_83 dX5_digest_40 ?_
  refine nf_cSl2 (pc := 43) sp_mixAllX mk_X5_150 st_X5_mixAll nm_X5_mixAll ⟨by decide, by decide⟩ (Nat.le_of_ble_eq_true rfl) dX5_digest_43 ?_
  refine nf_ls1 (pc := 46) dX5_digest_46 rfl (by decide) ?_
  refine nf_lln (pc := 47) dX5_digest_47 rfl ?_
  refine nf_aln (pc := 48) dX5_digest_48 rfl ?_
  refine gf_X5_network (pc := 49) lk_X5_12 dX5_digest_49 ?_
  refine gf_X3_links (by decide) (pc := 52) lk_X5_43 dX5_digest_52 ?_
  refine nf_cSl2 (pc := 55) (sp_X5_mixLinks hk) mk_X5_158 st_X5_mixLinks nm_X5_mixLinks ⟨by decide, by decide⟩ (Nat.le_of_ble_eq_true rfl) dX5_digest_55 ?_
  refine nf_ls1 (pc := 58) dX5_digest_58 rfl (by decide) ?_
  refine nf_lln (pc := 59) dX5_digest_59 rfl ?_
  refine nf_aln (pc := 60) dX5_digest_60 rfl ?_
  refine gf_X5_network (pc := 61) lk_X5_12 dX5_digest_61 ?_
  refine gf_X3_articles (by decide) (pc := 64) lk_X5_96 dX5_digest_64 ?_
  refine nf_cSl2 (pc := 67) (sp_X5_mixArticles hk) mk_X5_162 st_X5_mixArticles nm_X5_mixArticles ⟨by decide, by decide⟩ (Nat.le_of_ble_eq_true rfl) dX5_digest_67 ?_
  refine nf_ls1 (pc := 70) dX5_digest_70 rfl (by decide) ?_
  refine nf_iconst (pc := 71) (v := 0) dX5_digest_71 (by decide) ?_
  refine nf_is3 (pc := 72) dX5_digest_72 rfl (by decide) ?_
  refine lp_digest hk 6 0 _ (by omega) ?_
  refine nf_lln (pc := 109) dX5_digest_109 rfl ?_
  refine nf_aln (pc := 110) dX5_digest_110 rfl ?_
  refine gf_X5_network (pc := 111) lk_X5_12 dX5_digest_111 ?_
  refine gf_X3_counts (by decide) (pc := 114) lk_X5_135 dX5_digest_114 ?_
  refine nf_cSl2 (pc := 117) sp_mixAllC mk_X5_150 st_X5_mixAll nm_X5_mixAll ⟨by decide, by decide⟩ (Nat.le_of_ble_eq_true rfl) dX5_digest_117 ?_
  refine nf_ls1 (pc := 120) dX5_digest_120 rfl (by decide) ?_
  refine nf_lln (pc := 121) dX5_digest_121 rfl ?_
  refine nf_aln (pc := 122) dX5_digest_122 rfl ?_
  refine gf_X5_network (pc := 123) lk_X5_12 dX5_digest_123 ?_
  refine gf_X3_queue (by decide) (pc := 126) lk_X5_109 dX5_digest_126 ?_
  refine nf_cVi0 (pc := 129) (sp_X4_size (by decide)) ⟨(by decide), rfl⟩ rfl rfl mk_X5_112 im_X4_size se_X4_size nm_X4_size ⟨by decide, by decide⟩ (Nat.le_of_ble_eq_true rfl) dX5_digest_129 ?_
  refine nf_cSl2 (pc := 132) sp_X5_mix mk_X5_154 st_X5_mix nm_X5_mix ⟨by decide, by decide⟩ (Nat.le_of_ble_eq_true rfl) dX5_digest_132 ?_
  refine nf_ls1 (pc := 135) dX5_digest_135 rfl (by decide) ?_
  refine nf_lln (pc := 136) dX5_digest_136 rfl ?_
  refine nf_aln (pc := 137) dX5_digest_137 rfl ?_
  refine gf_X5_savedCount (pc := 138) lk_X5_27 dX5_digest_138 ?_
  refine nf_cSl2 (pc := 141) sp_X5_mix mk_X5_154 st_X5_mix nm_X5_mix ⟨by decide, by decide⟩ (Nat.le_of_ble_eq_true rfl) dX5_digest_141 ?_
  exact nf_lret (pc := 144) dX5_digest_144
