/-! the reference: rounds and days -/
def ms_ins (v : Int32) : Nat → (Nat → Int32) → (Nat → Int32)
  | 0, wk => upd wk 0 v
  | a + 1, wk => if wk a >>> (6 &&& 31) ≤ v >>> (6 &&& 31) then upd wk (a + 1) v else ms_ins v a (upd wk (a + 1) (wk a))
def ms_srt (r : Nat → Int32) : Nat → (Nat → Int32) → Nat → (Nat → Int32)
  | 0, wk, _ => wk
  | m + 1, wk, k => ms_srt r m (ms_ins (r (573 + k)) k wk) (k + 1)
def mr_go (r : Nat → Int32) (t a : Nat) (p : Int32) : (Nat → Int32) × Int32 := mr_arr (mr_inc r 566) t a p
def mr_stp (r : Nat → Int32) (v : Int32) : (Nat → Int32) × Int32 :=
  if mf_lnk r ((v >>> (9 &&& 31)) &&& 7) ((v >>> (6 &&& 31)) &&& 7) = -1 then (upd r 567 (r 567 + 0), 0)
  else if mf_lk r 2 (cf_num (mf_lnk r ((v >>> (9 &&& 31)) &&& 7) ((v >>> (6 &&& 31)) &&& 7))) = 1 then
    (if mf_kn (upd r 567 (r 567 + 1)) (cf_num ((v >>> (6 &&& 31)) &&& 7)) (cf_num (v >>> (12 &&& 31))) = -1 then mr_go (upd r 567 (r 567 + 1)) (cf_num ((v >>> (6 &&& 31)) &&& 7)) (cf_num (v >>> (12 &&& 31))) (v &&& 63) else (upd r 567 (r 567 + 1), 0))
  else mr_go (upd r 567 (r 567 + 0)) (cf_num ((v >>> (6 &&& 31)) &&& 7)) (cf_num (v >>> (12 &&& 31))) (v &&& 63)
def mr_rnd (wk : Nat → Int32) : Nat → (Nat → Int32) → Nat → Int32 → (Nat → Int32) × Int32
  | 0, r, _, acc => (r, acc)
  | m + 1, r, k, acc => mr_rnd wk m (mr_stp r (wk k)).1 (k + 1) (acc + (mr_stp r (wk k)).2)
/-- the transfer v can be performed at r -/
def mr_can (r : Nat → Int32) (v : Int32) : Prop := ∃ nl na q a t, mr_ok r nl na q ∧ a < na ∧ t < 6 ∧ v >>> (12 &&& 31) = nI a ∧ (v >>> (6 &&& 31)) &&& 7 = nI t
def mr_sf (wk : Nat → Int32) : Nat → (Nat → Int32) → Nat → Prop
  | 0, _, _ => True
  | m + 1, r, k => mr_can r (wk k) ∧ mr_sf wk m (mr_stp r (wk k)).1 (k + 1)
def mr_gr (r wk : Nat → Int32) (q : Nat) : (Nat → Int32) × Int32 := mr_rnd (ms_srt r q wk 0) q (upd r 572 0) 0 0
def mr_grs (r wk : Nat → Int32) (q : Nat) : Prop := q ≤ 1024 ∧ r 572 = nI q ∧ mr_sf (ms_srt r q wk 0) q (upd r 572 0) 0
def mr_stl : Nat → (Nat → Int32) → (Nat → Int32) → Nat → (Nat → Int32) × (Nat → Int32) × Nat
  | 0, r, wk, k => (r, wk, k)
  | m + 1, r, wk, k => if r 572 ≤ 0 then (r, wk, k) else mr_stl m (mr_gr r wk (cf_num (r 572))).1 (ms_srt r (cf_num (r 572)) wk 0) (k + 1)
def mr_sfs : Nat → (Nat → Int32) → (Nat → Int32) → Prop
  | 0, r, _ => r 572 ≤ 0
  | m + 1, r, wk => r 572 ≤ 0 ∨ (mr_grs r wk (cf_num (r 572)) ∧ mr_sfs m (mr_gr r wk (cf_num (r 572))).1 (ms_srt r (cf_num (r 572)) wk 0))
def mr_exp (r : Nat → Int32) (h a : Nat) (acc : Int32) : (Nat → Int32) × Int32 :=
  if mf_tst (r (380 + h)) (nI a) = true then (if r 0 - mf_of r a 2 < r (2 + cf_num (mf_of r a 0)) then (r, acc) else (upd r (380 + h) (r (380 + h) &&& (cf_bit (nI a) ^^^ -1)), acc + 1)) else (r, acc)
def mr_fgt (r : Nat → Int32) (k : Nat) : Nat → Int32 := if r (200 + k) = -1 then r else if r 0 - r (200 + k) < r 1 then r else upd r (200 + k) (-1)
def mr_day : Nat → (Nat → Int32) → Nat → Int32 → (Nat → Int32) × Int32
  | 0, r, _, acc => (r, acc)
  | m + 1, r, k, acc => mr_day m (mr_fgt (mr_exp r (k / 30) (k % 30) acc).1 k) (k + 1) (mr_exp r (k / 30) (k % 30) acc).2
theorem mr_mid_exp (r : Nat → Int32) (h a : Nat) (acc : Int32) (hh : h < 6) : mr_mid r (mr_exp r h a acc).1 := by
  unfold mr_exp
  split
  · split
    · exact mr_mid.rf r
    · exact mr_mid_upd r _ _ (by omega) (by omega)
  · exact mr_mid.rf r
theorem mr_mid_fgt (r : Nat → Int32) (k : Nat) (hk : k < 180) : mr_mid r (mr_fgt r k) := by
  unfold mr_fgt
  split
  · exact mr_mid.rf r
  · split
    · exact mr_mid.rf r
    · exact mr_mid_upd r _ _ (by omega) (by omega)
theorem nf_div30 : ∀ k, k < 180 → nI k / 30 = nI (k / 30) := by decide +kernel
theorem nf_rem30 : ∀ k, k < 180 → nI k - nI k / 30 * 30 = nI (k % 30) := by decide +kernel
theorem mf_lnk_some {r : Nat → Int32} {nl : Nat} {x y : Int32} (hr : r 6 = nI nl) (hnl : nl ≤ 12) (h : ¬ mf_lnk r x y = -1) : ∃ j, j < 12 ∧ mf_lnk r x y = nI j := by
  obtain ⟨j, _, h2, h3⟩ := cf_btw_some _ _ h
  rw [hr, cf_num_I (by omega)] at h2
  exact ⟨j, by omega, h3⟩
theorem mr_mid_567 (r : Nat → Int32) (x : Int32) : mr_mid r (upd r 567 x) := mr_mid_upd r _ _ (by omega) (by omega)
set_option maxRecDepth 100000 in
set_option maxHeartbeats 4000000 in
theorem lp_ins {L : nf_L} {rr : Option Value} {S2 S : nf_S} {r sv er : Nat → Int32} {j n kk v : Int32}  : ∀ (m : Nat) (wk : Nat → Int32), (m < 1024) → (∀ o4 : Option Value, nf_V L 0 cX6_takes RX6 5 (some .int) rr S2 84 [some (.ref (L.2.2 (8, 0, 0, 0))), some (.int n), some (.int kk), some (.int v), o4] [] (mm S r sv er (ms_ins v m wk) j)) → nf_V L 0 cX6_takes RX6 5 (some .int) rr S2 30 [some (.ref (L.2.2 (8, 0, 0, 0))), some (.int n), some (.int kk), some (.int v), some (.int (nI m))] [] (mm S r sv er wk j) := by
  intro m
  induction m with
  | zero =>
    intro wk hm hK
    refine nf_il (pc := 30) dX6_takes_30 rfl ?_
    refine nf_if_le (pc := 32) 76 dX6_takes_32 (by decide) (fun c_32 => ?_) (fun c_32 => ?_)
    · refine nf_aln (pc := 76) dX6_takes_76 rfl ?_
      refine gf_X6_work (pc := 77) lk_X6_19 dX6_takes_77 ?_
      refine nf_il (pc := 80) dX6_takes_80 rfl ?_
      refine nf_iln (pc := 82) dX6_takes_82 rfl ?_
      refine mo_st4 (pc := 83) (k := 0) (by omega) dX6_takes_83 ?_
      exact hK _
    · exact absurd (by decide) c_32
  | succ m ih =>
    intro wk hm hK
    refine nf_il (pc := 30) dX6_takes_30 rfl ?_
    refine nf_if_le (pc := 32) 76 dX6_takes_32 (by decide) (fun c_32 => ?_) (fun c_32 => ?_)
    · exact absurd c_32 (nI_nle (by omega) (by omega))
    · refine nf_aln (pc := 35) dX6_takes_35 rfl ?_
      refine gf_X6_work (pc := 36) lk_X6_19 dX6_takes_36 ?_
      refine nf_il (pc := 39) dX6_takes_39 rfl ?_
      refine nf_iconst (pc := 41) (v := 1) dX6_takes_41 (by decide) ?_
      refine nf_isub (pc := 42) dX6_takes_42 ?_
      refine nf_topI (y := nI (m)) (nf_succ_sub _) ?_
      refine mo_ld4 (pc := 43) (k := m) (by omega) dX6_takes_43 ?_
      refine nf_bipush (pc := 44) (v := 6) dX6_takes_44 (by decide) ?_
      refine nf_ishr (pc := 46) dX6_takes_46 ?_
      refine nf_iln (pc := 47) dX6_takes_47 rfl ?_
      refine nf_bipush (pc := 48) (v := 6) dX6_takes_48 (by decide) ?_
      refine nf_ishr (pc := 50) dX6_takes_50 ?_
      refine nf_ic_le (pc := 51) 76 dX6_takes_51 (by decide) (fun c_51 => ?_) (fun c_51 => ?_)
      · refine nf_aln (pc := 76) dX6_takes_76 rfl ?_
        refine gf_X6_work (pc := 77) lk_X6_19 dX6_takes_77 ?_
        refine nf_il (pc := 80) dX6_takes_80 rfl ?_
        refine nf_iln (pc := 82) dX6_takes_82 rfl ?_
        refine mo_st4 (pc := 83) (k := m + 1) (by omega) dX6_takes_83 ?_
        refine nf_from ?_ (hK _)
        simp only [ms_ins, c_51, if_true]
      · refine nf_aln (pc := 54) dX6_takes_54 rfl ?_
        refine gf_X6_work (pc := 55) lk_X6_19 dX6_takes_55 ?_
        refine nf_il (pc := 58) dX6_takes_58 rfl ?_
        refine nf_aln (pc := 60) dX6_takes_60 rfl ?_
        refine gf_X6_work (pc := 61) lk_X6_19 dX6_takes_61 ?_
        refine nf_il (pc := 64) dX6_takes_64 rfl ?_
        refine nf_iconst (pc := 66) (v := 1) dX6_takes_66 (by decide) ?_
        refine nf_isub (pc := 67) dX6_takes_67 ?_
        refine nf_topI (y := nI (m)) (nf_succ_sub _) ?_
        refine mo_ld4 (pc := 68) (k := m) (by omega) dX6_takes_68 ?_
        refine mo_st4 (pc := 69) (k := m + 1) (by omega) dX6_takes_69 ?_
        refine nf_iinc4 (pc := 70) (v := nI (m)) dX6_takes_70 (nf_dec _) rfl (by decide) ?_
        refine nf_goto (pc := 73) 30 dX6_takes_73 (by decide) ?_
        exact ih _ (by omega) (fun o4 => by simpa only [ms_ins, c_51, if_false] using hK o4)
set_option maxRecDepth 100000 in
set_option maxHeartbeats 4000000 in
theorem lp_srt {L : nf_L} {S : nf_S} {r sv er : Nat → Int32} {j : Int32} {q : Nat} (hq : q ≤ 1024) : ∀ (m : Nat) (wk : Nat → Int32) (k : Nat) (o3 o4 : Option Value), (k + m = q) → nf_V L 0 cX6_takes RX6 5 (some .int) (some (.int (nI q))) (mm S (upd r 572 0) sv er (ms_srt r m wk k) j) 11 [some (.ref (L.2.2 (8, 0, 0, 0))), some (.int (nI q)), some (.int (nI k)), o3, o4] [] (mm S r sv er wk j) := by
  intro m
  induction m with
  | zero =>
    intro wk k o3 o4 hkm
    refine nf_iln (pc := 11) dX6_takes_11 rfl ?_
    refine nf_iln (pc := 12) dX6_takes_12 rfl ?_
    refine nf_ic_ge (pc := 13) 90 dX6_takes_13 (by decide) (fun c_13 => ?_) (fun c_13 => ?_)
    · refine nf_aln (pc := 90) dX6_takes_90 rfl ?_
      refine gf_X6_all (pc := 91) lk_X6_7 dX6_takes_91 ?_
      refine nf_sipush (pc := 94) (v := 572) dX6_takes_94 (by decide) ?_
      refine nf_iconst (pc := 97) (v := 0) dX6_takes_97 (by decide) ?_
      refine mo_st1 (pc := 98) (k := 572) (by decide) dX6_takes_98 ?_
      refine nf_iln (pc := 99) dX6_takes_99 rfl ?_
      exact (nf_iret (pc := 100) dX6_takes_100)
    · exact absurd (nI_le (by omega) (by omega)) c_13
  | succ m ih =>
    intro wk k o3 o4 hkm
    refine nf_iln (pc := 11) dX6_takes_11 rfl ?_
    refine nf_iln (pc := 12) dX6_takes_12 rfl ?_
    refine nf_ic_ge (pc := 13) 90 dX6_takes_13 (by decide) (fun c_13 => ?_) (fun c_13 => ?_)
    · exact absurd c_13 (nI_ge (by omega) (by omega))
    · refine nf_aln (pc := 16) dX6_takes_16 rfl ?_
      refine gf_X6_all (pc := 17) lk_X6_7 dX6_takes_17 ?_
      refine nf_sipush (pc := 20) (v := 573) dX6_takes_20 (by decide) ?_
      refine nf_iln (pc := 23) dX6_takes_23 rfl ?_
      refine nf_iaddI (pc := 24) (a := 573) (b := k) dX6_takes_24 ?_
      refine mo_ld1 (pc := 25) (k := (573 + k)) (by omega) dX6_takes_25 ?_
      refine nf_is3 (pc := 26) dX6_takes_26 rfl (by decide) ?_
      refine nf_iln (pc := 27) dX6_takes_27 rfl ?_
      refine nf_is4 (pc := 28) dX6_takes_28 rfl (by decide) ?_
      refine lp_ins k wk (by omega) (fun o4 => ?_)
      refine nf_iinc2 (pc := 84) (v := nI (k + 1)) dX6_takes_84 (nI_succ (k)).symm rfl (by decide) ?_
      refine nf_goto (pc := 87) 11 dX6_takes_87 (by decide) ?_
      exact ih _ (k + 1) _ _ (by omega)
set_option maxRecDepth 100000 in
set_option maxHeartbeats 4000000 in
theorem sp_X6_takes {L : nf_L} {S : nf_S} {r sv er wk : Nat → Int32} {j : Int32} {q : Nat} (hr : r 572 = nI q) (hq : q ≤ 1024) : nf_Sp L 0 yX6_takes cX6_takes 5 (some .int) [.ref (L.2.2 (8, 0, 0, 0))] (mm S r sv er wk j) (some (.int (nI q))) (mm S (upd r 572 0) sv er (ms_srt r q wk 0) j) := by
  refine nf_start (own := RX6) (ls0 := [some (.ref (L.2.2 (8, 0, 0, 0))), none, none, none, none]) (by decide) (Nat.le_of_ble_eq_true rfl) rfl rfl ?_
  refine nf_aln (pc := 0) dX6_takes_0 rfl ?_
  refine gf_X6_all (pc := 1) lk_X6_7 dX6_takes_1 ?_
  refine nf_sipush (pc := 4) (v := 572) dX6_takes_4 (by decide) ?_
  refine mo_ld1 (pc := 7) (k := 572) (by decide) dX6_takes_7 ?_
  refine nf_topI (y := nI (q)) hr ?_
  refine nf_is1 (pc := 8) dX6_takes_8 rfl (by decide) ?_
  refine nf_iconst (pc := 9) (v := 0) dX6_takes_9 (by decide) ?_
  refine nf_is2 (pc := 10) dX6_takes_10 rfl (by decide) ?_
  exact lp_srt hq q wk 0 none none (by omega)
set_option maxRecDepth 100000 in
set_option maxHeartbeats 4000000 in
theorem lp_gr {L : nf_L} {S : nf_S} {sv er wk : Nat → Int32} {j : Int32} {n : Nat} (hn : n ≤ 1024) : ∀ (m : Nat) (r : Nat → Int32) (acc : Int32) (k : Nat) (o4 o5 o6 o7 : Option Value), (k + m = n) → (mr_sf wk m r k) → nf_V L 3 cX6_goesRound RX6 8 (some .int) (some (.int (mr_rnd wk m r k acc).2)) (mm S (mr_rnd wk m r k acc).1 sv er wk j) 9 [some (.ref (L.2.2 (8, 0, 0, 0))), some (.int (nI n)), some (.int acc), some (.int (nI k)), o4, o5, o6, o7] [] (mm S r sv er wk j) := by
  intro m
  induction m with
  | zero =>
    intro r acc k o4 o5 o6 o7 hkm hsf
    refine nf_iln (pc := 9) dX6_goesRound_9 rfl ?_
    refine nf_iln (pc := 10) dX6_goesRound_10 rfl ?_
    refine nf_ic_ge (pc := 11) 165 dX6_goesRound_11 (by decide) (fun c_11 => ?_) (fun c_11 => ?_)
    · refine nf_iln (pc := 165) dX6_goesRound_165 rfl ?_
      exact (nf_iret (pc := 166) dX6_goesRound_166)
    · exact absurd (nI_le (by omega) (by omega)) c_11
  | succ m ih =>
    intro r acc k o4 o5 o6 o7 hkm hsf
    refine nf_iln (pc := 9) dX6_goesRound_9 rfl ?_
    refine nf_iln (pc := 10) dX6_goesRound_10 rfl ?_
    refine nf_ic_ge (pc := 11) 165 dX6_goesRound_11 (by decide) (fun c_11 => ?_) (fun c_11 => ?_)
    · exact absurd c_11 (nI_ge (by omega) (by omega))
    · obtain ⟨nl, na, q, a, t, hk, ha, ht, ea, et⟩ := hsf.1
      have h30 := hk.2.1
      refine nf_aln (pc := 14) dX6_goesRound_14 rfl ?_
      refine gf_X6_work (pc := 15) lk_X6_19 dX6_goesRound_15 ?_
      refine nf_iln (pc := 18) dX6_goesRound_18 rfl ?_
      refine mo_ld4 (pc := 19) (k := k) (by omega) dX6_goesRound_19 ?_
      refine nf_bipush (pc := 20) (v := 12) dX6_goesRound_20 (by decide) ?_
      refine nf_ishr (pc := 22) dX6_goesRound_22 ?_
      refine nf_topI (y := nI (a)) ea ?_
      refine nf_is4 (pc := 23) dX6_goesRound_23 rfl (by decide) ?_
      refine nf_aln (pc := 25) dX6_goesRound_25 rfl ?_
      refine gf_X6_work (pc := 26) lk_X6_19 dX6_goesRound_26 ?_
      refine nf_iln (pc := 29) dX6_goesRound_29 rfl ?_
      refine mo_ld4 (pc := 30) (k := k) (by omega) dX6_goesRound_30 ?_
      refine nf_bipush (pc := 31) (v := 6) dX6_goesRound_31 (by decide) ?_
      refine nf_ishr (pc := 33) dX6_goesRound_33 ?_
      refine nf_bipush (pc := 34) (v := 7) dX6_goesRound_34 (by decide) ?_
      refine nf_iand (pc := 36) dX6_goesRound_36 ?_
      refine nf_topI (y := nI (t)) et ?_
      refine nf_is5 (pc := 37) dX6_goesRound_37 rfl (by decide) ?_
      refine nf_aln (pc := 39) dX6_goesRound_39 rfl ?_
      refine nf_aln (pc := 40) dX6_goesRound_40 rfl ?_
      refine gf_X6_work (pc := 41) lk_X6_19 dX6_goesRound_41 ?_
      refine nf_iln (pc := 44) dX6_goesRound_44 rfl ?_
      refine mo_ld4 (pc := 45) (k := k) (by omega) dX6_goesRound_45 ?_
      refine nf_bipush (pc := 46) (v := 9) dX6_goesRound_46 (by decide) ?_
      refine nf_ishr (pc := 48) dX6_goesRound_48 ?_
      refine nf_bipush (pc := 49) (v := 7) dX6_goesRound_49 (by decide) ?_
      refine nf_iand (pc := 51) dX6_goesRound_51 ?_
      refine nf_il (pc := 52) dX6_goesRound_52 rfl ?_
      refine nf_cVi2 (pc := 54) (sp_mlnk hk.2.2.2.1 hk.1) rfl rfl rfl mk_X6_46 im_X6_linkOf se_X6_linkOf nm_X6_linkOf ⟨by decide, by decide⟩ (Nat.le_of_ble_eq_true rfl) dX6_goesRound_54 ?_
      refine nf_is6 (pc := 57) dX6_goesRound_57 rfl (by decide) ?_
      refine nf_il (pc := 59) dX6_goesRound_59 rfl ?_
      refine nf_iconst (pc := 61) (v := (-1)) dX6_goesRound_61 (by decide) ?_
      refine nf_ic_eq (pc := 62) 80 dX6_goesRound_62 (by decide) (fun c_62 => ?_) (fun c_62 => ?_)
      · refine nf_iconst (pc := 80) (v := 0) dX6_goesRound_80 (by decide) ?_
        refine nf_is7 (pc := 81) dX6_goesRound_81 rfl (by decide) ?_
        refine nf_aln (pc := 83) dX6_goesRound_83 rfl ?_
        refine gf_X6_all (pc := 84) lk_X6_7 dX6_goesRound_84 ?_
        refine nf_sipush (pc := 87) (v := 567) dX6_goesRound_87 (by decide) ?_
        refine nf_dup2 (pc := 90) dX6_goesRound_90 rfl rfl ?_
        refine mo_ld1 (pc := 91) (k := 567) (by decide) dX6_goesRound_91 ?_
        refine nf_il (pc := 92) dX6_goesRound_92 rfl ?_
        refine nf_if_eq (pc := 94) 101 dX6_goesRound_94 (by decide) (fun _ => ?_) (fun h => absurd h (by decide))
        refine nf_iconst (pc := 101) (v := 0) dX6_goesRound_101 (by decide) ?_
        refine nf_iadd (pc := 102) dX6_goesRound_102 ?_
        refine mo_st1 (pc := 103) (k := 567) (by decide) dX6_goesRound_103 ?_
        refine nf_il (pc := 104) dX6_goesRound_104 rfl ?_
        refine nf_iconst (pc := 106) (v := (-1)) dX6_goesRound_106 (by decide) ?_
        refine nf_ic_eq (pc := 107) 159 dX6_goesRound_107 (by decide) (fun c_107 => ?_) (fun c_107 => ?_)
        · refine nf_iinc3 (pc := 159) (v := nI (k + 1)) dX6_goesRound_159 (nI_succ (k)).symm rfl (by decide) ?_
          refine nf_goto (pc := 162) 9 dX6_goesRound_162 (by decide) ?_
          exact nf_to (by simp only [mr_rnd, mr_stp, mr_go, ea, et, cf_num_I (show a < 2 ^ 31 by omega), cf_num_I (show t < 2 ^ 31 by omega), c_62, if_true, if_false, reduceIte, Bool.false_eq_true, Int32.add_zero] <;> rfl) (by simp only [mr_rnd, mr_stp, mr_go, ea, et, cf_num_I (show a < 2 ^ 31 by omega), cf_num_I (show t < 2 ^ 31 by omega), c_62, if_true, if_false, reduceIte, Bool.false_eq_true, Int32.add_zero] <;> rfl) (ih _ _ (k + 1) _ _ _ _ (by omega) (by simpa only [mr_stp, mr_go, ea, et, cf_num_I (show a < 2 ^ 31 by omega), cf_num_I (show t < 2 ^ 31 by omega), c_62, if_true, if_false, reduceIte, Bool.false_eq_true] using hsf.2))
        · exact absurd c_62 c_107
      · obtain ⟨jl, hjl, ej⟩ := mf_lnk_some hk.2.2.2.1 hk.1 c_62
        have ej2 : cf_num (mf_lnk r ((wk k >>> (9 &&& 31)) &&& 7) (nI t)) = jl := by rw [ej, cf_num_I (by omega)]
        refine nf_aln (pc := 65) dX6_goesRound_65 rfl ?_
        refine nf_il (pc := 66) dX6_goesRound_66 rfl ?_
        refine nf_topI (y := nI (jl)) ej ?_
        refine nf_iconst (pc := 68) (v := 2) dX6_goesRound_68 (by decide) ?_
        refine nf_cVi2 (pc := 69) (sp_X6_link hjl (by decide)) rfl rfl rfl mk_X6_34 im_X6_link se_X6_link nm_X6_link ⟨by decide, by decide⟩ (Nat.le_of_ble_eq_true rfl) dX6_goesRound_69 ?_
        refine nf_iconst (pc := 72) (v := 1) dX6_goesRound_72 (by decide) ?_
        refine nf_ic_ne (pc := 73) 80 dX6_goesRound_73 (by decide) (fun c_73 => ?_) (fun c_73 => ?_)
        · refine nf_iconst (pc := 80) (v := 0) dX6_goesRound_80 (by decide) ?_
          refine nf_is7 (pc := 81) dX6_goesRound_81 rfl (by decide) ?_
          refine nf_aln (pc := 83) dX6_goesRound_83 rfl ?_
          refine gf_X6_all (pc := 84) lk_X6_7 dX6_goesRound_84 ?_
          refine nf_sipush (pc := 87) (v := 567) dX6_goesRound_87 (by decide) ?_
          refine nf_dup2 (pc := 90) dX6_goesRound_90 rfl rfl ?_
          refine mo_ld1 (pc := 91) (k := 567) (by decide) dX6_goesRound_91 ?_
          refine nf_il (pc := 92) dX6_goesRound_92 rfl ?_
          refine nf_if_eq (pc := 94) 101 dX6_goesRound_94 (by decide) (fun _ => ?_) (fun h => absurd h (by decide))
          refine nf_iconst (pc := 101) (v := 0) dX6_goesRound_101 (by decide) ?_
          refine nf_iadd (pc := 102) dX6_goesRound_102 ?_
          refine mo_st1 (pc := 103) (k := 567) (by decide) dX6_goesRound_103 ?_
          refine nf_il (pc := 104) dX6_goesRound_104 rfl ?_
          refine nf_iconst (pc := 106) (v := (-1)) dX6_goesRound_106 (by decide) ?_
          refine nf_ic_eq (pc := 107) 159 dX6_goesRound_107 (by decide) (fun c_107 => ?_) (fun c_107 => ?_)
          · exact absurd c_107 c_62
          · refine nf_il (pc := 110) dX6_goesRound_110 rfl ?_
            refine nf_if_eq (pc := 112) 127 dX6_goesRound_112 (by decide) (fun _ => ?_) (fun h => absurd h (by decide))
            refine nf_aln (pc := 127) dX6_goesRound_127 rfl ?_
            refine gf_X6_all (pc := 128) lk_X6_7 dX6_goesRound_128 ?_
            refine nf_sipush (pc := 131) (v := 566) dX6_goesRound_131 (by decide) ?_
            refine nf_dup2 (pc := 134) dX6_goesRound_134 rfl rfl ?_
            refine mo_ld1 (pc := 135) (k := 566) (by decide) dX6_goesRound_135 ?_
            refine nf_iconst (pc := 136) (v := 1) dX6_goesRound_136 (by decide) ?_
            refine nf_iadd (pc := 137) dX6_goesRound_137 ?_
            refine mo_st1 (pc := 138) (k := 566) (by decide) dX6_goesRound_138 ?_
            refine nf_from (S' := mm S (mr_inc (upd r 567 (r 567 + 0)) 566) sv er wk j) rfl ?_
            refine nf_iln (pc := 139) dX6_goesRound_139 rfl ?_
            refine nf_aln (pc := 140) dX6_goesRound_140 rfl ?_
            refine nf_il (pc := 141) dX6_goesRound_141 rfl ?_
            refine nf_il (pc := 143) dX6_goesRound_143 rfl ?_
            refine nf_aln (pc := 145) dX6_goesRound_145 rfl ?_
            refine gf_X6_work (pc := 146) lk_X6_19 dX6_goesRound_146 ?_
            refine nf_iln (pc := 149) dX6_goesRound_149 rfl ?_
            refine mo_ld4 (pc := 150) (k := k) (by omega) dX6_goesRound_150 ?_
            refine nf_bipush (pc := 151) (v := 63) dX6_goesRound_151 (by decide) ?_
            refine nf_iand (pc := 153) dX6_goesRound_153 ?_
            refine nf_cVi3 (pc := 154) (sp_X6_arrives (hk.mid ((mr_mid_567 r _).trans (mr_mid_inc _ 566 (by omega) (by omega)))) ht ha) rfl rfl rfl mk_X6_76 im_X6_arrives se_X6_arrives nm_X6_arrives ⟨by decide, by decide⟩ (Nat.le_of_ble_eq_true rfl) dX6_goesRound_154 ?_
            refine nf_iadd (pc := 157) dX6_goesRound_157 ?_
            refine nf_is2 (pc := 158) dX6_goesRound_158 rfl (by decide) ?_
            refine nf_iinc3 (pc := 159) (v := nI (k + 1)) dX6_goesRound_159 (nI_succ (k)).symm rfl (by decide) ?_
            refine nf_goto (pc := 162) 9 dX6_goesRound_162 (by decide) ?_
            exact nf_to (by simp only [mr_rnd, mr_stp, mr_go, ea, et, cf_num_I (show a < 2 ^ 31 by omega), cf_num_I (show t < 2 ^ 31 by omega), c_62, c_73, ej2, if_true, if_false, reduceIte, Bool.false_eq_true, Int32.add_zero] <;> rfl) (by simp only [mr_rnd, mr_stp, mr_go, ea, et, cf_num_I (show a < 2 ^ 31 by omega), cf_num_I (show t < 2 ^ 31 by omega), c_62, c_73, ej2, if_true, if_false, reduceIte, Bool.false_eq_true, Int32.add_zero] <;> rfl) (ih _ _ (k + 1) _ _ _ _ (by omega) (by simpa only [mr_stp, mr_go, ea, et, cf_num_I (show a < 2 ^ 31 by omega), cf_num_I (show t < 2 ^ 31 by omega), c_62, c_73, ej2, if_true, if_false, reduceIte, Bool.false_eq_true] using hsf.2))
        · refine nf_iconst (pc := 76) (v := 1) dX6_goesRound_76 (by decide) ?_
          refine nf_goto (pc := 77) 81 dX6_goesRound_77 (by decide) ?_
          refine nf_is7 (pc := 81) dX6_goesRound_81 rfl (by decide) ?_
          refine nf_aln (pc := 83) dX6_goesRound_83 rfl ?_
          refine gf_X6_all (pc := 84) lk_X6_7 dX6_goesRound_84 ?_
          refine nf_sipush (pc := 87) (v := 567) dX6_goesRound_87 (by decide) ?_
          refine nf_dup2 (pc := 90) dX6_goesRound_90 rfl rfl ?_
          refine mo_ld1 (pc := 91) (k := 567) (by decide) dX6_goesRound_91 ?_
          refine nf_il (pc := 92) dX6_goesRound_92 rfl ?_
          refine nf_if_eq (pc := 94) 101 dX6_goesRound_94 (by decide) (fun h => absurd h (by decide)) (fun _ => ?_)
          refine nf_iconst (pc := 97) (v := 1) dX6_goesRound_97 (by decide) ?_
          refine nf_goto (pc := 98) 102 dX6_goesRound_98 (by decide) ?_
          refine nf_iadd (pc := 102) dX6_goesRound_102 ?_
          refine mo_st1 (pc := 103) (k := 567) (by decide) dX6_goesRound_103 ?_
          refine nf_il (pc := 104) dX6_goesRound_104 rfl ?_
          refine nf_iconst (pc := 106) (v := (-1)) dX6_goesRound_106 (by decide) ?_
          refine nf_ic_eq (pc := 107) 159 dX6_goesRound_107 (by decide) (fun c_107 => ?_) (fun c_107 => ?_)
          · exact absurd c_107 c_62
          · refine nf_il (pc := 110) dX6_goesRound_110 rfl ?_
            refine nf_if_eq (pc := 112) 127 dX6_goesRound_112 (by decide) (fun h => absurd h (by decide)) (fun _ => ?_)
            refine nf_aln (pc := 115) dX6_goesRound_115 rfl ?_
            refine nf_il (pc := 116) dX6_goesRound_116 rfl ?_
            refine nf_il (pc := 118) dX6_goesRound_118 rfl ?_
            refine nf_cVi2 (pc := 120) (sp_X6_known ht (by omega)) rfl rfl rfl mk_X6_69 im_X6_known se_X6_known nm_X6_known ⟨by decide, by decide⟩ (Nat.le_of_ble_eq_true rfl) dX6_goesRound_120 ?_
            refine nf_iconst (pc := 123) (v := (-1)) dX6_goesRound_123 (by decide) ?_
            refine nf_ic_ne (pc := 124) 159 dX6_goesRound_124 (by decide) (fun c_124 => ?_) (fun c_124 => ?_)
            · refine nf_iinc3 (pc := 159) (v := nI (k + 1)) dX6_goesRound_159 (nI_succ (k)).symm rfl (by decide) ?_
              refine nf_goto (pc := 162) 9 dX6_goesRound_162 (by decide) ?_
              exact nf_to (by simp only [mr_rnd, mr_stp, mr_go, ea, et, cf_num_I (show a < 2 ^ 31 by omega), cf_num_I (show t < 2 ^ 31 by omega), c_62, c_73, c_124, ej2, if_true, if_false, reduceIte, Bool.false_eq_true, Int32.add_zero] <;> rfl) (by simp only [mr_rnd, mr_stp, mr_go, ea, et, cf_num_I (show a < 2 ^ 31 by omega), cf_num_I (show t < 2 ^ 31 by omega), c_62, c_73, c_124, ej2, if_true, if_false, reduceIte, Bool.false_eq_true, Int32.add_zero] <;> rfl) (ih _ _ (k + 1) _ _ _ _ (by omega) (by simpa only [mr_stp, mr_go, ea, et, cf_num_I (show a < 2 ^ 31 by omega), cf_num_I (show t < 2 ^ 31 by omega), c_62, c_73, c_124, ej2, if_true, if_false, reduceIte, Bool.false_eq_true] using hsf.2))
            · refine nf_aln (pc := 127) dX6_goesRound_127 rfl ?_
              refine gf_X6_all (pc := 128) lk_X6_7 dX6_goesRound_128 ?_
              refine nf_sipush (pc := 131) (v := 566) dX6_goesRound_131 (by decide) ?_
              refine nf_dup2 (pc := 134) dX6_goesRound_134 rfl rfl ?_
              refine mo_ld1 (pc := 135) (k := 566) (by decide) dX6_goesRound_135 ?_
              refine nf_iconst (pc := 136) (v := 1) dX6_goesRound_136 (by decide) ?_
              refine nf_iadd (pc := 137) dX6_goesRound_137 ?_
              refine mo_st1 (pc := 138) (k := 566) (by decide) dX6_goesRound_138 ?_
              refine nf_from (S' := mm S (mr_inc (upd r 567 (r 567 + 1)) 566) sv er wk j) rfl ?_
              refine nf_iln (pc := 139) dX6_goesRound_139 rfl ?_
              refine nf_aln (pc := 140) dX6_goesRound_140 rfl ?_
              refine nf_il (pc := 141) dX6_goesRound_141 rfl ?_
              refine nf_il (pc := 143) dX6_goesRound_143 rfl ?_
              refine nf_aln (pc := 145) dX6_goesRound_145 rfl ?_
              refine gf_X6_work (pc := 146) lk_X6_19 dX6_goesRound_146 ?_
              refine nf_iln (pc := 149) dX6_goesRound_149 rfl ?_
              refine mo_ld4 (pc := 150) (k := k) (by omega) dX6_goesRound_150 ?_
              refine nf_bipush (pc := 151) (v := 63) dX6_goesRound_151 (by decide) ?_
              refine nf_iand (pc := 153) dX6_goesRound_153 ?_
              refine nf_cVi3 (pc := 154) (sp_X6_arrives (hk.mid ((mr_mid_567 r _).trans (mr_mid_inc _ 566 (by omega) (by omega)))) ht ha) rfl rfl rfl mk_X6_76 im_X6_arrives se_X6_arrives nm_X6_arrives ⟨by decide, by decide⟩ (Nat.le_of_ble_eq_true rfl) dX6_goesRound_154 ?_
              refine nf_iadd (pc := 157) dX6_goesRound_157 ?_
              refine nf_is2 (pc := 158) dX6_goesRound_158 rfl (by decide) ?_
              refine nf_iinc3 (pc := 159) (v := nI (k + 1)) dX6_goesRound_159 (nI_succ (k)).symm rfl (by decide) ?_
              refine nf_goto (pc := 162) 9 dX6_goesRound_162 (by decide) ?_
              exact nf_to (by simp only [mr_rnd, mr_stp, mr_go, ea, et, cf_num_I (show a < 2 ^ 31 by omega), cf_num_I (show t < 2 ^ 31 by omega), c_62, c_73, c_124, ej2, if_true, if_false, reduceIte, Bool.false_eq_true, Int32.add_zero] <;> rfl) (by simp only [mr_rnd, mr_stp, mr_go, ea, et, cf_num_I (show a < 2 ^ 31 by omega), cf_num_I (show t < 2 ^ 31 by omega), c_62, c_73, c_124, ej2, if_true, if_false, reduceIte, Bool.false_eq_true, Int32.add_zero] <;> rfl) (ih _ _ (k + 1) _ _ _ _ (by omega) (by simpa only [mr_stp, mr_go, ea, et, cf_num_I (show a < 2 ^ 31 by omega), cf_num_I (show t < 2 ^ 31 by omega), c_62, c_73, c_124, ej2, if_true, if_false, reduceIte, Bool.false_eq_true] using hsf.2))
set_option maxRecDepth 100000 in
set_option maxHeartbeats 4000000 in
theorem sp_X6_goesRound {L : nf_L} {S : nf_S} {r sv er wk : Nat → Int32} {j : Int32} {q : Nat} (hg : mr_grs r wk q) : nf_Sp L 3 yX6_goesRound cX6_goesRound 8 (some .int) [.ref (L.2.2 (8, 0, 0, 0))] (mm S r sv er wk j) (some (.int (mr_gr r wk q).2)) (mm S (mr_gr r wk q).1 sv er (ms_srt r q wk 0) j) := by
  refine nf_start (own := RX6) (ls0 := [some (.ref (L.2.2 (8, 0, 0, 0))), none, none, none, none, none, none, none]) (by decide) (Nat.le_of_ble_eq_true rfl) rfl rfl ?_
  refine nf_aln (pc := 0) dX6_goesRound_0 rfl ?_
  refine nf_cVi0 (pc := 1) (sp_X6_takes hg.2.1 hg.1) rfl rfl rfl mk_X6_91 im_X6_takes se_X6_takes nm_X6_takes ⟨by decide, by decide⟩ (Nat.le_of_ble_eq_true rfl) dX6_goesRound_1 ?_
  refine nf_is1 (pc := 4) dX6_goesRound_4 rfl (by decide) ?_
  refine nf_iconst (pc := 5) (v := 0) dX6_goesRound_5 (by decide) ?_
  refine nf_is2 (pc := 6) dX6_goesRound_6 rfl (by decide) ?_
  refine nf_iconst (pc := 7) (v := 0) dX6_goesRound_7 (by decide) ?_
  refine nf_is3 (pc := 8) dX6_goesRound_8 rfl (by decide) ?_
  exact lp_gr hg.1 q _ 0 0 none none none none (by omega) hg.2.2
set_option maxRecDepth 100000 in
set_option maxHeartbeats 4000000 in
theorem sp_X6_round {L : nf_L} {S : nf_S} {r sv er wk : Nat → Int32} {c q : Nat}  (hc : c ≤ 4) (hg : mr_grs r wk q) : nf_Sp L 4 yX6_round cX6_round 1 (some .int) [.ref (L.2.2 (8, 0, 0, 0))] (mm S r sv er wk (nI c)) (some (.int (mr_gr r wk q).2)) (mm S (mr_gr r wk q).1 (ms_save sv r c) er (ms_srt r q wk 0) (nI (ms_cnt c))) := by
  refine nf_start (own := RX6) (ls0 := [some (.ref (L.2.2 (8, 0, 0, 0)))]) (by decide) (Nat.le_of_ble_eq_true rfl) rfl rfl ?_
  refine nf_aln (pc := 0) dX6_round_0 rfl ?_
  refine nf_cVv0 (pc := 1) (sp_X6_save hc) rfl rfl rfl mk_X6_49 im_X6_save se_X6_save nm_X6_save ⟨by decide, by decide⟩ (Nat.le_of_ble_eq_true rfl) dX6_round_1 ?_
  refine nf_aln (pc := 4) dX6_round_4 rfl ?_
  refine nf_cVi0 (pc := 5) (sp_X6_goesRound hg) rfl rfl rfl mk_X6_95 im_X6_goesRound se_X6_goesRound nm_X6_goesRound ⟨by decide, by decide⟩ (Nat.le_of_ble_eq_true rfl) dX6_round_5 ?_
  exact nf_iret (pc := 8) dX6_round_8
set_option maxRecDepth 100000 in
set_option maxHeartbeats 4000000 in
theorem lp_mstl {L : nf_L} {S : nf_S} {sv er : Nat → Int32} {j : Int32}  : ∀ (m : Nat) (r wk : Nat → Int32) (k : Nat) (o2 : Option Value), (mr_sfs m r wk) → nf_V L 4 cX6_settle RX6 3 (some .int) (some (.int (nI (mr_stl m r wk k).2.2))) (mm S (mr_stl m r wk k).1 sv er (mr_stl m r wk k).2.1 j) 6 [some (.ref (L.2.2 (8, 0, 0, 0))), some (.int (nI k)), o2] [] (mm S r sv er wk j) := by
  intro m
  induction m with
  | zero =>
    intro r wk k o2 hsf
    refine nf_aln (pc := 6) dX6_settle_6 rfl ?_
    refine gf_X6_all (pc := 7) lk_X6_7 dX6_settle_7 ?_
    refine nf_sipush (pc := 10) (v := 572) dX6_settle_10 (by decide) ?_
    refine mo_ld1 (pc := 13) (k := 572) (by decide) dX6_settle_13 ?_
    refine nf_if_le (pc := 14) 28 dX6_settle_14 (by decide) (fun c_14 => ?_) (fun c_14 => ?_)
    · refine nf_iln (pc := 28) dX6_settle_28 rfl ?_
      exact (nf_iret (pc := 29) dX6_settle_29)
    · exact absurd hsf c_14
  | succ m ih =>
    intro r wk k o2 hsf
    refine nf_aln (pc := 6) dX6_settle_6 rfl ?_
    refine gf_X6_all (pc := 7) lk_X6_7 dX6_settle_7 ?_
    refine nf_sipush (pc := 10) (v := 572) dX6_settle_10 (by decide) ?_
    refine mo_ld1 (pc := 13) (k := 572) (by decide) dX6_settle_13 ?_
    refine nf_if_le (pc := 14) 28 dX6_settle_14 (by decide) (fun c_14 => ?_) (fun c_14 => ?_)
    · refine nf_iln (pc := 28) dX6_settle_28 rfl ?_
      exact nf_to (by simp only [mr_stl, c_14, if_true]) (by simp only [mr_stl, c_14, if_true]) (nf_iret (pc := 29) dX6_settle_29)
    · have hs2 := hsf.resolve_left c_14
      refine nf_aln (pc := 17) dX6_settle_17 rfl ?_
      refine nf_cVi0 (pc := 18) (sp_X6_goesRound hs2.1) rfl rfl rfl mk_X6_95 im_X6_goesRound se_X6_goesRound nm_X6_goesRound ⟨by decide, by decide⟩ (Nat.le_of_ble_eq_true rfl) dX6_settle_18 ?_
      refine nf_is2 (pc := 21) dX6_settle_21 rfl (by decide) ?_
      refine nf_iinc1 (pc := 22) (v := nI (k + 1)) dX6_settle_22 (nI_succ (k)).symm rfl (by decide) ?_
      refine nf_goto (pc := 25) 6 dX6_settle_25 (by decide) ?_
      exact nf_to (by simp only [mr_stl, c_14, if_false]) (by simp only [mr_stl, c_14, if_false]) (ih _ _ (k + 1) _ hs2.2)
set_option maxRecDepth 100000 in
set_option maxHeartbeats 4000000 in
theorem sp_X6_settle {L : nf_L} {S : nf_S} {r sv er wk : Nat → Int32} {c m : Nat} (hc : c ≤ 4) (hg : mr_sfs m r wk) : nf_Sp L 4 yX6_settle cX6_settle 3 (some .int) [.ref (L.2.2 (8, 0, 0, 0))] (mm S r sv er wk (nI c)) (some (.int (nI (mr_stl m r wk 0).2.2))) (mm S (mr_stl m r wk 0).1 (ms_save sv r c) er (mr_stl m r wk 0).2.1 (nI (ms_cnt c))) := by
  refine nf_start (own := RX6) (ls0 := [some (.ref (L.2.2 (8, 0, 0, 0))), none, none]) (by decide) (Nat.le_of_ble_eq_true rfl) rfl rfl ?_
  refine nf_aln (pc := 0) dX6_settle_0 rfl ?_
  refine nf_cVv0 (pc := 1) (sp_X6_save hc) rfl rfl rfl mk_X6_49 im_X6_save se_X6_save nm_X6_save ⟨by decide, by decide⟩ (Nat.le_of_ble_eq_true rfl) dX6_settle_1 ?_
  refine nf_iconst (pc := 4) (v := 0) dX6_settle_4 (by decide) ?_
  refine nf_is1 (pc := 5) dX6_settle_5 rfl (by decide) ?_
  exact lp_mstl m r wk 0 none hg
set_option maxRecDepth 100000 in
set_option maxHeartbeats 4000000 in
theorem lp_mday {L : nf_L} {S : nf_S} {sv er wk : Nat → Int32} {j : Int32} {nl na q : Nat}  : ∀ (m : Nat) (r : Nat → Int32) (k : Nat) (acc : Int32) (o3 o4 : Option Value), (k + m = 180) → (mr_ok r nl na q) → nf_V L 1 cX6_nextDay RX6 5 (some .int) (some (.int (mr_day m r k acc).2)) (mm S (mr_day m r k acc).1 sv er wk j) 18 [some (.ref (L.2.2 (8, 0, 0, 0))), some (.int acc), some (.int (nI k)), o3, o4] [] (mm S r sv er wk j) := by
  intro m
  induction m with
  | zero =>
    intro r k acc o3 o4 hkm hk
    refine nf_iln (pc := 18) dX6_nextDay_18 rfl ?_
    refine nf_sipush (pc := 19) (v := 180) dX6_nextDay_19 (by decide) ?_
    refine nf_ic_ge (pc := 22) 156 dX6_nextDay_22 (by decide) (fun c_22 => ?_) (fun c_22 => ?_)
    · refine nf_iln (pc := 156) dX6_nextDay_156 rfl ?_
      exact (nf_iret (pc := 157) dX6_nextDay_157)
    · exact absurd (nI_le (a := 180) (by omega) (by omega)) c_22
  | succ m ih =>
    intro r k acc o3 o4 hkm hk
    refine nf_iln (pc := 18) dX6_nextDay_18 rfl ?_
    refine nf_sipush (pc := 19) (v := 180) dX6_nextDay_19 (by decide) ?_
    refine nf_ic_ge (pc := 22) 156 dX6_nextDay_22 (by decide) (fun c_22 => ?_) (fun c_22 => ?_)
    · exact absurd c_22 (nI_ge (b := 180) (by omega) (by omega))
    · refine nf_iln (pc := 25) dX6_nextDay_25 rfl ?_
      refine nf_bipush (pc := 26) (v := 30) dX6_nextDay_26 (by decide) ?_
      refine nf_idiv (pc := 28) dX6_nextDay_28 (by decide) ?_
      refine nf_topI (y := nI (k / 30)) (nf_div30 k (by omega)) ?_
      refine nf_is3 (pc := 29) dX6_nextDay_29 rfl (by decide) ?_
      refine nf_iln (pc := 30) dX6_nextDay_30 rfl ?_
      refine nf_bipush (pc := 31) (v := 30) dX6_nextDay_31 (by decide) ?_
      refine nf_irem (pc := 33) dX6_nextDay_33 (by decide) ?_
      refine nf_topI (y := nI (k % 30)) (nf_rem30 k (by omega)) ?_
      refine nf_is4 (pc := 34) dX6_nextDay_34 rfl (by decide) ?_
      refine nf_aln (pc := 36) dX6_nextDay_36 rfl ?_
      refine nf_iln (pc := 37) dX6_nextDay_37 rfl ?_
      refine nf_il (pc := 38) dX6_nextDay_38 rfl ?_
      refine nf_cVi2 (pc := 40) (sp_X6_isIn (show k / 30 < 6 by omega)) rfl rfl rfl mk_X6_65 im_X6_isIn se_X6_isIn nm_X6_isIn ⟨by decide, by decide⟩ (Nat.le_of_ble_eq_true rfl) dX6_nextDay_40 ?_
      refine nf_if_eqB (pc := 43) 99 dX6_nextDay_43 (by decide) (fun c_43 => ?_) (fun c_43 => ?_)
      · refine nf_aln (pc := 99) dX6_nextDay_99 rfl ?_
        refine gf_X6_all (pc := 100) lk_X6_7 dX6_nextDay_100 ?_
        refine nf_sipush (pc := 103) (v := 200) dX6_nextDay_103 (by decide) ?_
        refine nf_iln (pc := 106) dX6_nextDay_106 rfl ?_
        refine nf_iaddI (pc := 107) (a := 200) (b := k) dX6_nextDay_107 ?_
        refine mo_ld1 (pc := 108) (k := (200 + k)) (by omega) dX6_nextDay_108 ?_
        refine nf_iconst (pc := 109) (v := (-1)) dX6_nextDay_109 (by decide) ?_
        refine nf_ic_eq (pc := 110) 150 dX6_nextDay_110 (by decide) (fun c_110 => ?_) (fun c_110 => ?_)
        · refine nf_iinc2 (pc := 150) (v := nI (k + 1)) dX6_nextDay_150 (nI_succ (k)).symm rfl (by decide) ?_
          refine nf_goto (pc := 153) 18 dX6_nextDay_153 (by decide) ?_
          exact nf_to (by simp only [mr_day, mr_exp, mr_fgt, c_43, c_110, if_true, if_false, reduceIte, Bool.false_eq_true] <;> rfl) (by simp only [mr_day, mr_exp, mr_fgt, c_43, c_110, if_true, if_false, reduceIte, Bool.false_eq_true] <;> rfl) (ih _ (k + 1) _ _ _ (by omega) (hk.mid ((mr_mid_exp r (k / 30) (k % 30) acc (by omega)).trans (mr_mid_fgt _ k (by omega))) |> (by simpa only [mr_exp, mr_fgt, c_43, c_110, if_true, if_false, reduceIte, Bool.false_eq_true] using ·)))
        · refine nf_aln (pc := 113) dX6_nextDay_113 rfl ?_
          refine gf_X6_all (pc := 114) lk_X6_7 dX6_nextDay_114 ?_
          refine nf_iconst (pc := 117) (v := 0) dX6_nextDay_117 (by decide) ?_
          refine mo_ld1 (pc := 118) (k := 0) (by decide) dX6_nextDay_118 ?_
          refine nf_aln (pc := 119) dX6_nextDay_119 rfl ?_
          refine gf_X6_all (pc := 120) lk_X6_7 dX6_nextDay_120 ?_
          refine nf_sipush (pc := 123) (v := 200) dX6_nextDay_123 (by decide) ?_
          refine nf_iln (pc := 126) dX6_nextDay_126 rfl ?_
          refine nf_iaddI (pc := 127) (a := 200) (b := k) dX6_nextDay_127 ?_
          refine mo_ld1 (pc := 128) (k := (200 + k)) (by omega) dX6_nextDay_128 ?_
          refine nf_isub (pc := 129) dX6_nextDay_129 ?_
          refine nf_aln (pc := 130) dX6_nextDay_130 rfl ?_
          refine gf_X6_all (pc := 131) lk_X6_7 dX6_nextDay_131 ?_
          refine nf_iconst (pc := 134) (v := 1) dX6_nextDay_134 (by decide) ?_
          refine mo_ld1 (pc := 135) (k := 1) (by decide) dX6_nextDay_135 ?_
          refine nf_ic_lt (pc := 136) 150 dX6_nextDay_136 (by decide) (fun c_136 => ?_) (fun c_136 => ?_)
          · refine nf_iinc2 (pc := 150) (v := nI (k + 1)) dX6_nextDay_150 (nI_succ (k)).symm rfl (by decide) ?_
            refine nf_goto (pc := 153) 18 dX6_nextDay_153 (by decide) ?_
            exact nf_to (by simp only [mr_day, mr_exp, mr_fgt, c_43, c_110, c_136, if_true, if_false, reduceIte, Bool.false_eq_true] <;> rfl) (by simp only [mr_day, mr_exp, mr_fgt, c_43, c_110, c_136, if_true, if_false, reduceIte, Bool.false_eq_true] <;> rfl) (ih _ (k + 1) _ _ _ (by omega) (hk.mid ((mr_mid_exp r (k / 30) (k % 30) acc (by omega)).trans (mr_mid_fgt _ k (by omega))) |> (by simpa only [mr_exp, mr_fgt, c_43, c_110, c_136, if_true, if_false, reduceIte, Bool.false_eq_true] using ·)))
          · refine nf_aln (pc := 139) dX6_nextDay_139 rfl ?_
            refine gf_X6_all (pc := 140) lk_X6_7 dX6_nextDay_140 ?_
            refine nf_sipush (pc := 143) (v := 200) dX6_nextDay_143 (by decide) ?_
            refine nf_iln (pc := 146) dX6_nextDay_146 rfl ?_
            refine nf_iaddI (pc := 147) (a := 200) (b := k) dX6_nextDay_147 ?_
            refine nf_iconst (pc := 148) (v := (-1)) dX6_nextDay_148 (by decide) ?_
            refine mo_st1 (pc := 149) (k := (200 + k)) (by omega) dX6_nextDay_149 ?_
            refine nf_iinc2 (pc := 150) (v := nI (k + 1)) dX6_nextDay_150 (nI_succ (k)).symm rfl (by decide) ?_
            refine nf_goto (pc := 153) 18 dX6_nextDay_153 (by decide) ?_
            exact nf_to (by simp only [mr_day, mr_exp, mr_fgt, c_43, c_110, c_136, if_true, if_false, reduceIte, Bool.false_eq_true] <;> rfl) (by simp only [mr_day, mr_exp, mr_fgt, c_43, c_110, c_136, if_true, if_false, reduceIte, Bool.false_eq_true] <;> rfl) (ih _ (k + 1) _ _ _ (by omega) (hk.mid ((mr_mid_exp r (k / 30) (k % 30) acc (by omega)).trans (mr_mid_fgt _ k (by omega))) |> (by simpa only [mr_exp, mr_fgt, c_43, c_110, c_136, if_true, if_false, reduceIte, Bool.false_eq_true] using ·)))
      · obtain ⟨g, hg, eg⟩ := hk.2.2.2.2.2.2.2 (k % 30) (by omega)
        refine nf_aln (pc := 46) dX6_nextDay_46 rfl ?_
        refine gf_X6_all (pc := 47) lk_X6_7 dX6_nextDay_47 ?_
        refine nf_iconst (pc := 50) (v := 0) dX6_nextDay_50 (by decide) ?_
        refine mo_ld1 (pc := 51) (k := 0) (by decide) dX6_nextDay_51 ?_
        refine nf_aln (pc := 52) dX6_nextDay_52 rfl ?_
        refine nf_il (pc := 53) dX6_nextDay_53 rfl ?_
        refine nf_iconst (pc := 55) (v := 2) dX6_nextDay_55 (by decide) ?_
        refine nf_cVi2 (pc := 56) (sp_X6_of (show k % 30 < 30 by omega) (by decide)) rfl rfl rfl mk_X6_62 im_X6_of se_X6_of nm_X6_of ⟨by decide, by decide⟩ (Nat.le_of_ble_eq_true rfl) dX6_nextDay_56 ?_
        refine nf_isub (pc := 59) dX6_nextDay_59 ?_
        refine nf_aln (pc := 60) dX6_nextDay_60 rfl ?_
        refine gf_X6_all (pc := 61) lk_X6_7 dX6_nextDay_61 ?_
        refine nf_iconst (pc := 64) (v := 2) dX6_nextDay_64 (by decide) ?_
        refine nf_aln (pc := 65) dX6_nextDay_65 rfl ?_
        refine nf_il (pc := 66) dX6_nextDay_66 rfl ?_
        refine nf_iconst (pc := 68) (v := 0) dX6_nextDay_68 (by decide) ?_
        refine nf_cVi2 (pc := 69) (sp_X6_of (show k % 30 < 30 by omega) (by decide)) rfl rfl rfl mk_X6_62 im_X6_of se_X6_of nm_X6_of ⟨by decide, by decide⟩ (Nat.le_of_ble_eq_true rfl) dX6_nextDay_69 ?_
        refine nf_topI (y := nI (g)) eg ?_
        refine nf_iaddI (pc := 72) (a := 2) (b := g) dX6_nextDay_72 ?_
        refine mo_ld1 (pc := 73) (k := (2 + g)) (by omega) dX6_nextDay_73 ?_
        refine nf_ic_lt (pc := 74) 99 dX6_nextDay_74 (by decide) (fun c_74 => ?_) (fun c_74 => ?_)
        · refine nf_aln (pc := 99) dX6_nextDay_99 rfl ?_
          refine gf_X6_all (pc := 100) lk_X6_7 dX6_nextDay_100 ?_
          refine nf_sipush (pc := 103) (v := 200) dX6_nextDay_103 (by decide) ?_
          refine nf_iln (pc := 106) dX6_nextDay_106 rfl ?_
          refine nf_iaddI (pc := 107) (a := 200) (b := k) dX6_nextDay_107 ?_
          refine mo_ld1 (pc := 108) (k := (200 + k)) (by omega) dX6_nextDay_108 ?_
          refine nf_iconst (pc := 109) (v := (-1)) dX6_nextDay_109 (by decide) ?_
          refine nf_ic_eq (pc := 110) 150 dX6_nextDay_110 (by decide) (fun c_110 => ?_) (fun c_110 => ?_)
          · refine nf_iinc2 (pc := 150) (v := nI (k + 1)) dX6_nextDay_150 (nI_succ (k)).symm rfl (by decide) ?_
            refine nf_goto (pc := 153) 18 dX6_nextDay_153 (by decide) ?_
            exact nf_to (by simp only [mr_day, mr_exp, mr_fgt, eg, cf_num_I (show g < 2 ^ 31 by omega), c_43, c_74, c_110, if_true, if_false, reduceIte, Bool.false_eq_true] <;> rfl) (by simp only [mr_day, mr_exp, mr_fgt, eg, cf_num_I (show g < 2 ^ 31 by omega), c_43, c_74, c_110, if_true, if_false, reduceIte, Bool.false_eq_true] <;> rfl) (ih _ (k + 1) _ _ _ (by omega) (hk.mid ((mr_mid_exp r (k / 30) (k % 30) acc (by omega)).trans (mr_mid_fgt _ k (by omega))) |> (by simpa only [mr_exp, mr_fgt, eg, cf_num_I (show g < 2 ^ 31 by omega), c_43, c_74, c_110, if_true, if_false, reduceIte, Bool.false_eq_true] using ·)))
          · refine nf_aln (pc := 113) dX6_nextDay_113 rfl ?_
            refine gf_X6_all (pc := 114) lk_X6_7 dX6_nextDay_114 ?_
            refine nf_iconst (pc := 117) (v := 0) dX6_nextDay_117 (by decide) ?_
            refine mo_ld1 (pc := 118) (k := 0) (by decide) dX6_nextDay_118 ?_
            refine nf_aln (pc := 119) dX6_nextDay_119 rfl ?_
            refine gf_X6_all (pc := 120) lk_X6_7 dX6_nextDay_120 ?_
            refine nf_sipush (pc := 123) (v := 200) dX6_nextDay_123 (by decide) ?_
            refine nf_iln (pc := 126) dX6_nextDay_126 rfl ?_
            refine nf_iaddI (pc := 127) (a := 200) (b := k) dX6_nextDay_127 ?_
            refine mo_ld1 (pc := 128) (k := (200 + k)) (by omega) dX6_nextDay_128 ?_
            refine nf_isub (pc := 129) dX6_nextDay_129 ?_
            refine nf_aln (pc := 130) dX6_nextDay_130 rfl ?_
            refine gf_X6_all (pc := 131) lk_X6_7 dX6_nextDay_131 ?_
            refine nf_iconst (pc := 134) (v := 1) dX6_nextDay_134 (by decide) ?_
            refine mo_ld1 (pc := 135) (k := 1) (by decide) dX6_nextDay_135 ?_
            refine nf_ic_lt (pc := 136) 150 dX6_nextDay_136 (by decide) (fun c_136 => ?_) (fun c_136 => ?_)
            · refine nf_iinc2 (pc := 150) (v := nI (k + 1)) dX6_nextDay_150 (nI_succ (k)).symm rfl (by decide) ?_
              refine nf_goto (pc := 153) 18 dX6_nextDay_153 (by decide) ?_
              exact nf_to (by simp only [mr_day, mr_exp, mr_fgt, eg, cf_num_I (show g < 2 ^ 31 by omega), c_43, c_74, c_110, c_136, if_true, if_false, reduceIte, Bool.false_eq_true] <;> rfl) (by simp only [mr_day, mr_exp, mr_fgt, eg, cf_num_I (show g < 2 ^ 31 by omega), c_43, c_74, c_110, c_136, if_true, if_false, reduceIte, Bool.false_eq_true] <;> rfl) (ih _ (k + 1) _ _ _ (by omega) (hk.mid ((mr_mid_exp r (k / 30) (k % 30) acc (by omega)).trans (mr_mid_fgt _ k (by omega))) |> (by simpa only [mr_exp, mr_fgt, eg, cf_num_I (show g < 2 ^ 31 by omega), c_43, c_74, c_110, c_136, if_true, if_false, reduceIte, Bool.false_eq_true] using ·)))
            · refine nf_aln (pc := 139) dX6_nextDay_139 rfl ?_
              refine gf_X6_all (pc := 140) lk_X6_7 dX6_nextDay_140 ?_
              refine nf_sipush (pc := 143) (v := 200) dX6_nextDay_143 (by decide) ?_
              refine nf_iln (pc := 146) dX6_nextDay_146 rfl ?_
              refine nf_iaddI (pc := 147) (a := 200) (b := k) dX6_nextDay_147 ?_
              refine nf_iconst (pc := 148) (v := (-1)) dX6_nextDay_148 (by decide) ?_
              refine mo_st1 (pc := 149) (k := (200 + k)) (by omega) dX6_nextDay_149 ?_
              refine nf_iinc2 (pc := 150) (v := nI (k + 1)) dX6_nextDay_150 (nI_succ (k)).symm rfl (by decide) ?_
              refine nf_goto (pc := 153) 18 dX6_nextDay_153 (by decide) ?_
              exact nf_to (by simp only [mr_day, mr_exp, mr_fgt, eg, cf_num_I (show g < 2 ^ 31 by omega), c_43, c_74, c_110, c_136, if_true, if_false, reduceIte, Bool.false_eq_true] <;> rfl) (by simp only [mr_day, mr_exp, mr_fgt, eg, cf_num_I (show g < 2 ^ 31 by omega), c_43, c_74, c_110, c_136, if_true, if_false, reduceIte, Bool.false_eq_true] <;> rfl) (ih _ (k + 1) _ _ _ (by omega) (hk.mid ((mr_mid_exp r (k / 30) (k % 30) acc (by omega)).trans (mr_mid_fgt _ k (by omega))) |> (by simpa only [mr_exp, mr_fgt, eg, cf_num_I (show g < 2 ^ 31 by omega), c_43, c_74, c_110, c_136, if_true, if_false, reduceIte, Bool.false_eq_true] using ·)))
        · refine nf_aln (pc := 77) dX6_nextDay_77 rfl ?_
          refine gf_X6_all (pc := 78) lk_X6_7 dX6_nextDay_78 ?_
          refine nf_sipush (pc := 81) (v := 380) dX6_nextDay_81 (by decide) ?_
          refine nf_iln (pc := 84) dX6_nextDay_84 rfl ?_
          refine nf_iaddI (pc := 85) (a := 380) (b := k / 30) dX6_nextDay_85 ?_
          refine nf_dup2 (pc := 86) dX6_nextDay_86 rfl rfl ?_
          refine mo_ld1 (pc := 87) (k := (380 + k / 30)) (by omega) dX6_nextDay_87 ?_
          refine nf_iconst (pc := 88) (v := 1) dX6_nextDay_88 (by decide) ?_
          refine nf_il (pc := 89) dX6_nextDay_89 rfl ?_
          refine nf_ishl (pc := 91) dX6_nextDay_91 ?_
          refine nf_iconst (pc := 92) (v := (-1)) dX6_nextDay_92 (by decide) ?_
          refine nf_ixor (pc := 93) dX6_nextDay_93 ?_
          refine nf_iand (pc := 94) dX6_nextDay_94 ?_
          refine mo_st1 (pc := 95) (k := (380 + k / 30)) (by omega) dX6_nextDay_95 ?_
          refine nf_from (S' := mm S (upd r (380 + k / 30) (r (380 + k / 30) &&& (cf_bit (nI (k % 30)) ^^^ -1))) sv er wk j) rfl ?_
          refine nf_iincP1 (pc := 96) dX6_nextDay_96 rfl (by decide) ?_
          refine nf_aln (pc := 99) dX6_nextDay_99 rfl ?_
          refine gf_X6_all (pc := 100) lk_X6_7 dX6_nextDay_100 ?_
          refine nf_sipush (pc := 103) (v := 200) dX6_nextDay_103 (by decide) ?_
          refine nf_iln (pc := 106) dX6_nextDay_106 rfl ?_
          refine nf_iaddI (pc := 107) (a := 200) (b := k) dX6_nextDay_107 ?_
          refine mo_ld1 (pc := 108) (k := (200 + k)) (by omega) dX6_nextDay_108 ?_
          refine nf_iconst (pc := 109) (v := (-1)) dX6_nextDay_109 (by decide) ?_
          refine nf_ic_eq (pc := 110) 150 dX6_nextDay_110 (by decide) (fun c_110 => ?_) (fun c_110 => ?_)
          · refine nf_iinc2 (pc := 150) (v := nI (k + 1)) dX6_nextDay_150 (nI_succ (k)).symm rfl (by decide) ?_
            refine nf_goto (pc := 153) 18 dX6_nextDay_153 (by decide) ?_
            exact nf_to (by simp only [mr_day, mr_exp, mr_fgt, eg, cf_num_I (show g < 2 ^ 31 by omega), c_43, c_74, c_110, if_true, if_false, reduceIte, Bool.false_eq_true] <;> rfl) (by simp only [mr_day, mr_exp, mr_fgt, eg, cf_num_I (show g < 2 ^ 31 by omega), c_43, c_74, c_110, if_true, if_false, reduceIte, Bool.false_eq_true] <;> rfl) (ih _ (k + 1) _ _ _ (by omega) (hk.mid ((mr_mid_exp r (k / 30) (k % 30) acc (by omega)).trans (mr_mid_fgt _ k (by omega))) |> (by simpa only [mr_exp, mr_fgt, eg, cf_num_I (show g < 2 ^ 31 by omega), c_43, c_74, c_110, if_true, if_false, reduceIte, Bool.false_eq_true] using ·)))
          · refine nf_aln (pc := 113) dX6_nextDay_113 rfl ?_
            refine gf_X6_all (pc := 114) lk_X6_7 dX6_nextDay_114 ?_
            refine nf_iconst (pc := 117) (v := 0) dX6_nextDay_117 (by decide) ?_
            refine mo_ld1 (pc := 118) (k := 0) (by decide) dX6_nextDay_118 ?_
            refine nf_aln (pc := 119) dX6_nextDay_119 rfl ?_
            refine gf_X6_all (pc := 120) lk_X6_7 dX6_nextDay_120 ?_
            refine nf_sipush (pc := 123) (v := 200) dX6_nextDay_123 (by decide) ?_
            refine nf_iln (pc := 126) dX6_nextDay_126 rfl ?_
            refine nf_iaddI (pc := 127) (a := 200) (b := k) dX6_nextDay_127 ?_
            refine mo_ld1 (pc := 128) (k := (200 + k)) (by omega) dX6_nextDay_128 ?_
            refine nf_isub (pc := 129) dX6_nextDay_129 ?_
            refine nf_aln (pc := 130) dX6_nextDay_130 rfl ?_
            refine gf_X6_all (pc := 131) lk_X6_7 dX6_nextDay_131 ?_
            refine nf_iconst (pc := 134) (v := 1) dX6_nextDay_134 (by decide) ?_
            refine mo_ld1 (pc := 135) (k := 1) (by decide) dX6_nextDay_135 ?_
            refine nf_ic_lt (pc := 136) 150 dX6_nextDay_136 (by decide) (fun c_136 => ?_) (fun c_136 => ?_)
            · refine nf_iinc2 (pc := 150) (v := nI (k + 1)) dX6_nextDay_150 (nI_succ (k)).symm rfl (by decide) ?_
              refine nf_goto (pc := 153) 18 dX6_nextDay_153 (by decide) ?_
              exact nf_to (by simp only [mr_day, mr_exp, mr_fgt, eg, cf_num_I (show g < 2 ^ 31 by omega), c_43, c_74, c_110, c_136, if_true, if_false, reduceIte, Bool.false_eq_true] <;> rfl) (by simp only [mr_day, mr_exp, mr_fgt, eg, cf_num_I (show g < 2 ^ 31 by omega), c_43, c_74, c_110, c_136, if_true, if_false, reduceIte, Bool.false_eq_true] <;> rfl) (ih _ (k + 1) _ _ _ (by omega) (hk.mid ((mr_mid_exp r (k / 30) (k % 30) acc (by omega)).trans (mr_mid_fgt _ k (by omega))) |> (by simpa only [mr_exp, mr_fgt, eg, cf_num_I (show g < 2 ^ 31 by omega), c_43, c_74, c_110, c_136, if_true, if_false, reduceIte, Bool.false_eq_true] using ·)))
            · refine nf_aln (pc := 139) dX6_nextDay_139 rfl ?_
              refine gf_X6_all (pc := 140) lk_X6_7 dX6_nextDay_140 ?_
              refine nf_sipush (pc := 143) (v := 200) dX6_nextDay_143 (by decide) ?_
              refine nf_iln (pc := 146) dX6_nextDay_146 rfl ?_
              refine nf_iaddI (pc := 147) (a := 200) (b := k) dX6_nextDay_147 ?_
              refine nf_iconst (pc := 148) (v := (-1)) dX6_nextDay_148 (by decide) ?_
              refine mo_st1 (pc := 149) (k := (200 + k)) (by omega) dX6_nextDay_149 ?_
              refine nf_iinc2 (pc := 150) (v := nI (k + 1)) dX6_nextDay_150 (nI_succ (k)).symm rfl (by decide) ?_
              refine nf_goto (pc := 153) 18 dX6_nextDay_153 (by decide) ?_
              exact nf_to (by simp only [mr_day, mr_exp, mr_fgt, eg, cf_num_I (show g < 2 ^ 31 by omega), c_43, c_74, c_110, c_136, if_true, if_false, reduceIte, Bool.false_eq_true] <;> rfl) (by simp only [mr_day, mr_exp, mr_fgt, eg, cf_num_I (show g < 2 ^ 31 by omega), c_43, c_74, c_110, c_136, if_true, if_false, reduceIte, Bool.false_eq_true] <;> rfl) (ih _ (k + 1) _ _ _ (by omega) (hk.mid ((mr_mid_exp r (k / 30) (k % 30) acc (by omega)).trans (mr_mid_fgt _ k (by omega))) |> (by simpa only [mr_exp, mr_fgt, eg, cf_num_I (show g < 2 ^ 31 by omega), c_43, c_74, c_110, c_136, if_true, if_false, reduceIte, Bool.false_eq_true] using ·)))
theorem mr_ok_day {r : Nat → Int32} {nl na q : Nat} {x : Int32} (h : mr_ok r nl na q) : mr_ok (upd r 0 x) nl na q := by
  obtain ⟨h1, h2, h3, h4, h5, h6, h7, h8⟩ := h
  refine ⟨h1, h2, h3, by simpa [upd] using h4, by simpa [upd] using h5, by simpa [upd] using h6, fun a ha => ?_, fun a ha => ?_⟩
  · have := h7 a ha
    simp only [mf_of, upd] at this ⊢
    rw [if_neg (by omega), if_neg (by omega)]; exact this
  · have := h8 a ha
    simp only [mf_of, upd] at this ⊢
    rw [if_neg (by omega)]; exact this
set_option maxRecDepth 100000 in
set_option maxHeartbeats 4000000 in
theorem sp_X6_nextDay {L : nf_L} {S : nf_S} {r sv er wk : Nat → Int32} {c nl na q : Nat} (hc : c ≤ 4) (hk : mr_ok r nl na q) : nf_Sp L 1 yX6_nextDay cX6_nextDay 5 (some .int) [.ref (L.2.2 (8, 0, 0, 0))] (mm S r sv er wk (nI c)) (some (.int (mr_day 180 (upd r 0 (r 0 + 1)) 0 0).2)) (mm S (mr_day 180 (upd r 0 (r 0 + 1)) 0 0).1 (ms_save sv r c) er wk (nI (ms_cnt c))) := by
  refine nf_start (own := RX6) (ls0 := [some (.ref (L.2.2 (8, 0, 0, 0))), none, none, none, none]) (by decide) (Nat.le_of_ble_eq_true rfl) rfl rfl ?_
  refine nf_aln (pc := 0) dX6_nextDay_0 rfl ?_
  refine nf_cVv0 (pc := 1) (sp_X6_save hc) rfl rfl rfl mk_X6_49 im_X6_save se_X6_save nm_X6_save ⟨by decide, by decide⟩ (Nat.le_of_ble_eq_true rfl) dX6_nextDay_1 ?_
  refine nf_aln (pc := 4) dX6_nextDay_4 rfl ?_
  refine gf_X6_all (pc := 5) lk_X6_7 dX6_nextDay_5 ?_
  refine nf_iconst (pc := 8) (v := 0) dX6_nextDay_8 (by decide) ?_
  refine nf_dup2 (pc := 9) dX6_nextDay_9 rfl rfl ?_
  refine mo_ld1 (pc := 10) (k := 0) (by decide) dX6_nextDay_10 ?_
  refine nf_iconst (pc := 11) (v := 1) dX6_nextDay_11 (by decide) ?_
  refine nf_iadd (pc := 12) dX6_nextDay_12 ?_
  refine mo_st1 (pc := 13) (k := 0) (by decide) dX6_nextDay_13 ?_
  refine nf_iconst (pc := 14) (v := 0) dX6_nextDay_14 (by decide) ?_
  refine nf_is1 (pc := 15) dX6_nextDay_15 rfl (by decide) ?_
  refine nf_iconst (pc := 16) (v := 0) dX6_nextDay_16 (by decide) ?_
  refine nf_is2 (pc := 17) dX6_nextDay_17 rfl (by decide) ?_
  exact lp_mday 180 _ 0 0 none none (by omega) (mr_ok_day hk)

