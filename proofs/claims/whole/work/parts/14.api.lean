/-! the class's public methods -/
theorem cf_nonneg {v : Int32} {n : Nat} (hn : n < 2 ^ 31) (h : cf_below v (nI n) = true) : 0 ≤ v.toInt ∧ v.toInt < (n : Int) := by
  simp only [cf_below, Bool.and_eq_true, Bool.not_eq_true', decide_eq_false_iff_not] at h
  obtain ⟨h1, h2⟩ := h
  have h3 : (0 : Int) ≤ v.toInt := by
    have := Int32.not_lt.mp h1
    simpa using Int32.le_iff_toInt_le.mp this
  have h4 : v.toInt < (nI n).toInt := Int32.lt_iff_toInt_lt.mp (Int32.not_le.mp h2)
  rw [nI_toInt hn] at h4
  exact ⟨h3, h4⟩
theorem cf_below_lt {v : Int32} {n : Nat} (hn : n < 2 ^ 31) (h : cf_below v (nI n) = true) : cf_num v < n := by
  obtain ⟨h1, h2⟩ := cf_nonneg hn h
  show v.toInt.toNat < n
  omega
theorem cf_below_eq {v : Int32} {n : Nat} (hn : n < 2 ^ 31) (h : cf_below v (nI n) = true) : v = nI (cf_num v) := by
  obtain ⟨h1, h2⟩ := cf_nonneg hn h
  apply Int32.toInt_inj.mp
  have h3 : v.toInt.toNat < 2 ^ 31 := by omega
  rw [show cf_num v = v.toInt.toNat from rfl, nI_toInt h3]
  omega
theorem cf_below_in {v : Int32} {n : Nat} (hn : n < 2 ^ 31) (h : cf_below v (nI n) = true) : vp_in v n := by
  have h1 := cf_below_eq hn h
  have h2 := cf_below_lt hn h
  rw [h1]
  exact nf_inI h2 hn
theorem cf_ltI {a b : Nat} (h : nI a < nI b) (ha : a < 2 ^ 31) : a < b := by
  rcases Nat.lt_or_ge a b with h1 | h1
  · exact h1
  · exact absurd h (nI_nlt h1 ha)
def cs_addl (S : nf_S) (nl : Nat) (a b k : Int32) : nf_S := nf_sI (nf_sA (nf_sA (nf_sA S 0 2 0 (upd (nf_A S 0 2 0) nl a)) 0 3 0 (upd (nf_A S 0 3 0) nl b)) 0 4 0 (upd (nf_A S 0 4 0) nl k)) 0 2 0 (nI (nl + 1))
def cv_addLink (a b k : Int32) : Bool := cf_below a 6 && cf_below b 6 && !(decide (a = b)) && cf_below k 2
def cq_addLink (nl c : Nat) (S : nf_S) (a b k : Int32) : nf_S × Int32 :=
  if cv_addLink a b k = true then (if cf_lnk S a b = -1 then (if nI nl < 12 then (cs_addl (cs_save S c) nl a b k, nI nl) else (cs_fail S 2, -4)) else (cs_fail S 1, -3)) else (cs_fail S 0, -2)
def cq_removeLink (nl c : Nat) (S : nf_S) (x : Int32) : nf_S × Int32 := if cf_below x (nI nl) = true then (cs_del (cs_save S c) 0 (nl - 1) (cf_num x) (nl - 1), nI (nl - 1)) else (cs_fail S 0, -2)
def cq_setKind (nl c : Nat) (S : nf_S) (x k : Int32) : nf_S × Int32 := if (cf_below x (nI nl) && cf_below k 2) = true then (nf_sA (cs_save S c) 0 4 0 (upd (nf_A (cs_save S c) 0 4 0) (cf_num x) k), nf_A (cs_save S c) 0 4 0 (cf_num x)) else (cs_fail S 0, -2)
def cq_setGroups (c : Nat) (S : nf_S) (x g : Int32) : nf_S × Int32 := if (cf_below x 6 && !decide (g < 0) && decide (g ≤ 15)) = true then (nf_sI (cs_save S c) 0 4 (cf_num x) g, nf_I (cs_save S c) 0 4 (cf_num x)) else (cs_fail S 0, -2)
def cq_setExpiry (c : Nat) (S : nf_S) (g x : Int32) : nf_S × Int32 := if (cf_below g 4 && cf_limit x) = true then (nf_sA (cs_save S c) 0 0 0 (upd (nf_A (cs_save S c) 0 0 0) (cf_num g) x), nf_A (cs_save S c) 0 0 0 (cf_num g)) else (cs_fail S 0, -2)
def cq_setHistoryLimit (c : Nat) (S : nf_S) (x : Int32) : nf_S × Int32 := if cf_limit x = true then (nf_sI (cs_save S c) 0 1 0 x, nf_I (cs_save S c) 0 1 0) else (cs_fail S 0, -2)
def cs_app (S : nf_S) (na : Nat) (g a e t : Int32) : nf_S := nf_sI (nf_sA (nf_sA (nf_sA (nf_sA (nf_sA S 0 5 0 (upd (nf_A S 0 5 0) na g)) 0 6 0 (upd (nf_A S 0 6 0) na a)) 0 7 0 (upd (nf_A S 0 7 0) na (nf_I S 0 0 0))) 0 8 0 (upd (nf_A S 0 8 0) na e)) 0 9 0 (upd (nf_A S 0 9 0) na t)) 0 3 0 (nI (na + 1))
def cq_publish (na c : Nat) (S : nf_S) (h : Nat) (g a e t : Int32) : nf_S × Int32 := if nI na < 30 then ((cs_arr (cs_app (cs_save S c) na g a e t) na h 0).1, nI na) else (cs_fail S 2, -4)
def cq_post (na c : Nat) (S : nf_S) (x g a : Int32) : nf_S × Int32 := if (cf_below x 6 && cf_below g 4 && cf_below a 10) = true then cq_publish na c S (cf_num x) g a 0 (-1) else (cs_fail S 0, -2)
def cq_postAction (na c : Nat) (S : nf_S) (x a e t : Int32) : nf_S × Int32 := if (cf_below x 6 && cf_below a 10 && !decide (e < 1) && !decide (2 < e) && cf_below t (nI na)) = true then cq_publish na c S (cf_num x) (nf_A S 0 5 0 (cf_num t)) a e t else (cs_fail S 0, -2)
def cs_stl (na : Nat) : Nat → nf_S → Nat → nf_S × Nat
  | 0, S, k => (S, k)
  | m + 1, S, k => if cf_sum (nf_A S 0 10 0) 0 180 0 ≤ 0 then (S, k) else cs_stl na m (cs_rnd S na).1 (k + 1)
def cq_isStored (na : Nat) (S : nf_S) (x a : Int32) : nf_S × Int32 := if (cf_below x 6 && cf_below a (nI na)) = true then (S, nf_b (cf_has (nf_I S 0 5 (cf_num x)) a)) else (cs_fail S 0, -2)
def cq_knownSince (na : Nat) (S : nf_S) (x a : Int32) : nf_S × Int32 := if (cf_below x 6 && cf_below a (nI na)) = true then (S, nf_A S 0 12 (cf_num x) (cf_num a)) else (cs_fail S 0, -2)
def cq_pending (S : nf_S) (x : Int32) : nf_S × Int32 := if cf_below x 6 = true then (S, cf_sum (nf_A S 0 13 (cf_num x)) 0 30 0) else (cs_fail S 0, -2)
def cf_hold (S : nf_S) (a : Int32) (k : Nat) : Nat → Int32 → Int32
  | 0, acc => acc
  | m + 1, acc => cf_hold S a (k + 1) m (if cf_has (nf_I S 0 5 k) a = true then acc ||| cf_bit (nI k) else acc)
def cq_holders (na : Nat) (S : nf_S) (a : Int32) : nf_S × Int32 := if cf_below a (nI na) = true then (S, cf_hold S a 0 6 0) else (cs_fail S 0, -2)
def cf_sig (S : nf_S) (h : Nat) (g : Int32) (k : Nat) : Nat → Int32 → Int32
  | 0, acc => acc
  | m + 1, acc => cf_sig S h g (k + 1) m (if nf_A S 0 5 0 k = g then (if cf_has (nf_I S 0 5 h) (nI k) = true then acc + 1 else acc) else acc)
def cq_inGroup (na : Nat) (S : nf_S) (x g : Int32) : nf_S × Int32 := if (cf_below x 6 && cf_below g 4) = true then (S, cf_sig S (cf_num x) g 0 na 0) else (cs_fail S 0, -2)
def cf_dst (S : nf_S) (b : Int32) : Nat → Nat → Int32 → Int32
  | 0, _, _ => -1
  | m + 1, k, s => if cf_has s b = true then nI k else cf_dst S b m (k + 1) (s ||| cf_nbr S s)
def cq_distance (S : nf_S) (a b : Int32) : nf_S × Int32 := if (cf_below a 6 && cf_below b 6) = true then (S, cf_dst S b 6 0 (cf_bit a)) else (cs_fail S 0, -2)
def cq_total (S : nf_S) (x : Int32) : nf_S × Int32 := if cf_below x 6 = true then (S, nf_A S 0 1 0 (cf_num x)) else (cs_fail S 0, -2)
def cq_undo (c : Nat) (S : nf_S) : nf_S × Int32 := if 1 ≤ nI c then (nf_cpN (nf_sJ S 0 (nI (c - 1))) 0 (nf_v S (c - 1)), nI (c - 1)) else (cs_fail S 3, -5)
def cq_errorCount (S : nf_S) (x : Int32) : nf_S × Int32 := if cf_below (cf_slot x) 4 = true then (S, nf_O S 0 (cf_num (cf_slot x))) else (cs_fail S 0, -2)
theorem cf_slot2 : cf_slot (-2) = nI 0 := by decide
theorem cf_slot3 : cf_slot (-3) = nI 1 := by decide
theorem cf_slot4 : cf_slot (-4) = nI 2 := by decide
theorem cf_slot5 : cf_slot (-5) = nI 3 := by decide
theorem cs_ok_app {S : nf_S} {nl na : Nat} {g a e t : Int32} (h : cs_ok S nl na) (hna : na < 30) (hg : ∃ x, x < 4 ∧ g = nI x) (ht : e = 0 ∨ ∃ x, x < 30 ∧ t = nI x) : cs_ok (cs_app S na g a e t) nl (na + 1) := by
  obtain ⟨h1, h2, h3, h4, h5⟩ := h
  refine ⟨h1, hna, by simp only [cs_app, nf_I_sI, nf_I_sA]; rw [if_neg (by decide)]; exact h3, by simp [cs_app, nf_I_sI], fun x hx => ?_⟩
  simp only [cs_app, nf_A_sI, nf_A_sA, upd]
  by_cases hx2 : x = na
  · subst hx2; simpa [upd] using ⟨ht, hg⟩
  · have h6 := h5 x (by omega)
    simpa [upd, hx2] using h6
set_option maxRecDepth 100000 in
set_option maxHeartbeats 4000000 in
theorem sp_X5_isArticle {L : nf_L} {S : nf_S} {nl na : Nat} {x : Int32} (hk : cs_ok S nl na) : nf_Sp L 1 yX5_isArticle cX5_isArticle 2 (some .boolean) [.ref (L.2.2 (0, 0, 0, 0)), .int x] S (some (.int (nf_b (cf_below x (nI na))))) S := by
  refine nf_start (own := RX5) (ls0 := [some (.ref (L.2.2 (0, 0, 0, 0))), some (.int x)]) (by decide) (Nat.le_of_ble_eq_true rfl) rfl rfl ?_
  refine nf_iln (pc := 0) dX5_isArticle_0 rfl ?_
  refine nf_aln (pc := 1) dX5_isArticle_1 rfl ?_
  refine gf_X5_network (pc := 2) lk_X5_12 dX5_isArticle_2 ?_
  refine gf_X3_articles (by decide) (pc := 5) lk_X5_96 dX5_isArticle_5 ?_
  refine gf_X0_count (by decide) (pc := 8) lk_X5_128 dX5_isArticle_8 ?_
  refine nf_topI (y := nI (na)) hk.2.2.2.1 ?_
  refine nf_cSi2 (pc := 11) sp_X5_isBelow mk_X5_35 st_X5_isBelow nm_X5_isBelow ⟨by decide, by decide⟩ (Nat.le_of_ble_eq_true rfl) dX5_isArticle_11 ?_
  exact nf_zretb (pc := 14) dX5_isArticle_14
set_option maxRecDepth 100000 in
set_option maxHeartbeats 4000000 in
theorem sp_X5_addLink {L : nf_L} {S : nf_S} {nl na c : Nat} {a b k : Int32} (hk : cs_ok S nl na) (hs : cs_sv S c) : nf_Sp L 4 yX5_addLink cX5_addLink 4 (some .int) [.ref (L.2.2 (0, 0, 0, 0)), .int a, .int b, .int k] S (some (.int (cq_addLink nl c S a b k).2)) (cq_addLink nl c S a b k).1 := by
  refine nf_start (own := RX5) (ls0 := [some (.ref (L.2.2 (0, 0, 0, 0))), some (.int a), some (.int b), some (.int k)]) (by decide) (Nat.le_of_ble_eq_true rfl) rfl rfl ?_
  refine nf_iln (pc := 0) dX5_addLink_0 rfl ?_
  refine nf_bipush (pc := 1) (v := 6) dX5_addLink_1 (by decide) ?_
  refine nf_cSi2 (pc := 3) sp_X5_isBelow mk_X5_35 st_X5_isBelow nm_X5_isBelow ⟨by decide, by decide⟩ (Nat.le_of_ble_eq_true rfl) dX5_addLink_3 ?_
  refine nf_if_eqB (pc := 6) 31 dX5_addLink_6 (by decide) (fun c_6 => ?_) (fun c_6 => ?_)
  · refine nf_aln (pc := 31) dX5_addLink_31 rfl ?_
    refine nf_bipush (pc := 32) (v := (-2)) dX5_addLink_32 (by decide) ?_
    refine nf_cVi1 (pc := 34) (sp_X5_fail cf_slot2 (by decide)) rfl rfl rfl mk_X5_39 im_X5_fail se_X5_fail nm_X5_fail ⟨by decide, by decide⟩ (Nat.le_of_ble_eq_true rfl) dX5_addLink_34 ?_
    exact nf_to (by simp [cq_addLink, cv_addLink, c_6] <;> rfl) (by simp [cq_addLink, cv_addLink, c_6] <;> rfl) (nf_iret (pc := 37) dX5_addLink_37)
  · refine nf_iln (pc := 9) dX5_addLink_9 rfl ?_
    refine nf_bipush (pc := 10) (v := 6) dX5_addLink_10 (by decide) ?_
    refine nf_cSi2 (pc := 12) sp_X5_isBelow mk_X5_35 st_X5_isBelow nm_X5_isBelow ⟨by decide, by decide⟩ (Nat.le_of_ble_eq_true rfl) dX5_addLink_12 ?_
    refine nf_if_eqB (pc := 15) 31 dX5_addLink_15 (by decide) (fun c_15 => ?_) (fun c_15 => ?_)
    · refine nf_aln (pc := 31) dX5_addLink_31 rfl ?_
      refine nf_bipush (pc := 32) (v := (-2)) dX5_addLink_32 (by decide) ?_
      refine nf_cVi1 (pc := 34) (sp_X5_fail cf_slot2 (by decide)) rfl rfl rfl mk_X5_39 im_X5_fail se_X5_fail nm_X5_fail ⟨by decide, by decide⟩ (Nat.le_of_ble_eq_true rfl) dX5_addLink_34 ?_
      exact nf_to (by simp [cq_addLink, cv_addLink, c_6, c_15] <;> rfl) (by simp [cq_addLink, cv_addLink, c_6, c_15] <;> rfl) (nf_iret (pc := 37) dX5_addLink_37)
    · refine nf_iln (pc := 18) dX5_addLink_18 rfl ?_
      refine nf_iln (pc := 19) dX5_addLink_19 rfl ?_
      refine nf_ic_eq (pc := 20) 31 dX5_addLink_20 (by decide) (fun c_20 => ?_) (fun c_20 => ?_)
      · refine nf_aln (pc := 31) dX5_addLink_31 rfl ?_
        refine nf_bipush (pc := 32) (v := (-2)) dX5_addLink_32 (by decide) ?_
        refine nf_cVi1 (pc := 34) (sp_X5_fail cf_slot2 (by decide)) rfl rfl rfl mk_X5_39 im_X5_fail se_X5_fail nm_X5_fail ⟨by decide, by decide⟩ (Nat.le_of_ble_eq_true rfl) dX5_addLink_34 ?_
        exact nf_to (by simp [cq_addLink, cv_addLink, c_6, c_15, c_20] <;> rfl) (by simp [cq_addLink, cv_addLink, c_6, c_15, c_20] <;> rfl) (nf_iret (pc := 37) dX5_addLink_37)
      · refine nf_iln (pc := 23) dX5_addLink_23 rfl ?_
        refine nf_iconst (pc := 24) (v := 2) dX5_addLink_24 (by decide) ?_
        refine nf_cSi2 (pc := 25) sp_X5_isBelow mk_X5_35 st_X5_isBelow nm_X5_isBelow ⟨by decide, by decide⟩ (Nat.le_of_ble_eq_true rfl) dX5_addLink_25 ?_
        refine nf_if_neB (pc := 28) 38 dX5_addLink_28 (by decide) (fun c_28 => ?_) (fun c_28 => ?_)
        · refine nf_aln (pc := 38) dX5_addLink_38 rfl ?_
          refine gf_X5_network (pc := 39) lk_X5_12 dX5_addLink_39 ?_
          refine gf_X3_links (by decide) (pc := 42) lk_X5_43 dX5_addLink_42 ?_
          refine nf_iln (pc := 45) dX5_addLink_45 rfl ?_
          refine nf_iln (pc := 46) dX5_addLink_46 rfl ?_
          refine nf_cVi2 (pc := 47) (sp_lnk hk) ⟨(by decide), rfl⟩ rfl rfl mk_X5_47 im_X2_between se_X2_between nm_X2_between ⟨by decide, by decide⟩ (Nat.le_of_ble_eq_true rfl) dX5_addLink_47 ?_
          refine nf_iconst (pc := 50) (v := (-1)) dX5_addLink_50 (by decide) ?_
          refine nf_ic_eq (pc := 51) 61 dX5_addLink_51 (by decide) (fun c_51 => ?_) (fun c_51 => ?_)
          · refine nf_aln (pc := 61) dX5_addLink_61 rfl ?_
            refine gf_X5_network (pc := 62) lk_X5_12 dX5_addLink_62 ?_
            refine gf_X3_links (by decide) (pc := 65) lk_X5_43 dX5_addLink_65 ?_
            refine gf_X2_count (by decide) (pc := 68) lk_X5_53 dX5_addLink_68 ?_
            refine nf_topI (y := nI (nl)) hk.2.2.1 ?_
            refine nf_bipush (pc := 71) (v := 12) dX5_addLink_71 (by decide) ?_
            refine nf_ic_lt (pc := 73) 83 dX5_addLink_73 (by decide) (fun c_73 => ?_) (fun c_73 => ?_)
            · refine nf_aln (pc := 83) dX5_addLink_83 rfl ?_
              refine nf_cVv0 (pc := 84) (sp_X5_save hs) rfl rfl rfl mk_X5_56 im_X5_save se_X5_save nm_X5_save ⟨by decide, by decide⟩ (Nat.le_of_ble_eq_true rfl) dX5_addLink_84 ?_
              refine nf_aln (pc := 87) dX5_addLink_87 rfl ?_
              refine gf_X5_network (pc := 88) lk_X5_12 dX5_addLink_88 ?_
              refine gf_X3_links (by decide) (pc := 91) lk_X5_43 dX5_addLink_91 ?_
              refine nf_iln (pc := 94) dX5_addLink_94 rfl ?_
              refine nf_iln (pc := 95) dX5_addLink_95 rfl ?_
              refine nf_iln (pc := 96) dX5_addLink_96 rfl ?_
              refine nf_cVi3 (pc := 97) (sp_X2_append (by decide) (cs_save_I S c hs 2 0 ▸ hk.2.2.1) (cf_ltI (b := 12) c_73 (by have := hk.1; omega))) ⟨(by decide), rfl⟩ rfl rfl mk_X5_59 im_X2_append se_X2_append nm_X2_append ⟨by decide, by decide⟩ (Nat.le_of_ble_eq_true rfl) dX5_addLink_97 ?_
              exact nf_to (by simp [cq_addLink, cv_addLink, c_6, c_15, c_20, c_28, c_51, c_73] <;> rfl) (by simp [cq_addLink, cv_addLink, c_6, c_15, c_20, c_28, c_51, c_73] <;> rfl) (nf_iret (pc := 100) dX5_addLink_100)
            · refine nf_aln (pc := 76) dX5_addLink_76 rfl ?_
              refine nf_bipush (pc := 77) (v := (-4)) dX5_addLink_77 (by decide) ?_
              refine nf_cVi1 (pc := 79) (sp_X5_fail cf_slot4 (by decide)) rfl rfl rfl mk_X5_39 im_X5_fail se_X5_fail nm_X5_fail ⟨by decide, by decide⟩ (Nat.le_of_ble_eq_true rfl) dX5_addLink_79 ?_
              exact nf_to (by simp [cq_addLink, cv_addLink, c_6, c_15, c_20, c_28, c_51, c_73] <;> rfl) (by simp [cq_addLink, cv_addLink, c_6, c_15, c_20, c_28, c_51, c_73] <;> rfl) (nf_iret (pc := 82) dX5_addLink_82)
          · refine nf_aln (pc := 54) dX5_addLink_54 rfl ?_
            refine nf_bipush (pc := 55) (v := (-3)) dX5_addLink_55 (by decide) ?_
            refine nf_cVi1 (pc := 57) (sp_X5_fail cf_slot3 (by decide)) rfl rfl rfl mk_X5_39 im_X5_fail se_X5_fail nm_X5_fail ⟨by decide, by decide⟩ (Nat.le_of_ble_eq_true rfl) dX5_addLink_57 ?_
            exact nf_to (by simp [cq_addLink, cv_addLink, c_6, c_15, c_20, c_28, c_51] <;> rfl) (by simp [cq_addLink, cv_addLink, c_6, c_15, c_20, c_28, c_51] <;> rfl) (nf_iret (pc := 60) dX5_addLink_60)
        · refine nf_aln (pc := 31) dX5_addLink_31 rfl ?_
          refine nf_bipush (pc := 32) (v := (-2)) dX5_addLink_32 (by decide) ?_
          refine nf_cVi1 (pc := 34) (sp_X5_fail cf_slot2 (by decide)) rfl rfl rfl mk_X5_39 im_X5_fail se_X5_fail nm_X5_fail ⟨by decide, by decide⟩ (Nat.le_of_ble_eq_true rfl) dX5_addLink_34 ?_
          exact nf_to (by simp [cq_addLink, cv_addLink, c_6, c_15, c_20, c_28] <;> rfl) (by simp [cq_addLink, cv_addLink, c_6, c_15, c_20, c_28] <;> rfl) (nf_iret (pc := 37) dX5_addLink_37)
set_option maxRecDepth 100000 in
set_option maxHeartbeats 4000000 in
theorem sp_X5_removeLink {L : nf_L} {S : nf_S} {nl na c : Nat} {x : Int32} (hk : cs_ok S nl na) (hs : cs_sv S c) : nf_Sp L 4 yX5_removeLink cX5_removeLink 2 (some .int) [.ref (L.2.2 (0, 0, 0, 0)), .int x] S (some (.int (cq_removeLink nl c S x).2)) (cq_removeLink nl c S x).1 := by
  have hk1 := hk.save hs
  refine nf_start (own := RX5) (ls0 := [some (.ref (L.2.2 (0, 0, 0, 0))), some (.int x)]) (by decide) (Nat.le_of_ble_eq_true rfl) rfl rfl ?_
  refine nf_iln (pc := 0) dX5_removeLink_0 rfl ?_
  refine nf_aln (pc := 1) dX5_removeLink_1 rfl ?_
  refine gf_X5_network (pc := 2) lk_X5_12 dX5_removeLink_2 ?_
  refine gf_X3_links (by decide) (pc := 5) lk_X5_43 dX5_removeLink_5 ?_
  refine gf_X2_count (by decide) (pc := 8) lk_X5_53 dX5_removeLink_8 ?_
  refine nf_topI (y := nI (nl)) hk.2.2.1 ?_
  refine nf_cSi2 (pc := 11) sp_X5_isBelow mk_X5_35 st_X5_isBelow nm_X5_isBelow ⟨by decide, by decide⟩ (Nat.le_of_ble_eq_true rfl) dX5_removeLink_11 ?_
  refine nf_if_neB (pc := 14) 24 dX5_removeLink_14 (by decide) (fun c_14 => ?_) (fun c_14 => ?_)
  · have hx := cf_below_lt (by have := hk.1; omega) c_14
    have hx2 := cf_below_eq (by have := hk.1; omega) c_14
    refine nf_aln (pc := 24) dX5_removeLink_24 rfl ?_
    refine nf_cVv0 (pc := 25) (sp_X5_save hs) rfl rfl rfl mk_X5_56 im_X5_save se_X5_save nm_X5_save ⟨by decide, by decide⟩ (Nat.le_of_ble_eq_true rfl) dX5_removeLink_25 ?_
    refine nf_aln (pc := 28) dX5_removeLink_28 rfl ?_
    refine gf_X5_network (pc := 29) lk_X5_12 dX5_removeLink_29 ?_
    refine gf_X3_links (by decide) (pc := 32) lk_X5_43 dX5_removeLink_32 ?_
    refine nf_iln (pc := 35) dX5_removeLink_35 rfl ?_
    refine nf_topI (y := nI (cf_num x)) hx2 ?_
    refine nf_cVv1 (pc := 36) (sp_X2_delete (cnt := nl - 1) (by decide) (by rw [cs_save_I S c hs, hk.2.2.1]; congr 1; omega) (by have := hk.1; omega) (by omega)) ⟨(by decide), rfl⟩ rfl rfl mk_X5_63 im_X2_delete se_X2_delete nm_X2_delete ⟨by decide, by decide⟩ (Nat.le_of_ble_eq_true rfl) dX5_removeLink_36 ?_
    refine nf_aln (pc := 39) dX5_removeLink_39 rfl ?_
    refine gf_X5_network (pc := 40) lk_X5_12 dX5_removeLink_40 ?_
    refine gf_X3_links (by decide) (pc := 43) lk_X5_43 dX5_removeLink_43 ?_
    refine gf_X2_count (by decide) (pc := 46) lk_X5_53 dX5_removeLink_46 ?_
    refine nf_topI (y := nI (nl - 1)) cs_del_n ?_
    exact nf_to (by simp [cq_removeLink, c_14] <;> rfl) (by simp [cq_removeLink, c_14] <;> rfl) (nf_iret (pc := 49) dX5_removeLink_49)
  · refine nf_aln (pc := 17) dX5_removeLink_17 rfl ?_
    refine nf_bipush (pc := 18) (v := (-2)) dX5_removeLink_18 (by decide) ?_
    refine nf_cVi1 (pc := 20) (sp_X5_fail cf_slot2 (by decide)) rfl rfl rfl mk_X5_39 im_X5_fail se_X5_fail nm_X5_fail ⟨by decide, by decide⟩ (Nat.le_of_ble_eq_true rfl) dX5_removeLink_20 ?_
    exact nf_to (by simp [cq_removeLink, c_14] <;> rfl) (by simp [cq_removeLink, c_14] <;> rfl) (nf_iret (pc := 23) dX5_removeLink_23)
set_option maxRecDepth 100000 in
set_option maxHeartbeats 4000000 in
theorem sp_X5_setKind {L : nf_L} {S : nf_S} {nl na c : Nat} {x k : Int32} (hk : cs_ok S nl na) (hs : cs_sv S c) : nf_Sp L 4 yX5_setKind cX5_setKind 4 (some .int) [.ref (L.2.2 (0, 0, 0, 0)), .int x, .int k] S (some (.int (cq_setKind nl c S x k).2)) (cq_setKind nl c S x k).1 := by
  refine nf_start (own := RX5) (ls0 := [some (.ref (L.2.2 (0, 0, 0, 0))), some (.int x), some (.int k), none]) (by decide) (Nat.le_of_ble_eq_true rfl) rfl rfl ?_
  refine nf_iln (pc := 0) dX5_setKind_0 rfl ?_
  refine nf_aln (pc := 1) dX5_setKind_1 rfl ?_
  refine gf_X5_network (pc := 2) lk_X5_12 dX5_setKind_2 ?_
  refine gf_X3_links (by decide) (pc := 5) lk_X5_43 dX5_setKind_5 ?_
  refine gf_X2_count (by decide) (pc := 8) lk_X5_53 dX5_setKind_8 ?_
  refine nf_topI (y := nI (nl)) hk.2.2.1 ?_
  refine nf_cSi2 (pc := 11) sp_X5_isBelow mk_X5_35 st_X5_isBelow nm_X5_isBelow ⟨by decide, by decide⟩ (Nat.le_of_ble_eq_true rfl) dX5_setKind_11 ?_
  refine nf_if_eqB (pc := 14) 25 dX5_setKind_14 (by decide) (fun c_14 => ?_) (fun c_14 => ?_)
  · refine nf_aln (pc := 25) dX5_setKind_25 rfl ?_
    refine nf_bipush (pc := 26) (v := (-2)) dX5_setKind_26 (by decide) ?_
    refine nf_cVi1 (pc := 28) (sp_X5_fail cf_slot2 (by decide)) rfl rfl rfl mk_X5_39 im_X5_fail se_X5_fail nm_X5_fail ⟨by decide, by decide⟩ (Nat.le_of_ble_eq_true rfl) dX5_setKind_28 ?_
    exact nf_to (by simp [cq_setKind, c_14] <;> rfl) (by simp [cq_setKind, c_14] <;> rfl) (nf_iret (pc := 31) dX5_setKind_31)
  · refine nf_iln (pc := 17) dX5_setKind_17 rfl ?_
    refine nf_iconst (pc := 18) (v := 2) dX5_setKind_18 (by decide) ?_
    refine nf_cSi2 (pc := 19) sp_X5_isBelow mk_X5_35 st_X5_isBelow nm_X5_isBelow ⟨by decide, by decide⟩ (Nat.le_of_ble_eq_true rfl) dX5_setKind_19 ?_
    refine nf_if_neB (pc := 22) 32 dX5_setKind_22 (by decide) (fun c_22 => ?_) (fun c_22 => ?_)
    · have hx := cf_below_lt (by have := hk.1; omega) c_14
      have hx2 := cf_below_eq (by have := hk.1; omega) c_14
      have hin : vp_in x 12 := by
        rw [hx2]; exact nf_inI (by have := hk.1; omega) (by decide)
      refine nf_aln (pc := 32) dX5_setKind_32 rfl ?_
      refine nf_cVv0 (pc := 33) (sp_X5_save hs) rfl rfl rfl mk_X5_56 im_X5_save se_X5_save nm_X5_save ⟨by decide, by decide⟩ (Nat.le_of_ble_eq_true rfl) dX5_setKind_33 ?_
      refine nf_aln (pc := 36) dX5_setKind_36 rfl ?_
      refine gf_X5_network (pc := 37) lk_X5_12 dX5_setKind_37 ?_
      refine gf_X3_links (by decide) (pc := 40) lk_X5_43 dX5_setKind_40 ?_
      refine gf_X2_kind (by decide) (pc := 43) lk_X5_67 dX5_setKind_43 ?_
      refine nf_iln (pc := 46) dX5_setKind_46 rfl ?_
      refine nf_iald (pc := 47) (nf_okA (by decide) (by decide)) hin dX5_setKind_47 ?_
      refine nf_is3 (pc := 48) dX5_setKind_48 rfl (by decide) ?_
      refine nf_aln (pc := 49) dX5_setKind_49 rfl ?_
      refine gf_X5_network (pc := 50) lk_X5_12 dX5_setKind_50 ?_
      refine gf_X3_links (by decide) (pc := 53) lk_X5_43 dX5_setKind_53 ?_
      refine gf_X2_kind (by decide) (pc := 56) lk_X5_67 dX5_setKind_56 ?_
      refine nf_iln (pc := 59) dX5_setKind_59 rfl ?_
      refine nf_iln (pc := 60) dX5_setKind_60 rfl ?_
      refine nf_iast (pc := 61) (nf_okA (by decide) (by decide)) hin dX5_setKind_61 ?_
      refine nf_iln (pc := 62) dX5_setKind_62 rfl ?_
      exact nf_to (by simp [cq_setKind, c_14, c_22] <;> rfl) (by simp [cq_setKind, c_14, c_22] <;> rfl) (nf_iret (pc := 63) dX5_setKind_63)
    · refine nf_aln (pc := 25) dX5_setKind_25 rfl ?_
      refine nf_bipush (pc := 26) (v := (-2)) dX5_setKind_26 (by decide) ?_
      refine nf_cVi1 (pc := 28) (sp_X5_fail cf_slot2 (by decide)) rfl rfl rfl mk_X5_39 im_X5_fail se_X5_fail nm_X5_fail ⟨by decide, by decide⟩ (Nat.le_of_ble_eq_true rfl) dX5_setKind_28 ?_
      exact nf_to (by simp [cq_setKind, c_14, c_22] <;> rfl) (by simp [cq_setKind, c_14, c_22] <;> rfl) (nf_iret (pc := 31) dX5_setKind_31)
set_option maxRecDepth 100000 in
set_option maxHeartbeats 4000000 in
theorem sp_X5_setGroups {L : nf_L} {S : nf_S} {c : Nat} {x g : Int32} (hs : cs_sv S c) : nf_Sp L 4 yX5_setGroups cX5_setGroups 4 (some .int) [.ref (L.2.2 (0, 0, 0, 0)), .int x, .int g] S (some (.int (cq_setGroups c S x g).2)) (cq_setGroups c S x g).1 := by
  refine nf_start (own := RX5) (ls0 := [some (.ref (L.2.2 (0, 0, 0, 0))), some (.int x), some (.int g), none]) (by decide) (Nat.le_of_ble_eq_true rfl) rfl rfl ?_
  refine nf_iln (pc := 0) dX5_setGroups_0 rfl ?_
  refine nf_bipush (pc := 1) (v := 6) dX5_setGroups_1 (by decide) ?_
  refine nf_cSi2 (pc := 3) sp_X5_isBelow mk_X5_35 st_X5_isBelow nm_X5_isBelow ⟨by decide, by decide⟩ (Nat.le_of_ble_eq_true rfl) dX5_setGroups_3 ?_
  refine nf_if_eqB (pc := 6) 19 dX5_setGroups_6 (by decide) (fun c_6 => ?_) (fun c_6 => ?_)
  · refine nf_aln (pc := 19) dX5_setGroups_19 rfl ?_
    refine nf_bipush (pc := 20) (v := (-2)) dX5_setGroups_20 (by decide) ?_
    refine nf_cVi1 (pc := 22) (sp_X5_fail cf_slot2 (by decide)) rfl rfl rfl mk_X5_39 im_X5_fail se_X5_fail nm_X5_fail ⟨by decide, by decide⟩ (Nat.le_of_ble_eq_true rfl) dX5_setGroups_22 ?_
    exact nf_to (by simp [cq_setGroups, c_6] <;> rfl) (by simp [cq_setGroups, c_6] <;> rfl) (nf_iret (pc := 25) dX5_setGroups_25)
  · refine nf_iln (pc := 9) dX5_setGroups_9 rfl ?_
    refine nf_if_lt (pc := 10) 19 dX5_setGroups_10 (by decide) (fun c_10 => ?_) (fun c_10 => ?_)
    · refine nf_aln (pc := 19) dX5_setGroups_19 rfl ?_
      refine nf_bipush (pc := 20) (v := (-2)) dX5_setGroups_20 (by decide) ?_
      refine nf_cVi1 (pc := 22) (sp_X5_fail cf_slot2 (by decide)) rfl rfl rfl mk_X5_39 im_X5_fail se_X5_fail nm_X5_fail ⟨by decide, by decide⟩ (Nat.le_of_ble_eq_true rfl) dX5_setGroups_22 ?_
      exact nf_to (by simp [cq_setGroups, c_6, c_10] <;> rfl) (by simp [cq_setGroups, c_6, c_10] <;> rfl) (nf_iret (pc := 25) dX5_setGroups_25)
    · refine nf_iln (pc := 13) dX5_setGroups_13 rfl ?_
      refine nf_bipush (pc := 14) (v := 15) dX5_setGroups_14 (by decide) ?_
      refine nf_ic_le (pc := 16) 26 dX5_setGroups_16 (by decide) (fun c_16 => ?_) (fun c_16 => ?_)
      · refine nf_aln (pc := 26) dX5_setGroups_26 rfl ?_
        refine nf_cVv0 (pc := 27) (sp_X5_save hs) rfl rfl rfl mk_X5_56 im_X5_save se_X5_save nm_X5_save ⟨by decide, by decide⟩ (Nat.le_of_ble_eq_true rfl) dX5_setGroups_27 ?_
        refine nf_aln (pc := 30) dX5_setGroups_30 rfl ?_
        refine gf_X5_network (pc := 31) lk_X5_12 dX5_setGroups_31 ?_
        refine gf_X3_hosts (by decide) (pc := 34) lk_X5_70 dX5_setGroups_34 ?_
        refine nf_iln (pc := 37) dX5_setGroups_37 rfl ?_
        refine nf_hald (pc := 38) (by decide) (cf_below_in (by decide) c_6) dX5_setGroups_38 ?_
        refine nf_topR (p2 := (4, 0, 0, cf_num x)) rfl ?_
        refine gf_X1_groups (by decide) (cf_below_lt (by decide) c_6) (pc := 39) lk_X5_74 dX5_setGroups_39 ?_
        refine nf_is3 (pc := 42) dX5_setGroups_42 rfl (by decide) ?_
        refine nf_aln (pc := 43) dX5_setGroups_43 rfl ?_
        refine gf_X5_network (pc := 44) lk_X5_12 dX5_setGroups_44 ?_
        refine gf_X3_hosts (by decide) (pc := 47) lk_X5_70 dX5_setGroups_47 ?_
        refine nf_iln (pc := 50) dX5_setGroups_50 rfl ?_
        refine nf_hald (pc := 51) (by decide) (cf_below_in (by decide) c_6) dX5_setGroups_51 ?_
        refine nf_topR (p2 := (4, 0, 0, cf_num x)) rfl ?_
        refine nf_iln (pc := 52) dX5_setGroups_52 rfl ?_
        refine pf_X1_groups (by decide) (cf_below_lt (by decide) c_6) (pc := 53) lk_X5_74 dX5_setGroups_53 ?_
        refine nf_iln (pc := 56) dX5_setGroups_56 rfl ?_
        exact nf_to (by simp [cq_setGroups, c_6, c_10, c_16] <;> rfl) (by simp [cq_setGroups, c_6, c_10, c_16] <;> rfl) (nf_iret (pc := 57) dX5_setGroups_57)
      · refine nf_aln (pc := 19) dX5_setGroups_19 rfl ?_
        refine nf_bipush (pc := 20) (v := (-2)) dX5_setGroups_20 (by decide) ?_
        refine nf_cVi1 (pc := 22) (sp_X5_fail cf_slot2 (by decide)) rfl rfl rfl mk_X5_39 im_X5_fail se_X5_fail nm_X5_fail ⟨by decide, by decide⟩ (Nat.le_of_ble_eq_true rfl) dX5_setGroups_22 ?_
        exact nf_to (by simp [cq_setGroups, c_6, c_10, c_16] <;> rfl) (by simp [cq_setGroups, c_6, c_10, c_16] <;> rfl) (nf_iret (pc := 25) dX5_setGroups_25)
set_option maxRecDepth 100000 in
set_option maxHeartbeats 4000000 in
theorem sp_X5_setExpiry {L : nf_L} {S : nf_S} {c : Nat} {g x : Int32} (hs : cs_sv S c) : nf_Sp L 4 yX5_setExpiry cX5_setExpiry 4 (some .int) [.ref (L.2.2 (0, 0, 0, 0)), .int g, .int x] S (some (.int (cq_setExpiry c S g x).2)) (cq_setExpiry c S g x).1 := by
  refine nf_start (own := RX5) (ls0 := [some (.ref (L.2.2 (0, 0, 0, 0))), some (.int g), some (.int x), none]) (by decide) (Nat.le_of_ble_eq_true rfl) rfl rfl ?_
  refine nf_iln (pc := 0) dX5_setExpiry_0 rfl ?_
  refine nf_iconst (pc := 1) (v := 4) dX5_setExpiry_1 (by decide) ?_
  refine nf_cSi2 (pc := 2) sp_X5_isBelow mk_X5_35 st_X5_isBelow nm_X5_isBelow ⟨by decide, by decide⟩ (Nat.le_of_ble_eq_true rfl) dX5_setExpiry_2 ?_
  refine nf_if_eqB (pc := 5) 15 dX5_setExpiry_5 (by decide) (fun c_5 => ?_) (fun c_5 => ?_)
  · refine nf_aln (pc := 15) dX5_setExpiry_15 rfl ?_
    refine nf_bipush (pc := 16) (v := (-2)) dX5_setExpiry_16 (by decide) ?_
    refine nf_cVi1 (pc := 18) (sp_X5_fail cf_slot2 (by decide)) rfl rfl rfl mk_X5_39 im_X5_fail se_X5_fail nm_X5_fail ⟨by decide, by decide⟩ (Nat.le_of_ble_eq_true rfl) dX5_setExpiry_18 ?_
    exact nf_to (by simp [cq_setExpiry, c_5] <;> rfl) (by simp [cq_setExpiry, c_5] <;> rfl) (nf_iret (pc := 21) dX5_setExpiry_21)
  · refine nf_iln (pc := 8) dX5_setExpiry_8 rfl ?_
    refine nf_cSi1 (pc := 9) sp_X5_isLimit mk_X5_79 st_X5_isLimit nm_X5_isLimit ⟨by decide, by decide⟩ (Nat.le_of_ble_eq_true rfl) dX5_setExpiry_9 ?_
    refine nf_if_neB (pc := 12) 22 dX5_setExpiry_12 (by decide) (fun c_12 => ?_) (fun c_12 => ?_)
    · refine nf_aln (pc := 22) dX5_setExpiry_22 rfl ?_
      refine nf_cVv0 (pc := 23) (sp_X5_save hs) rfl rfl rfl mk_X5_56 im_X5_save se_X5_save nm_X5_save ⟨by decide, by decide⟩ (Nat.le_of_ble_eq_true rfl) dX5_setExpiry_23 ?_
      refine nf_aln (pc := 26) dX5_setExpiry_26 rfl ?_
      refine gf_X5_network (pc := 27) lk_X5_12 dX5_setExpiry_27 ?_
      refine gf_X3_expiry (by decide) (pc := 30) lk_X5_83 dX5_setExpiry_30 ?_
      refine nf_iln (pc := 33) dX5_setExpiry_33 rfl ?_
      refine nf_iald (pc := 34) (nf_okA (by decide) (by decide)) (cf_below_in (by decide) (n := 4) c_5) dX5_setExpiry_34 ?_
      refine nf_is3 (pc := 35) dX5_setExpiry_35 rfl (by decide) ?_
      refine nf_aln (pc := 36) dX5_setExpiry_36 rfl ?_
      refine gf_X5_network (pc := 37) lk_X5_12 dX5_setExpiry_37 ?_
      refine gf_X3_expiry (by decide) (pc := 40) lk_X5_83 dX5_setExpiry_40 ?_
      refine nf_iln (pc := 43) dX5_setExpiry_43 rfl ?_
      refine nf_iln (pc := 44) dX5_setExpiry_44 rfl ?_
      refine nf_iast (pc := 45) (nf_okA (by decide) (by decide)) (cf_below_in (by decide) (n := 4) c_5) dX5_setExpiry_45 ?_
      refine nf_iln (pc := 46) dX5_setExpiry_46 rfl ?_
      exact nf_to (by simp [cq_setExpiry, c_5, c_12] <;> rfl) (by simp [cq_setExpiry, c_5, c_12] <;> rfl) (nf_iret (pc := 47) dX5_setExpiry_47)
    · refine nf_aln (pc := 15) dX5_setExpiry_15 rfl ?_
      refine nf_bipush (pc := 16) (v := (-2)) dX5_setExpiry_16 (by decide) ?_
      refine nf_cVi1 (pc := 18) (sp_X5_fail cf_slot2 (by decide)) rfl rfl rfl mk_X5_39 im_X5_fail se_X5_fail nm_X5_fail ⟨by decide, by decide⟩ (Nat.le_of_ble_eq_true rfl) dX5_setExpiry_18 ?_
      exact nf_to (by simp [cq_setExpiry, c_5, c_12] <;> rfl) (by simp [cq_setExpiry, c_5, c_12] <;> rfl) (nf_iret (pc := 21) dX5_setExpiry_21)
set_option maxRecDepth 100000 in
set_option maxHeartbeats 4000000 in
theorem sp_X5_setHistoryLimit {L : nf_L} {S : nf_S} {c : Nat} {x : Int32} (hs : cs_sv S c) : nf_Sp L 4 yX5_setHistoryLimit cX5_setHistoryLimit 3 (some .int) [.ref (L.2.2 (0, 0, 0, 0)), .int x] S (some (.int (cq_setHistoryLimit c S x).2)) (cq_setHistoryLimit c S x).1 := by
  refine nf_start (own := RX5) (ls0 := [some (.ref (L.2.2 (0, 0, 0, 0))), some (.int x), none]) (by decide) (Nat.le_of_ble_eq_true rfl) rfl rfl ?_
  refine nf_iln (pc := 0) dX5_setHistoryLimit_0 rfl ?_
  refine nf_cSi1 (pc := 1) sp_X5_isLimit mk_X5_79 st_X5_isLimit nm_X5_isLimit ⟨by decide, by decide⟩ (Nat.le_of_ble_eq_true rfl) dX5_setHistoryLimit_1 ?_
  refine nf_if_neB (pc := 4) 14 dX5_setHistoryLimit_4 (by decide) (fun c_4 => ?_) (fun c_4 => ?_)
  · refine nf_aln (pc := 14) dX5_setHistoryLimit_14 rfl ?_
    refine nf_cVv0 (pc := 15) (sp_X5_save hs) rfl rfl rfl mk_X5_56 im_X5_save se_X5_save nm_X5_save ⟨by decide, by decide⟩ (Nat.le_of_ble_eq_true rfl) dX5_setHistoryLimit_15 ?_
    refine nf_aln (pc := 18) dX5_setHistoryLimit_18 rfl ?_
    refine gf_X5_network (pc := 19) lk_X5_12 dX5_setHistoryLimit_19 ?_
    refine gf_X3_historyLimit (by decide) (pc := 22) lk_X5_86 dX5_setHistoryLimit_22 ?_
    refine nf_is2 (pc := 25) dX5_setHistoryLimit_25 rfl (by decide) ?_
    refine nf_aln (pc := 26) dX5_setHistoryLimit_26 rfl ?_
    refine gf_X5_network (pc := 27) lk_X5_12 dX5_setHistoryLimit_27 ?_
    refine nf_iln (pc := 30) dX5_setHistoryLimit_30 rfl ?_
    refine pf_X3_historyLimit (by decide) (pc := 31) lk_X5_86 dX5_setHistoryLimit_31 ?_
    refine nf_iln (pc := 34) dX5_setHistoryLimit_34 rfl ?_
    exact nf_to (by simp [cq_setHistoryLimit, c_4] <;> rfl) (by simp [cq_setHistoryLimit, c_4] <;> rfl) (nf_iret (pc := 35) dX5_setHistoryLimit_35)
  · refine nf_aln (pc := 7) dX5_setHistoryLimit_7 rfl ?_
    refine nf_bipush (pc := 8) (v := (-2)) dX5_setHistoryLimit_8 (by decide) ?_
    refine nf_cVi1 (pc := 10) (sp_X5_fail cf_slot2 (by decide)) rfl rfl rfl mk_X5_39 im_X5_fail se_X5_fail nm_X5_fail ⟨by decide, by decide⟩ (Nat.le_of_ble_eq_true rfl) dX5_setHistoryLimit_10 ?_
    exact nf_to (by simp [cq_setHistoryLimit, c_4] <;> rfl) (by simp [cq_setHistoryLimit, c_4] <;> rfl) (nf_iret (pc := 13) dX5_setHistoryLimit_13)
set_option maxRecDepth 100000 in
set_option maxHeartbeats 4000000 in
theorem sp_X5_publish {L : nf_L} {S : nf_S} {nl na c : Nat} {h : Nat} {g a e t : Int32} (hk : cs_ok S nl na) (hs : cs_sv S c) (hh : h < 6) (hg : ∃ x, x < 4 ∧ g = nI x) (ht : e = 0 ∨ ∃ x, x < 30 ∧ t = nI x) : nf_Sp L 4 yX5_publish cX5_publish 7 (some .int) [.ref (L.2.2 (0, 0, 0, 0)), .int (nI h), .int g, .int a, .int e, .int t] S (some (.int (cq_publish na c S h g a e t).2)) (cq_publish na c S h g a e t).1 := by
  have hk1 := hk.save hs
  refine nf_start (own := RX5) (ls0 := [some (.ref (L.2.2 (0, 0, 0, 0))), some (.int (nI h)), some (.int g), some (.int a), some (.int e), some (.int t), none]) (by decide) (Nat.le_of_ble_eq_true rfl) rfl rfl ?_
  refine nf_aln (pc := 0) dX5_publish_0 rfl ?_
  refine gf_X5_network (pc := 1) lk_X5_12 dX5_publish_1 ?_
  refine gf_X3_articles (by decide) (pc := 4) lk_X5_96 dX5_publish_4 ?_
  refine gf_X0_count (by decide) (pc := 7) lk_X5_128 dX5_publish_7 ?_
  refine nf_topI (y := nI (na)) hk.2.2.2.1 ?_
  refine nf_bipush (pc := 10) (v := 30) dX5_publish_10 (by decide) ?_
  refine nf_ic_lt (pc := 12) 22 dX5_publish_12 (by decide) (fun c_12 => ?_) (fun c_12 => ?_)
  · have hna : na < 30 := cf_ltI (b := 30) c_12 (by have := hk.2.1; omega)
    refine nf_aln (pc := 22) dX5_publish_22 rfl ?_
    refine nf_cVv0 (pc := 23) (sp_X5_save hs) rfl rfl rfl mk_X5_56 im_X5_save se_X5_save nm_X5_save ⟨by decide, by decide⟩ (Nat.le_of_ble_eq_true rfl) dX5_publish_23 ?_
    refine nf_aln (pc := 26) dX5_publish_26 rfl ?_
    refine gf_X5_network (pc := 27) lk_X5_12 dX5_publish_27 ?_
    refine gf_X3_articles (by decide) (pc := 30) lk_X5_96 dX5_publish_30 ?_
    refine nf_iln (pc := 33) dX5_publish_33 rfl ?_
    refine nf_iln (pc := 34) dX5_publish_34 rfl ?_
    refine nf_aln (pc := 35) dX5_publish_35 rfl ?_
    refine gf_X5_network (pc := 36) lk_X5_12 dX5_publish_36 ?_
    refine gf_X3_today (by decide) (pc := 39) lk_X5_138 dX5_publish_39 ?_
    refine nf_il (pc := 42) dX5_publish_42 rfl ?_
    refine nf_il (pc := 44) dX5_publish_44 rfl ?_
    refine nf_cVi5 (pc := 46) (sp_X0_append (by decide) hk1.2.2.2.1 hna) ⟨(by decide), rfl⟩ rfl rfl mk_X5_170 im_X0_append se_X0_append nm_X0_append ⟨by decide, by decide⟩ (Nat.le_of_ble_eq_true rfl) dX5_publish_46 ?_
    refine nf_from (S' := cs_app (cs_save S c) na g a e t) rfl ?_
    refine nf_is6 (pc := 49) dX5_publish_49 rfl (by decide) ?_
    refine nf_aln (pc := 51) dX5_publish_51 rfl ?_
    refine gf_X5_network (pc := 52) lk_X5_12 dX5_publish_52 ?_
    refine nf_il (pc := 55) dX5_publish_55 rfl ?_
    refine nf_iln (pc := 57) dX5_publish_57 rfl ?_
    refine nf_iconst (pc := 58) (v := 0) dX5_publish_58 (by decide) ?_
    refine nf_cVi3 (pc := 59) (sp_X3_arrive (cs_ok_app (a := a) hk1 hna hg ht) hh (Nat.lt_succ_self na)) ⟨(by decide), rfl⟩ rfl rfl mk_X5_172 im_X3_arrive se_X3_arrive nm_X3_arrive ⟨by decide, by decide⟩ (Nat.le_of_ble_eq_true rfl) dX5_publish_59 ?_
    refine nf_pop (pc := 62) dX5_publish_62 rfl ?_
    refine nf_il (pc := 63) dX5_publish_63 rfl ?_
    exact nf_to (by simp [cq_publish, c_12] <;> rfl) (by simp [cq_publish, c_12] <;> rfl) (nf_iret (pc := 65) dX5_publish_65)
  · refine nf_aln (pc := 15) dX5_publish_15 rfl ?_
    refine nf_bipush (pc := 16) (v := (-4)) dX5_publish_16 (by decide) ?_
    refine nf_cVi1 (pc := 18) (sp_X5_fail cf_slot4 (by decide)) rfl rfl rfl mk_X5_39 im_X5_fail se_X5_fail nm_X5_fail ⟨by decide, by decide⟩ (Nat.le_of_ble_eq_true rfl) dX5_publish_18 ?_
    exact nf_to (by simp [cq_publish, c_12] <;> rfl) (by simp [cq_publish, c_12] <;> rfl) (nf_iret (pc := 21) dX5_publish_21)
set_option maxRecDepth 100000 in
set_option maxHeartbeats 4000000 in
theorem sp_X5_post {L : nf_L} {S : nf_S} {nl na c : Nat} {x g a : Int32} (hk : cs_ok S nl na) (hs : cs_sv S c) : nf_Sp L 5 yX5_post cX5_post 4 (some .int) [.ref (L.2.2 (0, 0, 0, 0)), .int x, .int g, .int a] S (some (.int (cq_post na c S x g a).2)) (cq_post na c S x g a).1 := by
  refine nf_start (own := RX5) (ls0 := [some (.ref (L.2.2 (0, 0, 0, 0))), some (.int x), some (.int g), some (.int a)]) (by decide) (Nat.le_of_ble_eq_true rfl) rfl rfl ?_
  refine nf_iln (pc := 0) dX5_post_0 rfl ?_
  refine nf_bipush (pc := 1) (v := 6) dX5_post_1 (by decide) ?_
  refine nf_cSi2 (pc := 3) sp_X5_isBelow mk_X5_35 st_X5_isBelow nm_X5_isBelow ⟨by decide, by decide⟩ (Nat.le_of_ble_eq_true rfl) dX5_post_3 ?_
  refine nf_if_eqB (pc := 6) 26 dX5_post_6 (by decide) (fun c_6 => ?_) (fun c_6 => ?_)
  · refine nf_aln (pc := 26) dX5_post_26 rfl ?_
    refine nf_bipush (pc := 27) (v := (-2)) dX5_post_27 (by decide) ?_
    refine nf_cVi1 (pc := 29) (sp_X5_fail cf_slot2 (by decide)) rfl rfl rfl mk_X5_39 im_X5_fail se_X5_fail nm_X5_fail ⟨by decide, by decide⟩ (Nat.le_of_ble_eq_true rfl) dX5_post_29 ?_
    exact nf_to (by simp [cq_post, c_6] <;> rfl) (by simp [cq_post, c_6] <;> rfl) (nf_iret (pc := 32) dX5_post_32)
  · refine nf_iln (pc := 9) dX5_post_9 rfl ?_
    refine nf_iconst (pc := 10) (v := 4) dX5_post_10 (by decide) ?_
    refine nf_cSi2 (pc := 11) sp_X5_isBelow mk_X5_35 st_X5_isBelow nm_X5_isBelow ⟨by decide, by decide⟩ (Nat.le_of_ble_eq_true rfl) dX5_post_11 ?_
    refine nf_if_eqB (pc := 14) 26 dX5_post_14 (by decide) (fun c_14 => ?_) (fun c_14 => ?_)
    · refine nf_aln (pc := 26) dX5_post_26 rfl ?_
      refine nf_bipush (pc := 27) (v := (-2)) dX5_post_27 (by decide) ?_
      refine nf_cVi1 (pc := 29) (sp_X5_fail cf_slot2 (by decide)) rfl rfl rfl mk_X5_39 im_X5_fail se_X5_fail nm_X5_fail ⟨by decide, by decide⟩ (Nat.le_of_ble_eq_true rfl) dX5_post_29 ?_
      exact nf_to (by simp [cq_post, c_6, c_14] <;> rfl) (by simp [cq_post, c_6, c_14] <;> rfl) (nf_iret (pc := 32) dX5_post_32)
    · refine nf_iln (pc := 17) dX5_post_17 rfl ?_
      refine nf_bipush (pc := 18) (v := 10) dX5_post_18 (by decide) ?_
      refine nf_cSi2 (pc := 20) sp_X5_isBelow mk_X5_35 st_X5_isBelow nm_X5_isBelow ⟨by decide, by decide⟩ (Nat.le_of_ble_eq_true rfl) dX5_post_20 ?_
      refine nf_if_neB (pc := 23) 33 dX5_post_23 (by decide) (fun c_23 => ?_) (fun c_23 => ?_)
      · refine nf_aln (pc := 33) dX5_post_33 rfl ?_
        refine nf_iln (pc := 34) dX5_post_34 rfl ?_
        refine nf_topI (y := nI (cf_num x)) (cf_below_eq (n := 6) (by decide) c_6) ?_
        refine nf_iln (pc := 35) dX5_post_35 rfl ?_
        refine nf_iln (pc := 36) dX5_post_36 rfl ?_
        refine nf_iconst (pc := 37) (v := 0) dX5_post_37 (by decide) ?_
        refine nf_iconst (pc := 38) (v := (-1)) dX5_post_38 (by decide) ?_
        refine nf_cVi5 (pc := 39) (sp_X5_publish hk hs (cf_below_lt (n := 6) (by decide) c_6) ⟨_, cf_below_lt (n := 4) (by decide) c_14, cf_below_eq (n := 4) (by decide) c_14⟩ (Or.inl rfl)) rfl rfl rfl mk_X5_89 im_X5_publish se_X5_publish nm_X5_publish ⟨by decide, by decide⟩ (Nat.le_of_ble_eq_true rfl) dX5_post_39 ?_
        exact nf_to (by simp [cq_post, c_6, c_14, c_23] <;> rfl) (by simp [cq_post, c_6, c_14, c_23] <;> rfl) (nf_iret (pc := 42) dX5_post_42)
      · refine nf_aln (pc := 26) dX5_post_26 rfl ?_
        refine nf_bipush (pc := 27) (v := (-2)) dX5_post_27 (by decide) ?_
        refine nf_cVi1 (pc := 29) (sp_X5_fail cf_slot2 (by decide)) rfl rfl rfl mk_X5_39 im_X5_fail se_X5_fail nm_X5_fail ⟨by decide, by decide⟩ (Nat.le_of_ble_eq_true rfl) dX5_post_29 ?_
        exact nf_to (by simp [cq_post, c_6, c_14, c_23] <;> rfl) (by simp [cq_post, c_6, c_14, c_23] <;> rfl) (nf_iret (pc := 32) dX5_post_32)
set_option maxRecDepth 100000 in
set_option maxHeartbeats 4000000 in
theorem sp_X5_postAction {L : nf_L} {S : nf_S} {nl na c : Nat} {x a e t : Int32} (hk : cs_ok S nl na) (hs : cs_sv S c) : nf_Sp L 5 yX5_postAction cX5_postAction 5 (some .int) [.ref (L.2.2 (0, 0, 0, 0)), .int x, .int a, .int e, .int t] S (some (.int (cq_postAction na c S x a e t).2)) (cq_postAction na c S x a e t).1 := by
  have h30 := hk.2.1
  refine nf_start (own := RX5) (ls0 := [some (.ref (L.2.2 (0, 0, 0, 0))), some (.int x), some (.int a), some (.int e), some (.int t)]) (by decide) (Nat.le_of_ble_eq_true rfl) rfl rfl ?_
  refine nf_iln (pc := 0) dX5_postAction_0 rfl ?_
  refine nf_bipush (pc := 1) (v := 6) dX5_postAction_1 (by decide) ?_
  refine nf_cSi2 (pc := 3) sp_X5_isBelow mk_X5_35 st_X5_isBelow nm_X5_isBelow ⟨by decide, by decide⟩ (Nat.le_of_ble_eq_true rfl) dX5_postAction_3 ?_
  refine nf_if_eqB (pc := 6) 37 dX5_postAction_6 (by decide) (fun c_6 => ?_) (fun c_6 => ?_)
  · refine nf_aln (pc := 37) dX5_postAction_37 rfl ?_
    refine nf_bipush (pc := 38) (v := (-2)) dX5_postAction_38 (by decide) ?_
    refine nf_cVi1 (pc := 40) (sp_X5_fail cf_slot2 (by decide)) rfl rfl rfl mk_X5_39 im_X5_fail se_X5_fail nm_X5_fail ⟨by decide, by decide⟩ (Nat.le_of_ble_eq_true rfl) dX5_postAction_40 ?_
    exact nf_to (by simp [cq_postAction, c_6] <;> rfl) (by simp [cq_postAction, c_6] <;> rfl) (nf_iret (pc := 43) dX5_postAction_43)
  · refine nf_iln (pc := 9) dX5_postAction_9 rfl ?_
    refine nf_bipush (pc := 10) (v := 10) dX5_postAction_10 (by decide) ?_
    refine nf_cSi2 (pc := 12) sp_X5_isBelow mk_X5_35 st_X5_isBelow nm_X5_isBelow ⟨by decide, by decide⟩ (Nat.le_of_ble_eq_true rfl) dX5_postAction_12 ?_
    refine nf_if_eqB (pc := 15) 37 dX5_postAction_15 (by decide) (fun c_15 => ?_) (fun c_15 => ?_)
    · refine nf_aln (pc := 37) dX5_postAction_37 rfl ?_
      refine nf_bipush (pc := 38) (v := (-2)) dX5_postAction_38 (by decide) ?_
      refine nf_cVi1 (pc := 40) (sp_X5_fail cf_slot2 (by decide)) rfl rfl rfl mk_X5_39 im_X5_fail se_X5_fail nm_X5_fail ⟨by decide, by decide⟩ (Nat.le_of_ble_eq_true rfl) dX5_postAction_40 ?_
      exact nf_to (by simp [cq_postAction, c_6, c_15] <;> rfl) (by simp [cq_postAction, c_6, c_15] <;> rfl) (nf_iret (pc := 43) dX5_postAction_43)
    · refine nf_iln (pc := 18) dX5_postAction_18 rfl ?_
      refine nf_iconst (pc := 19) (v := 1) dX5_postAction_19 (by decide) ?_
      refine nf_ic_lt (pc := 20) 37 dX5_postAction_20 (by decide) (fun c_20 => ?_) (fun c_20 => ?_)
      · refine nf_aln (pc := 37) dX5_postAction_37 rfl ?_
        refine nf_bipush (pc := 38) (v := (-2)) dX5_postAction_38 (by decide) ?_
        refine nf_cVi1 (pc := 40) (sp_X5_fail cf_slot2 (by decide)) rfl rfl rfl mk_X5_39 im_X5_fail se_X5_fail nm_X5_fail ⟨by decide, by decide⟩ (Nat.le_of_ble_eq_true rfl) dX5_postAction_40 ?_
        exact nf_to (by simp [cq_postAction, c_6, c_15, c_20] <;> rfl) (by simp [cq_postAction, c_6, c_15, c_20] <;> rfl) (nf_iret (pc := 43) dX5_postAction_43)
      · refine nf_iln (pc := 23) dX5_postAction_23 rfl ?_
        refine nf_iconst (pc := 24) (v := 2) dX5_postAction_24 (by decide) ?_
        refine nf_ic_gt (pc := 25) 37 dX5_postAction_25 (by decide) (fun c_25 => ?_) (fun c_25 => ?_)
        · refine nf_aln (pc := 37) dX5_postAction_37 rfl ?_
          refine nf_bipush (pc := 38) (v := (-2)) dX5_postAction_38 (by decide) ?_
          refine nf_cVi1 (pc := 40) (sp_X5_fail cf_slot2 (by decide)) rfl rfl rfl mk_X5_39 im_X5_fail se_X5_fail nm_X5_fail ⟨by decide, by decide⟩ (Nat.le_of_ble_eq_true rfl) dX5_postAction_40 ?_
          exact nf_to (by simp [cq_postAction, c_6, c_15, c_20, c_25] <;> rfl) (by simp [cq_postAction, c_6, c_15, c_20, c_25] <;> rfl) (nf_iret (pc := 43) dX5_postAction_43)
        · refine nf_aln (pc := 28) dX5_postAction_28 rfl ?_
          refine nf_il (pc := 29) dX5_postAction_29 rfl ?_
          refine nf_cVi1 (pc := 31) (sp_X5_isArticle hk) rfl rfl rfl mk_X5_93 im_X5_isArticle se_X5_isArticle nm_X5_isArticle ⟨by decide, by decide⟩ (Nat.le_of_ble_eq_true rfl) dX5_postAction_31 ?_
          refine nf_if_neB (pc := 34) 44 dX5_postAction_34 (by decide) (fun c_34 => ?_) (fun c_34 => ?_)
          · have ht := cf_below_lt (by omega) c_34
            have ht2 := cf_below_eq (by omega) c_34
            refine nf_aln (pc := 44) dX5_postAction_44 rfl ?_
            refine nf_iln (pc := 45) dX5_postAction_45 rfl ?_
            refine nf_topI (y := nI (cf_num x)) (cf_below_eq (n := 6) (by decide) c_6) ?_
            refine nf_aln (pc := 46) dX5_postAction_46 rfl ?_
            refine gf_X5_network (pc := 47) lk_X5_12 dX5_postAction_47 ?_
            refine gf_X3_articles (by decide) (pc := 50) lk_X5_96 dX5_postAction_50 ?_
            refine gf_X0_group (by decide) (pc := 53) lk_X5_100 dX5_postAction_53 ?_
            refine nf_il (pc := 56) dX5_postAction_56 rfl ?_
            refine nf_iald (pc := 58) (nf_okA (by decide) (by decide)) (by rw [ht2]; exact nf_inI (show _ < 30 by omega) (by decide)) dX5_postAction_58 ?_
            refine nf_iln (pc := 59) dX5_postAction_59 rfl ?_
            refine nf_iln (pc := 60) dX5_postAction_60 rfl ?_
            refine nf_il (pc := 61) dX5_postAction_61 rfl ?_
            refine nf_cVi5 (pc := 63) (sp_X5_publish hk hs (cf_below_lt (n := 6) (by decide) c_6) (hk.2.2.2.2 _ ht).2 (Or.inr ⟨_, by omega, ht2⟩)) rfl rfl rfl mk_X5_89 im_X5_publish se_X5_publish nm_X5_publish ⟨by decide, by decide⟩ (Nat.le_of_ble_eq_true rfl) dX5_postAction_63 ?_
            exact nf_to (by simp [cq_postAction, c_6, c_15, c_20, c_25, c_34] <;> rfl) (by simp [cq_postAction, c_6, c_15, c_20, c_25, c_34] <;> rfl) (nf_iret (pc := 66) dX5_postAction_66)
          · refine nf_aln (pc := 37) dX5_postAction_37 rfl ?_
            refine nf_bipush (pc := 38) (v := (-2)) dX5_postAction_38 (by decide) ?_
            refine nf_cVi1 (pc := 40) (sp_X5_fail cf_slot2 (by decide)) rfl rfl rfl mk_X5_39 im_X5_fail se_X5_fail nm_X5_fail ⟨by decide, by decide⟩ (Nat.le_of_ble_eq_true rfl) dX5_postAction_40 ?_
            exact nf_to (by simp [cq_postAction, c_6, c_15, c_20, c_25, c_34] <;> rfl) (by simp [cq_postAction, c_6, c_15, c_20, c_25, c_34] <;> rfl) (nf_iret (pc := 43) dX5_postAction_43)
set_option maxRecDepth 100000 in
set_option maxHeartbeats 4000000 in
theorem sp_X5_round {L : nf_L} {S : nf_S} {nl na c : Nat}  (hk : cs_ok S nl na) (hs : cs_sv S c) : nf_Sp L 6 yX5_round cX5_round 1 (some .int) [.ref (L.2.2 (0, 0, 0, 0))] S (some (.int (cs_rnd (cs_save S c) na).2)) (cs_rnd (cs_save S c) na).1 := by
  refine nf_start (own := RX5) (ls0 := [some (.ref (L.2.2 (0, 0, 0, 0)))]) (by decide) (Nat.le_of_ble_eq_true rfl) rfl rfl ?_
  refine nf_aln (pc := 0) dX5_round_0 rfl ?_
  refine nf_cVv0 (pc := 1) (sp_X5_save hs) rfl rfl rfl mk_X5_56 im_X5_save se_X5_save nm_X5_save ⟨by decide, by decide⟩ (Nat.le_of_ble_eq_true rfl) dX5_round_1 ?_
  refine nf_aln (pc := 4) dX5_round_4 rfl ?_
  refine gf_X5_network (pc := 5) lk_X5_12 dX5_round_5 ?_
  refine nf_aln (pc := 8) dX5_round_8 rfl ?_
  refine gf_X5_taken (pc := 9) lk_X5_19 dX5_round_9 ?_
  refine nf_cVi1 (pc := 12) (sp_X3_performRound (hk.save hs)) ⟨(by decide), rfl⟩ rfl rfl mk_X5_105 im_X3_performRound se_X3_performRound nm_X3_performRound ⟨by decide, by decide⟩ (Nat.le_of_ble_eq_true rfl) dX5_round_12 ?_
  exact nf_iret (pc := 15) dX5_round_15
set_option maxRecDepth 100000 in
set_option maxHeartbeats 4000000 in
theorem sp_X5_nextDay {L : nf_L} {S : nf_S} {nl na c : Nat}  (hk : cs_ok S nl na) (hs : cs_sv S c) : nf_Sp L 4 yX5_nextDay cX5_nextDay 1 (some .int) [.ref (L.2.2 (0, 0, 0, 0))] S (some (.int (cs_day na 6 (nf_sI (cs_save S c) 0 0 0 (nf_I (cs_save S c) 0 0 0 + 1)) 0 0).2)) (cs_day na 6 (nf_sI (cs_save S c) 0 0 0 (nf_I (cs_save S c) 0 0 0 + 1)) 0 0).1 := by
  refine nf_start (own := RX5) (ls0 := [some (.ref (L.2.2 (0, 0, 0, 0)))]) (by decide) (Nat.le_of_ble_eq_true rfl) rfl rfl ?_
  refine nf_aln (pc := 0) dX5_nextDay_0 rfl ?_
  refine nf_cVv0 (pc := 1) (sp_X5_save hs) rfl rfl rfl mk_X5_56 im_X5_save se_X5_save nm_X5_save ⟨by decide, by decide⟩ (Nat.le_of_ble_eq_true rfl) dX5_nextDay_1 ?_
  refine nf_aln (pc := 4) dX5_nextDay_4 rfl ?_
  refine gf_X5_network (pc := 5) lk_X5_12 dX5_nextDay_5 ?_
  refine nf_cVi0 (pc := 8) (sp_X3_beginDay (hk.save hs)) ⟨(by decide), rfl⟩ rfl rfl mk_X5_116 im_X3_beginDay se_X3_beginDay nm_X3_beginDay ⟨by decide, by decide⟩ (Nat.le_of_ble_eq_true rfl) dX5_nextDay_8 ?_
  exact nf_iret (pc := 11) dX5_nextDay_11
theorem cs_ok.rnd {S : nf_S} {nl na : Nat} (h : cs_ok S nl na) : cs_ok (cs_rnd S na).1 nl na := (cs_ok_cpq h).same (cs_same_art na _ 0 0)
set_option maxRecDepth 100000 in
set_option maxHeartbeats 4000000 in
theorem lp_settle {L : nf_L} {nl na : Nat}  : ∀ (m : Nat) (S : nf_S) (k : Nat), (k + m = 6) → (cs_ok S nl na) → nf_V L 6 cX5_settle RX5 2 (some .int) (some (.int (nI (cs_stl na m S k).2))) (cs_stl na m S k).1 6 [some (.ref (L.2.2 (0, 0, 0, 0))), some (.int (nI k))] [] S := by
  intro m
  induction m with
  | zero =>
    intro S k hkm hk
    refine nf_iln (pc := 6) dX5_settle_6 rfl ?_
    refine nf_bipush (pc := 7) (v := 6) dX5_settle_7 (by decide) ?_
    refine nf_ic_ge (pc := 9) 43 dX5_settle_9 (by decide) (fun c_9 => ?_) (fun c_9 => ?_)
    · refine nf_iln (pc := 43) dX5_settle_43 rfl ?_
      exact (nf_iret (pc := 44) dX5_settle_44)
    · exact absurd (nI_le (a := 6) (by omega) (by omega)) c_9
  | succ m ih =>
    intro S k hkm hk
    refine nf_iln (pc := 6) dX5_settle_6 rfl ?_
    refine nf_bipush (pc := 7) (v := 6) dX5_settle_7 (by decide) ?_
    refine nf_ic_ge (pc := 9) 43 dX5_settle_9 (by decide) (fun c_9 => ?_) (fun c_9 => ?_)
    · exact absurd c_9 (nI_ge (b := 6) (by omega) (by omega))
    · refine nf_aln (pc := 12) dX5_settle_12 rfl ?_
      refine gf_X5_network (pc := 13) lk_X5_12 dX5_settle_13 ?_
      refine gf_X3_queue (by decide) (pc := 16) lk_X5_109 dX5_settle_16 ?_
      refine nf_cVi0 (pc := 19) (sp_X4_size (by decide)) ⟨(by decide), rfl⟩ rfl rfl mk_X5_112 im_X4_size se_X4_size nm_X4_size ⟨by decide, by decide⟩ (Nat.le_of_ble_eq_true rfl) dX5_settle_19 ?_
      refine nf_if_le (pc := 22) 43 dX5_settle_22 (by decide) (fun c_22 => ?_) (fun c_22 => ?_)
      · refine nf_iln (pc := 43) dX5_settle_43 rfl ?_
        exact nf_to (by simp [cs_stl, c_22]) (by simp [cs_stl, c_22]) (nf_iret (pc := 44) dX5_settle_44)
      · refine nf_aln (pc := 25) dX5_settle_25 rfl ?_
        refine gf_X5_network (pc := 26) lk_X5_12 dX5_settle_26 ?_
        refine nf_aln (pc := 29) dX5_settle_29 rfl ?_
        refine gf_X5_taken (pc := 30) lk_X5_19 dX5_settle_30 ?_
        refine nf_cVi1 (pc := 33) (sp_X3_performRound hk) ⟨(by decide), rfl⟩ rfl rfl mk_X5_105 im_X3_performRound se_X3_performRound nm_X3_performRound ⟨by decide, by decide⟩ (Nat.le_of_ble_eq_true rfl) dX5_settle_33 ?_
        refine nf_pop (pc := 36) dX5_settle_36 rfl ?_
        refine nf_iinc1 (pc := 37) (v := nI (k + 1)) dX5_settle_37 (nI_succ (k)).symm rfl (by decide) ?_
        refine nf_goto (pc := 40) 6 dX5_settle_40 (by decide) ?_
        exact nf_to (by simp [cs_stl, c_22]) (by simp [cs_stl, c_22]) (ih _ (k + 1) (by omega) hk.rnd)
set_option maxRecDepth 100000 in
set_option maxHeartbeats 4000000 in
theorem sp_X5_settle {L : nf_L} {S : nf_S} {nl na c : Nat}  (hk : cs_ok S nl na) (hs : cs_sv S c) : nf_Sp L 6 yX5_settle cX5_settle 2 (some .int) [.ref (L.2.2 (0, 0, 0, 0))] S (some (.int (nI (cs_stl na 6 (cs_save S c) 0).2))) (cs_stl na 6 (cs_save S c) 0).1 := by
  refine nf_start (own := RX5) (ls0 := [some (.ref (L.2.2 (0, 0, 0, 0))), none]) (by decide) (Nat.le_of_ble_eq_true rfl) rfl rfl ?_
  refine nf_aln (pc := 0) dX5_settle_0 rfl ?_
  refine nf_cVv0 (pc := 1) (sp_X5_save hs) rfl rfl rfl mk_X5_56 im_X5_save se_X5_save nm_X5_save ⟨by decide, by decide⟩ (Nat.le_of_ble_eq_true rfl) dX5_settle_1 ?_
  refine nf_iconst (pc := 4) (v := 0) dX5_settle_4 (by decide) ?_
  refine nf_is1 (pc := 5) dX5_settle_5 rfl (by decide) ?_
  exact lp_settle 6 _ 0 (by omega) (hk.save hs)
set_option maxRecDepth 100000 in
set_option maxHeartbeats 4000000 in
theorem sp_X5_isStored {L : nf_L} {S : nf_S} {nl na : Nat} {x a : Int32} (hk : cs_ok S nl na) : nf_Sp L 2 yX5_isStored cX5_isStored 3 (some .int) [.ref (L.2.2 (0, 0, 0, 0)), .int x, .int a] S (some (.int (cq_isStored na S x a).2)) (cq_isStored na S x a).1 := by
  refine nf_start (own := RX5) (ls0 := [some (.ref (L.2.2 (0, 0, 0, 0))), some (.int x), some (.int a)]) (by decide) (Nat.le_of_ble_eq_true rfl) rfl rfl ?_
  refine nf_iln (pc := 0) dX5_isStored_0 rfl ?_
  refine nf_bipush (pc := 1) (v := 6) dX5_isStored_1 (by decide) ?_
  refine nf_cSi2 (pc := 3) sp_X5_isBelow mk_X5_35 st_X5_isBelow nm_X5_isBelow ⟨by decide, by decide⟩ (Nat.le_of_ble_eq_true rfl) dX5_isStored_3 ?_
  refine nf_if_eqB (pc := 6) 17 dX5_isStored_6 (by decide) (fun c_6 => ?_) (fun c_6 => ?_)
  · refine nf_aln (pc := 17) dX5_isStored_17 rfl ?_
    refine nf_bipush (pc := 18) (v := (-2)) dX5_isStored_18 (by decide) ?_
    refine nf_cVi1 (pc := 20) (sp_X5_fail cf_slot2 (by decide)) rfl rfl rfl mk_X5_39 im_X5_fail se_X5_fail nm_X5_fail ⟨by decide, by decide⟩ (Nat.le_of_ble_eq_true rfl) dX5_isStored_20 ?_
    exact nf_to (by simp [cq_isStored, nf_b, c_6] <;> rfl) (by simp [cq_isStored, nf_b, c_6] <;> rfl) (nf_iret (pc := 23) dX5_isStored_23)
  · refine nf_aln (pc := 9) dX5_isStored_9 rfl ?_
    refine nf_iln (pc := 10) dX5_isStored_10 rfl ?_
    refine nf_cVi1 (pc := 11) (sp_X5_isArticle hk) rfl rfl rfl mk_X5_93 im_X5_isArticle se_X5_isArticle nm_X5_isArticle ⟨by decide, by decide⟩ (Nat.le_of_ble_eq_true rfl) dX5_isStored_11 ?_
    refine nf_if_neB (pc := 14) 24 dX5_isStored_14 (by decide) (fun c_14 => ?_) (fun c_14 => ?_)
    · refine nf_aln (pc := 24) dX5_isStored_24 rfl ?_
      refine gf_X5_network (pc := 25) lk_X5_12 dX5_isStored_25 ?_
      refine gf_X3_hosts (by decide) (pc := 28) lk_X5_70 dX5_isStored_28 ?_
      refine nf_iln (pc := 31) dX5_isStored_31 rfl ?_
      refine nf_hald (pc := 32) (by decide) (cf_below_in (by decide) c_6) dX5_isStored_32 ?_
      refine nf_topR (p2 := (4, 0, 0, cf_num x)) rfl ?_
      refine nf_iln (pc := 33) dX5_isStored_33 rfl ?_
      refine nf_cVi1 (pc := 34) (sp_X1_stores (by decide) (cf_below_lt (n := 6) (by decide) c_6)) (nf_ok4 (by decide) (cf_below_lt (by decide) c_6)) rfl rfl mk_X5_119 im_X1_stores se_X1_stores nm_X1_stores ⟨by decide, by decide⟩ (Nat.le_of_ble_eq_true rfl) dX5_isStored_34 ?_
      refine nf_if_eqB (pc := 37) 44 dX5_isStored_37 (by decide) (fun c_37 => ?_) (fun c_37 => ?_)
      · refine nf_iconst (pc := 44) (v := 0) dX5_isStored_44 (by decide) ?_
        exact nf_to (by simp [cq_isStored, nf_b, c_6, c_14, c_37] <;> rfl) (by simp [cq_isStored, nf_b, c_6, c_14, c_37] <;> rfl) (nf_iret (pc := 45) dX5_isStored_45)
      · refine nf_iconst (pc := 40) (v := 1) dX5_isStored_40 (by decide) ?_
        refine nf_goto (pc := 41) 45 dX5_isStored_41 (by decide) ?_
        exact nf_to (by simp [cq_isStored, nf_b, c_6, c_14, c_37] <;> rfl) (by simp [cq_isStored, nf_b, c_6, c_14, c_37] <;> rfl) (nf_iret (pc := 45) dX5_isStored_45)
    · refine nf_aln (pc := 17) dX5_isStored_17 rfl ?_
      refine nf_bipush (pc := 18) (v := (-2)) dX5_isStored_18 (by decide) ?_
      refine nf_cVi1 (pc := 20) (sp_X5_fail cf_slot2 (by decide)) rfl rfl rfl mk_X5_39 im_X5_fail se_X5_fail nm_X5_fail ⟨by decide, by decide⟩ (Nat.le_of_ble_eq_true rfl) dX5_isStored_20 ?_
      exact nf_to (by simp [cq_isStored, nf_b, c_6, c_14] <;> rfl) (by simp [cq_isStored, nf_b, c_6, c_14] <;> rfl) (nf_iret (pc := 23) dX5_isStored_23)
set_option maxRecDepth 100000 in
set_option maxHeartbeats 4000000 in
theorem sp_X5_knownSince {L : nf_L} {S : nf_S} {nl na : Nat} {x a : Int32} (hk : cs_ok S nl na) : nf_Sp L 2 yX5_knownSince cX5_knownSince 3 (some .int) [.ref (L.2.2 (0, 0, 0, 0)), .int x, .int a] S (some (.int (cq_knownSince na S x a).2)) (cq_knownSince na S x a).1 := by
  refine nf_start (own := RX5) (ls0 := [some (.ref (L.2.2 (0, 0, 0, 0))), some (.int x), some (.int a)]) (by decide) (Nat.le_of_ble_eq_true rfl) rfl rfl ?_
  refine nf_iln (pc := 0) dX5_knownSince_0 rfl ?_
  refine nf_bipush (pc := 1) (v := 6) dX5_knownSince_1 (by decide) ?_
  refine nf_cSi2 (pc := 3) sp_X5_isBelow mk_X5_35 st_X5_isBelow nm_X5_isBelow ⟨by decide, by decide⟩ (Nat.le_of_ble_eq_true rfl) dX5_knownSince_3 ?_
  refine nf_if_eqB (pc := 6) 17 dX5_knownSince_6 (by decide) (fun c_6 => ?_) (fun c_6 => ?_)
  · refine nf_aln (pc := 17) dX5_knownSince_17 rfl ?_
    refine nf_bipush (pc := 18) (v := (-2)) dX5_knownSince_18 (by decide) ?_
    refine nf_cVi1 (pc := 20) (sp_X5_fail cf_slot2 (by decide)) rfl rfl rfl mk_X5_39 im_X5_fail se_X5_fail nm_X5_fail ⟨by decide, by decide⟩ (Nat.le_of_ble_eq_true rfl) dX5_knownSince_20 ?_
    exact nf_to (by simp [cq_knownSince, c_6] <;> rfl) (by simp [cq_knownSince, c_6] <;> rfl) (nf_iret (pc := 23) dX5_knownSince_23)
  · refine nf_aln (pc := 9) dX5_knownSince_9 rfl ?_
    refine nf_iln (pc := 10) dX5_knownSince_10 rfl ?_
    refine nf_cVi1 (pc := 11) (sp_X5_isArticle hk) rfl rfl rfl mk_X5_93 im_X5_isArticle se_X5_isArticle nm_X5_isArticle ⟨by decide, by decide⟩ (Nat.le_of_ble_eq_true rfl) dX5_knownSince_11 ?_
    refine nf_if_neB (pc := 14) 24 dX5_knownSince_14 (by decide) (fun c_14 => ?_) (fun c_14 => ?_)
    · have h30 := hk.2.1
      have ha := cf_below_lt (by omega) c_14
      have ha2 := cf_below_eq (by omega) c_14
      refine nf_aln (pc := 24) dX5_knownSince_24 rfl ?_
      refine gf_X5_network (pc := 25) lk_X5_12 dX5_knownSince_25 ?_
      refine gf_X3_hosts (by decide) (pc := 28) lk_X5_70 dX5_knownSince_28 ?_
      refine nf_iln (pc := 31) dX5_knownSince_31 rfl ?_
      refine nf_hald (pc := 32) (by decide) (cf_below_in (by decide) c_6) dX5_knownSince_32 ?_
      refine nf_topR (p2 := (4, 0, 0, cf_num x)) rfl ?_
      refine gf_X1_historyDay (by decide) (cf_below_lt (by decide) c_6) (pc := 33) lk_X5_122 dX5_knownSince_33 ?_
      refine nf_iln (pc := 36) dX5_knownSince_36 rfl ?_
      refine nf_iald (pc := 37) (nf_ok12 (by decide) (cf_below_lt (by decide) c_6)) (by rw [ha2]; exact nf_inI (show _ < 30 by omega) (by decide)) dX5_knownSince_37 ?_
      exact nf_to (by simp [cq_knownSince, c_6, c_14] <;> rfl) (by simp [cq_knownSince, c_6, c_14] <;> rfl) (nf_iret (pc := 38) dX5_knownSince_38)
    · refine nf_aln (pc := 17) dX5_knownSince_17 rfl ?_
      refine nf_bipush (pc := 18) (v := (-2)) dX5_knownSince_18 (by decide) ?_
      refine nf_cVi1 (pc := 20) (sp_X5_fail cf_slot2 (by decide)) rfl rfl rfl mk_X5_39 im_X5_fail se_X5_fail nm_X5_fail ⟨by decide, by decide⟩ (Nat.le_of_ble_eq_true rfl) dX5_knownSince_20 ?_
      exact nf_to (by simp [cq_knownSince, c_6, c_14] <;> rfl) (by simp [cq_knownSince, c_6, c_14] <;> rfl) (nf_iret (pc := 23) dX5_knownSince_23)
set_option maxRecDepth 100000 in
set_option maxHeartbeats 4000000 in
theorem sp_X5_pendingCancels {L : nf_L} {S : nf_S} {x : Int32}   : nf_Sp L 2 yX5_pendingCancels cX5_pendingCancels 2 (some .int) [.ref (L.2.2 (0, 0, 0, 0)), .int x] S (some (.int (cq_pending S x).2)) (cq_pending S x).1 := by
  refine nf_start (own := RX5) (ls0 := [some (.ref (L.2.2 (0, 0, 0, 0))), some (.int x)]) (by decide) (Nat.le_of_ble_eq_true rfl) rfl rfl ?_
  refine nf_iln (pc := 0) dX5_pendingCancels_0 rfl ?_
  refine nf_bipush (pc := 1) (v := 6) dX5_pendingCancels_1 (by decide) ?_
  refine nf_cSi2 (pc := 3) sp_X5_isBelow mk_X5_35 st_X5_isBelow nm_X5_isBelow ⟨by decide, by decide⟩ (Nat.le_of_ble_eq_true rfl) dX5_pendingCancels_3 ?_
  refine nf_if_neB (pc := 6) 16 dX5_pendingCancels_6 (by decide) (fun c_6 => ?_) (fun c_6 => ?_)
  · refine nf_aln (pc := 16) dX5_pendingCancels_16 rfl ?_
    refine gf_X5_network (pc := 17) lk_X5_12 dX5_pendingCancels_17 ?_
    refine gf_X3_hosts (by decide) (pc := 20) lk_X5_70 dX5_pendingCancels_20 ?_
    refine nf_iln (pc := 23) dX5_pendingCancels_23 rfl ?_
    refine nf_hald (pc := 24) (by decide) (cf_below_in (by decide) c_6) dX5_pendingCancels_24 ?_
    refine nf_topR (p2 := (4, 0, 0, cf_num x)) rfl ?_
    refine nf_cVi0 (pc := 25) (sp_X1_countCancels (by decide) (cf_below_lt (n := 6) (by decide) c_6)) (nf_ok4 (by decide) (cf_below_lt (by decide) c_6)) rfl rfl mk_X5_125 im_X1_countCancels se_X1_countCancels nm_X1_countCancels ⟨by decide, by decide⟩ (Nat.le_of_ble_eq_true rfl) dX5_pendingCancels_25 ?_
    exact nf_to (by simp [cq_pending, c_6] <;> rfl) (by simp [cq_pending, c_6] <;> rfl) (nf_iret (pc := 28) dX5_pendingCancels_28)
  · refine nf_aln (pc := 9) dX5_pendingCancels_9 rfl ?_
    refine nf_bipush (pc := 10) (v := (-2)) dX5_pendingCancels_10 (by decide) ?_
    refine nf_cVi1 (pc := 12) (sp_X5_fail cf_slot2 (by decide)) rfl rfl rfl mk_X5_39 im_X5_fail se_X5_fail nm_X5_fail ⟨by decide, by decide⟩ (Nat.le_of_ble_eq_true rfl) dX5_pendingCancels_12 ?_
    exact nf_to (by simp [cq_pending, c_6] <;> rfl) (by simp [cq_pending, c_6] <;> rfl) (nf_iret (pc := 15) dX5_pendingCancels_15)
set_option maxRecDepth 100000 in
set_option maxHeartbeats 4000000 in
theorem lp_holders {L : nf_L} {S : nf_S} {a : Int32}  : ∀ (m : Nat) (k : Nat) (acc : Int32), (k + m = 6) → nf_V L 2 cX5_holders RX5 4 (some .int) (some (.int (cf_hold S a k m acc))) S 19 [some (.ref (L.2.2 (0, 0, 0, 0))), some (.int a), some (.int acc), some (.int (nI k))] [] S := by
  intro m
  induction m with
  | zero =>
    intro k acc hkm
    refine nf_iln (pc := 19) dX5_holders_19 rfl ?_
    refine nf_bipush (pc := 20) (v := 6) dX5_holders_20 (by decide) ?_
    refine nf_ic_ge (pc := 22) 53 dX5_holders_22 (by decide) (fun c_22 => ?_) (fun c_22 => ?_)
    · refine nf_iln (pc := 53) dX5_holders_53 rfl ?_
      exact (nf_iret (pc := 54) dX5_holders_54)
    · exact absurd (nI_le (a := 6) (by omega) (by omega)) c_22
  | succ m ih =>
    intro k acc hkm
    refine nf_iln (pc := 19) dX5_holders_19 rfl ?_
    refine nf_bipush (pc := 20) (v := 6) dX5_holders_20 (by decide) ?_
    refine nf_ic_ge (pc := 22) 53 dX5_holders_22 (by decide) (fun c_22 => ?_) (fun c_22 => ?_)
    · exact absurd c_22 (nI_ge (b := 6) (by omega) (by omega))
    · refine nf_aln (pc := 25) dX5_holders_25 rfl ?_
      refine gf_X5_network (pc := 26) lk_X5_12 dX5_holders_26 ?_
      refine gf_X3_hosts (by decide) (pc := 29) lk_X5_70 dX5_holders_29 ?_
      refine nf_iln (pc := 32) dX5_holders_32 rfl ?_
      refine nf_haldI (pc := 33) (k := k) (by decide) (show _ < 6 by omega) dX5_holders_33 ?_
      refine nf_iln (pc := 34) dX5_holders_34 rfl ?_
      refine nf_cVi1 (pc := 35) (sp_X1_stores (by decide) (show _ < 6 by omega)) (nf_ok4 (by decide) (show _ < 6 by omega)) rfl rfl mk_X5_119 im_X1_stores se_X1_stores nm_X1_stores ⟨by decide, by decide⟩ (Nat.le_of_ble_eq_true rfl) dX5_holders_35 ?_
      refine nf_if_eqB (pc := 38) 47 dX5_holders_38 (by decide) (fun c_38 => ?_) (fun c_38 => ?_)
      · refine nf_iinc3 (pc := 47) (v := nI (k + 1)) dX5_holders_47 (nI_succ (k)).symm rfl (by decide) ?_
        refine nf_goto (pc := 50) 19 dX5_holders_50 (by decide) ?_
        exact nf_to (by simp [cf_hold, c_38] <;> rfl) rfl (ih (k + 1) _ (by omega))
      · refine nf_iln (pc := 41) dX5_holders_41 rfl ?_
        refine nf_iconst (pc := 42) (v := 1) dX5_holders_42 (by decide) ?_
        refine nf_iln (pc := 43) dX5_holders_43 rfl ?_
        refine nf_ishl (pc := 44) dX5_holders_44 ?_
        refine nf_ior (pc := 45) dX5_holders_45 ?_
        refine nf_is2 (pc := 46) dX5_holders_46 rfl (by decide) ?_
        refine nf_iinc3 (pc := 47) (v := nI (k + 1)) dX5_holders_47 (nI_succ (k)).symm rfl (by decide) ?_
        refine nf_goto (pc := 50) 19 dX5_holders_50 (by decide) ?_
        exact nf_to (by simp [cf_hold, c_38] <;> rfl) rfl (ih (k + 1) _ (by omega))
set_option maxRecDepth 100000 in
set_option maxHeartbeats 4000000 in
theorem sp_X5_holders {L : nf_L} {S : nf_S} {nl na : Nat} {a : Int32} (hk : cs_ok S nl na) : nf_Sp L 2 yX5_holders cX5_holders 4 (some .int) [.ref (L.2.2 (0, 0, 0, 0)), .int a] S (some (.int (cq_holders na S a).2)) (cq_holders na S a).1 := by
  refine nf_start (own := RX5) (ls0 := [some (.ref (L.2.2 (0, 0, 0, 0))), some (.int a), none, none]) (by decide) (Nat.le_of_ble_eq_true rfl) rfl rfl ?_
  refine nf_aln (pc := 0) dX5_holders_0 rfl ?_
  refine nf_iln (pc := 1) dX5_holders_1 rfl ?_
  refine nf_cVi1 (pc := 2) (sp_X5_isArticle hk) rfl rfl rfl mk_X5_93 im_X5_isArticle se_X5_isArticle nm_X5_isArticle ⟨by decide, by decide⟩ (Nat.le_of_ble_eq_true rfl) dX5_holders_2 ?_
  refine nf_if_neB (pc := 5) 15 dX5_holders_5 (by decide) (fun c_5 => ?_) (fun c_5 => ?_)
  · refine nf_iconst (pc := 15) (v := 0) dX5_holders_15 (by decide) ?_
    refine nf_is2 (pc := 16) dX5_holders_16 rfl (by decide) ?_
    refine nf_iconst (pc := 17) (v := 0) dX5_holders_17 (by decide) ?_
    refine nf_is3 (pc := 18) dX5_holders_18 rfl (by decide) ?_
    exact nf_to (by simp [cq_holders, c_5]) (by simp [cq_holders, c_5]) (lp_holders 6 0 0 (by omega))
  · refine nf_aln (pc := 8) dX5_holders_8 rfl ?_
    refine nf_bipush (pc := 9) (v := (-2)) dX5_holders_9 (by decide) ?_
    refine nf_cVi1 (pc := 11) (sp_X5_fail cf_slot2 (by decide)) rfl rfl rfl mk_X5_39 im_X5_fail se_X5_fail nm_X5_fail ⟨by decide, by decide⟩ (Nat.le_of_ble_eq_true rfl) dX5_holders_11 ?_
    exact nf_to (by simp [cq_holders, c_5] <;> rfl) (by simp [cq_holders, c_5] <;> rfl) (nf_iret (pc := 14) dX5_holders_14)
set_option maxRecDepth 100000 in
set_option maxHeartbeats 4000000 in
theorem lp_inGroup {L : nf_L} {S : nf_S} {x g : Int32} {nl na : Nat} (hk : cs_ok S nl na) (hx : cf_below x 6 = true) : ∀ (m : Nat) (k : Nat) (acc : Int32), (k + m = na) → nf_V L 2 cX5_storedInGroup RX5 5 (some .int) (some (.int (cf_sig S (cf_num x) g k m acc))) S 29 [some (.ref (L.2.2 (0, 0, 0, 0))), some (.int x), some (.int g), some (.int acc), some (.int (nI k))] [] S := by
  intro m
  induction m with
  | zero =>
    intro k acc hkm
    have h30 := hk.2.1
    refine nf_il (pc := 29) dX5_storedInGroup_29 rfl ?_
    refine nf_aln (pc := 31) dX5_storedInGroup_31 rfl ?_
    refine gf_X5_network (pc := 32) lk_X5_12 dX5_storedInGroup_32 ?_
    refine gf_X3_articles (by decide) (pc := 35) lk_X5_96 dX5_storedInGroup_35 ?_
    refine gf_X0_count (by decide) (pc := 38) lk_X5_128 dX5_storedInGroup_38 ?_
    refine nf_topI (y := nI (na)) hk.2.2.2.1 ?_
    refine nf_ic_ge (pc := 41) 87 dX5_storedInGroup_41 (by decide) (fun c_41 => ?_) (fun c_41 => ?_)
    · refine nf_iln (pc := 87) dX5_storedInGroup_87 rfl ?_
      exact (nf_iret (pc := 88) dX5_storedInGroup_88)
    · exact absurd (nI_le (by omega) (by omega)) c_41
  | succ m ih =>
    intro k acc hkm
    have h30 := hk.2.1
    refine nf_il (pc := 29) dX5_storedInGroup_29 rfl ?_
    refine nf_aln (pc := 31) dX5_storedInGroup_31 rfl ?_
    refine gf_X5_network (pc := 32) lk_X5_12 dX5_storedInGroup_32 ?_
    refine gf_X3_articles (by decide) (pc := 35) lk_X5_96 dX5_storedInGroup_35 ?_
    refine gf_X0_count (by decide) (pc := 38) lk_X5_128 dX5_storedInGroup_38 ?_
    refine nf_topI (y := nI (na)) hk.2.2.2.1 ?_
    refine nf_ic_ge (pc := 41) 87 dX5_storedInGroup_41 (by decide) (fun c_41 => ?_) (fun c_41 => ?_)
    · exact absurd c_41 (nI_ge (by omega) (by omega))
    · refine nf_aln (pc := 44) dX5_storedInGroup_44 rfl ?_
      refine gf_X5_network (pc := 45) lk_X5_12 dX5_storedInGroup_45 ?_
      refine gf_X3_articles (by decide) (pc := 48) lk_X5_96 dX5_storedInGroup_48 ?_
      refine gf_X0_group (by decide) (pc := 51) lk_X5_100 dX5_storedInGroup_51 ?_
      refine nf_il (pc := 54) dX5_storedInGroup_54 rfl ?_
      refine nf_ialdI (pc := 56) (k := k) (nf_okA (by decide) (by decide)) (show _ < 30 by omega) dX5_storedInGroup_56 ?_
      refine nf_iln (pc := 57) dX5_storedInGroup_57 rfl ?_
      refine nf_ic_ne (pc := 58) 81 dX5_storedInGroup_58 (by decide) (fun c_58 => ?_) (fun c_58 => ?_)
      · refine nf_iinc4 (pc := 81) (v := nI (k + 1)) dX5_storedInGroup_81 (nI_succ (k)).symm rfl (by decide) ?_
        refine nf_goto (pc := 84) 29 dX5_storedInGroup_84 (by decide) ?_
        exact nf_to (by simp [cf_sig, c_58] <;> rfl) rfl (ih (k + 1) _ (by omega))
      · refine nf_aln (pc := 61) dX5_storedInGroup_61 rfl ?_
        refine gf_X5_network (pc := 62) lk_X5_12 dX5_storedInGroup_62 ?_
        refine gf_X3_hosts (by decide) (pc := 65) lk_X5_70 dX5_storedInGroup_65 ?_
        refine nf_iln (pc := 68) dX5_storedInGroup_68 rfl ?_
        refine nf_hald (pc := 69) (by decide) (cf_below_in (by decide) hx) dX5_storedInGroup_69 ?_
        refine nf_topR (p2 := (4, 0, 0, cf_num x)) rfl ?_
        refine nf_il (pc := 70) dX5_storedInGroup_70 rfl ?_
        refine nf_cVi1 (pc := 72) (sp_X1_stores (by decide) (cf_below_lt (n := 6) (by decide) hx)) (nf_ok4 (by decide) (cf_below_lt (by decide) hx)) rfl rfl mk_X5_119 im_X1_stores se_X1_stores nm_X1_stores ⟨by decide, by decide⟩ (Nat.le_of_ble_eq_true rfl) dX5_storedInGroup_72 ?_
        refine nf_if_eqB (pc := 75) 81 dX5_storedInGroup_75 (by decide) (fun c_75 => ?_) (fun c_75 => ?_)
        · refine nf_iinc4 (pc := 81) (v := nI (k + 1)) dX5_storedInGroup_81 (nI_succ (k)).symm rfl (by decide) ?_
          refine nf_goto (pc := 84) 29 dX5_storedInGroup_84 (by decide) ?_
          exact nf_to (by simp [cf_sig, c_58, c_75] <;> rfl) rfl (ih (k + 1) _ (by omega))
        · refine nf_iincP3 (pc := 78) dX5_storedInGroup_78 rfl (by decide) ?_
          refine nf_iinc4 (pc := 81) (v := nI (k + 1)) dX5_storedInGroup_81 (nI_succ (k)).symm rfl (by decide) ?_
          refine nf_goto (pc := 84) 29 dX5_storedInGroup_84 (by decide) ?_
          exact nf_to (by simp [cf_sig, c_58, c_75] <;> rfl) rfl (ih (k + 1) _ (by omega))
set_option maxRecDepth 100000 in
set_option maxHeartbeats 4000000 in
theorem sp_X5_storedInGroup {L : nf_L} {S : nf_S} {nl na : Nat} {x g : Int32} (hk : cs_ok S nl na) : nf_Sp L 2 yX5_storedInGroup cX5_storedInGroup 5 (some .int) [.ref (L.2.2 (0, 0, 0, 0)), .int x, .int g] S (some (.int (cq_inGroup na S x g).2)) (cq_inGroup na S x g).1 := by
  refine nf_start (own := RX5) (ls0 := [some (.ref (L.2.2 (0, 0, 0, 0))), some (.int x), some (.int g), none, none]) (by decide) (Nat.le_of_ble_eq_true rfl) rfl rfl ?_
  refine nf_iln (pc := 0) dX5_storedInGroup_0 rfl ?_
  refine nf_bipush (pc := 1) (v := 6) dX5_storedInGroup_1 (by decide) ?_
  refine nf_cSi2 (pc := 3) sp_X5_isBelow mk_X5_35 st_X5_isBelow nm_X5_isBelow ⟨by decide, by decide⟩ (Nat.le_of_ble_eq_true rfl) dX5_storedInGroup_3 ?_
  refine nf_if_eqB (pc := 6) 17 dX5_storedInGroup_6 (by decide) (fun c_6 => ?_) (fun c_6 => ?_)
  · refine nf_aln (pc := 17) dX5_storedInGroup_17 rfl ?_
    refine nf_bipush (pc := 18) (v := (-2)) dX5_storedInGroup_18 (by decide) ?_
    refine nf_cVi1 (pc := 20) (sp_X5_fail cf_slot2 (by decide)) rfl rfl rfl mk_X5_39 im_X5_fail se_X5_fail nm_X5_fail ⟨by decide, by decide⟩ (Nat.le_of_ble_eq_true rfl) dX5_storedInGroup_20 ?_
    exact nf_to (by simp [cq_inGroup, c_6] <;> rfl) (by simp [cq_inGroup, c_6] <;> rfl) (nf_iret (pc := 23) dX5_storedInGroup_23)
  · refine nf_iln (pc := 9) dX5_storedInGroup_9 rfl ?_
    refine nf_iconst (pc := 10) (v := 4) dX5_storedInGroup_10 (by decide) ?_
    refine nf_cSi2 (pc := 11) sp_X5_isBelow mk_X5_35 st_X5_isBelow nm_X5_isBelow ⟨by decide, by decide⟩ (Nat.le_of_ble_eq_true rfl) dX5_storedInGroup_11 ?_
    refine nf_if_neB (pc := 14) 24 dX5_storedInGroup_14 (by decide) (fun c_14 => ?_) (fun c_14 => ?_)
    · refine nf_iconst (pc := 24) (v := 0) dX5_storedInGroup_24 (by decide) ?_
      refine nf_is3 (pc := 25) dX5_storedInGroup_25 rfl (by decide) ?_
      refine nf_iconst (pc := 26) (v := 0) dX5_storedInGroup_26 (by decide) ?_
      refine nf_is4 (pc := 27) dX5_storedInGroup_27 rfl (by decide) ?_
      exact nf_to (by simp [cq_inGroup, c_6, c_14]) (by simp [cq_inGroup, c_6, c_14]) (lp_inGroup hk c_6 na 0 0 (by omega))
    · refine nf_aln (pc := 17) dX5_storedInGroup_17 rfl ?_
      refine nf_bipush (pc := 18) (v := (-2)) dX5_storedInGroup_18 (by decide) ?_
      refine nf_cVi1 (pc := 20) (sp_X5_fail cf_slot2 (by decide)) rfl rfl rfl mk_X5_39 im_X5_fail se_X5_fail nm_X5_fail ⟨by decide, by decide⟩ (Nat.le_of_ble_eq_true rfl) dX5_storedInGroup_20 ?_
      exact nf_to (by simp [cq_inGroup, c_6, c_14] <;> rfl) (by simp [cq_inGroup, c_6, c_14] <;> rfl) (nf_iret (pc := 23) dX5_storedInGroup_23)
set_option maxRecDepth 100000 in
set_option maxHeartbeats 4000000 in
theorem lp_distance {L : nf_L} {S : nf_S} {a b : Int32} {nl na : Nat} (hk : cs_ok S nl na) : ∀ (m : Nat) (k : Nat) (s : Int32), (k + m = 6) → nf_V L 2 cX5_distance RX5 5 (some .int) (some (.int (cf_dst S b m k s))) S 32 [some (.ref (L.2.2 (0, 0, 0, 0))), some (.int a), some (.int b), some (.int s), some (.int (nI k))] [] S := by
  intro m
  induction m with
  | zero =>
    intro k s hkm
    refine nf_il (pc := 32) dX5_distance_32 rfl ?_
    refine nf_bipush (pc := 34) (v := 6) dX5_distance_34 (by decide) ?_
    refine nf_ic_ge (pc := 36) 70 dX5_distance_36 (by decide) (fun c_36 => ?_) (fun c_36 => ?_)
    · refine nf_iconst (pc := 70) (v := (-1)) dX5_distance_70 (by decide) ?_
      exact (nf_iret (pc := 71) dX5_distance_71)
    · exact absurd (nI_le (a := 6) (by omega) (by omega)) c_36
  | succ m ih =>
    intro k s hkm
    refine nf_il (pc := 32) dX5_distance_32 rfl ?_
    refine nf_bipush (pc := 34) (v := 6) dX5_distance_34 (by decide) ?_
    refine nf_ic_ge (pc := 36) 70 dX5_distance_36 (by decide) (fun c_36 => ?_) (fun c_36 => ?_)
    · exact absurd c_36 (nI_ge (b := 6) (by omega) (by omega))
    · refine nf_iln (pc := 39) dX5_distance_39 rfl ?_
      refine nf_iln (pc := 40) dX5_distance_40 rfl ?_
      refine nf_cSi2 (pc := 41) sp_X5_has mk_X5_129 st_X5_has nm_X5_has ⟨by decide, by decide⟩ (Nat.le_of_ble_eq_true rfl) dX5_distance_41 ?_
      refine nf_if_eqB (pc := 44) 50 dX5_distance_44 (by decide) (fun c_44 => ?_) (fun c_44 => ?_)
      · refine nf_iln (pc := 50) dX5_distance_50 rfl ?_
        refine nf_aln (pc := 51) dX5_distance_51 rfl ?_
        refine gf_X5_network (pc := 52) lk_X5_12 dX5_distance_52 ?_
        refine gf_X3_links (by decide) (pc := 55) lk_X5_43 dX5_distance_55 ?_
        refine nf_iln (pc := 58) dX5_distance_58 rfl ?_
        refine nf_cVi1 (pc := 59) (sp_nbr hk) ⟨(by decide), rfl⟩ rfl rfl mk_X5_132 im_X2_neighboursOf se_X2_neighboursOf nm_X2_neighboursOf ⟨by decide, by decide⟩ (Nat.le_of_ble_eq_true rfl) dX5_distance_59 ?_
        refine nf_ior (pc := 62) dX5_distance_62 ?_
        refine nf_is3 (pc := 63) dX5_distance_63 rfl (by decide) ?_
        refine nf_iinc4 (pc := 64) (v := nI (k + 1)) dX5_distance_64 (nI_succ (k)).symm rfl (by decide) ?_
        refine nf_goto (pc := 67) 32 dX5_distance_67 (by decide) ?_
        exact nf_to (by simp [cf_dst, c_44]) rfl (ih (k + 1) _ (by omega))
      · refine nf_il (pc := 47) dX5_distance_47 rfl ?_
        exact nf_to (by simp [cf_dst, c_44]) rfl (nf_iret (pc := 49) dX5_distance_49)
set_option maxRecDepth 100000 in
set_option maxHeartbeats 4000000 in
theorem sp_X5_distance {L : nf_L} {S : nf_S} {nl na : Nat} {a b : Int32} (hk : cs_ok S nl na) : nf_Sp L 2 yX5_distance cX5_distance 5 (some .int) [.ref (L.2.2 (0, 0, 0, 0)), .int a, .int b] S (some (.int (cq_distance S a b).2)) (cq_distance S a b).1 := by
  refine nf_start (own := RX5) (ls0 := [some (.ref (L.2.2 (0, 0, 0, 0))), some (.int a), some (.int b), none, none]) (by decide) (Nat.le_of_ble_eq_true rfl) rfl rfl ?_
  refine nf_iln (pc := 0) dX5_distance_0 rfl ?_
  refine nf_bipush (pc := 1) (v := 6) dX5_distance_1 (by decide) ?_
  refine nf_cSi2 (pc := 3) sp_X5_isBelow mk_X5_35 st_X5_isBelow nm_X5_isBelow ⟨by decide, by decide⟩ (Nat.le_of_ble_eq_true rfl) dX5_distance_3 ?_
  refine nf_if_eqB (pc := 6) 18 dX5_distance_6 (by decide) (fun c_6 => ?_) (fun c_6 => ?_)
  · refine nf_aln (pc := 18) dX5_distance_18 rfl ?_
    refine nf_bipush (pc := 19) (v := (-2)) dX5_distance_19 (by decide) ?_
    refine nf_cVi1 (pc := 21) (sp_X5_fail cf_slot2 (by decide)) rfl rfl rfl mk_X5_39 im_X5_fail se_X5_fail nm_X5_fail ⟨by decide, by decide⟩ (Nat.le_of_ble_eq_true rfl) dX5_distance_21 ?_
    exact nf_to (by simp [cq_distance, c_6] <;> rfl) (by simp [cq_distance, c_6] <;> rfl) (nf_iret (pc := 24) dX5_distance_24)
  · refine nf_iln (pc := 9) dX5_distance_9 rfl ?_
    refine nf_bipush (pc := 10) (v := 6) dX5_distance_10 (by decide) ?_
    refine nf_cSi2 (pc := 12) sp_X5_isBelow mk_X5_35 st_X5_isBelow nm_X5_isBelow ⟨by decide, by decide⟩ (Nat.le_of_ble_eq_true rfl) dX5_distance_12 ?_
    refine nf_if_neB (pc := 15) 25 dX5_distance_15 (by decide) (fun c_15 => ?_) (fun c_15 => ?_)
    · refine nf_iconst (pc := 25) (v := 1) dX5_distance_25 (by decide) ?_
      refine nf_iln (pc := 26) dX5_distance_26 rfl ?_
      refine nf_ishl (pc := 27) dX5_distance_27 ?_
      refine nf_is3 (pc := 28) dX5_distance_28 rfl (by decide) ?_
      refine nf_iconst (pc := 29) (v := 0) dX5_distance_29 (by decide) ?_
      refine nf_is4 (pc := 30) dX5_distance_30 rfl (by decide) ?_
      exact nf_to (by simp [cq_distance, c_6, c_15] <;> rfl) (by simp [cq_distance, c_6, c_15]) (lp_distance hk 6 0 _ (by omega))
    · refine nf_aln (pc := 18) dX5_distance_18 rfl ?_
      refine nf_bipush (pc := 19) (v := (-2)) dX5_distance_19 (by decide) ?_
      refine nf_cVi1 (pc := 21) (sp_X5_fail cf_slot2 (by decide)) rfl rfl rfl mk_X5_39 im_X5_fail se_X5_fail nm_X5_fail ⟨by decide, by decide⟩ (Nat.le_of_ble_eq_true rfl) dX5_distance_21 ?_
      exact nf_to (by simp [cq_distance, c_6, c_15] <;> rfl) (by simp [cq_distance, c_6, c_15] <;> rfl) (nf_iret (pc := 24) dX5_distance_24)
set_option maxRecDepth 100000 in
set_option maxHeartbeats 4000000 in
theorem sp_X5_waiting {L : nf_L} {S : nf_S}  : nf_Sp L 2 yX5_waiting cX5_waiting 1 (some .int) [.ref (L.2.2 (0, 0, 0, 0))] S (some (.int (cf_sum (nf_A S 0 10 0) 0 180 0))) S := by
  refine nf_start (own := RX5) (ls0 := [some (.ref (L.2.2 (0, 0, 0, 0)))]) (by decide) (Nat.le_of_ble_eq_true rfl) rfl rfl ?_
  refine nf_aln (pc := 0) dX5_waiting_0 rfl ?_
  refine gf_X5_network (pc := 1) lk_X5_12 dX5_waiting_1 ?_
  refine gf_X3_queue (by decide) (pc := 4) lk_X5_109 dX5_waiting_4 ?_
  refine nf_cVi0 (pc := 7) (sp_X4_size (by decide)) ⟨(by decide), rfl⟩ rfl rfl mk_X5_112 im_X4_size se_X4_size nm_X4_size ⟨by decide, by decide⟩ (Nat.le_of_ble_eq_true rfl) dX5_waiting_7 ?_
  exact nf_iret (pc := 10) dX5_waiting_10
set_option maxRecDepth 100000 in
set_option maxHeartbeats 4000000 in
theorem sp_X5_total {L : nf_L} {S : nf_S} {x : Int32}   : nf_Sp L 2 yX5_total cX5_total 2 (some .int) [.ref (L.2.2 (0, 0, 0, 0)), .int x] S (some (.int (cq_total S x).2)) (cq_total S x).1 := by
  refine nf_start (own := RX5) (ls0 := [some (.ref (L.2.2 (0, 0, 0, 0))), some (.int x)]) (by decide) (Nat.le_of_ble_eq_true rfl) rfl rfl ?_
  refine nf_iln (pc := 0) dX5_total_0 rfl ?_
  refine nf_bipush (pc := 1) (v := 6) dX5_total_1 (by decide) ?_
  refine nf_cSi2 (pc := 3) sp_X5_isBelow mk_X5_35 st_X5_isBelow nm_X5_isBelow ⟨by decide, by decide⟩ (Nat.le_of_ble_eq_true rfl) dX5_total_3 ?_
  refine nf_if_neB (pc := 6) 16 dX5_total_6 (by decide) (fun c_6 => ?_) (fun c_6 => ?_)
  · refine nf_aln (pc := 16) dX5_total_16 rfl ?_
    refine gf_X5_network (pc := 17) lk_X5_12 dX5_total_17 ?_
    refine gf_X3_counts (by decide) (pc := 20) lk_X5_135 dX5_total_20 ?_
    refine nf_iln (pc := 23) dX5_total_23 rfl ?_
    refine nf_iald (pc := 24) (nf_okA (by decide) (by decide)) (cf_below_in (by decide) (n := 6) c_6) dX5_total_24 ?_
    exact nf_to (by simp [cq_total, c_6] <;> rfl) (by simp [cq_total, c_6] <;> rfl) (nf_iret (pc := 25) dX5_total_25)
  · refine nf_aln (pc := 9) dX5_total_9 rfl ?_
    refine nf_bipush (pc := 10) (v := (-2)) dX5_total_10 (by decide) ?_
    refine nf_cVi1 (pc := 12) (sp_X5_fail cf_slot2 (by decide)) rfl rfl rfl mk_X5_39 im_X5_fail se_X5_fail nm_X5_fail ⟨by decide, by decide⟩ (Nat.le_of_ble_eq_true rfl) dX5_total_12 ?_
    exact nf_to (by simp [cq_total, c_6] <;> rfl) (by simp [cq_total, c_6] <;> rfl) (nf_iret (pc := 15) dX5_total_15)
set_option maxRecDepth 100000 in
set_option maxHeartbeats 4000000 in
theorem sp_X5_day {L : nf_L} {S : nf_S}  : nf_Sp L 2 yX5_day cX5_day 1 (some .int) [.ref (L.2.2 (0, 0, 0, 0))] S (some (.int (nf_I S 0 0 0))) S := by
  refine nf_start (own := RX5) (ls0 := [some (.ref (L.2.2 (0, 0, 0, 0)))]) (by decide) (Nat.le_of_ble_eq_true rfl) rfl rfl ?_
  refine nf_aln (pc := 0) dX5_day_0 rfl ?_
  refine gf_X5_network (pc := 1) lk_X5_12 dX5_day_1 ?_
  refine gf_X3_today (by decide) (pc := 4) lk_X5_138 dX5_day_4 ?_
  exact nf_iret (pc := 7) dX5_day_7
set_option maxRecDepth 100000 in
set_option maxHeartbeats 4000000 in
theorem sp_X5_undo {L : nf_L} {S : nf_S} {c : Nat}  (hs : cs_sv S c) : nf_Sp L 3 yX5_undo cX5_undo 1 (some .int) [.ref (L.2.2 (0, 0, 0, 0))] S (some (.int (cq_undo c S).2)) (cq_undo c S).1 := by
  have hc4 := hs.1
  refine nf_start (own := RX5) (ls0 := [some (.ref (L.2.2 (0, 0, 0, 0)))]) (by decide) (Nat.le_of_ble_eq_true rfl) rfl rfl ?_
  refine nf_aln (pc := 0) dX5_undo_0 rfl ?_
  refine gf_X5_savedCount (pc := 1) lk_X5_27 dX5_undo_1 ?_
  refine nf_topI (y := nI (c)) hs.2.1 ?_
  refine nf_iconst (pc := 4) (v := 1) dX5_undo_4 (by decide) ?_
  refine nf_ic_ge (pc := 5) 15 dX5_undo_5 (by decide) (fun c_5 => ?_) (fun c_5 => ?_)
  · have hc1 : 1 ≤ c := by
      rcases Nat.lt_or_ge c 1 with h | h
      · exact absurd c_5 (nI_ge (b := 1) h (by decide))
      · exact h
    refine nf_aln (pc := 15) dX5_undo_15 rfl ?_
    refine nf_dup (pc := 16) dX5_undo_16 rfl ?_
    refine gf_X5_savedCount (pc := 17) lk_X5_27 dX5_undo_17 ?_
    refine nf_topI (y := nI (c - 1 + 1)) (by rw [hs.2.1]; congr 1; omega) ?_
    refine nf_iconst (pc := 20) (v := 1) dX5_undo_20 (by decide) ?_
    refine nf_isub (pc := 21) dX5_undo_21 ?_
    refine nf_topI (y := nI (c - 1)) (nf_succ_sub _) ?_
    refine pf_X5_savedCount (pc := 22) lk_X5_27 dX5_undo_22 ?_
    refine nf_aln (pc := 25) dX5_undo_25 rfl ?_
    refine gf_X5_network (pc := 26) lk_X5_12 dX5_undo_26 ?_
    refine nf_aln (pc := 29) dX5_undo_29 rfl ?_
    refine gf_X5_saved (pc := 30) lk_X5_23 dX5_undo_30 ?_
    refine nf_aln (pc := 33) dX5_undo_33 rfl ?_
    refine gf_X5_savedCount (pc := 34) lk_X5_27 dX5_undo_34 ?_
    refine nf_topI (y := nI (c - 1)) rfl ?_
    refine nf_saldI (pc := 37) (k := c - 1) (by omega) dX5_undo_37 ?_
    refine nf_topR (p2 := (1, (nf_v S (c - 1)), 0, 0)) rfl ?_
    refine nf_cVv1 (pc := 38) (sp_X3_copyFrom (by decide) (hs.2.2 _ (by omega)).2 (Nat.ne_of_lt (hs.2.2 _ (by omega)).1)) ⟨(by decide), rfl⟩ rfl rfl mk_X5_141 im_X3_copyFrom se_X3_copyFrom nm_X3_copyFrom ⟨by decide, by decide⟩ (Nat.le_of_ble_eq_true rfl) dX5_undo_38 ?_
    refine nf_aln (pc := 41) dX5_undo_41 rfl ?_
    refine gf_X5_savedCount (pc := 42) lk_X5_27 dX5_undo_42 ?_
    refine nf_topI (y := nI (c - 1)) rfl ?_
    exact nf_to (by simp [cq_undo, c_5] <;> rfl) (by simp [cq_undo, c_5] <;> rfl) (nf_iret (pc := 45) dX5_undo_45)
  · refine nf_aln (pc := 8) dX5_undo_8 rfl ?_
    refine nf_bipush (pc := 9) (v := (-5)) dX5_undo_9 (by decide) ?_
    refine nf_cVi1 (pc := 11) (sp_X5_fail cf_slot5 (by decide)) rfl rfl rfl mk_X5_39 im_X5_fail se_X5_fail nm_X5_fail ⟨by decide, by decide⟩ (Nat.le_of_ble_eq_true rfl) dX5_undo_11 ?_
    exact nf_to (by simp [cq_undo, c_5] <;> rfl) (by simp [cq_undo, c_5] <;> rfl) (nf_iret (pc := 14) dX5_undo_14)
set_option maxRecDepth 100000 in
set_option maxHeartbeats 4000000 in
theorem sp_X5_errorCount {L : nf_L} {S : nf_S} {x : Int32}   : nf_Sp L 2 yX5_errorCount cX5_errorCount 3 (some .int) [.ref (L.2.2 (0, 0, 0, 0)), .int x] S (some (.int (cq_errorCount S x).2)) (cq_errorCount S x).1 := by
  refine nf_start (own := RX5) (ls0 := [some (.ref (L.2.2 (0, 0, 0, 0))), some (.int x), none]) (by decide) (Nat.le_of_ble_eq_true rfl) rfl rfl ?_
  refine nf_iln (pc := 0) dX5_errorCount_0 rfl ?_
  refine nf_cSi1 (pc := 1) sp_X5_errorSlot mk_X5_145 st_X5_errorSlot nm_X5_errorSlot ⟨by decide, by decide⟩ (Nat.le_of_ble_eq_true rfl) dX5_errorCount_1 ?_
  refine nf_is2 (pc := 4) dX5_errorCount_4 rfl (by decide) ?_
  refine nf_iln (pc := 5) dX5_errorCount_5 rfl ?_
  refine nf_iconst (pc := 6) (v := 4) dX5_errorCount_6 (by decide) ?_
  refine nf_cSi2 (pc := 7) sp_X5_isBelow mk_X5_35 st_X5_isBelow nm_X5_isBelow ⟨by decide, by decide⟩ (Nat.le_of_ble_eq_true rfl) dX5_errorCount_7 ?_
  refine nf_if_neB (pc := 10) 20 dX5_errorCount_10 (by decide) (fun c_10 => ?_) (fun c_10 => ?_)
  · refine nf_aln (pc := 20) dX5_errorCount_20 rfl ?_
    refine gf_X5_errors (pc := 21) lk_X5_31 dX5_errorCount_21 ?_
    refine nf_iln (pc := 24) dX5_errorCount_24 rfl ?_
    refine nf_ialdO (pc := 25) (nf_okO (by decide)) (cf_below_in (by decide) (n := 4) c_10) dX5_errorCount_25 ?_
    exact nf_to (by simp [cq_errorCount, c_10] <;> rfl) (by simp [cq_errorCount, c_10] <;> rfl) (nf_iret (pc := 26) dX5_errorCount_26)
  · refine nf_aln (pc := 13) dX5_errorCount_13 rfl ?_
    refine nf_bipush (pc := 14) (v := (-2)) dX5_errorCount_14 (by decide) ?_
    refine nf_cVi1 (pc := 16) (sp_X5_fail cf_slot2 (by decide)) rfl rfl rfl mk_X5_39 im_X5_fail se_X5_fail nm_X5_fail ⟨by decide, by decide⟩ (Nat.le_of_ble_eq_true rfl) dX5_errorCount_16 ?_
    exact nf_to (by simp [cq_errorCount, c_10] <;> rfl) (by simp [cq_errorCount, c_10] <;> rfl) (nf_iret (pc := 19) dX5_errorCount_19)
