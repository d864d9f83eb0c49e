/-! the reference's public methods -/
def me (S : nf_S) (r sv er wk : Nat → Int32) (c i : Nat) : nf_S := mm S r sv (upd er i (er i + 1)) wk (nI c)
def ma (S : nf_S) (r r' sv er wk : Nat → Int32) (c : Nat) : nf_S := mm S r' (ms_save sv r c) er wk (nI (ms_cnt c))
section MWrap
variable {L : nf_L} {S : nf_S} {r sv er wk : Nat → Int32} {j : Int32} {x : Int32}
theorem sp_mhost : nf_Sp L 1 yX6_isHost cX6_isHost 1 (some .boolean) [.int x] (mm S r sv er wk j) (some (.int (nf_b (cf_below x 6)))) (mm S r sv er wk j) := by rw [← mf_in_5]; exact sp_X6_isHost
theorem sp_mgroup : nf_Sp L 1 yX6_isGroup cX6_isGroup 1 (some .boolean) [.int x] (mm S r sv er wk j) (some (.int (nf_b (cf_below x 4)))) (mm S r sv er wk j) := by rw [← mf_in_3]; exact sp_X6_isGroup
theorem sp_mart {na : Nat} (hr : r 49 = nI na) (hn : na ≤ 30) : nf_Sp L 1 yX6_isArticle cX6_isArticle 2 (some .boolean) [.ref (L.2.2 (8, 0, 0, 0)), .int x] (mm S r sv er wk j) (some (.int (nf_b (cf_below x (nI na))))) (mm S r sv er wk j) := by
  have h := sp_X6_isArticle (L := L) (S := S) (r := r) (sv := sv) (er := er) (wk := wk) (j := j) (x := x)
  rw [hr, mf_in_n x (by omega)] at h
  exact h
theorem sp_mlink {nl : Nat} (hr : r 6 = nI nl) (hn : nl ≤ 12) : nf_Sp L 1 yX6_isLink cX6_isLink 2 (some .boolean) [.ref (L.2.2 (8, 0, 0, 0)), .int x] (mm S r sv er wk j) (some (.int (nf_b (cf_below x (nI nl))))) (mm S r sv er wk j) := by
  have h := sp_X6_isLink (L := L) (S := S) (r := r) (sv := sv) (er := er) (wk := wk) (j := j) (x := x)
  rw [hr, mf_in_n x (by omega)] at h
  exact h
theorem sp_in1 : nf_Sp L 0 yX6_in cX6_in 6 (some .boolean) [.long x.toInt64, .long 0, .long 1] (mm S r sv er wk j) (some (.int (nf_b (cf_below x 2)))) (mm S r sv er wk j) := by rw [← mf_in_1]; exact sp_X6_in
theorem sp_in5 : nf_Sp L 0 yX6_in cX6_in 6 (some .boolean) [.long x.toInt64, .long 0, .long 5] (mm S r sv er wk j) (some (.int (nf_b (cf_below x 6)))) (mm S r sv er wk j) := by rw [← mf_in_5]; exact sp_X6_in
theorem sp_in9 : nf_Sp L 0 yX6_in cX6_in 6 (some .boolean) [.long x.toInt64, .long 0, .long 9] (mm S r sv er wk j) (some (.int (nf_b (cf_below x 10)))) (mm S r sv er wk j) := by rw [← mf_in_9]; exact sp_X6_in
theorem sp_in15 : nf_Sp L 0 yX6_in cX6_in 6 (some .boolean) [.long x.toInt64, .long 0, .long 15] (mm S r sv er wk j) (some (.int (nf_b (!decide (x < 0) && decide (x ≤ 15))))) (mm S r sv er wk j) := by rw [← mf_in_15]; exact sp_X6_in
theorem sp_in30 : nf_Sp L 0 yX6_in cX6_in 6 (some .boolean) [.long x.toInt64, .long 1, .long 30] (mm S r sv er wk j) (some (.int (nf_b (cf_limit x)))) (mm S r sv er wk j) := by rw [← mf_in_30]; exact sp_X6_in
theorem sp_in2 : nf_Sp L 0 yX6_in cX6_in 6 (some .boolean) [.long x.toInt64, .long 1, .long 2] (mm S r sv er wk j) (some (.int (nf_b (!decide (x < 1) && !decide (2 < x))))) (mm S r sv er wk j) := by rw [← mf_in_2]; exact sp_X6_in
theorem sp_ine : nf_Sp L 0 yX6_in cX6_in 6 (some .boolean) [.long x.toInt64, .long (-5), .long (-2)] (mm S r sv er wk j) (some (.int (nf_b (cf_below (cf_slot x) 4)))) (mm S r sv er wk j) := by rw [← mf_in_e]; exact sp_X6_in
end MWrap
def mr_addl (r : Nat → Int32) (nl : Nat) (a b k : Int32) : Nat → Int32 := upd (upd (upd (upd r (7 + 3 * nl) a) (7 + 3 * nl + 1) b) (7 + 3 * nl + 2) k) 6 (nI (nl + 1))
def mq_addLink (nl c : Nat) (S : nf_S) (r sv er wk : Nat → Int32) (a b k : Int32) : nf_S × Int32 :=
  if cv_addLink a b k = true then (if mf_lnk r a b = -1 then (if nI nl = 12 then (me S r sv er wk c 2, -4) else (ma S r (mr_addl r nl a b k) sv er wk c, nI nl)) else (me S r sv er wk c 1, -3)) else (me S r sv er wk c 0, -2)
def mr_sh (r : Nat → Int32) (x k : Nat) : Nat → Int32 := fun i => if 7 + 3 * x ≤ i ∧ i < 7 + k then r (i + 3) else r i
theorem mr_sh_0 (r : Nat → Int32) (x : Nat) : mr_sh r x (3 * x) = r := by funext i; simp only [mr_sh]; rw [if_neg (by omega)]
theorem mr_sh_step (r : Nat → Int32) (x k : Nat) (h : 3 * x ≤ k) : upd (mr_sh r x k) (7 + k) (mr_sh r x k (7 + k + 3)) = mr_sh r x (k + 1) := by
  funext i
  simp only [upd, mr_sh]
  by_cases h1 : i = 7 + k
  · subst h1; rw [if_pos rfl, if_neg (by omega), if_pos (by omega)]
  · rw [if_neg h1]
    by_cases h2 : 7 + 3 * x ≤ i ∧ i < 7 + k
    · rw [if_pos h2, if_pos (by omega)]
    · rw [if_neg h2, if_neg (by omega)]
def mr_rem (r : Nat → Int32) (nl x : Nat) : Nat → Int32 := upd (mr_sh r x 33) 6 (nI (nl - 1))
def mq_removeLink (nl c : Nat) (S : nf_S) (r sv er wk : Nat → Int32) (x : Int32) : nf_S × Int32 := if cf_below x (nI nl) = true then (ma S r (mr_rem r nl (cf_num x)) sv er wk c, nI (nl - 1)) else (me S r sv er wk c 0, -2)
def mq_setKind (nl c : Nat) (S : nf_S) (r sv er wk : Nat → Int32) (x k : Int32) : nf_S × Int32 := if (cf_below x (nI nl) && cf_below k 2) = true then (ma S r (upd r (7 + 3 * cf_num x + 2) k) sv er wk c, mf_lk r 2 (cf_num x)) else (me S r sv er wk c 0, -2)
def mq_setGroups (c : Nat) (S : nf_S) (r sv er wk : Nat → Int32) (x g : Int32) : nf_S × Int32 := if (cf_below x 6 && !decide (g < 0) && decide (g ≤ 15)) = true then (ma S r (upd r (43 + cf_num x) g) sv er wk c, r (43 + cf_num x)) else (me S r sv er wk c 0, -2)
def mq_setExpiry (c : Nat) (S : nf_S) (r sv er wk : Nat → Int32) (g x : Int32) : nf_S × Int32 := if (cf_below g 4 && cf_limit x) = true then (ma S r (upd r (2 + cf_num g) x) sv er wk c, r (2 + cf_num g)) else (me S r sv er wk c 0, -2)
def mq_setHistoryLimit (c : Nat) (S : nf_S) (r sv er wk : Nat → Int32) (x : Int32) : nf_S × Int32 := if cf_limit x = true then (ma S r (upd r 1 x) sv er wk c, r 1) else (me S r sv er wk c 0, -2)
def mq_publish (na c : Nat) (S : nf_S) (r sv er wk : Nat → Int32) (h : Nat) (g a e t : Int32) : nf_S × Int32 := if nI na = 30 then (me S r sv er wk c 2, -4) else (ma S r (mr_arr (mr_app r na g a e t) h na 0).1 sv er wk c, nI na)
def mq_post (na c : Nat) (S : nf_S) (r sv er wk : Nat → Int32) (x g a : Int32) : nf_S × Int32 := if (cf_below x 6 && cf_below g 4 && cf_below a 10) = true then mq_publish na c S r sv er wk (cf_num x) g a 0 (-1) else (me S r sv er wk c 0, -2)
def mq_postAction (na c : Nat) (S : nf_S) (r sv er wk : Nat → Int32) (x a e t : Int32) : nf_S × Int32 := if (cf_below x 6 && cf_below a 10 && !decide (e < 1) && !decide (2 < e) && cf_below t (nI na)) = true then mq_publish na c S r sv er wk (cf_num x) (mf_of r (cf_num t) 0) a e t else (me S r sv er wk c 0, -2)
def mq_isStored (na c : Nat) (S : nf_S) (r sv er wk : Nat → Int32) (x a : Int32) : nf_S × Int32 := if (cf_below x 6 && cf_below a (nI na)) = true then (mm S r sv er wk (nI c), nf_b (mf_tst (r (380 + cf_num x)) a)) else (me S r sv er wk c 0, -2)
def mq_knownSince (na c : Nat) (S : nf_S) (r sv er wk : Nat → Int32) (x a : Int32) : nf_S × Int32 := if (cf_below x 6 && cf_below a (nI na)) = true then (mm S r sv er wk (nI c), mf_kn r (cf_num x) (cf_num a)) else (me S r sv er wk c 0, -2)
def mf_pop : Nat → Int32 → Int32 → Int32
  | 0, _, n => n
  | f + 1, l, n => if l ≤ 0 then n else mf_pop f (l >>> (1 &&& 31)) (n + (l &&& 1))
def mf_pnd (r : Nat → Int32) (h : Nat) : Nat → Nat → Int32 → Int32
  | 0, _, n => n
  | m + 1, k, n => mf_pnd r h m (k + 1) (mf_pop 10 (r (386 + 30 * h + k)) n)
def mq_pending (c : Nat) (S : nf_S) (r sv er wk : Nat → Int32) (x : Int32) : nf_S × Int32 := if cf_below x 6 = true then (mm S r sv er wk (nI c), mf_pnd r (cf_num x) 30 0 0) else (me S r sv er wk c 0, -2)
def mf_hold (r : Nat → Int32) (a : Int32) : Nat → Nat → Int32 → Int32
  | 0, _, acc => acc
  | m + 1, k, acc => mf_hold r a m (k + 1) (acc ||| (if mf_tst (r (380 + k)) a = true then cf_bit (nI k) else 0))
def mq_holders (na c : Nat) (S : nf_S) (r sv er wk : Nat → Int32) (a : Int32) : nf_S × Int32 := if cf_below a (nI na) = true then (mm S r sv er wk (nI c), mf_hold r a 6 0 0) else (me S r sv er wk c 0, -2)
def mf_sig (r : Nat → Int32) (h : Nat) (g : Int32) : Nat → Nat → Int32 → Int32
  | 0, _, acc => acc
  | m + 1, k, acc => mf_sig r h g m (k + 1) (acc + (if mf_tst (r (380 + h)) (nI k) = true then (if mf_of r k 0 = g then 1 else 0) else 0))
def mq_inGroup (na c : Nat) (S : nf_S) (r sv er wk : Nat → Int32) (x g : Int32) : nf_S × Int32 := if (cf_below x 6 && cf_below g 4) = true then (mm S r sv er wk (nI c), mf_sig r (cf_num x) g na 0 0) else (me S r sv er wk c 0, -2)
def mf_both (r : Nat → Int32) (k : Nat) : Int32 := cf_bit (mf_lk r 0 k) ||| cf_bit (mf_lk r 1 k)
def mf_more (r : Nat → Int32) (s : Int32) : Nat → Nat → Int32 → Int32
  | 0, _, acc => acc
  | m + 1, k, acc => mf_more r s m (k + 1) (acc ||| (if s &&& mf_both r k = 0 then 0 else mf_both r k))
def mf_dst (r : Nat → Int32) (nl : Nat) (b : Int32) : Nat → Nat → Int32 → Int32
  | 0, _, _ => -1
  | m + 1, k, s => if (s >>> (b &&& 31)) &&& 1 = 1 then nI k else mf_dst r nl b m (k + 1) (mf_more r s nl 0 s)
def mq_distance (nl c : Nat) (S : nf_S) (r sv er wk : Nat → Int32) (a b : Int32) : nf_S × Int32 := if (cf_below a 6 && cf_below b 6) = true then (mm S r sv er wk (nI c), mf_dst r nl b 6 0 (cf_bit a)) else (me S r sv er wk c 0, -2)
def mq_total (c : Nat) (S : nf_S) (r sv er wk : Nat → Int32) (x : Int32) : nf_S × Int32 := if cf_below x 6 = true then (mm S r sv er wk (nI c), r (566 + cf_num x)) else (me S r sv er wk c 0, -2)
def mq_undo (c : Nat) (S : nf_S) (r sv er wk : Nat → Int32) : nf_S × Int32 := if nI c = 0 then (me S r sv er wk c 3, -5) else (mm S (ms_undo r sv (1597 * (c - 1)) 1597) sv er wk (nI (c - 1)), nI (c - 1))
def mq_errorCount (c : Nat) (S : nf_S) (r sv er wk : Nat → Int32) (x : Int32) : nf_S × Int32 := if cf_below (cf_slot x) 4 = true then (mm S r sv er wk (nI c), er (cf_num (cf_slot x))) else (me S r sv er wk c 0, -2)
theorem cf_slot_sub {x : Int32} (h : cf_below (cf_slot x) 4 = true) : -2 - x = cf_slot x := by
  unfold cf_slot at h ⊢
  split at h
  · exact absurd h (by decide)
  · rename_i h1
    rw [if_neg h1]
    split at h
    · exact absurd h (by decide)
    · rename_i h2
      rw [if_neg h2]
theorem nf_shr1 : ∀ x, x < 1024 → nI x >>> (1 &&& 31) = nI (x / 2) := by decide +kernel
set_option maxRecDepth 100000 in
set_option maxHeartbeats 4000000 in
theorem sp_X6_addLink {L : nf_L} {S : nf_S} {r sv er wk : Nat → Int32} {c : Nat} {nl : Nat} {a b k : Int32} (hc : c ≤ 4) (hr : r 6 = nI nl) (hnl : nl ≤ 12) : nf_Sp L 2 yX6_addLink cX6_addLink 5 (some .int) [.ref (L.2.2 (8, 0, 0, 0)), .int a, .int b, .int k] (mm S r sv er wk (nI c)) (some (.int (mq_addLink nl c S r sv er wk a b k).2)) (mq_addLink nl c S r sv er wk a b k).1 := by
  refine nf_start (own := RX6) (ls0 := [some (.ref (L.2.2 (8, 0, 0, 0))), some (.int a), some (.int b), some (.int k), none]) (by decide) (Nat.le_of_ble_eq_true rfl) rfl rfl ?_
  refine nf_iln (pc := 0) dX6_addLink_0 rfl ?_
  refine nf_cSi1 (pc := 1) sp_mhost mk_X6_38 st_X6_isHost nm_X6_isHost ⟨by decide, by decide⟩ (Nat.le_of_ble_eq_true rfl) dX6_addLink_1 ?_
  refine nf_if_eqB (pc := 4) 29 dX6_addLink_4 (by decide) (fun c_4 => ?_) (fun c_4 => ?_)
  · refine nf_aln (pc := 29) dX6_addLink_29 rfl ?_
    refine nf_bipush (pc := 30) (v := (-2)) dX6_addLink_30 (by decide) ?_
    refine nf_cVi1 (pc := 32) (sp_X6_error (x := -2) (i := 0) (by decide) (by decide)) rfl rfl rfl mk_X6_42 im_X6_error se_X6_error nm_X6_error ⟨by decide, by decide⟩ (Nat.le_of_ble_eq_true rfl) dX6_addLink_32 ?_
    exact nf_to (by simp [mq_addLink, cv_addLink, me, ma, c_4] <;> rfl) (by simp [mq_addLink, cv_addLink, me, ma, c_4] <;> rfl) (nf_iret (pc := 35) dX6_addLink_35)
  · refine nf_iln (pc := 7) dX6_addLink_7 rfl ?_
    refine nf_cSi1 (pc := 8) sp_mhost mk_X6_38 st_X6_isHost nm_X6_isHost ⟨by decide, by decide⟩ (Nat.le_of_ble_eq_true rfl) dX6_addLink_8 ?_
    refine nf_if_eqB (pc := 11) 29 dX6_addLink_11 (by decide) (fun c_11 => ?_) (fun c_11 => ?_)
    · refine nf_aln (pc := 29) dX6_addLink_29 rfl ?_
      refine nf_bipush (pc := 30) (v := (-2)) dX6_addLink_30 (by decide) ?_
      refine nf_cVi1 (pc := 32) (sp_X6_error (x := -2) (i := 0) (by decide) (by decide)) rfl rfl rfl mk_X6_42 im_X6_error se_X6_error nm_X6_error ⟨by decide, by decide⟩ (Nat.le_of_ble_eq_true rfl) dX6_addLink_32 ?_
      exact nf_to (by simp [mq_addLink, cv_addLink, me, ma, c_4, c_11] <;> rfl) (by simp [mq_addLink, cv_addLink, me, ma, c_4, c_11] <;> rfl) (nf_iret (pc := 35) dX6_addLink_35)
    · refine nf_iln (pc := 14) dX6_addLink_14 rfl ?_
      refine nf_iln (pc := 15) dX6_addLink_15 rfl ?_
      refine nf_ic_eq (pc := 16) 29 dX6_addLink_16 (by decide) (fun c_16 => ?_) (fun c_16 => ?_)
      · refine nf_aln (pc := 29) dX6_addLink_29 rfl ?_
        refine nf_bipush (pc := 30) (v := (-2)) dX6_addLink_30 (by decide) ?_
        refine nf_cVi1 (pc := 32) (sp_X6_error (x := -2) (i := 0) (by decide) (by decide)) rfl rfl rfl mk_X6_42 im_X6_error se_X6_error nm_X6_error ⟨by decide, by decide⟩ (Nat.le_of_ble_eq_true rfl) dX6_addLink_32 ?_
        exact nf_to (by simp [mq_addLink, cv_addLink, me, ma, c_4, c_11, c_16] <;> rfl) (by simp [mq_addLink, cv_addLink, me, ma, c_4, c_11, c_16] <;> rfl) (nf_iret (pc := 35) dX6_addLink_35)
      · refine nf_iln (pc := 19) dX6_addLink_19 rfl ?_
        refine nf_i2l (pc := 20) dX6_addLink_20 ?_
        refine nf_lconst (pc := 21) (v := 0) dX6_addLink_21 (by decide) ?_
        refine nf_lconst (pc := 22) (v := 1) dX6_addLink_22 (by decide) ?_
        refine nf_cSi3 (pc := 23) sp_in1 mk_X6_28 st_X6_in nm_X6_in ⟨by decide, by decide⟩ (Nat.le_of_ble_eq_true rfl) dX6_addLink_23 ?_
        refine nf_if_neB (pc := 26) 36 dX6_addLink_26 (by decide) (fun c_26 => ?_) (fun c_26 => ?_)
        · refine nf_aln (pc := 36) dX6_addLink_36 rfl ?_
          refine nf_iln (pc := 37) dX6_addLink_37 rfl ?_
          refine nf_iln (pc := 38) dX6_addLink_38 rfl ?_
          refine nf_cVi2 (pc := 39) (sp_mlnk hr hnl) rfl rfl rfl mk_X6_46 im_X6_linkOf se_X6_linkOf nm_X6_linkOf ⟨by decide, by decide⟩ (Nat.le_of_ble_eq_true rfl) dX6_addLink_39 ?_
          refine nf_iconst (pc := 42) (v := (-1)) dX6_addLink_42 (by decide) ?_
          refine nf_ic_eq (pc := 43) 53 dX6_addLink_43 (by decide) (fun c_43 => ?_) (fun c_43 => ?_)
          · refine nf_aln (pc := 53) dX6_addLink_53 rfl ?_
            refine gf_X6_all (pc := 54) lk_X6_7 dX6_addLink_54 ?_
            refine nf_bipush (pc := 57) (v := 6) dX6_addLink_57 (by decide) ?_
            refine mo_ld1 (pc := 59) (k := 6) (by decide) dX6_addLink_59 ?_
            refine nf_topI (y := nI (nl)) hr ?_
            refine nf_bipush (pc := 60) (v := 12) dX6_addLink_60 (by decide) ?_
            refine nf_ic_ne (pc := 62) 72 dX6_addLink_62 (by decide) (fun c_62 => ?_) (fun c_62 => ?_)
            · have hnl2 : nl < 12 := by
                rcases Nat.lt_or_ge nl 12 with h | h
                · exact h
                · exact absurd (show nI nl = 12 by rw [show nl = 12 by omega]; rfl) c_62
              refine nf_aln (pc := 72) dX6_addLink_72 rfl ?_
              refine nf_cVv0 (pc := 73) (sp_X6_save hc) rfl rfl rfl mk_X6_49 im_X6_save se_X6_save nm_X6_save ⟨by decide, by decide⟩ (Nat.le_of_ble_eq_true rfl) dX6_addLink_73 ?_
              refine nf_bipush (pc := 76) (v := 7) dX6_addLink_76 (by decide) ?_
              refine nf_iconst (pc := 78) (v := 3) dX6_addLink_78 (by decide) ?_
              refine nf_aln (pc := 79) dX6_addLink_79 rfl ?_
              refine gf_X6_all (pc := 80) lk_X6_7 dX6_addLink_80 ?_
              refine nf_bipush (pc := 83) (v := 6) dX6_addLink_83 (by decide) ?_
              refine mo_ld1 (pc := 85) (k := 6) (by decide) dX6_addLink_85 ?_
              refine nf_topI (y := nI (nl)) hr ?_
              refine nf_imulI (pc := 86) (a := 3) (b := nl) dX6_addLink_86 ?_
              refine nf_iaddI (pc := 87) (a := 7) (b := (3 * nl)) dX6_addLink_87 ?_
              refine nf_is4 (pc := 88) dX6_addLink_88 rfl (by decide) ?_
              refine nf_aln (pc := 90) dX6_addLink_90 rfl ?_
              refine gf_X6_all (pc := 91) lk_X6_7 dX6_addLink_91 ?_
              refine nf_il (pc := 94) dX6_addLink_94 rfl ?_
              refine nf_iln (pc := 96) dX6_addLink_96 rfl ?_
              refine mo_st1 (pc := 97) (k := (7 + (3 * nl))) (by omega) dX6_addLink_97 ?_
              refine nf_aln (pc := 98) dX6_addLink_98 rfl ?_
              refine gf_X6_all (pc := 99) lk_X6_7 dX6_addLink_99 ?_
              refine nf_il (pc := 102) dX6_addLink_102 rfl ?_
              refine nf_iconst (pc := 104) (v := 1) dX6_addLink_104 (by decide) ?_
              refine nf_iaddI (pc := 105) (a := (7 + (3 * nl))) (b := 1) dX6_addLink_105 ?_
              refine nf_iln (pc := 106) dX6_addLink_106 rfl ?_
              refine mo_st1 (pc := 107) (k := ((7 + (3 * nl)) + 1)) (by omega) dX6_addLink_107 ?_
              refine nf_aln (pc := 108) dX6_addLink_108 rfl ?_
              refine gf_X6_all (pc := 109) lk_X6_7 dX6_addLink_109 ?_
              refine nf_il (pc := 112) dX6_addLink_112 rfl ?_
              refine nf_iconst (pc := 114) (v := 2) dX6_addLink_114 (by decide) ?_
              refine nf_iaddI (pc := 115) (a := (7 + (3 * nl))) (b := 2) dX6_addLink_115 ?_
              refine nf_iln (pc := 116) dX6_addLink_116 rfl ?_
              refine mo_st1 (pc := 117) (k := ((7 + (3 * nl)) + 2)) (by omega) dX6_addLink_117 ?_
              refine nf_aln (pc := 118) dX6_addLink_118 rfl ?_
              refine gf_X6_all (pc := 119) lk_X6_7 dX6_addLink_119 ?_
              refine nf_bipush (pc := 122) (v := 6) dX6_addLink_122 (by decide) ?_
              refine nf_dup2 (pc := 124) dX6_addLink_124 rfl rfl ?_
              refine mo_ld1 (pc := 125) (k := 6) (by decide) dX6_addLink_125 ?_
              refine nf_topI (y := nI (nl)) (by simp only [upd]; rw [if_neg (by omega), if_neg (by omega), if_neg (by omega)]; exact hr) ?_
              refine nf_iconst (pc := 126) (v := 1) dX6_addLink_126 (by decide) ?_
              refine nf_iaddI (pc := 127) (a := nl) (b := 1) dX6_addLink_127 ?_
              refine mo_st1 (pc := 128) (k := 6) (by decide) dX6_addLink_128 ?_
              refine nf_from (S' := mm S (mr_addl r nl a b k) (ms_save sv r c) er wk (nI (ms_cnt c))) rfl ?_
              refine nf_aln (pc := 129) dX6_addLink_129 rfl ?_
              refine gf_X6_all (pc := 130) lk_X6_7 dX6_addLink_130 ?_
              refine nf_bipush (pc := 133) (v := 6) dX6_addLink_133 (by decide) ?_
              refine mo_ld1 (pc := 135) (k := 6) (by decide) dX6_addLink_135 ?_
              refine nf_topI (y := nI (nl + 1)) (by simp [mr_addl, upd]) ?_
              refine nf_iconst (pc := 136) (v := 1) dX6_addLink_136 (by decide) ?_
              refine nf_isub (pc := 137) dX6_addLink_137 ?_
              refine nf_topI (y := nI (nl)) (nf_succ_sub _) ?_
              exact nf_to (by simp [mq_addLink, cv_addLink, me, ma, c_4, c_11, c_16, c_26, c_43, c_62] <;> rfl) (by simp [mq_addLink, cv_addLink, me, ma, c_4, c_11, c_16, c_26, c_43, c_62] <;> rfl) (nf_iret (pc := 138) dX6_addLink_138)
            · refine nf_aln (pc := 65) dX6_addLink_65 rfl ?_
              refine nf_bipush (pc := 66) (v := (-4)) dX6_addLink_66 (by decide) ?_
              refine nf_cVi1 (pc := 68) (sp_X6_error (x := -4) (i := 2) (by decide) (by decide)) rfl rfl rfl mk_X6_42 im_X6_error se_X6_error nm_X6_error ⟨by decide, by decide⟩ (Nat.le_of_ble_eq_true rfl) dX6_addLink_68 ?_
              exact nf_to (by simp [mq_addLink, cv_addLink, me, ma, c_4, c_11, c_16, c_26, c_43, c_62] <;> rfl) (by simp [mq_addLink, cv_addLink, me, ma, c_4, c_11, c_16, c_26, c_43, c_62] <;> rfl) (nf_iret (pc := 71) dX6_addLink_71)
          · refine nf_aln (pc := 46) dX6_addLink_46 rfl ?_
            refine nf_bipush (pc := 47) (v := (-3)) dX6_addLink_47 (by decide) ?_
            refine nf_cVi1 (pc := 49) (sp_X6_error (x := -3) (i := 1) (by decide) (by decide)) rfl rfl rfl mk_X6_42 im_X6_error se_X6_error nm_X6_error ⟨by decide, by decide⟩ (Nat.le_of_ble_eq_true rfl) dX6_addLink_49 ?_
            exact nf_to (by simp [mq_addLink, cv_addLink, me, ma, c_4, c_11, c_16, c_26, c_43] <;> rfl) (by simp [mq_addLink, cv_addLink, me, ma, c_4, c_11, c_16, c_26, c_43] <;> rfl) (nf_iret (pc := 52) dX6_addLink_52)
        · refine nf_aln (pc := 29) dX6_addLink_29 rfl ?_
          refine nf_bipush (pc := 30) (v := (-2)) dX6_addLink_30 (by decide) ?_
          refine nf_cVi1 (pc := 32) (sp_X6_error (x := -2) (i := 0) (by decide) (by decide)) rfl rfl rfl mk_X6_42 im_X6_error se_X6_error nm_X6_error ⟨by decide, by decide⟩ (Nat.le_of_ble_eq_true rfl) dX6_addLink_32 ?_
          exact nf_to (by simp [mq_addLink, cv_addLink, me, ma, c_4, c_11, c_16, c_26] <;> rfl) (by simp [mq_addLink, cv_addLink, me, ma, c_4, c_11, c_16, c_26] <;> rfl) (nf_iret (pc := 35) dX6_addLink_35)
set_option maxRecDepth 100000 in
set_option maxHeartbeats 4000000 in
theorem lp_rem {L : nf_L} {rr : Option Value} {S2 S : nf_S} {r sv er wk : Nat → Int32} {j y : Int32} {x : Nat}  : ∀ (m : Nat) (k : Nat), (k + m = 33) → (3 * x ≤ k) → (nf_V L 2 cX6_removeLink RX6 3 (some .int) rr S2 55 [some (.ref (L.2.2 (8, 0, 0, 0))), some (.int y), some (.int (nI 33))] [] (mm S (mr_sh r x 33) sv er wk j)) → nf_V L 2 cX6_removeLink RX6 3 (some .int) rr S2 23 [some (.ref (L.2.2 (8, 0, 0, 0))), some (.int y), some (.int (nI k))] [] (mm S (mr_sh r x k) sv er wk j) := by
  intro m
  induction m with
  | zero =>
    intro k hkm hx hK
    refine nf_iln (pc := 23) dX6_removeLink_23 rfl ?_
    refine nf_bipush (pc := 24) (v := 33) dX6_removeLink_24 (by decide) ?_
    refine nf_ic_ge (pc := 26) 55 dX6_removeLink_26 (by decide) (fun c_26 => ?_) (fun c_26 => ?_)
    · rw [show k = 33 by omega]
      exact hK
    · exact absurd (nI_le (a := 33) (by omega) (by omega)) c_26
  | succ m ih =>
    intro k hkm hx hK
    refine nf_iln (pc := 23) dX6_removeLink_23 rfl ?_
    refine nf_bipush (pc := 24) (v := 33) dX6_removeLink_24 (by decide) ?_
    refine nf_ic_ge (pc := 26) 55 dX6_removeLink_26 (by decide) (fun c_26 => ?_) (fun c_26 => ?_)
    · exact absurd c_26 (nI_ge (b := 33) (by omega) (by omega))
    · refine nf_aln (pc := 29) dX6_removeLink_29 rfl ?_
      refine gf_X6_all (pc := 30) lk_X6_7 dX6_removeLink_30 ?_
      refine nf_bipush (pc := 33) (v := 7) dX6_removeLink_33 (by decide) ?_
      refine nf_iln (pc := 35) dX6_removeLink_35 rfl ?_
      refine nf_iaddI (pc := 36) (a := 7) (b := k) dX6_removeLink_36 ?_
      refine nf_aln (pc := 37) dX6_removeLink_37 rfl ?_
      refine gf_X6_all (pc := 38) lk_X6_7 dX6_removeLink_38 ?_
      refine nf_bipush (pc := 41) (v := 7) dX6_removeLink_41 (by decide) ?_
      refine nf_iln (pc := 43) dX6_removeLink_43 rfl ?_
      refine nf_iaddI (pc := 44) (a := 7) (b := k) dX6_removeLink_44 ?_
      refine nf_iconst (pc := 45) (v := 3) dX6_removeLink_45 (by decide) ?_
      refine nf_iaddI (pc := 46) (a := (7 + k)) (b := 3) dX6_removeLink_46 ?_
      refine mo_ld1 (pc := 47) (k := ((7 + k) + 3)) (by omega) dX6_removeLink_47 ?_
      refine mo_st1 (pc := 48) (k := (7 + k)) (by omega) dX6_removeLink_48 ?_
      refine nf_iinc2 (pc := 49) (v := nI (k + 1)) dX6_removeLink_49 (nI_succ (k)).symm rfl (by decide) ?_
      refine nf_goto (pc := 52) 23 dX6_removeLink_52 (by decide) ?_
      rw [mr_sh_step r x k hx]
      exact ih (k + 1) (by omega) (by omega) hK
set_option maxRecDepth 100000 in
set_option maxHeartbeats 4000000 in
theorem sp_X6_removeLink {L : nf_L} {S : nf_S} {r sv er wk : Nat → Int32} {c : Nat} {nl : Nat} {x : Int32} (hc : c ≤ 4) (hr : r 6 = nI nl) (hnl : nl ≤ 12) : nf_Sp L 2 yX6_removeLink cX6_removeLink 3 (some .int) [.ref (L.2.2 (8, 0, 0, 0)), .int x] (mm S r sv er wk (nI c)) (some (.int (mq_removeLink nl c S r sv er wk x).2)) (mq_removeLink nl c S r sv er wk x).1 := by
  refine nf_start (own := RX6) (ls0 := [some (.ref (L.2.2 (8, 0, 0, 0))), some (.int x), none]) (by decide) (Nat.le_of_ble_eq_true rfl) rfl rfl ?_
  refine nf_aln (pc := 0) dX6_removeLink_0 rfl ?_
  refine nf_iln (pc := 1) dX6_removeLink_1 rfl ?_
  refine nf_cVi1 (pc := 2) (sp_mlink hr hnl) rfl rfl rfl mk_X6_52 im_X6_isLink se_X6_isLink nm_X6_isLink ⟨by decide, by decide⟩ (Nat.le_of_ble_eq_true rfl) dX6_removeLink_2 ?_
  refine nf_if_neB (pc := 5) 15 dX6_removeLink_5 (by decide) (fun c_5 => ?_) (fun c_5 => ?_)
  · have hx := cf_below_lt (by omega) c_5
    have hx2 := cf_below_eq (by omega) c_5
    refine nf_aln (pc := 15) dX6_removeLink_15 rfl ?_
    refine nf_cVv0 (pc := 16) (sp_X6_save hc) rfl rfl rfl mk_X6_49 im_X6_save se_X6_save nm_X6_save ⟨by decide, by decide⟩ (Nat.le_of_ble_eq_true rfl) dX6_removeLink_16 ?_
    refine nf_iconst (pc := 19) (v := 3) dX6_removeLink_19 (by decide) ?_
    refine nf_iln (pc := 20) dX6_removeLink_20 rfl ?_
    refine nf_topI (y := nI (cf_num x)) hx2 ?_
    refine nf_imulI (pc := 21) (a := 3) (b := cf_num x) dX6_removeLink_21 ?_
    refine nf_is2 (pc := 22) dX6_removeLink_22 rfl (by decide) ?_
    refine nf_from (S' := mm S (mr_sh r (cf_num x) (3 * cf_num x)) (ms_save sv r c) er wk (nI (ms_cnt c))) (by rw [mr_sh_0]) ?_
    refine lp_rem (33 - 3 * cf_num x) (3 * cf_num x) (by omega) (by omega) ?_
    refine nf_aln (pc := 55) dX6_removeLink_55 rfl ?_
    refine gf_X6_all (pc := 56) lk_X6_7 dX6_removeLink_56 ?_
    refine nf_bipush (pc := 59) (v := 6) dX6_removeLink_59 (by decide) ?_
    refine nf_dup2 (pc := 61) dX6_removeLink_61 rfl rfl ?_
    refine mo_ld1 (pc := 62) (k := 6) (by decide) dX6_removeLink_62 ?_
    refine nf_topI (y := nI (nl - 1 + 1)) (by simp only [mr_sh]; rw [if_neg (by omega), hr]; congr 1; omega) ?_
    refine nf_iconst (pc := 63) (v := 1) dX6_removeLink_63 (by decide) ?_
    refine nf_isub (pc := 64) dX6_removeLink_64 ?_
    refine nf_topI (y := nI (nl - 1)) (nf_succ_sub _) ?_
    refine mo_st1 (pc := 65) (k := 6) (by decide) dX6_removeLink_65 ?_
    refine nf_aln (pc := 66) dX6_removeLink_66 rfl ?_
    refine gf_X6_all (pc := 67) lk_X6_7 dX6_removeLink_67 ?_
    refine nf_bipush (pc := 70) (v := 6) dX6_removeLink_70 (by decide) ?_
    refine mo_ld1 (pc := 72) (k := 6) (by decide) dX6_removeLink_72 ?_
    refine nf_topI (y := nI (nl - 1)) (by simp [upd]) ?_
    exact nf_to (by simp [mq_removeLink, me, ma, mr_rem, c_5] <;> rfl) (by simp [mq_removeLink, me, ma, mr_rem, c_5] <;> rfl) (nf_iret (pc := 73) dX6_removeLink_73)
  · refine nf_aln (pc := 8) dX6_removeLink_8 rfl ?_
    refine nf_bipush (pc := 9) (v := (-2)) dX6_removeLink_9 (by decide) ?_
    refine nf_cVi1 (pc := 11) (sp_X6_error (x := -2) (i := 0) (by decide) (by decide)) rfl rfl rfl mk_X6_42 im_X6_error se_X6_error nm_X6_error ⟨by decide, by decide⟩ (Nat.le_of_ble_eq_true rfl) dX6_removeLink_11 ?_
    exact nf_to (by simp [mq_removeLink, me, ma, mr_rem, c_5] <;> rfl) (by simp [mq_removeLink, me, ma, mr_rem, c_5] <;> rfl) (nf_iret (pc := 14) dX6_removeLink_14)
set_option maxRecDepth 100000 in
set_option maxHeartbeats 4000000 in
theorem sp_X6_setKind {L : nf_L} {S : nf_S} {r sv er wk : Nat → Int32} {c : Nat} {nl : Nat} {x k : Int32} (hc : c ≤ 4) (hr : r 6 = nI nl) (hnl : nl ≤ 12) : nf_Sp L 2 yX6_setKind cX6_setKind 4 (some .int) [.ref (L.2.2 (8, 0, 0, 0)), .int x, .int k] (mm S r sv er wk (nI c)) (some (.int (mq_setKind nl c S r sv er wk x k).2)) (mq_setKind nl c S r sv er wk x k).1 := by
  refine nf_start (own := RX6) (ls0 := [some (.ref (L.2.2 (8, 0, 0, 0))), some (.int x), some (.int k), none]) (by decide) (Nat.le_of_ble_eq_true rfl) rfl rfl ?_
  refine nf_aln (pc := 0) dX6_setKind_0 rfl ?_
  refine nf_iln (pc := 1) dX6_setKind_1 rfl ?_
  refine nf_cVi1 (pc := 2) (sp_mlink hr hnl) rfl rfl rfl mk_X6_52 im_X6_isLink se_X6_isLink nm_X6_isLink ⟨by decide, by decide⟩ (Nat.le_of_ble_eq_true rfl) dX6_setKind_2 ?_
  refine nf_if_eqB (pc := 5) 18 dX6_setKind_5 (by decide) (fun c_5 => ?_) (fun c_5 => ?_)
  · refine nf_aln (pc := 18) dX6_setKind_18 rfl ?_
    refine nf_bipush (pc := 19) (v := (-2)) dX6_setKind_19 (by decide) ?_
    refine nf_cVi1 (pc := 21) (sp_X6_error (x := -2) (i := 0) (by decide) (by decide)) rfl rfl rfl mk_X6_42 im_X6_error se_X6_error nm_X6_error ⟨by decide, by decide⟩ (Nat.le_of_ble_eq_true rfl) dX6_setKind_21 ?_
    exact nf_to (by simp [mq_setKind, me, ma, c_5] <;> rfl) (by simp [mq_setKind, me, ma, c_5] <;> rfl) (nf_iret (pc := 24) dX6_setKind_24)
  · refine nf_iln (pc := 8) dX6_setKind_8 rfl ?_
    refine nf_i2l (pc := 9) dX6_setKind_9 ?_
    refine nf_lconst (pc := 10) (v := 0) dX6_setKind_10 (by decide) ?_
    refine nf_lconst (pc := 11) (v := 1) dX6_setKind_11 (by decide) ?_
    refine nf_cSi3 (pc := 12) sp_in1 mk_X6_28 st_X6_in nm_X6_in ⟨by decide, by decide⟩ (Nat.le_of_ble_eq_true rfl) dX6_setKind_12 ?_
    refine nf_if_neB (pc := 15) 25 dX6_setKind_15 (by decide) (fun c_15 => ?_) (fun c_15 => ?_)
    · have hx := cf_below_lt (by omega) c_5
      have hx2 := cf_below_eq (by omega) c_5
      refine nf_aln (pc := 25) dX6_setKind_25 rfl ?_
      refine nf_cVv0 (pc := 26) (sp_X6_save hc) rfl rfl rfl mk_X6_49 im_X6_save se_X6_save nm_X6_save ⟨by decide, by decide⟩ (Nat.le_of_ble_eq_true rfl) dX6_setKind_26 ?_
      refine nf_aln (pc := 29) dX6_setKind_29 rfl ?_
      refine nf_iln (pc := 30) dX6_setKind_30 rfl ?_
      refine nf_topI (y := nI (cf_num x)) hx2 ?_
      refine nf_iconst (pc := 31) (v := 2) dX6_setKind_31 (by decide) ?_
      refine nf_cVi2 (pc := 32) (sp_X6_link (by omega) (by decide)) rfl rfl rfl mk_X6_34 im_X6_link se_X6_link nm_X6_link ⟨by decide, by decide⟩ (Nat.le_of_ble_eq_true rfl) dX6_setKind_32 ?_
      refine nf_is3 (pc := 35) dX6_setKind_35 rfl (by decide) ?_
      refine nf_aln (pc := 36) dX6_setKind_36 rfl ?_
      refine gf_X6_all (pc := 37) lk_X6_7 dX6_setKind_37 ?_
      refine nf_bipush (pc := 40) (v := 7) dX6_setKind_40 (by decide) ?_
      refine nf_iconst (pc := 42) (v := 3) dX6_setKind_42 (by decide) ?_
      refine nf_iln (pc := 43) dX6_setKind_43 rfl ?_
      refine nf_topI (y := nI (cf_num x)) hx2 ?_
      refine nf_imulI (pc := 44) (a := 3) (b := cf_num x) dX6_setKind_44 ?_
      refine nf_iaddI (pc := 45) (a := 7) (b := (3 * cf_num x)) dX6_setKind_45 ?_
      refine nf_iconst (pc := 46) (v := 2) dX6_setKind_46 (by decide) ?_
      refine nf_iaddI (pc := 47) (a := (7 + (3 * cf_num x))) (b := 2) dX6_setKind_47 ?_
      refine nf_iln (pc := 48) dX6_setKind_48 rfl ?_
      refine mo_st1 (pc := 49) (k := ((7 + (3 * cf_num x)) + 2)) (by omega) dX6_setKind_49 ?_
      refine nf_iln (pc := 50) dX6_setKind_50 rfl ?_
      exact nf_to (by simp [mq_setKind, me, ma, c_5, c_15] <;> rfl) (by simp [mq_setKind, me, ma, c_5, c_15] <;> rfl) (nf_iret (pc := 51) dX6_setKind_51)
    · refine nf_aln (pc := 18) dX6_setKind_18 rfl ?_
      refine nf_bipush (pc := 19) (v := (-2)) dX6_setKind_19 (by decide) ?_
      refine nf_cVi1 (pc := 21) (sp_X6_error (x := -2) (i := 0) (by decide) (by decide)) rfl rfl rfl mk_X6_42 im_X6_error se_X6_error nm_X6_error ⟨by decide, by decide⟩ (Nat.le_of_ble_eq_true rfl) dX6_setKind_21 ?_
      exact nf_to (by simp [mq_setKind, me, ma, c_5, c_15] <;> rfl) (by simp [mq_setKind, me, ma, c_5, c_15] <;> rfl) (nf_iret (pc := 24) dX6_setKind_24)
set_option maxRecDepth 100000 in
set_option maxHeartbeats 4000000 in
theorem sp_X6_setGroups {L : nf_L} {S : nf_S} {r sv er wk : Nat → Int32} {c : Nat} {x g : Int32} (hc : c ≤ 4) : nf_Sp L 2 yX6_setGroups cX6_setGroups 4 (some .int) [.ref (L.2.2 (8, 0, 0, 0)), .int x, .int g] (mm S r sv er wk (nI c)) (some (.int (mq_setGroups c S r sv er wk x g).2)) (mq_setGroups c S r sv er wk x g).1 := by
  refine nf_start (own := RX6) (ls0 := [some (.ref (L.2.2 (8, 0, 0, 0))), some (.int x), some (.int g), none]) (by decide) (Nat.le_of_ble_eq_true rfl) rfl rfl ?_
  refine nf_iln (pc := 0) dX6_setGroups_0 rfl ?_
  refine nf_cSi1 (pc := 1) sp_mhost mk_X6_38 st_X6_isHost nm_X6_isHost ⟨by decide, by decide⟩ (Nat.le_of_ble_eq_true rfl) dX6_setGroups_1 ?_
  refine nf_if_eqB (pc := 4) 19 dX6_setGroups_4 (by decide) (fun c_4 => ?_) (fun c_4 => ?_)
  · refine nf_aln (pc := 19) dX6_setGroups_19 rfl ?_
    refine nf_bipush (pc := 20) (v := (-2)) dX6_setGroups_20 (by decide) ?_
    refine nf_cVi1 (pc := 22) (sp_X6_error (x := -2) (i := 0) (by decide) (by decide)) rfl rfl rfl mk_X6_42 im_X6_error se_X6_error nm_X6_error ⟨by decide, by decide⟩ (Nat.le_of_ble_eq_true rfl) dX6_setGroups_22 ?_
    exact nf_to (by simp only [mq_setGroups, me, ma, c_4, Bool.and_assoc, if_true, if_false, reduceIte, Bool.false_eq_true, Bool.true_and, Bool.false_and, Bool.and_true] <;> rfl) (by simp only [mq_setGroups, me, ma, c_4, Bool.and_assoc, if_true, if_false, reduceIte, Bool.false_eq_true, Bool.true_and, Bool.false_and, Bool.and_true] <;> rfl) (nf_iret (pc := 25) dX6_setGroups_25)
  · refine nf_iln (pc := 7) dX6_setGroups_7 rfl ?_
    refine nf_i2l (pc := 8) dX6_setGroups_8 ?_
    refine nf_lconst (pc := 9) (v := 0) dX6_setGroups_9 (by decide) ?_
    refine nf_ldc2 (pc := 10) dX6_setGroups_10 kc_X6_55 ?_
    refine nf_cSi3 (pc := 13) sp_in15 mk_X6_28 st_X6_in nm_X6_in ⟨by decide, by decide⟩ (Nat.le_of_ble_eq_true rfl) dX6_setGroups_13 ?_
    refine nf_if_neB (pc := 16) 26 dX6_setGroups_16 (by decide) (fun c_16 => ?_) (fun c_16 => ?_)
    · have hx := cf_below_lt (n := 6) (by omega) c_4
      have hx2 := cf_below_eq (n := 6) (by omega) c_4
      refine nf_aln (pc := 26) dX6_setGroups_26 rfl ?_
      refine nf_cVv0 (pc := 27) (sp_X6_save hc) rfl rfl rfl mk_X6_49 im_X6_save se_X6_save nm_X6_save ⟨by decide, by decide⟩ (Nat.le_of_ble_eq_true rfl) dX6_setGroups_27 ?_
      refine nf_aln (pc := 30) dX6_setGroups_30 rfl ?_
      refine gf_X6_all (pc := 31) lk_X6_7 dX6_setGroups_31 ?_
      refine nf_bipush (pc := 34) (v := 43) dX6_setGroups_34 (by decide) ?_
      refine nf_iln (pc := 36) dX6_setGroups_36 rfl ?_
      refine nf_topI (y := nI (cf_num x)) hx2 ?_
      refine nf_iaddI (pc := 37) (a := 43) (b := cf_num x) dX6_setGroups_37 ?_
      refine mo_ld1 (pc := 38) (k := (43 + cf_num x)) (by omega) dX6_setGroups_38 ?_
      refine nf_is3 (pc := 39) dX6_setGroups_39 rfl (by decide) ?_
      refine nf_aln (pc := 40) dX6_setGroups_40 rfl ?_
      refine gf_X6_all (pc := 41) lk_X6_7 dX6_setGroups_41 ?_
      refine nf_bipush (pc := 44) (v := 43) dX6_setGroups_44 (by decide) ?_
      refine nf_iln (pc := 46) dX6_setGroups_46 rfl ?_
      refine nf_topI (y := nI (cf_num x)) hx2 ?_
      refine nf_iaddI (pc := 47) (a := 43) (b := cf_num x) dX6_setGroups_47 ?_
      refine nf_iln (pc := 48) dX6_setGroups_48 rfl ?_
      refine mo_st1 (pc := 49) (k := (43 + cf_num x)) (by omega) dX6_setGroups_49 ?_
      refine nf_iln (pc := 50) dX6_setGroups_50 rfl ?_
      exact nf_to (by simp only [mq_setGroups, me, ma, c_4, c_16, Bool.and_assoc, if_true, if_false, reduceIte, Bool.false_eq_true, Bool.true_and, Bool.false_and, Bool.and_true] <;> rfl) (by simp only [mq_setGroups, me, ma, c_4, c_16, Bool.and_assoc, if_true, if_false, reduceIte, Bool.false_eq_true, Bool.true_and, Bool.false_and, Bool.and_true] <;> rfl) (nf_iret (pc := 51) dX6_setGroups_51)
    · refine nf_aln (pc := 19) dX6_setGroups_19 rfl ?_
      refine nf_bipush (pc := 20) (v := (-2)) dX6_setGroups_20 (by decide) ?_
      refine nf_cVi1 (pc := 22) (sp_X6_error (x := -2) (i := 0) (by decide) (by decide)) rfl rfl rfl mk_X6_42 im_X6_error se_X6_error nm_X6_error ⟨by decide, by decide⟩ (Nat.le_of_ble_eq_true rfl) dX6_setGroups_22 ?_
      exact nf_to (by simp only [mq_setGroups, me, ma, c_4, c_16, Bool.and_assoc, if_true, if_false, reduceIte, Bool.false_eq_true, Bool.true_and, Bool.false_and, Bool.and_true] <;> rfl) (by simp only [mq_setGroups, me, ma, c_4, c_16, Bool.and_assoc, if_true, if_false, reduceIte, Bool.false_eq_true, Bool.true_and, Bool.false_and, Bool.and_true] <;> rfl) (nf_iret (pc := 25) dX6_setGroups_25)
set_option maxRecDepth 100000 in
set_option maxHeartbeats 4000000 in
theorem sp_X6_setExpiry {L : nf_L} {S : nf_S} {r sv er wk : Nat → Int32} {c : Nat} {g x : Int32} (hc : c ≤ 4) : nf_Sp L 2 yX6_setExpiry cX6_setExpiry 4 (some .int) [.ref (L.2.2 (8, 0, 0, 0)), .int g, .int x] (mm S r sv er wk (nI c)) (some (.int (mq_setExpiry c S r sv er wk g x).2)) (mq_setExpiry c S r sv er wk g x).1 := by
  refine nf_start (own := RX6) (ls0 := [some (.ref (L.2.2 (8, 0, 0, 0))), some (.int g), some (.int x), none]) (by decide) (Nat.le_of_ble_eq_true rfl) rfl rfl ?_
  refine nf_iln (pc := 0) dX6_setExpiry_0 rfl ?_
  refine nf_cSi1 (pc := 1) sp_mgroup mk_X6_57 st_X6_isGroup nm_X6_isGroup ⟨by decide, by decide⟩ (Nat.le_of_ble_eq_true rfl) dX6_setExpiry_1 ?_
  refine nf_if_eqB (pc := 4) 19 dX6_setExpiry_4 (by decide) (fun c_4 => ?_) (fun c_4 => ?_)
  · refine nf_aln (pc := 19) dX6_setExpiry_19 rfl ?_
    refine nf_bipush (pc := 20) (v := (-2)) dX6_setExpiry_20 (by decide) ?_
    refine nf_cVi1 (pc := 22) (sp_X6_error (x := -2) (i := 0) (by decide) (by decide)) rfl rfl rfl mk_X6_42 im_X6_error se_X6_error nm_X6_error ⟨by decide, by decide⟩ (Nat.le_of_ble_eq_true rfl) dX6_setExpiry_22 ?_
    exact nf_to (by simp [mq_setExpiry, me, ma, c_4] <;> rfl) (by simp [mq_setExpiry, me, ma, c_4] <;> rfl) (nf_iret (pc := 25) dX6_setExpiry_25)
  · refine nf_iln (pc := 7) dX6_setExpiry_7 rfl ?_
    refine nf_i2l (pc := 8) dX6_setExpiry_8 ?_
    refine nf_lconst (pc := 9) (v := 1) dX6_setExpiry_9 (by decide) ?_
    refine nf_ldc2 (pc := 10) dX6_setExpiry_10 kc_X6_60 ?_
    refine nf_cSi3 (pc := 13) sp_in30 mk_X6_28 st_X6_in nm_X6_in ⟨by decide, by decide⟩ (Nat.le_of_ble_eq_true rfl) dX6_setExpiry_13 ?_
    refine nf_if_neB (pc := 16) 26 dX6_setExpiry_16 (by decide) (fun c_16 => ?_) (fun c_16 => ?_)
    · have hx := cf_below_lt (n := 4) (by omega) c_4
      have hx2 := cf_below_eq (n := 4) (by omega) c_4
      refine nf_aln (pc := 26) dX6_setExpiry_26 rfl ?_
      refine nf_cVv0 (pc := 27) (sp_X6_save hc) rfl rfl rfl mk_X6_49 im_X6_save se_X6_save nm_X6_save ⟨by decide, by decide⟩ (Nat.le_of_ble_eq_true rfl) dX6_setExpiry_27 ?_
      refine nf_aln (pc := 30) dX6_setExpiry_30 rfl ?_
      refine gf_X6_all (pc := 31) lk_X6_7 dX6_setExpiry_31 ?_
      refine nf_iconst (pc := 34) (v := 2) dX6_setExpiry_34 (by decide) ?_
      refine nf_iln (pc := 35) dX6_setExpiry_35 rfl ?_
      refine nf_topI (y := nI (cf_num g)) hx2 ?_
      refine nf_iaddI (pc := 36) (a := 2) (b := cf_num g) dX6_setExpiry_36 ?_
      refine mo_ld1 (pc := 37) (k := (2 + cf_num g)) (by omega) dX6_setExpiry_37 ?_
      refine nf_is3 (pc := 38) dX6_setExpiry_38 rfl (by decide) ?_
      refine nf_aln (pc := 39) dX6_setExpiry_39 rfl ?_
      refine gf_X6_all (pc := 40) lk_X6_7 dX6_setExpiry_40 ?_
      refine nf_iconst (pc := 43) (v := 2) dX6_setExpiry_43 (by decide) ?_
      refine nf_iln (pc := 44) dX6_setExpiry_44 rfl ?_
      refine nf_topI (y := nI (cf_num g)) hx2 ?_
      refine nf_iaddI (pc := 45) (a := 2) (b := cf_num g) dX6_setExpiry_45 ?_
      refine nf_iln (pc := 46) dX6_setExpiry_46 rfl ?_
      refine mo_st1 (pc := 47) (k := (2 + cf_num g)) (by omega) dX6_setExpiry_47 ?_
      refine nf_iln (pc := 48) dX6_setExpiry_48 rfl ?_
      exact nf_to (by simp [mq_setExpiry, me, ma, c_4, c_16] <;> rfl) (by simp [mq_setExpiry, me, ma, c_4, c_16] <;> rfl) (nf_iret (pc := 49) dX6_setExpiry_49)
    · refine nf_aln (pc := 19) dX6_setExpiry_19 rfl ?_
      refine nf_bipush (pc := 20) (v := (-2)) dX6_setExpiry_20 (by decide) ?_
      refine nf_cVi1 (pc := 22) (sp_X6_error (x := -2) (i := 0) (by decide) (by decide)) rfl rfl rfl mk_X6_42 im_X6_error se_X6_error nm_X6_error ⟨by decide, by decide⟩ (Nat.le_of_ble_eq_true rfl) dX6_setExpiry_22 ?_
      exact nf_to (by simp [mq_setExpiry, me, ma, c_4, c_16] <;> rfl) (by simp [mq_setExpiry, me, ma, c_4, c_16] <;> rfl) (nf_iret (pc := 25) dX6_setExpiry_25)
set_option maxRecDepth 100000 in
set_option maxHeartbeats 4000000 in
theorem sp_X6_setHistoryLimit {L : nf_L} {S : nf_S} {r sv er wk : Nat → Int32} {c : Nat} {x : Int32} (hc : c ≤ 4) : nf_Sp L 2 yX6_setHistoryLimit cX6_setHistoryLimit 3 (some .int) [.ref (L.2.2 (8, 0, 0, 0)), .int x] (mm S r sv er wk (nI c)) (some (.int (mq_setHistoryLimit c S r sv er wk x).2)) (mq_setHistoryLimit c S r sv er wk x).1 := by
  refine nf_start (own := RX6) (ls0 := [some (.ref (L.2.2 (8, 0, 0, 0))), some (.int x), none]) (by decide) (Nat.le_of_ble_eq_true rfl) rfl rfl ?_
  refine nf_iln (pc := 0) dX6_setHistoryLimit_0 rfl ?_
  refine nf_i2l (pc := 1) dX6_setHistoryLimit_1 ?_
  refine nf_lconst (pc := 2) (v := 1) dX6_setHistoryLimit_2 (by decide) ?_
  refine nf_ldc2 (pc := 3) dX6_setHistoryLimit_3 kc_X6_60 ?_
  refine nf_cSi3 (pc := 6) sp_in30 mk_X6_28 st_X6_in nm_X6_in ⟨by decide, by decide⟩ (Nat.le_of_ble_eq_true rfl) dX6_setHistoryLimit_6 ?_
  refine nf_if_neB (pc := 9) 19 dX6_setHistoryLimit_9 (by decide) (fun c_9 => ?_) (fun c_9 => ?_)
  · refine nf_aln (pc := 19) dX6_setHistoryLimit_19 rfl ?_
    refine nf_cVv0 (pc := 20) (sp_X6_save hc) rfl rfl rfl mk_X6_49 im_X6_save se_X6_save nm_X6_save ⟨by decide, by decide⟩ (Nat.le_of_ble_eq_true rfl) dX6_setHistoryLimit_20 ?_
    refine nf_aln (pc := 23) dX6_setHistoryLimit_23 rfl ?_
    refine gf_X6_all (pc := 24) lk_X6_7 dX6_setHistoryLimit_24 ?_
    refine nf_iconst (pc := 27) (v := 1) dX6_setHistoryLimit_27 (by decide) ?_
    refine mo_ld1 (pc := 28) (k := 1) (by decide) dX6_setHistoryLimit_28 ?_
    refine nf_is2 (pc := 29) dX6_setHistoryLimit_29 rfl (by decide) ?_
    refine nf_aln (pc := 30) dX6_setHistoryLimit_30 rfl ?_
    refine gf_X6_all (pc := 31) lk_X6_7 dX6_setHistoryLimit_31 ?_
    refine nf_iconst (pc := 34) (v := 1) dX6_setHistoryLimit_34 (by decide) ?_
    refine nf_iln (pc := 35) dX6_setHistoryLimit_35 rfl ?_
    refine mo_st1 (pc := 36) (k := 1) (by decide) dX6_setHistoryLimit_36 ?_
    refine nf_iln (pc := 37) dX6_setHistoryLimit_37 rfl ?_
    exact nf_to (by simp [mq_setHistoryLimit, me, ma, c_9] <;> rfl) (by simp [mq_setHistoryLimit, me, ma, c_9] <;> rfl) (nf_iret (pc := 38) dX6_setHistoryLimit_38)
  · refine nf_aln (pc := 12) dX6_setHistoryLimit_12 rfl ?_
    refine nf_bipush (pc := 13) (v := (-2)) dX6_setHistoryLimit_13 (by decide) ?_
    refine nf_cVi1 (pc := 15) (sp_X6_error (x := -2) (i := 0) (by decide) (by decide)) rfl rfl rfl mk_X6_42 im_X6_error se_X6_error nm_X6_error ⟨by decide, by decide⟩ (Nat.le_of_ble_eq_true rfl) dX6_setHistoryLimit_15 ?_
    exact nf_to (by simp [mq_setHistoryLimit, me, ma, c_9] <;> rfl) (by simp [mq_setHistoryLimit, me, ma, c_9] <;> rfl) (nf_iret (pc := 18) dX6_setHistoryLimit_18)
set_option maxRecDepth 100000 in
set_option maxHeartbeats 4000000 in
theorem sp_X6_post {L : nf_L} {S : nf_S} {r sv er wk : Nat → Int32} {c : Nat} {nl na q : Nat} {x g a : Int32} (hc : c ≤ 4) (hk : mr_ok r nl na q) : nf_Sp L 4 yX6_post cX6_post 4 (some .int) [.ref (L.2.2 (8, 0, 0, 0)), .int x, .int g, .int a] (mm S r sv er wk (nI c)) (some (.int (mq_post na c S r sv er wk x g a).2)) (mq_post na c S r sv er wk x g a).1 := by
  refine nf_start (own := RX6) (ls0 := [some (.ref (L.2.2 (8, 0, 0, 0))), some (.int x), some (.int g), some (.int a)]) (by decide) (Nat.le_of_ble_eq_true rfl) rfl rfl ?_
  refine nf_iln (pc := 0) dX6_post_0 rfl ?_
  refine nf_cSi1 (pc := 1) sp_mhost mk_X6_38 st_X6_isHost nm_X6_isHost ⟨by decide, by decide⟩ (Nat.le_of_ble_eq_true rfl) dX6_post_1 ?_
  refine nf_if_eqB (pc := 4) 26 dX6_post_4 (by decide) (fun c_4 => ?_) (fun c_4 => ?_)
  · refine nf_aln (pc := 26) dX6_post_26 rfl ?_
    refine nf_bipush (pc := 27) (v := (-2)) dX6_post_27 (by decide) ?_
    refine nf_cVi1 (pc := 29) (sp_X6_error (x := -2) (i := 0) (by decide) (by decide)) rfl rfl rfl mk_X6_42 im_X6_error se_X6_error nm_X6_error ⟨by decide, by decide⟩ (Nat.le_of_ble_eq_true rfl) dX6_post_29 ?_
    exact nf_to (by simp [mq_post, mq_publish, me, ma, c_4] <;> rfl) (by simp [mq_post, mq_publish, me, ma, c_4] <;> rfl) (nf_iret (pc := 32) dX6_post_32)
  · refine nf_iln (pc := 7) dX6_post_7 rfl ?_
    refine nf_cSi1 (pc := 8) sp_mgroup mk_X6_57 st_X6_isGroup nm_X6_isGroup ⟨by decide, by decide⟩ (Nat.le_of_ble_eq_true rfl) dX6_post_8 ?_
    refine nf_if_eqB (pc := 11) 26 dX6_post_11 (by decide) (fun c_11 => ?_) (fun c_11 => ?_)
    · refine nf_aln (pc := 26) dX6_post_26 rfl ?_
      refine nf_bipush (pc := 27) (v := (-2)) dX6_post_27 (by decide) ?_
      refine nf_cVi1 (pc := 29) (sp_X6_error (x := -2) (i := 0) (by decide) (by decide)) rfl rfl rfl mk_X6_42 im_X6_error se_X6_error nm_X6_error ⟨by decide, by decide⟩ (Nat.le_of_ble_eq_true rfl) dX6_post_29 ?_
      exact nf_to (by simp [mq_post, mq_publish, me, ma, c_4, c_11] <;> rfl) (by simp [mq_post, mq_publish, me, ma, c_4, c_11] <;> rfl) (nf_iret (pc := 32) dX6_post_32)
    · refine nf_iln (pc := 14) dX6_post_14 rfl ?_
      refine nf_i2l (pc := 15) dX6_post_15 ?_
      refine nf_lconst (pc := 16) (v := 0) dX6_post_16 (by decide) ?_
      refine nf_ldc2 (pc := 17) dX6_post_17 kc_X6_80 ?_
      refine nf_cSi3 (pc := 20) sp_in9 mk_X6_28 st_X6_in nm_X6_in ⟨by decide, by decide⟩ (Nat.le_of_ble_eq_true rfl) dX6_post_20 ?_
      refine nf_if_neB (pc := 23) 33 dX6_post_23 (by decide) (fun c_23 => ?_) (fun c_23 => ?_)
      · refine nf_aln (pc := 33) dX6_post_33 rfl ?_
        refine gf_X6_all (pc := 34) lk_X6_7 dX6_post_34 ?_
        refine nf_bipush (pc := 37) (v := 49) dX6_post_37 (by decide) ?_
        refine mo_ld1 (pc := 39) (k := 49) (by decide) dX6_post_39 ?_
        refine nf_topI (y := nI (na)) hk.2.2.2.2.1 ?_
        refine nf_bipush (pc := 40) (v := 30) dX6_post_40 (by decide) ?_
        refine nf_ic_ne (pc := 42) 54 dX6_post_42 (by decide) (fun c_42 => ?_) (fun c_42 => ?_)
        · have hx := cf_below_lt (n := 6) (by omega) c_4
          have hx2 := cf_below_eq (n := 6) (by omega) c_4
          have hna : na < 30 := by
            rcases Nat.lt_or_ge na 30 with h | h
            · exact h
            · exact absurd (show nI na = 30 by rw [show na = 30 by have := hk.2.1; omega]; rfl) c_42
          refine nf_aln (pc := 54) dX6_post_54 rfl ?_
          refine nf_iln (pc := 55) dX6_post_55 rfl ?_
          refine nf_topI (y := nI (cf_num x)) hx2 ?_
          refine nf_iln (pc := 56) dX6_post_56 rfl ?_
          refine nf_iln (pc := 57) dX6_post_57 rfl ?_
          refine nf_iconst (pc := 58) (v := 0) dX6_post_58 (by decide) ?_
          refine nf_iconst (pc := 59) (v := (-1)) dX6_post_59 (by decide) ?_
          refine nf_cVi5 (pc := 60) (sp_X6_posts hk hc hna hx ⟨_, cf_below_lt (n := 4) (by decide) c_11, cf_below_eq (n := 4) (by decide) c_11⟩ (Or.inl rfl)) rfl rfl rfl mk_X6_82 im_X6_posts se_X6_posts nm_X6_posts ⟨by decide, by decide⟩ (Nat.le_of_ble_eq_true rfl) dX6_post_60 ?_
          exact nf_to (by simp [mq_post, mq_publish, me, ma, c_4, c_11, c_23, c_42] <;> rfl) (by simp [mq_post, mq_publish, me, ma, c_4, c_11, c_23, c_42] <;> rfl) (nf_iret (pc := 63) dX6_post_63)
        · refine nf_aln (pc := 45) dX6_post_45 rfl ?_
          refine nf_bipush (pc := 46) (v := (-4)) dX6_post_46 (by decide) ?_
          refine nf_cVi1 (pc := 48) (sp_X6_error (x := -4) (i := 2) (by decide) (by decide)) rfl rfl rfl mk_X6_42 im_X6_error se_X6_error nm_X6_error ⟨by decide, by decide⟩ (Nat.le_of_ble_eq_true rfl) dX6_post_48 ?_
          refine nf_goto (pc := 51) 63 dX6_post_51 (by decide) ?_
          exact nf_to (by simp [mq_post, mq_publish, me, ma, c_4, c_11, c_23, c_42] <;> rfl) (by simp [mq_post, mq_publish, me, ma, c_4, c_11, c_23, c_42] <;> rfl) (nf_iret (pc := 63) dX6_post_63)
      · refine nf_aln (pc := 26) dX6_post_26 rfl ?_
        refine nf_bipush (pc := 27) (v := (-2)) dX6_post_27 (by decide) ?_
        refine nf_cVi1 (pc := 29) (sp_X6_error (x := -2) (i := 0) (by decide) (by decide)) rfl rfl rfl mk_X6_42 im_X6_error se_X6_error nm_X6_error ⟨by decide, by decide⟩ (Nat.le_of_ble_eq_true rfl) dX6_post_29 ?_
        exact nf_to (by simp [mq_post, mq_publish, me, ma, c_4, c_11, c_23] <;> rfl) (by simp [mq_post, mq_publish, me, ma, c_4, c_11, c_23] <;> rfl) (nf_iret (pc := 32) dX6_post_32)
set_option maxRecDepth 100000 in
set_option maxHeartbeats 4000000 in
theorem sp_X6_postAction {L : nf_L} {S : nf_S} {r sv er wk : Nat → Int32} {c : Nat} {nl na q : Nat} {x a e t : Int32} (hc : c ≤ 4) (hk : mr_ok r nl na q) : nf_Sp L 4 yX6_postAction cX6_postAction 5 (some .int) [.ref (L.2.2 (8, 0, 0, 0)), .int x, .int a, .int e, .int t] (mm S r sv er wk (nI c)) (some (.int (mq_postAction na c S r sv er wk x a e t).2)) (mq_postAction na c S r sv er wk x a e t).1 := by
  refine nf_start (own := RX6) (ls0 := [some (.ref (L.2.2 (8, 0, 0, 0))), some (.int x), some (.int a), some (.int e), some (.int t)]) (by decide) (Nat.le_of_ble_eq_true rfl) rfl rfl ?_
  refine nf_iln (pc := 0) dX6_postAction_0 rfl ?_
  refine nf_cSi1 (pc := 1) sp_mhost mk_X6_38 st_X6_isHost nm_X6_isHost ⟨by decide, by decide⟩ (Nat.le_of_ble_eq_true rfl) dX6_postAction_1 ?_
  refine nf_if_eqB (pc := 4) 40 dX6_postAction_4 (by decide) (fun c_4 => ?_) (fun c_4 => ?_)
  · refine nf_aln (pc := 40) dX6_postAction_40 rfl ?_
    refine nf_bipush (pc := 41) (v := (-2)) dX6_postAction_41 (by decide) ?_
    refine nf_cVi1 (pc := 43) (sp_X6_error (x := -2) (i := 0) (by decide) (by decide)) rfl rfl rfl mk_X6_42 im_X6_error se_X6_error nm_X6_error ⟨by decide, by decide⟩ (Nat.le_of_ble_eq_true rfl) dX6_postAction_43 ?_
    exact nf_to (by simp only [mq_postAction, mq_publish, me, ma, c_4, Bool.and_assoc, if_true, if_false, reduceIte, Bool.false_eq_true, Bool.true_and, Bool.false_and, Bool.and_true, Bool.and_false, Bool.and_self] <;> rfl) (by simp only [mq_postAction, mq_publish, me, ma, c_4, Bool.and_assoc, if_true, if_false, reduceIte, Bool.false_eq_true, Bool.true_and, Bool.false_and, Bool.and_true, Bool.and_false, Bool.and_self] <;> rfl) (nf_iret (pc := 46) dX6_postAction_46)
  · refine nf_iln (pc := 7) dX6_postAction_7 rfl ?_
    refine nf_i2l (pc := 8) dX6_postAction_8 ?_
    refine nf_lconst (pc := 9) (v := 0) dX6_postAction_9 (by decide) ?_
    refine nf_ldc2 (pc := 10) dX6_postAction_10 kc_X6_80 ?_
    refine nf_cSi3 (pc := 13) sp_in9 mk_X6_28 st_X6_in nm_X6_in ⟨by decide, by decide⟩ (Nat.le_of_ble_eq_true rfl) dX6_postAction_13 ?_
    refine nf_if_eqB (pc := 16) 40 dX6_postAction_16 (by decide) (fun c_16 => ?_) (fun c_16 => ?_)
    · refine nf_aln (pc := 40) dX6_postAction_40 rfl ?_
      refine nf_bipush (pc := 41) (v := (-2)) dX6_postAction_41 (by decide) ?_
      refine nf_cVi1 (pc := 43) (sp_X6_error (x := -2) (i := 0) (by decide) (by decide)) rfl rfl rfl mk_X6_42 im_X6_error se_X6_error nm_X6_error ⟨by decide, by decide⟩ (Nat.le_of_ble_eq_true rfl) dX6_postAction_43 ?_
      exact nf_to (by simp only [mq_postAction, mq_publish, me, ma, c_4, c_16, Bool.and_assoc, if_true, if_false, reduceIte, Bool.false_eq_true, Bool.true_and, Bool.false_and, Bool.and_true, Bool.and_false, Bool.and_self] <;> rfl) (by simp only [mq_postAction, mq_publish, me, ma, c_4, c_16, Bool.and_assoc, if_true, if_false, reduceIte, Bool.false_eq_true, Bool.true_and, Bool.false_and, Bool.and_true, Bool.and_false, Bool.and_self] <;> rfl) (nf_iret (pc := 46) dX6_postAction_46)
    · refine nf_iln (pc := 19) dX6_postAction_19 rfl ?_
      refine nf_i2l (pc := 20) dX6_postAction_20 ?_
      refine nf_lconst (pc := 21) (v := 1) dX6_postAction_21 (by decide) ?_
      refine nf_ldc2 (pc := 22) dX6_postAction_22 kc_X6_86 ?_
      refine nf_cSi3 (pc := 25) sp_in2 mk_X6_28 st_X6_in nm_X6_in ⟨by decide, by decide⟩ (Nat.le_of_ble_eq_true rfl) dX6_postAction_25 ?_
      refine nf_if_eqB (pc := 28) 40 dX6_postAction_28 (by decide) (fun c_28 => ?_) (fun c_28 => ?_)
      · refine nf_aln (pc := 40) dX6_postAction_40 rfl ?_
        refine nf_bipush (pc := 41) (v := (-2)) dX6_postAction_41 (by decide) ?_
        refine nf_cVi1 (pc := 43) (sp_X6_error (x := -2) (i := 0) (by decide) (by decide)) rfl rfl rfl mk_X6_42 im_X6_error se_X6_error nm_X6_error ⟨by decide, by decide⟩ (Nat.le_of_ble_eq_true rfl) dX6_postAction_43 ?_
        exact nf_to (by simp only [mq_postAction, mq_publish, me, ma, c_4, c_16, c_28, Bool.and_assoc, if_true, if_false, reduceIte, Bool.false_eq_true, Bool.true_and, Bool.false_and, Bool.and_true, Bool.and_false, Bool.and_self] <;> rfl) (by simp only [mq_postAction, mq_publish, me, ma, c_4, c_16, c_28, Bool.and_assoc, if_true, if_false, reduceIte, Bool.false_eq_true, Bool.true_and, Bool.false_and, Bool.and_true, Bool.and_false, Bool.and_self] <;> rfl) (nf_iret (pc := 46) dX6_postAction_46)
      · refine nf_aln (pc := 31) dX6_postAction_31 rfl ?_
        refine nf_il (pc := 32) dX6_postAction_32 rfl ?_
        refine nf_cVi1 (pc := 34) (sp_mart hk.2.2.2.2.1 hk.2.1) rfl rfl rfl mk_X6_88 im_X6_isArticle se_X6_isArticle nm_X6_isArticle ⟨by decide, by decide⟩ (Nat.le_of_ble_eq_true rfl) dX6_postAction_34 ?_
        refine nf_if_neB (pc := 37) 47 dX6_postAction_37 (by decide) (fun c_37 => ?_) (fun c_37 => ?_)
        · refine nf_aln (pc := 47) dX6_postAction_47 rfl ?_
          refine gf_X6_all (pc := 48) lk_X6_7 dX6_postAction_48 ?_
          refine nf_bipush (pc := 51) (v := 49) dX6_postAction_51 (by decide) ?_
          refine mo_ld1 (pc := 53) (k := 49) (by decide) dX6_postAction_53 ?_
          refine nf_topI (y := nI (na)) hk.2.2.2.2.1 ?_
          refine nf_bipush (pc := 54) (v := 30) dX6_postAction_54 (by decide) ?_
          refine nf_ic_ne (pc := 56) 68 dX6_postAction_56 (by decide) (fun c_56 => ?_) (fun c_56 => ?_)
          · have hx := cf_below_lt (n := 6) (by omega) c_4
            have hx2 := cf_below_eq (n := 6) (by omega) c_4
            have hna : na < 30 := by
              rcases Nat.lt_or_ge na 30 with h | h
              · exact h
              · exact absurd (show nI na = 30 by rw [show na = 30 by have := hk.2.1; omega]; rfl) c_56
            have ht := cf_below_lt (by omega) c_37
            have ht2 := cf_below_eq (by omega) c_37
            refine nf_aln (pc := 68) dX6_postAction_68 rfl ?_
            refine nf_iln (pc := 69) dX6_postAction_69 rfl ?_
            refine nf_topI (y := nI (cf_num x)) hx2 ?_
            refine nf_aln (pc := 70) dX6_postAction_70 rfl ?_
            refine nf_il (pc := 71) dX6_postAction_71 rfl ?_
            refine nf_topI (y := nI (cf_num t)) ht2 ?_
            refine nf_iconst (pc := 73) (v := 0) dX6_postAction_73 (by decide) ?_
            refine nf_cVi2 (pc := 74) (sp_X6_of (by omega) (by decide)) rfl rfl rfl mk_X6_62 im_X6_of se_X6_of nm_X6_of ⟨by decide, by decide⟩ (Nat.le_of_ble_eq_true rfl) dX6_postAction_74 ?_
            refine nf_iln (pc := 77) dX6_postAction_77 rfl ?_
            refine nf_iln (pc := 78) dX6_postAction_78 rfl ?_
            refine nf_il (pc := 79) dX6_postAction_79 rfl ?_
            refine nf_cVi5 (pc := 81) (sp_X6_posts hk hc hna hx (hk.2.2.2.2.2.2.2 _ (by omega)) (Or.inr ⟨_, by omega, ht2⟩)) rfl rfl rfl mk_X6_82 im_X6_posts se_X6_posts nm_X6_posts ⟨by decide, by decide⟩ (Nat.le_of_ble_eq_true rfl) dX6_postAction_81 ?_
            exact nf_to (by simp only [mq_postAction, mq_publish, me, ma, c_4, c_16, c_28, c_37, c_56, Bool.and_assoc, if_true, if_false, reduceIte, Bool.false_eq_true, Bool.true_and, Bool.false_and, Bool.and_true, Bool.and_false, Bool.and_self] <;> rfl) (by simp only [mq_postAction, mq_publish, me, ma, c_4, c_16, c_28, c_37, c_56, Bool.and_assoc, if_true, if_false, reduceIte, Bool.false_eq_true, Bool.true_and, Bool.false_and, Bool.and_true, Bool.and_false, Bool.and_self] <;> rfl) (nf_iret (pc := 84) dX6_postAction_84)
          · have c_37b : cf_below t 30 = true := c_56 ▸ c_37
            refine nf_aln (pc := 59) dX6_postAction_59 rfl ?_
            refine nf_bipush (pc := 60) (v := (-4)) dX6_postAction_60 (by decide) ?_
            refine nf_cVi1 (pc := 62) (sp_X6_error (x := -4) (i := 2) (by decide) (by decide)) rfl rfl rfl mk_X6_42 im_X6_error se_X6_error nm_X6_error ⟨by decide, by decide⟩ (Nat.le_of_ble_eq_true rfl) dX6_postAction_62 ?_
            refine nf_goto (pc := 65) 84 dX6_postAction_65 (by decide) ?_
            exact nf_to (by simp only [mq_postAction, mq_publish, me, ma, c_4, c_16, c_28, c_37, c_56, c_37b, Bool.and_assoc, if_true, if_false, reduceIte, Bool.false_eq_true, Bool.true_and, Bool.false_and, Bool.and_true, Bool.and_false, Bool.and_self] <;> rfl) (by simp only [mq_postAction, mq_publish, me, ma, c_4, c_16, c_28, c_37, c_56, c_37b, Bool.and_assoc, if_true, if_false, reduceIte, Bool.false_eq_true, Bool.true_and, Bool.false_and, Bool.and_true, Bool.and_false, Bool.and_self] <;> rfl) (nf_iret (pc := 84) dX6_postAction_84)
        · refine nf_aln (pc := 40) dX6_postAction_40 rfl ?_
          refine nf_bipush (pc := 41) (v := (-2)) dX6_postAction_41 (by decide) ?_
          refine nf_cVi1 (pc := 43) (sp_X6_error (x := -2) (i := 0) (by decide) (by decide)) rfl rfl rfl mk_X6_42 im_X6_error se_X6_error nm_X6_error ⟨by decide, by decide⟩ (Nat.le_of_ble_eq_true rfl) dX6_postAction_43 ?_
          exact nf_to (by simp only [mq_postAction, mq_publish, me, ma, c_4, c_16, c_28, c_37, Bool.and_assoc, if_true, if_false, reduceIte, Bool.false_eq_true, Bool.true_and, Bool.false_and, Bool.and_true, Bool.and_false, Bool.and_self] <;> rfl) (by simp only [mq_postAction, mq_publish, me, ma, c_4, c_16, c_28, c_37, Bool.and_assoc, if_true, if_false, reduceIte, Bool.false_eq_true, Bool.true_and, Bool.false_and, Bool.and_true, Bool.and_false, Bool.and_self] <;> rfl) (nf_iret (pc := 46) dX6_postAction_46)
set_option maxRecDepth 100000 in
set_option maxHeartbeats 4000000 in
theorem sp_X6_isStored {L : nf_L} {S : nf_S} {r sv er wk : Nat → Int32} {c : Nat} {na : Nat} {x a : Int32} (hr : r 49 = nI na) (hna : na ≤ 30) : nf_Sp L 2 yX6_isStored cX6_isStored 3 (some .int) [.ref (L.2.2 (8, 0, 0, 0)), .int x, .int a] (mm S r sv er wk (nI c)) (some (.int (mq_isStored na c S r sv er wk x a).2)) (mq_isStored na c S r sv er wk x a).1 := by
  refine nf_start (own := RX6) (ls0 := [some (.ref (L.2.2 (8, 0, 0, 0))), some (.int x), some (.int a)]) (by decide) (Nat.le_of_ble_eq_true rfl) rfl rfl ?_
  refine nf_iln (pc := 0) dX6_isStored_0 rfl ?_
  refine nf_cSi1 (pc := 1) sp_mhost mk_X6_38 st_X6_isHost nm_X6_isHost ⟨by decide, by decide⟩ (Nat.le_of_ble_eq_true rfl) dX6_isStored_1 ?_
  refine nf_if_eqB (pc := 4) 32 dX6_isStored_4 (by decide) (fun c_4 => ?_) (fun c_4 => ?_)
  · refine nf_aln (pc := 32) dX6_isStored_32 rfl ?_
    refine nf_bipush (pc := 33) (v := (-2)) dX6_isStored_33 (by decide) ?_
    refine nf_cVi1 (pc := 35) (sp_X6_error (x := -2) (i := 0) (by decide) (by decide)) rfl rfl rfl mk_X6_42 im_X6_error se_X6_error nm_X6_error ⟨by decide, by decide⟩ (Nat.le_of_ble_eq_true rfl) dX6_isStored_35 ?_
    exact nf_to (by simp [mq_isStored, me, ma, nf_b, c_4] <;> rfl) (by simp [mq_isStored, me, ma, nf_b, c_4] <;> rfl) (nf_iret (pc := 38) dX6_isStored_38)
  · refine nf_aln (pc := 7) dX6_isStored_7 rfl ?_
    refine nf_iln (pc := 8) dX6_isStored_8 rfl ?_
    refine nf_cVi1 (pc := 9) (sp_mart hr hna) rfl rfl rfl mk_X6_88 im_X6_isArticle se_X6_isArticle nm_X6_isArticle ⟨by decide, by decide⟩ (Nat.le_of_ble_eq_true rfl) dX6_isStored_9 ?_
    refine nf_if_eqB (pc := 12) 32 dX6_isStored_12 (by decide) (fun c_12 => ?_) (fun c_12 => ?_)
    · refine nf_aln (pc := 32) dX6_isStored_32 rfl ?_
      refine nf_bipush (pc := 33) (v := (-2)) dX6_isStored_33 (by decide) ?_
      refine nf_cVi1 (pc := 35) (sp_X6_error (x := -2) (i := 0) (by decide) (by decide)) rfl rfl rfl mk_X6_42 im_X6_error se_X6_error nm_X6_error ⟨by decide, by decide⟩ (Nat.le_of_ble_eq_true rfl) dX6_isStored_35 ?_
      exact nf_to (by simp [mq_isStored, me, ma, nf_b, c_4, c_12] <;> rfl) (by simp [mq_isStored, me, ma, nf_b, c_4, c_12] <;> rfl) (nf_iret (pc := 38) dX6_isStored_38)
    · have hx := cf_below_lt (n := 6) (by omega) c_4
      have hx2 := cf_below_eq (n := 6) (by omega) c_4
      refine nf_aln (pc := 15) dX6_isStored_15 rfl ?_
      refine nf_iln (pc := 16) dX6_isStored_16 rfl ?_
      refine nf_topI (y := nI (cf_num x)) hx2 ?_
      refine nf_iln (pc := 17) dX6_isStored_17 rfl ?_
      refine nf_cVi2 (pc := 18) (sp_X6_isIn hx) rfl rfl rfl mk_X6_65 im_X6_isIn se_X6_isIn nm_X6_isIn ⟨by decide, by decide⟩ (Nat.le_of_ble_eq_true rfl) dX6_isStored_18 ?_
      refine nf_if_eqB (pc := 21) 28 dX6_isStored_21 (by decide) (fun c_21 => ?_) (fun c_21 => ?_)
      · refine nf_iconst (pc := 28) (v := 0) dX6_isStored_28 (by decide) ?_
        refine nf_goto (pc := 29) 38 dX6_isStored_29 (by decide) ?_
        exact nf_to (by simp [mq_isStored, me, ma, nf_b, c_4, c_12, c_21] <;> rfl) (by simp [mq_isStored, me, ma, nf_b, c_4, c_12, c_21] <;> rfl) (nf_iret (pc := 38) dX6_isStored_38)
      · refine nf_iconst (pc := 24) (v := 1) dX6_isStored_24 (by decide) ?_
        refine nf_goto (pc := 25) 38 dX6_isStored_25 (by decide) ?_
        exact nf_to (by simp [mq_isStored, me, ma, nf_b, c_4, c_12, c_21] <;> rfl) (by simp [mq_isStored, me, ma, nf_b, c_4, c_12, c_21] <;> rfl) (nf_iret (pc := 38) dX6_isStored_38)
set_option maxRecDepth 100000 in
set_option maxHeartbeats 4000000 in
theorem sp_X6_knownSince {L : nf_L} {S : nf_S} {r sv er wk : Nat → Int32} {c : Nat} {na : Nat} {x a : Int32} (hr : r 49 = nI na) (hna : na ≤ 30) : nf_Sp L 2 yX6_knownSince cX6_knownSince 3 (some .int) [.ref (L.2.2 (8, 0, 0, 0)), .int x, .int a] (mm S r sv er wk (nI c)) (some (.int (mq_knownSince na c S r sv er wk x a).2)) (mq_knownSince na c S r sv er wk x a).1 := by
  refine nf_start (own := RX6) (ls0 := [some (.ref (L.2.2 (8, 0, 0, 0))), some (.int x), some (.int a)]) (by decide) (Nat.le_of_ble_eq_true rfl) rfl rfl ?_
  refine nf_iln (pc := 0) dX6_knownSince_0 rfl ?_
  refine nf_cSi1 (pc := 1) sp_mhost mk_X6_38 st_X6_isHost nm_X6_isHost ⟨by decide, by decide⟩ (Nat.le_of_ble_eq_true rfl) dX6_knownSince_1 ?_
  refine nf_if_eqB (pc := 4) 24 dX6_knownSince_4 (by decide) (fun c_4 => ?_) (fun c_4 => ?_)
  · refine nf_aln (pc := 24) dX6_knownSince_24 rfl ?_
    refine nf_bipush (pc := 25) (v := (-2)) dX6_knownSince_25 (by decide) ?_
    refine nf_cVi1 (pc := 27) (sp_X6_error (x := -2) (i := 0) (by decide) (by decide)) rfl rfl rfl mk_X6_42 im_X6_error se_X6_error nm_X6_error ⟨by decide, by decide⟩ (Nat.le_of_ble_eq_true rfl) dX6_knownSince_27 ?_
    exact nf_to (by simp [mq_knownSince, me, ma, c_4] <;> rfl) (by simp [mq_knownSince, me, ma, c_4] <;> rfl) (nf_iret (pc := 30) dX6_knownSince_30)
  · refine nf_aln (pc := 7) dX6_knownSince_7 rfl ?_
    refine nf_iln (pc := 8) dX6_knownSince_8 rfl ?_
    refine nf_cVi1 (pc := 9) (sp_mart hr hna) rfl rfl rfl mk_X6_88 im_X6_isArticle se_X6_isArticle nm_X6_isArticle ⟨by decide, by decide⟩ (Nat.le_of_ble_eq_true rfl) dX6_knownSince_9 ?_
    refine nf_if_eqB (pc := 12) 24 dX6_knownSince_12 (by decide) (fun c_12 => ?_) (fun c_12 => ?_)
    · refine nf_aln (pc := 24) dX6_knownSince_24 rfl ?_
      refine nf_bipush (pc := 25) (v := (-2)) dX6_knownSince_25 (by decide) ?_
      refine nf_cVi1 (pc := 27) (sp_X6_error (x := -2) (i := 0) (by decide) (by decide)) rfl rfl rfl mk_X6_42 im_X6_error se_X6_error nm_X6_error ⟨by decide, by decide⟩ (Nat.le_of_ble_eq_true rfl) dX6_knownSince_27 ?_
      exact nf_to (by simp [mq_knownSince, me, ma, c_4, c_12] <;> rfl) (by simp [mq_knownSince, me, ma, c_4, c_12] <;> rfl) (nf_iret (pc := 30) dX6_knownSince_30)
    · have hx := cf_below_lt (n := 6) (by omega) c_4
      have hx2 := cf_below_eq (n := 6) (by omega) c_4
      have ha := cf_below_lt (by omega) c_12
      have ha2 := cf_below_eq (by omega) c_12
      refine nf_aln (pc := 15) dX6_knownSince_15 rfl ?_
      refine nf_iln (pc := 16) dX6_knownSince_16 rfl ?_
      refine nf_topI (y := nI (cf_num x)) hx2 ?_
      refine nf_iln (pc := 17) dX6_knownSince_17 rfl ?_
      refine nf_topI (y := nI (cf_num a)) ha2 ?_
      refine nf_cVi2 (pc := 18) (sp_X6_known hx (by omega)) rfl rfl rfl mk_X6_69 im_X6_known se_X6_known nm_X6_known ⟨by decide, by decide⟩ (Nat.le_of_ble_eq_true rfl) dX6_knownSince_18 ?_
      refine nf_goto (pc := 21) 30 dX6_knownSince_21 (by decide) ?_
      exact nf_to (by simp [mq_knownSince, me, ma, c_4, c_12] <;> rfl) (by simp [mq_knownSince, me, ma, c_4, c_12] <;> rfl) (nf_iret (pc := 30) dX6_knownSince_30)
set_option maxRecDepth 100000 in
set_option maxHeartbeats 4000000 in
theorem lp_pop {L : nf_L} {rr : Option Value} {S2 S : nf_S} {r sv er wk : Nat → Int32} {j y z : Int32}  : ∀ (m : Nat) (x : Nat) (n : Int32), (x < 2 ^ m) → (m ≤ 10) → (∀ o4 : Option Value, nf_V L 0 cX6_pendingOf RX6 5 (some .int) rr S2 48 [some (.ref (L.2.2 (8, 0, 0, 0))), some (.int y), some (.int (mf_pop m (nI x) n)), some (.int z), o4] [] (mm S r sv er wk j)) → nf_V L 0 cX6_pendingOf RX6 5 (some .int) rr S2 27 [some (.ref (L.2.2 (8, 0, 0, 0))), some (.int y), some (.int n), some (.int z), some (.int (nI x))] [] (mm S r sv er wk j) := by
  intro m
  induction m with
  | zero =>
    intro x n hx hm hK
    refine nf_il (pc := 27) dX6_pendingOf_27 rfl ?_
    refine nf_if_le (pc := 29) 48 dX6_pendingOf_29 (by decide) (fun c_29 => ?_) (fun c_29 => ?_)
    · exact hK _
    · exact absurd (by rw [show x = 0 by simpa using hx]; decide) c_29
  | succ m ih =>
    intro x n hx hm hK
    have hx10 : x < 1024 := Nat.lt_of_lt_of_le hx (Nat.pow_le_pow_right (by decide) (show m + 1 ≤ 10 by omega))
    refine nf_il (pc := 27) dX6_pendingOf_27 rfl ?_
    refine nf_if_le (pc := 29) 48 dX6_pendingOf_29 (by decide) (fun c_29 => ?_) (fun c_29 => ?_)
    · have h := hK (some (.int (nI x)))
      simp only [mf_pop, c_29, if_true] at h
      exact h
    · refine nf_iln (pc := 32) dX6_pendingOf_32 rfl ?_
      refine nf_il (pc := 33) dX6_pendingOf_33 rfl ?_
      refine nf_iconst (pc := 35) (v := 1) dX6_pendingOf_35 (by decide) ?_
      refine nf_iand (pc := 36) dX6_pendingOf_36 ?_
      refine nf_iadd (pc := 37) dX6_pendingOf_37 ?_
      refine nf_is2 (pc := 38) dX6_pendingOf_38 rfl (by decide) ?_
      refine nf_il (pc := 39) dX6_pendingOf_39 rfl ?_
      refine nf_iconst (pc := 41) (v := 1) dX6_pendingOf_41 (by decide) ?_
      refine nf_ishr (pc := 42) dX6_pendingOf_42 ?_
      refine nf_topI (y := nI (x / 2)) (nf_shr1 x hx10) ?_
      refine nf_is4 (pc := 43) dX6_pendingOf_43 rfl (by decide) ?_
      refine nf_goto (pc := 45) 27 dX6_pendingOf_45 (by decide) ?_
      exact ih (x / 2) _ (by rw [Nat.pow_succ] at hx; omega) (by omega) (fun o4 => by have h := hK o4; simp only [mf_pop, c_29, if_false] at h; rw [nf_shr1 x hx10] at h; exact h)
set_option maxRecDepth 100000 in
set_option maxHeartbeats 4000000 in
theorem lp_pnd {L : nf_L} {S : nf_S} {r sv er wk : Nat → Int32} {j : Int32} {h : Nat} (hh : h < 6) (hp : ∀ k, k < 30 → ∃ x, x < 1024 ∧ r (386 + 30 * h + k) = nI x) : ∀ (m : Nat) (k : Nat) (acc : Int32) (o4 : Option Value), (k + m = 30) → nf_V L 0 cX6_pendingOf RX6 5 (some .int) (some (.int (mf_pnd r h m k acc))) (mm S r sv er wk j) 4 [some (.ref (L.2.2 (8, 0, 0, 0))), some (.int (nI h)), some (.int acc), some (.int (nI k)), o4] [] (mm S r sv er wk j) := by
  intro m
  induction m with
  | zero =>
    intro k acc o4 hkm
    refine nf_iln (pc := 4) dX6_pendingOf_4 rfl ?_
    refine nf_bipush (pc := 5) (v := 30) dX6_pendingOf_5 (by decide) ?_
    refine nf_ic_ge (pc := 7) 54 dX6_pendingOf_7 (by decide) (fun c_7 => ?_) (fun c_7 => ?_)
    · refine nf_iln (pc := 54) dX6_pendingOf_54 rfl ?_
      exact (nf_iret (pc := 55) dX6_pendingOf_55)
    · exact absurd (nI_le (a := 30) (by omega) (by omega)) c_7
  | succ m ih =>
    intro k acc o4 hkm
    refine nf_iln (pc := 4) dX6_pendingOf_4 rfl ?_
    refine nf_bipush (pc := 5) (v := 30) dX6_pendingOf_5 (by decide) ?_
    refine nf_ic_ge (pc := 7) 54 dX6_pendingOf_7 (by decide) (fun c_7 => ?_) (fun c_7 => ?_)
    · exact absurd c_7 (nI_ge (b := 30) (by omega) (by omega))
    · refine nf_aln (pc := 10) dX6_pendingOf_10 rfl ?_
      refine gf_X6_all (pc := 11) lk_X6_7 dX6_pendingOf_11 ?_
      refine nf_sipush (pc := 14) (v := 386) dX6_pendingOf_14 (by decide) ?_
      refine nf_bipush (pc := 17) (v := 30) dX6_pendingOf_17 (by decide) ?_
      refine nf_iln (pc := 19) dX6_pendingOf_19 rfl ?_
      refine nf_imulI (pc := 20) (a := 30) (b := h) dX6_pendingOf_20 ?_
      refine nf_iaddI (pc := 21) (a := 386) (b := (30 * h)) dX6_pendingOf_21 ?_
      refine nf_iln (pc := 22) dX6_pendingOf_22 rfl ?_
      refine nf_iaddI (pc := 23) (a := (386 + (30 * h))) (b := k) dX6_pendingOf_23 ?_
      refine mo_ld1 (pc := 24) (k := ((386 + (30 * h)) + k)) (by omega) dX6_pendingOf_24 ?_
      refine nf_is4 (pc := 25) dX6_pendingOf_25 rfl (by decide) ?_
      obtain ⟨x, hx, ex⟩ := hp k (by omega)
      rw [ex]
      refine lp_pop 10 x acc (by simpa using hx) (by decide) (fun o4 => ?_)
      rw [← ex]
      refine nf_iinc3 (pc := 48) (v := nI (k + 1)) dX6_pendingOf_48 (nI_succ (k)).symm rfl (by decide) ?_
      refine nf_goto (pc := 51) 4 dX6_pendingOf_51 (by decide) ?_
      exact ih (k + 1) _ _ (by omega)
set_option maxRecDepth 100000 in
set_option maxHeartbeats 4000000 in
theorem sp_X6_pendingOf {L : nf_L} {S : nf_S} {r sv er wk : Nat → Int32} {j : Int32} {h : Nat} (hh : h < 6) (hp : ∀ k, k < 30 → ∃ x, x < 1024 ∧ r (386 + 30 * h + k) = nI x) : nf_Sp L 0 yX6_pendingOf cX6_pendingOf 5 (some .int) [.ref (L.2.2 (8, 0, 0, 0)), .int (nI h)] (mm S r sv er wk j) (some (.int (mf_pnd r h 30 0 0))) (mm S r sv er wk j) := by
  refine nf_start (own := RX6) (ls0 := [some (.ref (L.2.2 (8, 0, 0, 0))), some (.int (nI h)), none, none, none]) (by decide) (Nat.le_of_ble_eq_true rfl) rfl rfl ?_
  refine nf_iconst (pc := 0) (v := 0) dX6_pendingOf_0 (by decide) ?_
  refine nf_is2 (pc := 1) dX6_pendingOf_1 rfl (by decide) ?_
  refine nf_iconst (pc := 2) (v := 0) dX6_pendingOf_2 (by decide) ?_
  refine nf_is3 (pc := 3) dX6_pendingOf_3 rfl (by decide) ?_
  exact lp_pnd hh hp 30 0 0 none (by omega)
set_option maxRecDepth 100000 in
set_option maxHeartbeats 4000000 in
theorem sp_X6_pendingCancels {L : nf_L} {S : nf_S} {r sv er wk : Nat → Int32} {c : Nat} {x : Int32} (hp : ∀ h, h < 6 → ∀ k, k < 30 → ∃ x, x < 1024 ∧ r (386 + 30 * h + k) = nI x) : nf_Sp L 2 yX6_pendingCancels cX6_pendingCancels 2 (some .int) [.ref (L.2.2 (8, 0, 0, 0)), .int x] (mm S r sv er wk (nI c)) (some (.int (mq_pending c S r sv er wk x).2)) (mq_pending c S r sv er wk x).1 := by
  refine nf_start (own := RX6) (ls0 := [some (.ref (L.2.2 (8, 0, 0, 0))), some (.int x)]) (by decide) (Nat.le_of_ble_eq_true rfl) rfl rfl ?_
  refine nf_iln (pc := 0) dX6_pendingCancels_0 rfl ?_
  refine nf_cSi1 (pc := 1) sp_mhost mk_X6_38 st_X6_isHost nm_X6_isHost ⟨by decide, by decide⟩ (Nat.le_of_ble_eq_true rfl) dX6_pendingCancels_1 ?_
  refine nf_if_eqB (pc := 4) 15 dX6_pendingCancels_4 (by decide) (fun c_4 => ?_) (fun c_4 => ?_)
  · refine nf_aln (pc := 15) dX6_pendingCancels_15 rfl ?_
    refine nf_bipush (pc := 16) (v := (-2)) dX6_pendingCancels_16 (by decide) ?_
    refine nf_cVi1 (pc := 18) (sp_X6_error (x := -2) (i := 0) (by decide) (by decide)) rfl rfl rfl mk_X6_42 im_X6_error se_X6_error nm_X6_error ⟨by decide, by decide⟩ (Nat.le_of_ble_eq_true rfl) dX6_pendingCancels_18 ?_
    exact nf_to (by simp [mq_pending, me, ma, c_4] <;> rfl) (by simp [mq_pending, me, ma, c_4] <;> rfl) (nf_iret (pc := 21) dX6_pendingCancels_21)
  · have hx := cf_below_lt (n := 6) (by omega) c_4
    have hx2 := cf_below_eq (n := 6) (by omega) c_4
    refine nf_aln (pc := 7) dX6_pendingCancels_7 rfl ?_
    refine nf_iln (pc := 8) dX6_pendingCancels_8 rfl ?_
    refine nf_topI (y := nI (cf_num x)) hx2 ?_
    refine nf_cVi1 (pc := 9) (sp_X6_pendingOf hx (hp _ hx)) rfl rfl rfl mk_X6_98 im_X6_pendingOf se_X6_pendingOf nm_X6_pendingOf ⟨by decide, by decide⟩ (Nat.le_of_ble_eq_true rfl) dX6_pendingCancels_9 ?_
    refine nf_goto (pc := 12) 21 dX6_pendingCancels_12 (by decide) ?_
    exact nf_to (by simp [mq_pending, me, ma, c_4] <;> rfl) (by simp [mq_pending, me, ma, c_4] <;> rfl) (nf_iret (pc := 21) dX6_pendingCancels_21)
set_option maxRecDepth 100000 in
set_option maxHeartbeats 4000000 in
theorem lp_mhold {L : nf_L} {S : nf_S} {r sv er wk : Nat → Int32} {c : Nat} {a : Int32}  : ∀ (m : Nat) (k : Nat) (acc : Int32), (k + m = 6) → nf_V L 2 cX6_holders RX6 4 (some .int) (some (.int (mf_hold r a m k acc))) (mm S r sv er wk (nI c)) 19 [some (.ref (L.2.2 (8, 0, 0, 0))), some (.int a), some (.int acc), some (.int (nI k))] [] (mm S r sv er wk (nI c)) := by
  intro m
  induction m with
  | zero =>
    intro k acc hkm
    refine nf_iln (pc := 19) dX6_holders_19 rfl ?_
    refine nf_bipush (pc := 20) (v := 6) dX6_holders_20 (by decide) ?_
    refine nf_ic_ge (pc := 22) 50 dX6_holders_22 (by decide) (fun c_22 => ?_) (fun c_22 => ?_)
    · refine nf_iln (pc := 50) dX6_holders_50 rfl ?_
      exact (nf_iret (pc := 51) dX6_holders_51)
    · exact absurd (nI_le (a := 6) (by omega) (by omega)) c_22
  | succ m ih =>
    intro k acc hkm
    refine nf_iln (pc := 19) dX6_holders_19 rfl ?_
    refine nf_bipush (pc := 20) (v := 6) dX6_holders_20 (by decide) ?_
    refine nf_ic_ge (pc := 22) 50 dX6_holders_22 (by decide) (fun c_22 => ?_) (fun c_22 => ?_)
    · exact absurd c_22 (nI_ge (b := 6) (by omega) (by omega))
    · refine nf_iln (pc := 25) dX6_holders_25 rfl ?_
      refine nf_aln (pc := 26) dX6_holders_26 rfl ?_
      refine nf_iln (pc := 27) dX6_holders_27 rfl ?_
      refine nf_iln (pc := 28) dX6_holders_28 rfl ?_
      refine nf_cVi2 (pc := 29) (sp_X6_isIn (show k < 6 by omega)) rfl rfl rfl mk_X6_65 im_X6_isIn se_X6_isIn nm_X6_isIn ⟨by decide, by decide⟩ (Nat.le_of_ble_eq_true rfl) dX6_holders_29 ?_
      refine nf_if_eqB (pc := 32) 41 dX6_holders_32 (by decide) (fun c_32 => ?_) (fun c_32 => ?_)
      · refine nf_iconst (pc := 41) (v := 0) dX6_holders_41 (by decide) ?_
        refine nf_ior (pc := 42) dX6_holders_42 ?_
        refine nf_is2 (pc := 43) dX6_holders_43 rfl (by decide) ?_
        refine nf_iinc3 (pc := 44) (v := nI (k + 1)) dX6_holders_44 (nI_succ (k)).symm rfl (by decide) ?_
        refine nf_goto (pc := 47) 19 dX6_holders_47 (by decide) ?_
        exact nf_to (by simp only [mf_hold, c_32, if_true, if_false, reduceIte, Bool.false_eq_true] <;> rfl) rfl (ih (k + 1) _ (by omega))
      · refine nf_iconst (pc := 35) (v := 1) dX6_holders_35 (by decide) ?_
        refine nf_iln (pc := 36) dX6_holders_36 rfl ?_
        refine nf_ishl (pc := 37) dX6_holders_37 ?_
        refine nf_goto (pc := 38) 42 dX6_holders_38 (by decide) ?_
        refine nf_ior (pc := 42) dX6_holders_42 ?_
        refine nf_is2 (pc := 43) dX6_holders_43 rfl (by decide) ?_
        refine nf_iinc3 (pc := 44) (v := nI (k + 1)) dX6_holders_44 (nI_succ (k)).symm rfl (by decide) ?_
        refine nf_goto (pc := 47) 19 dX6_holders_47 (by decide) ?_
        exact nf_to (by simp only [mf_hold, c_32, if_true, if_false, reduceIte, Bool.false_eq_true] <;> rfl) rfl (ih (k + 1) _ (by omega))
set_option maxRecDepth 100000 in
set_option maxHeartbeats 4000000 in
theorem sp_X6_holders {L : nf_L} {S : nf_S} {r sv er wk : Nat → Int32} {c : Nat} {na : Nat} {a : Int32} (hr : r 49 = nI na) (hna : na ≤ 30) : nf_Sp L 2 yX6_holders cX6_holders 4 (some .int) [.ref (L.2.2 (8, 0, 0, 0)), .int a] (mm S r sv er wk (nI c)) (some (.int (mq_holders na c S r sv er wk a).2)) (mq_holders na c S r sv er wk a).1 := by
  refine nf_start (own := RX6) (ls0 := [some (.ref (L.2.2 (8, 0, 0, 0))), some (.int a), none, none]) (by decide) (Nat.le_of_ble_eq_true rfl) rfl rfl ?_
  refine nf_aln (pc := 0) dX6_holders_0 rfl ?_
  refine nf_iln (pc := 1) dX6_holders_1 rfl ?_
  refine nf_cVi1 (pc := 2) (sp_mart hr hna) rfl rfl rfl mk_X6_88 im_X6_isArticle se_X6_isArticle nm_X6_isArticle ⟨by decide, by decide⟩ (Nat.le_of_ble_eq_true rfl) dX6_holders_2 ?_
  refine nf_if_neB (pc := 5) 15 dX6_holders_5 (by decide) (fun c_5 => ?_) (fun c_5 => ?_)
  · refine nf_iconst (pc := 15) (v := 0) dX6_holders_15 (by decide) ?_
    refine nf_is2 (pc := 16) dX6_holders_16 rfl (by decide) ?_
    refine nf_iconst (pc := 17) (v := 0) dX6_holders_17 (by decide) ?_
    refine nf_is3 (pc := 18) dX6_holders_18 rfl (by decide) ?_
    exact nf_to (by simp [mq_holders, c_5]) (by simp [mq_holders, c_5]) (lp_mhold 6 0 0 (by omega))
  · refine nf_aln (pc := 8) dX6_holders_8 rfl ?_
    refine nf_bipush (pc := 9) (v := (-2)) dX6_holders_9 (by decide) ?_
    refine nf_cVi1 (pc := 11) (sp_X6_error (x := -2) (i := 0) (by decide) (by decide)) rfl rfl rfl mk_X6_42 im_X6_error se_X6_error nm_X6_error ⟨by decide, by decide⟩ (Nat.le_of_ble_eq_true rfl) dX6_holders_11 ?_
    exact nf_to (by simp [mq_holders, me, ma, c_5] <;> rfl) (by simp [mq_holders, me, ma, c_5] <;> rfl) (nf_iret (pc := 14) dX6_holders_14)
set_option maxRecDepth 100000 in
set_option maxHeartbeats 4000000 in
theorem lp_msig {L : nf_L} {S : nf_S} {r sv er wk : Nat → Int32} {c : Nat} {x g : Int32} {na : Nat} (hr : r 49 = nI na) (hna : na ≤ 30) (hx : cf_num x < 6) (hx2 : x = nI (cf_num x)) : ∀ (m : Nat) (k : Nat) (acc : Int32), (k + m = na) → nf_V L 2 cX6_storedInGroup RX6 5 (some .int) (some (.int (mf_sig r (cf_num x) g m k acc))) (mm S r sv er wk (nI c)) 26 [some (.ref (L.2.2 (8, 0, 0, 0))), some (.int x), some (.int g), some (.int acc), some (.int (nI k))] [] (mm S r sv er wk (nI c)) := by
  intro m
  induction m with
  | zero =>
    intro k acc hkm
    refine nf_il (pc := 26) dX6_storedInGroup_26 rfl ?_
    refine nf_aln (pc := 28) dX6_storedInGroup_28 rfl ?_
    refine gf_X6_all (pc := 29) lk_X6_7 dX6_storedInGroup_29 ?_
    refine nf_bipush (pc := 32) (v := 49) dX6_storedInGroup_32 (by decide) ?_
    refine mo_ld1 (pc := 34) (k := 49) (by decide) dX6_storedInGroup_34 ?_
    refine nf_topI (y := nI (na)) hr ?_
    refine nf_ic_ge (pc := 35) 73 dX6_storedInGroup_35 (by decide) (fun c_35 => ?_) (fun c_35 => ?_)
    · refine nf_iln (pc := 73) dX6_storedInGroup_73 rfl ?_
      exact (nf_iret (pc := 74) dX6_storedInGroup_74)
    · exact absurd (nI_le (by omega) (by omega)) c_35
  | succ m ih =>
    intro k acc hkm
    refine nf_il (pc := 26) dX6_storedInGroup_26 rfl ?_
    refine nf_aln (pc := 28) dX6_storedInGroup_28 rfl ?_
    refine gf_X6_all (pc := 29) lk_X6_7 dX6_storedInGroup_29 ?_
    refine nf_bipush (pc := 32) (v := 49) dX6_storedInGroup_32 (by decide) ?_
    refine mo_ld1 (pc := 34) (k := 49) (by decide) dX6_storedInGroup_34 ?_
    refine nf_topI (y := nI (na)) hr ?_
    refine nf_ic_ge (pc := 35) 73 dX6_storedInGroup_35 (by decide) (fun c_35 => ?_) (fun c_35 => ?_)
    · exact absurd c_35 (nI_ge (by omega) (by omega))
    · refine nf_iln (pc := 38) dX6_storedInGroup_38 rfl ?_
      refine nf_aln (pc := 39) dX6_storedInGroup_39 rfl ?_
      refine nf_iln (pc := 40) dX6_storedInGroup_40 rfl ?_
      refine nf_topI (y := nI (cf_num x)) hx2 ?_
      refine nf_il (pc := 41) dX6_storedInGroup_41 rfl ?_
      refine nf_cVi2 (pc := 43) (sp_X6_isIn hx) rfl rfl rfl mk_X6_65 im_X6_isIn se_X6_isIn nm_X6_isIn ⟨by decide, by decide⟩ (Nat.le_of_ble_eq_true rfl) dX6_storedInGroup_43 ?_
      refine nf_if_eqB (pc := 46) 64 dX6_storedInGroup_46 (by decide) (fun c_46 => ?_) (fun c_46 => ?_)
      · refine nf_iconst (pc := 64) (v := 0) dX6_storedInGroup_64 (by decide) ?_
        refine nf_iadd (pc := 65) dX6_storedInGroup_65 ?_
        refine nf_is3 (pc := 66) dX6_storedInGroup_66 rfl (by decide) ?_
        refine nf_iinc4 (pc := 67) (v := nI (k + 1)) dX6_storedInGroup_67 (nI_succ (k)).symm rfl (by decide) ?_
        refine nf_goto (pc := 70) 26 dX6_storedInGroup_70 (by decide) ?_
        exact nf_to (by simp only [mf_sig, c_46, if_true, if_false, reduceIte, Bool.false_eq_true] <;> rfl) rfl (ih (k + 1) _ (by omega))
      · refine nf_aln (pc := 49) dX6_storedInGroup_49 rfl ?_
        refine nf_il (pc := 50) dX6_storedInGroup_50 rfl ?_
        refine nf_iconst (pc := 52) (v := 0) dX6_storedInGroup_52 (by decide) ?_
        refine nf_cVi2 (pc := 53) (sp_X6_of (by omega) (by decide)) rfl rfl rfl mk_X6_62 im_X6_of se_X6_of nm_X6_of ⟨by decide, by decide⟩ (Nat.le_of_ble_eq_true rfl) dX6_storedInGroup_53 ?_
        refine nf_iln (pc := 56) dX6_storedInGroup_56 rfl ?_
        refine nf_ic_ne (pc := 57) 64 dX6_storedInGroup_57 (by decide) (fun c_57 => ?_) (fun c_57 => ?_)
        · refine nf_iconst (pc := 64) (v := 0) dX6_storedInGroup_64 (by decide) ?_
          refine nf_iadd (pc := 65) dX6_storedInGroup_65 ?_
          refine nf_is3 (pc := 66) dX6_storedInGroup_66 rfl (by decide) ?_
          refine nf_iinc4 (pc := 67) (v := nI (k + 1)) dX6_storedInGroup_67 (nI_succ (k)).symm rfl (by decide) ?_
          refine nf_goto (pc := 70) 26 dX6_storedInGroup_70 (by decide) ?_
          exact nf_to (by simp only [mf_sig, c_46, c_57, if_true, if_false, reduceIte, Bool.false_eq_true] <;> rfl) rfl (ih (k + 1) _ (by omega))
        · refine nf_iconst (pc := 60) (v := 1) dX6_storedInGroup_60 (by decide) ?_
          refine nf_goto (pc := 61) 65 dX6_storedInGroup_61 (by decide) ?_
          refine nf_iadd (pc := 65) dX6_storedInGroup_65 ?_
          refine nf_is3 (pc := 66) dX6_storedInGroup_66 rfl (by decide) ?_
          refine nf_iinc4 (pc := 67) (v := nI (k + 1)) dX6_storedInGroup_67 (nI_succ (k)).symm rfl (by decide) ?_
          refine nf_goto (pc := 70) 26 dX6_storedInGroup_70 (by decide) ?_
          exact nf_to (by simp only [mf_sig, c_46, c_57, if_true, if_false, reduceIte, Bool.false_eq_true] <;> rfl) rfl (ih (k + 1) _ (by omega))
set_option maxRecDepth 100000 in
set_option maxHeartbeats 4000000 in
theorem sp_X6_storedInGroup {L : nf_L} {S : nf_S} {r sv er wk : Nat → Int32} {c : Nat} {na : Nat} {x g : Int32} (hr : r 49 = nI na) (hna : na ≤ 30) : nf_Sp L 2 yX6_storedInGroup cX6_storedInGroup 5 (some .int) [.ref (L.2.2 (8, 0, 0, 0)), .int x, .int g] (mm S r sv er wk (nI c)) (some (.int (mq_inGroup na c S r sv er wk x g).2)) (mq_inGroup na c S r sv er wk x g).1 := by
  refine nf_start (own := RX6) (ls0 := [some (.ref (L.2.2 (8, 0, 0, 0))), some (.int x), some (.int g), none, none]) (by decide) (Nat.le_of_ble_eq_true rfl) rfl rfl ?_
  refine nf_iln (pc := 0) dX6_storedInGroup_0 rfl ?_
  refine nf_cSi1 (pc := 1) sp_mhost mk_X6_38 st_X6_isHost nm_X6_isHost ⟨by decide, by decide⟩ (Nat.le_of_ble_eq_true rfl) dX6_storedInGroup_1 ?_
  refine nf_if_eqB (pc := 4) 14 dX6_storedInGroup_4 (by decide) (fun c_4 => ?_) (fun c_4 => ?_)
  · refine nf_aln (pc := 14) dX6_storedInGroup_14 rfl ?_
    refine nf_bipush (pc := 15) (v := (-2)) dX6_storedInGroup_15 (by decide) ?_
    refine nf_cVi1 (pc := 17) (sp_X6_error (x := -2) (i := 0) (by decide) (by decide)) rfl rfl rfl mk_X6_42 im_X6_error se_X6_error nm_X6_error ⟨by decide, by decide⟩ (Nat.le_of_ble_eq_true rfl) dX6_storedInGroup_17 ?_
    exact nf_to (by simp [mq_inGroup, me, ma, c_4] <;> rfl) (by simp [mq_inGroup, me, ma, c_4] <;> rfl) (nf_iret (pc := 20) dX6_storedInGroup_20)
  · refine nf_iln (pc := 7) dX6_storedInGroup_7 rfl ?_
    refine nf_cSi1 (pc := 8) sp_mgroup mk_X6_57 st_X6_isGroup nm_X6_isGroup ⟨by decide, by decide⟩ (Nat.le_of_ble_eq_true rfl) dX6_storedInGroup_8 ?_
    refine nf_if_neB (pc := 11) 21 dX6_storedInGroup_11 (by decide) (fun c_11 => ?_) (fun c_11 => ?_)
    · refine nf_iconst (pc := 21) (v := 0) dX6_storedInGroup_21 (by decide) ?_
      refine nf_is3 (pc := 22) dX6_storedInGroup_22 rfl (by decide) ?_
      refine nf_iconst (pc := 23) (v := 0) dX6_storedInGroup_23 (by decide) ?_
      refine nf_is4 (pc := 24) dX6_storedInGroup_24 rfl (by decide) ?_
      exact nf_to (by simp [mq_inGroup, c_4, c_11]) (by simp [mq_inGroup, c_4, c_11]) (lp_msig hr hna (cf_below_lt (n := 6) (by decide) c_4) (cf_below_eq (n := 6) (by decide) c_4) na 0 0 (by omega))
    · refine nf_aln (pc := 14) dX6_storedInGroup_14 rfl ?_
      refine nf_bipush (pc := 15) (v := (-2)) dX6_storedInGroup_15 (by decide) ?_
      refine nf_cVi1 (pc := 17) (sp_X6_error (x := -2) (i := 0) (by decide) (by decide)) rfl rfl rfl mk_X6_42 im_X6_error se_X6_error nm_X6_error ⟨by decide, by decide⟩ (Nat.le_of_ble_eq_true rfl) dX6_storedInGroup_17 ?_
      exact nf_to (by simp [mq_inGroup, me, ma, c_4, c_11] <;> rfl) (by simp [mq_inGroup, me, ma, c_4, c_11] <;> rfl) (nf_iret (pc := 20) dX6_storedInGroup_20)
set_option maxRecDepth 100000 in
set_option maxHeartbeats 4000000 in
theorem lp_more {L : nf_L} {rr : Option Value} {S2 : nf_S} {S : nf_S} {r sv er wk : Nat → Int32} {c : Nat} {a b s n : Int32} {nl : Nat} (hr : r 6 = nI nl) (hnl : nl ≤ 12) : ∀ (m : Nat) (k : Nat) (acc : Int32) (o7 : Option Value), (k + m = nl) → (∀ o6 o7 : Option Value, nf_V L 2 cX6_distance RX6 8 (some .int) rr S2 110 [some (.ref (L.2.2 (8, 0, 0, 0))), some (.int a), some (.int b), some (.int s), some (.int n), some (.int (mf_more r s m k acc)), o6, o7] [] (mm S r sv er wk (nI c))) → nf_V L 2 cX6_distance RX6 8 (some .int) rr S2 53 [some (.ref (L.2.2 (8, 0, 0, 0))), some (.int a), some (.int b), some (.int s), some (.int n), some (.int acc), some (.int (nI k)), o7] [] (mm S r sv er wk (nI c)) := by
  intro m
  induction m with
  | zero =>
    intro k acc o7 hkm hK
    refine nf_il (pc := 53) dX6_distance_53 rfl ?_
    refine nf_aln (pc := 55) dX6_distance_55 rfl ?_
    refine gf_X6_all (pc := 56) lk_X6_7 dX6_distance_56 ?_
    refine nf_bipush (pc := 59) (v := 6) dX6_distance_59 (by decide) ?_
    refine mo_ld1 (pc := 61) (k := 6) (by decide) dX6_distance_61 ?_
    refine nf_topI (y := nI (nl)) hr ?_
    refine nf_ic_ge (pc := 62) 110 dX6_distance_62 (by decide) (fun c_62 => ?_) (fun c_62 => ?_)
    · exact hK _ _
    · exact absurd (nI_le (by omega) (by omega)) c_62
  | succ m ih =>
    intro k acc o7 hkm hK
    refine nf_il (pc := 53) dX6_distance_53 rfl ?_
    refine nf_aln (pc := 55) dX6_distance_55 rfl ?_
    refine gf_X6_all (pc := 56) lk_X6_7 dX6_distance_56 ?_
    refine nf_bipush (pc := 59) (v := 6) dX6_distance_59 (by decide) ?_
    refine mo_ld1 (pc := 61) (k := 6) (by decide) dX6_distance_61 ?_
    refine nf_topI (y := nI (nl)) hr ?_
    refine nf_ic_ge (pc := 62) 110 dX6_distance_62 (by decide) (fun c_62 => ?_) (fun c_62 => ?_)
    · exact absurd c_62 (nI_ge (by omega) (by omega))
    · refine nf_iconst (pc := 65) (v := 1) dX6_distance_65 (by decide) ?_
      refine nf_aln (pc := 66) dX6_distance_66 rfl ?_
      refine nf_il (pc := 67) dX6_distance_67 rfl ?_
      refine nf_iconst (pc := 69) (v := 0) dX6_distance_69 (by decide) ?_
      refine nf_cVi2 (pc := 70) (sp_X6_link (by omega) (by decide)) rfl rfl rfl mk_X6_34 im_X6_link se_X6_link nm_X6_link ⟨by decide, by decide⟩ (Nat.le_of_ble_eq_true rfl) dX6_distance_70 ?_
      refine nf_ishl (pc := 73) dX6_distance_73 ?_
      refine nf_iconst (pc := 74) (v := 1) dX6_distance_74 (by decide) ?_
      refine nf_aln (pc := 75) dX6_distance_75 rfl ?_
      refine nf_il (pc := 76) dX6_distance_76 rfl ?_
      refine nf_iconst (pc := 78) (v := 1) dX6_distance_78 (by decide) ?_
      refine nf_cVi2 (pc := 79) (sp_X6_link (by omega) (by decide)) rfl rfl rfl mk_X6_34 im_X6_link se_X6_link nm_X6_link ⟨by decide, by decide⟩ (Nat.le_of_ble_eq_true rfl) dX6_distance_79 ?_
      refine nf_ishl (pc := 82) dX6_distance_82 ?_
      refine nf_ior (pc := 83) dX6_distance_83 ?_
      refine nf_topI (y := mf_both r k) rfl ?_
      refine nf_is7 (pc := 84) dX6_distance_84 rfl (by decide) ?_
      refine nf_il (pc := 86) dX6_distance_86 rfl ?_
      refine nf_iln (pc := 88) dX6_distance_88 rfl ?_
      refine nf_il (pc := 89) dX6_distance_89 rfl ?_
      refine nf_iand (pc := 91) dX6_distance_91 ?_
      refine nf_if_eq (pc := 92) 100 dX6_distance_92 (by decide) (fun c_92 => ?_) (fun c_92 => ?_)
      · refine nf_iconst (pc := 100) (v := 0) dX6_distance_100 (by decide) ?_
        refine nf_ior (pc := 101) dX6_distance_101 ?_
        refine nf_is5 (pc := 102) dX6_distance_102 rfl (by decide) ?_
        refine nf_iinc6 (pc := 104) (v := nI (k + 1)) dX6_distance_104 (nI_succ (k)).symm rfl (by decide) ?_
        refine nf_goto (pc := 107) 53 dX6_distance_107 (by decide) ?_
        refine ih (k + 1) _ _ (by omega) (fun o6 o7 => ?_)
        have h := hK o6 o7
        simp only [mf_more, c_92, if_true, if_false, reduceIte, Bool.false_eq_true] at h
        exact h
      · refine nf_il (pc := 95) dX6_distance_95 rfl ?_
        refine nf_goto (pc := 97) 101 dX6_distance_97 (by decide) ?_
        refine nf_ior (pc := 101) dX6_distance_101 ?_
        refine nf_is5 (pc := 102) dX6_distance_102 rfl (by decide) ?_
        refine nf_iinc6 (pc := 104) (v := nI (k + 1)) dX6_distance_104 (nI_succ (k)).symm rfl (by decide) ?_
        refine nf_goto (pc := 107) 53 dX6_distance_107 (by decide) ?_
        refine ih (k + 1) _ _ (by omega) (fun o6 o7 => ?_)
        have h := hK o6 o7
        simp only [mf_more, c_92, if_true, if_false, reduceIte, Bool.false_eq_true] at h
        exact h
set_option maxRecDepth 100000 in
set_option maxHeartbeats 4000000 in
theorem lp_mdst {L : nf_L} {S : nf_S} {r sv er wk : Nat → Int32} {c : Nat} {a b : Int32} {nl : Nat} (hr : r 6 = nI nl) (hnl : nl ≤ 12) : ∀ (m : Nat) (k : Nat) (s : Int32) (o5 o6 o7 : Option Value), (k + m = 6) → nf_V L 2 cX6_distance RX6 8 (some .int) (some (.int (mf_dst r nl b m k s))) (mm S r sv er wk (nI c)) 28 [some (.ref (L.2.2 (8, 0, 0, 0))), some (.int a), some (.int b), some (.int s), some (.int (nI k)), o5, o6, o7] [] (mm S r sv er wk (nI c)) := by
  intro m
  induction m with
  | zero =>
    intro k s o5 o6 o7 hkm
    refine nf_il (pc := 28) dX6_distance_28 rfl ?_
    refine nf_bipush (pc := 30) (v := 6) dX6_distance_30 (by decide) ?_
    refine nf_ic_ge (pc := 32) 119 dX6_distance_32 (by decide) (fun c_32 => ?_) (fun c_32 => ?_)
    · refine nf_iconst (pc := 119) (v := (-1)) dX6_distance_119 (by decide) ?_
      exact (nf_iret (pc := 120) dX6_distance_120)
    · exact absurd (nI_le (a := 6) (by omega) (by omega)) c_32
  | succ m ih =>
    intro k s o5 o6 o7 hkm
    refine nf_il (pc := 28) dX6_distance_28 rfl ?_
    refine nf_bipush (pc := 30) (v := 6) dX6_distance_30 (by decide) ?_
    refine nf_ic_ge (pc := 32) 119 dX6_distance_32 (by decide) (fun c_32 => ?_) (fun c_32 => ?_)
    · exact absurd c_32 (nI_ge (b := 6) (by omega) (by omega))
    · refine nf_iln (pc := 35) dX6_distance_35 rfl ?_
      refine nf_iln (pc := 36) dX6_distance_36 rfl ?_
      refine nf_ishr (pc := 37) dX6_distance_37 ?_
      refine nf_iconst (pc := 38) (v := 1) dX6_distance_38 (by decide) ?_
      refine nf_iand (pc := 39) dX6_distance_39 ?_
      refine nf_iconst (pc := 40) (v := 1) dX6_distance_40 (by decide) ?_
      refine nf_ic_ne (pc := 41) 47 dX6_distance_41 (by decide) (fun c_41 => ?_) (fun c_41 => ?_)
      · refine nf_iln (pc := 47) dX6_distance_47 rfl ?_
        refine nf_is5 (pc := 48) dX6_distance_48 rfl (by decide) ?_
        refine nf_iconst (pc := 50) (v := 0) dX6_distance_50 (by decide) ?_
        refine nf_is6 (pc := 51) dX6_distance_51 rfl (by decide) ?_
        refine lp_more hr hnl nl 0 s _ (by omega) (fun o6 o7 => ?_)
        refine nf_il (pc := 110) dX6_distance_110 rfl ?_
        refine nf_is3 (pc := 112) dX6_distance_112 rfl (by decide) ?_
        refine nf_iinc4 (pc := 113) (v := nI (k + 1)) dX6_distance_113 (nI_succ (k)).symm rfl (by decide) ?_
        refine nf_goto (pc := 116) 28 dX6_distance_116 (by decide) ?_
        exact nf_to (by simp only [mf_dst, c_41, if_false]) rfl (ih (k + 1) _ _ _ _ (by omega))
      · refine nf_il (pc := 44) dX6_distance_44 rfl ?_
        exact nf_to (by simp only [mf_dst, c_41, if_true]) rfl (nf_iret (pc := 46) dX6_distance_46)
set_option maxRecDepth 100000 in
set_option maxHeartbeats 4000000 in
theorem sp_X6_distance {L : nf_L} {S : nf_S} {r sv er wk : Nat → Int32} {c : Nat} {nl : Nat} {a b : Int32} (hr : r 6 = nI nl) (hnl : nl ≤ 12) : nf_Sp L 2 yX6_distance cX6_distance 8 (some .int) [.ref (L.2.2 (8, 0, 0, 0)), .int a, .int b] (mm S r sv er wk (nI c)) (some (.int (mq_distance nl c S r sv er wk a b).2)) (mq_distance nl c S r sv er wk a b).1 := by
  refine nf_start (own := RX6) (ls0 := [some (.ref (L.2.2 (8, 0, 0, 0))), some (.int a), some (.int b), none, none, none, none, none]) (by decide) (Nat.le_of_ble_eq_true rfl) rfl rfl ?_
  refine nf_iln (pc := 0) dX6_distance_0 rfl ?_
  refine nf_cSi1 (pc := 1) sp_mhost mk_X6_38 st_X6_isHost nm_X6_isHost ⟨by decide, by decide⟩ (Nat.le_of_ble_eq_true rfl) dX6_distance_1 ?_
  refine nf_if_eqB (pc := 4) 14 dX6_distance_4 (by decide) (fun c_4 => ?_) (fun c_4 => ?_)
  · refine nf_aln (pc := 14) dX6_distance_14 rfl ?_
    refine nf_bipush (pc := 15) (v := (-2)) dX6_distance_15 (by decide) ?_
    refine nf_cVi1 (pc := 17) (sp_X6_error (x := -2) (i := 0) (by decide) (by decide)) rfl rfl rfl mk_X6_42 im_X6_error se_X6_error nm_X6_error ⟨by decide, by decide⟩ (Nat.le_of_ble_eq_true rfl) dX6_distance_17 ?_
    exact nf_to (by simp [mq_distance, me, ma, c_4] <;> rfl) (by simp [mq_distance, me, ma, c_4] <;> rfl) (nf_iret (pc := 20) dX6_distance_20)
  · refine nf_iln (pc := 7) dX6_distance_7 rfl ?_
    refine nf_cSi1 (pc := 8) sp_mhost mk_X6_38 st_X6_isHost nm_X6_isHost ⟨by decide, by decide⟩ (Nat.le_of_ble_eq_true rfl) dX6_distance_8 ?_
    refine nf_if_neB (pc := 11) 21 dX6_distance_11 (by decide) (fun c_11 => ?_) (fun c_11 => ?_)
    · refine nf_iconst (pc := 21) (v := 1) dX6_distance_21 (by decide) ?_
      refine nf_iln (pc := 22) dX6_distance_22 rfl ?_
      refine nf_ishl (pc := 23) dX6_distance_23 ?_
      refine nf_is3 (pc := 24) dX6_distance_24 rfl (by decide) ?_
      refine nf_iconst (pc := 25) (v := 0) dX6_distance_25 (by decide) ?_
      refine nf_is4 (pc := 26) dX6_distance_26 rfl (by decide) ?_
      exact nf_to (by simp [mq_distance, c_4, c_11] <;> rfl) (by simp [mq_distance, c_4, c_11]) (lp_mdst hr hnl 6 0 _ none none none (by omega))
    · refine nf_aln (pc := 14) dX6_distance_14 rfl ?_
      refine nf_bipush (pc := 15) (v := (-2)) dX6_distance_15 (by decide) ?_
      refine nf_cVi1 (pc := 17) (sp_X6_error (x := -2) (i := 0) (by decide) (by decide)) rfl rfl rfl mk_X6_42 im_X6_error se_X6_error nm_X6_error ⟨by decide, by decide⟩ (Nat.le_of_ble_eq_true rfl) dX6_distance_17 ?_
      exact nf_to (by simp [mq_distance, me, ma, c_4, c_11] <;> rfl) (by simp [mq_distance, me, ma, c_4, c_11] <;> rfl) (nf_iret (pc := 20) dX6_distance_20)
set_option maxRecDepth 100000 in
set_option maxHeartbeats 4000000 in
theorem sp_X6_waiting {L : nf_L} {S : nf_S} {r sv er wk : Nat → Int32} {c : Nat}   : nf_Sp L 2 yX6_waiting cX6_waiting 1 (some .int) [.ref (L.2.2 (8, 0, 0, 0))] (mm S r sv er wk (nI c)) (some (.int (r 572))) (mm S r sv er wk (nI c)) := by
  refine nf_start (own := RX6) (ls0 := [some (.ref (L.2.2 (8, 0, 0, 0)))]) (by decide) (Nat.le_of_ble_eq_true rfl) rfl rfl ?_
  refine nf_aln (pc := 0) dX6_waiting_0 rfl ?_
  refine gf_X6_all (pc := 1) lk_X6_7 dX6_waiting_1 ?_
  refine nf_sipush (pc := 4) (v := 572) dX6_waiting_4 (by decide) ?_
  refine mo_ld1 (pc := 7) (k := 572) (by decide) dX6_waiting_7 ?_
  exact nf_iret (pc := 8) dX6_waiting_8
set_option maxRecDepth 100000 in
set_option maxHeartbeats 4000000 in
theorem sp_X6_total {L : nf_L} {S : nf_S} {r sv er wk : Nat → Int32} {c : Nat} {x : Int32}   : nf_Sp L 2 yX6_total cX6_total 2 (some .int) [.ref (L.2.2 (8, 0, 0, 0)), .int x] (mm S r sv er wk (nI c)) (some (.int (mq_total c S r sv er wk x).2)) (mq_total c S r sv er wk x).1 := by
  refine nf_start (own := RX6) (ls0 := [some (.ref (L.2.2 (8, 0, 0, 0))), some (.int x)]) (by decide) (Nat.le_of_ble_eq_true rfl) rfl rfl ?_
  refine nf_iln (pc := 0) dX6_total_0 rfl ?_
  refine nf_i2l (pc := 1) dX6_total_1 ?_
  refine nf_lconst (pc := 2) (v := 0) dX6_total_2 (by decide) ?_
  refine nf_ldc2 (pc := 3) dX6_total_3 kc_X6_26 ?_
  refine nf_cSi3 (pc := 6) sp_in5 mk_X6_28 st_X6_in nm_X6_in ⟨by decide, by decide⟩ (Nat.le_of_ble_eq_true rfl) dX6_total_6 ?_
  refine nf_if_eqB (pc := 9) 25 dX6_total_9 (by decide) (fun c_9 => ?_) (fun c_9 => ?_)
  · refine nf_aln (pc := 25) dX6_total_25 rfl ?_
    refine nf_bipush (pc := 26) (v := (-2)) dX6_total_26 (by decide) ?_
    refine nf_cVi1 (pc := 28) (sp_X6_error (x := -2) (i := 0) (by decide) (by decide)) rfl rfl rfl mk_X6_42 im_X6_error se_X6_error nm_X6_error ⟨by decide, by decide⟩ (Nat.le_of_ble_eq_true rfl) dX6_total_28 ?_
    exact nf_to (by simp [mq_total, me, ma, c_9] <;> rfl) (by simp [mq_total, me, ma, c_9] <;> rfl) (nf_iret (pc := 31) dX6_total_31)
  · have hx := cf_below_lt (n := 6) (by omega) c_9
    have hx2 := cf_below_eq (n := 6) (by omega) c_9
    refine nf_aln (pc := 12) dX6_total_12 rfl ?_
    refine gf_X6_all (pc := 13) lk_X6_7 dX6_total_13 ?_
    refine nf_sipush (pc := 16) (v := 566) dX6_total_16 (by decide) ?_
    refine nf_iln (pc := 19) dX6_total_19 rfl ?_
    refine nf_topI (y := nI (cf_num x)) hx2 ?_
    refine nf_iaddI (pc := 20) (a := 566) (b := cf_num x) dX6_total_20 ?_
    refine mo_ld1 (pc := 21) (k := (566 + cf_num x)) (by omega) dX6_total_21 ?_
    refine nf_goto (pc := 22) 31 dX6_total_22 (by decide) ?_
    exact nf_to (by simp [mq_total, me, ma, c_9] <;> rfl) (by simp [mq_total, me, ma, c_9] <;> rfl) (nf_iret (pc := 31) dX6_total_31)
set_option maxRecDepth 100000 in
set_option maxHeartbeats 4000000 in
theorem sp_X6_day {L : nf_L} {S : nf_S} {r sv er wk : Nat → Int32} {c : Nat}   : nf_Sp L 2 yX6_day cX6_day 1 (some .int) [.ref (L.2.2 (8, 0, 0, 0))] (mm S r sv er wk (nI c)) (some (.int (r 0))) (mm S r sv er wk (nI c)) := by
  refine nf_start (own := RX6) (ls0 := [some (.ref (L.2.2 (8, 0, 0, 0)))]) (by decide) (Nat.le_of_ble_eq_true rfl) rfl rfl ?_
  refine nf_aln (pc := 0) dX6_day_0 rfl ?_
  refine gf_X6_all (pc := 1) lk_X6_7 dX6_day_1 ?_
  refine nf_iconst (pc := 4) (v := 0) dX6_day_4 (by decide) ?_
  refine mo_ld1 (pc := 5) (k := 0) (by decide) dX6_day_5 ?_
  exact nf_iret (pc := 6) dX6_day_6
set_option maxRecDepth 100000 in
set_option maxHeartbeats 4000000 in
theorem lp_mundo {L : nf_L} {rr : Option Value} {S2 S : nf_S} {r sv er wk : Nat → Int32} {c : Nat} (hc : c < 4) : ∀ (m : Nat) (k : Nat), (k + m = 1597) → (nf_V L 2 cX6_undo RX6 2 (some .int) rr S2 60 [some (.ref (L.2.2 (8, 0, 0, 0))), some (.int (nI 1597))] [] (mm S (ms_undo r sv (1597 * c) 1597) sv er wk (nI c))) → nf_V L 2 cX6_undo RX6 2 (some .int) rr S2 26 [some (.ref (L.2.2 (8, 0, 0, 0))), some (.int (nI k))] [] (mm S (ms_undo r sv (1597 * c) k) sv er wk (nI c)) := by
  intro m
  induction m with
  | zero =>
    intro k hkm hK
    refine nf_iln (pc := 26) dX6_undo_26 rfl ?_
    refine nf_sipush (pc := 27) (v := 1597) dX6_undo_27 (by decide) ?_
    refine nf_ic_ge (pc := 30) 60 dX6_undo_30 (by decide) (fun c_30 => ?_) (fun c_30 => ?_)
    · rw [show k = 1597 by omega]
      exact hK
    · exact absurd (nI_le (a := 1597) (by omega) (by omega)) c_30
  | succ m ih =>
    intro k hkm hK
    refine nf_iln (pc := 26) dX6_undo_26 rfl ?_
    refine nf_sipush (pc := 27) (v := 1597) dX6_undo_27 (by decide) ?_
    refine nf_ic_ge (pc := 30) 60 dX6_undo_30 (by decide) (fun c_30 => ?_) (fun c_30 => ?_)
    · exact absurd c_30 (nI_ge (b := 1597) (by omega) (by omega))
    · refine nf_aln (pc := 33) dX6_undo_33 rfl ?_
      refine gf_X6_all (pc := 34) lk_X6_7 dX6_undo_34 ?_
      refine nf_iln (pc := 37) dX6_undo_37 rfl ?_
      refine nf_aln (pc := 38) dX6_undo_38 rfl ?_
      refine gf_X6_saved (pc := 39) lk_X6_13 dX6_undo_39 ?_
      refine nf_sipush (pc := 42) (v := 1597) dX6_undo_42 (by decide) ?_
      refine nf_aln (pc := 45) dX6_undo_45 rfl ?_
      refine mo_gj (pc := 46) lk_X6_22 dX6_undo_46 ?_
      refine nf_topI (y := nI (c)) rfl ?_
      refine nf_imulI (pc := 49) (a := 1597) (b := c) dX6_undo_49 ?_
      refine nf_iln (pc := 50) dX6_undo_50 rfl ?_
      refine nf_iaddI (pc := 51) (a := (1597 * c)) (b := k) dX6_undo_51 ?_
      refine mo_ld2 (pc := 52) (k := ((1597 * c) + k)) (by omega) dX6_undo_52 ?_
      refine mo_st1 (pc := 53) (k := k) (by omega) dX6_undo_53 ?_
      refine nf_iinc1 (pc := 54) (v := nI (k + 1)) dX6_undo_54 (nI_succ (k)).symm rfl (by decide) ?_
      refine nf_goto (pc := 57) 26 dX6_undo_57 (by decide) ?_
      rw [ms_undo_step]
      exact ih (k + 1) (by omega) hK
set_option maxRecDepth 100000 in
set_option maxHeartbeats 4000000 in
theorem sp_X6_undo {L : nf_L} {S : nf_S} {r sv er wk : Nat → Int32} {c : Nat}  (hc : c ≤ 4) : nf_Sp L 2 yX6_undo cX6_undo 2 (some .int) [.ref (L.2.2 (8, 0, 0, 0))] (mm S r sv er wk (nI c)) (some (.int (mq_undo c S r sv er wk ).2)) (mq_undo c S r sv er wk ).1 := by
  refine nf_start (own := RX6) (ls0 := [some (.ref (L.2.2 (8, 0, 0, 0))), none]) (by decide) (Nat.le_of_ble_eq_true rfl) rfl rfl ?_
  refine nf_aln (pc := 0) dX6_undo_0 rfl ?_
  refine mo_gj (pc := 1) lk_X6_22 dX6_undo_1 ?_
  refine nf_topI (y := nI (c)) rfl ?_
  refine nf_if_ne (pc := 4) 14 dX6_undo_4 (by decide) (fun c_4 => ?_) (fun c_4 => ?_)
  · have hc1 : 1 ≤ c := by
      rcases Nat.lt_or_ge c 1 with h | h
      · exact absurd (show nI c = 0 by rw [show c = 0 by omega]; rfl) c_4
      · exact h
    refine nf_aln (pc := 14) dX6_undo_14 rfl ?_
    refine nf_dup (pc := 15) dX6_undo_15 rfl ?_
    refine mo_gj (pc := 16) lk_X6_22 dX6_undo_16 ?_
    refine nf_topI (y := nI (c - 1 + 1)) (by congr 1; omega) ?_
    refine nf_iconst (pc := 19) (v := 1) dX6_undo_19 (by decide) ?_
    refine nf_isub (pc := 20) dX6_undo_20 ?_
    refine nf_topI (y := nI (c - 1)) (nf_succ_sub _) ?_
    refine mo_pj (pc := 21) lk_X6_22 dX6_undo_21 ?_
    refine nf_iconst (pc := 24) (v := 0) dX6_undo_24 (by decide) ?_
    refine nf_is1 (pc := 25) dX6_undo_25 rfl (by decide) ?_
    refine nf_from (S' := mm S (ms_undo r sv (1597 * (c - 1)) 0) sv er wk (nI (c - 1))) (by rw [ms_undo_0]) ?_
    refine lp_mundo (by omega) 1597 0 (by omega) ?_
    refine nf_aln (pc := 60) dX6_undo_60 rfl ?_
    refine mo_gj (pc := 61) lk_X6_22 dX6_undo_61 ?_
    refine nf_topI (y := nI (c - 1)) rfl ?_
    exact nf_to (by simp [mq_undo, me, ma, c_4] <;> rfl) (by simp [mq_undo, me, ma, c_4] <;> rfl) (nf_iret (pc := 64) dX6_undo_64)
  · refine nf_aln (pc := 7) dX6_undo_7 rfl ?_
    refine nf_bipush (pc := 8) (v := (-5)) dX6_undo_8 (by decide) ?_
    refine nf_cVi1 (pc := 10) (sp_X6_error (x := -5) (i := 3) (by decide) (by decide)) rfl rfl rfl mk_X6_42 im_X6_error se_X6_error nm_X6_error ⟨by decide, by decide⟩ (Nat.le_of_ble_eq_true rfl) dX6_undo_10 ?_
    exact nf_to (by simp [mq_undo, me, ma, c_4] <;> rfl) (by simp [mq_undo, me, ma, c_4] <;> rfl) (nf_iret (pc := 13) dX6_undo_13)
set_option maxRecDepth 100000 in
set_option maxHeartbeats 4000000 in
theorem sp_X6_errorCount {L : nf_L} {S : nf_S} {r sv er wk : Nat → Int32} {c : Nat} {x : Int32}   : nf_Sp L 2 yX6_errorCount cX6_errorCount 2 (some .int) [.ref (L.2.2 (8, 0, 0, 0)), .int x] (mm S r sv er wk (nI c)) (some (.int (mq_errorCount c S r sv er wk x).2)) (mq_errorCount c S r sv er wk x).1 := by
  refine nf_start (own := RX6) (ls0 := [some (.ref (L.2.2 (8, 0, 0, 0))), some (.int x)]) (by decide) (Nat.le_of_ble_eq_true rfl) rfl rfl ?_
  refine nf_iln (pc := 0) dX6_errorCount_0 rfl ?_
  refine nf_i2l (pc := 1) dX6_errorCount_1 ?_
  refine nf_ldc2 (pc := 2) dX6_errorCount_2 kc_X6_101 ?_
  refine nf_ldc2 (pc := 5) dX6_errorCount_5 kc_X6_103 ?_
  refine nf_cSi3 (pc := 8) sp_ine mk_X6_28 st_X6_in nm_X6_in ⟨by decide, by decide⟩ (Nat.le_of_ble_eq_true rfl) dX6_errorCount_8 ?_
  refine nf_if_eqB (pc := 11) 26 dX6_errorCount_11 (by decide) (fun c_11 => ?_) (fun c_11 => ?_)
  · refine nf_aln (pc := 26) dX6_errorCount_26 rfl ?_
    refine nf_bipush (pc := 27) (v := (-2)) dX6_errorCount_27 (by decide) ?_
    refine nf_cVi1 (pc := 29) (sp_X6_error (x := -2) (i := 0) (by decide) (by decide)) rfl rfl rfl mk_X6_42 im_X6_error se_X6_error nm_X6_error ⟨by decide, by decide⟩ (Nat.le_of_ble_eq_true rfl) dX6_errorCount_29 ?_
    exact nf_to (by simp [mq_errorCount, me, ma, c_11] <;> rfl) (by simp [mq_errorCount, me, ma, c_11] <;> rfl) (nf_iret (pc := 32) dX6_errorCount_32)
  · refine nf_aln (pc := 14) dX6_errorCount_14 rfl ?_
    refine gf_X6_errors (pc := 15) lk_X6_16 dX6_errorCount_15 ?_
    refine nf_bipush (pc := 18) (v := (-2)) dX6_errorCount_18 (by decide) ?_
    refine nf_iln (pc := 20) dX6_errorCount_20 rfl ?_
    refine nf_isub (pc := 21) dX6_errorCount_21 ?_
    refine nf_topI (y := cf_slot x) (cf_slot_sub c_11) ?_
    refine mo_ldr3 (pc := 22) (cf_below_in (n := 4) (by decide) c_11) dX6_errorCount_22 ?_
    refine nf_goto (pc := 23) 32 dX6_errorCount_23 (by decide) ?_
    exact nf_to (by simp [mq_errorCount, me, ma, c_11] <;> rfl) (by simp [mq_errorCount, me, ma, c_11] <;> rfl) (nf_iret (pc := 32) dX6_errorCount_32)
def mf_mixh (r : Nat → Int32) (h : Nat) : Nat → Nat → Int64 → Int64
  | 0, _, x => x
  | m + 1, k, x => mf_mixh r h m (k + 1) (cf_mix (cf_mix x (nf_b (mf_tst (r (380 + h)) (nI k)))) (mf_kn r h k))
def mf_mixo (r : Nat → Int32) (na : Nat) : Nat → Nat → Int64 → Int64
  | 0, _, x => x
  | m + 1, k, x => mf_mixo r na m (k + 1) (mf_mixh r k na 0 (cf_mix (cf_mix x (r (43 + k))) (mf_pnd r k 30 0 0)))
def mf_dig (r er : Nat → Int32) (nl na c : Nat) : Int64 :=
  cf_mix (cf_mix (cf_mixr (fun k => r (566 + k)) 0 6 (mf_mixo r na 6 0 (cf_mixr (fun k => r (50 + k)) 0 (5 * na) (cf_mix (cf_mixr (fun k => r (7 + k)) 0 (3 * nl) (cf_mixr r 0 6 (cf_mixr er 0 4 2659))) (r 49))))) (r 572)) (nI c)
set_option maxRecDepth 100000 in
set_option maxHeartbeats 4000000 in
theorem lp_d1 {L : nf_L} {rr : Option Value} {S2 : nf_S} {S : nf_S} {r sv er wk : Nat → Int32} {c : Nat} {o4 : Option Value}   : ∀ (m : Nat) (k : Nat) (h : Int64), (k + m = 4) → (nf_V L 1 cX6_digest RX6 5 (some .long) rr S2 31 [some (.ref (L.2.2 (8, 0, 0, 0))), some (.long (cf_mixr er k m h)), none, some (.int (nI (4))), o4] [] (mm S r sv er wk (nI c))) → nf_V L 1 cX6_digest RX6 5 (some .long) rr S2 6 [some (.ref (L.2.2 (8, 0, 0, 0))), some (.long h), none, some (.int (nI k)), o4] [] (mm S r sv er wk (nI c)) := by
  intro m
  induction m with
  | zero =>
    intro k h hkm hK
    refine nf_iln (pc := 6) dX6_digest_6 rfl ?_
    refine nf_iconst (pc := 7) (v := 4) dX6_digest_7 (by decide) ?_
    refine nf_ic_ge (pc := 8) 31 dX6_digest_8 (by decide) (fun c_8 => ?_) (fun c_8 => ?_)
    · have e : k = 4 := by omega
      rw [e]
      exact hK
    · exact absurd (nI_le (a := 4) (by omega) (by omega)) c_8
  | succ m ih =>
    intro k h hkm hK
    refine nf_iln (pc := 6) dX6_digest_6 rfl ?_
    refine nf_iconst (pc := 7) (v := 4) dX6_digest_7 (by decide) ?_
    refine nf_ic_ge (pc := 8) 31 dX6_digest_8 (by decide) (fun c_8 => ?_) (fun c_8 => ?_)
    · exact absurd c_8 (nI_ge (b := 4) (by omega) (by omega))
    · refine nf_ldc2 (pc := 11) dX6_digest_11 kc_X6_107 ?_
      refine nf_lln (pc := 14) dX6_digest_14 rfl ?_
      refine nf_lmul (pc := 15) dX6_digest_15 ?_
      refine nf_aln (pc := 16) dX6_digest_16 rfl ?_
      refine gf_X6_errors (pc := 17) lk_X6_16 dX6_digest_17 ?_
      refine nf_iln (pc := 20) dX6_digest_20 rfl ?_
      refine mo_ld3 (pc := 21) (k := k) (by omega) dX6_digest_21 ?_
      refine nf_i2l (pc := 22) dX6_digest_22 ?_
      refine nf_ladd (pc := 23) dX6_digest_23 ?_
      refine nf_ls1 (pc := 24) dX6_digest_24 rfl (by decide) ?_
      refine nf_iinc3 (pc := 25) (v := nI (k + 1)) dX6_digest_25 (nI_succ (k)).symm rfl (by decide) ?_
      refine nf_goto (pc := 28) 6 dX6_digest_28 (by decide) ?_
      exact ih (k + 1) _ (by omega) hK
set_option maxRecDepth 100000 in
set_option maxHeartbeats 4000000 in
theorem lp_d2 {L : nf_L} {rr : Option Value} {S2 : nf_S} {S : nf_S} {r sv er wk : Nat → Int32} {c : Nat} {o4 : Option Value}   : ∀ (m : Nat) (k : Nat) (h : Int64), (k + m = 6) → (nf_V L 1 cX6_digest RX6 5 (some .long) rr S2 59 [some (.ref (L.2.2 (8, 0, 0, 0))), some (.long (cf_mixr r k m h)), none, some (.int (nI (6))), o4] [] (mm S r sv er wk (nI c))) → nf_V L 1 cX6_digest RX6 5 (some .long) rr S2 33 [some (.ref (L.2.2 (8, 0, 0, 0))), some (.long h), none, some (.int (nI k)), o4] [] (mm S r sv er wk (nI c)) := by
  intro m
  induction m with
  | zero =>
    intro k h hkm hK
    refine nf_iln (pc := 33) dX6_digest_33 rfl ?_
    refine nf_bipush (pc := 34) (v := 6) dX6_digest_34 (by decide) ?_
    refine nf_ic_ge (pc := 36) 59 dX6_digest_36 (by decide) (fun c_36 => ?_) (fun c_36 => ?_)
    · have e : k = 6 := by omega
      rw [e]
      exact hK
    · exact absurd (nI_le (a := 6) (by omega) (by omega)) c_36
  | succ m ih =>
    intro k h hkm hK
    refine nf_iln (pc := 33) dX6_digest_33 rfl ?_
    refine nf_bipush (pc := 34) (v := 6) dX6_digest_34 (by decide) ?_
    refine nf_ic_ge (pc := 36) 59 dX6_digest_36 (by decide) (fun c_36 => ?_) (fun c_36 => ?_)
    · exact absurd c_36 (nI_ge (b := 6) (by omega) (by omega))
    · refine nf_ldc2 (pc := 39) dX6_digest_39 kc_X6_107 ?_
      refine nf_lln (pc := 42) dX6_digest_42 rfl ?_
      refine nf_lmul (pc := 43) dX6_digest_43 ?_
      refine nf_aln (pc := 44) dX6_digest_44 rfl ?_
      refine gf_X6_all (pc := 45) lk_X6_7 dX6_digest_45 ?_
      refine nf_iln (pc := 48) dX6_digest_48 rfl ?_
      refine mo_ld1 (pc := 49) (k := k) (by omega) dX6_digest_49 ?_
      refine nf_i2l (pc := 50) dX6_digest_50 ?_
      refine nf_ladd (pc := 51) dX6_digest_51 ?_
      refine nf_ls1 (pc := 52) dX6_digest_52 rfl (by decide) ?_
      refine nf_iinc3 (pc := 53) (v := nI (k + 1)) dX6_digest_53 (nI_succ (k)).symm rfl (by decide) ?_
      refine nf_goto (pc := 56) 33 dX6_digest_56 (by decide) ?_
      exact ih (k + 1) _ (by omega) hK
set_option maxRecDepth 100000 in
set_option maxHeartbeats 4000000 in
theorem lp_d3 {L : nf_L} {rr : Option Value} {S2 : nf_S} {S : nf_S} {r sv er wk : Nat → Int32} {c : Nat} {o4 : Option Value} {nl : Nat}  (hr : r 6 = nI nl) (hnl : nl ≤ 12) : ∀ (m : Nat) (k : Nat) (h : Int64), (k + m = 3 * nl) → (nf_V L 1 cX6_digest RX6 5 (some .long) rr S2 97 [some (.ref (L.2.2 (8, 0, 0, 0))), some (.long (cf_mixr (fun k => r (7 + k)) k m h)), none, some (.int (nI (3 * nl))), o4] [] (mm S r sv er wk (nI c))) → nf_V L 1 cX6_digest RX6 5 (some .long) rr S2 61 [some (.ref (L.2.2 (8, 0, 0, 0))), some (.long h), none, some (.int (nI k)), o4] [] (mm S r sv er wk (nI c)) := by
  intro m
  induction m with
  | zero =>
    intro k h hkm hK
    refine nf_iln (pc := 61) dX6_digest_61 rfl ?_
    refine nf_iconst (pc := 62) (v := 3) dX6_digest_62 (by decide) ?_
    refine nf_aln (pc := 63) dX6_digest_63 rfl ?_
    refine gf_X6_all (pc := 64) lk_X6_7 dX6_digest_64 ?_
    refine nf_bipush (pc := 67) (v := 6) dX6_digest_67 (by decide) ?_
    refine mo_ld1 (pc := 69) (k := 6) (by decide) dX6_digest_69 ?_
    refine nf_topI (y := nI (nl)) hr ?_
    refine nf_imulI (pc := 70) (a := 3) (b := nl) dX6_digest_70 ?_
    refine nf_ic_ge (pc := 71) 97 dX6_digest_71 (by decide) (fun c_71 => ?_) (fun c_71 => ?_)
    · have e : k = 3 * nl := by omega
      rw [e]
      exact hK
    · exact absurd (nI_le (a := 3 * nl) (by omega) (by omega)) c_71
  | succ m ih =>
    intro k h hkm hK
    refine nf_iln (pc := 61) dX6_digest_61 rfl ?_
    refine nf_iconst (pc := 62) (v := 3) dX6_digest_62 (by decide) ?_
    refine nf_aln (pc := 63) dX6_digest_63 rfl ?_
    refine gf_X6_all (pc := 64) lk_X6_7 dX6_digest_64 ?_
    refine nf_bipush (pc := 67) (v := 6) dX6_digest_67 (by decide) ?_
    refine mo_ld1 (pc := 69) (k := 6) (by decide) dX6_digest_69 ?_
    refine nf_topI (y := nI (nl)) hr ?_
    refine nf_imulI (pc := 70) (a := 3) (b := nl) dX6_digest_70 ?_
    refine nf_ic_ge (pc := 71) 97 dX6_digest_71 (by decide) (fun c_71 => ?_) (fun c_71 => ?_)
    · exact absurd c_71 (nI_ge (b := 3 * nl) (by omega) (by omega))
    · refine nf_ldc2 (pc := 74) dX6_digest_74 kc_X6_107 ?_
      refine nf_lln (pc := 77) dX6_digest_77 rfl ?_
      refine nf_lmul (pc := 78) dX6_digest_78 ?_
      refine nf_aln (pc := 79) dX6_digest_79 rfl ?_
      refine gf_X6_all (pc := 80) lk_X6_7 dX6_digest_80 ?_
      refine nf_bipush (pc := 83) (v := 7) dX6_digest_83 (by decide) ?_
      refine nf_iln (pc := 85) dX6_digest_85 rfl ?_
      refine nf_iaddI (pc := 86) (a := 7) (b := k) dX6_digest_86 ?_
      refine mo_ld1 (pc := 87) (k := (7 + k)) (by omega) dX6_digest_87 ?_
      refine nf_i2l (pc := 88) dX6_digest_88 ?_
      refine nf_ladd (pc := 89) dX6_digest_89 ?_
      refine nf_ls1 (pc := 90) dX6_digest_90 rfl (by decide) ?_
      refine nf_iinc3 (pc := 91) (v := nI (k + 1)) dX6_digest_91 (nI_succ (k)).symm rfl (by decide) ?_
      refine nf_goto (pc := 94) 61 dX6_digest_94 (by decide) ?_
      exact ih (k + 1) _ (by omega) hK
set_option maxRecDepth 100000 in
set_option maxHeartbeats 4000000 in
theorem lp_d4 {L : nf_L} {rr : Option Value} {S2 : nf_S} {S : nf_S} {r sv er wk : Nat → Int32} {c : Nat} {o4 : Option Value} {na : Nat}  (hr : r 49 = nI na) (hna : na ≤ 30) : ∀ (m : Nat) (k : Nat) (h : Int64), (k + m = 5 * na) → (nf_V L 1 cX6_digest RX6 5 (some .long) rr S2 150 [some (.ref (L.2.2 (8, 0, 0, 0))), some (.long (cf_mixr (fun k => r (50 + k)) k m h)), none, some (.int (nI (5 * na))), o4] [] (mm S r sv er wk (nI c))) → nf_V L 1 cX6_digest RX6 5 (some .long) rr S2 114 [some (.ref (L.2.2 (8, 0, 0, 0))), some (.long h), none, some (.int (nI k)), o4] [] (mm S r sv er wk (nI c)) := by
  intro m
  induction m with
  | zero =>
    intro k h hkm hK
    refine nf_iln (pc := 114) dX6_digest_114 rfl ?_
    refine nf_iconst (pc := 115) (v := 5) dX6_digest_115 (by decide) ?_
    refine nf_aln (pc := 116) dX6_digest_116 rfl ?_
    refine gf_X6_all (pc := 117) lk_X6_7 dX6_digest_117 ?_
    refine nf_bipush (pc := 120) (v := 49) dX6_digest_120 (by decide) ?_
    refine mo_ld1 (pc := 122) (k := 49) (by decide) dX6_digest_122 ?_
    refine nf_topI (y := nI (na)) hr ?_
    refine nf_imulI (pc := 123) (a := 5) (b := na) dX6_digest_123 ?_
    refine nf_ic_ge (pc := 124) 150 dX6_digest_124 (by decide) (fun c_124 => ?_) (fun c_124 => ?_)
    · have e : k = 5 * na := by omega
      rw [e]
      exact hK
    · exact absurd (nI_le (a := 5 * na) (by omega) (by omega)) c_124
  | succ m ih =>
    intro k h hkm hK
    refine nf_iln (pc := 114) dX6_digest_114 rfl ?_
    refine nf_iconst (pc := 115) (v := 5) dX6_digest_115 (by decide) ?_
    refine nf_aln (pc := 116) dX6_digest_116 rfl ?_
    refine gf_X6_all (pc := 117) lk_X6_7 dX6_digest_117 ?_
    refine nf_bipush (pc := 120) (v := 49) dX6_digest_120 (by decide) ?_
    refine mo_ld1 (pc := 122) (k := 49) (by decide) dX6_digest_122 ?_
    refine nf_topI (y := nI (na)) hr ?_
    refine nf_imulI (pc := 123) (a := 5) (b := na) dX6_digest_123 ?_
    refine nf_ic_ge (pc := 124) 150 dX6_digest_124 (by decide) (fun c_124 => ?_) (fun c_124 => ?_)
    · exact absurd c_124 (nI_ge (b := 5 * na) (by omega) (by omega))
    · refine nf_ldc2 (pc := 127) dX6_digest_127 kc_X6_107 ?_
      refine nf_lln (pc := 130) dX6_digest_130 rfl ?_
      refine nf_lmul (pc := 131) dX6_digest_131 ?_
      refine nf_aln (pc := 132) dX6_digest_132 rfl ?_
      refine gf_X6_all (pc := 133) lk_X6_7 dX6_digest_133 ?_
      refine nf_bipush (pc := 136) (v := 50) dX6_digest_136 (by decide) ?_
      refine nf_iln (pc := 138) dX6_digest_138 rfl ?_
      refine nf_iaddI (pc := 139) (a := 50) (b := k) dX6_digest_139 ?_
      refine mo_ld1 (pc := 140) (k := (50 + k)) (by omega) dX6_digest_140 ?_
      refine nf_i2l (pc := 141) dX6_digest_141 ?_
      refine nf_ladd (pc := 142) dX6_digest_142 ?_
      refine nf_ls1 (pc := 143) dX6_digest_143 rfl (by decide) ?_
      refine nf_iinc3 (pc := 144) (v := nI (k + 1)) dX6_digest_144 (nI_succ (k)).symm rfl (by decide) ?_
      refine nf_goto (pc := 147) 114 dX6_digest_147 (by decide) ?_
      exact ih (k + 1) _ (by omega) hK
set_option maxRecDepth 100000 in
set_option maxHeartbeats 4000000 in
theorem lp_d5 {L : nf_L} {rr : Option Value} {S2 : nf_S} {S : nf_S} {r sv er wk : Nat → Int32} {c : Nat} {o4 : Option Value}   : ∀ (m : Nat) (k : Nat) (h : Int64), (k + m = 6) → (nf_V L 1 cX6_digest RX6 5 (some .long) rr S2 281 [some (.ref (L.2.2 (8, 0, 0, 0))), some (.long (cf_mixr (fun k => r (566 + k)) k m h)), none, some (.int (nI (6))), o4] [] (mm S r sv er wk (nI c))) → nf_V L 1 cX6_digest RX6 5 (some .long) rr S2 251 [some (.ref (L.2.2 (8, 0, 0, 0))), some (.long h), none, some (.int (nI k)), o4] [] (mm S r sv er wk (nI c)) := by
  intro m
  induction m with
  | zero =>
    intro k h hkm hK
    refine nf_iln (pc := 251) dX6_digest_251 rfl ?_
    refine nf_bipush (pc := 252) (v := 6) dX6_digest_252 (by decide) ?_
    refine nf_ic_ge (pc := 254) 281 dX6_digest_254 (by decide) (fun c_254 => ?_) (fun c_254 => ?_)
    · have e : k = 6 := by omega
      rw [e]
      exact hK
    · exact absurd (nI_le (a := 6) (by omega) (by omega)) c_254
  | succ m ih =>
    intro k h hkm hK
    refine nf_iln (pc := 251) dX6_digest_251 rfl ?_
    refine nf_bipush (pc := 252) (v := 6) dX6_digest_252 (by decide) ?_
    refine nf_ic_ge (pc := 254) 281 dX6_digest_254 (by decide) (fun c_254 => ?_) (fun c_254 => ?_)
    · exact absurd c_254 (nI_ge (b := 6) (by omega) (by omega))
    · refine nf_ldc2 (pc := 257) dX6_digest_257 kc_X6_107 ?_
      refine nf_lln (pc := 260) dX6_digest_260 rfl ?_
      refine nf_lmul (pc := 261) dX6_digest_261 ?_
      refine nf_aln (pc := 262) dX6_digest_262 rfl ?_
      refine gf_X6_all (pc := 263) lk_X6_7 dX6_digest_263 ?_
      refine nf_sipush (pc := 266) (v := 566) dX6_digest_266 (by decide) ?_
      refine nf_iln (pc := 269) dX6_digest_269 rfl ?_
      refine nf_iaddI (pc := 270) (a := 566) (b := k) dX6_digest_270 ?_
      refine mo_ld1 (pc := 271) (k := (566 + k)) (by omega) dX6_digest_271 ?_
      refine nf_i2l (pc := 272) dX6_digest_272 ?_
      refine nf_ladd (pc := 273) dX6_digest_273 ?_
      refine nf_ls1 (pc := 274) dX6_digest_274 rfl (by decide) ?_
      refine nf_iinc3 (pc := 275) (v := nI (k + 1)) dX6_digest_275 (nI_succ (k)).symm rfl (by decide) ?_
      refine nf_goto (pc := 278) 251 dX6_digest_278 (by decide) ?_
      exact ih (k + 1) _ (by omega) hK
set_option maxRecDepth 100000 in
set_option maxHeartbeats 4000000 in
theorem lp_d7 {L : nf_L} {rr : Option Value} {S2 : nf_S} {S : nf_S} {r sv er wk : Nat → Int32} {c : Nat} {na x : Nat} (hr : r 49 = nI na) (hna : na ≤ 30) (hx : x < 6) : ∀ (m : Nat) (k : Nat) (h : Int64), (k + m = na) → (nf_V L 1 cX6_digest RX6 5 (some .long) rr S2 243 [some (.ref (L.2.2 (8, 0, 0, 0))), some (.long (mf_mixh r x m k h)), none, some (.int (nI x)), some (.int (nI na))] [] (mm S r sv er wk (nI c))) → nf_V L 1 cX6_digest RX6 5 (some .long) rr S2 189 [some (.ref (L.2.2 (8, 0, 0, 0))), some (.long h), none, some (.int (nI x)), some (.int (nI k))] [] (mm S r sv er wk (nI c)) := by
  intro m
  induction m with
  | zero =>
    intro k h hkm hK
    refine nf_il (pc := 189) dX6_digest_189 rfl ?_
    refine nf_aln (pc := 191) dX6_digest_191 rfl ?_
    refine gf_X6_all (pc := 192) lk_X6_7 dX6_digest_192 ?_
    refine nf_bipush (pc := 195) (v := 49) dX6_digest_195 (by decide) ?_
    refine mo_ld1 (pc := 197) (k := 49) (by decide) dX6_digest_197 ?_
    refine nf_topI (y := nI (na)) hr ?_
    refine nf_ic_ge (pc := 198) 243 dX6_digest_198 (by decide) (fun c_198 => ?_) (fun c_198 => ?_)
    · have e : k = na := by omega
      rw [e]
      exact hK
    · exact absurd (nI_le (by omega) (by omega)) c_198
  | succ m ih =>
    intro k h hkm hK
    refine nf_il (pc := 189) dX6_digest_189 rfl ?_
    refine nf_aln (pc := 191) dX6_digest_191 rfl ?_
    refine gf_X6_all (pc := 192) lk_X6_7 dX6_digest_192 ?_
    refine nf_bipush (pc := 195) (v := 49) dX6_digest_195 (by decide) ?_
    refine mo_ld1 (pc := 197) (k := 49) (by decide) dX6_digest_197 ?_
    refine nf_topI (y := nI (na)) hr ?_
    refine nf_ic_ge (pc := 198) 243 dX6_digest_198 (by decide) (fun c_198 => ?_) (fun c_198 => ?_)
    · exact absurd c_198 (nI_ge (by omega) (by omega))
    · refine nf_ldc2 (pc := 201) dX6_digest_201 kc_X6_107 ?_
      refine nf_ldc2 (pc := 204) dX6_digest_204 kc_X6_107 ?_
      refine nf_lln (pc := 207) dX6_digest_207 rfl ?_
      refine nf_lmul (pc := 208) dX6_digest_208 ?_
      refine nf_aln (pc := 209) dX6_digest_209 rfl ?_
      refine nf_iln (pc := 210) dX6_digest_210 rfl ?_
      refine nf_il (pc := 211) dX6_digest_211 rfl ?_
      refine nf_cVi2 (pc := 213) (sp_X6_isIn hx) rfl rfl rfl mk_X6_65 im_X6_isIn se_X6_isIn nm_X6_isIn ⟨by decide, by decide⟩ (Nat.le_of_ble_eq_true rfl) dX6_digest_213 ?_
      refine nf_if_eqB (pc := 216) 223 dX6_digest_216 (by decide) (fun c_216 => ?_) (fun c_216 => ?_)
      · refine nf_iconst (pc := 223) (v := 0) dX6_digest_223 (by decide) ?_
        refine nf_i2l (pc := 224) dX6_digest_224 ?_
        refine nf_ladd (pc := 225) dX6_digest_225 ?_
        refine nf_lmul (pc := 226) dX6_digest_226 ?_
        refine nf_aln (pc := 227) dX6_digest_227 rfl ?_
        refine nf_iln (pc := 228) dX6_digest_228 rfl ?_
        refine nf_il (pc := 229) dX6_digest_229 rfl ?_
        refine nf_cVi2 (pc := 231) (sp_X6_known hx (by omega)) rfl rfl rfl mk_X6_69 im_X6_known se_X6_known nm_X6_known ⟨by decide, by decide⟩ (Nat.le_of_ble_eq_true rfl) dX6_digest_231 ?_
        refine nf_i2l (pc := 234) dX6_digest_234 ?_
        refine nf_ladd (pc := 235) dX6_digest_235 ?_
        refine nf_ls1 (pc := 236) dX6_digest_236 rfl (by decide) ?_
        refine nf_iinc4 (pc := 237) (v := nI (k + 1)) dX6_digest_237 (nI_succ (k)).symm rfl (by decide) ?_
        refine nf_goto (pc := 240) 189 dX6_digest_240 (by decide) ?_
        refine ih (k + 1) _ (by omega) ?_
        have h9 := hK
        simp only [mf_mixh, c_216, nf_b, if_true, if_false, Bool.false_eq_true] at h9
        exact h9
      · refine nf_iconst (pc := 219) (v := 1) dX6_digest_219 (by decide) ?_
        refine nf_goto (pc := 220) 224 dX6_digest_220 (by decide) ?_
        refine nf_i2l (pc := 224) dX6_digest_224 ?_
        refine nf_ladd (pc := 225) dX6_digest_225 ?_
        refine nf_lmul (pc := 226) dX6_digest_226 ?_
        refine nf_aln (pc := 227) dX6_digest_227 rfl ?_
        refine nf_iln (pc := 228) dX6_digest_228 rfl ?_
        refine nf_il (pc := 229) dX6_digest_229 rfl ?_
        refine nf_cVi2 (pc := 231) (sp_X6_known hx (by omega)) rfl rfl rfl mk_X6_69 im_X6_known se_X6_known nm_X6_known ⟨by decide, by decide⟩ (Nat.le_of_ble_eq_true rfl) dX6_digest_231 ?_
        refine nf_i2l (pc := 234) dX6_digest_234 ?_
        refine nf_ladd (pc := 235) dX6_digest_235 ?_
        refine nf_ls1 (pc := 236) dX6_digest_236 rfl (by decide) ?_
        refine nf_iinc4 (pc := 237) (v := nI (k + 1)) dX6_digest_237 (nI_succ (k)).symm rfl (by decide) ?_
        refine nf_goto (pc := 240) 189 dX6_digest_240 (by decide) ?_
        refine ih (k + 1) _ (by omega) ?_
        have h9 := hK
        simp only [mf_mixh, c_216, nf_b, if_true, if_false, Bool.false_eq_true] at h9
        exact h9
set_option maxRecDepth 100000 in
set_option maxHeartbeats 4000000 in
theorem lp_d6 {L : nf_L} {rr : Option Value} {S2 : nf_S} {S : nf_S} {r sv er wk : Nat → Int32} {c : Nat} {na : Nat} (hr : r 49 = nI na) (hna : na ≤ 30) (hp : ∀ h, h < 6 → ∀ k, k < 30 → ∃ x, x < 1024 ∧ r (386 + 30 * h + k) = nI x) : ∀ (m : Nat) (k : Nat) (h : Int64) (o4 : Option Value), (k + m = 6) → (∀ o4 : Option Value, nf_V L 1 cX6_digest RX6 5 (some .long) rr S2 249 [some (.ref (L.2.2 (8, 0, 0, 0))), some (.long (mf_mixo r na m k h)), none, some (.int (nI 6)), o4] [] (mm S r sv er wk (nI c))) → nf_V L 1 cX6_digest RX6 5 (some .long) rr S2 152 [some (.ref (L.2.2 (8, 0, 0, 0))), some (.long h), none, some (.int (nI k)), o4] [] (mm S r sv er wk (nI c)) := by
  intro m
  induction m with
  | zero =>
    intro k h o4 hkm hK
    refine nf_iln (pc := 152) dX6_digest_152 rfl ?_
    refine nf_bipush (pc := 153) (v := 6) dX6_digest_153 (by decide) ?_
    refine nf_ic_ge (pc := 155) 249 dX6_digest_155 (by decide) (fun c_155 => ?_) (fun c_155 => ?_)
    · rw [show k = 6 by omega]
      exact hK _
    · exact absurd (nI_le (a := 6) (by omega) (by omega)) c_155
  | succ m ih =>
    intro k h o4 hkm hK
    refine nf_iln (pc := 152) dX6_digest_152 rfl ?_
    refine nf_bipush (pc := 153) (v := 6) dX6_digest_153 (by decide) ?_
    refine nf_ic_ge (pc := 155) 249 dX6_digest_155 (by decide) (fun c_155 => ?_) (fun c_155 => ?_)
    · exact absurd c_155 (nI_ge (b := 6) (by omega) (by omega))
    · refine nf_ldc2 (pc := 158) dX6_digest_158 kc_X6_107 ?_
      refine nf_ldc2 (pc := 161) dX6_digest_161 kc_X6_107 ?_
      refine nf_lln (pc := 164) dX6_digest_164 rfl ?_
      refine nf_lmul (pc := 165) dX6_digest_165 ?_
      refine nf_aln (pc := 166) dX6_digest_166 rfl ?_
      refine gf_X6_all (pc := 167) lk_X6_7 dX6_digest_167 ?_
      refine nf_bipush (pc := 170) (v := 43) dX6_digest_170 (by decide) ?_
      refine nf_iln (pc := 172) dX6_digest_172 rfl ?_
      refine nf_iaddI (pc := 173) (a := 43) (b := k) dX6_digest_173 ?_
      refine mo_ld1 (pc := 174) (k := (43 + k)) (by omega) dX6_digest_174 ?_
      refine nf_i2l (pc := 175) dX6_digest_175 ?_
      refine nf_ladd (pc := 176) dX6_digest_176 ?_
      refine nf_lmul (pc := 177) dX6_digest_177 ?_
      refine nf_aln (pc := 178) dX6_digest_178 rfl ?_
      refine nf_iln (pc := 179) dX6_digest_179 rfl ?_
      refine nf_cVi1 (pc := 180) (sp_X6_pendingOf (by omega) (hp _ (by omega))) rfl rfl rfl mk_X6_98 im_X6_pendingOf se_X6_pendingOf nm_X6_pendingOf ⟨by decide, by decide⟩ (Nat.le_of_ble_eq_true rfl) dX6_digest_180 ?_
      refine nf_i2l (pc := 183) dX6_digest_183 ?_
      refine nf_ladd (pc := 184) dX6_digest_184 ?_
      refine nf_ls1 (pc := 185) dX6_digest_185 rfl (by decide) ?_
      refine nf_iconst (pc := 186) (v := 0) dX6_digest_186 (by decide) ?_
      refine nf_is4 (pc := 187) dX6_digest_187 rfl (by decide) ?_
      refine lp_d7 hr hna (by omega) na 0 _ (by omega) ?_
      refine nf_iinc3 (pc := 243) (v := nI (k + 1)) dX6_digest_243 (nI_succ (k)).symm rfl (by decide) ?_
      refine nf_goto (pc := 246) 152 dX6_digest_246 (by decide) ?_
      exact ih (k + 1) _ _ (by omega) hK
set_option maxRecDepth 100000 in
set_option maxHeartbeats 4000000 in
theorem sp_X6_digest {L : nf_L} {S : nf_S} {r sv er wk : Nat → Int32} {c : Nat} {nl na : Nat} (hr6 : r 6 = nI nl) (hnl : nl ≤ 12) (hr : r 49 = nI na) (hna : na ≤ 30) (hp : ∀ h, h < 6 → ∀ k, k < 30 → ∃ x, x < 1024 ∧ r (386 + 30 * h + k) = nI x) : nf_Sp L 1 yX6_digest cX6_digest 5 (some .long) [.ref (L.2.2 (8, 0, 0, 0))] (mm S r sv er wk (nI c)) (some (.long (mf_dig r er nl na c))) (mm S r sv er wk (nI c)) := by
  refine nf_start (own := RX6) (ls0 := [some (.ref (L.2.2 (8, 0, 0, 0))), none, none, none, none]) (by decide) (Nat.le_of_ble_eq_true rfl) rfl rfl ?_
  refine nf_ldc2 (pc := 0) dX6_digest_0 kc_X6_105 ?_
  refine nf_ls1 (pc := 3) dX6_digest_3 rfl (by decide) ?_
  refine nf_iconst (pc := 4) (v := 0) dX6_digest_4 (by decide) ?_
  refine nf_is3 (pc := 5) dX6_digest_5 rfl (by decide) ?_
  refine lp_d1 4 0 _ (by omega) ?_
  refine nf_iconst (pc := 31) (v := 0) dX6_digest_31 (by decide) ?_
  refine nf_is3 (pc := 32) dX6_digest_32 rfl (by decide) ?_
  refine lp_d2 6 0 _ (by omega) ?_
  refine nf_iconst (pc := 59) (v := 0) dX6_digest_59 (by decide) ?_
  refine nf_is3 (pc := 60) dX6_digest_60 rfl (by decide) ?_
  refine lp_d3 hr6 hnl (3 * nl) 0 _ (by omega) ?_
  refine nf_ldc2 (pc := 97) dX6_digest_97 kc_X6_107 ?_
  refine nf_lln (pc := 100) dX6_digest_100 rfl ?_
  refine nf_lmul (pc := 101) dX6_digest_101 ?_
  refine nf_aln (pc := 102) dX6_digest_102 rfl ?_
  refine gf_X6_all (pc := 103) lk_X6_7 dX6_digest_103 ?_
  refine nf_bipush (pc := 106) (v := 49) dX6_digest_106 (by decide) ?_
  refine mo_ld1 (pc := 108) (k := 49) (by decide) dX6_digest_108 ?_
  refine nf_i2l (pc := 109) dX6_digest_109 ?_
  refine nf_ladd (pc := 110) dX6_digest_110 ?_
  refine nf_ls1 (pc := 111) dX6_digest_111 rfl (by decide) ?_
  refine nf_iconst (pc := 112) (v := 0) dX6_digest_112 (by decide) ?_
  refine nf_is3 (pc := 113) dX6_digest_113 rfl (by decide) ?_
  refine lp_d4 hr hna (5 * na) 0 _ (by omega) ?_
  refine nf_iconst (pc := 150) (v := 0) dX6_digest_150 (by decide) ?_
  refine nf_is3 (pc := 151) dX6_digest_151 rfl (by decide) ?_
  refine lp_d6 hr hna hp 6 0 _ none (by omega) (fun o4 => ?_)
  refine nf_iconst (pc := 249) (v := 0) dX6_digest_249 (by decide) ?_
  refine nf_is3 (pc := 250) dX6_digest_250 rfl (by decide) ?_
  refine lp_d5 6 0 _ (by omega) ?_
  refine nf_ldc2 (pc := 281) dX6_digest_281 kc_X6_107 ?_
  refine nf_ldc2 (pc := 284) dX6_digest_284 kc_X6_107 ?_
  refine nf_lln (pc := 287) dX6_digest_287 rfl ?_
  refine nf_lmul (pc := 288) dX6_digest_288 ?_
  refine nf_aln (pc := 289) dX6_digest_289 rfl ?_
  refine gf_X6_all (pc := 290) lk_X6_7 dX6_digest_290 ?_
  refine nf_sipush (pc := 293) (v := 572) dX6_digest_293 (by decide) ?_
  refine mo_ld1 (pc := 296) (k := 572) (by decide) dX6_digest_296 ?_
  refine nf_i2l (pc := 297) dX6_digest_297 ?_
  refine nf_ladd (pc := 298) dX6_digest_298 ?_
  refine nf_lmul (pc := 299) dX6_digest_299 ?_
  refine nf_aln (pc := 300) dX6_digest_300 rfl ?_
  refine mo_gj (pc := 301) lk_X6_22 dX6_digest_301 ?_
  refine nf_i2l (pc := 304) dX6_digest_304 ?_
  refine nf_ladd (pc := 305) dX6_digest_305 ?_
  exact nf_lret (pc := 306) dX6_digest_306
