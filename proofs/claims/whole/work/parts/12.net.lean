/-! Network, over the live net 0 -/
def cs_inc (S : nf_S) (j : Nat) : nf_S := nf_sA S 0 1 0 (upd (nf_A S 0 1 0) j (nf_A S 0 1 0 j + 1))
def cf_bit (x : Int32) : Int32 := (1 : Int32) <<< (x &&& 31)
def cs_keep (S : nf_S) (h a : Nat) : nf_S := nf_sI S 0 5 h (nf_I S 0 5 h ||| cf_bit (nI a))
def cs_drop (S : nf_S) (h a : Nat) : nf_S := nf_sI S 0 5 h (nf_I S 0 5 h &&& (cf_bit (nI a) ^^^ -1))
def cs_addc (S : nf_S) (h t : Nat) (x : Int32) : nf_S := nf_sA S 0 13 h (upd (nf_A S 0 13 h) t (nf_A S 0 13 h t ||| cf_bit x))
def cs_take (S : nf_S) (h a : Nat) (x : Int32) : nf_S := nf_sA S 0 13 h (upd (nf_A S 0 13 h) a (nf_A S 0 13 h a &&& (cf_bit x ^^^ -1)))
def cs_known (S : nf_S) (h a : Nat) (x : Int32) : nf_S := nf_sA S 0 12 h (upd (nf_A S 0 12 h) a x)
def cs_put (S : nf_S) (a h : Nat) (x y : Int32) : nf_S := nf_sA (nf_sA S 0 10 0 (upd (nf_A S 0 10 0) (a * 6 + h) x)) 0 11 0 (upd (nf_A S 0 11 0) (a * 6 + h) y)
def cf_num (x : Int32) : Nat := x.toNatClampNeg
theorem cf_num_I {k : Nat} (h : k < 2 ^ 31) : cf_num (nI k) = k := nI_clamp h
def cf_nbr (S : nf_S) (x : Int32) : Int32 := cf_nb (nf_A S 0 2 0) (nf_A S 0 3 0) x 0 (cf_num (nf_I S 0 2 0)) 0
def cf_lnk (S : nf_S) (x y : Int32) : Int32 := cf_btw (nf_A S 0 2 0) (nf_A S 0 3 0) x y 0 (cf_num (nf_I S 0 2 0))
def cf_kn (S : nf_S) (h a : Nat) : Bool := !(nf_A S 0 12 h a == -1)
def cs_act1 (S : nf_S) (a h t : Nat) : nf_S :=
  if cf_has (nf_I S 0 5 h) (nI t) = true then (if nf_A S 0 6 0 t = nf_A S 0 6 0 a then cs_inc (cs_drop S h t) 4 else cs_inc S 5)
  else if cf_kn S h t = true then S else cs_addc S h t (nf_A S 0 6 0 a)
def cs_act (S : nf_S) (a h : Nat) : nf_S := cs_act1 S a h (cf_num (nf_A S 0 9 0 a))
def cs_arr4 (S : nf_S) (a h : Nat) (path : Int32) : nf_S × Bool := (cs_put S a h (cf_nbr S (cf_bit (nI h)) &&& ((path ||| cf_bit (nI h)) ^^^ -1)) (path ||| cf_bit (nI h)), true)
def cs_arr3 (S : nf_S) (a h : Nat) (path : Int32) : nf_S × Bool := if nf_A S 0 8 0 a = 0 then cs_arr4 S a h path else cs_arr4 (cs_act S a h) a h path
def cs_arr2 (S : nf_S) (a h : Nat) (path : Int32) : nf_S × Bool :=
  if cf_has (nf_A S 0 13 h a) (nf_A S 0 6 0 a) = true then (cs_inc (cs_take S h a (nf_A S 0 6 0 a)) 4, false)
  else if cf_has (nf_I (cs_take S h a (nf_A S 0 6 0 a)) 0 4 h) (nf_A (cs_take S h a (nf_A S 0 6 0 a)) 0 5 0 a) = true then cs_arr3 (cs_keep (cs_take S h a (nf_A S 0 6 0 a)) h a) a h path
  else (cs_take S h a (nf_A S 0 6 0 a), false)
def cs_arr (S : nf_S) (a h : Nat) (path : Int32) : nf_S × Bool :=
  if cf_kn S h a = true then (cs_inc S 2, false)
  else if nf_I S 0 0 0 - nf_A S 0 7 0 a < nf_I S 0 1 0 then cs_arr2 (cs_known S h a (nf_I S 0 0 0)) a h path
  else (cs_inc S 3, false)
def cs_send2 (S : nf_S) (a t : Nat) (path : Int32) : nf_S × Bool := cs_arr (cs_inc S 0) a t path
def cs_send (S : nf_S) (a s t : Nat) (path : Int32) : nf_S × Bool :=
  if cf_lnk S (nI s) (nI t) = -1 then (S, false)
  else if nf_A S 0 4 0 (cf_num (cf_lnk S (nI s) (nI t))) = 1 then (if cf_kn (cs_inc S 1) t a = true then (cs_inc S 1, false) else cs_send2 (cs_inc S 1) a t path)
  else cs_send2 S a t path
/-- all but stores, counts, histories, pending cancels and the queue of net 0 is the same -/
def cs_same (S T : nf_S) : Prop := (∀ c h, c ≠ 5 → nf_I S 0 c h = nf_I T 0 c h) ∧ (∀ c h, c < 10 → c ≠ 1 → nf_A S 0 c h = nf_A T 0 c h) ∧ (∀ n c h, n ≠ 0 → nf_I S n c h = nf_I T n c h ∧ nf_A S n c h = nf_A T n c h) ∧ (∀ x, nf_O S x = nf_O T x) ∧ (∀ j, nf_J S j = nf_J T j) ∧ nf_v S = nf_v T
theorem cs_same.rf (S : nf_S) : cs_same S S := ⟨fun _ _ _ => rfl, fun _ _ _ _ => rfl, fun _ _ _ _ => ⟨rfl, rfl⟩, fun _ => rfl, fun _ => rfl, rfl⟩
theorem cs_same.trans {S T U : nf_S} (h : cs_same S T) (g : cs_same T U) : cs_same S U := ⟨fun c x hc => (h.1 c x hc).trans (g.1 c x hc), fun c x hc h1 => (h.2.1 c x hc h1).trans (g.2.1 c x hc h1), fun n c x hn => ⟨(h.2.2.1 n c x hn).1.trans (g.2.2.1 n c x hn).1, (h.2.2.1 n c x hn).2.trans (g.2.2.1 n c x hn).2⟩, fun x => (h.2.2.2.1 x).trans (g.2.2.2.1 x), fun j => (h.2.2.2.2.1 j).trans (g.2.2.2.2.1 j), h.2.2.2.2.2.trans g.2.2.2.2.2⟩
theorem cs_same_sA (S : nf_S) (c h : Nat) (f : Nat → Int32) (hc : c = 1 ∨ 10 ≤ c) : cs_same S (nf_sA S 0 c h f) := by
  refine ⟨fun _ _ _ => rfl, fun c' h' hc' h1 => ?_, fun n c' h' hn => ⟨rfl, ?_⟩, fun _ => rfl, fun _ => rfl, rfl⟩
  · rw [nf_A_sA, if_neg (by omega)]
  · rw [nf_A_sA, if_neg (by omega)]
theorem cs_same_sI (S : nf_S) (h : Nat) (x : Int32) : cs_same S (nf_sI S 0 5 h x) := by
  refine ⟨fun c' h' hc' => ?_, fun c' h' hc' h1 => rfl, fun n c' h' hn => ⟨?_, rfl⟩, fun _ => rfl, fun _ => rfl, rfl⟩
  · rw [nf_I_sI, if_neg (by omega)]
  · rw [nf_I_sI, if_neg (by omega)]
theorem cs_same_inc (S : nf_S) (j : Nat) : cs_same S (cs_inc S j) := cs_same_sA S 1 0 _ (Or.inl rfl)
theorem cs_same_keep (S : nf_S) (h a : Nat) : cs_same S (cs_keep S h a) := cs_same_sI S h _
theorem cs_same_drop (S : nf_S) (h a : Nat) : cs_same S (cs_drop S h a) := cs_same_sI S h _
theorem cs_same_addc (S : nf_S) (h t : Nat) (x : Int32) : cs_same S (cs_addc S h t x) := cs_same_sA S 13 h _ (Or.inr (by decide))
theorem cs_same_take (S : nf_S) (h t : Nat) (x : Int32) : cs_same S (cs_take S h t x) := cs_same_sA S 13 h _ (Or.inr (by decide))
theorem cs_same_known (S : nf_S) (h t : Nat) (x : Int32) : cs_same S (cs_known S h t x) := cs_same_sA S 12 h _ (Or.inr (by decide))
theorem cs_same_put (S : nf_S) (a h : Nat) (x y : Int32) : cs_same S (cs_put S a h x y) := (cs_same_sA S 10 0 _ (Or.inr (by decide))).trans (cs_same_sA _ 11 0 _ (Or.inr (by decide)))
theorem cs_same_act (S : nf_S) (a h : Nat) : cs_same S (cs_act S a h) := by
  unfold cs_act cs_act1
  split
  · split
    · exact (cs_same_drop S h _).trans (cs_same_inc _ _)
    · exact cs_same_inc S _
  · split
    · exact cs_same.rf S
    · exact cs_same_addc S h _ _
theorem cs_same_arr4 (S : nf_S) (a h : Nat) (path : Int32) : cs_same S (cs_arr4 S a h path).1 := cs_same_put S a h _ _
theorem cs_same_arr3 (S : nf_S) (a h : Nat) (path : Int32) : cs_same S (cs_arr3 S a h path).1 := by
  unfold cs_arr3
  split
  · exact cs_same_arr4 S a h path
  · exact (cs_same_act S a h).trans (cs_same_arr4 _ a h path)
theorem cs_same_arr2 (S : nf_S) (a h : Nat) (path : Int32) : cs_same S (cs_arr2 S a h path).1 := by
  unfold cs_arr2
  split
  · exact (cs_same_take S h a _).trans (cs_same_inc _ _)
  · split
    · exact (cs_same_take S h a _).trans ((cs_same_keep _ h a).trans (cs_same_arr3 _ a h path))
    · exact cs_same_take S h a _
theorem cs_same_arr (S : nf_S) (a h : Nat) (path : Int32) : cs_same S (cs_arr S a h path).1 := by
  unfold cs_arr
  split
  · exact cs_same_inc S _
  · split
    · exact (cs_same_known S h a _).trans (cs_same_arr2 _ a h path)
    · exact cs_same_inc S _
theorem cs_same_send (S : nf_S) (a s t : Nat) (path : Int32) : cs_same S (cs_send S a s t path).1 := by
  unfold cs_send cs_send2
  split
  · exact cs_same.rf S
  · split
    · split
      · exact cs_same_inc S _
      · exact (cs_same_inc S _).trans ((cs_same_inc _ _).trans (cs_same_arr _ a t path))
    · exact (cs_same_inc S _).trans (cs_same_arr _ a t path)
theorem cf_btw_some {F G : Nat → Int32} {a b : Int32} : ∀ (m k : Nat), ¬ cf_btw F G a b k m = -1 → ∃ j, k ≤ j ∧ j < k + m ∧ cf_btw F G a b k m = nI j
  | 0, k, h => absurd rfl h
  | m + 1, k, h => by
    unfold cf_btw at h ⊢
    split at h
    · rename_i hc
      rw [if_pos hc]
      exact ⟨k, by omega, by omega, rfl⟩
    · rename_i hc
      rw [if_neg hc]
      obtain ⟨j, h1, h2, h3⟩ := cf_btw_some m (k + 1) h
      exact ⟨j, by omega, by omega, h3⟩
/-- what the live net must keep for its methods to go through: the counts, the targets, the groups -/
def cs_ok (S : nf_S) (nl na : Nat) : Prop := nl ≤ 12 ∧ na ≤ 30 ∧ nf_I S 0 2 0 = nI nl ∧ nf_I S 0 3 0 = nI na ∧ ∀ a, a < na → (nf_A S 0 8 0 a = 0 ∨ ∃ t, t < 30 ∧ nf_A S 0 9 0 a = nI t) ∧ ∃ g, g < 4 ∧ nf_A S 0 5 0 a = nI g
theorem cs_ok.same {S T : nf_S} {nl na : Nat} (h : cs_ok S nl na) (e : cs_same S T) : cs_ok T nl na := by
  obtain ⟨h1, h2, h3, h4, h5⟩ := h
  refine ⟨h1, h2, by rw [← e.1 2 0 (by decide)]; exact h3, by rw [← e.1 3 0 (by decide)]; exact h4, fun a ha => ?_⟩
  rw [← e.2.1 8 0 (by decide) (by decide), ← e.2.1 9 0 (by decide) (by decide), ← e.2.1 5 0 (by decide) (by decide)]
  exact h5 a ha
set_option maxRecDepth 100000 in
set_option maxHeartbeats 4000000 in
theorem sp_X1_takeCancel {L : nf_L} {S : nf_S} {n h a : Nat} {x : Int32} (hn : n < 5) (hh : h < 6) (ha : a < 30) : nf_Sp L 1 yX1_takeCancel cX1_takeCancel 4 (some .boolean) [.ref (L.2.2 (4, n, 0, h)), .int (nI a), .int x] S (some (.int (nf_b (cf_has (nf_A S n 13 h a) x)))) (nf_sA S n 13 h (upd (nf_A S n 13 h) a (nf_A S n 13 h a &&& (cf_bit x ^^^ -1)))) := by
  refine nf_start (own := RX1) (ls0 := [some (.ref (L.2.2 (4, n, 0, h))), some (.int (nI a)), some (.int x), none]) (by decide) (Nat.le_of_ble_eq_true rfl) rfl rfl ?_
  refine nf_aln (pc := 0) dX1_takeCancel_0 rfl ?_
  refine gf_X1_cancelAuthors hn hh (pc := 1) lk_X1_22 dX1_takeCancel_1 ?_
  refine nf_iln (pc := 4) dX1_takeCancel_4 rfl ?_
  refine nf_ialdI (pc := 5) (k := a) (nf_ok13 hn hh) ha dX1_takeCancel_5 ?_
  refine nf_iln (pc := 6) dX1_takeCancel_6 rfl ?_
  refine nf_cNi2 (pc := 7) sp_X5_has mn_X1_31 st_X5_has nm_X5_has ⟨by decide, by decide⟩ (Nat.le_of_ble_eq_true rfl) dX1_takeCancel_7 ?_
  refine nf_is3 (pc := 10) dX1_takeCancel_10 rfl (by decide) ?_
  refine nf_aln (pc := 11) dX1_takeCancel_11 rfl ?_
  refine gf_X1_cancelAuthors hn hh (pc := 12) lk_X1_22 dX1_takeCancel_12 ?_
  refine nf_iln (pc := 15) dX1_takeCancel_15 rfl ?_
  refine nf_dup2 (pc := 16) dX1_takeCancel_16 rfl rfl ?_
  refine nf_ialdI (pc := 17) (k := a) (nf_ok13 hn hh) ha dX1_takeCancel_17 ?_
  refine nf_iconst (pc := 18) (v := 1) dX1_takeCancel_18 (by decide) ?_
  refine nf_iln (pc := 19) dX1_takeCancel_19 rfl ?_
  refine nf_ishl (pc := 20) dX1_takeCancel_20 ?_
  refine nf_iconst (pc := 21) (v := (-1)) dX1_takeCancel_21 (by decide) ?_
  refine nf_ixor (pc := 22) dX1_takeCancel_22 ?_
  refine nf_iand (pc := 23) dX1_takeCancel_23 ?_
  refine nf_iastI (pc := 24) (k := a) (nf_ok13 hn hh) ha dX1_takeCancel_24 ?_
  refine nf_iln (pc := 25) dX1_takeCancel_25 rfl ?_
  exact nf_zretb (pc := 26) dX1_takeCancel_26
set_option maxRecDepth 100000 in
set_option maxHeartbeats 4000000 in
theorem sp_X0_append {L : nf_L} {S : nf_S} {n cnt : Nat} {a b c e f : Int32} (hn : n < 5) (hc : nf_I S n 3 0 = nI cnt) (hcnt : cnt < 30) : nf_Sp L 0 yX0_append cX0_append 6 (some .int) [.ref (L.2.2 (3, n, 0, 0)), .int a, .int b, .int c, .int e, .int f] S (some (.int (nI cnt))) (nf_sI (nf_sA (nf_sA (nf_sA (nf_sA (nf_sA S n 5 0 (upd (nf_A S n 5 0) cnt a)) n 6 0 (upd (nf_A S n 6 0) cnt b)) n 7 0 (upd (nf_A S n 7 0) cnt c)) n 8 0 (upd (nf_A S n 8 0) cnt e)) n 9 0 (upd (nf_A S n 9 0) cnt f)) n 3 0 (nI (cnt + 1))) := by
  refine nf_start (own := RX0) (ls0 := [some (.ref (L.2.2 (3, n, 0, 0))), some (.int a), some (.int b), some (.int c), some (.int e), some (.int f)]) (by decide) (Nat.le_of_ble_eq_true rfl) rfl rfl ?_
  refine nf_aln (pc := 0) dX0_append_0 rfl ?_
  refine gf_X0_count hn (pc := 1) lk_X0_9 dX0_append_1 ?_
  refine nf_topI (y := nI (cnt)) hc ?_
  refine nf_bipush (pc := 4) (v := 30) dX0_append_4 (by decide) ?_
  refine nf_ic_lt (pc := 6) 11 dX0_append_6 (by decide) (fun c_6 => ?_) (fun c_6 => ?_)
  · refine nf_aln (pc := 11) dX0_append_11 rfl ?_
    refine gf_X0_group hn (pc := 12) lk_X0_15 dX0_append_12 ?_
    refine nf_aln (pc := 15) dX0_append_15 rfl ?_
    refine gf_X0_count hn (pc := 16) lk_X0_9 dX0_append_16 ?_
    refine nf_topI (y := nI (cnt)) hc ?_
    refine nf_iln (pc := 19) dX0_append_19 rfl ?_
    refine nf_iastI (pc := 20) (k := cnt) (nf_okA hn (by decide)) hcnt dX0_append_20 ?_
    refine nf_aln (pc := 21) dX0_append_21 rfl ?_
    refine gf_X0_author hn (pc := 22) lk_X0_19 dX0_append_22 ?_
    refine nf_aln (pc := 25) dX0_append_25 rfl ?_
    refine gf_X0_count hn (pc := 26) lk_X0_9 dX0_append_26 ?_
    refine nf_topI (y := nI (cnt)) hc ?_
    refine nf_iln (pc := 29) dX0_append_29 rfl ?_
    refine nf_iastI (pc := 30) (k := cnt) (nf_okA hn (by decide)) hcnt dX0_append_30 ?_
    refine nf_aln (pc := 31) dX0_append_31 rfl ?_
    refine gf_X0_postedOn hn (pc := 32) lk_X0_22 dX0_append_32 ?_
    refine nf_aln (pc := 35) dX0_append_35 rfl ?_
    refine gf_X0_count hn (pc := 36) lk_X0_9 dX0_append_36 ?_
    refine nf_topI (y := nI (cnt)) hc ?_
    refine nf_iln (pc := 39) dX0_append_39 rfl ?_
    refine nf_iastI (pc := 40) (k := cnt) (nf_okA hn (by decide)) hcnt dX0_append_40 ?_
    refine nf_aln (pc := 41) dX0_append_41 rfl ?_
    refine gf_X0_action hn (pc := 42) lk_X0_25 dX0_append_42 ?_
    refine nf_aln (pc := 45) dX0_append_45 rfl ?_
    refine gf_X0_count hn (pc := 46) lk_X0_9 dX0_append_46 ?_
    refine nf_topI (y := nI (cnt)) hc ?_
    refine nf_il (pc := 49) dX0_append_49 rfl ?_
    refine nf_iastI (pc := 51) (k := cnt) (nf_okA hn (by decide)) hcnt dX0_append_51 ?_
    refine nf_aln (pc := 52) dX0_append_52 rfl ?_
    refine gf_X0_target hn (pc := 53) lk_X0_28 dX0_append_53 ?_
    refine nf_aln (pc := 56) dX0_append_56 rfl ?_
    refine gf_X0_count hn (pc := 57) lk_X0_9 dX0_append_57 ?_
    refine nf_topI (y := nI (cnt)) hc ?_
    refine nf_il (pc := 60) dX0_append_60 rfl ?_
    refine nf_iastI (pc := 62) (k := cnt) (nf_okA hn (by decide)) hcnt dX0_append_62 ?_
    refine nf_aln (pc := 63) dX0_append_63 rfl ?_
    refine nf_dup (pc := 64) dX0_append_64 rfl ?_
    refine gf_X0_count hn (pc := 65) lk_X0_9 dX0_append_65 ?_
    refine nf_topI (y := nI (cnt)) hc ?_
    refine nf_iconst (pc := 68) (v := 1) dX0_append_68 (by decide) ?_
    refine nf_iaddI (pc := 69) (a := cnt) (b := 1) dX0_append_69 ?_
    refine pf_X0_count hn (pc := 70) lk_X0_9 dX0_append_70 ?_
    refine nf_aln (pc := 73) dX0_append_73 rfl ?_
    refine gf_X0_count hn (pc := 74) lk_X0_9 dX0_append_74 ?_
    refine nf_topI (y := nI (cnt + 1)) (by simp [nf_I_sI]) ?_
    refine nf_iconst (pc := 77) (v := 1) dX0_append_77 (by decide) ?_
    refine nf_isub (pc := 78) dX0_append_78 ?_
    refine nf_topI (y := nI (cnt)) (nf_succ_sub _) ?_
    exact nf_to rfl (by simp [nf_A_sA]) (nf_iret (pc := 79) dX0_append_79)
  · exact absurd (nI_lt (b := 30) hcnt (by decide)) c_6
theorem sp_kn {L : nf_L} {S : nf_S} {h a : Nat} (hh : h < 6) (ha : a < 30) : nf_Sp L 0 yX1_knows cX1_knows 2 (some .boolean) [.ref (L.2.2 (4, 0, 0, h)), .int (nI a)] S (some (.int (nf_b (cf_kn S h a)))) S := sp_X1_knows (by decide) hh ha
theorem sp_nbr {L : nf_L} {S : nf_S} {nl na : Nat} {x : Int32} (hk : cs_ok S nl na) : nf_Sp L 1 yX2_neighboursOf cX2_neighboursOf 4 (some .int) [.ref (L.2.2 (2, 0, 0, 0)), .int x] S (some (.int (cf_nbr S x))) S := by
  have h := sp_X2_neighboursOf (L := L) (n := 0) (s := x) (by decide) hk.2.2.1 hk.1
  unfold cf_nbr
  rw [hk.2.2.1, cf_num_I (by have := hk.1; omega)]
  exact h
theorem sp_lnk {L : nf_L} {S : nf_S} {nl na : Nat} {x y : Int32} (hk : cs_ok S nl na) : nf_Sp L 0 yX2_between cX2_between 6 (some .int) [.ref (L.2.2 (2, 0, 0, 0)), .int x, .int y] S (some (.int (cf_lnk S x y))) S := by
  have h := sp_X2_between (L := L) (n := 0) (a := x) (b := y) (by decide) hk.2.2.1 hk.1
  unfold cf_lnk
  rw [hk.2.2.1, cf_num_I (by have := hk.1; omega)]
  exact h
theorem cs_act_t {S : nf_S} {a h t : Nat} (ht : t < 30) (et : nf_A S 0 9 0 a = nI t) : cs_act1 S a h t = cs_act S a h := by
  unfold cs_act; rw [et, cf_num_I (by omega)]
theorem cf_lnk_some {S : nf_S} {nl na : Nat} {x y : Int32} (hk : cs_ok S nl na) (h : ¬ cf_lnk S x y = -1) : ∃ j, j < 12 ∧ cf_lnk S x y = nI j := by
  obtain ⟨j, _, h2, h3⟩ := cf_btw_some _ _ h
  have h4 := hk.1
  rw [hk.2.2.1, cf_num_I (by omega)] at h2
  exact ⟨j, by omega, h3⟩

set_option maxRecDepth 100000 in
set_option maxHeartbeats 4000000 in
theorem sp_X3_actOnTarget {L : nf_L} {S : nf_S} {h a t : Nat} (hh : h < 6) (ha : a < 30) (ht : t < 30) (et : nf_A S 0 9 0 a = nI t) : nf_Sp L 2 yX3_actOnTarget cX3_actOnTarget 5 none [.ref (L.2.2 (1, 0, 0, 0)), .int (nI a), .ref (L.2.2 (4, 0, 0, h))] S none (cs_act1 S a h t) := by
  refine nf_start (own := RX3) (ls0 := [some (.ref (L.2.2 (1, 0, 0, 0))), some (.int (nI a)), some (.ref (L.2.2 (4, 0, 0, h))), none, none]) (by decide) (Nat.le_of_ble_eq_true rfl) rfl rfl ?_
  refine nf_aln (pc := 0) dX3_actOnTarget_0 rfl ?_
  refine gf_X3_articles (by decide) (pc := 1) lk_X3_32 dX3_actOnTarget_1 ?_
  refine gf_X0_target (by decide) (pc := 4) lk_X3_101 dX3_actOnTarget_4 ?_
  refine nf_iln (pc := 7) dX3_actOnTarget_7 rfl ?_
  refine nf_ialdI (pc := 8) (k := a) (nf_okA (by decide) (by decide)) ha dX3_actOnTarget_8 ?_
  refine nf_topI (y := nI (t)) et ?_
  refine nf_is3 (pc := 9) dX3_actOnTarget_9 rfl (by decide) ?_
  refine nf_aln (pc := 10) dX3_actOnTarget_10 rfl ?_
  refine gf_X3_articles (by decide) (pc := 11) lk_X3_32 dX3_actOnTarget_11 ?_
  refine gf_X0_author (by decide) (pc := 14) lk_X3_69 dX3_actOnTarget_14 ?_
  refine nf_iln (pc := 17) dX3_actOnTarget_17 rfl ?_
  refine nf_ialdI (pc := 18) (k := a) (nf_okA (by decide) (by decide)) ha dX3_actOnTarget_18 ?_
  refine nf_is4 (pc := 19) dX3_actOnTarget_19 rfl (by decide) ?_
  refine nf_aln (pc := 21) dX3_actOnTarget_21 rfl ?_
  refine nf_iln (pc := 22) dX3_actOnTarget_22 rfl ?_
  refine nf_cVi1 (pc := 23) (sp_X1_stores (by decide) hh) (nf_ok4 (by decide) hh) rfl rfl mk_X3_104 im_X1_stores se_X1_stores nm_X1_stores ⟨by decide, by decide⟩ (Nat.le_of_ble_eq_true rfl) dX3_actOnTarget_23 ?_
  refine nf_if_eqB (pc := 26) 74 dX3_actOnTarget_26 (by decide) (fun c_26 => ?_) (fun c_26 => ?_)
  · refine nf_aln (pc := 74) dX3_actOnTarget_74 rfl ?_
    refine nf_iln (pc := 75) dX3_actOnTarget_75 rfl ?_
    refine nf_cVi1 (pc := 76) (sp_kn hh ht) (nf_ok4 (by decide) hh) rfl rfl mk_X3_59 im_X1_knows se_X1_knows nm_X1_knows ⟨by decide, by decide⟩ (Nat.le_of_ble_eq_true rfl) dX3_actOnTarget_76 ?_
    refine nf_if_neB (pc := 79) 89 dX3_actOnTarget_79 (by decide) (fun c_79 => ?_) (fun c_79 => ?_)
    · exact nf_to rfl (by simp only [cs_act1, c_26, c_79, if_true, if_false, reduceIte, Bool.false_eq_true] <;> rfl) (nf_vret (pc := 89) dX3_actOnTarget_89)
    · refine nf_aln (pc := 82) dX3_actOnTarget_82 rfl ?_
      refine nf_iln (pc := 83) dX3_actOnTarget_83 rfl ?_
      refine nf_il (pc := 84) dX3_actOnTarget_84 rfl ?_
      refine nf_cVv2 (pc := 86) (sp_X1_addCancel (by decide) hh ht) (nf_ok4 (by decide) hh) rfl rfl mk_X3_110 im_X1_addCancel se_X1_addCancel nm_X1_addCancel ⟨by decide, by decide⟩ (Nat.le_of_ble_eq_true rfl) dX3_actOnTarget_86 ?_
      exact nf_to rfl (by simp only [cs_act1, c_26, c_79, if_true, if_false, reduceIte, Bool.false_eq_true] <;> rfl) (nf_vret (pc := 89) dX3_actOnTarget_89)
  · refine nf_aln (pc := 29) dX3_actOnTarget_29 rfl ?_
    refine gf_X3_articles (by decide) (pc := 30) lk_X3_32 dX3_actOnTarget_30 ?_
    refine gf_X0_author (by decide) (pc := 33) lk_X3_69 dX3_actOnTarget_33 ?_
    refine nf_iln (pc := 36) dX3_actOnTarget_36 rfl ?_
    refine nf_ialdI (pc := 37) (k := t) (nf_okA (by decide) (by decide)) ht dX3_actOnTarget_37 ?_
    refine nf_il (pc := 38) dX3_actOnTarget_38 rfl ?_
    refine nf_ic_ne (pc := 40) 61 dX3_actOnTarget_40 (by decide) (fun c_40 => ?_) (fun c_40 => ?_)
    · refine nf_aln (pc := 61) dX3_actOnTarget_61 rfl ?_
      refine gf_X3_counts (by decide) (pc := 62) lk_X3_49 dX3_actOnTarget_62 ?_
      refine nf_iconst (pc := 65) (v := 5) dX3_actOnTarget_65 (by decide) ?_
      refine nf_dup2 (pc := 66) dX3_actOnTarget_66 rfl rfl ?_
      refine nf_ialdI (pc := 67) (k := 5) (nf_okA (by decide) (by decide)) (by decide) dX3_actOnTarget_67 ?_
      refine nf_iconst (pc := 68) (v := 1) dX3_actOnTarget_68 (by decide) ?_
      refine nf_iadd (pc := 69) dX3_actOnTarget_69 ?_
      refine nf_iastI (pc := 70) (k := 5) (nf_okA (by decide) (by decide)) (by decide) dX3_actOnTarget_70 ?_
      refine nf_goto (pc := 71) 89 dX3_actOnTarget_71 (by decide) ?_
      exact nf_to rfl (by simp only [cs_act1, c_26, c_40, if_true, if_false, reduceIte, Bool.false_eq_true] <;> rfl) (nf_vret (pc := 89) dX3_actOnTarget_89)
    · refine nf_aln (pc := 43) dX3_actOnTarget_43 rfl ?_
      refine nf_iln (pc := 44) dX3_actOnTarget_44 rfl ?_
      refine nf_cVv1 (pc := 45) (sp_X1_drop (by decide) hh) (nf_ok4 (by decide) hh) rfl rfl mk_X3_107 im_X1_drop se_X1_drop nm_X1_drop ⟨by decide, by decide⟩ (Nat.le_of_ble_eq_true rfl) dX3_actOnTarget_45 ?_
      refine nf_from (S' := cs_drop S h t) rfl ?_
      refine nf_aln (pc := 48) dX3_actOnTarget_48 rfl ?_
      refine gf_X3_counts (by decide) (pc := 49) lk_X3_49 dX3_actOnTarget_49 ?_
      refine nf_iconst (pc := 52) (v := 4) dX3_actOnTarget_52 (by decide) ?_
      refine nf_dup2 (pc := 53) dX3_actOnTarget_53 rfl rfl ?_
      refine nf_ialdI (pc := 54) (k := 4) (nf_okA (by decide) (by decide)) (by decide) dX3_actOnTarget_54 ?_
      refine nf_iconst (pc := 55) (v := 1) dX3_actOnTarget_55 (by decide) ?_
      refine nf_iadd (pc := 56) dX3_actOnTarget_56 ?_
      refine nf_iastI (pc := 57) (k := 4) (nf_okA (by decide) (by decide)) (by decide) dX3_actOnTarget_57 ?_
      refine nf_goto (pc := 58) 89 dX3_actOnTarget_58 (by decide) ?_
      exact nf_to rfl (by simp only [cs_act1, c_26, c_40, if_true, if_false, reduceIte, Bool.false_eq_true] <;> rfl) (nf_vret (pc := 89) dX3_actOnTarget_89)
set_option maxRecDepth 100000 in
set_option maxHeartbeats 4000000 in
theorem sp_X3_arrive {L : nf_L} {S : nf_S} {h a nl na : Nat} {path : Int32} (hk : cs_ok S nl na) (hh : h < 6) (ha : a < na) : nf_Sp L 3 yX3_arrive cX3_arrive 6 (some .boolean) [.ref (L.2.2 (1, 0, 0, 0)), .int (nI a), .int (nI h), .int path] S (some (.int (nf_b (cs_arr S a h path).2))) (cs_arr S a h path).1 := by
  have ha30 : a < 30 := Nat.lt_of_lt_of_le ha hk.2.1
  refine nf_start (own := RX3) (ls0 := [some (.ref (L.2.2 (1, 0, 0, 0))), some (.int (nI a)), some (.int (nI h)), some (.int path), none, none]) (by decide) (Nat.le_of_ble_eq_true rfl) rfl rfl ?_
  refine nf_aln (pc := 0) dX3_arrive_0 rfl ?_
  refine gf_X3_hosts (by decide) (pc := 1) lk_X3_38 dX3_arrive_1 ?_
  refine nf_iln (pc := 4) dX3_arrive_4 rfl ?_
  refine nf_haldI (pc := 5) (k := h) (by decide) hh dX3_arrive_5 ?_
  refine nf_as4 (pc := 6) dX3_arrive_6 rfl (by decide) ?_
  refine nf_al (pc := 8) dX3_arrive_8 rfl ?_
  refine nf_iln (pc := 10) dX3_arrive_10 rfl ?_
  refine nf_cVi1 (pc := 11) (sp_kn hh ha30) (nf_ok4 (by decide) hh) rfl rfl mk_X3_59 im_X1_knows se_X1_knows nm_X1_knows ⟨by decide, by decide⟩ (Nat.le_of_ble_eq_true rfl) dX3_arrive_11 ?_
  refine nf_if_eqB (pc := 14) 29 dX3_arrive_14 (by decide) (fun c_14 => ?_) (fun c_14 => ?_)
  · refine nf_aln (pc := 29) dX3_arrive_29 rfl ?_
    refine gf_X3_today (by decide) (pc := 30) lk_X3_9 dX3_arrive_30 ?_
    refine nf_aln (pc := 33) dX3_arrive_33 rfl ?_
    refine gf_X3_articles (by decide) (pc := 34) lk_X3_32 dX3_arrive_34 ?_
    refine gf_X0_postedOn (by decide) (pc := 37) lk_X3_63 dX3_arrive_37 ?_
    refine nf_iln (pc := 40) dX3_arrive_40 rfl ?_
    refine nf_ialdI (pc := 41) (k := a) (nf_okA (by decide) (by decide)) ha30 dX3_arrive_41 ?_
    refine nf_isub (pc := 42) dX3_arrive_42 ?_
    refine nf_aln (pc := 43) dX3_arrive_43 rfl ?_
    refine gf_X3_historyLimit (by decide) (pc := 44) lk_X3_15 dX3_arrive_44 ?_
    refine nf_ic_lt (pc := 47) 62 dX3_arrive_47 (by decide) (fun c_47 => ?_) (fun c_47 => ?_)
    · refine nf_al (pc := 62) dX3_arrive_62 rfl ?_
      refine gf_X1_historyDay (by decide) hh (pc := 64) lk_X3_66 dX3_arrive_64 ?_
      refine nf_iln (pc := 67) dX3_arrive_67 rfl ?_
      refine nf_aln (pc := 68) dX3_arrive_68 rfl ?_
      refine gf_X3_today (by decide) (pc := 69) lk_X3_9 dX3_arrive_69 ?_
      refine nf_iastI (pc := 72) (k := a) (nf_ok12 (by decide) hh) ha30 dX3_arrive_72 ?_
      refine nf_from (S' := cs_known S h a (nf_I S 0 0 0)) rfl ?_
      refine nf_al (pc := 73) dX3_arrive_73 rfl ?_
      refine nf_iln (pc := 75) dX3_arrive_75 rfl ?_
      refine nf_aln (pc := 76) dX3_arrive_76 rfl ?_
      refine gf_X3_articles (by decide) (pc := 77) lk_X3_32 dX3_arrive_77 ?_
      refine gf_X0_author (by decide) (pc := 80) lk_X3_69 dX3_arrive_80 ?_
      refine nf_iln (pc := 83) dX3_arrive_83 rfl ?_
      refine nf_ialdI (pc := 84) (k := a) (nf_okA (by decide) (by decide)) ha30 dX3_arrive_84 ?_
      refine nf_cVi2 (pc := 85) (sp_X1_takeCancel (by decide) hh ha30) (nf_ok4 (by decide) hh) rfl rfl mk_X3_72 im_X1_takeCancel se_X1_takeCancel nm_X1_takeCancel ⟨by decide, by decide⟩ (Nat.le_of_ble_eq_true rfl) dX3_arrive_85 ?_
      refine nf_if_eqB (pc := 88) 103 dX3_arrive_88 (by decide) (fun c_88 => ?_) (fun c_88 => ?_)
      · refine nf_from (S' := (cs_take (cs_known S h a (nf_I S 0 0 0)) h a (nf_A (cs_known S h a (nf_I S 0 0 0)) 0 6 0 a))) rfl ?_
        refine nf_al (pc := 103) dX3_arrive_103 rfl ?_
        refine nf_aln (pc := 105) dX3_arrive_105 rfl ?_
        refine gf_X3_articles (by decide) (pc := 106) lk_X3_32 dX3_arrive_106 ?_
        refine gf_X0_group (by decide) (pc := 109) lk_X3_76 dX3_arrive_109 ?_
        refine nf_iln (pc := 112) dX3_arrive_112 rfl ?_
        refine nf_ialdI (pc := 113) (k := a) (nf_okA (by decide) (by decide)) ha30 dX3_arrive_113 ?_
        refine nf_cVi1 (pc := 114) (sp_X1_carries (by decide) hh) (nf_ok4 (by decide) hh) rfl rfl mk_X3_79 im_X1_carries se_X1_carries nm_X1_carries ⟨by decide, by decide⟩ (Nat.le_of_ble_eq_true rfl) dX3_arrive_114 ?_
        refine nf_if_neB (pc := 117) 122 dX3_arrive_117 (by decide) (fun c_117 => ?_) (fun c_117 => ?_)
        · refine nf_al (pc := 122) dX3_arrive_122 rfl ?_
          refine nf_iln (pc := 124) dX3_arrive_124 rfl ?_
          refine nf_cVv1 (pc := 125) (sp_X1_keep (by decide) hh) (nf_ok4 (by decide) hh) rfl rfl mk_X3_82 im_X1_keep se_X1_keep nm_X1_keep ⟨by decide, by decide⟩ (Nat.le_of_ble_eq_true rfl) dX3_arrive_125 ?_
          refine nf_from (S' := cs_keep (cs_take (cs_known S h a (nf_I S 0 0 0)) h a (nf_A (cs_known S h a (nf_I S 0 0 0)) 0 6 0 a)) h a) rfl ?_
          have hk1 : cs_ok (cs_keep (cs_take (cs_known S h a (nf_I S 0 0 0)) h a (nf_A (cs_known S h a (nf_I S 0 0 0)) 0 6 0 a)) h a) nl na := hk.same ((cs_same_known S h a _).trans ((cs_same_take _ h a _).trans (cs_same_keep _ h a)))
          refine nf_aln (pc := 128) dX3_arrive_128 rfl ?_
          refine gf_X3_articles (by decide) (pc := 129) lk_X3_32 dX3_arrive_129 ?_
          refine gf_X0_action (by decide) (pc := 132) lk_X3_86 dX3_arrive_132 ?_
          refine nf_iln (pc := 135) dX3_arrive_135 rfl ?_
          refine nf_ialdI (pc := 136) (k := a) (nf_okA (by decide) (by decide)) ha30 dX3_arrive_136 ?_
          refine nf_if_eq (pc := 137) 147 dX3_arrive_137 (by decide) (fun c_137 => ?_) (fun c_137 => ?_)
          · refine nf_iln (pc := 147) dX3_arrive_147 rfl ?_
            refine nf_iconst (pc := 148) (v := 1) dX3_arrive_148 (by decide) ?_
            refine nf_iln (pc := 149) dX3_arrive_149 rfl ?_
            refine nf_ishl (pc := 150) dX3_arrive_150 ?_
            refine nf_ior (pc := 151) dX3_arrive_151 ?_
            refine nf_is5 (pc := 152) dX3_arrive_152 rfl (by decide) ?_
            refine nf_aln (pc := 154) dX3_arrive_154 rfl ?_
            refine gf_X3_queue (by decide) (pc := 155) lk_X3_45 dX3_arrive_155 ?_
            refine nf_iln (pc := 158) dX3_arrive_158 rfl ?_
            refine nf_iln (pc := 159) dX3_arrive_159 rfl ?_
            refine nf_aln (pc := 160) dX3_arrive_160 rfl ?_
            refine gf_X3_links (by decide) (pc := 161) lk_X3_25 dX3_arrive_161 ?_
            refine nf_iconst (pc := 164) (v := 1) dX3_arrive_164 (by decide) ?_
            refine nf_iln (pc := 165) dX3_arrive_165 rfl ?_
            refine nf_ishl (pc := 166) dX3_arrive_166 ?_
            refine nf_cVi1 (pc := 167) (sp_nbr hk1) ⟨(by decide), rfl⟩ rfl rfl mk_X3_93 im_X2_neighboursOf se_X2_neighboursOf nm_X2_neighboursOf ⟨by decide, by decide⟩ (Nat.le_of_ble_eq_true rfl) dX3_arrive_167 ?_
            refine nf_il (pc := 170) dX3_arrive_170 rfl ?_
            refine nf_iconst (pc := 172) (v := (-1)) dX3_arrive_172 (by decide) ?_
            refine nf_ixor (pc := 173) dX3_arrive_173 ?_
            refine nf_iand (pc := 174) dX3_arrive_174 ?_
            refine nf_il (pc := 175) dX3_arrive_175 rfl ?_
            refine nf_cVv4 (pc := 177) (sp_X4_put (by decide) ha30 hh) ⟨(by decide), rfl⟩ rfl rfl mk_X3_97 im_X4_put se_X4_put nm_X4_put ⟨by decide, by decide⟩ (Nat.le_of_ble_eq_true rfl) dX3_arrive_177 ?_
            refine nf_iconst (pc := 180) (v := 1) dX3_arrive_180 (by decide) ?_
            exact nf_to (by simp only [cs_arr, cs_arr2, cs_arr3, cs_arr4, c_14, c_47, c_88, c_117, c_137, if_true, if_false, reduceIte, Bool.false_eq_true] <;> rfl) (by simp only [cs_arr, cs_arr2, cs_arr3, cs_arr4, c_14, c_47, c_88, c_117, c_137, if_true, if_false, reduceIte, Bool.false_eq_true] <;> rfl) (nf_zret1 (pc := 181) dX3_arrive_181)
          · obtain ⟨t, ht, et⟩ := (hk1.2.2.2.2 a ha).1.resolve_left c_137
            refine nf_aln (pc := 140) dX3_arrive_140 rfl ?_
            refine nf_iln (pc := 141) dX3_arrive_141 rfl ?_
            refine nf_al (pc := 142) dX3_arrive_142 rfl ?_
            refine nf_cVv2 (pc := 144) (sp_X3_actOnTarget hh ha30 ht et) ⟨(by decide), rfl⟩ rfl rfl mk_X3_89 im_X3_actOnTarget se_X3_actOnTarget nm_X3_actOnTarget ⟨by decide, by decide⟩ (Nat.le_of_ble_eq_true rfl) dX3_arrive_144 ?_
            refine nf_from (cs_act_t ht et) ?_
            have hk1 := hk1.same (cs_same_act _ a h)
            refine nf_iln (pc := 147) dX3_arrive_147 rfl ?_
            refine nf_iconst (pc := 148) (v := 1) dX3_arrive_148 (by decide) ?_
            refine nf_iln (pc := 149) dX3_arrive_149 rfl ?_
            refine nf_ishl (pc := 150) dX3_arrive_150 ?_
            refine nf_ior (pc := 151) dX3_arrive_151 ?_
            refine nf_is5 (pc := 152) dX3_arrive_152 rfl (by decide) ?_
            refine nf_aln (pc := 154) dX3_arrive_154 rfl ?_
            refine gf_X3_queue (by decide) (pc := 155) lk_X3_45 dX3_arrive_155 ?_
            refine nf_iln (pc := 158) dX3_arrive_158 rfl ?_
            refine nf_iln (pc := 159) dX3_arrive_159 rfl ?_
            refine nf_aln (pc := 160) dX3_arrive_160 rfl ?_
            refine gf_X3_links (by decide) (pc := 161) lk_X3_25 dX3_arrive_161 ?_
            refine nf_iconst (pc := 164) (v := 1) dX3_arrive_164 (by decide) ?_
            refine nf_iln (pc := 165) dX3_arrive_165 rfl ?_
            refine nf_ishl (pc := 166) dX3_arrive_166 ?_
            refine nf_cVi1 (pc := 167) (sp_nbr hk1) ⟨(by decide), rfl⟩ rfl rfl mk_X3_93 im_X2_neighboursOf se_X2_neighboursOf nm_X2_neighboursOf ⟨by decide, by decide⟩ (Nat.le_of_ble_eq_true rfl) dX3_arrive_167 ?_
            refine nf_il (pc := 170) dX3_arrive_170 rfl ?_
            refine nf_iconst (pc := 172) (v := (-1)) dX3_arrive_172 (by decide) ?_
            refine nf_ixor (pc := 173) dX3_arrive_173 ?_
            refine nf_iand (pc := 174) dX3_arrive_174 ?_
            refine nf_il (pc := 175) dX3_arrive_175 rfl ?_
            refine nf_cVv4 (pc := 177) (sp_X4_put (by decide) ha30 hh) ⟨(by decide), rfl⟩ rfl rfl mk_X3_97 im_X4_put se_X4_put nm_X4_put ⟨by decide, by decide⟩ (Nat.le_of_ble_eq_true rfl) dX3_arrive_177 ?_
            refine nf_iconst (pc := 180) (v := 1) dX3_arrive_180 (by decide) ?_
            exact nf_to (by simp only [cs_arr, cs_arr2, cs_arr3, cs_arr4, c_14, c_47, c_88, c_117, c_137, if_true, if_false, reduceIte, Bool.false_eq_true] <;> rfl) (by simp only [cs_arr, cs_arr2, cs_arr3, cs_arr4, c_14, c_47, c_88, c_117, c_137, if_true, if_false, reduceIte, Bool.false_eq_true] <;> rfl) (nf_zret1 (pc := 181) dX3_arrive_181)
        · refine nf_iconst (pc := 120) (v := 0) dX3_arrive_120 (by decide) ?_
          exact nf_to (by simp only [cs_arr, cs_arr2, c_14, c_47, c_88, c_117, if_true, if_false, reduceIte, Bool.false_eq_true] <;> rfl) (by simp only [cs_arr, cs_arr2, c_14, c_47, c_88, c_117, if_true, if_false, reduceIte, Bool.false_eq_true] <;> rfl) (nf_zret0 (pc := 121) dX3_arrive_121)
      · refine nf_from (S' := (cs_take (cs_known S h a (nf_I S 0 0 0)) h a (nf_A (cs_known S h a (nf_I S 0 0 0)) 0 6 0 a))) rfl ?_
        refine nf_aln (pc := 91) dX3_arrive_91 rfl ?_
        refine gf_X3_counts (by decide) (pc := 92) lk_X3_49 dX3_arrive_92 ?_
        refine nf_iconst (pc := 95) (v := 4) dX3_arrive_95 (by decide) ?_
        refine nf_dup2 (pc := 96) dX3_arrive_96 rfl rfl ?_
        refine nf_ialdI (pc := 97) (k := 4) (nf_okA (by decide) (by decide)) (by decide) dX3_arrive_97 ?_
        refine nf_iconst (pc := 98) (v := 1) dX3_arrive_98 (by decide) ?_
        refine nf_iadd (pc := 99) dX3_arrive_99 ?_
        refine nf_iastI (pc := 100) (k := 4) (nf_okA (by decide) (by decide)) (by decide) dX3_arrive_100 ?_
        refine nf_iconst (pc := 101) (v := 0) dX3_arrive_101 (by decide) ?_
        exact nf_to (by simp only [cs_arr, cs_arr2, c_14, c_47, c_88, if_true, if_false, reduceIte, Bool.false_eq_true] <;> rfl) (by simp only [cs_arr, cs_arr2, c_14, c_47, c_88, if_true, if_false, reduceIte, Bool.false_eq_true] <;> rfl) (nf_zret0 (pc := 102) dX3_arrive_102)
    · refine nf_aln (pc := 50) dX3_arrive_50 rfl ?_
      refine gf_X3_counts (by decide) (pc := 51) lk_X3_49 dX3_arrive_51 ?_
      refine nf_iconst (pc := 54) (v := 3) dX3_arrive_54 (by decide) ?_
      refine nf_dup2 (pc := 55) dX3_arrive_55 rfl rfl ?_
      refine nf_ialdI (pc := 56) (k := 3) (nf_okA (by decide) (by decide)) (by decide) dX3_arrive_56 ?_
      refine nf_iconst (pc := 57) (v := 1) dX3_arrive_57 (by decide) ?_
      refine nf_iadd (pc := 58) dX3_arrive_58 ?_
      refine nf_iastI (pc := 59) (k := 3) (nf_okA (by decide) (by decide)) (by decide) dX3_arrive_59 ?_
      refine nf_iconst (pc := 60) (v := 0) dX3_arrive_60 (by decide) ?_
      exact nf_to (by simp only [cs_arr, c_14, c_47, if_true, if_false, reduceIte, Bool.false_eq_true] <;> rfl) (by simp only [cs_arr, c_14, c_47, if_true, if_false, reduceIte, Bool.false_eq_true] <;> rfl) (nf_zret0 (pc := 61) dX3_arrive_61)
  · refine nf_aln (pc := 17) dX3_arrive_17 rfl ?_
    refine gf_X3_counts (by decide) (pc := 18) lk_X3_49 dX3_arrive_18 ?_
    refine nf_iconst (pc := 21) (v := 2) dX3_arrive_21 (by decide) ?_
    refine nf_dup2 (pc := 22) dX3_arrive_22 rfl rfl ?_
    refine nf_ialdI (pc := 23) (k := 2) (nf_okA (by decide) (by decide)) (by decide) dX3_arrive_23 ?_
    refine nf_iconst (pc := 24) (v := 1) dX3_arrive_24 (by decide) ?_
    refine nf_iadd (pc := 25) dX3_arrive_25 ?_
    refine nf_iastI (pc := 26) (k := 2) (nf_okA (by decide) (by decide)) (by decide) dX3_arrive_26 ?_
    refine nf_iconst (pc := 27) (v := 0) dX3_arrive_27 (by decide) ?_
    exact nf_to (by simp only [cs_arr, c_14, if_true, if_false, reduceIte, Bool.false_eq_true] <;> rfl) (by simp only [cs_arr, c_14, if_true, if_false, reduceIte, Bool.false_eq_true] <;> rfl) (nf_zret0 (pc := 28) dX3_arrive_28)
set_option maxRecDepth 100000 in
set_option maxHeartbeats 4000000 in
theorem sp_X3_sendTo {L : nf_L} {S : nf_S} {a s t nl na : Nat} {path : Int32} (hk : cs_ok S nl na) (ht : t < 6) (ha : a < na) : nf_Sp L 4 yX3_sendTo cX3_sendTo 6 (some .boolean) [.ref (L.2.2 (1, 0, 0, 0)), .int (nI a), .int (nI s), .int (nI t), .int path] S (some (.int (nf_b (cs_send S a s t path).2))) (cs_send S a s t path).1 := by
  have ha30 : a < 30 := Nat.lt_of_lt_of_le ha hk.2.1
  refine nf_start (own := RX3) (ls0 := [some (.ref (L.2.2 (1, 0, 0, 0))), some (.int (nI a)), some (.int (nI s)), some (.int (nI t)), some (.int path), none]) (by decide) (Nat.le_of_ble_eq_true rfl) rfl rfl ?_
  refine nf_aln (pc := 0) dX3_sendTo_0 rfl ?_
  refine gf_X3_links (by decide) (pc := 1) lk_X3_25 dX3_sendTo_1 ?_
  refine nf_iln (pc := 4) dX3_sendTo_4 rfl ?_
  refine nf_iln (pc := 5) dX3_sendTo_5 rfl ?_
  refine nf_cVi2 (pc := 6) (sp_lnk hk) ⟨(by decide), rfl⟩ rfl rfl mk_X3_141 im_X2_between se_X2_between nm_X2_between ⟨by decide, by decide⟩ (Nat.le_of_ble_eq_true rfl) dX3_sendTo_6 ?_
  refine nf_is5 (pc := 9) dX3_sendTo_9 rfl (by decide) ?_
  refine nf_il (pc := 11) dX3_sendTo_11 rfl ?_
  refine nf_iconst (pc := 13) (v := (-1)) dX3_sendTo_13 (by decide) ?_
  refine nf_ic_ne (pc := 14) 19 dX3_sendTo_14 (by decide) (fun c_14 => ?_) (fun c_14 => ?_)
  · obtain ⟨j, hj, ej⟩ := cf_lnk_some hk c_14
    refine nf_aln (pc := 19) dX3_sendTo_19 rfl ?_
    refine gf_X3_links (by decide) (pc := 20) lk_X3_25 dX3_sendTo_20 ?_
    refine gf_X2_kind (by decide) (pc := 23) lk_X3_144 dX3_sendTo_23 ?_
    refine nf_il (pc := 26) dX3_sendTo_26 rfl ?_
    refine nf_iald (pc := 28) (nf_okA (by decide) (by decide)) (by rw [ej]; exact nf_inI hj (by decide)) dX3_sendTo_28 ?_
    refine nf_iconst (pc := 29) (v := 1) dX3_sendTo_29 (by decide) ?_
    refine nf_ic_ne (pc := 30) 58 dX3_sendTo_30 (by decide) (fun c_30 => ?_) (fun c_30 => ?_)
    · refine nf_aln (pc := 58) dX3_sendTo_58 rfl ?_
      refine gf_X3_counts (by decide) (pc := 59) lk_X3_49 dX3_sendTo_59 ?_
      refine nf_iconst (pc := 62) (v := 0) dX3_sendTo_62 (by decide) ?_
      refine nf_dup2 (pc := 63) dX3_sendTo_63 rfl rfl ?_
      refine nf_ialdI (pc := 64) (k := 0) (nf_okA (by decide) (by decide)) (by decide) dX3_sendTo_64 ?_
      refine nf_iconst (pc := 65) (v := 1) dX3_sendTo_65 (by decide) ?_
      refine nf_iadd (pc := 66) dX3_sendTo_66 ?_
      refine nf_iastI (pc := 67) (k := 0) (nf_okA (by decide) (by decide)) (by decide) dX3_sendTo_67 ?_
      refine nf_from (S' := cs_inc S 0) rfl ?_
      have hk1 := hk.same (cs_same_inc S 0)
      refine nf_aln (pc := 68) dX3_sendTo_68 rfl ?_
      refine nf_iln (pc := 69) dX3_sendTo_69 rfl ?_
      refine nf_iln (pc := 70) dX3_sendTo_70 rfl ?_
      refine nf_il (pc := 71) dX3_sendTo_71 rfl ?_
      refine nf_cVi3 (pc := 73) (sp_X3_arrive hk1 ht ha) ⟨(by decide), rfl⟩ rfl rfl mk_X3_147 im_X3_arrive se_X3_arrive nm_X3_arrive ⟨by decide, by decide⟩ (Nat.le_of_ble_eq_true rfl) dX3_sendTo_73 ?_
      exact nf_to (by simp only [cs_send, cs_send2, cf_num, c_14, c_30, if_true, if_false, reduceIte, Bool.false_eq_true] <;> rfl) (by simp only [cs_send, cs_send2, cf_num, c_14, c_30, if_true, if_false, reduceIte, Bool.false_eq_true] <;> rfl) (nf_zretb (pc := 76) dX3_sendTo_76)
    · refine nf_aln (pc := 33) dX3_sendTo_33 rfl ?_
      refine gf_X3_counts (by decide) (pc := 34) lk_X3_49 dX3_sendTo_34 ?_
      refine nf_iconst (pc := 37) (v := 1) dX3_sendTo_37 (by decide) ?_
      refine nf_dup2 (pc := 38) dX3_sendTo_38 rfl rfl ?_
      refine nf_ialdI (pc := 39) (k := 1) (nf_okA (by decide) (by decide)) (by decide) dX3_sendTo_39 ?_
      refine nf_iconst (pc := 40) (v := 1) dX3_sendTo_40 (by decide) ?_
      refine nf_iadd (pc := 41) dX3_sendTo_41 ?_
      refine nf_iastI (pc := 42) (k := 1) (nf_okA (by decide) (by decide)) (by decide) dX3_sendTo_42 ?_
      refine nf_from (S' := cs_inc S 1) rfl ?_
      refine nf_aln (pc := 43) dX3_sendTo_43 rfl ?_
      refine gf_X3_hosts (by decide) (pc := 44) lk_X3_38 dX3_sendTo_44 ?_
      refine nf_iln (pc := 47) dX3_sendTo_47 rfl ?_
      refine nf_haldI (pc := 48) (k := t) (by decide) ht dX3_sendTo_48 ?_
      refine nf_iln (pc := 49) dX3_sendTo_49 rfl ?_
      refine nf_cVi1 (pc := 50) (sp_kn ht ha30) (nf_ok4 (by decide) ht) rfl rfl mk_X3_59 im_X1_knows se_X1_knows nm_X1_knows ⟨by decide, by decide⟩ (Nat.le_of_ble_eq_true rfl) dX3_sendTo_50 ?_
      refine nf_if_eqB (pc := 53) 58 dX3_sendTo_53 (by decide) (fun c_53 => ?_) (fun c_53 => ?_)
      · refine nf_aln (pc := 58) dX3_sendTo_58 rfl ?_
        refine gf_X3_counts (by decide) (pc := 59) lk_X3_49 dX3_sendTo_59 ?_
        refine nf_iconst (pc := 62) (v := 0) dX3_sendTo_62 (by decide) ?_
        refine nf_dup2 (pc := 63) dX3_sendTo_63 rfl rfl ?_
        refine nf_ialdI (pc := 64) (k := 0) (nf_okA (by decide) (by decide)) (by decide) dX3_sendTo_64 ?_
        refine nf_iconst (pc := 65) (v := 1) dX3_sendTo_65 (by decide) ?_
        refine nf_iadd (pc := 66) dX3_sendTo_66 ?_
        refine nf_iastI (pc := 67) (k := 0) (nf_okA (by decide) (by decide)) (by decide) dX3_sendTo_67 ?_
        refine nf_from (S' := cs_inc (cs_inc S 1) 0) rfl ?_
        have hk1 := (hk.same (cs_same_inc S 1)).same (cs_same_inc _ 0)
        refine nf_aln (pc := 68) dX3_sendTo_68 rfl ?_
        refine nf_iln (pc := 69) dX3_sendTo_69 rfl ?_
        refine nf_iln (pc := 70) dX3_sendTo_70 rfl ?_
        refine nf_il (pc := 71) dX3_sendTo_71 rfl ?_
        refine nf_cVi3 (pc := 73) (sp_X3_arrive hk1 ht ha) ⟨(by decide), rfl⟩ rfl rfl mk_X3_147 im_X3_arrive se_X3_arrive nm_X3_arrive ⟨by decide, by decide⟩ (Nat.le_of_ble_eq_true rfl) dX3_sendTo_73 ?_
        exact nf_to (by simp only [cs_send, cs_send2, cf_num, c_14, c_30, c_53, if_true, if_false, reduceIte, Bool.false_eq_true] <;> rfl) (by simp only [cs_send, cs_send2, cf_num, c_14, c_30, c_53, if_true, if_false, reduceIte, Bool.false_eq_true] <;> rfl) (nf_zretb (pc := 76) dX3_sendTo_76)
      · refine nf_iconst (pc := 56) (v := 0) dX3_sendTo_56 (by decide) ?_
        exact nf_to (by simp only [cs_send, cs_send2, cf_num, c_14, c_30, c_53, if_true, if_false, reduceIte, Bool.false_eq_true] <;> rfl) (by simp only [cs_send, cs_send2, cf_num, c_14, c_30, c_53, if_true, if_false, reduceIte, Bool.false_eq_true] <;> rfl) (nf_zret0 (pc := 57) dX3_sendTo_57)
  · refine nf_iconst (pc := 17) (v := 0) dX3_sendTo_17 (by decide) ?_
    exact nf_to (by simp only [cs_send, cs_send2, cf_num, c_14, if_true, if_false, reduceIte, Bool.false_eq_true] <;> rfl) (by simp only [cs_send, cs_send2, cf_num, c_14, if_true, if_false, reduceIte, Bool.false_eq_true] <;> rfl) (nf_zret0 (pc := 18) dX3_sendTo_18)
def cs_exp1 (S : nf_S) (h k : Nat) (acc : Int32) : nf_S × Int32 :=
  if cf_has (nf_I S 0 5 h) (nI k) = true then (if nf_I S 0 0 0 - nf_A S 0 7 0 k < nf_A S 0 0 0 (cf_num (nf_A S 0 5 0 k)) then (S, acc) else (cs_drop S h k, acc + 1)) else (S, acc)
def cs_exp (h : Nat) : Nat → nf_S → Nat → Int32 → nf_S × Int32
  | 0, S, _, acc => (S, acc)
  | m + 1, S, k, acc => cs_exp h m (cs_exp1 S h k acc).1 (k + 1) (cs_exp1 S h k acc).2
def cs_fgt1 (S : nf_S) (h k : Nat) : nf_S := if cf_kn S h k = true then (if nf_I S 0 0 0 - nf_A S 0 12 h k < nf_I S 0 1 0 then S else cs_known S h k (-1)) else S
def cs_fgt (h : Nat) : Nat → nf_S → Nat → nf_S
  | 0, S, _ => S
  | m + 1, S, k => cs_fgt h m (cs_fgt1 S h k) (k + 1)
theorem cs_same_exp1 (S : nf_S) (h k : Nat) (acc : Int32) : cs_same S (cs_exp1 S h k acc).1 := by
  unfold cs_exp1
  split
  · split
    · exact cs_same.rf S
    · exact cs_same_drop S h k
  · exact cs_same.rf S
theorem cs_same_exp (h : Nat) : ∀ (m : Nat) (S : nf_S) (k : Nat) (acc : Int32), cs_same S (cs_exp h m S k acc).1
  | 0, S, _, _ => cs_same.rf S
  | m + 1, S, k, acc => (cs_same_exp1 S h k acc).trans (cs_same_exp h m _ _ _)
theorem cs_same_fgt1 (S : nf_S) (h k : Nat) : cs_same S (cs_fgt1 S h k) := by
  unfold cs_fgt1
  split
  · split
    · exact cs_same.rf S
    · exact cs_same_known S h k _
  · exact cs_same.rf S
theorem cs_same_fgt (h : Nat) : ∀ (m : Nat) (S : nf_S) (k : Nat), cs_same S (cs_fgt h m S k)
  | 0, S, _ => cs_same.rf S
  | m + 1, S, k => (cs_same_fgt1 S h k).trans (cs_same_fgt h m _ _)
def cs_day (na : Nat) : Nat → nf_S → Nat → Int32 → nf_S × Int32
  | 0, S, _, acc => (S, acc)
  | m + 1, S, h, acc => cs_day na m (cs_fgt h na (cs_exp h na S 0 0).1 0) (h + 1) (acc + (cs_exp h na S 0 0).2)
theorem cs_same_day (na : Nat) : ∀ (m : Nat) (S : nf_S) (h : Nat) (acc : Int32), cs_same S (cs_day na m S h acc).1
  | 0, S, _, _ => cs_same.rf S
  | m + 1, S, h, acc => (cs_same_exp h na S 0 0).trans ((cs_same_fgt h na _ 0).trans (cs_same_day na m _ _ _))
def cs_stp (S : nf_S) (acc : Int32) (a s t : Nat) : nf_S × Int32 :=
  if cf_has (nf_A S 5 10 0 (a * 6 + s)) (nI t) = true then (if (cs_send S a s t (nf_A S 5 11 0 (a * 6 + s))).2 = true then ((cs_send S a s t (nf_A S 5 11 0 (a * 6 + s))).1, acc + 1) else ((cs_send S a s t (nf_A S 5 11 0 (a * 6 + s))).1, acc)) else (S, acc)
theorem cs_same_stp (S : nf_S) (acc : Int32) (a s t : Nat) : cs_same S (cs_stp S acc a s t).1 := by
  unfold cs_stp
  split
  · split
    · exact cs_same_send S a s t _
    · exact cs_same_send S a s t _
  · exact cs_same.rf S
def cs_rcv (a s : Nat) : Nat → nf_S → Int32 → Nat → nf_S × Int32
  | 0, S, acc, _ => (S, acc)
  | m + 1, S, acc, t => cs_rcv a s m (cs_stp S acc a s t).1 (cs_stp S acc a s t).2 (t + 1)
theorem cs_same_rcv (a s : Nat) : ∀ (m : Nat) (S : nf_S) (acc : Int32) (t : Nat), cs_same S (cs_rcv a s m S acc t).1
  | 0, S, _, _ => cs_same.rf S
  | m + 1, S, acc, t => (cs_same_stp S acc a s t).trans (cs_same_rcv a s m _ _ _)
def cs_snd (a : Nat) : Nat → nf_S → Int32 → Nat → nf_S × Int32
  | 0, S, acc, _ => (S, acc)
  | m + 1, S, acc, s => cs_snd a m (cs_rcv a s 6 S acc 0).1 (cs_rcv a s 6 S acc 0).2 (s + 1)
theorem cs_same_snd (a : Nat) : ∀ (m : Nat) (S : nf_S) (acc : Int32) (t : Nat), cs_same S (cs_snd a m S acc t).1
  | 0, S, _, _ => cs_same.rf S
  | m + 1, S, acc, t => (cs_same_rcv a t 6 S acc 0).trans (cs_same_snd a m _ _ _)
def cs_art : Nat → nf_S → Int32 → Nat → nf_S × Int32
  | 0, S, acc, _ => (S, acc)
  | m + 1, S, acc, a => cs_art m (cs_snd a 6 S acc 0).1 (cs_snd a 6 S acc 0).2 (a + 1)
theorem cs_same_art : ∀ (m : Nat) (S : nf_S) (acc : Int32) (t : Nat), cs_same S (cs_art m S acc t).1
  | 0, S, _, _ => cs_same.rf S
  | m + 1, S, acc, t => (cs_same_snd t 6 S acc 0).trans (cs_same_art m _ _ _)
def cs_cpq (S : nf_S) (n1 n2 : Nat) : nf_S := nf_sA (nf_sA S n1 10 0 (nf_A S n2 10 0)) n1 11 0 (nf_A S n2 11 0)
def cs_mt (S : nf_S) : nf_S := nf_sA (nf_sA S 0 10 0 (fun _ => 0)) 0 11 0 (fun _ => 0)
def cs_rnd (S : nf_S) (na : Nat) : nf_S × Int32 := cs_art na (cs_mt (cs_cpq S 5 0)) 0 0
theorem cs_ok_cpq {S : nf_S} {nl na : Nat} (h : cs_ok S nl na) : cs_ok (cs_mt (cs_cpq S 5 0)) nl na := by
  obtain ⟨h1, h2, h3, h4, h5⟩ := h
  refine ⟨h1, h2, h3, h4, fun a ha => ?_⟩
  simp only [cs_mt, cs_cpq, nf_A_sA]
  simpa using h5 a ha
theorem cs_ok_today {S : nf_S} {nl na : Nat} {x : Int32} (h : cs_ok S nl na) : cs_ok (nf_sI S 0 0 0 x) nl na := by
  obtain ⟨h1, h2, h3, h4, h5⟩ := h
  exact ⟨h1, h2, by rw [nf_I_sI, if_neg (by decide)]; exact h3, by rw [nf_I_sI, if_neg (by decide)]; exact h4, h5⟩
set_option maxRecDepth 100000 in
set_option maxHeartbeats 4000000 in
theorem lp_expireStore {L : nf_L} {h nl na : Nat} (hh : h < 6) : ∀ (m : Nat) (S : nf_S) (k : Nat) (acc : Int32) (o4 : Option Value), (k + m = na) → (cs_ok S nl na) → nf_V L 2 cX3_expireStore RX3 5 (some .int) (some (.int (cs_exp h m S k acc).2)) (cs_exp h m S k acc).1 4 [some (.ref (L.2.2 (1, 0, 0, 0))), some (.ref (L.2.2 (4, 0, 0, h))), some (.int acc), some (.int (nI k)), o4] [] S := by
  intro m
  induction m with
  | zero =>
    intro S k acc o4 hkm hk
    have h31 := hk.2.1
    refine nf_iln (pc := 4) dX3_expireStore_4 rfl ?_
    refine nf_aln (pc := 5) dX3_expireStore_5 rfl ?_
    refine gf_X3_articles (by decide) (pc := 6) lk_X3_32 dX3_expireStore_6 ?_
    refine gf_X0_count (by decide) (pc := 9) lk_X3_121 dX3_expireStore_9 ?_
    refine nf_topI (y := nI (na)) hk.2.2.2.1 ?_
    refine nf_ic_ge (pc := 12) 72 dX3_expireStore_12 (by decide) (fun c_12 => ?_) (fun c_12 => ?_)
    · refine nf_iln (pc := 72) dX3_expireStore_72 rfl ?_
      exact (nf_iret (pc := 73) dX3_expireStore_73)
    · exact absurd (nI_le (by omega) (by omega)) c_12
  | succ m ih =>
    intro S k acc o4 hkm hk
    have h31 := hk.2.1
    refine nf_iln (pc := 4) dX3_expireStore_4 rfl ?_
    refine nf_aln (pc := 5) dX3_expireStore_5 rfl ?_
    refine gf_X3_articles (by decide) (pc := 6) lk_X3_32 dX3_expireStore_6 ?_
    refine gf_X0_count (by decide) (pc := 9) lk_X3_121 dX3_expireStore_9 ?_
    refine nf_topI (y := nI (na)) hk.2.2.2.1 ?_
    refine nf_ic_ge (pc := 12) 72 dX3_expireStore_12 (by decide) (fun c_12 => ?_) (fun c_12 => ?_)
    · exact absurd c_12 (nI_ge (by omega) (by omega))
    · refine nf_aln (pc := 15) dX3_expireStore_15 rfl ?_
      refine gf_X3_today (by decide) (pc := 16) lk_X3_9 dX3_expireStore_16 ?_
      refine nf_aln (pc := 19) dX3_expireStore_19 rfl ?_
      refine gf_X3_articles (by decide) (pc := 20) lk_X3_32 dX3_expireStore_20 ?_
      refine gf_X0_postedOn (by decide) (pc := 23) lk_X3_63 dX3_expireStore_23 ?_
      refine nf_iln (pc := 26) dX3_expireStore_26 rfl ?_
      refine nf_ialdI (pc := 27) (k := k) (nf_okA (by decide) (by decide)) (show _ < 30 by omega) dX3_expireStore_27 ?_
      refine nf_isub (pc := 28) dX3_expireStore_28 ?_
      refine nf_is4 (pc := 29) dX3_expireStore_29 rfl (by decide) ?_
      refine nf_aln (pc := 31) dX3_expireStore_31 rfl ?_
      refine nf_iln (pc := 32) dX3_expireStore_32 rfl ?_
      refine nf_cVi1 (pc := 33) (sp_X1_stores (by decide) hh) (nf_ok4 (by decide) hh) rfl rfl mk_X3_104 im_X1_stores se_X1_stores nm_X1_stores ⟨by decide, by decide⟩ (Nat.le_of_ble_eq_true rfl) dX3_expireStore_33 ?_
      refine nf_if_eqB (pc := 36) 66 dX3_expireStore_36 (by decide) (fun c_36 => ?_) (fun c_36 => ?_)
      · refine nf_iinc3 (pc := 66) (v := nI (k + 1)) dX3_expireStore_66 (nI_succ (k)).symm rfl (by decide) ?_
        refine nf_goto (pc := 69) 4 dX3_expireStore_69 (by decide) ?_
        exact nf_to (by simp only [cs_exp, cs_exp1, cf_num, c_36, if_true, if_false, reduceIte, Bool.false_eq_true] <;> rfl) (by simp only [cs_exp, cs_exp1, cf_num, c_36, if_true, if_false, reduceIte, Bool.false_eq_true] <;> rfl) (ih _ (k + 1) _ _ (by omega) hk)
      · obtain ⟨g, hg, eg⟩ := (hk.2.2.2.2 k (by omega)).2
        refine nf_il (pc := 39) dX3_expireStore_39 rfl ?_
        refine nf_aln (pc := 41) dX3_expireStore_41 rfl ?_
        refine gf_X3_expiry (by decide) (pc := 42) lk_X3_18 dX3_expireStore_42 ?_
        refine nf_aln (pc := 45) dX3_expireStore_45 rfl ?_
        refine gf_X3_articles (by decide) (pc := 46) lk_X3_32 dX3_expireStore_46 ?_
        refine gf_X0_group (by decide) (pc := 49) lk_X3_76 dX3_expireStore_49 ?_
        refine nf_iln (pc := 52) dX3_expireStore_52 rfl ?_
        refine nf_ialdI (pc := 53) (k := k) (nf_okA (by decide) (by decide)) (show _ < 30 by omega) dX3_expireStore_53 ?_
        refine nf_iald (pc := 54) (nf_okA (by decide) (by decide)) (by rw [eg]; exact nf_inI hg (by decide)) dX3_expireStore_54 ?_
        refine nf_ic_lt (pc := 55) 66 dX3_expireStore_55 (by decide) (fun c_55 => ?_) (fun c_55 => ?_)
        · refine nf_iinc3 (pc := 66) (v := nI (k + 1)) dX3_expireStore_66 (nI_succ (k)).symm rfl (by decide) ?_
          refine nf_goto (pc := 69) 4 dX3_expireStore_69 (by decide) ?_
          exact nf_to (by simp only [cs_exp, cs_exp1, cf_num, c_36, c_55, if_true, if_false, reduceIte, Bool.false_eq_true] <;> rfl) (by simp only [cs_exp, cs_exp1, cf_num, c_36, c_55, if_true, if_false, reduceIte, Bool.false_eq_true] <;> rfl) (ih _ (k + 1) _ _ (by omega) hk)
        · refine nf_aln (pc := 58) dX3_expireStore_58 rfl ?_
          refine nf_iln (pc := 59) dX3_expireStore_59 rfl ?_
          refine nf_cVv1 (pc := 60) (sp_X1_drop (by decide) hh) (nf_ok4 (by decide) hh) rfl rfl mk_X3_107 im_X1_drop se_X1_drop nm_X1_drop ⟨by decide, by decide⟩ (Nat.le_of_ble_eq_true rfl) dX3_expireStore_60 ?_
          refine nf_from (S' := cs_drop S h k) rfl ?_
          refine nf_iincP2 (pc := 63) dX3_expireStore_63 rfl (by decide) ?_
          refine nf_iinc3 (pc := 66) (v := nI (k + 1)) dX3_expireStore_66 (nI_succ (k)).symm rfl (by decide) ?_
          refine nf_goto (pc := 69) 4 dX3_expireStore_69 (by decide) ?_
          exact nf_to (by simp only [cs_exp, cs_exp1, cf_num, c_36, c_55, if_true, if_false, reduceIte, Bool.false_eq_true] <;> rfl) (by simp only [cs_exp, cs_exp1, cf_num, c_36, c_55, if_true, if_false, reduceIte, Bool.false_eq_true] <;> rfl) (ih _ (k + 1) _ _ (by omega) (hk.same (cs_same_drop S h k)))
set_option maxRecDepth 100000 in
set_option maxHeartbeats 4000000 in
theorem sp_X3_expireStore {L : nf_L} {S : nf_S} {h nl na : Nat} (hk : cs_ok S nl na) (hh : h < 6) : nf_Sp L 2 yX3_expireStore cX3_expireStore 5 (some .int) [.ref (L.2.2 (1, 0, 0, 0)), .ref (L.2.2 (4, 0, 0, h))] S (some (.int (cs_exp h na S 0 0).2)) (cs_exp h na S 0 0).1 := by
  refine nf_start (own := RX3) (ls0 := [some (.ref (L.2.2 (1, 0, 0, 0))), some (.ref (L.2.2 (4, 0, 0, h))), none, none, none]) (by decide) (Nat.le_of_ble_eq_true rfl) rfl rfl ?_
  refine nf_iconst (pc := 0) (v := 0) dX3_expireStore_0 (by decide) ?_
  refine nf_is2 (pc := 1) dX3_expireStore_1 rfl (by decide) ?_
  refine nf_iconst (pc := 2) (v := 0) dX3_expireStore_2 (by decide) ?_
  refine nf_is3 (pc := 3) dX3_expireStore_3 rfl (by decide) ?_
  exact lp_expireStore hh na S 0 0 none (by omega) hk
set_option maxRecDepth 100000 in
set_option maxHeartbeats 4000000 in
theorem lp_forgetOld {L : nf_L} {h nl na : Nat} (hh : h < 6) : ∀ (m : Nat) (S : nf_S) (k : Nat), (k + m = na) → (cs_ok S nl na) → nf_V L 1 cX3_forgetOld RX3 3 none none (cs_fgt h m S k) 2 [some (.ref (L.2.2 (1, 0, 0, 0))), some (.ref (L.2.2 (4, 0, 0, h))), some (.int (nI k))] [] S := by
  intro m
  induction m with
  | zero =>
    intro S k hkm hk
    have h31 := hk.2.1
    refine nf_iln (pc := 2) dX3_forgetOld_2 rfl ?_
    refine nf_aln (pc := 3) dX3_forgetOld_3 rfl ?_
    refine gf_X3_articles (by decide) (pc := 4) lk_X3_32 dX3_forgetOld_4 ?_
    refine gf_X0_count (by decide) (pc := 7) lk_X3_121 dX3_forgetOld_7 ?_
    refine nf_topI (y := nI (na)) hk.2.2.2.1 ?_
    refine nf_ic_ge (pc := 10) 52 dX3_forgetOld_10 (by decide) (fun c_10 => ?_) (fun c_10 => ?_)
    · exact (nf_vret (pc := 52) dX3_forgetOld_52)
    · exact absurd (nI_le (by omega) (by omega)) c_10
  | succ m ih =>
    intro S k hkm hk
    have h31 := hk.2.1
    refine nf_iln (pc := 2) dX3_forgetOld_2 rfl ?_
    refine nf_aln (pc := 3) dX3_forgetOld_3 rfl ?_
    refine gf_X3_articles (by decide) (pc := 4) lk_X3_32 dX3_forgetOld_4 ?_
    refine gf_X0_count (by decide) (pc := 7) lk_X3_121 dX3_forgetOld_7 ?_
    refine nf_topI (y := nI (na)) hk.2.2.2.1 ?_
    refine nf_ic_ge (pc := 10) 52 dX3_forgetOld_10 (by decide) (fun c_10 => ?_) (fun c_10 => ?_)
    · exact absurd c_10 (nI_ge (by omega) (by omega))
    · refine nf_aln (pc := 13) dX3_forgetOld_13 rfl ?_
      refine nf_iln (pc := 14) dX3_forgetOld_14 rfl ?_
      refine nf_cVi1 (pc := 15) (sp_kn hh (show _ < 30 by omega)) (nf_ok4 (by decide) hh) rfl rfl mk_X3_59 im_X1_knows se_X1_knows nm_X1_knows ⟨by decide, by decide⟩ (Nat.le_of_ble_eq_true rfl) dX3_forgetOld_15 ?_
      refine nf_if_eqB (pc := 18) 46 dX3_forgetOld_18 (by decide) (fun c_18 => ?_) (fun c_18 => ?_)
      · refine nf_iinc2 (pc := 46) (v := nI (k + 1)) dX3_forgetOld_46 (nI_succ (k)).symm rfl (by decide) ?_
        refine nf_goto (pc := 49) 2 dX3_forgetOld_49 (by decide) ?_
        exact nf_to rfl (by simp only [cs_fgt, cs_fgt1, c_18, if_true, if_false, reduceIte, Bool.false_eq_true] <;> rfl) (ih _ (k + 1) (by omega) hk)
      · refine nf_aln (pc := 21) dX3_forgetOld_21 rfl ?_
        refine gf_X3_today (by decide) (pc := 22) lk_X3_9 dX3_forgetOld_22 ?_
        refine nf_aln (pc := 25) dX3_forgetOld_25 rfl ?_
        refine gf_X1_historyDay (by decide) hh (pc := 26) lk_X3_66 dX3_forgetOld_26 ?_
        refine nf_iln (pc := 29) dX3_forgetOld_29 rfl ?_
        refine nf_ialdI (pc := 30) (k := k) (nf_ok12 (by decide) hh) (show _ < 30 by omega) dX3_forgetOld_30 ?_
        refine nf_isub (pc := 31) dX3_forgetOld_31 ?_
        refine nf_aln (pc := 32) dX3_forgetOld_32 rfl ?_
        refine gf_X3_historyLimit (by decide) (pc := 33) lk_X3_15 dX3_forgetOld_33 ?_
        refine nf_ic_lt (pc := 36) 46 dX3_forgetOld_36 (by decide) (fun c_36 => ?_) (fun c_36 => ?_)
        · refine nf_iinc2 (pc := 46) (v := nI (k + 1)) dX3_forgetOld_46 (nI_succ (k)).symm rfl (by decide) ?_
          refine nf_goto (pc := 49) 2 dX3_forgetOld_49 (by decide) ?_
          exact nf_to rfl (by simp only [cs_fgt, cs_fgt1, c_18, c_36, if_true, if_false, reduceIte, Bool.false_eq_true] <;> rfl) (ih _ (k + 1) (by omega) hk)
        · refine nf_aln (pc := 39) dX3_forgetOld_39 rfl ?_
          refine gf_X1_historyDay (by decide) hh (pc := 40) lk_X3_66 dX3_forgetOld_40 ?_
          refine nf_iln (pc := 43) dX3_forgetOld_43 rfl ?_
          refine nf_iconst (pc := 44) (v := (-1)) dX3_forgetOld_44 (by decide) ?_
          refine nf_iastI (pc := 45) (k := k) (nf_ok12 (by decide) hh) (show _ < 30 by omega) dX3_forgetOld_45 ?_
          refine nf_from (S' := cs_known S h k (-1)) rfl ?_
          refine nf_iinc2 (pc := 46) (v := nI (k + 1)) dX3_forgetOld_46 (nI_succ (k)).symm rfl (by decide) ?_
          refine nf_goto (pc := 49) 2 dX3_forgetOld_49 (by decide) ?_
          exact nf_to rfl (by simp only [cs_fgt, cs_fgt1, c_18, c_36, if_true, if_false, reduceIte, Bool.false_eq_true] <;> rfl) (ih _ (k + 1) (by omega) (hk.same (cs_same_known S h k (-1))))
set_option maxRecDepth 100000 in
set_option maxHeartbeats 4000000 in
theorem sp_X3_forgetOld {L : nf_L} {S : nf_S} {h nl na : Nat} (hk : cs_ok S nl na) (hh : h < 6) : nf_Sp L 1 yX3_forgetOld cX3_forgetOld 3 none [.ref (L.2.2 (1, 0, 0, 0)), .ref (L.2.2 (4, 0, 0, h))] S none (cs_fgt h na S 0) := by
  refine nf_start (own := RX3) (ls0 := [some (.ref (L.2.2 (1, 0, 0, 0))), some (.ref (L.2.2 (4, 0, 0, h))), none]) (by decide) (Nat.le_of_ble_eq_true rfl) rfl rfl ?_
  refine nf_iconst (pc := 0) (v := 0) dX3_forgetOld_0 (by decide) ?_
  refine nf_is2 (pc := 1) dX3_forgetOld_1 rfl (by decide) ?_
  exact lp_forgetOld hh na S 0 (by omega) hk
set_option maxRecDepth 100000 in
set_option maxHeartbeats 4000000 in
theorem lp_beginDay {L : nf_L} {nl na : Nat}  : ∀ (m : Nat) (S : nf_S) (k : Nat) (acc : Int32), (k + m = 6) → (cs_ok S nl na) → nf_V L 3 cX3_beginDay RX3 3 (some .int) (some (.int (cs_day na m S k acc).2)) (cs_day na m S k acc).1 14 [some (.ref (L.2.2 (1, 0, 0, 0))), some (.int acc), some (.int (nI k))] [] S := by
  intro m
  induction m with
  | zero =>
    intro S k acc hkm hk
    refine nf_iln (pc := 14) dX3_beginDay_14 rfl ?_
    refine nf_bipush (pc := 15) (v := 6) dX3_beginDay_15 (by decide) ?_
    refine nf_ic_ge (pc := 17) 49 dX3_beginDay_17 (by decide) (fun c_17 => ?_) (fun c_17 => ?_)
    · refine nf_iln (pc := 49) dX3_beginDay_49 rfl ?_
      exact (nf_iret (pc := 50) dX3_beginDay_50)
    · exact absurd (nI_le (a := 6) (by omega) (by omega)) c_17
  | succ m ih =>
    intro S k acc hkm hk
    refine nf_iln (pc := 14) dX3_beginDay_14 rfl ?_
    refine nf_bipush (pc := 15) (v := 6) dX3_beginDay_15 (by decide) ?_
    refine nf_ic_ge (pc := 17) 49 dX3_beginDay_17 (by decide) (fun c_17 => ?_) (fun c_17 => ?_)
    · exact absurd c_17 (nI_ge (b := 6) (by omega) (by omega))
    · refine nf_iln (pc := 20) dX3_beginDay_20 rfl ?_
      refine nf_aln (pc := 21) dX3_beginDay_21 rfl ?_
      refine nf_aln (pc := 22) dX3_beginDay_22 rfl ?_
      refine gf_X3_hosts (by decide) (pc := 23) lk_X3_38 dX3_beginDay_23 ?_
      refine nf_iln (pc := 26) dX3_beginDay_26 rfl ?_
      refine nf_haldI (pc := 27) (k := k) (by decide) (show _ < 6 by omega) dX3_beginDay_27 ?_
      refine nf_cVi1 (pc := 28) (sp_X3_expireStore hk (by omega)) ⟨(by decide), rfl⟩ rfl rfl mk_X3_151 im_X3_expireStore se_X3_expireStore nm_X3_expireStore ⟨by decide, by decide⟩ (Nat.le_of_ble_eq_true rfl) dX3_beginDay_28 ?_
      refine nf_iadd (pc := 31) dX3_beginDay_31 ?_
      refine nf_is1 (pc := 32) dX3_beginDay_32 rfl (by decide) ?_
      refine nf_aln (pc := 33) dX3_beginDay_33 rfl ?_
      refine nf_aln (pc := 34) dX3_beginDay_34 rfl ?_
      refine gf_X3_hosts (by decide) (pc := 35) lk_X3_38 dX3_beginDay_35 ?_
      refine nf_iln (pc := 38) dX3_beginDay_38 rfl ?_
      refine nf_haldI (pc := 39) (k := k) (by decide) (show _ < 6 by omega) dX3_beginDay_39 ?_
      refine nf_cVv1 (pc := 40) (sp_X3_forgetOld (hk.same (cs_same_exp k na S 0 0)) (by omega)) ⟨(by decide), rfl⟩ rfl rfl mk_X3_155 im_X3_forgetOld se_X3_forgetOld nm_X3_forgetOld ⟨by decide, by decide⟩ (Nat.le_of_ble_eq_true rfl) dX3_beginDay_40 ?_
      refine nf_iinc2 (pc := 43) (v := nI (k + 1)) dX3_beginDay_43 (nI_succ (k)).symm rfl (by decide) ?_
      refine nf_goto (pc := 46) 14 dX3_beginDay_46 (by decide) ?_
      exact ih _ (k + 1) _ (by omega) ((hk.same (cs_same_exp k na S 0 0)).same (cs_same_fgt k na _ 0))
set_option maxRecDepth 100000 in
set_option maxHeartbeats 4000000 in
theorem sp_X3_beginDay {L : nf_L} {S : nf_S} {nl na : Nat} (hk : cs_ok S nl na) : nf_Sp L 3 yX3_beginDay cX3_beginDay 3 (some .int) [.ref (L.2.2 (1, 0, 0, 0))] S (some (.int (cs_day na 6 (nf_sI S 0 0 0 (nf_I S 0 0 0 + 1)) 0 0).2)) (cs_day na 6 (nf_sI S 0 0 0 (nf_I S 0 0 0 + 1)) 0 0).1 := by
  refine nf_start (own := RX3) (ls0 := [some (.ref (L.2.2 (1, 0, 0, 0))), none, none]) (by decide) (Nat.le_of_ble_eq_true rfl) rfl rfl ?_
  refine nf_aln (pc := 0) dX3_beginDay_0 rfl ?_
  refine nf_dup (pc := 1) dX3_beginDay_1 rfl ?_
  refine gf_X3_today (by decide) (pc := 2) lk_X3_9 dX3_beginDay_2 ?_
  refine nf_iconst (pc := 5) (v := 1) dX3_beginDay_5 (by decide) ?_
  refine nf_iadd (pc := 6) dX3_beginDay_6 ?_
  refine pf_X3_today (by decide) (pc := 7) lk_X3_9 dX3_beginDay_7 ?_
  refine nf_iconst (pc := 10) (v := 0) dX3_beginDay_10 (by decide) ?_
  refine nf_is1 (pc := 11) dX3_beginDay_11 rfl (by decide) ?_
  refine nf_iconst (pc := 12) (v := 0) dX3_beginDay_12 (by decide) ?_
  refine nf_is2 (pc := 13) dX3_beginDay_13 rfl (by decide) ?_
  exact lp_beginDay 6 _ 0 0 (by omega) (cs_ok_today hk)
set_option maxRecDepth 100000 in
set_option maxHeartbeats 4000000 in
theorem sp_X4_copyFrom {L : nf_L} {S : nf_S} {n1 n2 : Nat} (hn1 : n1 < 6) (hn2 : n2 < 6) : nf_Sp L 1 yX4_copyFrom cX4_copyFrom 2 none [.ref (L.2.2 (5, n1, 0, 0)), .ref (L.2.2 (5, n2, 0, 0))] S none (cs_cpq S n1 n2) := by
  refine nf_start (own := RX4) (ls0 := [some (.ref (L.2.2 (5, n1, 0, 0))), some (.ref (L.2.2 (5, n2, 0, 0)))]) (by decide) (Nat.le_of_ble_eq_true rfl) rfl rfl ?_
  refine nf_aln (pc := 0) dX4_copyFrom_0 rfl ?_
  refine gf_X4_receivers hn2 (pc := 1) lk_X4_9 dX4_copyFrom_1 ?_
  refine nf_iconst (pc := 4) (v := 0) dX4_copyFrom_4 (by decide) ?_
  refine nf_aln (pc := 5) dX4_copyFrom_5 rfl ?_
  refine gf_X4_receivers hn1 (pc := 6) lk_X4_9 dX4_copyFrom_6 ?_
  refine nf_iconst (pc := 9) (v := 0) dX4_copyFrom_9 (by decide) ?_
  refine nf_aln (pc := 10) dX4_copyFrom_10 rfl ?_
  refine gf_X4_receivers hn1 (pc := 11) lk_X4_9 dX4_copyFrom_11 ?_
  refine nf_alen (pc := 14) (v := nI 180) (nf_okQ10 hn1) rfl dX4_copyFrom_14 ?_
  refine nf_copy (pc := 15) (nf_okQ10 hn2) (nf_okQ10 hn1) (by decide) (by decide) ac_X4_34 ac_native ac_static ini_J10 (by decide) (Nat.le_of_ble_eq_true rfl) dX4_copyFrom_15 ?_
  refine nf_aln (pc := 18) dX4_copyFrom_18 rfl ?_
  refine gf_X4_path hn2 (pc := 19) lk_X4_15 dX4_copyFrom_19 ?_
  refine nf_iconst (pc := 22) (v := 0) dX4_copyFrom_22 (by decide) ?_
  refine nf_aln (pc := 23) dX4_copyFrom_23 rfl ?_
  refine gf_X4_path hn1 (pc := 24) lk_X4_15 dX4_copyFrom_24 ?_
  refine nf_iconst (pc := 27) (v := 0) dX4_copyFrom_27 (by decide) ?_
  refine nf_aln (pc := 28) dX4_copyFrom_28 rfl ?_
  refine gf_X4_path hn1 (pc := 29) lk_X4_15 dX4_copyFrom_29 ?_
  refine nf_alen (pc := 32) (v := nI 180) (nf_okQ11 hn1) rfl dX4_copyFrom_32 ?_
  refine nf_copy (pc := 33) (nf_okQ11 hn2) (nf_okQ11 hn1) (by decide) (by decide) ac_X4_34 ac_native ac_static ini_J10 (by decide) (Nat.le_of_ble_eq_true rfl) dX4_copyFrom_33 ?_
  exact nf_to rfl (by simp [cs_cpq, nf_A_sA]) (nf_vret (pc := 36) dX4_copyFrom_36)
set_option maxRecDepth 100000 in
set_option maxHeartbeats 4000000 in
theorem lp_rcv {L : nf_L} {r : Option Value} {S2 : nf_S} {a s nl na : Nat} (ha : a < na) (hs : s < 6) : ∀ (m : Nat) (S : nf_S) (acc : Int32) (t : Nat), (t + m = 6) → (cs_ok S nl na) → (nf_V L 5 cX3_performRound RX3 7 (some .int) r S2 101 [some (.ref (L.2.2 (1, 0, 0, 0))), some (.ref (L.2.2 (5, 5, 0, 0))), some (.int (cs_rcv a s m S acc t).2), some (.int (nI a)), some (.int (nI s)), some (.int (nI (a * 6 + s))), some (.int (nI 6))] [] (cs_rcv a s m S acc t).1) → nf_V L 5 cX3_performRound RX3 7 (some .int) r S2 51 [some (.ref (L.2.2 (1, 0, 0, 0))), some (.ref (L.2.2 (5, 5, 0, 0))), some (.int acc), some (.int (nI a)), some (.int (nI s)), some (.int (nI (a * 6 + s))), some (.int (nI t))] [] S := by
  intro m
  induction m with
  | zero =>
    intro S acc t htm hk hK
    have h31 := hk.2.1
    refine nf_il (pc := 51) dX3_performRound_51 rfl ?_
    refine nf_bipush (pc := 53) (v := 6) dX3_performRound_53 (by decide) ?_
    refine nf_ic_ge (pc := 55) 101 dX3_performRound_55 (by decide) (fun c_55 => ?_) (fun c_55 => ?_)
    · rw [show t = 6 by omega]
      exact hK
    · exact absurd (nI_le (a := 6) (by omega) (by omega)) c_55
  | succ m ih =>
    intro S acc t htm hk hK
    have h31 := hk.2.1
    refine nf_il (pc := 51) dX3_performRound_51 rfl ?_
    refine nf_bipush (pc := 53) (v := 6) dX3_performRound_53 (by decide) ?_
    refine nf_ic_ge (pc := 55) 101 dX3_performRound_55 (by decide) (fun c_55 => ?_) (fun c_55 => ?_)
    · exact absurd c_55 (nI_ge (b := 6) (by omega) (by omega))
    · refine nf_aln (pc := 58) dX3_performRound_58 rfl ?_
      refine gf_X4_receivers (by decide) (pc := 59) lk_X3_128 dX3_performRound_59 ?_
      refine nf_il (pc := 62) dX3_performRound_62 rfl ?_
      refine nf_ialdI (pc := 64) (k := (a * 6 + s)) nf_okT10 (show _ < 180 by omega) dX3_performRound_64 ?_
      refine nf_il (pc := 65) dX3_performRound_65 rfl ?_
      refine nf_cNi2 (pc := 67) sp_X5_has mn_X3_131 st_X5_has nm_X5_has ⟨by decide, by decide⟩ (Nat.le_of_ble_eq_true rfl) dX3_performRound_67 ?_
      refine nf_if_eqB (pc := 70) 95 dX3_performRound_70 (by decide) (fun c_70 => ?_) (fun c_70 => ?_)
      · refine nf_iinc6 (pc := 95) (v := nI (t + 1)) dX3_performRound_95 (nI_succ (t)).symm rfl (by decide) ?_
        refine nf_goto (pc := 98) 51 dX3_performRound_98 (by decide) ?_
        exact ih _ _ (t + 1) (by omega) hk (by simpa only [cs_rcv, cs_stp, c_70, if_true, if_false, reduceIte, Bool.false_eq_true] using hK)
      · refine nf_aln (pc := 73) dX3_performRound_73 rfl ?_
        refine nf_iln (pc := 74) dX3_performRound_74 rfl ?_
        refine nf_il (pc := 75) dX3_performRound_75 rfl ?_
        refine nf_il (pc := 77) dX3_performRound_77 rfl ?_
        refine nf_aln (pc := 79) dX3_performRound_79 rfl ?_
        refine gf_X4_path (by decide) (pc := 80) lk_X3_134 dX3_performRound_80 ?_
        refine nf_il (pc := 83) dX3_performRound_83 rfl ?_
        refine nf_ialdI (pc := 85) (k := (a * 6 + s)) nf_okT11 (show _ < 180 by omega) dX3_performRound_85 ?_
        refine nf_cVi4 (pc := 86) (sp_X3_sendTo hk (by omega) ha) ⟨(by decide), rfl⟩ rfl rfl mk_X3_137 im_X3_sendTo se_X3_sendTo nm_X3_sendTo ⟨by decide, by decide⟩ (Nat.le_of_ble_eq_true rfl) dX3_performRound_86 ?_
        refine nf_if_eqB (pc := 89) 95 dX3_performRound_89 (by decide) (fun c_89 => ?_) (fun c_89 => ?_)
        · refine nf_iinc6 (pc := 95) (v := nI (t + 1)) dX3_performRound_95 (nI_succ (t)).symm rfl (by decide) ?_
          refine nf_goto (pc := 98) 51 dX3_performRound_98 (by decide) ?_
          exact ih _ _ (t + 1) (by omega) (hk.same (cs_same_send S a s t _)) (by simpa only [cs_rcv, cs_stp, c_70, c_89, if_true, if_false, reduceIte, Bool.false_eq_true] using hK)
        · refine nf_iincP2 (pc := 92) dX3_performRound_92 rfl (by decide) ?_
          refine nf_iinc6 (pc := 95) (v := nI (t + 1)) dX3_performRound_95 (nI_succ (t)).symm rfl (by decide) ?_
          refine nf_goto (pc := 98) 51 dX3_performRound_98 (by decide) ?_
          exact ih _ _ (t + 1) (by omega) (hk.same (cs_same_send S a s t _)) (by simpa only [cs_rcv, cs_stp, c_70, c_89, if_true, if_false, reduceIte, Bool.false_eq_true] using hK)
set_option maxRecDepth 100000 in
set_option maxHeartbeats 4000000 in
theorem lp_snd {L : nf_L} {r : Option Value} {S2 : nf_S} {a nl na : Nat} (ha : a < na) : ∀ (m : Nat) (S : nf_S) (acc : Int32) (s : Nat) (o5 o6 : Option Value), (s + m = 6) → (cs_ok S nl na) → (∀ o5 o6 : Option Value, nf_V L 5 cX3_performRound RX3 7 (some .int) r S2 107 [some (.ref (L.2.2 (1, 0, 0, 0))), some (.ref (L.2.2 (5, 5, 0, 0))), some (.int (cs_snd a m S acc s).2), some (.int (nI a)), some (.int (nI 6)), o5, o6] [] (cs_snd a m S acc s).1) → nf_V L 5 cX3_performRound RX3 7 (some .int) r S2 33 [some (.ref (L.2.2 (1, 0, 0, 0))), some (.ref (L.2.2 (5, 5, 0, 0))), some (.int acc), some (.int (nI a)), some (.int (nI s)), o5, o6] [] S := by
  intro m
  induction m with
  | zero =>
    intro S acc s o5 o6 hsm hk hK
    refine nf_il (pc := 33) dX3_performRound_33 rfl ?_
    refine nf_bipush (pc := 35) (v := 6) dX3_performRound_35 (by decide) ?_
    refine nf_ic_ge (pc := 37) 107 dX3_performRound_37 (by decide) (fun c_37 => ?_) (fun c_37 => ?_)
    · rw [show s = 6 by omega]
      exact hK _ _
    · exact absurd (nI_le (a := 6) (by omega) (by omega)) c_37
  | succ m ih =>
    intro S acc s o5 o6 hsm hk hK
    refine nf_il (pc := 33) dX3_performRound_33 rfl ?_
    refine nf_bipush (pc := 35) (v := 6) dX3_performRound_35 (by decide) ?_
    refine nf_ic_ge (pc := 37) 107 dX3_performRound_37 (by decide) (fun c_37 => ?_) (fun c_37 => ?_)
    · exact absurd c_37 (nI_ge (b := 6) (by omega) (by omega))
    · refine nf_iln (pc := 40) dX3_performRound_40 rfl ?_
      refine nf_il (pc := 41) dX3_performRound_41 rfl ?_
      refine nf_cSi2 (pc := 43) sp_X4_slot mk_X3_124 st_X4_slot nm_X4_slot ⟨by decide, by decide⟩ (Nat.le_of_ble_eq_true rfl) dX3_performRound_43 ?_
      refine nf_is5 (pc := 46) dX3_performRound_46 rfl (by decide) ?_
      refine nf_iconst (pc := 48) (v := 0) dX3_performRound_48 (by decide) ?_
      refine nf_is6 (pc := 49) dX3_performRound_49 rfl (by decide) ?_
      refine lp_rcv ha (by omega) 6 S acc 0 (by omega) hk ?_
      refine nf_iinc4 (pc := 101) (v := nI (s + 1)) dX3_performRound_101 (nI_succ (s)).symm rfl (by decide) ?_
      refine nf_goto (pc := 104) 33 dX3_performRound_104 (by decide) ?_
      exact ih _ _ (s + 1) _ _ (by omega) (hk.same (cs_same_rcv a s 6 S acc 0)) hK
set_option maxRecDepth 100000 in
set_option maxHeartbeats 4000000 in
theorem lp_art {L : nf_L} {nl na : Nat}  : ∀ (m : Nat) (S : nf_S) (acc : Int32) (k : Nat) (o4 o5 o6 : Option Value), (k + m = na) → (cs_ok S nl na) → nf_V L 5 cX3_performRound RX3 7 (some .int) (some (.int (cs_art m S acc k).2)) (cs_art m S acc k).1 19 [some (.ref (L.2.2 (1, 0, 0, 0))), some (.ref (L.2.2 (5, 5, 0, 0))), some (.int acc), some (.int (nI k)), o4, o5, o6] [] S := by
  intro m
  induction m with
  | zero =>
    intro S acc k o4 o5 o6 hkm hk
    have h31 := hk.2.1
    refine nf_iln (pc := 19) dX3_performRound_19 rfl ?_
    refine nf_aln (pc := 20) dX3_performRound_20 rfl ?_
    refine gf_X3_articles (by decide) (pc := 21) lk_X3_32 dX3_performRound_21 ?_
    refine gf_X0_count (by decide) (pc := 24) lk_X3_121 dX3_performRound_24 ?_
    refine nf_topI (y := nI (na)) hk.2.2.2.1 ?_
    refine nf_ic_ge (pc := 27) 113 dX3_performRound_27 (by decide) (fun c_27 => ?_) (fun c_27 => ?_)
    · refine nf_iln (pc := 113) dX3_performRound_113 rfl ?_
      exact (nf_iret (pc := 114) dX3_performRound_114)
    · exact absurd (nI_le (by omega) (by omega)) c_27
  | succ m ih =>
    intro S acc k o4 o5 o6 hkm hk
    have h31 := hk.2.1
    refine nf_iln (pc := 19) dX3_performRound_19 rfl ?_
    refine nf_aln (pc := 20) dX3_performRound_20 rfl ?_
    refine gf_X3_articles (by decide) (pc := 21) lk_X3_32 dX3_performRound_21 ?_
    refine gf_X0_count (by decide) (pc := 24) lk_X3_121 dX3_performRound_24 ?_
    refine nf_topI (y := nI (na)) hk.2.2.2.1 ?_
    refine nf_ic_ge (pc := 27) 113 dX3_performRound_27 (by decide) (fun c_27 => ?_) (fun c_27 => ?_)
    · exact absurd c_27 (nI_ge (by omega) (by omega))
    · refine nf_iconst (pc := 30) (v := 0) dX3_performRound_30 (by decide) ?_
      refine nf_is4 (pc := 31) dX3_performRound_31 rfl (by decide) ?_
      refine lp_snd (a := k) (by omega) 6 S acc 0 _ _ (by omega) hk (fun o5 o6 => ?_)
      refine nf_iinc3 (pc := 107) (v := nI (k + 1)) dX3_performRound_107 (nI_succ (k)).symm rfl (by decide) ?_
      refine nf_goto (pc := 110) 19 dX3_performRound_110 (by decide) ?_
      exact ih _ _ (k + 1) _ _ _ (by omega) (hk.same (cs_same_snd k 6 S acc 0))
set_option maxRecDepth 100000 in
set_option maxHeartbeats 4000000 in
theorem sp_X3_performRound {L : nf_L} {S : nf_S} {nl na : Nat} (hk : cs_ok S nl na) : nf_Sp L 5 yX3_performRound cX3_performRound 7 (some .int) [.ref (L.2.2 (1, 0, 0, 0)), .ref (L.2.2 (5, 5, 0, 0))] S (some (.int (cs_rnd S na).2)) (cs_rnd S na).1 := by
  refine nf_start (own := RX3) (ls0 := [some (.ref (L.2.2 (1, 0, 0, 0))), some (.ref (L.2.2 (5, 5, 0, 0))), none, none, none, none, none]) (by decide) (Nat.le_of_ble_eq_true rfl) rfl rfl ?_
  refine nf_aln (pc := 0) dX3_performRound_0 rfl ?_
  refine nf_aln (pc := 1) dX3_performRound_1 rfl ?_
  refine gf_X3_queue (by decide) (pc := 2) lk_X3_45 dX3_performRound_2 ?_
  refine nf_cVv1 (pc := 5) (sp_X4_copyFrom (n1 := 5) (n2 := 0) (by decide) (by decide)) ⟨(by decide), rfl⟩ rfl rfl mk_X3_114 im_X4_copyFrom se_X4_copyFrom nm_X4_copyFrom ⟨by decide, by decide⟩ (Nat.le_of_ble_eq_true rfl) dX3_performRound_5 ?_
  refine nf_aln (pc := 8) dX3_performRound_8 rfl ?_
  refine gf_X3_queue (by decide) (pc := 9) lk_X3_45 dX3_performRound_9 ?_
  refine nf_cVv0 (pc := 12) (sp_X4_makeEmpty (by decide)) ⟨(by decide), rfl⟩ rfl rfl mk_X3_118 im_X4_makeEmpty se_X4_makeEmpty nm_X4_makeEmpty ⟨by decide, by decide⟩ (Nat.le_of_ble_eq_true rfl) dX3_performRound_12 ?_
  refine nf_iconst (pc := 15) (v := 0) dX3_performRound_15 (by decide) ?_
  refine nf_is2 (pc := 16) dX3_performRound_16 rfl (by decide) ?_
  refine nf_iconst (pc := 17) (v := 0) dX3_performRound_17 (by decide) ?_
  refine nf_is3 (pc := 18) dX3_performRound_18 rfl (by decide) ?_
  exact lp_art na _ 0 0 none none none (by omega) (cs_ok_cpq hk)
