/-! Integer.bitCount, Arrays.fill, Links, Queue, Host: loops -/
def cf_sh (x : Int32) (k : Int32) : Int32 := (x.toUInt32 >>> (k.toUInt32 &&& Int32.toUInt32 31)).toInt32
def cf_b1 (x : Int32) : Int32 := x - (cf_sh x 1 &&& 1431655765)
def cf_b2 (x : Int32) : Int32 := (x &&& 858993459) + (cf_sh x 2 &&& 858993459)
def cf_b3 (x : Int32) : Int32 := (x + cf_sh x 4) &&& 252645135
def cf_b4 (x : Int32) : Int32 := x + cf_sh x 8
def cf_b5 (x : Int32) : Int32 := x + cf_sh x 16
def cf_bits (x : Int32) : Int32 := cf_b5 (cf_b4 (cf_b3 (cf_b2 (cf_b1 x)))) &&& 63
def cf_btw (F G : Nat → Int32) (a b : Int32) (k : Nat) : Nat → Int32
  | 0 => -1
  | m + 1 => if (F k = a ∧ G k = b) ∨ (F k = b ∧ G k = a) then nI k else cf_btw F G a b (k + 1) m
def cf_nb (F G : Nat → Int32) (s : Int32) (k : Nat) : Nat → Int32 → Int32
  | 0, acc => acc
  | m + 1, acc => cf_nb F G s (k + 1) m ((if cf_has s (G k) then (if cf_has s (F k) then acc ||| ((1 : Int32) <<< (G k &&& 31)) else acc) ||| ((1 : Int32) <<< (F k &&& 31)) else (if cf_has s (F k) then acc ||| ((1 : Int32) <<< (G k &&& 31)) else acc)))
def cf_sum (f : Nat → Int32) (k : Nat) : Nat → Int32 → Int32
  | 0, acc => acc
  | m + 1, acc => cf_sum f (k + 1) m (acc + cf_bits (f k))
def cf_shift (f : Nat → Int32) (a b : Nat) : Nat → Int32 := fun j => if a ≤ j ∧ j < b then f (j + 1) else f j
theorem cf_shift_self (f : Nat → Int32) (a : Nat) : cf_shift f a a = f := by
  funext j; simp only [cf_shift]; rw [if_neg (by omega)]
theorem cf_shift_step (f : Nat → Int32) (a k : Nat) (h : a ≤ k) : upd (cf_shift f a k) k (cf_shift f a k (k + 1)) = cf_shift f a (k + 1) := by
  funext j
  simp only [upd, cf_shift]
  by_cases hj : j = k
  · subst hj
    rw [if_pos rfl, if_neg (by omega), if_pos (by omega)]
  · rw [if_neg hj]
    by_cases h2 : a ≤ j ∧ j < k
    · rw [if_pos h2, if_pos (by omega)]
    · rw [if_neg h2, if_neg (by omega)]
def cf_fill (f : Nat → Int32) (v : Int32) (k : Nat) : Nat → Int32 := fun j => if j < k then v else f j
theorem cf_fill_step (f : Nat → Int32) (v : Int32) (k : Nat) : upd (cf_fill f v k) k v = cf_fill f v (k + 1) := by
  funext j
  simp only [upd, cf_fill]
  by_cases hj : j = k
  · subst hj; simp
  · rw [if_neg hj]
    by_cases h2 : j < k
    · rw [if_pos h2, if_pos (by omega)]
    · rw [if_neg h2, if_neg (by omega)]
theorem cf_fill_0 (f : Nat → Int32) (v : Int32) : cf_fill f v 0 = f := by funext j; simp [cf_fill]
theorem nf_sA_sA (S : nf_S) (n c h : Nat) (f g : Nat → Int32) : nf_sA (nf_sA S n c h f) n c h g = nf_sA S n c h g := by
  unfold nf_sA
  refine Prod.ext rfl (Prod.ext ?_ rfl)
  funext a b e
  by_cases hq : a = n ∧ b = c ∧ e = h
  · simp [hq]
  · simp only [if_neg hq]
theorem nf_sA_self (S : nf_S) (n c h : Nat) : nf_sA S n c h (nf_A S n c h) = S := by
  unfold nf_sA
  refine Prod.ext rfl (Prod.ext ?_ rfl)
  funext a b e
  by_cases hq : a = n ∧ b = c ∧ e = h
  · obtain ⟨rfl, rfl, rfl⟩ := hq; simp [nf_A]
  · simp only [if_neg hq]
theorem nf_sO_sO (S : nf_S) (x : Nat) (f g : Nat → Int32) : nf_sO (nf_sO S x f) x g = nf_sO S x g := by
  unfold nf_sO
  refine Prod.ext rfl (Prod.ext rfl (Prod.ext ?_ rfl))
  funext a
  by_cases hq : a = x
  · simp [hq]
  · simp only [if_neg hq]
theorem nf_sO_self (S : nf_S) (x : Nat) : nf_sO S x (nf_O S x) = S := by
  unfold nf_sO
  refine Prod.ext rfl (Prod.ext rfl (Prod.ext ?_ rfl))
  funext a
  by_cases hq : a = x
  · subst hq; simp [nf_O]
  · simp only [if_neg hq]
theorem cf_below_I {a b : Nat} (ha : a < 2 ^ 31) (hb : b < 2 ^ 31) : cf_below (nI a) (nI b) = decide (a < b) := by
  simp only [cf_below, decide_eq_false (nI_pos ha), Bool.not_false, Bool.true_and]
  by_cases h : a < b
  · rw [decide_eq_false (nI_ge h hb)]; simp [h]
  · rw [decide_eq_true (nI_le (by omega) ha)]; simp [h]
/-- the links behind the place a moved down, up to k; the count is cnt -/
def cs_del (S : nf_S) (n cnt a k : Nat) : nf_S := nf_sA (nf_sA (nf_sA (nf_sI S n 2 0 (nI cnt)) n 2 0 (cf_shift (nf_A S n 2 0) a k)) n 3 0 (cf_shift (nf_A S n 3 0) a k)) n 4 0 (cf_shift (nf_A S n 4 0) a k)
theorem cs_del_n {S : nf_S} {n cnt a k : Nat} : nf_I (cs_del S n cnt a k) n 2 0 = nI cnt := by simp [cs_del, nf_I_sA, nf_I_sI]

theorem cs_del_0 (S : nf_S) (n cnt a : Nat) : cs_del S n cnt a a = nf_sI S n 2 0 (nI cnt) := by
  refine nf_ext (fun n' c' h' => ?_) (fun n' c' h' => ?_) (fun x => rfl) (fun j => rfl) rfl
  · rfl
  · simp only [cs_del, nf_A_sA, nf_A_sI, cf_shift_self]
    repeat' split
    all_goals simp_all
theorem cs_del_A (S : nf_S) (n cnt a k c' : Nat) : nf_A (cs_del S n cnt a k) n c' 0 = if c' = 4 then cf_shift (nf_A S n 4 0) a k else if c' = 3 then cf_shift (nf_A S n 3 0) a k else if c' = 2 then cf_shift (nf_A S n 2 0) a k else nf_A S n c' 0 := by
  simp only [cs_del, nf_A_sA, nf_A_sI, true_and, and_true]
theorem cs_del_step (S : nf_S) (n cnt a k : Nat) (h : a ≤ k) : nf_sA (nf_sA (nf_sA (cs_del S n cnt a k) n 2 0 (upd (cf_shift (nf_A S n 2 0) a k) k (cf_shift (nf_A S n 2 0) a k (k + 1)))) n 3 0 (upd (cf_shift (nf_A S n 3 0) a k) k (cf_shift (nf_A S n 3 0) a k (k + 1)))) n 4 0 (upd (cf_shift (nf_A S n 4 0) a k) k (cf_shift (nf_A S n 4 0) a k (k + 1))) = cs_del S n cnt a (k + 1) := by
  simp only [cf_shift_step _ _ _ h]
  refine nf_ext (fun n' c' h' => rfl) (fun n' c' h' => ?_) (fun x => rfl) (fun j => rfl) rfl
  simp only [cs_del, nf_A_sA, nf_A_sI]
  repeat' split
  all_goals simp_all

set_option maxRecDepth 100000 in
set_option maxHeartbeats 4000000 in
theorem sp_J6_bitCount_0f7a4 {L : nf_L} {S : nf_S} {x : Int32}  : nf_Sp L 0 yJ6_bitCount_0f7a4 cJ6_bitCount_0f7a4 1 (some .int) [.int x] S (some (.int (cf_bits x))) S := by
  refine nf_start (own := RJ6) (ls0 := [some (.int x)]) (by decide) (Nat.le_of_ble_eq_true rfl) rfl rfl ?_
  refine nf_iln (pc := 0) dJ6_bitCount_0f7a4_0 rfl ?_
  refine nf_iln (pc := 1) dJ6_bitCount_0f7a4_1 rfl ?_
  refine nf_iconst (pc := 2) (v := 1) dJ6_bitCount_0f7a4_2 (by decide) ?_
  refine nf_iushr (pc := 3) dJ6_bitCount_0f7a4_3 rfl ?_
  refine nf_ldcw (pc := 4) dJ6_bitCount_0f7a4_4 kc_J6_265 ?_
  refine nf_iand (pc := 7) dJ6_bitCount_0f7a4_7 ?_
  refine nf_isub (pc := 8) dJ6_bitCount_0f7a4_8 ?_
  refine nf_is0 (pc := 9) dJ6_bitCount_0f7a4_9 (by decide) ?_
  refine nf_iln (pc := 10) dJ6_bitCount_0f7a4_10 rfl ?_
  refine nf_ldcw (pc := 11) dJ6_bitCount_0f7a4_11 kc_J6_266 ?_
  refine nf_iand (pc := 14) dJ6_bitCount_0f7a4_14 ?_
  refine nf_iln (pc := 15) dJ6_bitCount_0f7a4_15 rfl ?_
  refine nf_iconst (pc := 16) (v := 2) dJ6_bitCount_0f7a4_16 (by decide) ?_
  refine nf_iushr (pc := 17) dJ6_bitCount_0f7a4_17 rfl ?_
  refine nf_ldcw (pc := 18) dJ6_bitCount_0f7a4_18 kc_J6_266 ?_
  refine nf_iand (pc := 21) dJ6_bitCount_0f7a4_21 ?_
  refine nf_iadd (pc := 22) dJ6_bitCount_0f7a4_22 ?_
  refine nf_is0 (pc := 23) dJ6_bitCount_0f7a4_23 (by decide) ?_
  refine nf_iln (pc := 24) dJ6_bitCount_0f7a4_24 rfl ?_
  refine nf_iln (pc := 25) dJ6_bitCount_0f7a4_25 rfl ?_
  refine nf_iconst (pc := 26) (v := 4) dJ6_bitCount_0f7a4_26 (by decide) ?_
  refine nf_iushr (pc := 27) dJ6_bitCount_0f7a4_27 rfl ?_
  refine nf_iadd (pc := 28) dJ6_bitCount_0f7a4_28 ?_
  refine nf_ldcw (pc := 29) dJ6_bitCount_0f7a4_29 kc_J6_267 ?_
  refine nf_iand (pc := 32) dJ6_bitCount_0f7a4_32 ?_
  refine nf_is0 (pc := 33) dJ6_bitCount_0f7a4_33 (by decide) ?_
  refine nf_iln (pc := 34) dJ6_bitCount_0f7a4_34 rfl ?_
  refine nf_iln (pc := 35) dJ6_bitCount_0f7a4_35 rfl ?_
  refine nf_bipush (pc := 36) (v := 8) dJ6_bitCount_0f7a4_36 (by decide) ?_
  refine nf_iushr (pc := 38) dJ6_bitCount_0f7a4_38 rfl ?_
  refine nf_iadd (pc := 39) dJ6_bitCount_0f7a4_39 ?_
  refine nf_is0 (pc := 40) dJ6_bitCount_0f7a4_40 (by decide) ?_
  refine nf_iln (pc := 41) dJ6_bitCount_0f7a4_41 rfl ?_
  refine nf_iln (pc := 42) dJ6_bitCount_0f7a4_42 rfl ?_
  refine nf_bipush (pc := 43) (v := 16) dJ6_bitCount_0f7a4_43 (by decide) ?_
  refine nf_iushr (pc := 45) dJ6_bitCount_0f7a4_45 rfl ?_
  refine nf_iadd (pc := 46) dJ6_bitCount_0f7a4_46 ?_
  refine nf_is0 (pc := 47) dJ6_bitCount_0f7a4_47 (by decide) ?_
  refine nf_iln (pc := 48) dJ6_bitCount_0f7a4_48 rfl ?_
  refine nf_bipush (pc := 49) (v := 63) dJ6_bitCount_0f7a4_49 (by decide) ?_
  refine nf_iand (pc := 51) dJ6_bitCount_0f7a4_51 ?_
  exact nf_iret (pc := 52) dJ6_bitCount_0f7a4_52
set_option maxRecDepth 100000 in
set_option maxHeartbeats 4000000 in
theorem lp_fill {L : nf_L} {S0 : nf_S} {n c h : Nat} {v : Int32} (hq : nf_ok (9, n, c, h)) : ∀ (m : Nat) (k : Nat), (k + m = nf_len c) → nf_V L 0 cJ7_fill_53178 RJ7 4 none none (nf_sA S0 n c h (cf_fill (nf_A S0 n c h) v (nf_len c))) 5 [some (.ref (L.2.2 (9, n, c, h))), some (.int v), some (.int (nI k)), some (.int (nI (nf_len c)))] [] (nf_sA S0 n c h (cf_fill (nf_A S0 n c h) v k)) := by
  intro m
  induction m with
  | zero =>
    intro k hk
    have hz := nf_len_lt c
    refine nf_iln (pc := 5) dJ7_fill_53178_5 rfl ?_
    refine nf_iln (pc := 6) dJ7_fill_53178_6 rfl ?_
    refine nf_ic_ge (pc := 7) 20 dJ7_fill_53178_7 (by decide) (fun c_7 => ?_) (fun c_7 => ?_)
    · exact nf_to rfl (by rw [show nf_len c = k by omega]) (nf_vret (pc := 20) dJ7_fill_53178_20)
    · exact absurd (nI_le (by omega) (by omega)) c_7
  | succ m ih =>
    intro k hk
    have hz := nf_len_lt c
    refine nf_iln (pc := 5) dJ7_fill_53178_5 rfl ?_
    refine nf_iln (pc := 6) dJ7_fill_53178_6 rfl ?_
    refine nf_ic_ge (pc := 7) 20 dJ7_fill_53178_7 (by decide) (fun c_7 => ?_) (fun c_7 => ?_)
    · exact absurd c_7 (nI_ge (by omega) (by omega))
    · refine nf_aln (pc := 10) dJ7_fill_53178_10 rfl ?_
      refine nf_iln (pc := 11) dJ7_fill_53178_11 rfl ?_
      refine nf_iln (pc := 12) dJ7_fill_53178_12 rfl ?_
      refine nf_iastI (pc := 13) (k := k) hq (by omega) dJ7_fill_53178_13 ?_
      refine nf_iinc2 (pc := 14) (v := nI (k + 1)) dJ7_fill_53178_14 (nI_succ (k)).symm rfl (by decide) ?_
      refine nf_goto (pc := 17) 5 dJ7_fill_53178_17 (by decide) ?_
      exact nf_to rfl rfl (by rw [nf_A_sA, if_pos ⟨rfl, rfl, rfl⟩, cf_fill_step, nf_sA_sA]; exact ih (k + 1) (by omega))
set_option maxRecDepth 100000 in
set_option maxHeartbeats 4000000 in
theorem sp_J7_fill_53178 {L : nf_L} {S : nf_S} {n c h : Nat} {v : Int32} (hq : nf_ok (9, n, c, h)) : nf_Sp L 0 yJ7_fill_53178 cJ7_fill_53178 4 none [.ref (L.2.2 (9, n, c, h)), .int v] S none (nf_sA S n c h (cf_fill (nf_A S n c h) v (nf_len c))) := by
  refine nf_start (own := RJ7) (ls0 := [some (.ref (L.2.2 (9, n, c, h))), some (.int v), none, none]) (by decide) (Nat.le_of_ble_eq_true rfl) rfl rfl ?_
  refine nf_iconst (pc := 0) (v := 0) dJ7_fill_53178_0 (by decide) ?_
  refine nf_is2 (pc := 1) dJ7_fill_53178_1 rfl (by decide) ?_
  refine nf_aln (pc := 2) dJ7_fill_53178_2 rfl ?_
  refine nf_alen (pc := 3) (v := nI (nf_len c)) hq rfl dJ7_fill_53178_3 ?_
  refine nf_is3 (pc := 4) dJ7_fill_53178_4 rfl (by decide) ?_
  have h0 := lp_fill (L := L) (S0 := S) (v := v) hq (nf_len c) 0 (by omega)
  rw [cf_fill_0, nf_sA_self] at h0
  exact h0
set_option maxRecDepth 100000 in
set_option maxHeartbeats 4000000 in
theorem lp_between {L : nf_L} {S : nf_S} {n cnt : Nat} {a b : Int32} (hn : n < 5) (hc : nf_I S n 2 0 = nI cnt) (hcnt : cnt ≤ 12) : ∀ (m : Nat) (k : Nat) (o4 o5 : Option Value), (k + m = cnt) → nf_V L 0 cX2_between RX2 6 (some .int) (some (.int (cf_btw (nf_A S n 2 0) (nf_A S n 3 0) a b k m))) S 2 [some (.ref (L.2.2 (2, n, 0, 0))), some (.int a), some (.int b), some (.int (nI k)), o4, o5] [] S := by
  intro m
  induction m with
  | zero =>
    intro k o4 o5 hk
    refine nf_iln (pc := 2) dX2_between_2 rfl ?_
    refine nf_aln (pc := 3) dX2_between_3 rfl ?_
    refine gf_X2_count hn (pc := 4) lk_X2_9 dX2_between_4 ?_
    refine nf_topI (y := nI (cnt)) hc ?_
    refine nf_ic_ge (pc := 7) 82 dX2_between_7 (by decide) (fun c_7 => ?_) (fun c_7 => ?_)
    · refine nf_iconst (pc := 82) (v := (-1)) dX2_between_82 (by decide) ?_
      exact (nf_iret (pc := 83) dX2_between_83)
    · exact absurd (nI_le (by omega) (by omega)) c_7
  | succ m ih =>
    intro k o4 o5 hk
    refine nf_iln (pc := 2) dX2_between_2 rfl ?_
    refine nf_aln (pc := 3) dX2_between_3 rfl ?_
    refine gf_X2_count hn (pc := 4) lk_X2_9 dX2_between_4 ?_
    refine nf_topI (y := nI (cnt)) hc ?_
    refine nf_ic_ge (pc := 7) 82 dX2_between_7 (by decide) (fun c_7 => ?_) (fun c_7 => ?_)
    · exact absurd c_7 (nI_ge (by omega) (by omega))
    · refine nf_aln (pc := 10) dX2_between_10 rfl ?_
      refine gf_X2_first hn (pc := 11) lk_X2_15 dX2_between_11 ?_
      refine nf_iln (pc := 14) dX2_between_14 rfl ?_
      refine nf_ialdI (pc := 15) (k := k) (nf_okA hn (by decide)) (show _ < 12 by omega) dX2_between_15 ?_
      refine nf_iln (pc := 16) dX2_between_16 rfl ?_
      refine nf_ic_ne (pc := 17) 34 dX2_between_17 (by decide) (fun c_17 => ?_) (fun c_17 => ?_)
      · refine nf_iconst (pc := 34) (v := 0) dX2_between_34 (by decide) ?_
        refine nf_is4 (pc := 35) dX2_between_35 rfl (by decide) ?_
        refine nf_aln (pc := 37) dX2_between_37 rfl ?_
        refine gf_X2_first hn (pc := 38) lk_X2_15 dX2_between_38 ?_
        refine nf_iln (pc := 41) dX2_between_41 rfl ?_
        refine nf_ialdI (pc := 42) (k := k) (nf_okA hn (by decide)) (show _ < 12 by omega) dX2_between_42 ?_
        refine nf_iln (pc := 43) dX2_between_43 rfl ?_
        refine nf_ic_ne (pc := 44) 61 dX2_between_44 (by decide) (fun c_44 => ?_) (fun c_44 => ?_)
        · refine nf_iconst (pc := 61) (v := 0) dX2_between_61 (by decide) ?_
          refine nf_is5 (pc := 62) dX2_between_62 rfl (by decide) ?_
          refine nf_il (pc := 64) dX2_between_64 rfl ?_
          refine nf_if_ne (pc := 66) 74 dX2_between_66 (by decide) (fun h => absurd h (by decide)) (fun _ => ?_)
          refine nf_il (pc := 69) dX2_between_69 rfl ?_
          refine nf_if_eq (pc := 71) 76 dX2_between_71 (by decide) (fun _ => ?_) (fun h => absurd h (by decide))
          refine nf_iinc3 (pc := 76) (v := nI (k + 1)) dX2_between_76 (nI_succ (k)).symm rfl (by decide) ?_
          refine nf_goto (pc := 79) 2 dX2_between_79 (by decide) ?_
          exact nf_to (by simp only [cf_btw]; rw [if_neg (by simp_all)]) rfl (ih (k + 1) _ _ (by omega))
        · refine nf_aln (pc := 47) dX2_between_47 rfl ?_
          refine gf_X2_second hn (pc := 48) lk_X2_19 dX2_between_48 ?_
          refine nf_iln (pc := 51) dX2_between_51 rfl ?_
          refine nf_ialdI (pc := 52) (k := k) (nf_okA hn (by decide)) (show _ < 12 by omega) dX2_between_52 ?_
          refine nf_iln (pc := 53) dX2_between_53 rfl ?_
          refine nf_ic_ne (pc := 54) 61 dX2_between_54 (by decide) (fun c_54 => ?_) (fun c_54 => ?_)
          · refine nf_iconst (pc := 61) (v := 0) dX2_between_61 (by decide) ?_
            refine nf_is5 (pc := 62) dX2_between_62 rfl (by decide) ?_
            refine nf_il (pc := 64) dX2_between_64 rfl ?_
            refine nf_if_ne (pc := 66) 74 dX2_between_66 (by decide) (fun h => absurd h (by decide)) (fun _ => ?_)
            refine nf_il (pc := 69) dX2_between_69 rfl ?_
            refine nf_if_eq (pc := 71) 76 dX2_between_71 (by decide) (fun _ => ?_) (fun h => absurd h (by decide))
            refine nf_iinc3 (pc := 76) (v := nI (k + 1)) dX2_between_76 (nI_succ (k)).symm rfl (by decide) ?_
            refine nf_goto (pc := 79) 2 dX2_between_79 (by decide) ?_
            exact nf_to (by simp only [cf_btw]; rw [if_neg (by simp_all)]) rfl (ih (k + 1) _ _ (by omega))
          · refine nf_iconst (pc := 57) (v := 1) dX2_between_57 (by decide) ?_
            refine nf_goto (pc := 58) 62 dX2_between_58 (by decide) ?_
            refine nf_is5 (pc := 62) dX2_between_62 rfl (by decide) ?_
            refine nf_il (pc := 64) dX2_between_64 rfl ?_
            refine nf_if_ne (pc := 66) 74 dX2_between_66 (by decide) (fun h => absurd h (by decide)) (fun _ => ?_)
            refine nf_il (pc := 69) dX2_between_69 rfl ?_
            refine nf_if_eq (pc := 71) 76 dX2_between_71 (by decide) (fun h => absurd h (by decide)) (fun _ => ?_)
            refine nf_iln (pc := 74) dX2_between_74 rfl ?_
            exact nf_to (by simp only [cf_btw]; rw [if_pos (by simp_all)]) rfl (nf_iret (pc := 75) dX2_between_75)
      · refine nf_aln (pc := 20) dX2_between_20 rfl ?_
        refine gf_X2_second hn (pc := 21) lk_X2_19 dX2_between_21 ?_
        refine nf_iln (pc := 24) dX2_between_24 rfl ?_
        refine nf_ialdI (pc := 25) (k := k) (nf_okA hn (by decide)) (show _ < 12 by omega) dX2_between_25 ?_
        refine nf_iln (pc := 26) dX2_between_26 rfl ?_
        refine nf_ic_ne (pc := 27) 34 dX2_between_27 (by decide) (fun c_27 => ?_) (fun c_27 => ?_)
        · refine nf_iconst (pc := 34) (v := 0) dX2_between_34 (by decide) ?_
          refine nf_is4 (pc := 35) dX2_between_35 rfl (by decide) ?_
          refine nf_aln (pc := 37) dX2_between_37 rfl ?_
          refine gf_X2_first hn (pc := 38) lk_X2_15 dX2_between_38 ?_
          refine nf_iln (pc := 41) dX2_between_41 rfl ?_
          refine nf_ialdI (pc := 42) (k := k) (nf_okA hn (by decide)) (show _ < 12 by omega) dX2_between_42 ?_
          refine nf_iln (pc := 43) dX2_between_43 rfl ?_
          refine nf_ic_ne (pc := 44) 61 dX2_between_44 (by decide) (fun c_44 => ?_) (fun c_44 => ?_)
          · refine nf_iconst (pc := 61) (v := 0) dX2_between_61 (by decide) ?_
            refine nf_is5 (pc := 62) dX2_between_62 rfl (by decide) ?_
            refine nf_il (pc := 64) dX2_between_64 rfl ?_
            refine nf_if_ne (pc := 66) 74 dX2_between_66 (by decide) (fun h => absurd h (by decide)) (fun _ => ?_)
            refine nf_il (pc := 69) dX2_between_69 rfl ?_
            refine nf_if_eq (pc := 71) 76 dX2_between_71 (by decide) (fun _ => ?_) (fun h => absurd h (by decide))
            refine nf_iinc3 (pc := 76) (v := nI (k + 1)) dX2_between_76 (nI_succ (k)).symm rfl (by decide) ?_
            refine nf_goto (pc := 79) 2 dX2_between_79 (by decide) ?_
            exact nf_to (by simp only [cf_btw]; rw [if_neg (by simp_all)]) rfl (ih (k + 1) _ _ (by omega))
          · refine nf_aln (pc := 47) dX2_between_47 rfl ?_
            refine gf_X2_second hn (pc := 48) lk_X2_19 dX2_between_48 ?_
            refine nf_iln (pc := 51) dX2_between_51 rfl ?_
            refine nf_ialdI (pc := 52) (k := k) (nf_okA hn (by decide)) (show _ < 12 by omega) dX2_between_52 ?_
            refine nf_iln (pc := 53) dX2_between_53 rfl ?_
            refine nf_ic_ne (pc := 54) 61 dX2_between_54 (by decide) (fun c_54 => ?_) (fun c_54 => ?_)
            · refine nf_iconst (pc := 61) (v := 0) dX2_between_61 (by decide) ?_
              refine nf_is5 (pc := 62) dX2_between_62 rfl (by decide) ?_
              refine nf_il (pc := 64) dX2_between_64 rfl ?_
              refine nf_if_ne (pc := 66) 74 dX2_between_66 (by decide) (fun h => absurd h (by decide)) (fun _ => ?_)
              refine nf_il (pc := 69) dX2_between_69 rfl ?_
              refine nf_if_eq (pc := 71) 76 dX2_between_71 (by decide) (fun _ => ?_) (fun h => absurd h (by decide))
              refine nf_iinc3 (pc := 76) (v := nI (k + 1)) dX2_between_76 (nI_succ (k)).symm rfl (by decide) ?_
              refine nf_goto (pc := 79) 2 dX2_between_79 (by decide) ?_
              exact nf_to (by simp only [cf_btw]; rw [if_neg (by simp_all)]) rfl (ih (k + 1) _ _ (by omega))
            · refine nf_iconst (pc := 57) (v := 1) dX2_between_57 (by decide) ?_
              refine nf_goto (pc := 58) 62 dX2_between_58 (by decide) ?_
              refine nf_is5 (pc := 62) dX2_between_62 rfl (by decide) ?_
              refine nf_il (pc := 64) dX2_between_64 rfl ?_
              refine nf_if_ne (pc := 66) 74 dX2_between_66 (by decide) (fun h => absurd h (by decide)) (fun _ => ?_)
              refine nf_il (pc := 69) dX2_between_69 rfl ?_
              refine nf_if_eq (pc := 71) 76 dX2_between_71 (by decide) (fun h => absurd h (by decide)) (fun _ => ?_)
              refine nf_iln (pc := 74) dX2_between_74 rfl ?_
              exact nf_to (by simp only [cf_btw]; rw [if_pos (by simp_all)]) rfl (nf_iret (pc := 75) dX2_between_75)
        · refine nf_iconst (pc := 30) (v := 1) dX2_between_30 (by decide) ?_
          refine nf_goto (pc := 31) 35 dX2_between_31 (by decide) ?_
          refine nf_is4 (pc := 35) dX2_between_35 rfl (by decide) ?_
          refine nf_aln (pc := 37) dX2_between_37 rfl ?_
          refine gf_X2_first hn (pc := 38) lk_X2_15 dX2_between_38 ?_
          refine nf_iln (pc := 41) dX2_between_41 rfl ?_
          refine nf_ialdI (pc := 42) (k := k) (nf_okA hn (by decide)) (show _ < 12 by omega) dX2_between_42 ?_
          refine nf_iln (pc := 43) dX2_between_43 rfl ?_
          refine nf_ic_ne (pc := 44) 61 dX2_between_44 (by decide) (fun c_44 => ?_) (fun c_44 => ?_)
          · refine nf_iconst (pc := 61) (v := 0) dX2_between_61 (by decide) ?_
            refine nf_is5 (pc := 62) dX2_between_62 rfl (by decide) ?_
            refine nf_il (pc := 64) dX2_between_64 rfl ?_
            refine nf_if_ne (pc := 66) 74 dX2_between_66 (by decide) (fun _ => ?_) (fun h => absurd h (by decide))
            refine nf_iln (pc := 74) dX2_between_74 rfl ?_
            exact nf_to (by simp only [cf_btw]; rw [if_pos (by simp_all)]) rfl (nf_iret (pc := 75) dX2_between_75)
          · refine nf_aln (pc := 47) dX2_between_47 rfl ?_
            refine gf_X2_second hn (pc := 48) lk_X2_19 dX2_between_48 ?_
            refine nf_iln (pc := 51) dX2_between_51 rfl ?_
            refine nf_ialdI (pc := 52) (k := k) (nf_okA hn (by decide)) (show _ < 12 by omega) dX2_between_52 ?_
            refine nf_iln (pc := 53) dX2_between_53 rfl ?_
            refine nf_ic_ne (pc := 54) 61 dX2_between_54 (by decide) (fun c_54 => ?_) (fun c_54 => ?_)
            · refine nf_iconst (pc := 61) (v := 0) dX2_between_61 (by decide) ?_
              refine nf_is5 (pc := 62) dX2_between_62 rfl (by decide) ?_
              refine nf_il (pc := 64) dX2_between_64 rfl ?_
              refine nf_if_ne (pc := 66) 74 dX2_between_66 (by decide) (fun _ => ?_) (fun h => absurd h (by decide))
              refine nf_iln (pc := 74) dX2_between_74 rfl ?_
              exact nf_to (by simp only [cf_btw]; rw [if_pos (by simp_all)]) rfl (nf_iret (pc := 75) dX2_between_75)
            · refine nf_iconst (pc := 57) (v := 1) dX2_between_57 (by decide) ?_
              refine nf_goto (pc := 58) 62 dX2_between_58 (by decide) ?_
              refine nf_is5 (pc := 62) dX2_between_62 rfl (by decide) ?_
              refine nf_il (pc := 64) dX2_between_64 rfl ?_
              refine nf_if_ne (pc := 66) 74 dX2_between_66 (by decide) (fun _ => ?_) (fun h => absurd h (by decide))
              refine nf_iln (pc := 74) dX2_between_74 rfl ?_
              exact nf_to (by simp only [cf_btw]; rw [if_pos (by simp_all)]) rfl (nf_iret (pc := 75) dX2_between_75)
set_option maxRecDepth 100000 in
set_option maxHeartbeats 4000000 in
theorem sp_X2_between {L : nf_L} {S : nf_S} {n cnt : Nat} {a b : Int32} (hn : n < 5) (hc : nf_I S n 2 0 = nI cnt) (hcnt : cnt ≤ 12) : nf_Sp L 0 yX2_between cX2_between 6 (some .int) [.ref (L.2.2 (2, n, 0, 0)), .int a, .int b] S (some (.int (cf_btw (nf_A S n 2 0) (nf_A S n 3 0) a b 0 cnt))) S := by
  refine nf_start (own := RX2) (ls0 := [some (.ref (L.2.2 (2, n, 0, 0))), some (.int a), some (.int b), none, none, none]) (by decide) (Nat.le_of_ble_eq_true rfl) rfl rfl ?_
  refine nf_iconst (pc := 0) (v := 0) dX2_between_0 (by decide) ?_
  refine nf_is3 (pc := 1) dX2_between_1 rfl (by decide) ?_
  exact lp_between hn hc hcnt cnt 0 none none (by omega)
set_option maxRecDepth 100000 in
set_option maxHeartbeats 4000000 in
theorem lp_neighboursOf {L : nf_L} {S : nf_S} {n cnt : Nat} {s : Int32} (hn : n < 5) (hc : nf_I S n 2 0 = nI cnt) (hcnt : cnt ≤ 12) : ∀ (m : Nat) (k : Nat) (acc : Int32), (k + m = cnt) → nf_V L 1 cX2_neighboursOf RX2 4 (some .int) (some (.int (cf_nb (nf_A S n 2 0) (nf_A S n 3 0) s k m acc))) S 4 [some (.ref (L.2.2 (2, n, 0, 0))), some (.int s), some (.int acc), some (.int (nI k))] [] S := by
  intro m
  induction m with
  | zero =>
    intro k acc hk
    refine nf_iln (pc := 4) dX2_neighboursOf_4 rfl ?_
    refine nf_aln (pc := 5) dX2_neighboursOf_5 rfl ?_
    refine gf_X2_count hn (pc := 6) lk_X2_9 dX2_neighboursOf_6 ?_
    refine nf_topI (y := nI (cnt)) hc ?_
    refine nf_ic_ge (pc := 9) 66 dX2_neighboursOf_9 (by decide) (fun c_9 => ?_) (fun c_9 => ?_)
    · refine nf_iln (pc := 66) dX2_neighboursOf_66 rfl ?_
      exact (nf_iret (pc := 67) dX2_neighboursOf_67)
    · exact absurd (nI_le (by omega) (by omega)) c_9
  | succ m ih =>
    intro k acc hk
    refine nf_iln (pc := 4) dX2_neighboursOf_4 rfl ?_
    refine nf_aln (pc := 5) dX2_neighboursOf_5 rfl ?_
    refine gf_X2_count hn (pc := 6) lk_X2_9 dX2_neighboursOf_6 ?_
    refine nf_topI (y := nI (cnt)) hc ?_
    refine nf_ic_ge (pc := 9) 66 dX2_neighboursOf_9 (by decide) (fun c_9 => ?_) (fun c_9 => ?_)
    · exact absurd c_9 (nI_ge (by omega) (by omega))
    · refine nf_iln (pc := 12) dX2_neighboursOf_12 rfl ?_
      refine nf_aln (pc := 13) dX2_neighboursOf_13 rfl ?_
      refine gf_X2_first hn (pc := 14) lk_X2_15 dX2_neighboursOf_14 ?_
      refine nf_iln (pc := 17) dX2_neighboursOf_17 rfl ?_
      refine nf_ialdI (pc := 18) (k := k) (nf_okA hn (by decide)) (show _ < 12 by omega) dX2_neighboursOf_18 ?_
      refine nf_cNi2 (pc := 19) sp_X5_has mn_X2_25 st_X5_has nm_X5_has ⟨by decide, by decide⟩ (Nat.le_of_ble_eq_true rfl) dX2_neighboursOf_19 ?_
      refine nf_if_eqB (pc := 22) 36 dX2_neighboursOf_22 (by decide) (fun c_22 => ?_) (fun c_22 => ?_)
      · refine nf_iln (pc := 36) dX2_neighboursOf_36 rfl ?_
        refine nf_aln (pc := 37) dX2_neighboursOf_37 rfl ?_
        refine gf_X2_second hn (pc := 38) lk_X2_19 dX2_neighboursOf_38 ?_
        refine nf_iln (pc := 41) dX2_neighboursOf_41 rfl ?_
        refine nf_ialdI (pc := 42) (k := k) (nf_okA hn (by decide)) (show _ < 12 by omega) dX2_neighboursOf_42 ?_
        refine nf_cNi2 (pc := 43) sp_X5_has mn_X2_25 st_X5_has nm_X5_has ⟨by decide, by decide⟩ (Nat.le_of_ble_eq_true rfl) dX2_neighboursOf_43 ?_
        refine nf_if_eqB (pc := 46) 60 dX2_neighboursOf_46 (by decide) (fun c_46 => ?_) (fun c_46 => ?_)
        · refine nf_iinc3 (pc := 60) (v := nI (k + 1)) dX2_neighboursOf_60 (nI_succ (k)).symm rfl (by decide) ?_
          refine nf_goto (pc := 63) 4 dX2_neighboursOf_63 (by decide) ?_
          exact nf_to (by simp only [cf_nb, c_22, c_46, if_true, if_false, reduceIte, Bool.false_eq_true]) rfl (ih (k + 1) _ (by omega))
        · refine nf_iln (pc := 49) dX2_neighboursOf_49 rfl ?_
          refine nf_iconst (pc := 50) (v := 1) dX2_neighboursOf_50 (by decide) ?_
          refine nf_aln (pc := 51) dX2_neighboursOf_51 rfl ?_
          refine gf_X2_first hn (pc := 52) lk_X2_15 dX2_neighboursOf_52 ?_
          refine nf_iln (pc := 55) dX2_neighboursOf_55 rfl ?_
          refine nf_ialdI (pc := 56) (k := k) (nf_okA hn (by decide)) (show _ < 12 by omega) dX2_neighboursOf_56 ?_
          refine nf_ishl (pc := 57) dX2_neighboursOf_57 ?_
          refine nf_ior (pc := 58) dX2_neighboursOf_58 ?_
          refine nf_is2 (pc := 59) dX2_neighboursOf_59 rfl (by decide) ?_
          refine nf_iinc3 (pc := 60) (v := nI (k + 1)) dX2_neighboursOf_60 (nI_succ (k)).symm rfl (by decide) ?_
          refine nf_goto (pc := 63) 4 dX2_neighboursOf_63 (by decide) ?_
          exact nf_to (by simp only [cf_nb, c_22, c_46, if_true, if_false, reduceIte, Bool.false_eq_true]) rfl (ih (k + 1) _ (by omega))
      · refine nf_iln (pc := 25) dX2_neighboursOf_25 rfl ?_
        refine nf_iconst (pc := 26) (v := 1) dX2_neighboursOf_26 (by decide) ?_
        refine nf_aln (pc := 27) dX2_neighboursOf_27 rfl ?_
        refine gf_X2_second hn (pc := 28) lk_X2_19 dX2_neighboursOf_28 ?_
        refine nf_iln (pc := 31) dX2_neighboursOf_31 rfl ?_
        refine nf_ialdI (pc := 32) (k := k) (nf_okA hn (by decide)) (show _ < 12 by omega) dX2_neighboursOf_32 ?_
        refine nf_ishl (pc := 33) dX2_neighboursOf_33 ?_
        refine nf_ior (pc := 34) dX2_neighboursOf_34 ?_
        refine nf_is2 (pc := 35) dX2_neighboursOf_35 rfl (by decide) ?_
        refine nf_iln (pc := 36) dX2_neighboursOf_36 rfl ?_
        refine nf_aln (pc := 37) dX2_neighboursOf_37 rfl ?_
        refine gf_X2_second hn (pc := 38) lk_X2_19 dX2_neighboursOf_38 ?_
        refine nf_iln (pc := 41) dX2_neighboursOf_41 rfl ?_
        refine nf_ialdI (pc := 42) (k := k) (nf_okA hn (by decide)) (show _ < 12 by omega) dX2_neighboursOf_42 ?_
        refine nf_cNi2 (pc := 43) sp_X5_has mn_X2_25 st_X5_has nm_X5_has ⟨by decide, by decide⟩ (Nat.le_of_ble_eq_true rfl) dX2_neighboursOf_43 ?_
        refine nf_if_eqB (pc := 46) 60 dX2_neighboursOf_46 (by decide) (fun c_46 => ?_) (fun c_46 => ?_)
        · refine nf_iinc3 (pc := 60) (v := nI (k + 1)) dX2_neighboursOf_60 (nI_succ (k)).symm rfl (by decide) ?_
          refine nf_goto (pc := 63) 4 dX2_neighboursOf_63 (by decide) ?_
          exact nf_to (by simp only [cf_nb, c_22, c_46, if_true, if_false, reduceIte, Bool.false_eq_true]) rfl (ih (k + 1) _ (by omega))
        · refine nf_iln (pc := 49) dX2_neighboursOf_49 rfl ?_
          refine nf_iconst (pc := 50) (v := 1) dX2_neighboursOf_50 (by decide) ?_
          refine nf_aln (pc := 51) dX2_neighboursOf_51 rfl ?_
          refine gf_X2_first hn (pc := 52) lk_X2_15 dX2_neighboursOf_52 ?_
          refine nf_iln (pc := 55) dX2_neighboursOf_55 rfl ?_
          refine nf_ialdI (pc := 56) (k := k) (nf_okA hn (by decide)) (show _ < 12 by omega) dX2_neighboursOf_56 ?_
          refine nf_ishl (pc := 57) dX2_neighboursOf_57 ?_
          refine nf_ior (pc := 58) dX2_neighboursOf_58 ?_
          refine nf_is2 (pc := 59) dX2_neighboursOf_59 rfl (by decide) ?_
          refine nf_iinc3 (pc := 60) (v := nI (k + 1)) dX2_neighboursOf_60 (nI_succ (k)).symm rfl (by decide) ?_
          refine nf_goto (pc := 63) 4 dX2_neighboursOf_63 (by decide) ?_
          exact nf_to (by simp only [cf_nb, c_22, c_46, if_true, if_false, reduceIte, Bool.false_eq_true]) rfl (ih (k + 1) _ (by omega))
set_option maxRecDepth 100000 in
set_option maxHeartbeats 4000000 in
theorem sp_X2_neighboursOf {L : nf_L} {S : nf_S} {n cnt : Nat} {s : Int32} (hn : n < 5) (hc : nf_I S n 2 0 = nI cnt) (hcnt : cnt ≤ 12) : nf_Sp L 1 yX2_neighboursOf cX2_neighboursOf 4 (some .int) [.ref (L.2.2 (2, n, 0, 0)), .int s] S (some (.int (cf_nb (nf_A S n 2 0) (nf_A S n 3 0) s 0 cnt 0))) S := by
  refine nf_start (own := RX2) (ls0 := [some (.ref (L.2.2 (2, n, 0, 0))), some (.int s), none, none]) (by decide) (Nat.le_of_ble_eq_true rfl) rfl rfl ?_
  refine nf_iconst (pc := 0) (v := 0) dX2_neighboursOf_0 (by decide) ?_
  refine nf_is2 (pc := 1) dX2_neighboursOf_1 rfl (by decide) ?_
  refine nf_iconst (pc := 2) (v := 0) dX2_neighboursOf_2 (by decide) ?_
  refine nf_is3 (pc := 3) dX2_neighboursOf_3 rfl (by decide) ?_
  exact lp_neighboursOf hn hc hcnt cnt 0 0 (by omega)
set_option maxRecDepth 100000 in
set_option maxHeartbeats 4000000 in
theorem sp_X2_append {L : nf_L} {S : nf_S} {n cnt : Nat} {a b c : Int32} (hn : n < 5) (hc : nf_I S n 2 0 = nI cnt) (hcnt : cnt < 12) : nf_Sp L 0 yX2_append cX2_append 4 (some .int) [.ref (L.2.2 (2, n, 0, 0)), .int a, .int b, .int c] S (some (.int (nI cnt))) (nf_sI (nf_sA (nf_sA (nf_sA S n 2 0 (upd (nf_A S n 2 0) cnt a)) n 3 0 (upd (nf_A S n 3 0) cnt b)) n 4 0 (upd (nf_A S n 4 0) cnt c)) n 2 0 (nI (cnt + 1))) := by
  refine nf_start (own := RX2) (ls0 := [some (.ref (L.2.2 (2, n, 0, 0))), some (.int a), some (.int b), some (.int c)]) (by decide) (Nat.le_of_ble_eq_true rfl) rfl rfl ?_
  refine nf_aln (pc := 0) dX2_append_0 rfl ?_
  refine gf_X2_count hn (pc := 1) lk_X2_9 dX2_append_1 ?_
  refine nf_topI (y := nI (cnt)) hc ?_
  refine nf_bipush (pc := 4) (v := 12) dX2_append_4 (by decide) ?_
  refine nf_ic_lt (pc := 6) 11 dX2_append_6 (by decide) (fun c_6 => ?_) (fun c_6 => ?_)
  · refine nf_aln (pc := 11) dX2_append_11 rfl ?_
    refine gf_X2_first hn (pc := 12) lk_X2_15 dX2_append_12 ?_
    refine nf_aln (pc := 15) dX2_append_15 rfl ?_
    refine gf_X2_count hn (pc := 16) lk_X2_9 dX2_append_16 ?_
    refine nf_topI (y := nI (cnt)) hc ?_
    refine nf_iln (pc := 19) dX2_append_19 rfl ?_
    refine nf_iastI (pc := 20) (k := cnt) (nf_okA hn (by decide)) hcnt dX2_append_20 ?_
    refine nf_aln (pc := 21) dX2_append_21 rfl ?_
    refine gf_X2_second hn (pc := 22) lk_X2_19 dX2_append_22 ?_
    refine nf_aln (pc := 25) dX2_append_25 rfl ?_
    refine gf_X2_count hn (pc := 26) lk_X2_9 dX2_append_26 ?_
    refine nf_topI (y := nI (cnt)) hc ?_
    refine nf_iln (pc := 29) dX2_append_29 rfl ?_
    refine nf_iastI (pc := 30) (k := cnt) (nf_okA hn (by decide)) hcnt dX2_append_30 ?_
    refine nf_aln (pc := 31) dX2_append_31 rfl ?_
    refine gf_X2_kind hn (pc := 32) lk_X2_22 dX2_append_32 ?_
    refine nf_aln (pc := 35) dX2_append_35 rfl ?_
    refine gf_X2_count hn (pc := 36) lk_X2_9 dX2_append_36 ?_
    refine nf_topI (y := nI (cnt)) hc ?_
    refine nf_iln (pc := 39) dX2_append_39 rfl ?_
    refine nf_iastI (pc := 40) (k := cnt) (nf_okA hn (by decide)) hcnt dX2_append_40 ?_
    refine nf_aln (pc := 41) dX2_append_41 rfl ?_
    refine nf_dup (pc := 42) dX2_append_42 rfl ?_
    refine gf_X2_count hn (pc := 43) lk_X2_9 dX2_append_43 ?_
    refine nf_topI (y := nI (cnt)) hc ?_
    refine nf_iconst (pc := 46) (v := 1) dX2_append_46 (by decide) ?_
    refine nf_iaddI (pc := 47) (a := cnt) (b := 1) dX2_append_47 ?_
    refine pf_X2_count hn (pc := 48) lk_X2_9 dX2_append_48 ?_
    refine nf_aln (pc := 51) dX2_append_51 rfl ?_
    refine gf_X2_count hn (pc := 52) lk_X2_9 dX2_append_52 ?_
    refine nf_topI (y := nI (cnt + 1)) (by simp [nf_I_sI]) ?_
    refine nf_iconst (pc := 55) (v := 1) dX2_append_55 (by decide) ?_
    refine nf_isub (pc := 56) dX2_append_56 ?_
    refine nf_topI (y := nI (cnt)) (nf_succ_sub _) ?_
    exact nf_to rfl (by simp [nf_A_sA]) (nf_iret (pc := 57) dX2_append_57)
  · exact absurd (nI_lt (b := 12) hcnt (by decide)) c_6
set_option maxRecDepth 100000 in
set_option maxHeartbeats 4000000 in
theorem lp_delete {L : nf_L} {S0 : nf_S} {n cnt a : Nat} (hn : n < 5) (hcnt : cnt < 12) : ∀ (m : Nat) (k : Nat), (k + m = cnt) → (a ≤ k) → nf_V L 1 cX2_delete RX2 3 none none (cs_del S0 n cnt a cnt) 24 [some (.ref (L.2.2 (2, n, 0, 0))), some (.int (nI a)), some (.int (nI k))] [] (cs_del S0 n cnt a k) := by
  intro m
  induction m with
  | zero =>
    intro k hk ha
    refine nf_iln (pc := 24) dX2_delete_24 rfl ?_
    refine nf_aln (pc := 25) dX2_delete_25 rfl ?_
    refine gf_X2_count hn (pc := 26) lk_X2_9 dX2_delete_26 ?_
    refine nf_topI (y := nI (cnt)) cs_del_n ?_
    refine nf_ic_ge (pc := 29) 80 dX2_delete_29 (by decide) (fun c_29 => ?_) (fun c_29 => ?_)
    · exact nf_to rfl (by rw [show cnt = k by omega]) (nf_vret (pc := 80) dX2_delete_80)
    · exact absurd (nI_le (by omega) (by omega)) c_29
  | succ m ih =>
    intro k hk ha
    refine nf_iln (pc := 24) dX2_delete_24 rfl ?_
    refine nf_aln (pc := 25) dX2_delete_25 rfl ?_
    refine gf_X2_count hn (pc := 26) lk_X2_9 dX2_delete_26 ?_
    refine nf_topI (y := nI (cnt)) cs_del_n ?_
    refine nf_ic_ge (pc := 29) 80 dX2_delete_29 (by decide) (fun c_29 => ?_) (fun c_29 => ?_)
    · exact absurd c_29 (nI_ge (by omega) (by omega))
    · refine nf_aln (pc := 32) dX2_delete_32 rfl ?_
      refine gf_X2_first hn (pc := 33) lk_X2_15 dX2_delete_33 ?_
      refine nf_iln (pc := 36) dX2_delete_36 rfl ?_
      refine nf_aln (pc := 37) dX2_delete_37 rfl ?_
      refine gf_X2_first hn (pc := 38) lk_X2_15 dX2_delete_38 ?_
      refine nf_iln (pc := 41) dX2_delete_41 rfl ?_
      refine nf_iconst (pc := 42) (v := 1) dX2_delete_42 (by decide) ?_
      refine nf_iaddI (pc := 43) (a := k) (b := 1) dX2_delete_43 ?_
      refine nf_ialdI (pc := 44) (k := (k + 1)) (nf_okA hn (by decide)) (show _ < 12 by omega) dX2_delete_44 ?_
      refine nf_iastI (pc := 45) (k := k) (nf_okA hn (by decide)) (show _ < 12 by omega) dX2_delete_45 ?_
      refine nf_aln (pc := 46) dX2_delete_46 rfl ?_
      refine gf_X2_second hn (pc := 47) lk_X2_19 dX2_delete_47 ?_
      refine nf_iln (pc := 50) dX2_delete_50 rfl ?_
      refine nf_aln (pc := 51) dX2_delete_51 rfl ?_
      refine gf_X2_second hn (pc := 52) lk_X2_19 dX2_delete_52 ?_
      refine nf_iln (pc := 55) dX2_delete_55 rfl ?_
      refine nf_iconst (pc := 56) (v := 1) dX2_delete_56 (by decide) ?_
      refine nf_iaddI (pc := 57) (a := k) (b := 1) dX2_delete_57 ?_
      refine nf_ialdI (pc := 58) (k := (k + 1)) (nf_okA hn (by decide)) (show _ < 12 by omega) dX2_delete_58 ?_
      refine nf_iastI (pc := 59) (k := k) (nf_okA hn (by decide)) (show _ < 12 by omega) dX2_delete_59 ?_
      refine nf_aln (pc := 60) dX2_delete_60 rfl ?_
      refine gf_X2_kind hn (pc := 61) lk_X2_22 dX2_delete_61 ?_
      refine nf_iln (pc := 64) dX2_delete_64 rfl ?_
      refine nf_aln (pc := 65) dX2_delete_65 rfl ?_
      refine gf_X2_kind hn (pc := 66) lk_X2_22 dX2_delete_66 ?_
      refine nf_iln (pc := 69) dX2_delete_69 rfl ?_
      refine nf_iconst (pc := 70) (v := 1) dX2_delete_70 (by decide) ?_
      refine nf_iaddI (pc := 71) (a := k) (b := 1) dX2_delete_71 ?_
      refine nf_ialdI (pc := 72) (k := (k + 1)) (nf_okA hn (by decide)) (show _ < 12 by omega) dX2_delete_72 ?_
      refine nf_iastI (pc := 73) (k := k) (nf_okA hn (by decide)) (show _ < 12 by omega) dX2_delete_73 ?_
      refine nf_iinc2 (pc := 74) (v := nI (k + 1)) dX2_delete_74 (nI_succ (k)).symm rfl (by decide) ?_
      refine nf_goto (pc := 77) 24 dX2_delete_77 (by decide) ?_
      refine nf_from ?_ (ih (k + 1) (by omega) (by omega))
      rw [← cs_del_step S0 n cnt a k (by omega)]
      simp [nf_A_sA, cs_del_A]
set_option maxRecDepth 100000 in
set_option maxHeartbeats 4000000 in
theorem sp_X2_delete {L : nf_L} {S : nf_S} {n cnt a : Nat} (hn : n < 5) (hc : nf_I S n 2 0 = nI (cnt + 1)) (hcnt : cnt < 12) (ha : a ≤ cnt) : nf_Sp L 1 yX2_delete cX2_delete 3 none [.ref (L.2.2 (2, n, 0, 0)), .int (nI a)] S none (cs_del S n cnt a cnt) := by
  refine nf_start (own := RX2) (ls0 := [some (.ref (L.2.2 (2, n, 0, 0))), some (.int (nI a)), none]) (by decide) (Nat.le_of_ble_eq_true rfl) rfl rfl ?_
  refine nf_iln (pc := 0) dX2_delete_0 rfl ?_
  refine nf_aln (pc := 1) dX2_delete_1 rfl ?_
  refine gf_X2_count hn (pc := 2) lk_X2_9 dX2_delete_2 ?_
  refine nf_cNi2 (pc := 5) sp_X5_isBelow mn_X2_29 st_X5_isBelow nm_X5_isBelow ⟨by decide, by decide⟩ (Nat.le_of_ble_eq_true rfl) dX2_delete_5 ?_
  refine nf_if_neB (pc := 8) 12 dX2_delete_8 (by decide) (fun c_8 => ?_) (fun c_8 => ?_)
  · refine nf_aln (pc := 12) dX2_delete_12 rfl ?_
    refine nf_dup (pc := 13) dX2_delete_13 rfl ?_
    refine gf_X2_count hn (pc := 14) lk_X2_9 dX2_delete_14 ?_
    refine nf_iconst (pc := 17) (v := 1) dX2_delete_17 (by decide) ?_
    refine nf_isub (pc := 18) dX2_delete_18 ?_
    refine pf_X2_count hn (pc := 19) lk_X2_9 dX2_delete_19 ?_
    refine nf_iln (pc := 22) dX2_delete_22 rfl ?_
    refine nf_is2 (pc := 23) dX2_delete_23 rfl (by decide) ?_
    rw [hc, nf_succ_sub]
    rw [← cs_del_0 S n cnt a]
    exact lp_delete hn hcnt (cnt - a) a (by omega) (by omega)
  · exact absurd c_8 (by rw [hc, cf_below_I (by omega) (by omega)]; simp; omega)
set_option maxRecDepth 100000 in
set_option maxHeartbeats 4000000 in
theorem sp_X4_put {L : nf_L} {S : nf_S} {n a s : Nat} {x y : Int32} (hn : n < 5) (ha : a < 30) (hs : s < 6) : nf_Sp L 1 yX4_put cX4_put 5 none [.ref (L.2.2 (5, n, 0, 0)), .int (nI a), .int (nI s), .int x, .int y] S none (nf_sA (nf_sA S n 10 0 (upd (nf_A S n 10 0) (a * 6 + s) x)) n 11 0 (upd (nf_A S n 11 0) (a * 6 + s) y)) := by
  refine nf_start (own := RX4) (ls0 := [some (.ref (L.2.2 (5, n, 0, 0))), some (.int (nI a)), some (.int (nI s)), some (.int x), some (.int y)]) (by decide) (Nat.le_of_ble_eq_true rfl) rfl rfl ?_
  refine nf_aln (pc := 0) dX4_put_0 rfl ?_
  refine gf_X4_receivers (Nat.lt_succ_of_lt hn) (pc := 1) lk_X4_9 dX4_put_1 ?_
  refine nf_iln (pc := 4) dX4_put_4 rfl ?_
  refine nf_iln (pc := 5) dX4_put_5 rfl ?_
  refine nf_cSi2 (pc := 6) sp_X4_slot mk_X4_18 st_X4_slot nm_X4_slot ⟨by decide, by decide⟩ (Nat.le_of_ble_eq_true rfl) dX4_put_6 ?_
  refine nf_iln (pc := 9) dX4_put_9 rfl ?_
  refine nf_iastI (pc := 10) (k := (a * 6 + s)) (nf_okA hn (by decide)) (show _ < 180 by omega) dX4_put_10 ?_
  refine nf_aln (pc := 11) dX4_put_11 rfl ?_
  refine gf_X4_path (Nat.lt_succ_of_lt hn) (pc := 12) lk_X4_15 dX4_put_12 ?_
  refine nf_iln (pc := 15) dX4_put_15 rfl ?_
  refine nf_iln (pc := 16) dX4_put_16 rfl ?_
  refine nf_cSi2 (pc := 17) sp_X4_slot mk_X4_18 st_X4_slot nm_X4_slot ⟨by decide, by decide⟩ (Nat.le_of_ble_eq_true rfl) dX4_put_17 ?_
  refine nf_il (pc := 20) dX4_put_20 rfl ?_
  refine nf_iastI (pc := 22) (k := (a * 6 + s)) (nf_okA hn (by decide)) (show _ < 180 by omega) dX4_put_22 ?_
  exact nf_to rfl (by simp [nf_A_sA]) (nf_vret (pc := 23) dX4_put_23)
set_option maxRecDepth 100000 in
set_option maxHeartbeats 4000000 in
theorem lp_size {L : nf_L} {S : nf_S} {n : Nat} (hn : n < 5) : ∀ (m : Nat) (k : Nat) (acc : Int32) (o5 : Option Value), (k + m = 180) → nf_V L 1 cX4_size RX4 6 (some .int) (some (.int (cf_sum (nf_A S n 10 0) k m acc))) S 13 [some (.ref (L.2.2 (5, n, 0, 0))), some (.int acc), some (.ref (L.2.2 (9, n, 10, 0))), some (.int (nI 180)), some (.int (nI k)), o5] [] S := by
  intro m
  induction m with
  | zero =>
    intro k acc o5 hk
    refine nf_il (pc := 13) dX4_size_13 rfl ?_
    refine nf_iln (pc := 15) dX4_size_15 rfl ?_
    refine nf_ic_ge (pc := 16) 39 dX4_size_16 (by decide) (fun c_16 => ?_) (fun c_16 => ?_)
    · refine nf_iln (pc := 39) dX4_size_39 rfl ?_
      exact (nf_iret (pc := 40) dX4_size_40)
    · exact absurd (nI_le (by omega) (by omega)) c_16
  | succ m ih =>
    intro k acc o5 hk
    refine nf_il (pc := 13) dX4_size_13 rfl ?_
    refine nf_iln (pc := 15) dX4_size_15 rfl ?_
    refine nf_ic_ge (pc := 16) 39 dX4_size_16 (by decide) (fun c_16 => ?_) (fun c_16 => ?_)
    · exact absurd c_16 (nI_ge (by omega) (by omega))
    · refine nf_aln (pc := 19) dX4_size_19 rfl ?_
      refine nf_il (pc := 20) dX4_size_20 rfl ?_
      refine nf_ialdI (pc := 22) (k := k) (nf_okA hn (by decide)) (show _ < 180 by omega) dX4_size_22 ?_
      refine nf_is5 (pc := 23) dX4_size_23 rfl (by decide) ?_
      refine nf_iln (pc := 25) dX4_size_25 rfl ?_
      refine nf_il (pc := 26) dX4_size_26 rfl ?_
      refine nf_cSi1 (pc := 28) sp_J6_bitCount_0f7a4 mk_X4_22 st_J6_bitCount_0f7a4 nm_J6_bitCount_0f7a4 ⟨by decide, by decide⟩ (Nat.le_of_ble_eq_true rfl) dX4_size_28 ?_
      refine nf_iadd (pc := 31) dX4_size_31 ?_
      refine nf_is1 (pc := 32) dX4_size_32 rfl (by decide) ?_
      refine nf_iinc4 (pc := 33) (v := nI (k + 1)) dX4_size_33 (nI_succ (k)).symm rfl (by decide) ?_
      refine nf_goto (pc := 36) 13 dX4_size_36 (by decide) ?_
      exact ih (k + 1) _ _ (by omega)
set_option maxRecDepth 100000 in
set_option maxHeartbeats 4000000 in
theorem sp_X4_size {L : nf_L} {S : nf_S} {n : Nat} (hn : n < 5) : nf_Sp L 1 yX4_size cX4_size 6 (some .int) [.ref (L.2.2 (5, n, 0, 0))] S (some (.int (cf_sum (nf_A S n 10 0) 0 180 0))) S := by
  refine nf_start (own := RX4) (ls0 := [some (.ref (L.2.2 (5, n, 0, 0))), none, none, none, none, none]) (by decide) (Nat.le_of_ble_eq_true rfl) rfl rfl ?_
  refine nf_iconst (pc := 0) (v := 0) dX4_size_0 (by decide) ?_
  refine nf_is1 (pc := 1) dX4_size_1 rfl (by decide) ?_
  refine nf_aln (pc := 2) dX4_size_2 rfl ?_
  refine gf_X4_receivers (Nat.lt_succ_of_lt hn) (pc := 3) lk_X4_9 dX4_size_3 ?_
  refine nf_as2 (pc := 6) dX4_size_6 rfl (by decide) ?_
  refine nf_aln (pc := 7) dX4_size_7 rfl ?_
  refine nf_alen (pc := 8) (v := nI 180) (nf_okA hn (by decide)) rfl dX4_size_8 ?_
  refine nf_is3 (pc := 9) dX4_size_9 rfl (by decide) ?_
  refine nf_iconst (pc := 10) (v := 0) dX4_size_10 (by decide) ?_
  refine nf_is4 (pc := 11) dX4_size_11 rfl (by decide) ?_
  exact lp_size hn 180 0 0 none (by omega)
set_option maxRecDepth 100000 in
set_option maxHeartbeats 4000000 in
theorem lp_countCancels {L : nf_L} {S : nf_S} {n h : Nat} (hn : n < 5) (hh : h < 6) : ∀ (m : Nat) (k : Nat) (acc : Int32) (o5 : Option Value), (k + m = 30) → nf_V L 1 cX1_countCancels RX1 6 (some .int) (some (.int (cf_sum (nf_A S n 13 h) k m acc))) S 13 [some (.ref (L.2.2 (4, n, 0, h))), some (.int acc), some (.ref (L.2.2 (9, n, 13, h))), some (.int (nI 30)), some (.int (nI k)), o5] [] S := by
  intro m
  induction m with
  | zero =>
    intro k acc o5 hk
    refine nf_il (pc := 13) dX1_countCancels_13 rfl ?_
    refine nf_iln (pc := 15) dX1_countCancels_15 rfl ?_
    refine nf_ic_ge (pc := 16) 39 dX1_countCancels_16 (by decide) (fun c_16 => ?_) (fun c_16 => ?_)
    · refine nf_iln (pc := 39) dX1_countCancels_39 rfl ?_
      exact (nf_iret (pc := 40) dX1_countCancels_40)
    · exact absurd (nI_le (by omega) (by omega)) c_16
  | succ m ih =>
    intro k acc o5 hk
    refine nf_il (pc := 13) dX1_countCancels_13 rfl ?_
    refine nf_iln (pc := 15) dX1_countCancels_15 rfl ?_
    refine nf_ic_ge (pc := 16) 39 dX1_countCancels_16 (by decide) (fun c_16 => ?_) (fun c_16 => ?_)
    · exact absurd c_16 (nI_ge (by omega) (by omega))
    · refine nf_aln (pc := 19) dX1_countCancels_19 rfl ?_
      refine nf_il (pc := 20) dX1_countCancels_20 rfl ?_
      refine nf_ialdI (pc := 22) (k := k) (nf_ok13 hn hh) (show _ < 30 by omega) dX1_countCancels_22 ?_
      refine nf_is5 (pc := 23) dX1_countCancels_23 rfl (by decide) ?_
      refine nf_iln (pc := 25) dX1_countCancels_25 rfl ?_
      refine nf_il (pc := 26) dX1_countCancels_26 rfl ?_
      refine nf_cSi1 (pc := 28) sp_J6_bitCount_0f7a4 mk_X1_35 st_J6_bitCount_0f7a4 nm_J6_bitCount_0f7a4 ⟨by decide, by decide⟩ (Nat.le_of_ble_eq_true rfl) dX1_countCancels_28 ?_
      refine nf_iadd (pc := 31) dX1_countCancels_31 ?_
      refine nf_is1 (pc := 32) dX1_countCancels_32 rfl (by decide) ?_
      refine nf_iinc4 (pc := 33) (v := nI (k + 1)) dX1_countCancels_33 (nI_succ (k)).symm rfl (by decide) ?_
      refine nf_goto (pc := 36) 13 dX1_countCancels_36 (by decide) ?_
      exact ih (k + 1) _ _ (by omega)
set_option maxRecDepth 100000 in
set_option maxHeartbeats 4000000 in
theorem sp_X1_countCancels {L : nf_L} {S : nf_S} {n h : Nat} (hn : n < 5) (hh : h < 6) : nf_Sp L 1 yX1_countCancels cX1_countCancels 6 (some .int) [.ref (L.2.2 (4, n, 0, h))] S (some (.int (cf_sum (nf_A S n 13 h) 0 30 0))) S := by
  refine nf_start (own := RX1) (ls0 := [some (.ref (L.2.2 (4, n, 0, h))), none, none, none, none, none]) (by decide) (Nat.le_of_ble_eq_true rfl) rfl rfl ?_
  refine nf_iconst (pc := 0) (v := 0) dX1_countCancels_0 (by decide) ?_
  refine nf_is1 (pc := 1) dX1_countCancels_1 rfl (by decide) ?_
  refine nf_aln (pc := 2) dX1_countCancels_2 rfl ?_
  refine gf_X1_cancelAuthors hn hh (pc := 3) lk_X1_22 dX1_countCancels_3 ?_
  refine nf_as2 (pc := 6) dX1_countCancels_6 rfl (by decide) ?_
  refine nf_aln (pc := 7) dX1_countCancels_7 rfl ?_
  refine nf_alen (pc := 8) (v := nI 30) (nf_ok13 hn hh) rfl dX1_countCancels_8 ?_
  refine nf_is3 (pc := 9) dX1_countCancels_9 rfl (by decide) ?_
  refine nf_iconst (pc := 10) (v := 0) dX1_countCancels_10 (by decide) ?_
  refine nf_is4 (pc := 11) dX1_countCancels_11 rfl (by decide) ?_
  exact lp_countCancels hn hh 30 0 0 none (by omega)
/-- what lies beyond a row's end, and what no cell holds, doesn't count -/
def nf_rel (c h : Nat) : Prop := (c < 4 ∧ h = 0) ∨ ((c = 4 ∨ c = 5) ∧ h < 6)
def nf_eqv (S T : nf_S) : Prop := (∀ n c h, n < 5 → nf_rel c h → nf_I S n c h = nf_I T n c h) ∧ (∀ n c h, nf_ok (9, n, c, h) → ∀ j, j < nf_len c → nf_A S n c h j = nf_A T n c h j) ∧ (∀ x j, j < nf_lenO x → nf_O S x j = nf_O T x j) ∧ (∀ j, nf_J S j = nf_J T j) ∧ (∀ k, k < 4 → nf_v S k = nf_v T k)
theorem nf_ofFn {N : Nat} {f g : Nat → Int32} (h : ∀ j, j < N → f j = g j) (cA : ClassId) : vp_cell cA (N, .inl f) = vp_cell cA (N, .inl g) := by
  simp only [vp_cell, arrV]
  congr 1
  apply congrArg Array.ofFn
  funext x
  rw [h x.val x.isLt]
theorem nf_eqv.at {L : nf_L} {S T : nf_S} (h : nf_eqv S T) {H : Heap} (hH : nf_H L S H) : nf_H L T H := by
  obtain ⟨h1, h2, h3, h4, h5⟩ := h
  intro q hq
  have h0 := hH q hq
  obtain ⟨k, n, c, x⟩ := q
  match k, hq, h0 with
  | 0, _, h0 => simp only [nf_cell, h4] at h0 ⊢; exact h0
  | 1, hq, h0 => simp only [nf_cell, h1 n 0 0 hq.1 (Or.inl ⟨by decide, rfl⟩), h1 n 1 0 hq.1 (Or.inl ⟨by decide, rfl⟩)] at h0 ⊢; exact h0
  | 2, hq, h0 => simp only [nf_cell, h1 n 2 0 hq.1 (Or.inl ⟨by decide, rfl⟩)] at h0 ⊢; exact h0
  | 3, hq, h0 => simp only [nf_cell, h1 n 3 0 hq.1 (Or.inl ⟨by decide, rfl⟩)] at h0 ⊢; exact h0
  | 4, hq, h0 => simp only [nf_cell, h1 n 4 x hq.1 (Or.inr ⟨Or.inl rfl, hq.2.2⟩), h1 n 5 x hq.1 (Or.inr ⟨Or.inr rfl, hq.2.2⟩)] at h0 ⊢; exact h0
  | 5, _, h0 => exact h0
  | 6, _, h0 =>
    refine (show H[_]? = some (vp_cell _ _) from h0).trans ?_
    congr 1
    simp only [vp_cell, arrV]
    congr 1
    apply congrArg Array.ofFn
    funext y
    rw [h5 y.val y.isLt]
  | 7, _, h0 => exact h0
  | 8, _, h0 => simp only [nf_cell, h4] at h0 ⊢; exact h0
  | 9, hq, h0 => exact (show H[_]? = some (vp_cell _ _) from h0).trans (congrArg some (nf_ofFn (h2 n c x hq) _))
  | 10, _, h0 => exact (show H[_]? = some (vp_cell _ _) from h0).trans (congrArg some (nf_ofFn (h3 n) _))
  | k + 11, hq, _ => exact absurd hq (by simp [nf_ok])
theorem nf_eqv.symm {S T : nf_S} (h : nf_eqv S T) : nf_eqv T S := ⟨fun n c x a b => (h.1 n c x a b).symm, fun n c x a j hj => (h.2.1 n c x a j hj).symm, fun x j hj => (h.2.2.1 x j hj).symm, fun j => (h.2.2.2.1 j).symm, fun k hk => (h.2.2.2.2 k hk).symm⟩
theorem nf_eqv.rf (S : nf_S) : nf_eqv S S := ⟨fun _ _ _ _ _ => rfl, fun _ _ _ _ _ _ => rfl, fun _ _ _ => rfl, fun _ => rfl, fun _ _ => rfl⟩
theorem nf_eqv.trans {S T U : nf_S} (h : nf_eqv S T) (g : nf_eqv T U) : nf_eqv S U := ⟨fun n c x a b => (h.1 n c x a b).trans (g.1 n c x a b), fun n c x a j hj => (h.2.1 n c x a j hj).trans (g.2.1 n c x a j hj), fun x j hj => (h.2.2.1 x j hj).trans (g.2.2.1 x j hj), fun j => (h.2.2.2.1 j).trans (g.2.2.2.1 j), fun k hk => (h.2.2.2.2 k hk).trans (g.2.2.2.2 k hk)⟩
theorem nf_Vin {L : nf_L} {d : Nat} {cc : ByteArray} {own : String} {nL : Nat} {ret : Option FieldType} {r : Option Value} {S2 : nf_S} {pc : Nat} {ls : List (Option Value)} {st : List Value} {S T : nf_S} (h : nf_eqv S T) (k : nf_V L d cc own nL ret r S2 pc ls st T) : nf_V L d cc own nL ret r S2 pc ls st S :=
  fun p l e s m args below meth c H locs la hC hH hl => k p l e s m args below meth c H locs la hC ⟨h.at hH.1, hH.2⟩ hl
/-- a contract's end may be said of an equal state -/
theorem nf_Sp.out {L : nf_L} {d : Nat} {y : MethodName} {cc : ByteArray} {nL : Nat} {ret : Option FieldType} {as : List Value} {S T : nf_S} {r : Option Value} {S2 : nf_S} (k : nf_Sp L d y cc nL ret as S r S2) (h : nf_eqv S2 T) : nf_Sp L d y cc nL ret as S r T := by
  intro l p e ha hc hk s m args below hf hfit hpre hK
  obtain ⟨t, o, h1, h2, h3, ⟨q1, q2, q3⟩, h5⟩ := k l p e ha hc hk s m args below hf hfit hpre hK
  exact ⟨t, o, h1, h2, h3, ⟨q1, h.at q2, q3⟩, h5⟩
theorem nf_eqv_sA {S : nf_S} {n c h : Nat} {f g : Nat → Int32} (e : ∀ j, j < nf_len c → f j = g j) : nf_eqv (nf_sA S n c h f) (nf_sA S n c h g) := by
  refine ⟨fun _ _ _ _ _ => rfl, fun n' c' h' _ j hj => ?_, fun _ _ _ => rfl, fun _ => rfl, fun _ _ => rfl⟩
  simp only [nf_A_sA]
  split
  · rename_i q; obtain ⟨rfl, rfl, rfl⟩ := q; exact e j hj
  · rfl
theorem sp_fill {L : nf_L} {S : nf_S} {n c h : Nat} {v : Int32} (hq : nf_ok (9, n, c, h)) : nf_Sp L 0 yJ7_fill_53178 cJ7_fill_53178 4 none [.ref (L.2.2 (9, n, c, h)), .int v] S none (nf_sA S n c h (fun _ => v)) :=
  (sp_J7_fill_53178 hq).out (nf_eqv_sA (fun j hj => by simp [cf_fill, hj]))
set_option maxRecDepth 100000 in
set_option maxHeartbeats 4000000 in
theorem sp_X4_makeEmpty {L : nf_L} {S : nf_S} {n : Nat} (hn : n < 5) : nf_Sp L 1 yX4_makeEmpty cX4_makeEmpty 1 none [.ref (L.2.2 (5, n, 0, 0))] S none (nf_sA (nf_sA S n 10 0 (fun _ => 0)) n 11 0 (fun _ => 0)) := by
  refine nf_start (own := RX4) (ls0 := [some (.ref (L.2.2 (5, n, 0, 0)))]) (by decide) (Nat.le_of_ble_eq_true rfl) rfl rfl ?_
  refine nf_aln (pc := 0) dX4_makeEmpty_0 rfl ?_
  refine gf_X4_receivers (Nat.lt_succ_of_lt hn) (pc := 1) lk_X4_9 dX4_makeEmpty_1 ?_
  refine nf_iconst (pc := 4) (v := 0) dX4_makeEmpty_4 (by decide) ?_
  refine nf_cSv2 (pc := 5) (sp_fill (nf_okA hn (by decide))) mk_X4_28 st_J7_fill_53178 nm_J7_fill_53178 ⟨by decide, by decide⟩ (Nat.le_of_ble_eq_true rfl) dX4_makeEmpty_5 ?_
  refine nf_aln (pc := 8) dX4_makeEmpty_8 rfl ?_
  refine gf_X4_path (Nat.lt_succ_of_lt hn) (pc := 9) lk_X4_15 dX4_makeEmpty_9 ?_
  refine nf_iconst (pc := 12) (v := 0) dX4_makeEmpty_12 (by decide) ?_
  refine nf_cSv2 (pc := 13) (sp_fill (nf_okA hn (by decide))) mk_X4_28 st_J7_fill_53178 nm_J7_fill_53178 ⟨by decide, by decide⟩ (Nat.le_of_ble_eq_true rfl) dX4_makeEmpty_13 ?_
  exact nf_vret (pc := 16) dX4_makeEmpty_16
