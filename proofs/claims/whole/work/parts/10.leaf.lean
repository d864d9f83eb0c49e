/-! the class's small methods -/
def cf_has (s m : Int32) : Bool := !(s &&& ((1 : Int32) <<< (m &&& 31)) == 0)
def cf_below (v b : Int32) : Bool := !decide (v < 0) && !decide (b ≤ v)
def cf_limit (x : Int32) : Bool := !decide (x < 1) && !decide (30 < x)
def cf_slot (c : Int32) : Int32 := if c < -5 then -1 else if -2 < c then -1 else -2 - c
def cf_mix (h : Int64) (v : Int32) : Int64 := 31 * h + v.toInt64
theorem nf_b_t {b : Bool} (h : b = true) : nf_b b = 1 := by rw [h]; rfl
theorem nf_b_f {b : Bool} (h : b = false) : nf_b b = 0 := by rw [h]; rfl
set_option maxRecDepth 100000 in
set_option maxHeartbeats 4000000 in
theorem sp_X5_has {L : nf_L} {S : nf_S} {s m : Int32}  : nf_Sp L 0 yX5_has cX5_has 2 (some .boolean) [.int s, .int m] S (some (.int (nf_b (cf_has s m)))) S := by
  refine nf_start (own := RX5) (ls0 := [some (.int s), some (.int m)]) (by decide) (Nat.le_of_ble_eq_true rfl) rfl rfl ?_
  refine nf_iln (pc := 0) dX5_has_0 rfl ?_
  refine nf_iconst (pc := 1) (v := 1) dX5_has_1 (by decide) ?_
  refine nf_iln (pc := 2) dX5_has_2 rfl ?_
  refine nf_ishl (pc := 3) dX5_has_3 ?_
  refine nf_iand (pc := 4) dX5_has_4 ?_
  refine nf_if_eq (pc := 5) 12 dX5_has_5 (by decide) (fun c_5 => ?_) (fun c_5 => ?_)
  · refine nf_iconst (pc := 12) (v := 0) dX5_has_12 (by decide) ?_
    exact nf_to (by simp [nf_b, cf_has, c_5]) rfl (nf_zret0 (pc := 13) dX5_has_13)
  · refine nf_iconst (pc := 8) (v := 1) dX5_has_8 (by decide) ?_
    refine nf_goto (pc := 9) 13 dX5_has_9 (by decide) ?_
    exact nf_to (by simp [nf_b, cf_has, c_5]) rfl (nf_zret1 (pc := 13) dX5_has_13)
set_option maxRecDepth 100000 in
set_option maxHeartbeats 4000000 in
theorem sp_X5_isBelow {L : nf_L} {S : nf_S} {v b : Int32}  : nf_Sp L 0 yX5_isBelow cX5_isBelow 2 (some .boolean) [.int v, .int b] S (some (.int (nf_b (cf_below v b)))) S := by
  refine nf_start (own := RX5) (ls0 := [some (.int v), some (.int b)]) (by decide) (Nat.le_of_ble_eq_true rfl) rfl rfl ?_
  refine nf_iln (pc := 0) dX5_isBelow_0 rfl ?_
  refine nf_if_lt (pc := 1) 13 dX5_isBelow_1 (by decide) (fun c_1 => ?_) (fun c_1 => ?_)
  · refine nf_iconst (pc := 13) (v := 0) dX5_isBelow_13 (by decide) ?_
    exact nf_to (by simp [nf_b, cf_below, c_1]) rfl (nf_zret0 (pc := 14) dX5_isBelow_14)
  · refine nf_iln (pc := 4) dX5_isBelow_4 rfl ?_
    refine nf_iln (pc := 5) dX5_isBelow_5 rfl ?_
    refine nf_ic_ge (pc := 6) 13 dX5_isBelow_6 (by decide) (fun c_6 => ?_) (fun c_6 => ?_)
    · refine nf_iconst (pc := 13) (v := 0) dX5_isBelow_13 (by decide) ?_
      exact nf_to (by simp [nf_b, cf_below, c_1, c_6]) rfl (nf_zret0 (pc := 14) dX5_isBelow_14)
    · refine nf_iconst (pc := 9) (v := 1) dX5_isBelow_9 (by decide) ?_
      refine nf_goto (pc := 10) 14 dX5_isBelow_10 (by decide) ?_
      exact nf_to (by simp [nf_b, cf_below, c_1, c_6]) rfl (nf_zret1 (pc := 14) dX5_isBelow_14)
set_option maxRecDepth 100000 in
set_option maxHeartbeats 4000000 in
theorem sp_X5_isLimit {L : nf_L} {S : nf_S} {v : Int32}  : nf_Sp L 0 yX5_isLimit cX5_isLimit 1 (some .boolean) [.int v] S (some (.int (nf_b (cf_limit v)))) S := by
  refine nf_start (own := RX5) (ls0 := [some (.int v)]) (by decide) (Nat.le_of_ble_eq_true rfl) rfl rfl ?_
  refine nf_iln (pc := 0) dX5_isLimit_0 rfl ?_
  refine nf_iconst (pc := 1) (v := 1) dX5_isLimit_1 (by decide) ?_
  refine nf_ic_lt (pc := 2) 15 dX5_isLimit_2 (by decide) (fun c_2 => ?_) (fun c_2 => ?_)
  · refine nf_iconst (pc := 15) (v := 0) dX5_isLimit_15 (by decide) ?_
    exact nf_to (by simp [nf_b, cf_limit, c_2]) rfl (nf_zret0 (pc := 16) dX5_isLimit_16)
  · refine nf_iln (pc := 5) dX5_isLimit_5 rfl ?_
    refine nf_bipush (pc := 6) (v := 30) dX5_isLimit_6 (by decide) ?_
    refine nf_ic_gt (pc := 8) 15 dX5_isLimit_8 (by decide) (fun c_8 => ?_) (fun c_8 => ?_)
    · refine nf_iconst (pc := 15) (v := 0) dX5_isLimit_15 (by decide) ?_
      exact nf_to (by simp [nf_b, cf_limit, c_2, c_8]) rfl (nf_zret0 (pc := 16) dX5_isLimit_16)
    · refine nf_iconst (pc := 11) (v := 1) dX5_isLimit_11 (by decide) ?_
      refine nf_goto (pc := 12) 16 dX5_isLimit_12 (by decide) ?_
      exact nf_to (by simp [nf_b, cf_limit, c_2, c_8]) rfl (nf_zret1 (pc := 16) dX5_isLimit_16)
set_option maxRecDepth 100000 in
set_option maxHeartbeats 4000000 in
theorem sp_X5_errorSlot {L : nf_L} {S : nf_S} {v : Int32}  : nf_Sp L 0 yX5_errorSlot cX5_errorSlot 1 (some .int) [.int v] S (some (.int (cf_slot v))) S := by
  refine nf_start (own := RX5) (ls0 := [some (.int v)]) (by decide) (Nat.le_of_ble_eq_true rfl) rfl rfl ?_
  refine nf_iln (pc := 0) dX5_errorSlot_0 rfl ?_
  refine nf_bipush (pc := 1) (v := (-5)) dX5_errorSlot_1 (by decide) ?_
  refine nf_ic_lt (pc := 3) 19 dX5_errorSlot_3 (by decide) (fun c_3 => ?_) (fun c_3 => ?_)
  · refine nf_iconst (pc := 19) (v := (-1)) dX5_errorSlot_19 (by decide) ?_
    exact nf_to (by simp only [cf_slot, if_pos, if_neg, c_3, not_false_eq_true]) rfl (nf_iret (pc := 20) dX5_errorSlot_20)
  · refine nf_iln (pc := 6) dX5_errorSlot_6 rfl ?_
    refine nf_bipush (pc := 7) (v := (-2)) dX5_errorSlot_7 (by decide) ?_
    refine nf_ic_gt (pc := 9) 19 dX5_errorSlot_9 (by decide) (fun c_9 => ?_) (fun c_9 => ?_)
    · refine nf_iconst (pc := 19) (v := (-1)) dX5_errorSlot_19 (by decide) ?_
      exact nf_to (by simp only [cf_slot, if_pos, if_neg, c_3, c_9, not_false_eq_true]) rfl (nf_iret (pc := 20) dX5_errorSlot_20)
    · refine nf_bipush (pc := 12) (v := (-2)) dX5_errorSlot_12 (by decide) ?_
      refine nf_iln (pc := 14) dX5_errorSlot_14 rfl ?_
      refine nf_isub (pc := 15) dX5_errorSlot_15 ?_
      refine nf_goto (pc := 16) 20 dX5_errorSlot_16 (by decide) ?_
      exact nf_to (by simp only [cf_slot, if_pos, if_neg, c_3, c_9, not_false_eq_true]) rfl (nf_iret (pc := 20) dX5_errorSlot_20)
set_option maxRecDepth 100000 in
set_option maxHeartbeats 4000000 in
theorem sp_X5_mix {L : nf_L} {S : nf_S} {h : Int64} {v : Int32}  : nf_Sp L 0 yX5_mix cX5_mix 3 (some .long) [.long h, .int v] S (some (.long (cf_mix h v))) S := by
  refine nf_start (own := RX5) (ls0 := [some (.long h), none, some (.int v)]) (by decide) (Nat.le_of_ble_eq_true rfl) rfl rfl ?_
  refine nf_ldc2 (pc := 0) dX5_mix_0 kc_X5_176 ?_
  refine nf_lln (pc := 3) dX5_mix_3 rfl ?_
  refine nf_lmul (pc := 4) dX5_mix_4 ?_
  refine nf_iln (pc := 5) dX5_mix_5 rfl ?_
  refine nf_i2l (pc := 6) dX5_mix_6 ?_
  refine nf_ladd (pc := 7) dX5_mix_7 ?_
  exact nf_lret (pc := 8) dX5_mix_8
set_option maxRecDepth 100000 in
set_option maxHeartbeats 4000000 in
theorem sp_X4_slot {L : nf_L} {S : nf_S} {a b : Nat}  : nf_Sp L 0 yX4_slot cX4_slot 2 (some .int) [.int (nI a), .int (nI b)] S (some (.int (nI (a * 6 + b)))) S := by
  refine nf_start (own := RX4) (ls0 := [some (.int (nI a)), some (.int (nI b))]) (by decide) (Nat.le_of_ble_eq_true rfl) rfl rfl ?_
  refine nf_iln (pc := 0) dX4_slot_0 rfl ?_
  refine nf_bipush (pc := 1) (v := 6) dX4_slot_1 (by decide) ?_
  refine nf_imulI (pc := 3) (a := a) (b := 6) dX4_slot_3 ?_
  refine nf_iln (pc := 4) dX4_slot_4 rfl ?_
  refine nf_iaddI (pc := 5) (a := (a * 6)) (b := b) dX4_slot_5 ?_
  exact nf_iret (pc := 6) dX4_slot_6
set_option maxRecDepth 100000 in
set_option maxHeartbeats 4000000 in
theorem sp_X1_carries {L : nf_L} {S : nf_S} {n h : Nat} {x : Int32} (hn : n < 5) (hh : h < 6) : nf_Sp L 1 yX1_carries cX1_carries 2 (some .boolean) [.ref (L.2.2 (4, n, 0, h)), .int x] S (some (.int (nf_b (cf_has (nf_I S n 4 h) x)))) S := by
  refine nf_start (own := RX1) (ls0 := [some (.ref (L.2.2 (4, n, 0, h))), some (.int x)]) (by decide) (Nat.le_of_ble_eq_true rfl) rfl rfl ?_
  refine nf_aln (pc := 0) dX1_carries_0 rfl ?_
  refine gf_X1_groups hn hh (pc := 1) lk_X1_9 dX1_carries_1 ?_
  refine nf_iln (pc := 4) dX1_carries_4 rfl ?_
  refine nf_cNi2 (pc := 5) sp_X5_has mn_X1_31 st_X5_has nm_X5_has ⟨by decide, by decide⟩ (Nat.le_of_ble_eq_true rfl) dX1_carries_5 ?_
  exact nf_zretb (pc := 8) dX1_carries_8
set_option maxRecDepth 100000 in
set_option maxHeartbeats 4000000 in
theorem sp_X1_stores {L : nf_L} {S : nf_S} {n h : Nat} {x : Int32} (hn : n < 5) (hh : h < 6) : nf_Sp L 1 yX1_stores cX1_stores 2 (some .boolean) [.ref (L.2.2 (4, n, 0, h)), .int x] S (some (.int (nf_b (cf_has (nf_I S n 5 h) x)))) S := by
  refine nf_start (own := RX1) (ls0 := [some (.ref (L.2.2 (4, n, 0, h))), some (.int x)]) (by decide) (Nat.le_of_ble_eq_true rfl) rfl rfl ?_
  refine nf_aln (pc := 0) dX1_stores_0 rfl ?_
  refine gf_X1_store hn hh (pc := 1) lk_X1_15 dX1_stores_1 ?_
  refine nf_iln (pc := 4) dX1_stores_4 rfl ?_
  refine nf_cNi2 (pc := 5) sp_X5_has mn_X1_31 st_X5_has nm_X5_has ⟨by decide, by decide⟩ (Nat.le_of_ble_eq_true rfl) dX1_stores_5 ?_
  exact nf_zretb (pc := 8) dX1_stores_8
set_option maxRecDepth 100000 in
set_option maxHeartbeats 4000000 in
theorem sp_X1_knows {L : nf_L} {S : nf_S} {n h : Nat} {a : Nat} (hn : n < 5) (hh : h < 6) (ha : a < 30) : nf_Sp L 0 yX1_knows cX1_knows 2 (some .boolean) [.ref (L.2.2 (4, n, 0, h)), .int (nI a)] S (some (.int (nf_b (!(nf_A S n 12 h a == -1))))) S := by
  refine nf_start (own := RX1) (ls0 := [some (.ref (L.2.2 (4, n, 0, h))), some (.int (nI a))]) (by decide) (Nat.le_of_ble_eq_true rfl) rfl rfl ?_
  refine nf_aln (pc := 0) dX1_knows_0 rfl ?_
  refine gf_X1_historyDay hn hh (pc := 1) lk_X1_18 dX1_knows_1 ?_
  refine nf_iln (pc := 4) dX1_knows_4 rfl ?_
  refine nf_ialdI (pc := 5) (k := a) (nf_ok12 hn hh) ha dX1_knows_5 ?_
  refine nf_iconst (pc := 6) (v := (-1)) dX1_knows_6 (by decide) ?_
  refine nf_ic_eq (pc := 7) 14 dX1_knows_7 (by decide) (fun c_7 => ?_) (fun c_7 => ?_)
  · refine nf_iconst (pc := 14) (v := 0) dX1_knows_14 (by decide) ?_
    exact nf_to (by simp_all [nf_b]) rfl (nf_zret0 (pc := 15) dX1_knows_15)
  · refine nf_iconst (pc := 10) (v := 1) dX1_knows_10 (by decide) ?_
    refine nf_goto (pc := 11) 15 dX1_knows_11 (by decide) ?_
    exact nf_to (by simp_all [nf_b]) rfl (nf_zret1 (pc := 15) dX1_knows_15)
set_option maxRecDepth 100000 in
set_option maxHeartbeats 4000000 in
theorem sp_X1_keep {L : nf_L} {S : nf_S} {n h : Nat} {x : Int32} (hn : n < 5) (hh : h < 6) : nf_Sp L 0 yX1_keep cX1_keep 2 none [.ref (L.2.2 (4, n, 0, h)), .int x] S none (nf_sI S n 5 h (nf_I S n 5 h ||| ((1 : Int32) <<< (x &&& 31)))) := by
  refine nf_start (own := RX1) (ls0 := [some (.ref (L.2.2 (4, n, 0, h))), some (.int x)]) (by decide) (Nat.le_of_ble_eq_true rfl) rfl rfl ?_
  refine nf_aln (pc := 0) dX1_keep_0 rfl ?_
  refine nf_dup (pc := 1) dX1_keep_1 rfl ?_
  refine gf_X1_store hn hh (pc := 2) lk_X1_15 dX1_keep_2 ?_
  refine nf_iconst (pc := 5) (v := 1) dX1_keep_5 (by decide) ?_
  refine nf_iln (pc := 6) dX1_keep_6 rfl ?_
  refine nf_ishl (pc := 7) dX1_keep_7 ?_
  refine nf_ior (pc := 8) dX1_keep_8 ?_
  refine pf_X1_store hn hh (pc := 9) lk_X1_15 dX1_keep_9 ?_
  exact nf_vret (pc := 12) dX1_keep_12
set_option maxRecDepth 100000 in
set_option maxHeartbeats 4000000 in
theorem sp_X1_drop {L : nf_L} {S : nf_S} {n h : Nat} {x : Int32} (hn : n < 5) (hh : h < 6) : nf_Sp L 0 yX1_drop cX1_drop 2 none [.ref (L.2.2 (4, n, 0, h)), .int x] S none (nf_sI S n 5 h (nf_I S n 5 h &&& (((1 : Int32) <<< (x &&& 31)) ^^^ -1))) := by
  refine nf_start (own := RX1) (ls0 := [some (.ref (L.2.2 (4, n, 0, h))), some (.int x)]) (by decide) (Nat.le_of_ble_eq_true rfl) rfl rfl ?_
  refine nf_aln (pc := 0) dX1_drop_0 rfl ?_
  refine nf_dup (pc := 1) dX1_drop_1 rfl ?_
  refine gf_X1_store hn hh (pc := 2) lk_X1_15 dX1_drop_2 ?_
  refine nf_iconst (pc := 5) (v := 1) dX1_drop_5 (by decide) ?_
  refine nf_iln (pc := 6) dX1_drop_6 rfl ?_
  refine nf_ishl (pc := 7) dX1_drop_7 ?_
  refine nf_iconst (pc := 8) (v := (-1)) dX1_drop_8 (by decide) ?_
  refine nf_ixor (pc := 9) dX1_drop_9 ?_
  refine nf_iand (pc := 10) dX1_drop_10 ?_
  refine pf_X1_store hn hh (pc := 11) lk_X1_15 dX1_drop_11 ?_
  exact nf_vret (pc := 14) dX1_drop_14
set_option maxRecDepth 100000 in
set_option maxHeartbeats 4000000 in
theorem sp_X1_addCancel {L : nf_L} {S : nf_S} {n h : Nat} {a : Nat} {x : Int32} (hn : n < 5) (hh : h < 6) (ha : a < 30) : nf_Sp L 0 yX1_addCancel cX1_addCancel 3 none [.ref (L.2.2 (4, n, 0, h)), .int (nI a), .int x] S none (nf_sA S n 13 h (upd (nf_A S n 13 h) a (nf_A S n 13 h a ||| ((1 : Int32) <<< (x &&& 31))))) := by
  refine nf_start (own := RX1) (ls0 := [some (.ref (L.2.2 (4, n, 0, h))), some (.int (nI a)), some (.int x)]) (by decide) (Nat.le_of_ble_eq_true rfl) rfl rfl ?_
  refine nf_aln (pc := 0) dX1_addCancel_0 rfl ?_
  refine gf_X1_cancelAuthors hn hh (pc := 1) lk_X1_22 dX1_addCancel_1 ?_
  refine nf_iln (pc := 4) dX1_addCancel_4 rfl ?_
  refine nf_dup2 (pc := 5) dX1_addCancel_5 rfl rfl ?_
  refine nf_ialdI (pc := 6) (k := a) (nf_ok13 hn hh) ha dX1_addCancel_6 ?_
  refine nf_iconst (pc := 7) (v := 1) dX1_addCancel_7 (by decide) ?_
  refine nf_iln (pc := 8) dX1_addCancel_8 rfl ?_
  refine nf_ishl (pc := 9) dX1_addCancel_9 ?_
  refine nf_ior (pc := 10) dX1_addCancel_10 ?_
  refine nf_iastI (pc := 11) (k := a) (nf_ok13 hn hh) ha dX1_addCancel_11 ?_
  exact nf_vret (pc := 12) dX1_addCancel_12
