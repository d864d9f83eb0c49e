/-! the reference: its rows r (all), sv (saved), er (errors), wk (work) and its count j -/
def mm (S : nf_S) (r sv er wk : Nat → Int32) (j : Int32) : nf_S := (S.1, S.2.1, (fun x => if x = 1 then r else if x = 2 then sv else if x = 3 then er else if x = 4 then wk else S.2.2.1 x), (fun x => if x = 1 then j else S.2.2.2.1 x), S.2.2.2.2)
theorem mm_self (S : nf_S) : mm S (nf_O S 1) (nf_O S 2) (nf_O S 3) (nf_O S 4) (nf_J S 1) = S := by
  refine nf_ext (fun _ _ _ => rfl) (fun _ _ _ => rfl) (fun x => ?_) (fun x => ?_) rfl
  · show (if x = 1 then nf_O S 1 else if x = 2 then nf_O S 2 else if x = 3 then nf_O S 3 else if x = 4 then nf_O S 4 else nf_O S x) = nf_O S x
    repeat' split
    all_goals simp_all
  · show (if x = 1 then nf_J S 1 else nf_J S x) = nf_J S x
    split
    all_goals simp_all
theorem mm_s1 (S : nf_S) (r sv er wk r' : Nat → Int32) (j : Int32) : nf_sO (mm S r sv er wk j) 1 r' = mm S r' sv er wk j := by
  refine nf_ext (fun _ _ _ => rfl) (fun _ _ _ => rfl) (fun x => ?_) (fun x => rfl) rfl
  show (if x = 1 then r' else if x = 1 then r else _) = if x = 1 then r' else _
  split <;> rfl
theorem mm_s2 (S : nf_S) (r sv er wk r' : Nat → Int32) (j : Int32) : nf_sO (mm S r sv er wk j) 2 r' = mm S r r' er wk j := by
  refine nf_ext (fun _ _ _ => rfl) (fun _ _ _ => rfl) (fun x => ?_) (fun x => rfl) rfl
  show (if x = 2 then r' else if x = 1 then r else if x = 2 then sv else _) = if x = 1 then r else if x = 2 then r' else _
  by_cases h : x = 2
  · subst h; rfl
  · simp only [if_neg h]
theorem mm_s3 (S : nf_S) (r sv er wk r' : Nat → Int32) (j : Int32) : nf_sO (mm S r sv er wk j) 3 r' = mm S r sv r' wk j := by
  refine nf_ext (fun _ _ _ => rfl) (fun _ _ _ => rfl) (fun x => ?_) (fun x => rfl) rfl
  show (if x = 3 then r' else if x = 1 then r else if x = 2 then sv else if x = 3 then er else _) = if x = 1 then r else if x = 2 then sv else if x = 3 then r' else _
  by_cases h : x = 3
  · subst h; rfl
  · simp only [if_neg h]
theorem mm_s4 (S : nf_S) (r sv er wk r' : Nat → Int32) (j : Int32) : nf_sO (mm S r sv er wk j) 4 r' = mm S r sv er r' j := by
  refine nf_ext (fun _ _ _ => rfl) (fun _ _ _ => rfl) (fun x => ?_) (fun x => rfl) rfl
  show (if x = 4 then r' else if x = 1 then r else if x = 2 then sv else if x = 3 then er else if x = 4 then wk else _) = if x = 1 then r else if x = 2 then sv else if x = 3 then er else if x = 4 then r' else _
  by_cases h : x = 4
  · subst h; rfl
  · simp only [if_neg h]
theorem mm_sj (S : nf_S) (r sv er wk : Nat → Int32) (j j' : Int32) : nf_sJ (mm S r sv er wk j) 1 j' = mm S r sv er wk j' := by
  refine nf_ext (fun _ _ _ => rfl) (fun _ _ _ => rfl) (fun x => rfl) (fun x => ?_) rfl
  show (if x = 1 then j' else if x = 1 then j else _) = if x = 1 then j' else _
  split <;> rfl
theorem nf_dec (k : Nat) : nI (k + 1) + Int32.ofInt (-1) = nI k := by
  rw [show Int32.ofInt (-1) = -1 from by decide, nI_succ, Int32.add_assoc, show (1 : Int32) + -1 = 0 from by decide, Int32.add_zero]
section MmRows
variable {L : nf_L} {d : Nat} {cc : ByteArray} {own : String} {nL : Nat} {ret : Option FieldType} {rr : Option Value} {S2 : nf_S} {pc : Nat} {ls : List (Option Value)} {st : List Value} {S : nf_S} {r sv er wk : Nat → Int32} {j : Int32}
theorem mo_ld1 {k : Nat} (hi : k < 1597) (dg : decode cc pc = .ok (.iaload, 1)) (kk : nf_V L d cc own nL ret rr S2 (pc + 1) ls (.int (r k) :: st) (mm S r sv er wk j)) : nf_V L d cc own nL ret rr S2 pc ls (.int (nI k) :: .ref (L.2.2 (10, 1, 0, 0)) :: st) (mm S r sv er wk j) := nf_ialdOI (nf_okO (by decide)) hi dg kk
theorem mo_ldr1 {i : Int32} (hi : vp_in i 1597) (dg : decode cc pc = .ok (.iaload, 1)) (kk : nf_V L d cc own nL ret rr S2 (pc + 1) ls (.int (r i.toNatClampNeg) :: st) (mm S r sv er wk j)) : nf_V L d cc own nL ret rr S2 pc ls (.int i :: .ref (L.2.2 (10, 1, 0, 0)) :: st) (mm S r sv er wk j) := nf_ialdO (nf_okO (by decide)) hi dg kk
theorem mo_st1 {k : Nat} {x : Int32} (hi : k < 1597) (dg : decode cc pc = .ok (.iastore, 1)) (kk : nf_V L d cc own nL ret rr S2 (pc + 1) ls st (mm S (upd r k x) sv er wk j)) : nf_V L d cc own nL ret rr S2 pc ls (.int x :: .int (nI k) :: .ref (L.2.2 (10, 1, 0, 0)) :: st) (mm S r sv er wk j) := nf_iastOI (nf_okO (by decide)) hi dg (by rw [mm_s1]; exact kk)
theorem mo_str1 {i x : Int32} (hi : vp_in i 1597) (dg : decode cc pc = .ok (.iastore, 1)) (kk : nf_V L d cc own nL ret rr S2 (pc + 1) ls st (mm S (upd r i.toNatClampNeg x) sv er wk j)) : nf_V L d cc own nL ret rr S2 pc ls (.int x :: .int i :: .ref (L.2.2 (10, 1, 0, 0)) :: st) (mm S r sv er wk j) := nf_iastO (nf_okO (by decide)) hi dg (by rw [mm_s1]; exact kk)
theorem mo_ld2 {k : Nat} (hi : k < 6388) (dg : decode cc pc = .ok (.iaload, 1)) (kk : nf_V L d cc own nL ret rr S2 (pc + 1) ls (.int (sv k) :: st) (mm S r sv er wk j)) : nf_V L d cc own nL ret rr S2 pc ls (.int (nI k) :: .ref (L.2.2 (10, 2, 0, 0)) :: st) (mm S r sv er wk j) := nf_ialdOI (nf_okO (by decide)) hi dg kk
theorem mo_ldr2 {i : Int32} (hi : vp_in i 6388) (dg : decode cc pc = .ok (.iaload, 1)) (kk : nf_V L d cc own nL ret rr S2 (pc + 1) ls (.int (sv i.toNatClampNeg) :: st) (mm S r sv er wk j)) : nf_V L d cc own nL ret rr S2 pc ls (.int i :: .ref (L.2.2 (10, 2, 0, 0)) :: st) (mm S r sv er wk j) := nf_ialdO (nf_okO (by decide)) hi dg kk
theorem mo_st2 {k : Nat} {x : Int32} (hi : k < 6388) (dg : decode cc pc = .ok (.iastore, 1)) (kk : nf_V L d cc own nL ret rr S2 (pc + 1) ls st (mm S r (upd sv k x) er wk j)) : nf_V L d cc own nL ret rr S2 pc ls (.int x :: .int (nI k) :: .ref (L.2.2 (10, 2, 0, 0)) :: st) (mm S r sv er wk j) := nf_iastOI (nf_okO (by decide)) hi dg (by rw [mm_s2]; exact kk)
theorem mo_str2 {i x : Int32} (hi : vp_in i 6388) (dg : decode cc pc = .ok (.iastore, 1)) (kk : nf_V L d cc own nL ret rr S2 (pc + 1) ls st (mm S r (upd sv i.toNatClampNeg x) er wk j)) : nf_V L d cc own nL ret rr S2 pc ls (.int x :: .int i :: .ref (L.2.2 (10, 2, 0, 0)) :: st) (mm S r sv er wk j) := nf_iastO (nf_okO (by decide)) hi dg (by rw [mm_s2]; exact kk)
theorem mo_ld3 {k : Nat} (hi : k < 4) (dg : decode cc pc = .ok (.iaload, 1)) (kk : nf_V L d cc own nL ret rr S2 (pc + 1) ls (.int (er k) :: st) (mm S r sv er wk j)) : nf_V L d cc own nL ret rr S2 pc ls (.int (nI k) :: .ref (L.2.2 (10, 3, 0, 0)) :: st) (mm S r sv er wk j) := nf_ialdOI (nf_okO (by decide)) hi dg kk
theorem mo_ldr3 {i : Int32} (hi : vp_in i 4) (dg : decode cc pc = .ok (.iaload, 1)) (kk : nf_V L d cc own nL ret rr S2 (pc + 1) ls (.int (er i.toNatClampNeg) :: st) (mm S r sv er wk j)) : nf_V L d cc own nL ret rr S2 pc ls (.int i :: .ref (L.2.2 (10, 3, 0, 0)) :: st) (mm S r sv er wk j) := nf_ialdO (nf_okO (by decide)) hi dg kk
theorem mo_st3 {k : Nat} {x : Int32} (hi : k < 4) (dg : decode cc pc = .ok (.iastore, 1)) (kk : nf_V L d cc own nL ret rr S2 (pc + 1) ls st (mm S r sv (upd er k x) wk j)) : nf_V L d cc own nL ret rr S2 pc ls (.int x :: .int (nI k) :: .ref (L.2.2 (10, 3, 0, 0)) :: st) (mm S r sv er wk j) := nf_iastOI (nf_okO (by decide)) hi dg (by rw [mm_s3]; exact kk)
theorem mo_str3 {i x : Int32} (hi : vp_in i 4) (dg : decode cc pc = .ok (.iastore, 1)) (kk : nf_V L d cc own nL ret rr S2 (pc + 1) ls st (mm S r sv (upd er i.toNatClampNeg x) wk j)) : nf_V L d cc own nL ret rr S2 pc ls (.int x :: .int i :: .ref (L.2.2 (10, 3, 0, 0)) :: st) (mm S r sv er wk j) := nf_iastO (nf_okO (by decide)) hi dg (by rw [mm_s3]; exact kk)
theorem mo_ld4 {k : Nat} (hi : k < 1024) (dg : decode cc pc = .ok (.iaload, 1)) (kk : nf_V L d cc own nL ret rr S2 (pc + 1) ls (.int (wk k) :: st) (mm S r sv er wk j)) : nf_V L d cc own nL ret rr S2 pc ls (.int (nI k) :: .ref (L.2.2 (10, 4, 0, 0)) :: st) (mm S r sv er wk j) := nf_ialdOI (nf_okO (by decide)) hi dg kk
theorem mo_ldr4 {i : Int32} (hi : vp_in i 1024) (dg : decode cc pc = .ok (.iaload, 1)) (kk : nf_V L d cc own nL ret rr S2 (pc + 1) ls (.int (wk i.toNatClampNeg) :: st) (mm S r sv er wk j)) : nf_V L d cc own nL ret rr S2 pc ls (.int i :: .ref (L.2.2 (10, 4, 0, 0)) :: st) (mm S r sv er wk j) := nf_ialdO (nf_okO (by decide)) hi dg kk
theorem mo_st4 {k : Nat} {x : Int32} (hi : k < 1024) (dg : decode cc pc = .ok (.iastore, 1)) (kk : nf_V L d cc own nL ret rr S2 (pc + 1) ls st (mm S r sv er (upd wk k x) j)) : nf_V L d cc own nL ret rr S2 pc ls (.int x :: .int (nI k) :: .ref (L.2.2 (10, 4, 0, 0)) :: st) (mm S r sv er wk j) := nf_iastOI (nf_okO (by decide)) hi dg (by rw [mm_s4]; exact kk)
theorem mo_str4 {i x : Int32} (hi : vp_in i 1024) (dg : decode cc pc = .ok (.iastore, 1)) (kk : nf_V L d cc own nL ret rr S2 (pc + 1) ls st (mm S r sv er (upd wk i.toNatClampNeg x) j)) : nf_V L d cc own nL ret rr S2 pc ls (.int x :: .int i :: .ref (L.2.2 (10, 4, 0, 0)) :: st) (mm S r sv er wk j) := nf_iastO (nf_okO (by decide)) hi dg (by rw [mm_s4]; exact kk)
theorem mo_gj {idx : Nat} (hl : Cond.fieldLink own idx "NewsFloodModel" "savedMany" "I" ∈ nf_tbl) (dg : decode cc pc = .ok (.getfield idx, 3)) (kk : nf_V L d cc own nL ret rr S2 (pc + 3) ls (.int j :: st) (mm S r sv er wk j)) : nf_V L d cc own nL ret rr S2 pc ls (.ref (L.2.2 (8, 0, 0, 0)) :: st) (mm S r sv er wk j) := gf_X6_savedMany hl dg kk
theorem mo_pj {idx : Nat} {x : Int32} (hl : Cond.fieldLink own idx "NewsFloodModel" "savedMany" "I" ∈ nf_tbl) (dg : decode cc pc = .ok (.putfield idx, 3)) (kk : nf_V L d cc own nL ret rr S2 (pc + 3) ls st (mm S r sv er wk x)) : nf_V L d cc own nL ret rr S2 pc ls (.int x :: .ref (L.2.2 (8, 0, 0, 0)) :: st) (mm S r sv er wk j) := pf_X6_savedMany hl dg (by rw [mm_sj]; exact kk)
end MmRows
def mf_in (v a b : Int64) : Bool := !decide (lg_cmp v a < 0) && !decide (0 < lg_cmp v b)
def mf_tst (x a : Int32) : Bool := decide ((x >>> (a &&& 31)) &&& 1 = 1)
def mf_lk (r : Nat → Int32) (w : Nat) : Nat → Int32 := fun k => r (7 + 3 * k + w)
def mf_of (r : Nat → Int32) (a w : Nat) : Int32 := r (50 + 5 * a + w)
def mf_kn (r : Nat → Int32) (h a : Nat) : Int32 := r (200 + 30 * h + a)
def ms_shift (sv : Nat → Int32) (k : Nat) : Nat → Int32 := fun i => if i < k then sv (i + 1597) else sv i
def ms_copy (sv r : Nat → Int32) (lo k : Nat) : Nat → Int32 := fun i => if lo ≤ i ∧ i < lo + k then r (i - lo) else sv i
theorem ms_shift_0 (sv : Nat → Int32) : ms_shift sv 0 = sv := by funext i; simp [ms_shift]
theorem ms_shift_step (sv : Nat → Int32) (k : Nat) : upd (ms_shift sv k) k (ms_shift sv k (k + 1597)) = ms_shift sv (k + 1) := by
  funext i
  simp only [upd, ms_shift]
  by_cases h : i = k
  · subst h; rw [if_pos rfl, if_neg (by omega), if_pos (by omega)]
  · rw [if_neg h]
    by_cases h2 : i < k
    · rw [if_pos h2, if_pos (by omega)]
    · rw [if_neg h2, if_neg (by omega)]
theorem ms_copy_0 (sv r : Nat → Int32) (lo : Nat) : ms_copy sv r lo 0 = sv := by
  funext i; simp only [ms_copy]; rw [if_neg (by omega)]
theorem ms_copy_step (sv r : Nat → Int32) (lo k : Nat) : upd (ms_copy sv r lo k) (lo + k) (r k) = ms_copy sv r lo (k + 1) := by
  funext i
  simp only [upd, ms_copy]
  by_cases h : i = lo + k
  · subst h; rw [if_pos rfl, if_pos (by omega)]; congr 1; omega
  · rw [if_neg h]
    by_cases h2 : lo ≤ i ∧ i < lo + k
    · rw [if_pos h2, if_pos (by omega)]
    · rw [if_neg h2, if_neg (by omega)]
def ms_save (sv r : Nat → Int32) (c : Nat) : Nat → Int32 := if c = 4 then ms_copy (ms_shift sv 4791) r 4791 1597 else ms_copy sv r (1597 * c) 1597
def ms_cnt (c : Nat) : Nat := if c = 4 then 4 else c + 1
/-- a state restored, up to k -/
def ms_undo (r sv : Nat → Int32) (lo k : Nat) : Nat → Int32 := fun i => if i < k then sv (lo + i) else r i
theorem ms_undo_0 (r sv : Nat → Int32) (lo : Nat) : ms_undo r sv lo 0 = r := by funext i; simp [ms_undo]
theorem ms_undo_step (r sv : Nat → Int32) (lo k : Nat) : upd (ms_undo r sv lo k) k (sv (lo + k)) = ms_undo r sv lo (k + 1) := by
  funext i
  simp only [upd, ms_undo]
  by_cases h : i = k
  · subst h; rw [if_pos rfl, if_pos (by omega)]
  · rw [if_neg h]
    by_cases h2 : i < k
    · rw [if_pos h2, if_pos (by omega)]
    · rw [if_neg h2, if_neg (by omega)]
set_option maxRecDepth 100000 in
set_option maxHeartbeats 4000000 in
theorem sp_X6_in {L : nf_L} {S : nf_S} {r sv er wk : Nat → Int32} {j : Int32} {v a b : Int64}  : nf_Sp L 0 yX6_in cX6_in 6 (some .boolean) [.long v, .long a, .long b] (mm S r sv er wk j) (some (.int (nf_b (mf_in v a b)))) (mm S r sv er wk j) := by
  refine nf_start (own := RX6) (ls0 := [some (.long v), none, some (.long a), none, some (.long b), none]) (by decide) (Nat.le_of_ble_eq_true rfl) rfl rfl ?_
  refine nf_lln (pc := 0) dX6_in_0 rfl ?_
  refine nf_lln (pc := 1) dX6_in_1 rfl ?_
  refine nf_lcmp (pc := 2) dX6_in_2 ?_
  refine nf_if_lt (pc := 3) 17 dX6_in_3 (by decide) (fun c_3 => ?_) (fun c_3 => ?_)
  · refine nf_iconst (pc := 17) (v := 0) dX6_in_17 (by decide) ?_
    exact nf_to (by simp [nf_b, mf_in, c_3]) rfl (nf_zret0 (pc := 18) dX6_in_18)
  · refine nf_lln (pc := 6) dX6_in_6 rfl ?_
    refine nf_ll (pc := 7) dX6_in_7 rfl ?_
    refine nf_lcmp (pc := 9) dX6_in_9 ?_
    refine nf_if_gt (pc := 10) 17 dX6_in_10 (by decide) (fun c_10 => ?_) (fun c_10 => ?_)
    · refine nf_iconst (pc := 17) (v := 0) dX6_in_17 (by decide) ?_
      exact nf_to (by simp [nf_b, mf_in, c_3, c_10]) rfl (nf_zret0 (pc := 18) dX6_in_18)
    · refine nf_iconst (pc := 13) (v := 1) dX6_in_13 (by decide) ?_
      refine nf_goto (pc := 14) 18 dX6_in_14 (by decide) ?_
      exact nf_to (by simp [nf_b, mf_in, c_3, c_10]) rfl (nf_zret1 (pc := 18) dX6_in_18)
set_option maxRecDepth 100000 in
set_option maxHeartbeats 4000000 in
theorem sp_X6_isHost {L : nf_L} {S : nf_S} {r sv er wk : Nat → Int32} {j : Int32} {x : Int32}  : nf_Sp L 1 yX6_isHost cX6_isHost 1 (some .boolean) [.int x] (mm S r sv er wk j) (some (.int (nf_b (mf_in x.toInt64 0 5)))) (mm S r sv er wk j) := by
  refine nf_start (own := RX6) (ls0 := [some (.int x)]) (by decide) (Nat.le_of_ble_eq_true rfl) rfl rfl ?_
  refine nf_iln (pc := 0) dX6_isHost_0 rfl ?_
  refine nf_i2l (pc := 1) dX6_isHost_1 ?_
  refine nf_lconst (pc := 2) (v := 0) dX6_isHost_2 (by decide) ?_
  refine nf_ldc2 (pc := 3) dX6_isHost_3 kc_X6_26 ?_
  refine nf_cSi3 (pc := 6) sp_X6_in mk_X6_28 st_X6_in nm_X6_in ⟨by decide, by decide⟩ (Nat.le_of_ble_eq_true rfl) dX6_isHost_6 ?_
  exact nf_zretb (pc := 9) dX6_isHost_9
set_option maxRecDepth 100000 in
set_option maxHeartbeats 4000000 in
theorem sp_X6_isGroup {L : nf_L} {S : nf_S} {r sv er wk : Nat → Int32} {j : Int32} {x : Int32}  : nf_Sp L 1 yX6_isGroup cX6_isGroup 1 (some .boolean) [.int x] (mm S r sv er wk j) (some (.int (nf_b (mf_in x.toInt64 0 3)))) (mm S r sv er wk j) := by
  refine nf_start (own := RX6) (ls0 := [some (.int x)]) (by decide) (Nat.le_of_ble_eq_true rfl) rfl rfl ?_
  refine nf_iln (pc := 0) dX6_isGroup_0 rfl ?_
  refine nf_i2l (pc := 1) dX6_isGroup_1 ?_
  refine nf_lconst (pc := 2) (v := 0) dX6_isGroup_2 (by decide) ?_
  refine nf_ldc2 (pc := 3) dX6_isGroup_3 kc_X6_32 ?_
  refine nf_cSi3 (pc := 6) sp_X6_in mk_X6_28 st_X6_in nm_X6_in ⟨by decide, by decide⟩ (Nat.le_of_ble_eq_true rfl) dX6_isGroup_6 ?_
  exact nf_zretb (pc := 9) dX6_isGroup_9
set_option maxRecDepth 100000 in
set_option maxHeartbeats 4000000 in
theorem sp_X6_isArticle {L : nf_L} {S : nf_S} {r sv er wk : Nat → Int32} {j : Int32} {x : Int32}  : nf_Sp L 1 yX6_isArticle cX6_isArticle 2 (some .boolean) [.ref (L.2.2 (8, 0, 0, 0)), .int x] (mm S r sv er wk j) (some (.int (nf_b (mf_in x.toInt64 0 (r 49 - 1).toInt64)))) (mm S r sv er wk j) := by
  refine nf_start (own := RX6) (ls0 := [some (.ref (L.2.2 (8, 0, 0, 0))), some (.int x)]) (by decide) (Nat.le_of_ble_eq_true rfl) rfl rfl ?_
  refine nf_iln (pc := 0) dX6_isArticle_0 rfl ?_
  refine nf_i2l (pc := 1) dX6_isArticle_1 ?_
  refine nf_lconst (pc := 2) (v := 0) dX6_isArticle_2 (by decide) ?_
  refine nf_aln (pc := 3) dX6_isArticle_3 rfl ?_
  refine gf_X6_all (pc := 4) lk_X6_7 dX6_isArticle_4 ?_
  refine nf_bipush (pc := 7) (v := 49) dX6_isArticle_7 (by decide) ?_
  refine mo_ld1 (pc := 9) (k := 49) (by decide) dX6_isArticle_9 ?_
  refine nf_iconst (pc := 10) (v := 1) dX6_isArticle_10 (by decide) ?_
  refine nf_isub (pc := 11) dX6_isArticle_11 ?_
  refine nf_i2l (pc := 12) dX6_isArticle_12 ?_
  refine nf_cSi3 (pc := 13) sp_X6_in mk_X6_28 st_X6_in nm_X6_in ⟨by decide, by decide⟩ (Nat.le_of_ble_eq_true rfl) dX6_isArticle_13 ?_
  exact nf_zretb (pc := 16) dX6_isArticle_16
set_option maxRecDepth 100000 in
set_option maxHeartbeats 4000000 in
theorem sp_X6_isLink {L : nf_L} {S : nf_S} {r sv er wk : Nat → Int32} {j : Int32} {x : Int32}  : nf_Sp L 1 yX6_isLink cX6_isLink 2 (some .boolean) [.ref (L.2.2 (8, 0, 0, 0)), .int x] (mm S r sv er wk j) (some (.int (nf_b (mf_in x.toInt64 0 (r 6 - 1).toInt64)))) (mm S r sv er wk j) := by
  refine nf_start (own := RX6) (ls0 := [some (.ref (L.2.2 (8, 0, 0, 0))), some (.int x)]) (by decide) (Nat.le_of_ble_eq_true rfl) rfl rfl ?_
  refine nf_iln (pc := 0) dX6_isLink_0 rfl ?_
  refine nf_i2l (pc := 1) dX6_isLink_1 ?_
  refine nf_lconst (pc := 2) (v := 0) dX6_isLink_2 (by decide) ?_
  refine nf_aln (pc := 3) dX6_isLink_3 rfl ?_
  refine gf_X6_all (pc := 4) lk_X6_7 dX6_isLink_4 ?_
  refine nf_bipush (pc := 7) (v := 6) dX6_isLink_7 (by decide) ?_
  refine mo_ld1 (pc := 9) (k := 6) (by decide) dX6_isLink_9 ?_
  refine nf_iconst (pc := 10) (v := 1) dX6_isLink_10 (by decide) ?_
  refine nf_isub (pc := 11) dX6_isLink_11 ?_
  refine nf_i2l (pc := 12) dX6_isLink_12 ?_
  refine nf_cSi3 (pc := 13) sp_X6_in mk_X6_28 st_X6_in nm_X6_in ⟨by decide, by decide⟩ (Nat.le_of_ble_eq_true rfl) dX6_isLink_13 ?_
  exact nf_zretb (pc := 16) dX6_isLink_16
set_option maxRecDepth 100000 in
set_option maxHeartbeats 4000000 in
theorem sp_X6_error {L : nf_L} {S : nf_S} {r sv er wk : Nat → Int32} {j : Int32} {x : Int32} {i : Nat} (e : -2 - x = nI i) (hi : i < 4) : nf_Sp L 0 yX6_error cX6_error 2 (some .int) [.ref (L.2.2 (8, 0, 0, 0)), .int x] (mm S r sv er wk j) (some (.int x)) (mm S r sv (upd er i (er i + 1)) wk j) := by
  refine nf_start (own := RX6) (ls0 := [some (.ref (L.2.2 (8, 0, 0, 0))), some (.int x)]) (by decide) (Nat.le_of_ble_eq_true rfl) rfl rfl ?_
  refine nf_aln (pc := 0) dX6_error_0 rfl ?_
  refine gf_X6_errors (pc := 1) lk_X6_16 dX6_error_1 ?_
  refine nf_bipush (pc := 4) (v := (-2)) dX6_error_4 (by decide) ?_
  refine nf_iln (pc := 6) dX6_error_6 rfl ?_
  refine nf_isub (pc := 7) dX6_error_7 ?_
  refine nf_topI (y := nI i) e ?_
  refine nf_dup2 (pc := 8) dX6_error_8 rfl rfl ?_
  refine mo_ld3 (pc := 9) (k := i) hi dX6_error_9 ?_
  refine nf_iconst (pc := 10) (v := 1) dX6_error_10 (by decide) ?_
  refine nf_iadd (pc := 11) dX6_error_11 ?_
  refine mo_st3 (pc := 12) (k := i) hi dX6_error_12 ?_
  refine nf_iln (pc := 13) dX6_error_13 rfl ?_
  exact nf_iret (pc := 14) dX6_error_14
set_option maxRecDepth 100000 in
set_option maxHeartbeats 4000000 in
theorem sp_X6_link {L : nf_L} {S : nf_S} {r sv er wk : Nat → Int32} {j : Int32} {k x : Nat} (hk : k < 12) (hx : x < 3) : nf_Sp L 0 yX6_link cX6_link 3 (some .int) [.ref (L.2.2 (8, 0, 0, 0)), .int (nI k), .int (nI x)] (mm S r sv er wk j) (some (.int (mf_lk r x k))) (mm S r sv er wk j) := by
  refine nf_start (own := RX6) (ls0 := [some (.ref (L.2.2 (8, 0, 0, 0))), some (.int (nI k)), some (.int (nI x))]) (by decide) (Nat.le_of_ble_eq_true rfl) rfl rfl ?_
  refine nf_aln (pc := 0) dX6_link_0 rfl ?_
  refine gf_X6_all (pc := 1) lk_X6_7 dX6_link_1 ?_
  refine nf_bipush (pc := 4) (v := 7) dX6_link_4 (by decide) ?_
  refine nf_iconst (pc := 6) (v := 3) dX6_link_6 (by decide) ?_
  refine nf_iln (pc := 7) dX6_link_7 rfl ?_
  refine nf_imulI (pc := 8) (a := 3) (b := k) dX6_link_8 ?_
  refine nf_iaddI (pc := 9) (a := 7) (b := (3 * k)) dX6_link_9 ?_
  refine nf_iln (pc := 10) dX6_link_10 rfl ?_
  refine nf_iaddI (pc := 11) (a := (7 + (3 * k))) (b := x) dX6_link_11 ?_
  refine mo_ld1 (pc := 12) (k := ((7 + (3 * k)) + x)) (by omega) dX6_link_12 ?_
  exact nf_iret (pc := 13) dX6_link_13
set_option maxRecDepth 100000 in
set_option maxHeartbeats 4000000 in
theorem sp_X6_of {L : nf_L} {S : nf_S} {r sv er wk : Nat → Int32} {j : Int32} {a x : Nat} (ha : a < 30) (hx : x < 5) : nf_Sp L 0 yX6_of cX6_of 3 (some .int) [.ref (L.2.2 (8, 0, 0, 0)), .int (nI a), .int (nI x)] (mm S r sv er wk j) (some (.int (mf_of r a x))) (mm S r sv er wk j) := by
  refine nf_start (own := RX6) (ls0 := [some (.ref (L.2.2 (8, 0, 0, 0))), some (.int (nI a)), some (.int (nI x))]) (by decide) (Nat.le_of_ble_eq_true rfl) rfl rfl ?_
  refine nf_aln (pc := 0) dX6_of_0 rfl ?_
  refine gf_X6_all (pc := 1) lk_X6_7 dX6_of_1 ?_
  refine nf_bipush (pc := 4) (v := 50) dX6_of_4 (by decide) ?_
  refine nf_iconst (pc := 6) (v := 5) dX6_of_6 (by decide) ?_
  refine nf_iln (pc := 7) dX6_of_7 rfl ?_
  refine nf_imulI (pc := 8) (a := 5) (b := a) dX6_of_8 ?_
  refine nf_iaddI (pc := 9) (a := 50) (b := (5 * a)) dX6_of_9 ?_
  refine nf_iln (pc := 10) dX6_of_10 rfl ?_
  refine nf_iaddI (pc := 11) (a := (50 + (5 * a))) (b := x) dX6_of_11 ?_
  refine mo_ld1 (pc := 12) (k := ((50 + (5 * a)) + x)) (by omega) dX6_of_12 ?_
  exact nf_iret (pc := 13) dX6_of_13
set_option maxRecDepth 100000 in
set_option maxHeartbeats 4000000 in
theorem sp_X6_known {L : nf_L} {S : nf_S} {r sv er wk : Nat → Int32} {j : Int32} {h a : Nat} (hh : h < 6) (ha : a < 30) : nf_Sp L 0 yX6_known cX6_known 3 (some .int) [.ref (L.2.2 (8, 0, 0, 0)), .int (nI h), .int (nI a)] (mm S r sv er wk j) (some (.int (mf_kn r h a))) (mm S r sv er wk j) := by
  refine nf_start (own := RX6) (ls0 := [some (.ref (L.2.2 (8, 0, 0, 0))), some (.int (nI h)), some (.int (nI a))]) (by decide) (Nat.le_of_ble_eq_true rfl) rfl rfl ?_
  refine nf_aln (pc := 0) dX6_known_0 rfl ?_
  refine gf_X6_all (pc := 1) lk_X6_7 dX6_known_1 ?_
  refine nf_sipush (pc := 4) (v := 200) dX6_known_4 (by decide) ?_
  refine nf_bipush (pc := 7) (v := 30) dX6_known_7 (by decide) ?_
  refine nf_iln (pc := 9) dX6_known_9 rfl ?_
  refine nf_imulI (pc := 10) (a := 30) (b := h) dX6_known_10 ?_
  refine nf_iaddI (pc := 11) (a := 200) (b := (30 * h)) dX6_known_11 ?_
  refine nf_iln (pc := 12) dX6_known_12 rfl ?_
  refine nf_iaddI (pc := 13) (a := (200 + (30 * h))) (b := a) dX6_known_13 ?_
  refine mo_ld1 (pc := 14) (k := ((200 + (30 * h)) + a)) (by omega) dX6_known_14 ?_
  exact nf_iret (pc := 15) dX6_known_15
set_option maxRecDepth 100000 in
set_option maxHeartbeats 4000000 in
theorem sp_X6_isIn {L : nf_L} {S : nf_S} {r sv er wk : Nat → Int32} {j : Int32} {h : Nat} {x : Int32} (hh : h < 6) : nf_Sp L 0 yX6_isIn cX6_isIn 3 (some .boolean) [.ref (L.2.2 (8, 0, 0, 0)), .int (nI h), .int x] (mm S r sv er wk j) (some (.int (nf_b (mf_tst (r (380 + h)) x)))) (mm S r sv er wk j) := by
  refine nf_start (own := RX6) (ls0 := [some (.ref (L.2.2 (8, 0, 0, 0))), some (.int (nI h)), some (.int x)]) (by decide) (Nat.le_of_ble_eq_true rfl) rfl rfl ?_
  refine nf_aln (pc := 0) dX6_isIn_0 rfl ?_
  refine gf_X6_all (pc := 1) lk_X6_7 dX6_isIn_1 ?_
  refine nf_sipush (pc := 4) (v := 380) dX6_isIn_4 (by decide) ?_
  refine nf_iln (pc := 7) dX6_isIn_7 rfl ?_
  refine nf_iaddI (pc := 8) (a := 380) (b := h) dX6_isIn_8 ?_
  refine mo_ld1 (pc := 9) (k := (380 + h)) (by omega) dX6_isIn_9 ?_
  refine nf_iln (pc := 10) dX6_isIn_10 rfl ?_
  refine nf_ishr (pc := 11) dX6_isIn_11 ?_
  refine nf_iconst (pc := 12) (v := 1) dX6_isIn_12 (by decide) ?_
  refine nf_iand (pc := 13) dX6_isIn_13 ?_
  refine nf_iconst (pc := 14) (v := 1) dX6_isIn_14 (by decide) ?_
  refine nf_ic_ne (pc := 15) 22 dX6_isIn_15 (by decide) (fun c_15 => ?_) (fun c_15 => ?_)
  · refine nf_iconst (pc := 22) (v := 0) dX6_isIn_22 (by decide) ?_
    exact nf_to (by simp [nf_b, mf_tst, c_15]) rfl (nf_zret0 (pc := 23) dX6_isIn_23)
  · refine nf_iconst (pc := 18) (v := 1) dX6_isIn_18 (by decide) ?_
    refine nf_goto (pc := 19) 23 dX6_isIn_19 (by decide) ?_
    exact nf_to (by simp [nf_b, mf_tst, c_15]) rfl (nf_zret1 (pc := 23) dX6_isIn_23)
set_option maxRecDepth 100000 in
set_option maxHeartbeats 4000000 in
theorem lp_linkOf {L : nf_L} {S : nf_S} {r sv er wk : Nat → Int32} {j : Int32} {a b : Int32} {nl : Nat} (hr : r 6 = nI nl) (hnl : nl ≤ 12) : ∀ (m : Nat) (k : Nat), (k + m = nl) → nf_V L 1 cX6_linkOf RX6 4 (some .int) (some (.int (cf_btw (mf_lk r 0) (mf_lk r 1) a b k m))) (mm S r sv er wk j) 2 [some (.ref (L.2.2 (8, 0, 0, 0))), some (.int a), some (.int b), some (.int (nI k))] [] (mm S r sv er wk j) := by
  intro m
  induction m with
  | zero =>
    intro k hkm
    refine nf_iln (pc := 2) dX6_linkOf_2 rfl ?_
    refine nf_aln (pc := 3) dX6_linkOf_3 rfl ?_
    refine gf_X6_all (pc := 4) lk_X6_7 dX6_linkOf_4 ?_
    refine nf_bipush (pc := 7) (v := 6) dX6_linkOf_7 (by decide) ?_
    refine mo_ld1 (pc := 9) (k := 6) (by decide) dX6_linkOf_9 ?_
    refine nf_topI (y := nI (nl)) hr ?_
    refine nf_ic_ge (pc := 10) 61 dX6_linkOf_10 (by decide) (fun c_10 => ?_) (fun c_10 => ?_)
    · refine nf_iconst (pc := 61) (v := (-1)) dX6_linkOf_61 (by decide) ?_
      exact (nf_iret (pc := 62) dX6_linkOf_62)
    · exact absurd (nI_le (by omega) (by omega)) c_10
  | succ m ih =>
    intro k hkm
    refine nf_iln (pc := 2) dX6_linkOf_2 rfl ?_
    refine nf_aln (pc := 3) dX6_linkOf_3 rfl ?_
    refine gf_X6_all (pc := 4) lk_X6_7 dX6_linkOf_4 ?_
    refine nf_bipush (pc := 7) (v := 6) dX6_linkOf_7 (by decide) ?_
    refine mo_ld1 (pc := 9) (k := 6) (by decide) dX6_linkOf_9 ?_
    refine nf_topI (y := nI (nl)) hr ?_
    refine nf_ic_ge (pc := 10) 61 dX6_linkOf_10 (by decide) (fun c_10 => ?_) (fun c_10 => ?_)
    · exact absurd c_10 (nI_ge (by omega) (by omega))
    · refine nf_aln (pc := 13) dX6_linkOf_13 rfl ?_
      refine nf_iln (pc := 14) dX6_linkOf_14 rfl ?_
      refine nf_iconst (pc := 15) (v := 0) dX6_linkOf_15 (by decide) ?_
      refine nf_cVi2 (pc := 16) (sp_X6_link (show _ < 12 by omega) (by decide)) rfl rfl rfl mk_X6_34 im_X6_link se_X6_link nm_X6_link ⟨by decide, by decide⟩ (Nat.le_of_ble_eq_true rfl) dX6_linkOf_16 ?_
      refine nf_iln (pc := 19) dX6_linkOf_19 rfl ?_
      refine nf_ic_ne (pc := 20) 33 dX6_linkOf_20 (by decide) (fun c_20 => ?_) (fun c_20 => ?_)
      · refine nf_aln (pc := 33) dX6_linkOf_33 rfl ?_
        refine nf_iln (pc := 34) dX6_linkOf_34 rfl ?_
        refine nf_iconst (pc := 35) (v := 0) dX6_linkOf_35 (by decide) ?_
        refine nf_cVi2 (pc := 36) (sp_X6_link (show _ < 12 by omega) (by decide)) rfl rfl rfl mk_X6_34 im_X6_link se_X6_link nm_X6_link ⟨by decide, by decide⟩ (Nat.le_of_ble_eq_true rfl) dX6_linkOf_36 ?_
        refine nf_iln (pc := 39) dX6_linkOf_39 rfl ?_
        refine nf_ic_ne (pc := 40) 55 dX6_linkOf_40 (by decide) (fun c_40 => ?_) (fun c_40 => ?_)
        · refine nf_iinc3 (pc := 55) (v := nI (k + 1)) dX6_linkOf_55 (nI_succ (k)).symm rfl (by decide) ?_
          refine nf_goto (pc := 58) 2 dX6_linkOf_58 (by decide) ?_
          exact nf_to (by simp only [cf_btw]; rw [if_neg (by simp_all)]) rfl (ih (k + 1) (by omega))
        · refine nf_aln (pc := 43) dX6_linkOf_43 rfl ?_
          refine nf_iln (pc := 44) dX6_linkOf_44 rfl ?_
          refine nf_iconst (pc := 45) (v := 1) dX6_linkOf_45 (by decide) ?_
          refine nf_cVi2 (pc := 46) (sp_X6_link (show _ < 12 by omega) (by decide)) rfl rfl rfl mk_X6_34 im_X6_link se_X6_link nm_X6_link ⟨by decide, by decide⟩ (Nat.le_of_ble_eq_true rfl) dX6_linkOf_46 ?_
          refine nf_iln (pc := 49) dX6_linkOf_49 rfl ?_
          refine nf_ic_ne (pc := 50) 55 dX6_linkOf_50 (by decide) (fun c_50 => ?_) (fun c_50 => ?_)
          · refine nf_iinc3 (pc := 55) (v := nI (k + 1)) dX6_linkOf_55 (nI_succ (k)).symm rfl (by decide) ?_
            refine nf_goto (pc := 58) 2 dX6_linkOf_58 (by decide) ?_
            exact nf_to (by simp only [cf_btw]; rw [if_neg (by simp_all)]) rfl (ih (k + 1) (by omega))
          · refine nf_iln (pc := 53) dX6_linkOf_53 rfl ?_
            exact nf_to (by simp only [cf_btw]; rw [if_pos (by simp_all)]) rfl (nf_iret (pc := 54) dX6_linkOf_54)
      · refine nf_aln (pc := 23) dX6_linkOf_23 rfl ?_
        refine nf_iln (pc := 24) dX6_linkOf_24 rfl ?_
        refine nf_iconst (pc := 25) (v := 1) dX6_linkOf_25 (by decide) ?_
        refine nf_cVi2 (pc := 26) (sp_X6_link (show _ < 12 by omega) (by decide)) rfl rfl rfl mk_X6_34 im_X6_link se_X6_link nm_X6_link ⟨by decide, by decide⟩ (Nat.le_of_ble_eq_true rfl) dX6_linkOf_26 ?_
        refine nf_iln (pc := 29) dX6_linkOf_29 rfl ?_
        refine nf_ic_eq (pc := 30) 53 dX6_linkOf_30 (by decide) (fun c_30 => ?_) (fun c_30 => ?_)
        · refine nf_iln (pc := 53) dX6_linkOf_53 rfl ?_
          exact nf_to (by simp only [cf_btw]; rw [if_pos (by simp_all)]) rfl (nf_iret (pc := 54) dX6_linkOf_54)
        · refine nf_aln (pc := 33) dX6_linkOf_33 rfl ?_
          refine nf_iln (pc := 34) dX6_linkOf_34 rfl ?_
          refine nf_iconst (pc := 35) (v := 0) dX6_linkOf_35 (by decide) ?_
          refine nf_cVi2 (pc := 36) (sp_X6_link (show _ < 12 by omega) (by decide)) rfl rfl rfl mk_X6_34 im_X6_link se_X6_link nm_X6_link ⟨by decide, by decide⟩ (Nat.le_of_ble_eq_true rfl) dX6_linkOf_36 ?_
          refine nf_iln (pc := 39) dX6_linkOf_39 rfl ?_
          refine nf_ic_ne (pc := 40) 55 dX6_linkOf_40 (by decide) (fun c_40 => ?_) (fun c_40 => ?_)
          · refine nf_iinc3 (pc := 55) (v := nI (k + 1)) dX6_linkOf_55 (nI_succ (k)).symm rfl (by decide) ?_
            refine nf_goto (pc := 58) 2 dX6_linkOf_58 (by decide) ?_
            exact nf_to (by simp only [cf_btw]; rw [if_neg (by simp_all)]) rfl (ih (k + 1) (by omega))
          · refine nf_aln (pc := 43) dX6_linkOf_43 rfl ?_
            refine nf_iln (pc := 44) dX6_linkOf_44 rfl ?_
            refine nf_iconst (pc := 45) (v := 1) dX6_linkOf_45 (by decide) ?_
            refine nf_cVi2 (pc := 46) (sp_X6_link (show _ < 12 by omega) (by decide)) rfl rfl rfl mk_X6_34 im_X6_link se_X6_link nm_X6_link ⟨by decide, by decide⟩ (Nat.le_of_ble_eq_true rfl) dX6_linkOf_46 ?_
            refine nf_iln (pc := 49) dX6_linkOf_49 rfl ?_
            refine nf_ic_ne (pc := 50) 55 dX6_linkOf_50 (by decide) (fun c_50 => ?_) (fun c_50 => ?_)
            · refine nf_iinc3 (pc := 55) (v := nI (k + 1)) dX6_linkOf_55 (nI_succ (k)).symm rfl (by decide) ?_
              refine nf_goto (pc := 58) 2 dX6_linkOf_58 (by decide) ?_
              exact nf_to (by simp only [cf_btw]; rw [if_neg (by simp_all)]) rfl (ih (k + 1) (by omega))
            · refine nf_iln (pc := 53) dX6_linkOf_53 rfl ?_
              exact nf_to (by simp only [cf_btw]; rw [if_pos (by simp_all)]) rfl (nf_iret (pc := 54) dX6_linkOf_54)
set_option maxRecDepth 100000 in
set_option maxHeartbeats 4000000 in
theorem sp_X6_linkOf {L : nf_L} {S : nf_S} {r sv er wk : Nat → Int32} {j : Int32} {a b : Int32} {nl : Nat} (hr : r 6 = nI nl) (hnl : nl ≤ 12) : nf_Sp L 1 yX6_linkOf cX6_linkOf 4 (some .int) [.ref (L.2.2 (8, 0, 0, 0)), .int a, .int b] (mm S r sv er wk j) (some (.int (cf_btw (mf_lk r 0) (mf_lk r 1) a b 0 nl))) (mm S r sv er wk j) := by
  refine nf_start (own := RX6) (ls0 := [some (.ref (L.2.2 (8, 0, 0, 0))), some (.int a), some (.int b), none]) (by decide) (Nat.le_of_ble_eq_true rfl) rfl rfl ?_
  refine nf_iconst (pc := 0) (v := 0) dX6_linkOf_0 (by decide) ?_
  refine nf_is3 (pc := 1) dX6_linkOf_1 rfl (by decide) ?_
  exact lp_linkOf hr hnl nl 0 (by omega)
set_option maxRecDepth 100000 in
set_option maxHeartbeats 4000000 in
theorem lp_msh {L : nf_L} {rr : Option Value} {S2 S : nf_S} {r sv er wk : Nat → Int32} {j : Int32}  : ∀ (m : Nat) (k : Nat), (k + m = 4791) → (nf_V L 0 cX6_save RX6 2 none rr S2 39 [some (.ref (L.2.2 (8, 0, 0, 0))), some (.int (nI 4791))] [] (mm S r (ms_shift sv 4791) er wk j)) → nf_V L 0 cX6_save RX6 2 none rr S2 10 [some (.ref (L.2.2 (8, 0, 0, 0))), some (.int (nI k))] [] (mm S r (ms_shift sv k) er wk j) := by
  intro m
  induction m with
  | zero =>
    intro k hkm hK
    refine nf_iln (pc := 10) dX6_save_10 rfl ?_
    refine nf_sipush (pc := 11) (v := 4791) dX6_save_11 (by decide) ?_
    refine nf_ic_ge (pc := 14) 39 dX6_save_14 (by decide) (fun c_14 => ?_) (fun c_14 => ?_)
    · rw [show k = 4791 by omega]
      exact hK
    · exact absurd (nI_le (a := 4791) (by omega) (by omega)) c_14
  | succ m ih =>
    intro k hkm hK
    refine nf_iln (pc := 10) dX6_save_10 rfl ?_
    refine nf_sipush (pc := 11) (v := 4791) dX6_save_11 (by decide) ?_
    refine nf_ic_ge (pc := 14) 39 dX6_save_14 (by decide) (fun c_14 => ?_) (fun c_14 => ?_)
    · exact absurd c_14 (nI_ge (b := 4791) (by omega) (by omega))
    · refine nf_aln (pc := 17) dX6_save_17 rfl ?_
      refine gf_X6_saved (pc := 18) lk_X6_13 dX6_save_18 ?_
      refine nf_iln (pc := 21) dX6_save_21 rfl ?_
      refine nf_aln (pc := 22) dX6_save_22 rfl ?_
      refine gf_X6_saved (pc := 23) lk_X6_13 dX6_save_23 ?_
      refine nf_iln (pc := 26) dX6_save_26 rfl ?_
      refine nf_sipush (pc := 27) (v := 1597) dX6_save_27 (by decide) ?_
      refine nf_iaddI (pc := 30) (a := k) (b := 1597) dX6_save_30 ?_
      refine mo_ld2 (pc := 31) (k := (k + 1597)) (by omega) dX6_save_31 ?_
      refine mo_st2 (pc := 32) (k := k) (by omega) dX6_save_32 ?_
      refine nf_iinc1 (pc := 33) (v := nI (k + 1)) dX6_save_33 (nI_succ (k)).symm rfl (by decide) ?_
      refine nf_goto (pc := 36) 10 dX6_save_36 (by decide) ?_
      rw [ms_shift_step]
      exact ih (k + 1) (by omega) hK
set_option maxRecDepth 100000 in
set_option maxHeartbeats 4000000 in
theorem lp_msc {L : nf_L} {rr : Option Value} {S2 S : nf_S} {r sv er wk : Nat → Int32} {c : Nat} (hc : c < 4) : ∀ (m : Nat) (k : Nat), (k + m = 1597) → (nf_V L 0 cX6_save RX6 2 none rr S2 85 [some (.ref (L.2.2 (8, 0, 0, 0))), some (.int (nI 1597))] [] (mm S r (ms_copy sv r (1597 * c) 1597) er wk (nI c))) → nf_V L 0 cX6_save RX6 2 none rr S2 51 [some (.ref (L.2.2 (8, 0, 0, 0))), some (.int (nI k))] [] (mm S r (ms_copy sv r (1597 * c) k) er wk (nI c)) := by
  intro m
  induction m with
  | zero =>
    intro k hkm hK
    refine nf_iln (pc := 51) dX6_save_51 rfl ?_
    refine nf_sipush (pc := 52) (v := 1597) dX6_save_52 (by decide) ?_
    refine nf_ic_ge (pc := 55) 85 dX6_save_55 (by decide) (fun c_55 => ?_) (fun c_55 => ?_)
    · rw [show k = 1597 by omega]
      exact hK
    · exact absurd (nI_le (a := 1597) (by omega) (by omega)) c_55
  | succ m ih =>
    intro k hkm hK
    refine nf_iln (pc := 51) dX6_save_51 rfl ?_
    refine nf_sipush (pc := 52) (v := 1597) dX6_save_52 (by decide) ?_
    refine nf_ic_ge (pc := 55) 85 dX6_save_55 (by decide) (fun c_55 => ?_) (fun c_55 => ?_)
    · exact absurd c_55 (nI_ge (b := 1597) (by omega) (by omega))
    · refine nf_aln (pc := 58) dX6_save_58 rfl ?_
      refine gf_X6_saved (pc := 59) lk_X6_13 dX6_save_59 ?_
      refine nf_sipush (pc := 62) (v := 1597) dX6_save_62 (by decide) ?_
      refine nf_aln (pc := 65) dX6_save_65 rfl ?_
      refine mo_gj (pc := 66) lk_X6_22 dX6_save_66 ?_
      refine nf_topI (y := nI (c)) rfl ?_
      refine nf_imulI (pc := 69) (a := 1597) (b := c) dX6_save_69 ?_
      refine nf_iln (pc := 70) dX6_save_70 rfl ?_
      refine nf_iaddI (pc := 71) (a := (1597 * c)) (b := k) dX6_save_71 ?_
      refine nf_aln (pc := 72) dX6_save_72 rfl ?_
      refine gf_X6_all (pc := 73) lk_X6_7 dX6_save_73 ?_
      refine nf_iln (pc := 76) dX6_save_76 rfl ?_
      refine mo_ld1 (pc := 77) (k := k) (by omega) dX6_save_77 ?_
      refine mo_st2 (pc := 78) (k := ((1597 * c) + k)) (by omega) dX6_save_78 ?_
      refine nf_iinc1 (pc := 79) (v := nI (k + 1)) dX6_save_79 (nI_succ (k)).symm rfl (by decide) ?_
      refine nf_goto (pc := 82) 51 dX6_save_82 (by decide) ?_
      rw [ms_copy_step]
      exact ih (k + 1) (by omega) hK
set_option maxRecDepth 100000 in
set_option maxHeartbeats 4000000 in
theorem sp_X6_save {L : nf_L} {S : nf_S} {r sv er wk : Nat → Int32} {c : Nat} (hc : c ≤ 4) : nf_Sp L 0 yX6_save cX6_save 2 none [.ref (L.2.2 (8, 0, 0, 0))] (mm S r sv er wk (nI c)) none (mm S r (ms_save sv r c) er wk (nI (ms_cnt c))) := by
  refine nf_start (own := RX6) (ls0 := [some (.ref (L.2.2 (8, 0, 0, 0))), none]) (by decide) (Nat.le_of_ble_eq_true rfl) rfl rfl ?_
  refine nf_aln (pc := 0) dX6_save_0 rfl ?_
  refine mo_gj (pc := 1) lk_X6_22 dX6_save_1 ?_
  refine nf_topI (y := nI (c)) rfl ?_
  refine nf_iconst (pc := 4) (v := 4) dX6_save_4 (by decide) ?_
  refine nf_ic_ne (pc := 5) 49 dX6_save_5 (by decide) (fun c_5 => ?_) (fun c_5 => ?_)
  · have hc4 : c < 4 := by
      rcases Nat.lt_or_ge c 4 with h | h
      · exact h
      · exact absurd (show nI c = 4 by rw [show c = 4 by omega]; rfl) c_5
    refine nf_iconst (pc := 49) (v := 0) dX6_save_49 (by decide) ?_
    refine nf_is1 (pc := 50) dX6_save_50 rfl (by decide) ?_
    refine nf_from (S' := mm S r (ms_copy sv r (1597 * c) 0) er wk (nI c)) (by rw [ms_copy_0]) ?_
    refine lp_msc hc4 1597 0 (by omega) ?_
    refine nf_aln (pc := 85) dX6_save_85 rfl ?_
    refine nf_dup (pc := 86) dX6_save_86 rfl ?_
    refine mo_gj (pc := 87) lk_X6_22 dX6_save_87 ?_
    refine nf_topI (y := nI (c)) rfl ?_
    refine nf_iconst (pc := 90) (v := 1) dX6_save_90 (by decide) ?_
    refine nf_iaddI (pc := 91) (a := c) (b := 1) dX6_save_91 ?_
    refine mo_pj (pc := 92) lk_X6_22 dX6_save_92 ?_
    exact nf_to rfl (by rw [ms_save, if_neg (by omega), ms_cnt, if_neg (by omega)]) (nf_vret (pc := 95) dX6_save_95)
  · obtain rfl : c = 4 := by
      rcases Nat.lt_or_ge c 4 with h | h
      · exact absurd c_5 (fun e => absurd (nI_lt h (by decide)) (by rw [e]; decide))
      · omega
    refine nf_iconst (pc := 8) (v := 0) dX6_save_8 (by decide) ?_
    refine nf_is1 (pc := 9) dX6_save_9 rfl (by decide) ?_
    refine nf_from (S' := mm S r (ms_shift sv 0) er wk (nI 4)) (by rw [ms_shift_0]) ?_
    refine lp_msh 4791 0 (by omega) ?_
    refine nf_aln (pc := 39) dX6_save_39 rfl ?_
    refine nf_dup (pc := 40) dX6_save_40 rfl ?_
    refine mo_gj (pc := 41) lk_X6_22 dX6_save_41 ?_
    refine nf_topI (y := nI (3 + 1)) rfl ?_
    refine nf_iconst (pc := 44) (v := 1) dX6_save_44 (by decide) ?_
    refine nf_isub (pc := 45) dX6_save_45 ?_
    refine nf_topI (y := nI (3)) (nf_succ_sub _) ?_
    refine mo_pj (pc := 46) lk_X6_22 dX6_save_46 ?_
    refine nf_iconst (pc := 49) (v := 0) dX6_save_49 (by decide) ?_
    refine nf_is1 (pc := 50) dX6_save_50 rfl (by decide) ?_
    refine nf_from (S' := mm S r (ms_copy (ms_shift sv 4791) r (1597 * 3) 0) er wk (nI 3)) (by rw [ms_copy_0]) ?_
    refine lp_msc (c := 3) (by decide) 1597 0 (by omega) ?_
    refine nf_aln (pc := 85) dX6_save_85 rfl ?_
    refine nf_dup (pc := 86) dX6_save_86 rfl ?_
    refine mo_gj (pc := 87) lk_X6_22 dX6_save_87 ?_
    refine nf_topI (y := nI (3)) rfl ?_
    refine nf_iconst (pc := 90) (v := 1) dX6_save_90 (by decide) ?_
    refine nf_iaddI (pc := 91) (a := 3) (b := 1) dX6_save_91 ?_
    refine mo_pj (pc := 92) lk_X6_22 dX6_save_92 ?_
    exact nf_to rfl (by rw [ms_save, if_pos rfl, ms_cnt, if_pos rfl]) (nf_vret (pc := 95) dX6_save_95)
