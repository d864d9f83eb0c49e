/-! the reference: arrivals and rounds -/
def mr_inc (r : Nat → Int32) (i : Nat) : Nat → Int32 := upd r i (r i + 1)
def mf_lnk (r : Nat → Int32) (x y : Int32) : Int32 := cf_btw (mf_lk r 0) (mf_lk r 1) x y 0 (cf_num (r 6))
def mr_act (r : Nat → Int32) (h a t : Nat) : Nat → Int32 :=
  if mf_tst (r (380 + h)) (nI t) = true then (if mf_of r t 1 = mf_of r a 1 then mr_inc (upd r (380 + h) (r (380 + h) &&& (cf_bit (nI t) ^^^ -1))) 570 else mr_inc (upd r (380 + h) (r (380 + h) &&& -1)) 571)
  else if mf_kn r h t = -1 then upd r (386 + 30 * h + t) (r (386 + 30 * h + t) ||| cf_bit (mf_of r a 1)) else r
def mf_pack (a h k : Nat) (p : Int32) : Int32 := (((nI a <<< (12 &&& 31)) ||| (nI h <<< (9 &&& 31))) ||| (nI k <<< (6 &&& 31))) ||| p
def mr_add (r : Nat → Int32) (v : Int32) : Nat → Int32 := mr_inc (upd r (573 + cf_num (r 572)) v) 572
def mr_psh1 (h a : Nat) (p : Int32) (r : Nat → Int32) (k : Nat) : Nat → Int32 := if (p >>> (nI k &&& 31)) &&& 1 = 0 then (if mf_lnk r (nI h) (nI k) = -1 then r else mr_add r (mf_pack a h k p)) else r
def mr_psh (h a : Nat) (p : Int32) : Nat → (Nat → Int32) → Nat → (Nat → Int32)
  | 0, r, _ => r
  | m + 1, r, k => mr_psh h a p m (mr_psh1 h a p r k) (k + 1)
def mr_arr4 (r : Nat → Int32) (h a : Nat) (path : Int32) : (Nat → Int32) × Int32 := (mr_psh h a (path ||| cf_bit (nI h)) 6 r 0, 1)
def mr_arr3 (r : Nat → Int32) (h a : Nat) (path : Int32) : (Nat → Int32) × Int32 := if mf_of r a 3 = 0 then mr_arr4 r h a path else mr_arr4 (mr_act r h a (cf_num (mf_of r a 4))) h a path
def mr_arr2 (r : Nat → Int32) (h a : Nat) (path : Int32) : (Nat → Int32) × Int32 :=
  if (r (386 + 30 * h + a) >>> (mf_of r a 1 &&& 31)) &&& 1 = 1 then (mr_inc (upd r (386 + 30 * h + a) (r (386 + 30 * h + a) &&& (cf_bit (mf_of r a 1) ^^^ -1))) 570, 0)
  else if (r (43 + h) >>> (mf_of r a 0 &&& 31)) &&& 1 = 0 then (r, 0) else mr_arr3 (upd r (380 + h) (r (380 + h) ||| cf_bit (nI a))) h a path
def mr_arr (r : Nat → Int32) (h a : Nat) (path : Int32) : (Nat → Int32) × Int32 :=
  if mf_kn r h a = -1 then (if r 0 - mf_of r a 2 < r 1 then mr_arr2 (upd r (200 + 30 * h + a) (r 0)) h a path else (mr_inc r 569, 0)) else (mr_inc r 568, 0)
/-- nothing but places 200 to 571 has changed -/
def mr_mid (r r' : Nat → Int32) : Prop := ∀ i, i < 200 ∨ 572 ≤ i → r i = r' i
theorem mr_mid.rf (r : Nat → Int32) : mr_mid r r := fun _ _ => rfl
theorem mr_mid.trans {r r1 r2 : Nat → Int32} (h : mr_mid r r1) (g : mr_mid r1 r2) : mr_mid r r2 := fun i hi => (h i hi).trans (g i hi)
theorem mr_mid_upd (r : Nat → Int32) (i : Nat) (x : Int32) (h1 : 200 ≤ i) (h2 : i < 572) : mr_mid r (upd r i x) := by
  intro k hk; simp only [upd]; rw [if_neg (by omega)]
theorem mr_mid_inc (r : Nat → Int32) (i : Nat) (h1 : 200 ≤ i) (h2 : i < 572) : mr_mid r (mr_inc r i) := mr_mid_upd r i _ h1 h2
theorem mr_mid_act (r : Nat → Int32) (h a t : Nat) (hh : h < 6) (ht : t < 30) : mr_mid r (mr_act r h a t) := by
  unfold mr_act
  split
  · split
    · exact (mr_mid_upd r _ _ (by omega) (by omega)).trans (mr_mid_inc _ _ (by omega) (by omega))
    · exact (mr_mid_upd r _ _ (by omega) (by omega)).trans (mr_mid_inc _ _ (by omega) (by omega))
  · split
    · exact mr_mid_upd r _ _ (by omega) (by omega)
    · exact mr_mid.rf r
/-- what the reference's row must keep for its methods to go through -/
def mr_ok (r : Nat → Int32) (nl na q : Nat) : Prop := nl ≤ 12 ∧ na ≤ 30 ∧ q ≤ 1018 ∧ r 6 = nI nl ∧ r 49 = nI na ∧ r 572 = nI q ∧ (∀ a, a < na → (mf_of r a 3 = 0 ∨ ∃ t, t < 30 ∧ mf_of r a 4 = nI t)) ∧ ∀ a, a < 30 → ∃ g, g < 4 ∧ mf_of r a 0 = nI g
theorem mr_ok.mid {r r' : Nat → Int32} {nl na q : Nat} (h : mr_ok r nl na q) (e : mr_mid r r') : mr_ok r' nl na q := by
  obtain ⟨h1, h2, h3, h4, h5, h6, h7, h8⟩ := h
  refine ⟨h1, h2, h3, by rw [← e 6 (by omega)]; exact h4, by rw [← e 49 (by omega)]; exact h5, by rw [← e 572 (by omega)]; exact h6, fun a ha => ?_, fun a ha => ?_⟩
  · have h9 := h7 a ha
    simp only [mf_of] at h9 ⊢
    rw [← e (50 + 5 * a + 3) (by omega), ← e (50 + 5 * a + 4) (by omega)]; exact h9
  · have h9 := h8 a ha
    simp only [mf_of] at h9 ⊢
    rw [← e (50 + 5 * a + 0) (by omega)]; exact h9
theorem sp_mlnk {L : nf_L} {S : nf_S} {r sv er wk : Nat → Int32} {j : Int32} {a b : Int32} {nl : Nat} (hr : r 6 = nI nl) (hnl : nl ≤ 12) : nf_Sp L 1 yX6_linkOf cX6_linkOf 4 (some .int) [.ref (L.2.2 (8, 0, 0, 0)), .int a, .int b] (mm S r sv er wk j) (some (.int (mf_lnk r a b))) (mm S r sv er wk j) := by
  have h := sp_X6_linkOf (L := L) (S := S) (sv := sv) (er := er) (wk := wk) (j := j) (a := a) (b := b) hr hnl
  unfold mf_lnk
  rw [hr, cf_num_I (by omega)]
  exact h
set_option maxRecDepth 100000 in
set_option maxHeartbeats 4000000 in
theorem sp_X6_acts {L : nf_L} {S : nf_S} {r sv er wk : Nat → Int32} {j : Int32} {h a t : Nat} (hh : h < 6) (ha : a < 30) (ht : t < 30) (et : mf_of r a 4 = nI t) : nf_Sp L 1 yX6_acts cX6_acts 6 none [.ref (L.2.2 (8, 0, 0, 0)), .int (nI h), .int (nI a)] (mm S r sv er wk j) none (mm S (mr_act r h a t) sv er wk j) := by
  refine nf_start (own := RX6) (ls0 := [some (.ref (L.2.2 (8, 0, 0, 0))), some (.int (nI h)), some (.int (nI a)), none, none, none]) (by decide) (Nat.le_of_ble_eq_true rfl) rfl rfl ?_
  refine nf_aln (pc := 0) dX6_acts_0 rfl ?_
  refine nf_iln (pc := 1) dX6_acts_1 rfl ?_
  refine nf_iconst (pc := 2) (v := 4) dX6_acts_2 (by decide) ?_
  refine nf_cVi2 (pc := 3) (sp_X6_of ha (by decide)) rfl rfl rfl mk_X6_62 im_X6_of se_X6_of nm_X6_of ⟨by decide, by decide⟩ (Nat.le_of_ble_eq_true rfl) dX6_acts_3 ?_
  refine nf_topI (y := nI t) et ?_
  refine nf_is3 (pc := 6) dX6_acts_6 rfl (by decide) ?_
  refine nf_aln (pc := 7) dX6_acts_7 rfl ?_
  refine nf_iln (pc := 8) dX6_acts_8 rfl ?_
  refine nf_iconst (pc := 9) (v := 1) dX6_acts_9 (by decide) ?_
  refine nf_cVi2 (pc := 10) (sp_X6_of ha (by decide)) rfl rfl rfl mk_X6_62 im_X6_of se_X6_of nm_X6_of ⟨by decide, by decide⟩ (Nat.le_of_ble_eq_true rfl) dX6_acts_10 ?_
  refine nf_is4 (pc := 13) dX6_acts_13 rfl (by decide) ?_
  refine nf_aln (pc := 15) dX6_acts_15 rfl ?_
  refine nf_iln (pc := 16) dX6_acts_16 rfl ?_
  refine nf_iln (pc := 17) dX6_acts_17 rfl ?_
  refine nf_cVi2 (pc := 18) (sp_X6_isIn hh) rfl rfl rfl mk_X6_65 im_X6_isIn se_X6_isIn nm_X6_isIn ⟨by decide, by decide⟩ (Nat.le_of_ble_eq_true rfl) dX6_acts_18 ?_
  refine nf_if_eqB (pc := 21) 95 dX6_acts_21 (by decide) (fun c_21 => ?_) (fun c_21 => ?_)
  · refine nf_aln (pc := 95) dX6_acts_95 rfl ?_
    refine nf_iln (pc := 96) dX6_acts_96 rfl ?_
    refine nf_iln (pc := 97) dX6_acts_97 rfl ?_
    refine nf_cVi2 (pc := 98) (sp_X6_known hh ht) rfl rfl rfl mk_X6_69 im_X6_known se_X6_known nm_X6_known ⟨by decide, by decide⟩ (Nat.le_of_ble_eq_true rfl) dX6_acts_98 ?_
    refine nf_iconst (pc := 101) (v := (-1)) dX6_acts_101 (by decide) ?_
    refine nf_ic_ne (pc := 102) 127 dX6_acts_102 (by decide) (fun c_102 => ?_) (fun c_102 => ?_)
    · exact nf_to rfl (by simp only [mr_act, c_21, c_102, if_true, if_false, reduceIte, Bool.false_eq_true] <;> rfl) (nf_vret (pc := 127) dX6_acts_127)
    · refine nf_aln (pc := 105) dX6_acts_105 rfl ?_
      refine gf_X6_all (pc := 106) lk_X6_7 dX6_acts_106 ?_
      refine nf_sipush (pc := 109) (v := 386) dX6_acts_109 (by decide) ?_
      refine nf_bipush (pc := 112) (v := 30) dX6_acts_112 (by decide) ?_
      refine nf_iln (pc := 114) dX6_acts_114 rfl ?_
      refine nf_imulI (pc := 115) (a := 30) (b := h) dX6_acts_115 ?_
      refine nf_iaddI (pc := 116) (a := 386) (b := (30 * h)) dX6_acts_116 ?_
      refine nf_iln (pc := 117) dX6_acts_117 rfl ?_
      refine nf_iaddI (pc := 118) (a := (386 + (30 * h))) (b := t) dX6_acts_118 ?_
      refine nf_dup2 (pc := 119) dX6_acts_119 rfl rfl ?_
      refine mo_ld1 (pc := 120) (k := ((386 + (30 * h)) + t)) (by omega) dX6_acts_120 ?_
      refine nf_iconst (pc := 121) (v := 1) dX6_acts_121 (by decide) ?_
      refine nf_il (pc := 122) dX6_acts_122 rfl ?_
      refine nf_ishl (pc := 124) dX6_acts_124 ?_
      refine nf_ior (pc := 125) dX6_acts_125 ?_
      refine mo_st1 (pc := 126) (k := ((386 + (30 * h)) + t)) (by omega) dX6_acts_126 ?_
      exact nf_to rfl (by simp only [mr_act, c_21, c_102, if_true, if_false, reduceIte, Bool.false_eq_true] <;> rfl) (nf_vret (pc := 127) dX6_acts_127)
  · refine nf_aln (pc := 24) dX6_acts_24 rfl ?_
    refine nf_iln (pc := 25) dX6_acts_25 rfl ?_
    refine nf_iconst (pc := 26) (v := 1) dX6_acts_26 (by decide) ?_
    refine nf_cVi2 (pc := 27) (sp_X6_of ht (by decide)) rfl rfl rfl mk_X6_62 im_X6_of se_X6_of nm_X6_of ⟨by decide, by decide⟩ (Nat.le_of_ble_eq_true rfl) dX6_acts_27 ?_
    refine nf_il (pc := 30) dX6_acts_30 rfl ?_
    refine nf_ic_ne (pc := 32) 39 dX6_acts_32 (by decide) (fun c_32 => ?_) (fun c_32 => ?_)
    · refine nf_iconst (pc := 39) (v := 0) dX6_acts_39 (by decide) ?_
      refine nf_is5 (pc := 40) dX6_acts_40 rfl (by decide) ?_
      refine nf_aln (pc := 42) dX6_acts_42 rfl ?_
      refine gf_X6_all (pc := 43) lk_X6_7 dX6_acts_43 ?_
      refine nf_sipush (pc := 46) (v := 380) dX6_acts_46 (by decide) ?_
      refine nf_iln (pc := 49) dX6_acts_49 rfl ?_
      refine nf_iaddI (pc := 50) (a := 380) (b := h) dX6_acts_50 ?_
      refine nf_dup2 (pc := 51) dX6_acts_51 rfl rfl ?_
      refine mo_ld1 (pc := 52) (k := (380 + h)) (by omega) dX6_acts_52 ?_
      refine nf_il (pc := 53) dX6_acts_53 rfl ?_
      refine nf_if_eq (pc := 55) 66 dX6_acts_55 (by decide) (fun _ => ?_) (fun h => absurd h (by decide))
      refine nf_iconst (pc := 66) (v := (-1)) dX6_acts_66 (by decide) ?_
      refine nf_iand (pc := 67) dX6_acts_67 ?_
      refine mo_st1 (pc := 68) (k := (380 + h)) (by omega) dX6_acts_68 ?_
      refine nf_aln (pc := 69) dX6_acts_69 rfl ?_
      refine gf_X6_all (pc := 70) lk_X6_7 dX6_acts_70 ?_
      refine nf_sipush (pc := 73) (v := 566) dX6_acts_73 (by decide) ?_
      refine nf_il (pc := 76) dX6_acts_76 rfl ?_
      refine nf_if_eq (pc := 78) 85 dX6_acts_78 (by decide) (fun _ => ?_) (fun h => absurd h (by decide))
      refine nf_iconst (pc := 85) (v := 5) dX6_acts_85 (by decide) ?_
      refine nf_iadd (pc := 86) dX6_acts_86 ?_
      refine nf_topI (y := 571) (by decide) ?_
      refine nf_dup2 (pc := 87) dX6_acts_87 rfl rfl ?_
      refine mo_ld1 (pc := 88) (k := 571) (by decide) dX6_acts_88 ?_
      refine nf_iconst (pc := 89) (v := 1) dX6_acts_89 (by decide) ?_
      refine nf_iadd (pc := 90) dX6_acts_90 ?_
      refine mo_st1 (pc := 91) (k := 571) (by decide) dX6_acts_91 ?_
      refine nf_goto (pc := 92) 127 dX6_acts_92 (by decide) ?_
      exact nf_to rfl (by simp only [mr_act, c_21, c_32, if_true, if_false, reduceIte, Bool.false_eq_true] <;> rfl) (nf_vret (pc := 127) dX6_acts_127)
    · refine nf_iconst (pc := 35) (v := 1) dX6_acts_35 (by decide) ?_
      refine nf_goto (pc := 36) 40 dX6_acts_36 (by decide) ?_
      refine nf_is5 (pc := 40) dX6_acts_40 rfl (by decide) ?_
      refine nf_aln (pc := 42) dX6_acts_42 rfl ?_
      refine gf_X6_all (pc := 43) lk_X6_7 dX6_acts_43 ?_
      refine nf_sipush (pc := 46) (v := 380) dX6_acts_46 (by decide) ?_
      refine nf_iln (pc := 49) dX6_acts_49 rfl ?_
      refine nf_iaddI (pc := 50) (a := 380) (b := h) dX6_acts_50 ?_
      refine nf_dup2 (pc := 51) dX6_acts_51 rfl rfl ?_
      refine mo_ld1 (pc := 52) (k := (380 + h)) (by omega) dX6_acts_52 ?_
      refine nf_il (pc := 53) dX6_acts_53 rfl ?_
      refine nf_if_eq (pc := 55) 66 dX6_acts_55 (by decide) (fun h => absurd h (by decide)) (fun _ => ?_)
      refine nf_iconst (pc := 58) (v := 1) dX6_acts_58 (by decide) ?_
      refine nf_iln (pc := 59) dX6_acts_59 rfl ?_
      refine nf_ishl (pc := 60) dX6_acts_60 ?_
      refine nf_iconst (pc := 61) (v := (-1)) dX6_acts_61 (by decide) ?_
      refine nf_ixor (pc := 62) dX6_acts_62 ?_
      refine nf_goto (pc := 63) 67 dX6_acts_63 (by decide) ?_
      refine nf_iand (pc := 67) dX6_acts_67 ?_
      refine mo_st1 (pc := 68) (k := (380 + h)) (by omega) dX6_acts_68 ?_
      refine nf_aln (pc := 69) dX6_acts_69 rfl ?_
      refine gf_X6_all (pc := 70) lk_X6_7 dX6_acts_70 ?_
      refine nf_sipush (pc := 73) (v := 566) dX6_acts_73 (by decide) ?_
      refine nf_il (pc := 76) dX6_acts_76 rfl ?_
      refine nf_if_eq (pc := 78) 85 dX6_acts_78 (by decide) (fun h => absurd h (by decide)) (fun _ => ?_)
      refine nf_iconst (pc := 81) (v := 4) dX6_acts_81 (by decide) ?_
      refine nf_goto (pc := 82) 86 dX6_acts_82 (by decide) ?_
      refine nf_iadd (pc := 86) dX6_acts_86 ?_
      refine nf_topI (y := 570) (by decide) ?_
      refine nf_dup2 (pc := 87) dX6_acts_87 rfl rfl ?_
      refine mo_ld1 (pc := 88) (k := 570) (by decide) dX6_acts_88 ?_
      refine nf_iconst (pc := 89) (v := 1) dX6_acts_89 (by decide) ?_
      refine nf_iadd (pc := 90) dX6_acts_90 ?_
      refine mo_st1 (pc := 91) (k := 570) (by decide) dX6_acts_91 ?_
      refine nf_goto (pc := 92) 127 dX6_acts_92 (by decide) ?_
      exact nf_to rfl (by simp only [mr_act, c_21, c_32, if_true, if_false, reduceIte, Bool.false_eq_true] <;> rfl) (nf_vret (pc := 127) dX6_acts_127)
set_option maxRecDepth 100000 in
set_option maxHeartbeats 4000000 in
theorem lp_psh {L : nf_L} {S : nf_S} {sv er wk : Nat → Int32} {j : Int32} {h a nl : Nat} {path pp : Int32} {o4 o5 : Option Value} (hh : h < 6) (hnl : nl ≤ 12) : ∀ (m : Nat) (r : Nat → Int32) (k q : Nat), (k + m = 6) → (r 6 = nI nl) → (r 572 = nI q) → (q + m ≤ 1024) → nf_V L 2 cX6_arrives RX6 8 (some .int) (some (.int 1)) (mm S (mr_psh h a pp m r k) sv er wk j) 211 [some (.ref (L.2.2 (8, 0, 0, 0))), some (.int (nI h)), some (.int (nI a)), some (.int path), o4, o5, some (.int pp), some (.int (nI k))] [] (mm S r sv er wk j) := by
  intro m
  induction m with
  | zero =>
    intro r k q hkm hr hq hqm
    refine nf_il (pc := 211) dX6_arrives_211 rfl ?_
    refine nf_bipush (pc := 213) (v := 6) dX6_arrives_213 (by decide) ?_
    refine nf_ic_ge (pc := 215) 292 dX6_arrives_215 (by decide) (fun c_215 => ?_) (fun c_215 => ?_)
    · refine nf_iconst (pc := 292) (v := 1) dX6_arrives_292 (by decide) ?_
      exact (nf_iret (pc := 293) dX6_arrives_293)
    · exact absurd (nI_le (a := 6) (by omega) (by omega)) c_215
  | succ m ih =>
    intro r k q hkm hr hq hqm
    refine nf_il (pc := 211) dX6_arrives_211 rfl ?_
    refine nf_bipush (pc := 213) (v := 6) dX6_arrives_213 (by decide) ?_
    refine nf_ic_ge (pc := 215) 292 dX6_arrives_215 (by decide) (fun c_215 => ?_) (fun c_215 => ?_)
    · exact absurd c_215 (nI_ge (b := 6) (by omega) (by omega))
    · refine nf_il (pc := 218) dX6_arrives_218 rfl ?_
      refine nf_il (pc := 220) dX6_arrives_220 rfl ?_
      refine nf_ishr (pc := 222) dX6_arrives_222 ?_
      refine nf_iconst (pc := 223) (v := 1) dX6_arrives_223 (by decide) ?_
      refine nf_iand (pc := 224) dX6_arrives_224 ?_
      refine nf_if_ne (pc := 225) 286 dX6_arrives_225 (by decide) (fun c_225 => ?_) (fun c_225 => ?_)
      · refine nf_iinc7 (pc := 286) (v := nI (k + 1)) dX6_arrives_286 (nI_succ (k)).symm rfl (by decide) ?_
        refine nf_goto (pc := 289) 211 dX6_arrives_289 (by decide) ?_
        exact nf_to rfl (by simp only [mr_psh, mr_psh1, c_225, if_true, if_false, reduceIte, Bool.false_eq_true] <;> rfl) (ih _ (k + 1) q (by omega) hr hq (by omega))
      · refine nf_aln (pc := 228) dX6_arrives_228 rfl ?_
        refine nf_iln (pc := 229) dX6_arrives_229 rfl ?_
        refine nf_il (pc := 230) dX6_arrives_230 rfl ?_
        refine nf_cVi2 (pc := 232) (sp_mlnk hr hnl) rfl rfl rfl mk_X6_46 im_X6_linkOf se_X6_linkOf nm_X6_linkOf ⟨by decide, by decide⟩ (Nat.le_of_ble_eq_true rfl) dX6_arrives_232 ?_
        refine nf_iconst (pc := 235) (v := (-1)) dX6_arrives_235 (by decide) ?_
        refine nf_ic_eq (pc := 236) 286 dX6_arrives_236 (by decide) (fun c_236 => ?_) (fun c_236 => ?_)
        · refine nf_iinc7 (pc := 286) (v := nI (k + 1)) dX6_arrives_286 (nI_succ (k)).symm rfl (by decide) ?_
          refine nf_goto (pc := 289) 211 dX6_arrives_289 (by decide) ?_
          exact nf_to rfl (by simp only [mr_psh, mr_psh1, c_225, c_236, if_true, if_false, reduceIte, Bool.false_eq_true] <;> rfl) (ih _ (k + 1) q (by omega) hr hq (by omega))
        · refine nf_aln (pc := 239) dX6_arrives_239 rfl ?_
          refine gf_X6_all (pc := 240) lk_X6_7 dX6_arrives_240 ?_
          refine nf_sipush (pc := 243) (v := 573) dX6_arrives_243 (by decide) ?_
          refine nf_aln (pc := 246) dX6_arrives_246 rfl ?_
          refine gf_X6_all (pc := 247) lk_X6_7 dX6_arrives_247 ?_
          refine nf_sipush (pc := 250) (v := 572) dX6_arrives_250 (by decide) ?_
          refine mo_ld1 (pc := 253) (k := 572) (by decide) dX6_arrives_253 ?_
          refine nf_topI (y := nI (q)) hq ?_
          refine nf_iaddI (pc := 254) (a := 573) (b := q) dX6_arrives_254 ?_
          refine nf_iln (pc := 255) dX6_arrives_255 rfl ?_
          refine nf_bipush (pc := 256) (v := 12) dX6_arrives_256 (by decide) ?_
          refine nf_ishl (pc := 258) dX6_arrives_258 ?_
          refine nf_iln (pc := 259) dX6_arrives_259 rfl ?_
          refine nf_bipush (pc := 260) (v := 9) dX6_arrives_260 (by decide) ?_
          refine nf_ishl (pc := 262) dX6_arrives_262 ?_
          refine nf_ior (pc := 263) dX6_arrives_263 ?_
          refine nf_il (pc := 264) dX6_arrives_264 rfl ?_
          refine nf_bipush (pc := 266) (v := 6) dX6_arrives_266 (by decide) ?_
          refine nf_ishl (pc := 268) dX6_arrives_268 ?_
          refine nf_ior (pc := 269) dX6_arrives_269 ?_
          refine nf_il (pc := 270) dX6_arrives_270 rfl ?_
          refine nf_ior (pc := 272) dX6_arrives_272 ?_
          refine mo_st1 (pc := 273) (k := (573 + q)) (by omega) dX6_arrives_273 ?_
          refine nf_aln (pc := 274) dX6_arrives_274 rfl ?_
          refine gf_X6_all (pc := 275) lk_X6_7 dX6_arrives_275 ?_
          refine nf_sipush (pc := 278) (v := 572) dX6_arrives_278 (by decide) ?_
          refine nf_dup2 (pc := 281) dX6_arrives_281 rfl rfl ?_
          refine mo_ld1 (pc := 282) (k := 572) (by decide) dX6_arrives_282 ?_
          refine nf_iconst (pc := 283) (v := 1) dX6_arrives_283 (by decide) ?_
          refine nf_iadd (pc := 284) dX6_arrives_284 ?_
          refine mo_st1 (pc := 285) (k := 572) (by decide) dX6_arrives_285 ?_
          refine nf_from (S' := mm S (mr_add r (mf_pack a h k pp)) sv er wk j) (by simp only [mr_add, mr_inc, hq, cf_num_I (show q < 2 ^ 31 by omega)] <;> rfl) ?_
          refine nf_iinc7 (pc := 286) (v := nI (k + 1)) dX6_arrives_286 (nI_succ (k)).symm rfl (by decide) ?_
          refine nf_goto (pc := 289) 211 dX6_arrives_289 (by decide) ?_
          refine nf_to rfl (by simp only [mr_psh, mr_psh1, c_225, c_236, if_true, if_false, reduceIte, Bool.false_eq_true] <;> rfl) (ih _ (k + 1) (q + 1) (by omega) ?_ ?_ (by omega))
          · rw [← hr]; simp only [mr_add, mr_inc, upd]; rw [if_neg (by omega), if_neg (by omega)]
          · rw [nf_add, ← hq]; simp only [mr_add, mr_inc, upd]; rw [if_pos trivial, if_neg (by omega)]; rfl
set_option maxRecDepth 100000 in
set_option maxHeartbeats 4000000 in
theorem sp_X6_arrives {L : nf_L} {S : nf_S} {r sv er wk : Nat → Int32} {j : Int32} {h a nl na q : Nat} {path : Int32} (hk : mr_ok r nl na q) (hh : h < 6) (ha : a < na) : nf_Sp L 2 yX6_arrives cX6_arrives 8 (some .int) [.ref (L.2.2 (8, 0, 0, 0)), .int (nI h), .int (nI a), .int path] (mm S r sv er wk j) (some (.int (mr_arr r h a path).2)) (mm S (mr_arr r h a path).1 sv er wk j) := by
  have ha30 : a < 30 := Nat.lt_of_lt_of_le ha hk.2.1
  refine nf_start (own := RX6) (ls0 := [some (.ref (L.2.2 (8, 0, 0, 0))), some (.int (nI h)), some (.int (nI a)), some (.int path), none, none, none, none]) (by decide) (Nat.le_of_ble_eq_true rfl) rfl rfl ?_
  refine nf_aln (pc := 0) dX6_arrives_0 rfl ?_
  refine nf_iln (pc := 1) dX6_arrives_1 rfl ?_
  refine nf_iln (pc := 2) dX6_arrives_2 rfl ?_
  refine nf_cVi2 (pc := 3) (sp_X6_known hh ha30) rfl rfl rfl mk_X6_69 im_X6_known se_X6_known nm_X6_known ⟨by decide, by decide⟩ (Nat.le_of_ble_eq_true rfl) dX6_arrives_3 ?_
  refine nf_iconst (pc := 6) (v := (-1)) dX6_arrives_6 (by decide) ?_
  refine nf_ic_eq (pc := 7) 24 dX6_arrives_7 (by decide) (fun c_7 => ?_) (fun c_7 => ?_)
  · refine nf_aln (pc := 24) dX6_arrives_24 rfl ?_
    refine gf_X6_all (pc := 25) lk_X6_7 dX6_arrives_25 ?_
    refine nf_iconst (pc := 28) (v := 0) dX6_arrives_28 (by decide) ?_
    refine mo_ld1 (pc := 29) (k := 0) (by decide) dX6_arrives_29 ?_
    refine nf_aln (pc := 30) dX6_arrives_30 rfl ?_
    refine nf_iln (pc := 31) dX6_arrives_31 rfl ?_
    refine nf_iconst (pc := 32) (v := 2) dX6_arrives_32 (by decide) ?_
    refine nf_cVi2 (pc := 33) (sp_X6_of ha30 (by decide)) rfl rfl rfl mk_X6_62 im_X6_of se_X6_of nm_X6_of ⟨by decide, by decide⟩ (Nat.le_of_ble_eq_true rfl) dX6_arrives_33 ?_
    refine nf_isub (pc := 36) dX6_arrives_36 ?_
    refine nf_aln (pc := 37) dX6_arrives_37 rfl ?_
    refine gf_X6_all (pc := 38) lk_X6_7 dX6_arrives_38 ?_
    refine nf_iconst (pc := 41) (v := 1) dX6_arrives_41 (by decide) ?_
    refine mo_ld1 (pc := 42) (k := 1) (by decide) dX6_arrives_42 ?_
    refine nf_ic_lt (pc := 43) 60 dX6_arrives_43 (by decide) (fun c_43 => ?_) (fun c_43 => ?_)
    · refine nf_aln (pc := 60) dX6_arrives_60 rfl ?_
      refine gf_X6_all (pc := 61) lk_X6_7 dX6_arrives_61 ?_
      refine nf_sipush (pc := 64) (v := 200) dX6_arrives_64 (by decide) ?_
      refine nf_bipush (pc := 67) (v := 30) dX6_arrives_67 (by decide) ?_
      refine nf_iln (pc := 69) dX6_arrives_69 rfl ?_
      refine nf_imulI (pc := 70) (a := 30) (b := h) dX6_arrives_70 ?_
      refine nf_iaddI (pc := 71) (a := 200) (b := (30 * h)) dX6_arrives_71 ?_
      refine nf_iln (pc := 72) dX6_arrives_72 rfl ?_
      refine nf_iaddI (pc := 73) (a := (200 + (30 * h))) (b := a) dX6_arrives_73 ?_
      refine nf_aln (pc := 74) dX6_arrives_74 rfl ?_
      refine gf_X6_all (pc := 75) lk_X6_7 dX6_arrives_75 ?_
      refine nf_iconst (pc := 78) (v := 0) dX6_arrives_78 (by decide) ?_
      refine mo_ld1 (pc := 79) (k := 0) (by decide) dX6_arrives_79 ?_
      refine mo_st1 (pc := 80) (k := ((200 + (30 * h)) + a)) (by omega) dX6_arrives_80 ?_
      refine nf_from (S' := mm S (upd r (200 + 30 * h + a) (r 0)) sv er wk j) rfl ?_
      refine nf_aln (pc := 81) dX6_arrives_81 rfl ?_
      refine nf_iln (pc := 82) dX6_arrives_82 rfl ?_
      refine nf_iconst (pc := 83) (v := 1) dX6_arrives_83 (by decide) ?_
      refine nf_cVi2 (pc := 84) (sp_X6_of ha30 (by decide)) rfl rfl rfl mk_X6_62 im_X6_of se_X6_of nm_X6_of ⟨by decide, by decide⟩ (Nat.le_of_ble_eq_true rfl) dX6_arrives_84 ?_
      refine nf_is4 (pc := 87) dX6_arrives_87 rfl (by decide) ?_
      refine nf_sipush (pc := 89) (v := 386) dX6_arrives_89 (by decide) ?_
      refine nf_bipush (pc := 92) (v := 30) dX6_arrives_92 (by decide) ?_
      refine nf_iln (pc := 94) dX6_arrives_94 rfl ?_
      refine nf_imulI (pc := 95) (a := 30) (b := h) dX6_arrives_95 ?_
      refine nf_iaddI (pc := 96) (a := 386) (b := (30 * h)) dX6_arrives_96 ?_
      refine nf_iln (pc := 97) dX6_arrives_97 rfl ?_
      refine nf_iaddI (pc := 98) (a := (386 + (30 * h))) (b := a) dX6_arrives_98 ?_
      refine nf_is5 (pc := 99) dX6_arrives_99 rfl (by decide) ?_
      refine nf_aln (pc := 101) dX6_arrives_101 rfl ?_
      refine gf_X6_all (pc := 102) lk_X6_7 dX6_arrives_102 ?_
      refine nf_il (pc := 105) dX6_arrives_105 rfl ?_
      refine mo_ld1 (pc := 107) (k := ((386 + (30 * h)) + a)) (by omega) dX6_arrives_107 ?_
      refine nf_il (pc := 108) dX6_arrives_108 rfl ?_
      refine nf_ishr (pc := 110) dX6_arrives_110 ?_
      refine nf_iconst (pc := 111) (v := 1) dX6_arrives_111 (by decide) ?_
      refine nf_iand (pc := 112) dX6_arrives_112 ?_
      refine nf_iconst (pc := 113) (v := 1) dX6_arrives_113 (by decide) ?_
      refine nf_ic_ne (pc := 114) 147 dX6_arrives_114 (by decide) (fun c_114 => ?_) (fun c_114 => ?_)
      · refine nf_aln (pc := 147) dX6_arrives_147 rfl ?_
        refine gf_X6_all (pc := 148) lk_X6_7 dX6_arrives_148 ?_
        refine nf_bipush (pc := 151) (v := 43) dX6_arrives_151 (by decide) ?_
        refine nf_iln (pc := 153) dX6_arrives_153 rfl ?_
        refine nf_iaddI (pc := 154) (a := 43) (b := h) dX6_arrives_154 ?_
        refine mo_ld1 (pc := 155) (k := (43 + h)) (by omega) dX6_arrives_155 ?_
        refine nf_aln (pc := 156) dX6_arrives_156 rfl ?_
        refine nf_iln (pc := 157) dX6_arrives_157 rfl ?_
        refine nf_iconst (pc := 158) (v := 0) dX6_arrives_158 (by decide) ?_
        refine nf_cVi2 (pc := 159) (sp_X6_of ha30 (by decide)) rfl rfl rfl mk_X6_62 im_X6_of se_X6_of nm_X6_of ⟨by decide, by decide⟩ (Nat.le_of_ble_eq_true rfl) dX6_arrives_159 ?_
        refine nf_ishr (pc := 162) dX6_arrives_162 ?_
        refine nf_iconst (pc := 163) (v := 1) dX6_arrives_163 (by decide) ?_
        refine nf_iand (pc := 164) dX6_arrives_164 ?_
        refine nf_if_ne (pc := 165) 170 dX6_arrives_165 (by decide) (fun c_165 => ?_) (fun c_165 => ?_)
        · refine nf_aln (pc := 170) dX6_arrives_170 rfl ?_
          refine gf_X6_all (pc := 171) lk_X6_7 dX6_arrives_171 ?_
          refine nf_sipush (pc := 174) (v := 380) dX6_arrives_174 (by decide) ?_
          refine nf_iln (pc := 177) dX6_arrives_177 rfl ?_
          refine nf_iaddI (pc := 178) (a := 380) (b := h) dX6_arrives_178 ?_
          refine nf_dup2 (pc := 179) dX6_arrives_179 rfl rfl ?_
          refine mo_ld1 (pc := 180) (k := (380 + h)) (by omega) dX6_arrives_180 ?_
          refine nf_iconst (pc := 181) (v := 1) dX6_arrives_181 (by decide) ?_
          refine nf_iln (pc := 182) dX6_arrives_182 rfl ?_
          refine nf_ishl (pc := 183) dX6_arrives_183 ?_
          refine nf_ior (pc := 184) dX6_arrives_184 ?_
          refine mo_st1 (pc := 185) (k := (380 + h)) (by omega) dX6_arrives_185 ?_
          refine nf_from (S' := mm S (upd (upd r (200 + 30 * h + a) (r 0)) (380 + h) ((upd r (200 + 30 * h + a) (r 0)) (380 + h) ||| cf_bit (nI a))) sv er wk j) rfl ?_
          have hk1 : mr_ok (upd (upd r (200 + 30 * h + a) (r 0)) (380 + h) ((upd r (200 + 30 * h + a) (r 0)) (380 + h) ||| cf_bit (nI a))) nl na q := hk.mid ((mr_mid_upd r _ _ (by omega) (by omega)).trans (mr_mid_upd _ _ _ (by omega) (by omega)))
          refine nf_aln (pc := 186) dX6_arrives_186 rfl ?_
          refine nf_iln (pc := 187) dX6_arrives_187 rfl ?_
          refine nf_iconst (pc := 188) (v := 3) dX6_arrives_188 (by decide) ?_
          refine nf_cVi2 (pc := 189) (sp_X6_of ha30 (by decide)) rfl rfl rfl mk_X6_62 im_X6_of se_X6_of nm_X6_of ⟨by decide, by decide⟩ (Nat.le_of_ble_eq_true rfl) dX6_arrives_189 ?_
          refine nf_if_eq (pc := 192) 201 dX6_arrives_192 (by decide) (fun c_192 => ?_) (fun c_192 => ?_)
          · refine nf_iln (pc := 201) dX6_arrives_201 rfl ?_
            refine nf_iconst (pc := 202) (v := 1) dX6_arrives_202 (by decide) ?_
            refine nf_iln (pc := 203) dX6_arrives_203 rfl ?_
            refine nf_ishl (pc := 204) dX6_arrives_204 ?_
            refine nf_ior (pc := 205) dX6_arrives_205 ?_
            refine nf_is6 (pc := 206) dX6_arrives_206 rfl (by decide) ?_
            refine nf_iconst (pc := 208) (v := 0) dX6_arrives_208 (by decide) ?_
            refine nf_is7 (pc := 209) dX6_arrives_209 rfl (by decide) ?_
            exact nf_to (by simp only [mr_arr, mr_arr2, mr_arr3, mr_arr4, c_7, c_43, c_114, c_165, c_192, if_true, if_false, reduceIte, Bool.false_eq_true] <;> rfl) (by simp only [mr_arr, mr_arr2, mr_arr3, mr_arr4, c_7, c_43, c_114, c_165, c_192, if_true, if_false, reduceIte, Bool.false_eq_true] <;> rfl) (lp_psh hh hk.1 6 _ 0 q (by omega) hk1.2.2.2.1 hk1.2.2.2.2.2.1 (by have := hk.2.2.1; omega))
          · obtain ⟨t, ht, et⟩ := (hk1.2.2.2.2.2.2.1 a ha).resolve_left c_192
            refine nf_aln (pc := 195) dX6_arrives_195 rfl ?_
            refine nf_iln (pc := 196) dX6_arrives_196 rfl ?_
            refine nf_iln (pc := 197) dX6_arrives_197 rfl ?_
            refine nf_cVv2 (pc := 198) (sp_X6_acts hh ha30 ht et) rfl rfl rfl mk_X6_72 im_X6_acts se_X6_acts nm_X6_acts ⟨by decide, by decide⟩ (Nat.le_of_ble_eq_true rfl) dX6_arrives_198 ?_
            refine nf_from (S' := mm S (mr_act (upd (upd r (200 + 30 * h + a) (r 0)) (380 + h) ((upd r (200 + 30 * h + a) (r 0)) (380 + h) ||| cf_bit (nI a))) h a (cf_num (mf_of (upd (upd r (200 + 30 * h + a) (r 0)) (380 + h) ((upd r (200 + 30 * h + a) (r 0)) (380 + h) ||| cf_bit (nI a))) a 4))) sv er wk j) (by rw [et, cf_num_I (by omega)]) ?_
            have hk1 := hk1.mid (mr_mid_act (upd (upd r (200 + 30 * h + a) (r 0)) (380 + h) ((upd r (200 + 30 * h + a) (r 0)) (380 + h) ||| cf_bit (nI a))) h a (cf_num (mf_of (upd (upd r (200 + 30 * h + a) (r 0)) (380 + h) ((upd r (200 + 30 * h + a) (r 0)) (380 + h) ||| cf_bit (nI a))) a 4)) hh (by rw [et, cf_num_I (by omega)]; exact ht))
            refine nf_iln (pc := 201) dX6_arrives_201 rfl ?_
            refine nf_iconst (pc := 202) (v := 1) dX6_arrives_202 (by decide) ?_
            refine nf_iln (pc := 203) dX6_arrives_203 rfl ?_
            refine nf_ishl (pc := 204) dX6_arrives_204 ?_
            refine nf_ior (pc := 205) dX6_arrives_205 ?_
            refine nf_is6 (pc := 206) dX6_arrives_206 rfl (by decide) ?_
            refine nf_iconst (pc := 208) (v := 0) dX6_arrives_208 (by decide) ?_
            refine nf_is7 (pc := 209) dX6_arrives_209 rfl (by decide) ?_
            exact nf_to (by simp only [mr_arr, mr_arr2, mr_arr3, mr_arr4, c_7, c_43, c_114, c_165, c_192, if_true, if_false, reduceIte, Bool.false_eq_true] <;> rfl) (by simp only [mr_arr, mr_arr2, mr_arr3, mr_arr4, c_7, c_43, c_114, c_165, c_192, if_true, if_false, reduceIte, Bool.false_eq_true] <;> rfl) (lp_psh hh hk.1 6 _ 0 q (by omega) hk1.2.2.2.1 hk1.2.2.2.2.2.1 (by have := hk.2.2.1; omega))
        · refine nf_iconst (pc := 168) (v := 0) dX6_arrives_168 (by decide) ?_
          exact nf_to (by simp only [mr_arr, mr_arr2, c_7, c_43, c_114, c_165, if_true, if_false, reduceIte, Bool.false_eq_true] <;> rfl) (by simp only [mr_arr, mr_arr2, c_7, c_43, c_114, c_165, if_true, if_false, reduceIte, Bool.false_eq_true] <;> rfl) (nf_iret (pc := 169) dX6_arrives_169)
      · refine nf_aln (pc := 117) dX6_arrives_117 rfl ?_
        refine gf_X6_all (pc := 118) lk_X6_7 dX6_arrives_118 ?_
        refine nf_il (pc := 121) dX6_arrives_121 rfl ?_
        refine nf_dup2 (pc := 123) dX6_arrives_123 rfl rfl ?_
        refine mo_ld1 (pc := 124) (k := ((386 + (30 * h)) + a)) (by omega) dX6_arrives_124 ?_
        refine nf_iconst (pc := 125) (v := 1) dX6_arrives_125 (by decide) ?_
        refine nf_il (pc := 126) dX6_arrives_126 rfl ?_
        refine nf_ishl (pc := 128) dX6_arrives_128 ?_
        refine nf_iconst (pc := 129) (v := (-1)) dX6_arrives_129 (by decide) ?_
        refine nf_ixor (pc := 130) dX6_arrives_130 ?_
        refine nf_iand (pc := 131) dX6_arrives_131 ?_
        refine mo_st1 (pc := 132) (k := ((386 + (30 * h)) + a)) (by omega) dX6_arrives_132 ?_
        refine nf_aln (pc := 133) dX6_arrives_133 rfl ?_
        refine gf_X6_all (pc := 134) lk_X6_7 dX6_arrives_134 ?_
        refine nf_sipush (pc := 137) (v := 570) dX6_arrives_137 (by decide) ?_
        refine nf_dup2 (pc := 140) dX6_arrives_140 rfl rfl ?_
        refine mo_ld1 (pc := 141) (k := 570) (by decide) dX6_arrives_141 ?_
        refine nf_iconst (pc := 142) (v := 1) dX6_arrives_142 (by decide) ?_
        refine nf_iadd (pc := 143) dX6_arrives_143 ?_
        refine mo_st1 (pc := 144) (k := 570) (by decide) dX6_arrives_144 ?_
        refine nf_iconst (pc := 145) (v := 0) dX6_arrives_145 (by decide) ?_
        exact nf_to (by simp only [mr_arr, mr_arr2, c_7, c_43, c_114, if_true, if_false, reduceIte, Bool.false_eq_true] <;> rfl) (by simp only [mr_arr, mr_arr2, c_7, c_43, c_114, if_true, if_false, reduceIte, Bool.false_eq_true] <;> rfl) (nf_iret (pc := 146) dX6_arrives_146)
    · refine nf_aln (pc := 46) dX6_arrives_46 rfl ?_
      refine gf_X6_all (pc := 47) lk_X6_7 dX6_arrives_47 ?_
      refine nf_sipush (pc := 50) (v := 569) dX6_arrives_50 (by decide) ?_
      refine nf_dup2 (pc := 53) dX6_arrives_53 rfl rfl ?_
      refine mo_ld1 (pc := 54) (k := 569) (by decide) dX6_arrives_54 ?_
      refine nf_iconst (pc := 55) (v := 1) dX6_arrives_55 (by decide) ?_
      refine nf_iadd (pc := 56) dX6_arrives_56 ?_
      refine mo_st1 (pc := 57) (k := 569) (by decide) dX6_arrives_57 ?_
      refine nf_iconst (pc := 58) (v := 0) dX6_arrives_58 (by decide) ?_
      exact nf_to (by simp only [mr_arr, c_7, c_43, if_true, if_false, reduceIte, Bool.false_eq_true] <;> rfl) (by simp only [mr_arr, c_7, c_43, if_true, if_false, reduceIte, Bool.false_eq_true] <;> rfl) (nf_iret (pc := 59) dX6_arrives_59)
  · refine nf_aln (pc := 10) dX6_arrives_10 rfl ?_
    refine gf_X6_all (pc := 11) lk_X6_7 dX6_arrives_11 ?_
    refine nf_sipush (pc := 14) (v := 568) dX6_arrives_14 (by decide) ?_
    refine nf_dup2 (pc := 17) dX6_arrives_17 rfl rfl ?_
    refine mo_ld1 (pc := 18) (k := 568) (by decide) dX6_arrives_18 ?_
    refine nf_iconst (pc := 19) (v := 1) dX6_arrives_19 (by decide) ?_
    refine nf_iadd (pc := 20) dX6_arrives_20 ?_
    refine mo_st1 (pc := 21) (k := 568) (by decide) dX6_arrives_21 ?_
    refine nf_iconst (pc := 22) (v := 0) dX6_arrives_22 (by decide) ?_
    exact nf_to (by simp only [mr_arr, c_7, if_true, if_false, reduceIte, Bool.false_eq_true] <;> rfl) (by simp only [mr_arr, c_7, if_true, if_false, reduceIte, Bool.false_eq_true] <;> rfl) (nf_iret (pc := 23) dX6_arrives_23)
theorem mf_in_iff (v a b : Int64) : mf_in v a b = true ↔ a.toInt ≤ v.toInt ∧ v.toInt ≤ b.toInt := by
  simp only [mf_in, Bool.and_eq_true, Bool.not_eq_true', decide_eq_false_iff_not, lg_cmp_lt, lg_cmp_gt, Int64.lt_iff_toInt_lt]
  omega
theorem cf_below_iff {x : Int32} {n : Nat} (hn : n < 2 ^ 31) : cf_below x (nI n) = true ↔ 0 ≤ x.toInt ∧ x.toInt < (n : Int) := by
  simp only [cf_below, Bool.and_eq_true, Bool.not_eq_true', decide_eq_false_iff_not, Int32.lt_iff_toInt_lt, Int32.le_iff_toInt_le, nI_toInt hn]
  rw [show (0 : Int32).toInt = 0 from by decide]
  omega
theorem mf_bool {a b : Bool} (h : a = true ↔ b = true) : a = b := by cases a <;> cases b <;> simp_all
theorem mf_in_5 (x : Int32) : mf_in x.toInt64 0 5 = cf_below x 6 := mf_bool (by
  rw [mf_in_iff, show (6 : Int32) = nI 6 from rfl, cf_below_iff (by decide), Int32.toInt_toInt64, show (0 : Int64).toInt = 0 from by decide, show (5 : Int64).toInt = 5 from by decide]; omega)
theorem mf_in_3 (x : Int32) : mf_in x.toInt64 0 3 = cf_below x 4 := mf_bool (by
  rw [mf_in_iff, show (4 : Int32) = nI 4 from rfl, cf_below_iff (by decide), Int32.toInt_toInt64, show (0 : Int64).toInt = 0 from by decide, show (3 : Int64).toInt = 3 from by decide]; omega)
theorem mf_in_1 (x : Int32) : mf_in x.toInt64 0 1 = cf_below x 2 := mf_bool (by
  rw [mf_in_iff, show (2 : Int32) = nI 2 from rfl, cf_below_iff (by decide), Int32.toInt_toInt64, show (0 : Int64).toInt = 0 from by decide, show (1 : Int64).toInt = 1 from by decide]; omega)
theorem mf_in_9 (x : Int32) : mf_in x.toInt64 0 9 = cf_below x 10 := mf_bool (by
  rw [mf_in_iff, show (10 : Int32) = nI 10 from rfl, cf_below_iff (by decide), Int32.toInt_toInt64, show (0 : Int64).toInt = 0 from by decide, show (9 : Int64).toInt = 9 from by decide]; omega)
theorem mf_pred {n : Nat} (hn : n < 2 ^ 31) : (nI n - 1).toInt = (n : Int) - 1 := by
  cases n with
  | zero => decide
  | succ k => rw [nf_succ_sub, nI_toInt (by omega)]; omega
theorem mf_in_n (x : Int32) {n : Nat} (hn : n < 2 ^ 31) : mf_in x.toInt64 0 (nI n - 1).toInt64 = cf_below x (nI n) := mf_bool (by
  rw [mf_in_iff, cf_below_iff hn, Int32.toInt_toInt64, Int32.toInt_toInt64, mf_pred hn, show (0 : Int64).toInt = 0 from by decide]; omega)
theorem mf_in_30 (x : Int32) : mf_in x.toInt64 1 30 = cf_limit x := mf_bool (by
  rw [mf_in_iff, Int32.toInt_toInt64, show (1 : Int64).toInt = 1 from by decide, show (30 : Int64).toInt = 30 from by decide]
  simp only [cf_limit, Bool.and_eq_true, Bool.not_eq_true', decide_eq_false_iff_not, Int32.lt_iff_toInt_lt]
  rw [show (1 : Int32).toInt = 1 from by decide, show (30 : Int32).toInt = 30 from by decide]; omega)
theorem mf_in_15 (x : Int32) : mf_in x.toInt64 0 15 = (!decide (x < 0) && decide (x ≤ 15)) := mf_bool (by
  rw [mf_in_iff, Int32.toInt_toInt64, show (0 : Int64).toInt = 0 from by decide, show (15 : Int64).toInt = 15 from by decide]
  simp only [Bool.and_eq_true, Bool.not_eq_true', decide_eq_false_iff_not, decide_eq_true_eq, Int32.lt_iff_toInt_lt, Int32.le_iff_toInt_le]
  rw [show (0 : Int32).toInt = 0 from by decide, show (15 : Int32).toInt = 15 from by decide]; omega)
theorem mf_in_2 (x : Int32) : mf_in x.toInt64 1 2 = (!decide (x < 1) && !decide (2 < x)) := mf_bool (by
  rw [mf_in_iff, Int32.toInt_toInt64, show (1 : Int64).toInt = 1 from by decide, show (2 : Int64).toInt = 2 from by decide]
  simp only [Bool.and_eq_true, Bool.not_eq_true', decide_eq_false_iff_not, Int32.lt_iff_toInt_lt]
  rw [show (1 : Int32).toInt = 1 from by decide, show (2 : Int32).toInt = 2 from by decide]; omega)
theorem mf_in_e (x : Int32) : mf_in x.toInt64 (-5) (-2) = cf_below (cf_slot x) 4 := mf_bool (by
  rw [mf_in_iff, show (4 : Int32) = nI 4 from rfl, cf_below_iff (by decide), Int32.toInt_toInt64, show (-5 : Int64).toInt = -5 from by decide, show (-2 : Int64).toInt = -2 from by decide]
  unfold cf_slot
  have h5 : (-5 : Int32).toInt = -5 := by decide
  have h2 : (-2 : Int32).toInt = -2 := by decide
  have h1 : (-1 : Int32).toInt = -1 := by decide
  split
  · rename_i h
    rw [Int32.lt_iff_toInt_lt, h5] at h
    rw [h1]; omega
  · rename_i h
    rw [Int32.lt_iff_toInt_lt, h5] at h
    split
    · rename_i h'
      rw [Int32.lt_iff_toInt_lt, h2] at h'
      rw [h1]; omega
    · rename_i h'
      rw [Int32.lt_iff_toInt_lt, h2] at h'
      have h9 : (-2 - x : Int32).toInt = -2 - x.toInt := by
        rw [Int32.toInt_sub, h2, Int.bmod_eq_of_le (by omega) (by omega)]
      rw [h9]; omega)
def mr_app (r : Nat → Int32) (na : Nat) (g a e t : Int32) : Nat → Int32 := upd (upd (upd (upd (upd (upd r (50 + 5 * na) g) (50 + 5 * na + 1) a) (50 + 5 * na + 2) (r 0)) (50 + 5 * na + 3) e) (50 + 5 * na + 4) t) 49 (nI (na + 1))
theorem mr_app_of (r : Nat → Int32) (na : Nat) (g a e t : Int32) (x y : Nat) (hy : y < 5) : mf_of (mr_app r na g a e t) x y = if x = na then (if y = 0 then g else if y = 1 then a else if y = 2 then r 0 else if y = 3 then e else t) else mf_of r x y := by
  simp only [mf_of, mr_app, upd]
  rw [if_neg (by omega)]
  by_cases hx : x = na
  · subst hx
    rw [if_pos rfl]
    rcases (show y = 0 ∨ y = 1 ∨ y = 2 ∨ y = 3 ∨ y = 4 by omega) with rfl | rfl | rfl | rfl | rfl
    · rw [if_neg (by omega), if_neg (by omega), if_neg (by omega), if_neg (by omega), if_pos (by omega)]; simp
    · rw [if_neg (by omega), if_neg (by omega), if_neg (by omega), if_pos (by omega)]; simp
    · rw [if_neg (by omega), if_neg (by omega), if_pos (by omega)]; simp
    · rw [if_neg (by omega), if_pos (by omega)]; simp
    · rw [if_pos (by omega)]; simp
  · rw [if_neg (by omega), if_neg (by omega), if_neg (by omega), if_neg (by omega), if_neg (by omega), if_neg hx]
theorem mr_app_far (r : Nat → Int32) (na : Nat) (g a e t : Int32) (i : Nat) (hi : i < 49 ∨ 200 ≤ i) (hna : na < 30) : mr_app r na g a e t i = r i := by
  simp only [mr_app, upd]
  rw [if_neg (by omega), if_neg (by omega), if_neg (by omega), if_neg (by omega), if_neg (by omega), if_neg (by omega)]
theorem mr_ok_app {r : Nat → Int32} {nl na q : Nat} {g a e t : Int32} (h : mr_ok r nl na q) (hna : na < 30) (hg : ∃ x, x < 4 ∧ g = nI x) (ht : e = 0 ∨ ∃ x, x < 30 ∧ t = nI x) : mr_ok (mr_app r na g a e t) nl (na + 1) q := by
  obtain ⟨h1, h2, h3, h4, h5, h6, h7, h8⟩ := h
  refine ⟨h1, hna, h3, by rw [mr_app_far _ _ _ _ _ _ _ (by omega) hna]; exact h4, by simp [mr_app, upd], by rw [mr_app_far _ _ _ _ _ _ _ (by omega) hna]; exact h6, fun x hx => ?_, fun x hx => ?_⟩
  · rw [mr_app_of _ _ _ _ _ _ _ _ (by decide), mr_app_of _ _ _ _ _ _ _ _ (by decide)]
    by_cases hx2 : x = na
    · simpa [hx2] using ht
    · simpa [hx2] using h7 x (by omega)
  · rw [mr_app_of _ _ _ _ _ _ _ _ (by decide)]
    by_cases hx2 : x = na
    · simpa [hx2] using hg
    · simpa [hx2] using h8 x hx
set_option maxRecDepth 100000 in
set_option maxHeartbeats 4000000 in
theorem sp_X6_posts {L : nf_L} {S : nf_S} {r sv er wk : Nat → Int32} {c nl na q : Nat} {h : Nat} {g a e t : Int32} (hk : mr_ok r nl na q) (hc : c ≤ 4) (hna : na < 30) (hh : h < 6) (hg : ∃ x, x < 4 ∧ g = nI x) (ht : e = 0 ∨ ∃ x, x < 30 ∧ t = nI x) : nf_Sp L 3 yX6_posts cX6_posts 9 (some .int) [.ref (L.2.2 (8, 0, 0, 0)), .int (nI h), .int g, .int a, .int e, .int t] (mm S r sv er wk (nI c)) (some (.int (nI na))) (mm S (mr_arr (mr_app r na g a e t) h na 0).1 (ms_save sv r c) er wk (nI (ms_cnt c))) := by
  refine nf_start (own := RX6) (ls0 := [some (.ref (L.2.2 (8, 0, 0, 0))), some (.int (nI h)), some (.int g), some (.int a), some (.int e), some (.int t), none, none, none]) (by decide) (Nat.le_of_ble_eq_true rfl) rfl rfl ?_
  refine nf_aln (pc := 0) dX6_posts_0 rfl ?_
  refine nf_cVv0 (pc := 1) (sp_X6_save hc) rfl rfl rfl mk_X6_49 im_X6_save se_X6_save nm_X6_save ⟨by decide, by decide⟩ (Nat.le_of_ble_eq_true rfl) dX6_posts_1 ?_
  refine nf_aln (pc := 4) dX6_posts_4 rfl ?_
  refine gf_X6_all (pc := 5) lk_X6_7 dX6_posts_5 ?_
  refine nf_bipush (pc := 8) (v := 49) dX6_posts_8 (by decide) ?_
  refine mo_ld1 (pc := 10) (k := 49) (by decide) dX6_posts_10 ?_
  refine nf_topI (y := nI (na)) hk.2.2.2.2.1 ?_
  refine nf_is6 (pc := 11) dX6_posts_11 rfl (by decide) ?_
  refine nf_bipush (pc := 13) (v := 50) dX6_posts_13 (by decide) ?_
  refine nf_iconst (pc := 15) (v := 5) dX6_posts_15 (by decide) ?_
  refine nf_il (pc := 16) dX6_posts_16 rfl ?_
  refine nf_imulI (pc := 18) (a := 5) (b := na) dX6_posts_18 ?_
  refine nf_iaddI (pc := 19) (a := 50) (b := (5 * na)) dX6_posts_19 ?_
  refine nf_is7 (pc := 20) dX6_posts_20 rfl (by decide) ?_
  refine nf_aln (pc := 22) dX6_posts_22 rfl ?_
  refine gf_X6_all (pc := 23) lk_X6_7 dX6_posts_23 ?_
  refine nf_il (pc := 26) dX6_posts_26 rfl ?_
  refine nf_iln (pc := 28) dX6_posts_28 rfl ?_
  refine mo_st1 (pc := 29) (k := (50 + (5 * na))) (by omega) dX6_posts_29 ?_
  refine nf_aln (pc := 30) dX6_posts_30 rfl ?_
  refine gf_X6_all (pc := 31) lk_X6_7 dX6_posts_31 ?_
  refine nf_il (pc := 34) dX6_posts_34 rfl ?_
  refine nf_iconst (pc := 36) (v := 1) dX6_posts_36 (by decide) ?_
  refine nf_iaddI (pc := 37) (a := (50 + (5 * na))) (b := 1) dX6_posts_37 ?_
  refine nf_iln (pc := 38) dX6_posts_38 rfl ?_
  refine mo_st1 (pc := 39) (k := ((50 + (5 * na)) + 1)) (by omega) dX6_posts_39 ?_
  refine nf_aln (pc := 40) dX6_posts_40 rfl ?_
  refine gf_X6_all (pc := 41) lk_X6_7 dX6_posts_41 ?_
  refine nf_il (pc := 44) dX6_posts_44 rfl ?_
  refine nf_iconst (pc := 46) (v := 2) dX6_posts_46 (by decide) ?_
  refine nf_iaddI (pc := 47) (a := (50 + (5 * na))) (b := 2) dX6_posts_47 ?_
  refine nf_aln (pc := 48) dX6_posts_48 rfl ?_
  refine gf_X6_all (pc := 49) lk_X6_7 dX6_posts_49 ?_
  refine nf_iconst (pc := 52) (v := 0) dX6_posts_52 (by decide) ?_
  refine mo_ld1 (pc := 53) (k := 0) (by decide) dX6_posts_53 ?_
  refine mo_st1 (pc := 54) (k := ((50 + (5 * na)) + 2)) (by omega) dX6_posts_54 ?_
  refine nf_aln (pc := 55) dX6_posts_55 rfl ?_
  refine gf_X6_all (pc := 56) lk_X6_7 dX6_posts_56 ?_
  refine nf_il (pc := 59) dX6_posts_59 rfl ?_
  refine nf_iconst (pc := 61) (v := 3) dX6_posts_61 (by decide) ?_
  refine nf_iaddI (pc := 62) (a := (50 + (5 * na))) (b := 3) dX6_posts_62 ?_
  refine nf_il (pc := 63) dX6_posts_63 rfl ?_
  refine mo_st1 (pc := 65) (k := ((50 + (5 * na)) + 3)) (by omega) dX6_posts_65 ?_
  refine nf_aln (pc := 66) dX6_posts_66 rfl ?_
  refine gf_X6_all (pc := 67) lk_X6_7 dX6_posts_67 ?_
  refine nf_il (pc := 70) dX6_posts_70 rfl ?_
  refine nf_iconst (pc := 72) (v := 4) dX6_posts_72 (by decide) ?_
  refine nf_iaddI (pc := 73) (a := (50 + (5 * na))) (b := 4) dX6_posts_73 ?_
  refine nf_il (pc := 74) dX6_posts_74 rfl ?_
  refine mo_st1 (pc := 76) (k := ((50 + (5 * na)) + 4)) (by omega) dX6_posts_76 ?_
  refine nf_aln (pc := 77) dX6_posts_77 rfl ?_
  refine gf_X6_all (pc := 78) lk_X6_7 dX6_posts_78 ?_
  refine nf_bipush (pc := 81) (v := 49) dX6_posts_81 (by decide) ?_
  refine nf_dup2 (pc := 83) dX6_posts_83 rfl rfl ?_
  refine mo_ld1 (pc := 84) (k := 49) (by decide) dX6_posts_84 ?_
  refine nf_iconst (pc := 85) (v := 1) dX6_posts_85 (by decide) ?_
  refine nf_iadd (pc := 86) dX6_posts_86 ?_
  refine mo_st1 (pc := 87) (k := 49) (by decide) dX6_posts_87 ?_
  refine nf_from (S' := mm S (mr_app r na g a e t) (ms_save sv r c) er wk (nI (ms_cnt c))) ?_ ?_
  · congr 1
    simp only [mr_app]
    congr 1
    · congr 1
      congr 1
      congr 1
      simp only [upd]
      rw [if_neg (by omega), if_neg (by omega)]
    · rw [nI_succ, ← hk.2.2.2.2.1]
      simp only [upd]
      rw [if_neg (by omega), if_neg (by omega), if_neg (by omega), if_neg (by omega), if_neg (by omega)]
  refine nf_aln (pc := 88) dX6_posts_88 rfl ?_
  refine nf_iln (pc := 89) dX6_posts_89 rfl ?_
  refine nf_il (pc := 90) dX6_posts_90 rfl ?_
  refine nf_iconst (pc := 92) (v := 0) dX6_posts_92 (by decide) ?_
  refine nf_cVi3 (pc := 93) (sp_X6_arrives (mr_ok_app (a := a) hk hna hg ht) hh (Nat.lt_succ_self na)) rfl rfl rfl mk_X6_76 im_X6_arrives se_X6_arrives nm_X6_arrives ⟨by decide, by decide⟩ (Nat.le_of_ble_eq_true rfl) dX6_posts_93 ?_
  refine nf_is8 (pc := 96) dX6_posts_96 rfl (by decide) ?_
  refine nf_il (pc := 98) dX6_posts_98 rfl ?_
  exact nf_iret (pc := 100) dX6_posts_100
