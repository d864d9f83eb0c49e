/-! the calls compared -/
theorem art30 : ∀ n, n < 30 → nI n < 30 ∧ ¬ nI n = 30 := by decide +kernel
theorem lnk12 : ∀ n, n < 12 → nI n < 12 ∧ ¬ nI n = 12 := by decide +kernel
theorem below_ex {v : Int32} {n : Nat} (hn : n < 2 ^ 31) (h : cf_below v (nI n) = true) : ∃ x, x < n ∧ v = nI x := ⟨cf_num v, cf_below_lt hn h, cf_below_eq hn h⟩
theorem agr_addLink {S : nf_S} {c nl na K : Nat} {a b k : Int32} (h : inv S c nl na K) : agr S K (cq_addLink nl c S a b k) (fun T => mq_addLink nl c T (nf_O S 1) (nf_O S 2) (nf_O S 3) (nf_O S 4) a b k) := by
  have hN := h.2.2.2.2.1
  unfold cq_addLink mq_addLink
  by_cases h1 : cv_addLink a b k = true
  · rw [if_pos h1]; simp only [h1, if_true]
    have e := hN.1.lnk a b
    by_cases h2 : cf_lnk S a b = -1
    · have h2' : mf_lnk (nf_O S 1) a b = -1 := by rw [← e]; exact h2
      rw [if_pos h2]; simp only [h2', if_true]
      by_cases h3 : nl = 12
      · subst h3
        rw [if_neg (by decide)]; simp only [show nI 12 = 12 from rfl, if_true]
        exact agr_fail h (by decide)
      · have h4 := lnk12 nl (by have := hN.1.1; omega)
        rw [if_pos h4.1]; simp only [h4.2, if_false]
        simp only [cv_addLink, Bool.and_eq_true] at h1
        exact agr_step h (Nat.le_refl _) (only0_addl _ _ _ _ _) (rN_addl (hN.save h.1) (by have := hN.1.1; omega) (below_ex (n := 6) (by decide) h1.1.1.1) (below_ex (n := 6) (by decide) h1.1.1.2)) rfl
    · have h2' : ¬ mf_lnk (nf_O S 1) a b = -1 := by rw [← e]; exact h2
      rw [if_neg h2]; simp only [h2', if_false]
      exact agr_fail h (by decide)
  · rw [if_neg h1]; simp only [h1, if_false]
    exact agr_fail h (by decide)
theorem agr_removeLink {S : nf_S} {c nl na K : Nat} {x : Int32} (h : inv S c nl na K) : agr S K (cq_removeLink nl c S x) (fun T => mq_removeLink nl c T (nf_O S 1) (nf_O S 2) (nf_O S 3) (nf_O S 4) x) := by
  have hN := h.2.2.2.2.1
  unfold cq_removeLink mq_removeLink
  by_cases h1 : cf_below x (nI nl) = true
  · rw [if_pos h1]; simp only [h1, if_true]
    exact agr_step h (Nat.le_refl _) (only0_del _ _ _ _) (rN_del (hN.save h.1) (cf_below_lt (by have := hN.1.1; omega) h1)) rfl
  · rw [if_neg h1]; simp only [h1, if_false]
    exact agr_fail h (by decide)
theorem agr_setKind {S : nf_S} {c nl na K : Nat} {x k : Int32} (h : inv S c nl na K) : agr S K (cq_setKind nl c S x k) (fun T => mq_setKind nl c T (nf_O S 1) (nf_O S 2) (nf_O S 3) (nf_O S 4) x k) := by
  have hN := h.2.2.2.2.1
  unfold cq_setKind mq_setKind
  by_cases h1 : (cf_below x (nI nl) && cf_below k 2) = true
  · rw [if_pos h1]; simp only [h1, if_true]
    have h2 := cf_below_lt (by have := hN.1.1; omega) (Bool.and_eq_true_iff.mp h1).1
    exact agr_step h (Nat.le_refl _) (only0_sA _ _ _ _) (rN_kind (hN.save h.1) h2) ((hN.save h.1).1.2.2.2.2.2.2.2.1 _ h2).2.2.1
  · rw [if_neg h1]; simp only [h1, if_false]
    exact agr_fail h (by decide)
theorem agr_setGroups {S : nf_S} {c nl na K : Nat} {x g : Int32} (h : inv S c nl na K) : agr S K (cq_setGroups c S x g) (fun T => mq_setGroups c T (nf_O S 1) (nf_O S 2) (nf_O S 3) (nf_O S 4) x g) := by
  have hN := h.2.2.2.2.1
  unfold cq_setGroups mq_setGroups
  by_cases h1 : (cf_below x 6 && !decide (g < 0) && decide (g ≤ 15)) = true
  · rw [if_pos h1]; simp only [h1, if_true]
    have h2 := cf_below_lt (n := 6) (by decide) (Bool.and_eq_true_iff.mp (Bool.and_eq_true_iff.mp h1).1).1
    exact agr_step h (Nat.le_refl _) (only0_sI _ _ _ _) (rN_groups (hN.save h.1) h2) ((hN.save h.1).1.2.2.2.2.2.2.2.2.1 _ h2)
  · rw [if_neg h1]; simp only [h1, if_false]
    exact agr_fail h (by decide)
theorem agr_setExpiry {S : nf_S} {c nl na K : Nat} {g x : Int32} (h : inv S c nl na K) : agr S K (cq_setExpiry c S g x) (fun T => mq_setExpiry c T (nf_O S 1) (nf_O S 2) (nf_O S 3) (nf_O S 4) g x) := by
  have hN := h.2.2.2.2.1
  unfold cq_setExpiry mq_setExpiry
  by_cases h1 : (cf_below g 4 && cf_limit x) = true
  · rw [if_pos h1]; simp only [h1, if_true]
    have h2 := cf_below_lt (n := 4) (by decide) (Bool.and_eq_true_iff.mp h1).1
    exact agr_step h (Nat.le_refl _) (only0_sA _ _ _ _) (rN_expiry (hN.save h.1) h2) ((hN.save h.1).1.2.2.2.2.1 _ h2)
  · rw [if_neg h1]; simp only [h1, if_false]
    exact agr_fail h (by decide)
theorem agr_setHistoryLimit {S : nf_S} {c nl na K : Nat} {x : Int32} (h : inv S c nl na K) : agr S K (cq_setHistoryLimit c S x) (fun T => mq_setHistoryLimit c T (nf_O S 1) (nf_O S 2) (nf_O S 3) (nf_O S 4) x) := by
  have hN := h.2.2.2.2.1
  unfold cq_setHistoryLimit mq_setHistoryLimit
  by_cases h1 : cf_limit x = true
  · rw [if_pos h1]; simp only [h1, if_true]
    exact agr_step h (Nat.le_refl _) (only0_sI _ _ _ _) (rN_limit (hN.save h.1)) (hN.save h.1).1.2.2.2.1
  · rw [if_neg h1]; simp only [h1, if_false]
    exact agr_fail h (by decide)
theorem agr_pub {S : nf_S} {c nl na K y : Nat} {g a e t : Int32} (h : inv S c nl na K) (hy : y < 6) (hg : ∃ x, x < 4 ∧ g = nI x) (ha : ∃ x, x < 10 ∧ a = nI x) (ht : e = 0 ∨ ∃ x, x < 30 ∧ t = nI x) : agr S K (cq_publish na c S y g a e t) (fun T => mq_publish na c T (nf_O S 1) (nf_O S 2) (nf_O S 3) (nf_O S 4) y g a e t) := by
  have hN := h.2.2.2.2.1
  have hna := hN.1.2.1
  unfold cq_publish mq_publish
  by_cases h3 : na = 30
  · subst h3
    rw [if_neg (by decide)]; simp only [show nI 30 = 30 from rfl, if_true]
    exact agr_fail h (by decide)
  · have h4 := art30 na (by omega)
    rw [if_pos h4.1]; simp only [h4.2, if_false]
    have hS := hN.save h.1
    have hB := rN_app hS (by omega) hg ha ht
    have he : nf_A (cs_app (cs_save S c) na g a e t) 0 10 0 (na * 6 + y) = 0 := by
      show nf_A (cs_save S c) 0 10 0 (na * 6 + y) = 0
      exact (hS.2.1.2.2 (na * 6 + y) (by omega)).2.2.1 (by omega)
    obtain ⟨s1, s2, s3⟩ := arr_sim (p := 0) hB.1 hB.2.1 hy (Nat.lt_succ_self na) (by decide) (fun _ => he)
    refine agr_step (nl' := nl) h (Nat.le_refl _) ((only0_app _ _ _ _ _ _).trans (only0.same (cs_same_arr _ _ _ _))) ⟨?_, s2, ?_⟩ rfl
    · exact hB.1.same (cs_same_arr _ _ _ _) (fun i hi => (s3 i hi).symm)
    · exact pd_arr hB.2.2 (Nat.le_of_eq (pcn_one y hy).symm)
theorem agr_post {S : nf_S} {c nl na K : Nat} {x g a : Int32} (h : inv S c nl na K) : agr S K (cq_post na c S x g a) (fun T => mq_post na c T (nf_O S 1) (nf_O S 2) (nf_O S 3) (nf_O S 4) x g a) := by
  unfold cq_post mq_post
  by_cases h1 : (cf_below x 6 && cf_below g 4 && cf_below a 10) = true
  · rw [if_pos h1]; simp only [h1, if_true]
    simp only [Bool.and_eq_true] at h1
    exact agr_pub h (cf_below_lt (n := 6) (by decide) h1.1.1) (below_ex (n := 4) (by decide) h1.1.2) (below_ex (n := 10) (by decide) h1.2) (Or.inl rfl)
  · rw [if_neg h1]; simp only [h1, if_false]
    exact agr_fail h (by decide)
theorem agr_postAction {S : nf_S} {c nl na K : Nat} {x a e t : Int32} (h : inv S c nl na K) : agr S K (cq_postAction na c S x a e t) (fun T => mq_postAction na c T (nf_O S 1) (nf_O S 2) (nf_O S 3) (nf_O S 4) x a e t) := by
  have hN := h.2.2.2.2.1
  have hna := hN.1.2.1
  unfold cq_postAction mq_postAction
  by_cases h1 : (cf_below x 6 && cf_below a 10 && !decide (e < 1) && !decide (2 < e) && cf_below t (nI na)) = true
  · rw [if_pos h1]; simp only [h1, if_true]
    simp only [Bool.and_eq_true] at h1
    have ht := cf_below_lt (by omega) h1.2
    have e5 : nf_A S 0 5 0 (cf_num t) = mf_of (nf_O S 1) (cf_num t) 0 := (hN.1.2.2.2.2.2.2.2.2.2.2.2.1 _ ht).1 0 (by decide)
    rw [e5]
    exact agr_pub h (cf_below_lt (n := 6) (by decide) h1.1.1.1.1) (hN.1.2.2.2.2.2.2.2.2.2.2.2.2.1 _ (by omega)) (below_ex (n := 10) (by decide) h1.1.1.1.2) (Or.inr ⟨cf_num t, by omega, cf_below_eq (by omega) h1.2⟩)
  · rw [if_neg h1]; simp only [h1, if_false]
    exact agr_fail h (by decide)
theorem only0_rnd (S : nf_S) (na : Nat) : only0 S (cs_rnd S na).1 := by
  refine only0.trans (T := cs_mt (cs_cpq S 5 0)) ⟨fun n c h h1 h2 => ⟨rfl, ?_⟩, fun _ => rfl, fun _ => rfl, rfl⟩ (only0.same (cs_same_art na _ 0 0))
  simp only [cs_mt, cs_cpq, nf_A_sA]
  rw [if_neg (by omega), if_neg (by omega), if_neg (by omega), if_neg (by omega)]
theorem only0_stl (na : Nat) : ∀ (m : Nat) (S : nf_S) (k : Nat), only0 S (cs_stl na m S k).1
  | 0, S, k => only0.rf S
  | m + 1, S, k => by
    unfold cs_stl
    split
    · exact only0.rf S
    · exact (only0_rnd S na).trans (only0_stl na m _ _)
theorem agr_round {S : nf_S} {c nl na K : Nat} (h : inv S c nl na K) (hK : K < 2 ^ 31) : ∃ q, mr_grs (nf_O S 1) (nf_O S 4) q ∧ agr S K (cs_rnd (cs_save S c) na) (fun T => (mm T (mr_gr (nf_O S 1) (nf_O S 4) q).1 (ms_save (nf_O S 2) (nf_O S 1) c) (nf_O S 3) (ms_srt (nf_O S 1) q (nf_O S 4) 0) (nI (ms_cnt c)), (mr_gr (nf_O S 1) (nf_O S 4) q).2)) := by
  have hS := h.2.2.2.2.1.save h.1
  obtain ⟨s1, s2, s3, s4, s5⟩ := rnd_sim (wk := nf_O S 4) hS.1 hS.2.1 hK hS.2.2
  have hP : pd (nf_A (cs_rnd (cs_save S c) na).1 0 10 0) (nf_A (cs_rnd (cs_save S c) na).1 0 11 0) 1 := fun i hi t ht hb => ⟨(s5 i hi t ht hb).1, Nat.le_trans (by decide) (s5 i hi t ht hb).2⟩
  exact ⟨_, s1, agr_step h (Nat.le_refl _) (only0_rnd _ _) ⟨s4, s3, hP⟩ s2.symm⟩
theorem agr_settle {S : nf_S} {c nl na K : Nat} (h : inv S c nl na K) (hK : K < 2 ^ 31) : mr_sfs 6 (nf_O S 1) (nf_O S 4) ∧ agr S K ((cs_stl na 6 (cs_save S c) 0).1, nI (cs_stl na 6 (cs_save S c) 0).2) (fun T => (mm T (mr_stl 6 (nf_O S 1) (nf_O S 4) 0).1 (ms_save (nf_O S 2) (nf_O S 1) c) (nf_O S 3) (mr_stl 6 (nf_O S 1) (nf_O S 4) 0).2.1 (nI (ms_cnt c)), nI (mr_stl 6 (nf_O S 1) (nf_O S 4) 0).2.2)) := by
  have hS := h.2.2.2.2.1.save h.1
  obtain ⟨s1, s2, s3, s4, s5⟩ := stl_sim hK 6 _ _ (nf_O S 4) 0 1 (by decide) hS.1 hS.2.1 hS.2.2 (Nat.le_refl _)
  exact ⟨s1, agr_step h (Nat.le_refl _) (only0_stl _ _ _ _) ⟨s4, s3, s5⟩ (by rw [s2])⟩
theorem agr_nextDay {S : nf_S} {c nl na K : Nat} (h : inv S c nl na K) : agr S (K + 1) (cs_day na 6 (nf_sI (cs_save S c) 0 0 0 (nf_I (cs_save S c) 0 0 0 + 1)) 0 0) (fun T => (mm T (mr_day 180 (upd (nf_O S 1) 0 (nf_O S 1 0 + 1)) 0 0).1 (ms_save (nf_O S 2) (nf_O S 1) c) (nf_O S 3) (nf_O S 4) (nI (ms_cnt c)), (mr_day 180 (upd (nf_O S 1) 0 (nf_O S 1 0 + 1)) 0 0).2)) := by
  have hS := rN_today (h.2.2.2.2.1.save h.1)
  obtain ⟨s1, s2, s3, s4⟩ := day_sim 6 0 _ _ 0 rfl hS.1 hS.2.1.1
  rw [show 30 * 6 = 180 from rfl, show 30 * 0 = 0 from rfl] at s1 s2 s3
  have hT : rN (cs_day na 6 (nf_sI (cs_save S c) 0 0 0 (nf_I (cs_save S c) 0 0 0 + 1)) 0 0).1 0 (mr_day 180 (upd (nf_O S 1) 0 (nf_O S 1 0 + 1)) 0 0).1 nl na (K + 1) := by
    refine ⟨?_, ?_, ?_⟩
    · exact hS.1.same (cs_same_day na 6 _ 0 0) (fun i hi => s3 i (Or.inl hi))
    · exact hS.2.1.step s1 s4 s3
    · rw [← s4.1, ← s4.2]; exact hS.2.2
  exact agr_step (T := (cs_day na 6 (nf_sI (cs_save S c) 0 0 0 (nf_I (cs_save S c) 0 0 0 + 1)) 0 0).1) (z := (cs_day na 6 (nf_sI (cs_save S c) 0 0 0 (nf_I (cs_save S c) 0 0 0 + 1)) 0 0).2) h (Nat.le_succ _) ((only0_sI _ _ _ _).trans (only0.same (cs_same_day na 6 _ 0 0))) hT s2.symm
theorem agr_isStored {S : nf_S} {c nl na K : Nat} {x a : Int32} (h : inv S c nl na K) : agr S K (cq_isStored na S x a) (fun T => mq_isStored na c T (nf_O S 1) (nf_O S 2) (nf_O S 3) (nf_O S 4) x a) := by
  have hN := h.2.2.2.2.1
  unfold cq_isStored mq_isStored
  by_cases h1 : (cf_below x 6 && cf_below a (nI na)) = true
  · rw [if_pos h1]; simp only [h1, if_true]
    refine agr_read h ?_
    rw [has_tst, (hN.2.1.1.2.1 _ (cf_below_lt (n := 6) (by decide) (Bool.and_eq_true_iff.mp h1).1)).1]
  · rw [if_neg h1]; simp only [h1, if_false]
    exact agr_fail h (by decide)
theorem agr_knownSince {S : nf_S} {c nl na K : Nat} {x a : Int32} (h : inv S c nl na K) : agr S K (cq_knownSince na S x a) (fun T => mq_knownSince na c T (nf_O S 1) (nf_O S 2) (nf_O S 3) (nf_O S 4) x a) := by
  have hN := h.2.2.2.2.1
  have hna := hN.1.2.1
  unfold cq_knownSince mq_knownSince
  by_cases h1 : (cf_below x 6 && cf_below a (nI na)) = true
  · rw [if_pos h1]; simp only [h1, if_true]
    have h2 := cf_below_lt (by omega) (Bool.and_eq_true_iff.mp h1).2
    exact agr_read h (hN.2.1.1.1 _ (cf_below_lt (n := 6) (by decide) (Bool.and_eq_true_iff.mp h1).1) _ (by omega)).1
  · rw [if_neg h1]; simp only [h1, if_false]
    exact agr_fail h (by decide)
theorem pop_acc (a : Int32) : ∀ (f : Nat) (l x : Int32), mf_pop f l (a + x) = a + mf_pop f l x
  | 0, l, x => rfl
  | f + 1, l, x => by
    unfold mf_pop
    split
    · rfl
    · rw [Int32.add_assoc]; exact pop_acc a f _ _
theorem pop_bits : ∀ y, y < 1024 → mf_pop 10 (nI y) 0 = cf_bits (nI y) := by decide +kernel
theorem sum_pnd {S : nf_S} {r : Nat → Int32} {na h : Nat} (hb : rb S 0 r na) (hh : h < 6) : ∀ (m k : Nat) (acc : Int32), k + m ≤ 30 → cf_sum (nf_A S 0 13 h) k m acc = mf_pnd r h m k acc
  | 0, k, acc, hk => rfl
  | m + 1, k, acc, hk => by
    obtain ⟨e1, y, hy, e2⟩ := hb.2.2.1 h hh k (by omega)
    unfold cf_sum mf_pnd
    have e : mf_pop 10 (r (386 + 30 * h + k)) acc = acc + cf_bits (nf_A S 0 13 h k) := by
      have := pop_acc acc 10 (nI y) 0
      rw [Int32.add_zero] at this
      rw [← e1, e2, this, pop_bits y hy]
    rw [e]
    exact sum_pnd hb hh m (k + 1) _ (by omega)
theorem agr_pending {S : nf_S} {c nl na K : Nat} {x : Int32} (h : inv S c nl na K) : agr S K (cq_pending S x) (fun T => mq_pending c T (nf_O S 1) (nf_O S 2) (nf_O S 3) (nf_O S 4) x) := by
  have hN := h.2.2.2.2.1
  unfold cq_pending mq_pending
  by_cases h1 : cf_below x 6 = true
  · rw [if_pos h1]; simp only [h1, if_true]
    exact agr_read h (sum_pnd hN.2.1.1 (cf_below_lt (n := 6) (by decide) h1) 30 0 0 (by decide))
  · rw [if_neg h1]; simp only [h1, if_false]
    exact agr_fail h (by decide)
theorem hold_eq {S : nf_S} {r : Nat → Int32} {na : Nat} {a : Int32} (hb : rb S 0 r na) : ∀ (m k : Nat) (acc : Int32), k + m ≤ 6 → cf_hold S a k m acc = mf_hold r a m k acc
  | 0, k, acc, hk => rfl
  | m + 1, k, acc, hk => by
    unfold cf_hold mf_hold
    rw [has_tst, (hb.2.1 k (by omega)).1]
    have e : (if mf_tst (r (380 + k)) a = true then acc ||| cf_bit (nI k) else acc) = acc ||| (if mf_tst (r (380 + k)) a = true then cf_bit (nI k) else 0) := by
      split
      · rfl
      · rw [Int32.or_zero]
    rw [e]
    exact hold_eq hb m (k + 1) _ (by omega)
theorem agr_holders {S : nf_S} {c nl na K : Nat} {a : Int32} (h : inv S c nl na K) : agr S K (cq_holders na S a) (fun T => mq_holders na c T (nf_O S 1) (nf_O S 2) (nf_O S 3) (nf_O S 4) a) := by
  have hN := h.2.2.2.2.1
  unfold cq_holders mq_holders
  by_cases h1 : cf_below a (nI na) = true
  · rw [if_pos h1]; simp only [h1, if_true]
    exact agr_read h (hold_eq hN.2.1.1 6 0 0 (by decide))
  · rw [if_neg h1]; simp only [h1, if_false]
    exact agr_fail h (by decide)
theorem sig_eq {S : nf_S} {r : Nat → Int32} {nl na K h : Nat} {g : Int32} (hA : ra S 0 r nl na K) (hb : rb S 0 r na) (hh : h < 6) : ∀ (m k : Nat) (acc : Int32), k + m ≤ na → cf_sig S h g k m acc = mf_sig r h g m k acc
  | 0, k, acc, hk => rfl
  | m + 1, k, acc, hk => by
    unfold cf_sig mf_sig
    have e5 : nf_A S 0 5 0 k = mf_of r k 0 := (hA.2.2.2.2.2.2.2.2.2.2.2.1 k (by omega)).1 0 (by decide)
    rw [has_tst, (hb.2.1 h hh).1, e5]
    have e : (if mf_of r k 0 = g then (if mf_tst (r (380 + h)) (nI k) = true then acc + 1 else acc) else acc) = acc + (if mf_tst (r (380 + h)) (nI k) = true then (if mf_of r k 0 = g then 1 else 0) else 0) := by
      split
      · split
        · rfl
        · rw [Int32.add_zero]
      · split
        · rw [Int32.add_zero]
        · rw [Int32.add_zero]
    rw [e]
    exact sig_eq hA hb hh m (k + 1) _ (by omega)
theorem agr_inGroup {S : nf_S} {c nl na K : Nat} {x g : Int32} (h : inv S c nl na K) : agr S K (cq_inGroup na S x g) (fun T => mq_inGroup na c T (nf_O S 1) (nf_O S 2) (nf_O S 3) (nf_O S 4) x g) := by
  have hN := h.2.2.2.2.1
  unfold cq_inGroup mq_inGroup
  by_cases h1 : (cf_below x 6 && cf_below g 4) = true
  · rw [if_pos h1]; simp only [h1, if_true]
    exact agr_read h (sig_eq hN.1 hN.2.1.1 (cf_below_lt (n := 6) (by decide) (Bool.and_eq_true_iff.mp h1).1) na 0 0 (by omega))
  · rw [if_neg h1]; simp only [h1, if_false]
    exact agr_fail h (by decide)
theorem both_iff {s : Int32} {x y : Nat} (hx : x < 6) (hy : y < 6) : s &&& (cf_bit (nI x) ||| cf_bit (nI y)) = 0 ↔ bt s x = false ∧ bt s y = false := by
  constructor
  · intro h
    have h1 : ∀ i, i < 32 → bt (s &&& (cf_bit (nI x) ||| cf_bit (nI y))) i = false := fun i hi => by rw [h]; exact b_0 i
    have hx2 := h1 x (by omega)
    have hy2 := h1 y (by omega)
    rw [b_and, b_or, cf_bit_bt (by omega) (by omega), cf_bit_bt (by omega) (by omega)] at hx2 hy2
    simp at hx2 hy2
    exact ⟨hx2, hy2⟩
  · rintro ⟨h1, h2⟩
    apply b_ext
    intro i hi
    rw [b_and, b_or, cf_bit_bt (by omega) hi, cf_bit_bt (by omega) hi, b_0]
    by_cases e1 : i = x
    · subst e1; rw [h1]; rfl
    · by_cases e2 : i = y
      · subst e2; rw [h2]; rfl
      · simp [e1, e2]
theorem nb_step {s acc : Int32} {x y : Nat} (hx : x < 6) (hy : y < 6) : s ||| (if cf_has s (nI y) = true then (if cf_has s (nI x) = true then acc ||| cf_bit (nI y) else acc) ||| cf_bit (nI x) else (if cf_has s (nI x) = true then acc ||| cf_bit (nI y) else acc)) = (s ||| acc) ||| (if s &&& (cf_bit (nI x) ||| cf_bit (nI y)) = 0 then 0 else cf_bit (nI x) ||| cf_bit (nI y)) := by
  rw [has_I s (show y < 32 by omega), has_I s (show x < 32 by omega)]
  have hb := both_iff (s := s) hx hy
  apply b_ext
  intro i hi
  cases h1 : bt s x with
  | true =>
    have hb' : ¬ s &&& (cf_bit (nI x) ||| cf_bit (nI y)) = 0 := fun h => by have := (hb.mp h).1; rw [h1] at this; cases this
    rw [if_neg hb']
    cases h2 : bt s y with
    | true =>
      simp only [if_true]
      simp only [b_or]
      cases bt s i <;> cases bt acc i <;> cases bt (cf_bit (nI x)) i <;> cases bt (cf_bit (nI y)) i <;> rfl
    | false =>
      simp only [if_true, Bool.false_eq_true, if_false]
      simp only [b_or]
      rw [cf_bit_bt (k := x) (by omega) hi]
      by_cases e : i = x
      · subst e; rw [h1]; simp
      · simp [e, Bool.or_assoc]
  | false =>
    cases h2 : bt s y with
    | true =>
      have hb' : ¬ s &&& (cf_bit (nI x) ||| cf_bit (nI y)) = 0 := fun h => by have := (hb.mp h).2; rw [h2] at this; cases this
      rw [if_neg hb']
      simp only [if_true, Bool.false_eq_true, if_false]
      simp only [b_or]
      rw [cf_bit_bt (k := y) (by omega) hi]
      by_cases e : i = y
      · subst e; rw [h2]; simp
      · simp [e, Bool.or_assoc]
    | false =>
      rw [if_pos (hb.mpr ⟨h1, h2⟩)]
      simp only [Bool.false_eq_true, if_false, Int32.or_zero]
theorem more_eq {F G r : Nat → Int32} {s : Int32} {nl : Nat} (hl : ∀ k, k < nl → F k = mf_lk r 0 k ∧ G k = mf_lk r 1 k ∧ (∃ x, x < 6 ∧ F k = nI x) ∧ ∃ x, x < 6 ∧ G k = nI x) : ∀ (m k : Nat) (acc : Int32), k + m ≤ nl → s ||| cf_nb F G s k m acc = mf_more r s m k (s ||| acc)
  | 0, k, acc, hk => rfl
  | m + 1, k, acc, hk => by
    obtain ⟨e1, e2, ⟨x, hx, ex⟩, y, hy, ey⟩ := hl k (by omega)
    unfold cf_nb mf_more
    rw [more_eq hl m (k + 1) _ (by omega)]
    congr 1
    unfold mf_both
    rw [← e1, ← e2, ex, ey]
    exact nb_step hx hy
theorem dst_eq {S : nf_S} {r : Nat → Int32} {nl na K : Nat} {b : Int32} (hA : ra S 0 r nl na K) : ∀ (m k : Nat) (s : Int32), cf_dst S b m k s = mf_dst r nl b m k s
  | 0, k, s => rfl
  | m + 1, k, s => by
    unfold cf_dst mf_dst
    have h1 := tst_iff s b
    by_cases h : cf_has s b = true
    · rw [if_pos h, if_pos (h1.mpr h)]
    · rw [if_neg h, if_neg (fun x => h (h1.mp x))]
      have e : s ||| cf_nbr S s = mf_more r s nl 0 s := by
        unfold cf_nbr
        rw [hA.2.2.2.2.2.1, cf_num_I (by have := hA.1; omega), more_eq (r := r) (nl := nl) (fun k hk => ?_) nl 0 0 (by omega), Int32.or_zero]
        have h8 := hA.2.2.2.2.2.2.2.1 k hk
        exact ⟨h8.1, h8.2.1, h8.2.2.2⟩
      rw [e]
      exact dst_eq hA m (k + 1) _
theorem agr_distance {S : nf_S} {c nl na K : Nat} {a b : Int32} (h : inv S c nl na K) : agr S K (cq_distance S a b) (fun T => mq_distance nl c T (nf_O S 1) (nf_O S 2) (nf_O S 3) (nf_O S 4) a b) := by
  have hN := h.2.2.2.2.1
  unfold cq_distance mq_distance
  by_cases h1 : (cf_below a 6 && cf_below b 6) = true
  · rw [if_pos h1]; simp only [h1, if_true]
    exact agr_read h (dst_eq hN.1 6 0 _)
  · rw [if_neg h1]; simp only [h1, if_false]
    exact agr_fail h (by decide)
theorem agr_total {S : nf_S} {c nl na K : Nat} {x : Int32} (h : inv S c nl na K) : agr S K (cq_total S x) (fun T => mq_total c T (nf_O S 1) (nf_O S 2) (nf_O S 3) (nf_O S 4) x) := by
  have hN := h.2.2.2.2.1
  unfold cq_total mq_total
  by_cases h1 : cf_below x 6 = true
  · rw [if_pos h1]; simp only [h1, if_true]
    exact agr_read h (hN.2.1.1.2.2.2 _ (cf_below_lt (n := 6) (by decide) h1))
  · rw [if_neg h1]; simp only [h1, if_false]
    exact agr_fail h (by decide)
theorem agr_errorCount {S : nf_S} {c nl na K : Nat} {x : Int32} (h : inv S c nl na K) : agr S K (cq_errorCount S x) (fun T => mq_errorCount c T (nf_O S 1) (nf_O S 2) (nf_O S 3) (nf_O S 4) x) := by
  unfold cq_errorCount mq_errorCount
  by_cases h1 : cf_below (cf_slot x) 4 = true
  · rw [if_pos h1]; simp only [h1, if_true]
    exact agr_read h (h.2.2.2.1 _ (cf_below_lt (n := 4) (by decide) h1))
  · rw [if_neg h1]; simp only [h1, if_false]
    exact agr_fail h (by decide)
theorem wait_eq {S : nf_S} {c nl na K : Nat} (h : inv S c nl na K) : cf_sum (nf_A S 0 10 0) 0 180 0 = nf_O S 1 572 := by
  have hN := h.2.2.2.2.1
  rw [(srt_canon (wk := nf_O S 4) hN.2.1.2.1 hN.2.1.2.2).1]
  exact sum_canon hN.2.1.2.2
