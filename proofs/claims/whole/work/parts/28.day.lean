/-! the days compared -/
def ci (h : Nat) : Nat → nf_S → Nat → Int32 → nf_S × Int32
  | 0, S, _, acc => (S, acc)
  | m + 1, S, k, acc => ci h m (cs_fgt1 (cs_exp1 S h k acc).1 h k) (k + 1) (cs_exp1 S h k acc).2
theorem exp_fgt1 (S : nf_S) (h k j : Nat) (acc : Int32) : cs_exp1 (cs_fgt1 S h j) h k acc = (cs_fgt1 (cs_exp1 S h k acc).1 h j, (cs_exp1 S h k acc).2) := by
  have e1 : ∀ T : nf_S, cs_exp1 (cs_known T h j (-1)) h k acc = (cs_known (cs_exp1 T h k acc).1 h j (-1), (cs_exp1 T h k acc).2) := by
    intro T
    have e : cs_exp1 (cs_known T h j (-1)) h k acc = if cf_has (nf_I T 0 5 h) (nI k) = true then (if nf_I T 0 0 0 - nf_A T 0 7 0 k < nf_A T 0 0 0 (cf_num (nf_A T 0 5 0 k)) then (cs_known T h j (-1), acc) else (cs_drop (cs_known T h j (-1)) h k, acc + 1)) else (cs_known T h j (-1), acc) := rfl
    rw [e]
    unfold cs_exp1
    split
    · split
      · rfl
      · rfl
    · rfl
  have e2 : ∀ T : nf_S, cs_fgt1 (cs_drop T h k) h j = cs_drop (cs_fgt1 T h j) h k := by
    intro T
    have e : cs_fgt1 (cs_drop T h k) h j = if cf_kn T h j = true then (if nf_I T 0 0 0 - nf_A T 0 12 h j < nf_I T 0 1 0 then cs_drop T h k else cs_known (cs_drop T h k) h j (-1)) else cs_drop T h k := rfl
    rw [e]
    unfold cs_fgt1
    split
    · split
      · rfl
      · rfl
    · rfl
  by_cases c1 : cf_kn S h j = true
  · by_cases c2 : nf_I S 0 0 0 - nf_A S 0 12 h j < nf_I S 0 1 0
    · have e3 : cs_fgt1 S h j = S := by unfold cs_fgt1; rw [if_pos c1, if_pos c2]
      rw [e3]
      unfold cs_exp1
      split
      · split
        · rw [e3]
        · rw [e2, e3]
      · rw [e3]
    · have e3 : cs_fgt1 S h j = cs_known S h j (-1) := by unfold cs_fgt1; rw [if_pos c1, if_neg c2]
      rw [e3, e1]
      unfold cs_exp1
      split
      · split
        · rw [e3]
        · rw [e2, e3]; rfl
      · rw [e3]
  · have e3 : cs_fgt1 S h j = S := by unfold cs_fgt1; rw [if_neg c1]
    rw [e3]
    unfold cs_exp1
    split
    · split
      · rw [e3]
      · rw [e2, e3]
    · rw [e3]
theorem exp_fgt (h j : Nat) : ∀ (m : Nat) (S : nf_S) (k : Nat) (acc : Int32), cs_exp h m (cs_fgt1 S h j) k acc = (cs_fgt1 (cs_exp h m S k acc).1 h j, (cs_exp h m S k acc).2)
  | 0, S, k, acc => rfl
  | m + 1, S, k, acc => by
    show cs_exp h m (cs_exp1 (cs_fgt1 S h j) h k acc).1 (k + 1) (cs_exp1 (cs_fgt1 S h j) h k acc).2 = _
    rw [exp_fgt1]
    exact exp_fgt h j m _ _ _
theorem ci_eq (h : Nat) : ∀ (m : Nat) (S : nf_S) (k : Nat) (acc : Int32), ci h m S k acc = (cs_fgt h m (cs_exp h m S k acc).1 k, (cs_exp h m S k acc).2)
  | 0, S, k, acc => rfl
  | m + 1, S, k, acc => by
    show ci h m (cs_fgt1 (cs_exp1 S h k acc).1 h k) (k + 1) (cs_exp1 S h k acc).2 = _
    rw [ci_eq h m, exp_fgt]
    rfl
theorem exp1_acc (S : nf_S) (h k : Nat) (a x : Int32) : cs_exp1 S h k (a + x) = ((cs_exp1 S h k x).1, a + (cs_exp1 S h k x).2) := by
  unfold cs_exp1
  split
  · split
    · rfl
    · rw [Int32.add_assoc]
  · rfl
theorem exp_acc (h : Nat) (a : Int32) : ∀ (m : Nat) (S : nf_S) (k : Nat) (x : Int32), cs_exp h m S k (a + x) = ((cs_exp h m S k x).1, a + (cs_exp h m S k x).2)
  | 0, S, k, x => rfl
  | m + 1, S, k, x => by
    show cs_exp h m (cs_exp1 S h k (a + x)).1 (k + 1) (cs_exp1 S h k (a + x)).2 = _
    rw [exp1_acc]
    exact exp_acc h a m _ _ _
theorem mr_day_split : ∀ (m n : Nat) (r : Nat → Int32) (k : Nat) (acc : Int32), mr_day (m + n) r k acc = mr_day n (mr_day m r k acc).1 (k + m) (mr_day m r k acc).2
  | 0, n, r, k, acc => by rw [Nat.zero_add]; rfl
  | m + 1, n, r, k, acc => by
    rw [show m + 1 + n = (m + n) + 1 by omega]
    show mr_day (m + n) _ (k + 1) _ = _
    rw [mr_day_split m n, show k + 1 + m = k + (m + 1) by omega]
    rfl
theorem csq_exp1 (S : nf_S) (h k : Nat) (acc : Int32) : csq S (cs_exp1 S h k acc).1 := by
  unfold cs_exp1
  split
  · split
    · exact csq.rf S
    · exact ⟨rfl, rfl⟩
  · exact csq.rf S
theorem csq_fgt1 (S : nf_S) (h k : Nat) : csq S (cs_fgt1 S h k) := by
  unfold cs_fgt1
  split
  · split
    · exact csq.rf S
    · exact ⟨rfl, rfl⟩
  · exact csq.rf S
theorem csq_ci (h : Nat) : ∀ (m : Nat) (S : nf_S) (k : Nat) (acc : Int32), csq S (ci h m S k acc).1
  | 0, S, k, acc => csq.rf S
  | m + 1, S, k, acc => ((csq_exp1 S h k acc).trans (csq_fgt1 _ h k)).trans (csq_ci h m _ _ _)
theorem same_ci (h : Nat) : ∀ (m : Nat) (S : nf_S) (k : Nat) (acc : Int32), cs_same S (ci h m S k acc).1
  | 0, S, k, acc => cs_same.rf S
  | m + 1, S, k, acc => ((cs_same_exp1 S h k acc).trans (cs_same_fgt1 _ h k)).trans (same_ci h m _ _ _)
/-- one place -/
theorem exp1_sim {S : nf_S} {r : Nat → Int32} {nl na K h a : Nat} {acc : Int32} (hA : ra S 0 r nl na K) (hb : rb S 0 r na) (hh : h < 6) (ha : a < na) : rb (cs_exp1 S h a acc).1 0 (mr_exp r h a acc).1 na ∧ (mr_exp r h a acc).2 = (cs_exp1 S h a acc).2 := by
  have hna := hA.2.1
  obtain ⟨q1, _⟩ := hA.2.2.2.2.2.2.2.2.2.2.2.1 a ha
  obtain ⟨g, hg, eg⟩ := hA.2.2.2.2.2.2.2.2.2.2.2.2.1 a (by omega)
  have e5 : nf_A S 0 5 0 a = mf_of r a 0 := q1 0 (by decide)
  have e7 : nf_A S 0 7 0 a = mf_of r a 2 := q1 2 (by decide)
  have eg2 : cf_num (mf_of r a 0) = g := by rw [eg]; exact cf_num_I (by omega)
  unfold cs_exp1 mr_exp
  rw [← (hb.2.1 h hh).1, ← has_tst, e5, e7, eg2, ← hA.2.2.2.2.1 g hg, ← hA.2.2.1]
  cases hs : cf_has (nf_I S 0 5 h) (nI a) with
  | true =>
    simp only [if_true]
    split
    · exact ⟨hb, rfl⟩
    · refine ⟨?_, rfl⟩
      unfold cs_drop
      exact rb_store hb hh (fun i h1 h2 => by rw [bt_drop _ (by omega) h2, (hb.2.1 h hh).2 i h1 h2]; rfl)
  | false =>
    simp only [Bool.false_eq_true, if_false]
    exact ⟨hb, trivial⟩
theorem fgt1_sim {S : nf_S} {r : Nat → Int32} {nl na K h a : Nat} (hA : ra S 0 r nl na K) (hb : rb S 0 r na) (hh : h < 6) (ha : a < na) : rb (cs_fgt1 S h a) 0 (mr_fgt r (30 * h + a)) na := by
  have hna := hA.2.1
  have e1 : nf_A S 0 12 h a = r (200 + (30 * h + a)) := by rw [(hb.1 h hh a (by omega)).1]; simp only [mf_kn]; congr 1; omega
  unfold cs_fgt1 mr_fgt cf_kn
  rw [← e1, ← hA.2.2.1, ← hA.2.2.2.1]
  by_cases hm : nf_A S 0 12 h a = -1
  · rw [if_pos hm]
    simp only [hm, beq_self_eq_true, Bool.not_true, Bool.false_eq_true, if_false]
    exact hb
  · have hm2 : (nf_A S 0 12 h a == -1) = false := by simpa using hm
    rw [if_neg hm]
    simp only [hm2, Bool.not_false, if_true]
    split
    · exact hb
    · rw [show 200 + (30 * h + a) = 200 + 30 * h + a by omega]
      exact rb_known hb hh ha hna
theorem host_sim {nl na K h : Nat} (hh : h < 6) : ∀ (m a : Nat) (S : nf_S) (r : Nat → Int32) (acc : Int32), a + m = 30 → ra S 0 r nl na K → rb S 0 r na →
    rb (ci h (na - a) S a acc).1 0 (mr_day m r (30 * h + a) acc).1 na ∧ (mr_day m r (30 * h + a) acc).2 = (ci h (na - a) S a acc).2 ∧ mr_mid r (mr_day m r (30 * h + a) acc).1
  | 0, a, S, r, acc, hm, hA, hb => by
    have hna := hA.2.1
    rw [show na - a = 0 by omega]
    exact ⟨hb, rfl, mr_mid.rf r⟩
  | m + 1, a, S, r, acc, hm, hA, hb => by
    have hna := hA.2.1
    have e1 : (30 * h + a) / 30 = h := by omega
    have e2 : (30 * h + a) % 30 = a := by omega
    have ed : mr_day (m + 1) r (30 * h + a) acc = mr_day m (mr_fgt (mr_exp r h a acc).1 (30 * h + a)) (30 * h + (a + 1)) (mr_exp r h a acc).2 := by
      show mr_day m (mr_fgt (mr_exp r ((30 * h + a) / 30) ((30 * h + a) % 30) acc).1 (30 * h + a)) (30 * h + a + 1) (mr_exp r ((30 * h + a) / 30) ((30 * h + a) % 30) acc).2 = _
      rw [e1, e2]; rfl
    have hmid : mr_mid r (mr_fgt (mr_exp r h a acc).1 (30 * h + a)) := (mr_mid_exp r h a acc hh).trans (mr_mid_fgt _ _ (by omega))
    rw [ed]
    by_cases ha : a < na
    · rw [show na - a = (na - (a + 1)) + 1 by omega]
      obtain ⟨s1, s2⟩ := exp1_sim (acc := acc) hA hb hh ha
      have hA1 := hA.same (cs_same_exp1 S h a acc) (fun i hi => (mr_mid_exp r h a acc hh) i (Or.inl hi))
      have s3 := fgt1_sim hA1 s1 hh ha
      have hA2 := hA1.same (cs_same_fgt1 _ h a) (fun i hi => (mr_mid_fgt (mr_exp r h a acc).1 (30 * h + a) (by omega)) i (Or.inl hi))
      obtain ⟨t1, t2, t3⟩ := host_sim hh m (a + 1) _ _ (mr_exp r h a acc).2 (by omega) hA2 s3
      rw [s2] at t1 t2 t3 ⊢
      exact ⟨t1, t2, hmid.trans t3⟩
    · have f1 : mr_exp r h a acc = (r, acc) := by
        unfold mr_exp
        have : mf_tst (r (380 + h)) (nI a) = false := by
          rw [← has_tst, ← (hb.2.1 h hh).1, has_I _ (by omega)]; exact (hb.2.1 h hh).2 a (by omega) (by omega)
        rw [this]; rfl
      have f2 : mr_fgt r (30 * h + a) = r := by
        unfold mr_fgt
        have : r (200 + (30 * h + a)) = -1 := by
          have := hb.1 h hh a (by omega)
          rw [show 200 + (30 * h + a) = 200 + 30 * h + a by omega]
          rw [← this.2 (by omega)]; exact this.1.symm
        rw [if_pos this]
      rw [f1]
      simp only [f2]
      obtain ⟨t1, t2, t3⟩ := host_sim hh m (a + 1) S r acc (by omega) hA hb
      rw [show na - (a + 1) = 0 by omega] at t1 t2
      rw [show na - a = 0 by omega]
      exact ⟨t1, t2, t3⟩
theorem day_sim {nl na K : Nat} : ∀ (m h : Nat) (S : nf_S) (r : Nat → Int32) (acc : Int32), h + m = 6 → ra S 0 r nl na K → rb S 0 r na →
    rb (cs_day na m S h acc).1 0 (mr_day (30 * m) r (30 * h) acc).1 na ∧ (mr_day (30 * m) r (30 * h) acc).2 = (cs_day na m S h acc).2 ∧ mr_mid r (mr_day (30 * m) r (30 * h) acc).1 ∧ csq S (cs_day na m S h acc).1
  | 0, h, S, r, acc, hm, hA, hb => ⟨hb, rfl, mr_mid.rf r, csq.rf S⟩
  | m + 1, h, S, r, acc, hm, hA, hb => by
    obtain ⟨s1, s2, s3⟩ := host_sim (h := h) (by omega) 30 0 S r acc rfl hA hb
    rw [Nat.add_zero, Nat.sub_zero] at s1 s2
    rw [Nat.add_zero] at s3
    have e0 : cs_day na (m + 1) S h acc = cs_day na m (ci h na S 0 acc).1 (h + 1) (ci h na S 0 acc).2 := by
      rw [ci_eq]
      show cs_day na m (cs_fgt h na (cs_exp h na S 0 0).1 0) (h + 1) (acc + (cs_exp h na S 0 0).2) = _
      have e := exp_acc h acc na S 0 0
      rw [Int32.add_zero] at e
      rw [e]
    rw [e0, show 30 * (m + 1) = 30 + 30 * m by omega, mr_day_split, ← s2, show 30 * h + 30 = 30 * (h + 1) by omega]
    obtain ⟨t1, t2, t3, t4⟩ := day_sim m (h + 1) _ _ (mr_day 30 r (30 * h) acc).2 (by omega) (hA.same (same_ci h na S 0 acc) (fun i hi => s3 i (Or.inl hi))) s1
    exact ⟨t1, t2, s3.trans t3, (csq_ci h na S 0 acc).trans t4⟩
theorem rN_today {S : nf_S} {r : Nat → Int32} {nl na K : Nat} (h : rN S 0 r nl na K) : rN (nf_sI S 0 0 0 (nf_I S 0 0 0 + 1)) 0 (upd r 0 (r 0 + 1)) nl na (K + 1) := by
  have eR : ∀ i, i ≠ 0 → upd r 0 (r 0 + 1) i = r i := fun i hi => by
    simp only [upd]
    rw [if_neg (by omega)]
  have eI : ∀ c h, c ≠ 0 → nf_I (nf_sI S 0 0 0 (nf_I S 0 0 0 + 1)) 0 c h = nf_I S 0 c h := fun c y hc => by rw [nf_I_sI, if_neg (by omega)]
  refine h.low (Nat.le_refl _) (fun y => eI 5 y (by decide)) (fun c y hc => rfl) (fun i hi => eR i (by omega)) ?_
  obtain ⟨⟨h1, h2, h3, h4, h5, h6, h7, h8, h9, h10, h11, h12, h13, t, h14, h15⟩, _⟩ := h
  refine ⟨h1, h2, ?_, ?_, fun i hi => ?_, ?_, ?_, fun k hk => ?_, fun y hy => ?_, ?_, ?_, fun a ha => ?_, fun a ha => ?_, t + 1, by omega, ?_⟩
  · show nf_I S 0 0 0 + 1 = r 0 + 1
    rw [h3]
  · rw [eI 1 0 (by decide), eR 1 (by decide)]; exact h4
  · rw [eR _ (by omega)]; exact h5 i hi
  · rw [eI 2 0 (by decide)]; exact h6
  · rw [eR 6 (by decide)]; exact h7
  · have h := h8 k hk
    simp only [mf_lk] at h ⊢
    rw [eR _ (by omega), eR _ (by omega), eR _ (by omega)]; exact h
  · rw [eI 4 y (by decide), eR _ (by omega)]; exact h9 y hy
  · rw [eI 3 0 (by decide)]; exact h10
  · rw [eR 49 (by decide)]; exact h11
  · obtain ⟨q1, q2⟩ := h12 a ha
    refine ⟨fun w hw => ?_, q2⟩
    have h := q1 w hw
    simp only [mf_of] at h ⊢
    rw [eR _ (by omega)]; exact h
  · have h := h13 a ha
    simp only [mf_of] at h ⊢
    rw [eR _ (by omega)]; exact h
  · show r 0 + 1 = nI (t + 1)
    rw [h15]; exact (nI_succ t).symm
