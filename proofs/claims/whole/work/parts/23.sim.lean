/-! the queue's order and length; an arrival on both sides -/
def cns (f : Nat → Int32) (a : Nat) : List r3 := (List.range' 0 6).flatMap (fun s => pls (fun t => bt (f (a * 6 + s)) t) a s 0 6)
def canon (f : Nat → Int32) (n : Nat) : List r3 := (List.range' 0 n).flatMap (cns f)
theorem cns_mem {f : Nat → Int32} {a : Nat} {e : r3} : e ∈ cns f a ↔ e.1 = a ∧ e.2.1 < 6 ∧ e.2.2 < 6 ∧ bt (f (a * 6 + e.2.1)) e.2.2 = true := by
  simp only [cns, List.mem_flatMap, List.mem_range'_1, pls_mem]
  constructor
  · rintro ⟨s, ⟨_, h2⟩, rfl, rfl, h3, h4⟩
    exact ⟨rfl, by omega, h3, h4⟩
  · rintro ⟨h1, h2, h3, h4⟩
    exact ⟨e.2.1, ⟨by omega, by omega⟩, h1, rfl, h3, h4⟩
theorem canon_mem {f : Nat → Int32} {n : Nat} {e : r3} : e ∈ canon f n ↔ e.1 < n ∧ e.2.1 < 6 ∧ e.2.2 < 6 ∧ bt (f (e.1 * 6 + e.2.1)) e.2.2 = true := by
  simp only [canon, List.mem_flatMap, List.mem_range'_1, cns_mem]
  constructor
  · rintro ⟨a, ⟨_, h2⟩, rfl, h3⟩
    exact ⟨by omega, h3⟩
  · rintro ⟨h1, h2⟩
    exact ⟨e.1, ⟨by omega, by omega⟩, rfl, h2⟩
def r3k (e : r3) : Nat := (e.1 * 8 + e.2.1) * 8 + e.2.2
theorem pls_sorted {c : Nat → Bool} {a h k m : Nat} : (pls c a h k m).Pairwise (fun x y => r3k x < r3k y) := by
  unfold pls
  refine List.Pairwise.map _ (fun x y hxy => ?_) (List.Pairwise.filter _ (List.pairwise_lt_range'))
  show (a * 8 + h) * 8 + x < (a * 8 + h) * 8 + y
  omega
theorem cns_sorted (f : Nat → Int32) (a : Nat) : (cns f a).Pairwise (fun x y => r3k x < r3k y) := by
  unfold cns
  refine List.pairwise_flatMap.mpr ⟨fun s _ => pls_sorted, ?_⟩
  refine List.Pairwise.imp ?_ (List.pairwise_lt_range' (s := 0) (n := 6))
  intro s1 s2 h12 x hx y hy
  obtain ⟨q1, q2, q3, _⟩ := pls_mem.mp hx
  obtain ⟨p1, p2, p3, _⟩ := pls_mem.mp hy
  unfold r3k
  omega
theorem canon_sorted (f : Nat → Int32) (n : Nat) : (canon f n).Pairwise (fun x y => r3k x < r3k y) := by
  unfold canon
  refine List.pairwise_flatMap.mpr ⟨fun a _ => cns_sorted f a, ?_⟩
  refine List.Pairwise.imp ?_ (List.pairwise_lt_range' (s := 0) (n := n))
  intro s1 s2 h12 x hx y hy
  obtain ⟨q1, q2, q3, _⟩ := cns_mem.mp hx
  obtain ⟨p1, p2, p3, _⟩ := cns_mem.mp hy
  unfold r3k
  omega
theorem canon_nodup (f : Nat → Int32) (n : Nat) : (canon f n).Nodup := List.Pairwise.imp (fun {x y} h e => by subst e; exact Nat.lt_irrefl _ h) (canon_sorted f n)
theorem rq_perm {f : Nat → Int32} {Q : List r3} (hn : Q.Nodup) (hm : ∀ a s t, (a, s, t) ∈ Q ↔ a < 30 ∧ s < 6 ∧ t < 6 ∧ bt (f (a * 6 + s)) t = true) : Q.Perm (canon f 30) :=
  (List.perm_ext_iff_of_nodup hn (canon_nodup f 30)).mpr (fun e => by
    obtain ⟨a, s, t⟩ := e
    rw [hm, canon_mem])
theorem fm_len {α β : Type} (g : α → List β) (B : Nat) : ∀ l : List α, (∀ x ∈ l, (g x).length ≤ B) → (l.flatMap g).length ≤ l.length * B
  | [], _ => by simp
  | x :: l, h => by
    rw [List.flatMap_cons, List.length_append, List.length_cons, Nat.add_mul, Nat.one_mul, Nat.add_comm]
    exact Nat.add_le_add (fm_len g B l (fun y hy => h y (List.mem_cons_of_mem _ hy))) (h x List.mem_cons_self)
theorem five : ∀ x, x < 64 → ∀ s, s < 6 → bt (nI x) s = false → ((List.range' 0 6).filter (fun t => bt (nI x) t)).length ≤ 5 := by decide +kernel
theorem canon_len {f g : Nat → Int32} {na : Nat} (h : rw1 f g na) : (canon f 30).length ≤ 900 := by
  unfold canon
  refine Nat.le_trans (fm_len _ 30 _ (fun a ha => ?_)) (by rw [List.length_range']; decide)
  have ha2 := (List.mem_range'_1.mp ha).2
  unfold cns
  refine Nat.le_trans (fm_len _ 5 _ (fun s hs => ?_)) (by rw [List.length_range']; decide)
  have hs2 := (List.mem_range'_1.mp hs).2
  obtain ⟨⟨x, hx, ex⟩, _, _, h4⟩ := h (a * 6 + s) (by omega)
  unfold pls
  rw [List.length_map, ex]
  rw [ex, show (a * 6 + s) % 6 = s by omega] at h4
  exact five x hx s (by omega) h4
theorem mr_arr_low {r : Nat → Int32} {nl na K h a p : Nat} {S : nf_S} (hA : ra S 0 r nl na K) (hJ : rj S 0 r na) : ∃ q, mr_ok r nl na q ∧ q ≤ 900 := by
  obtain ⟨h1, h2, h3, h4, h5, h6, h7, h8, h9, h10, h11, h12, h13, h14⟩ := hA
  obtain ⟨hb, ⟨Q, hn, hm, hq⟩, hw⟩ := hJ
  have hl : Q.length ≤ 900 := by rw [(rq_perm hn hm).length_eq]; exact canon_len hw
  refine ⟨Q.length, ⟨h1, h2, by omega, h7, h11, hq.1, fun x hx => ?_, h13⟩, hl⟩
  have h := (h12 x hx)
  rw [← h.1 3 (by decide), ← h.1 4 (by decide)]
  exact h.2.1
theorem path_or {p h : Nat} (hp : p < 64) (hh : h < 6) : ∃ p1, p1 < 64 ∧ nI p ||| cf_bit (nI h) = nI p1 := by
  have h1 := bt_small (x := nI p ||| cf_bit (nI h)) (n := 6) (by decide) (fun i h1 h2 => by
    rw [bt_keep _ (by omega) h2, bt_of_small (n := 6) hp h1 h2]
    simp; omega)
  exact h1
/-- sending: what the class puts is what the reference pushes -/
theorem put_sim {S : nf_S} {r : Nat → Int32} {nl na K h a p : Nat} (hA : ra S 0 r nl na K) (hJ : rj S 0 r na) (hh : h < 6) (ha : a < na) (hp : p < 64) (he : nf_A S 0 10 0 (a * 6 + h) = 0) :
    rj (cs_arr4 S a h (nI p)).1 0 (mr_arr4 r h a (nI p)).1 na ∧ ∀ i, i < 572 → (mr_arr4 r h a (nI p)).1 i = r i := by
  have hna := hA.2.1
  obtain ⟨p1, hp1, ep1⟩ := path_or hp hh
  obtain ⟨hb, ⟨Q, hn, hm, hq⟩, hw⟩ := hJ
  have hl : Q.length ≤ 900 := by rw [(rq_perm hn hm).length_eq]; exact canon_len hw
  have hq2 := qh_g (pp := nI p ||| cf_bit (nI h)) hh hm he hq
  obtain ⟨h3, h4⟩ := psh_q (g := upd (nf_A S 0 11 0) (a * 6 + h) (nI p ||| cf_bit (nI h))) (lk := fun t => bt (cf_nbr S (cf_bit (nI h))) t) (pp := nI p ||| cf_bit (nI h)) (h := h) (a := a) hA.1 (by simp [upd]) 6 r 0 Q (by omega) hA.2.2.2.2.2.2.1 (fun t ht => by rw [← hA.lnk, hA.nbr hh (by omega)]) hq2 (by omega)
  have hx : ∀ t, t < 32 → bt (cf_nbr S (cf_bit (nI h)) &&& ((nI p ||| cf_bit (nI h)) ^^^ -1)) t = (!bt (nI p ||| cf_bit (nI h)) t && bt (cf_nbr S (cf_bit (nI h))) t) := by
    intro t ht
    rw [b_and, b_xor, b_m1 t ht]
    cases bt (cf_nbr S (cf_bit (nI h))) t <;> cases bt (nI p ||| cf_bit (nI h)) t <;> rfl
  refine ⟨⟨?_, ?_, ?_⟩, h4⟩
  · obtain ⟨b1, b2, b3, b4⟩ := hb
    refine ⟨fun y hy b hb => ?_, fun y hy => ?_, fun y hy b hb => ?_, fun i hi => ?_⟩
    · simp only [mf_kn, mr_arr4]
      rw [h4 _ (by omega)]; exact b1 y hy b hb
    · simp only [mr_arr4]
      rw [h4 _ (by omega)]; exact b2 y hy
    · simp only [mr_arr4]
      rw [h4 _ (by omega)]; exact b3 y hy b hb
    · simp only [mr_arr4]
      rw [h4 _ (by omega)]; exact b4 i hi
  · have e1 : nf_A (cs_arr4 S a h (nI p)).1 0 10 0 = upd (nf_A S 0 10 0) (a * 6 + h) (cf_nbr S (cf_bit (nI h)) &&& ((nI p ||| cf_bit (nI h)) ^^^ -1)) := rfl
    have e2 : nf_A (cs_arr4 S a h (nI p)).1 0 11 0 = upd (nf_A S 0 11 0) (a * 6 + h) (nI p ||| cf_bit (nI h)) := rfl
    rw [e1, e2]
    exact rq_put (by omega) hh hn hm he (fun t ht => hx t (by omega)) h3
  · have e1 : nf_A (cs_arr4 S a h (nI p)).1 0 10 0 = upd (nf_A S 0 10 0) (a * 6 + h) (cf_nbr S (cf_bit (nI h)) &&& ((nI p ||| cf_bit (nI h)) ^^^ -1)) := rfl
    have e2 : nf_A (cs_arr4 S a h (nI p)).1 0 11 0 = upd (nf_A S 0 11 0) (a * 6 + h) (nI p ||| cf_bit (nI h)) := rfl
    rw [e1, e2]
    intro i hi
    simp only [upd]
    by_cases h5 : i = a * 6 + h
    · rw [if_pos h5, if_pos h5]
      refine ⟨?_, ⟨p1, hp1, ep1⟩, fun h6 => absurd h6 (by omega), ?_⟩
      · exact bt_small (n := 6) (by decide) (fun t h6 h7 => by
          rw [hx t h7]
          have h8 : ¬ bt (cf_nbr S (cf_bit (nI h))) t = true := by
            rw [hA.nbr hh h7]
            intro h9
            unfold cf_lnk at h9
            rw [hA.2.2.2.2.2.1, cf_num_I (by have := hA.1; omega), cf_btw_iff _ _ _ _ _ _ (by have := hA.1; omega)] at h9
            obtain ⟨j, _, h10, h11⟩ := h9
            obtain ⟨_, _, _, ⟨x, hx, ex⟩, y, hy, ey⟩ := hA.2.2.2.2.2.2.2.1 j (by omega)
            rw [ex, ey, nI_eq_iff (by omega) (by omega), nI_eq_iff (by omega) (by omega), nI_eq_iff (by omega) (by omega), nI_eq_iff (by omega) (by omega)] at h11
            omega
          rw [Bool.not_eq_true] at h8
          rw [h8, Bool.and_false])
      · rw [show i % 6 = h by omega, hx h (by omega), bt_keep _ (by omega) (by omega)]
        simp
    · rw [if_neg h5, if_neg h5]; exact hw i hi
theorem arr3_sim {S : nf_S} {r : Nat → Int32} {nl na K h a p : Nat} (hA : ra S 0 r nl na K) (hJ : rj S 0 r na) (hh : h < 6) (ha : a < na) (hp : p < 64) (he : nf_A S 0 10 0 (a * 6 + h) = 0) :
    (mr_arr3 r h a (nI p)).2 = nf_b (cs_arr3 S a h (nI p)).2 ∧ rj (cs_arr3 S a h (nI p)).1 0 (mr_arr3 r h a (nI p)).1 na ∧ ∀ i, i < 200 → (mr_arr3 r h a (nI p)).1 i = r i := by
  obtain ⟨q1, q2, _⟩ := hA.2.2.2.2.2.2.2.2.2.2.2.1 a ha
  have e8 : nf_A S 0 8 0 a = mf_of r a 3 := q1 3 (by decide)
  have e9 : nf_A S 0 9 0 a = mf_of r a 4 := q1 4 (by decide)
  unfold cs_arr3 mr_arr3
  rw [← e8]
  by_cases h0 : nf_A S 0 8 0 a = 0
  · rw [if_pos h0, if_pos h0]
    obtain ⟨h1, h2⟩ := put_sim hA hJ hh ha hp he
    exact ⟨rfl, h1, fun i hi => h2 i (by omega)⟩
  · rw [if_neg h0, if_neg h0]
    obtain ⟨t, ht, et⟩ := q2.resolve_left h0
    have e1 : cs_act S a h = cs_act1 S a h t := (cs_act_t ht et).symm
    have e2 : cf_num (mf_of r a 4) = t := by rw [← e9, et, cf_num_I (by omega)]
    rw [e1, e2]
    have hm := mr_mid_act r h a t hh ht
    have hA2 : ra (cs_act1 S a h t) 0 (mr_act r h a t) nl na K := hA.same (by rw [← e1]; exact cs_same_act S a h) (fun i hi => hm i (Or.inl hi))
    have hJ2 : rj (cs_act1 S a h t) 0 (mr_act r h a t) na := hJ.step (rb_act hA hJ.1 hh ha ht) (csq_act S a h t) hm
    obtain ⟨h1, h2⟩ := put_sim hA2 hJ2 hh ha hp (by rw [← (csq_act S a h t).1]; exact he)
    exact ⟨rfl, h1, fun i hi => (h2 i (by omega)).trans (hm i (Or.inl hi)).symm⟩
theorem arr2_sim {S : nf_S} {r : Nat → Int32} {nl na K h a p : Nat} (hA : ra S 0 r nl na K) (hJ : rj S 0 r na) (hh : h < 6) (ha : a < na) (hp : p < 64) (he : nf_A S 0 10 0 (a * 6 + h) = 0) :
    (mr_arr2 r h a (nI p)).2 = nf_b (cs_arr2 S a h (nI p)).2 ∧ rj (cs_arr2 S a h (nI p)).1 0 (mr_arr2 r h a (nI p)).1 na ∧ ∀ i, i < 200 → (mr_arr2 r h a (nI p)).1 i = r i := by
  have hna := hA.2.1
  obtain ⟨q1, q2, x, hx, ex⟩ := hA.2.2.2.2.2.2.2.2.2.2.2.1 a ha
  have e6 : nf_A S 0 6 0 a = mf_of r a 1 := q1 1 (by decide)
  have e5 : nf_A S 0 5 0 a = mf_of r a 0 := q1 0 (by decide)
  obtain ⟨e13, y, hy, ey⟩ := hJ.1.2.2.1 h hh a (by omega)
  unfold cs_arr2 mr_arr2
  rw [← e6, ← e13]
  cases hc : cf_has (nf_A S 0 13 h a) (nf_A S 0 6 0 a) with
  | true =>
    rw [if_pos ((tst_iff _ _).mpr hc)]
    simp only [if_true]
    have hm : mr_mid r (upd r (386 + 30 * h + a) (nf_A S 0 13 h a &&& (cf_bit (nf_A S 0 6 0 a) ^^^ -1))) := mr_mid_upd r _ _ (by omega) (by omega)
    have hJ1 : rj (cs_take S h a (nf_A S 0 6 0 a)) 0 (upd r (386 + 30 * h + a) (nf_A S 0 13 h a &&& (cf_bit (nf_A S 0 6 0 a) ^^^ -1))) na := hJ.step (rb_pend hJ.1 hh (by omega) (by rw [ex]; exact (bt_ten ⟨y, hy, ey⟩ hx).2)) (csq_take S h a _) hm
    have hm2 := mr_mid_inc (upd r (386 + 30 * h + a) (nf_A S 0 13 h a &&& (cf_bit (nf_A S 0 6 0 a) ^^^ -1))) (566 + 4) (by omega) (by omega)
    exact ⟨rfl, hJ1.step (rb_inc hJ1.1 (by decide)) (csq_inc _ _) hm2, fun i hi => ((hm i (Or.inl hi)).trans (hm2 i (Or.inl hi))).symm⟩
  | false =>
    have eS : cs_take S h a (nf_A S 0 6 0 a) = S := by
      unfold cs_take
      rw [take_none hc, nf_A_upd_self, nf_sA_self]
    have n1 : ¬ ((nf_A S 0 13 h a >>> (nf_A S 0 6 0 a &&& 31)) &&& 1 = 1) := fun q => by rw [tst_iff, hc] at q; cases q
    rw [eS, if_neg n1, e5, hA.2.2.2.2.2.2.2.2.1 h hh]
    simp only [Bool.false_eq_true, if_false]
    cases hg : cf_has (r (43 + h)) (mf_of r a 0) with
    | false =>
      rw [if_pos ((tst0_iff _ _).mpr hg)]
      exact ⟨rfl, hJ, fun _ _ => rfl⟩
    | true =>
      have n2 : ¬ ((r (43 + h) >>> (mf_of r a 0 &&& 31)) &&& 1 = 0) := fun q => by rw [tst0_iff, hg] at q; cases q
      rw [if_neg n2]
      simp only [if_true]
      have hm : mr_mid r (upd r (380 + h) (r (380 + h) ||| cf_bit (nI a))) := mr_mid_upd r _ _ (by omega) (by omega)
      have hst := hJ.1.2.1 h hh
      have hb2 : rb (cs_keep S h a) 0 (upd r (380 + h) (r (380 + h) ||| cf_bit (nI a))) na := by
        unfold cs_keep
        rw [hst.1]
        refine rb_store hJ.1 hh (fun i h5 h6 => ?_)
        rw [bt_keep _ (by omega) h6, ← hst.1, hst.2 i h5 h6]
        simp; omega
      have hJ2 := hJ.step hb2 (csq_keep S h a) hm
      have hA2 := hA.same (cs_same_keep S h a) (fun i hi => hm i (Or.inl hi))
      obtain ⟨h1, h2, h3⟩ := arr3_sim hA2 hJ2 hh ha hp he
      exact ⟨h1, h2, fun i hi => (h3 i hi).trans (hm i (Or.inl hi)).symm⟩
/-- an arrival on both sides -/
theorem arr_sim {S : nf_S} {r : Nat → Int32} {nl na K h a p : Nat} (hA : ra S 0 r nl na K) (hJ : rj S 0 r na) (hh : h < 6) (ha : a < na) (hp : p < 64) (he : nf_A S 0 12 h a = -1 → nf_A S 0 10 0 (a * 6 + h) = 0) :
    (mr_arr r h a (nI p)).2 = nf_b (cs_arr S a h (nI p)).2 ∧ rj (cs_arr S a h (nI p)).1 0 (mr_arr r h a (nI p)).1 na ∧ ∀ i, i < 200 → (mr_arr r h a (nI p)).1 i = r i := by
  have hna := hA.2.1
  obtain ⟨q1, _⟩ := hA.2.2.2.2.2.2.2.2.2.2.2.1 a ha
  have e7 : nf_A S 0 7 0 a = mf_of r a 2 := q1 2 (by decide)
  have ek := (hJ.1.1 h hh a (by omega)).1
  unfold cs_arr mr_arr cf_kn
  rw [ek, e7, hA.2.2.1, hA.2.2.2.1]
  by_cases hm : mf_kn r h a = -1
  · have hb : (!(mf_kn r h a == -1)) = false := by rw [hm]; decide
    rw [hb, if_pos hm]
    simp only [Bool.false_eq_true, if_false]
    by_cases hd : r 0 - mf_of r a 2 < r 1
    · rw [if_pos hd, if_pos hd]
      have hmid : mr_mid r (upd r (200 + 30 * h + a) (r 0)) := mr_mid_upd r _ _ (by omega) (by omega)
      have hJ1 := hJ.step (rb_known (x := r 0) hJ.1 hh ha hna) (csq_known S h a _) hmid
      have hA1 := hA.same (cs_same_known S h a (r 0)) (fun i hi => hmid i (Or.inl hi))
      obtain ⟨h1, h2, h3⟩ := arr2_sim hA1 hJ1 hh ha hp (he (by rw [ek]; exact hm))
      exact ⟨h1, h2, fun i hi => (h3 i hi).trans (hmid i (Or.inl hi)).symm⟩
    · rw [if_neg hd, if_neg hd]
      have hm2 := mr_mid_inc r (566 + 3) (by omega) (by omega)
      exact ⟨rfl, hJ.step (rb_inc hJ.1 (by decide)) (csq_inc _ _) hm2, fun i hi => (hm2 i (Or.inl hi)).symm⟩
  · have hb : (!(mf_kn r h a == -1)) = true := by
      have : (mf_kn r h a == -1) = false := by simpa using hm
      rw [this]; rfl
    rw [hb, if_neg hm]
    simp only [if_true]
    have hm2 := mr_mid_inc r (566 + 2) (by omega) (by omega)
    exact ⟨rfl, hJ.step (rb_inc hJ.1 (by decide)) (csq_inc _ _) hm2, fun i hi => (hm2 i (Or.inl hi)).symm⟩
/-- where a host doesn't know an article, nothing of it waits there -/
def rk (S : nf_S) : Prop := ∀ a, a < 30 → ∀ h, h < 6 → nf_A S 0 12 h a = -1 → nf_A S 0 10 0 (a * 6 + h) = 0
theorem cs_act_12 (S : nf_S) (a h t y : Nat) : nf_A (cs_act1 S a h t) 0 12 y = nf_A S 0 12 y := by
  unfold cs_act1
  split
  · split
    · rfl
    · rfl
  · split
    · rfl
    · simp [cs_addc, nf_A_sA]
theorem rk_arr {S : nf_S} {h a : Nat} {p : Int32} (hk : rk S) (hh : h < 6) (hd : ¬ nf_I S 0 0 0 = -1) : rk (cs_arr S a h p).1 := by
  have hput : ∀ T : nf_S, nf_A T 0 10 0 = nf_A S 0 10 0 → (∀ y, nf_A T 0 12 y = nf_A (cs_known S h a (nf_I S 0 0 0)) 0 12 y) → ∀ x y, rk (cs_put T a h x y) := by
    intro T e1 e2 x y b hb z hz hm
    have h1 : nf_A T 0 12 z b = -1 := hm
    rw [e2 z] at h1
    show upd (nf_A T 0 10 0) (a * 6 + h) x (b * 6 + z) = 0
    simp only [upd]
    by_cases hq : b * 6 + z = a * 6 + h
    · have h2 : b = a := by omega
      have h3 : z = h := by omega
      subst h2; subst h3
      simp [cs_known, nf_A_sA, upd] at h1
      exact absurd h1 hd
    · rw [if_neg hq, e1]
      refine hk b hb z hz ?_
      simp only [cs_known, nf_A_sA, upd] at h1
      by_cases h3 : z = h
      · subst h3
        simp at h1
        simp only [upd] at h1
        rw [if_neg (fun e : b = a => hq (by rw [e]))] at h1
        exact h1
      · simpa [h3] using h1
  have hkn : ∀ T : nf_S, nf_A T 0 10 0 = nf_A S 0 10 0 → (∀ y, nf_A T 0 12 y = nf_A (cs_known S h a (nf_I S 0 0 0)) 0 12 y) → rk T := by
    intro T e1 e2 b hb z hz hm
    rw [e2 z] at hm
    rw [e1]
    refine hk b hb z hz ?_
    simp only [cs_known, nf_A_sA, upd] at hm
    by_cases h3 : z = h
    · subst h3
      simp at hm
      simp only [upd] at hm
      by_cases h4 : b = a
      · rw [if_pos h4] at hm; exact absurd hm hd
      · rw [if_neg h4] at hm; exact hm
    · simpa [h3] using hm
  unfold cs_arr
  split
  · exact hk
  · split
    · unfold cs_arr2
      split
      · exact hkn _ rfl (fun y => by simp [cs_inc, cs_take, nf_A_sA])
      · split
        · unfold cs_arr3
          split
          · exact hput _ (by rfl) (fun y => by rfl) _ _
          · refine hput _ ?_ (fun y => ?_) _ _
            · unfold cs_act; rw [← (csq_act _ a h _).1]; rfl
            · unfold cs_act; rw [cs_act_12]; simp [cs_keep, cs_take, nf_A_sA, nf_A_sI]
        · exact hkn _ rfl (fun y => by simp [cs_take, nf_A_sA])
    · exact hk
