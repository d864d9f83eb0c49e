/-! rounds and settling on both sides -/
def pcn (x : Int32) : Nat := ((List.range' 0 6).filter (fun t => bt x t)).length
/-- no waiting transfer goes to a host of its path, and the paths have at least d hosts -/
def pd (f g : Nat → Int32) (d : Nat) : Prop := ∀ i, i < 180 → ∀ t, t < 6 → bt (f i) t = true → bt (g i) t = false ∧ d ≤ pcn (g i)
theorem pcn_add : ∀ n, n < 64 → ∀ t, t < 6 → bt (nI n) t = false → pcn (nI n ||| cf_bit (nI t)) = pcn (nI n) + 1 := by decide +kernel
theorem pcn_full : ∀ n, n < 64 → 6 ≤ pcn (nI n) → ∀ t, t < 6 → bt (nI n) t = true := by decide +kernel
theorem pcn_bits : ∀ n, n < 64 → cf_bits (nI n) = nI (pcn (nI n)) := by decide +kernel
theorem pcn_one : ∀ t, t < 6 → pcn (nI 0 ||| cf_bit (nI t)) = 1 := by decide +kernel
theorem sum_s {f g : Nat → Int32} {na a : Nat} (hw : rw1 f g na) (ha : a < 30) : ∀ (m s c : Nat), s + m ≤ 6 → cf_sum f (a * 6 + s) m (nI c) = nI (c + ((List.range' s m).flatMap (fun s => pls (fun t => bt (f (a * 6 + s)) t) a s 0 6)).length)
  | 0, s, c, _ => by simp [cf_sum]
  | m + 1, s, c, h => by
    unfold cf_sum
    obtain ⟨⟨x, hx, ex⟩, _⟩ := hw (a * 6 + s) (by omega)
    rw [ex, pcn_bits x hx, ← nf_add, show a * 6 + s + 1 = a * 6 + (s + 1) by omega, sum_s hw ha m (s + 1) _ (by omega), List.range'_succ, List.flatMap_cons, List.length_append]
    congr 1
    unfold pls pcn
    rw [List.length_map, ex]
    omega
theorem sum_split (f : Nat → Int32) : ∀ (m n k : Nat) (acc : Int32), cf_sum f k (m + n) acc = cf_sum f (k + m) n (cf_sum f k m acc)
  | 0, n, k, acc => by rw [Nat.zero_add, Nat.add_zero]; rfl
  | m + 1, n, k, acc => by
    rw [show m + 1 + n = (m + n) + 1 by omega]
    show cf_sum f (k + 1) (m + n) (acc + cf_bits (f k)) = _
    rw [sum_split f m n (k + 1) _, show k + 1 + m = k + (m + 1) by omega]
    rfl
theorem sum_a {f g : Nat → Int32} {na : Nat} (hw : rw1 f g na) : ∀ (m a c : Nat), a + m ≤ 30 → cf_sum f (a * 6) (m * 6) (nI c) = nI (c + ((List.range' a m).flatMap (cns f)).length)
  | 0, a, c, _ => by simp [cf_sum]
  | m + 1, a, c, h => by
    rw [show (m + 1) * 6 = 6 + m * 6 by omega, sum_split, show a * 6 + 6 = (a + 1) * 6 by omega, show a * 6 = a * 6 + 0 by omega, sum_s hw (by omega) 6 0 c (by omega), sum_a hw m (a + 1) _ (by omega), show List.range' a (m + 1) = a :: List.range' (a + 1) m from List.range'_succ, List.flatMap_cons, List.length_append]
    congr 1
    rw [Nat.add_assoc]
    rfl
theorem sum_canon {f g : Nat → Int32} {na : Nat} (hw : rw1 f g na) : cf_sum f 0 180 0 = nI (canon f 30).length := by
  have h := sum_a hw 30 0 0 (by omega)
  rw [Nat.zero_add] at h
  exact h
theorem canon_na {f g : Nat → Int32} {na : Nat} (hw : rw1 f g na) (hna : na ≤ 30) : canon f 30 = canon f na := by
  unfold canon
  have e : List.range' 0 30 = List.range' 0 na ++ List.range' na (30 - na) := by
    have := List.range'_append (s := 0) (m := na) (n := 30 - na) (step := 1)
    rw [Nat.one_mul, Nat.zero_add, show na + (30 - na) = 30 by omega] at this
    exact this.symm
  rw [e, List.flatMap_append]
  have e2 : (List.range' na (30 - na)).flatMap (cns f) = [] := by
    refine List.eq_nil_iff_forall_not_mem.mpr (fun e he => ?_)
    obtain ⟨a, ha, he⟩ := List.mem_flatMap.mp he
    obtain ⟨q1, q2, q3, q4⟩ := cns_mem.mp he
    have ha2 := List.mem_range'_1.mp ha
    have h0 := (hw (a * 6 + e.2.1) (by omega)).2.2.1 (by omega)
    rw [h0, b_0] at q4
    cases q4
  rw [e2, List.append_nil]
theorem ra.day {S : nf_S} {r : Nat → Int32} {nl na K : Nat} (h : ra S 0 r nl na K) (hK : K < 2 ^ 31) : ¬ nf_I S 0 0 0 = -1 := by
  obtain ⟨t, ht, et⟩ := h.2.2.2.2.2.2.2.2.2.2.2.2.2
  rw [h.2.2.1, et]
  exact nI_ne_m1 (by omega)
/-- paths grow -/
theorem pd_put {S : nf_S} {a h d : Nat} {x y : Int32} (hp : pd (nf_A S 0 10 0) (nf_A S 0 11 0) d) (hx : ∀ t, t < 6 → bt x t = true → bt y t = false) (hy : d ≤ pcn y) : pd (nf_A (cs_put S a h x y) 0 10 0) (nf_A (cs_put S a h x y) 0 11 0) d := by
  intro i hi t ht hb
  have e1 : nf_A (cs_put S a h x y) 0 10 0 = upd (nf_A S 0 10 0) (a * 6 + h) x := rfl
  have e2 : nf_A (cs_put S a h x y) 0 11 0 = upd (nf_A S 0 11 0) (a * 6 + h) y := rfl
  rw [e1] at hb
  rw [e2]
  simp only [upd] at hb ⊢
  by_cases hq : i = a * 6 + h
  · rw [if_pos hq] at hb ⊢
    exact ⟨hx t ht hb, hy⟩
  · rw [if_neg hq] at hb ⊢
    exact hp i hi t ht hb
theorem pd_arr {S : nf_S} {a h d : Nat} {p : Int32} (hp : pd (nf_A S 0 10 0) (nf_A S 0 11 0) d) (hy : d ≤ pcn (p ||| cf_bit (nI h))) : pd (nf_A (cs_arr S a h p).1 0 10 0) (nf_A (cs_arr S a h p).1 0 11 0) d := by
  have hput : ∀ T : nf_S, csq S T → pd (nf_A (cs_arr4 T a h p).1 0 10 0) (nf_A (cs_arr4 T a h p).1 0 11 0) d := by
    intro T e
    refine pd_put (by rw [← e.1, ← e.2]; exact hp) (fun t ht hb => ?_) hy
    rw [b_and, b_xor, b_m1 t (by omega)] at hb
    cases hq : bt (p ||| cf_bit (nI h)) t with
    | false => rfl
    | true => rw [hq] at hb; simp at hb
  unfold cs_arr
  split
  · exact hp
  · split
    · unfold cs_arr2
      split
      · exact hp
      · split
        · unfold cs_arr3
          split
          · exact hput _ ⟨by rfl, by rfl⟩
          · refine hput _ ?_
            unfold cs_act
            exact csq.trans (T := cs_keep (cs_take (cs_known S h a (nf_I S 0 0 0)) h a (nf_A (cs_known S h a (nf_I S 0 0 0)) 0 6 0 a)) h a) ⟨by rfl, by rfl⟩ (csq_act _ _ _ _)
        · exact hp
    · exact hp
theorem pd_send {S : nf_S} {a s t d : Nat} {p : Int32} (hp : pd (nf_A S 0 10 0) (nf_A S 0 11 0) d) (hy : d ≤ pcn (p ||| cf_bit (nI t))) : pd (nf_A (cs_send S a s t p).1 0 10 0) (nf_A (cs_send S a s t p).1 0 11 0) d := by
  unfold cs_send cs_send2
  split
  · exact hp
  · split
    · split
      · exact hp
      · exact pd_arr (S := cs_inc (cs_inc S 1) 0) hp hy
    · exact pd_arr (S := cs_inc S 0) hp hy
theorem pd_fold {G : Nat → Int32} {d : Nat} : ∀ (l : List r3) (X : nf_S × Int32), (∀ e ∈ l, d ≤ pcn (G (e.1 * 6 + e.2.1) ||| cf_bit (nI e.2.2))) → pd (nf_A X.1 0 10 0) (nf_A X.1 0 11 0) d → pd (nf_A (l.foldl (cst G) X).1 0 10 0) (nf_A (l.foldl (cst G) X).1 0 11 0) d
  | [], X, _, h => h
  | e :: l, X, hl, h => by
    rw [List.foldl_cons]
    refine pd_fold l _ (fun x hx => hl x (List.mem_cons_of_mem _ hx)) ?_
    rw [cst_1]
    exact pd_send h (hl e List.mem_cons_self)
theorem rnd_sim {S : nf_S} {r wk : Nat → Int32} {nl na K d : Nat} (hA : ra S 0 r nl na K) (hJ : rj S 0 r na) (hK : K < 2 ^ 31) (hP : pd (nf_A S 0 10 0) (nf_A S 0 11 0) d) :
    mr_grs r wk (canon (nf_A S 0 10 0) 30).length ∧ (mr_gr r wk (canon (nf_A S 0 10 0) 30).length).2 = (cs_rnd S na).2 ∧ rj (cs_rnd S na).1 0 (mr_gr r wk (canon (nf_A S 0 10 0) 30).length).1 na ∧ ra (cs_rnd S na).1 0 (mr_gr r wk (canon (nf_A S 0 10 0) 30).length).1 nl na K ∧ pd (nf_A (cs_rnd S na).1 0 10 0) (nf_A (cs_rnd S na).1 0 11 0) (d + 1) := by
  have hna := hA.2.1
  have hw := hJ.2.2
  obtain ⟨hq1, hq2⟩ := srt_canon (wk := wk) hJ.2.1 hw
  have hlen := canon_len hw
  have ec := canon_na hw hna
  have hr1 : ∀ i, i ≠ 572 → upd r 572 0 i = r i := fun i hi => by simp only [upd]; rw [if_neg hi]
  have hA1 : ra (cs_mt (cs_cpq S 5 0)) 0 (upd r 572 0) nl na K := hA.same0 ⟨fun c h hc => rfl, fun c h hc h1 => by
    simp only [cs_mt, cs_cpq, nf_A_sA]
    rw [if_neg (by omega), if_neg (by omega), if_neg (by omega), if_neg (by omega)]⟩ (fun i hi => (hr1 i (by omega)).symm)
  have e10 : nf_A (cs_mt (cs_cpq S 5 0)) 0 10 0 = fun _ => 0 := rfl
  have e11 : nf_A (cs_mt (cs_cpq S 5 0)) 0 11 0 = fun _ => 0 := rfl
  have hJ1 : rj (cs_mt (cs_cpq S 5 0)) 0 (upd r 572 0) na := by
    refine ⟨?_, ?_, ?_⟩
    · obtain ⟨b1, b2, b3, b4⟩ := hJ.1
      refine ⟨fun y hy b hb => ?_, fun y hy => ?_, fun y hy b hb => ?_, fun i hi => ?_⟩
      · simp only [mf_kn]
        rw [hr1 _ (by omega)]; exact b1 y hy b hb
      · rw [hr1 _ (by omega)]; exact b2 y hy
      · rw [hr1 _ (by omega)]; exact b3 y hy b hb
      · rw [hr1 _ (by omega)]; exact b4 i hi
    · rw [e10, e11]
      refine ⟨[], List.nodup_nil, fun a s t => ?_, ?_, fun k a s t hk => by simp at hk⟩
      · rw [b_0]; simp
      · simp only [upd, if_true]; rfl
    · rw [e10, e11]
      exact fun i hi => ⟨⟨0, by decide, rfl⟩, ⟨0, by decide, rfl⟩, fun _ => rfl, b_0 _⟩
  have hk1 : rk (cs_mt (cs_cpq S 5 0)) := fun a ha h hh _ => by rw [e10]
  have hfx : fx (cs_mt (cs_cpq S 5 0)) (nf_A S 0 10 0) (nf_A S 0 11 0) := ⟨rfl, rfl⟩
  have hfold := art_fold na (cs_mt (cs_cpq S 5 0)) 0 0 hfx
  have hval : ∀ e ∈ canon (nf_A S 0 10 0) na, e.1 < na ∧ e.2.1 < 6 ∧ e.2.2 < 6 ∧ ∃ p, p < 64 ∧ nf_A S 0 11 0 (e.1 * 6 + e.2.1) = nI p := by
    intro e he
    obtain ⟨q1, q2, q3, _⟩ := canon_mem.mp he
    exact ⟨q1, q2, q3, (hw (e.1 * 6 + e.2.1) (by omega)).2.1⟩
  have hsim := fold_sim (G := nf_A S 0 11 0) (wk := ms_srt r (canon (nf_A S 0 10 0) 30).length wk 0) (canon (nf_A S 0 10 0) na) (cs_mt (cs_cpq S 5 0)) 0 (upd r 572 0) 0 hval (fun j e he => by rw [Nat.zero_add]; exact hq2 j e (by rw [ec]; exact he)) hA1 hJ1 hk1 (hA1.day hK)
  rw [← ec] at hsim
  have hcs : cs_rnd S na = (canon (nf_A S 0 10 0) 30).foldl (cst (nf_A S 0 11 0)) (cs_mt (cs_cpq S 5 0), 0) := by
    unfold cs_rnd
    rw [hfold, ec]
    rfl
  have hP1 : pd (nf_A (cs_rnd S na).1 0 10 0) (nf_A (cs_rnd S na).1 0 11 0) (d + 1) := by
    rw [hcs]
    refine pd_fold _ _ (fun e he => ?_) (fun i hi t ht hb => by
      have hb2 : bt (0 : Int32) t = true := hb
      rw [b_0] at hb2; cases hb2)
    obtain ⟨q1, q2, q3, q4⟩ := canon_mem.mp he
    obtain ⟨h1, h2⟩ := hP (e.1 * 6 + e.2.1) (by omega) e.2.2 q3 q4
    obtain ⟨_, ⟨p, hp, ep⟩, _⟩ := hw (e.1 * 6 + e.2.1) (by omega)
    rw [ep] at h1 h2 ⊢
    rw [pcn_add p hp e.2.2 q3 h1]
    omega
  refine ⟨⟨by omega, hq1, hsim.2.2.2⟩, ?_, ?_, ?_, hP1⟩
  · rw [hcs]; exact hsim.1
  · rw [hcs]; exact hsim.2.1
  · rw [hcs]; exact hsim.2.2.1
theorem stl_sim {nl na K : Nat} (hK : K < 2 ^ 31) : ∀ (m : Nat) (S : nf_S) (r wk : Nat → Int32) (k d : Nat), 6 ≤ m + d → ra S 0 r nl na K → rj S 0 r na → pd (nf_A S 0 10 0) (nf_A S 0 11 0) d → 1 ≤ d →
    mr_sfs m r wk ∧ (mr_stl m r wk k).2.2 = (cs_stl na m S k).2 ∧ rj (cs_stl na m S k).1 0 (mr_stl m r wk k).1 na ∧ ra (cs_stl na m S k).1 0 (mr_stl m r wk k).1 nl na K ∧ pd (nf_A (cs_stl na m S k).1 0 10 0) (nf_A (cs_stl na m S k).1 0 11 0) 1
  | 0, S, r, wk, k, d, hm, hA, hJ, hP, hd => by
    have hw := hJ.2.2
    have hP1 : pd (nf_A S 0 10 0) (nf_A S 0 11 0) 1 := fun i hi t ht hb => ⟨(hP i hi t ht hb).1, by have := (hP i hi t ht hb).2; omega⟩
    refine ⟨?_, rfl, hJ, hA, hP1⟩
    have he : canon (nf_A S 0 10 0) 30 = [] := by
      refine List.eq_nil_iff_forall_not_mem.mpr (fun e he => ?_)
      obtain ⟨q1, q2, q3, q4⟩ := canon_mem.mp he
      obtain ⟨h1, h2⟩ := hP (e.1 * 6 + e.2.1) (by omega) e.2.2 q3 q4
      obtain ⟨_, ⟨p, hp, ep⟩, _⟩ := hw (e.1 * 6 + e.2.1) (by omega)
      rw [ep] at h1 h2
      rw [pcn_full p hp (by omega) e.2.2 q3] at h1
      cases h1
    have h1 := (srt_canon (wk := wk) hJ.2.1 hw).1
    rw [he] at h1
    show r 572 ≤ 0
    rw [h1]
    decide
  | m + 1, S, r, wk, k, d, hm, hA, hJ, hP, hd => by
    have hw := hJ.2.2
    have h1 := (srt_canon (wk := wk) hJ.2.1 hw).1
    have h2 := sum_canon hw
    have hlen := canon_len hw
    have hP1 : pd (nf_A S 0 10 0) (nf_A S 0 11 0) 1 := fun i hi t ht hb => ⟨(hP i hi t ht hb).1, by have := (hP i hi t ht hb).2; omega⟩
    unfold mr_sfs mr_stl cs_stl
    rw [h2, ← h1]
    by_cases hz : r 572 ≤ 0
    · rw [if_pos hz, if_pos hz]
      exact ⟨Or.inl hz, rfl, hJ, hA, hP1⟩
    · rw [if_neg hz, if_neg hz]
      have hnum : cf_num (r 572) = (canon (nf_A S 0 10 0) 30).length := by rw [h1, cf_num_I (by omega)]
      rw [hnum]
      obtain ⟨g1, g2, g3, g4, g5⟩ := rnd_sim (wk := wk) hA hJ hK hP
      obtain ⟨i1, i2, i3, i4, i5⟩ := stl_sim hK m (cs_rnd S na).1 (mr_gr r wk (canon (nf_A S 0 10 0) 30).length).1 (ms_srt r (canon (nf_A S 0 10 0) 30).length wk 0) (k + 1) (d + 1) (by omega) g4 g3 g5 (by omega)
      exact ⟨Or.inr ⟨g1, i1⟩, i2, i3, i4, i5⟩
