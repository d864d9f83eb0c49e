/-! links, and an arrival on both sides -/
theorem cf_btw_iff (F G : Nat → Int32) (a b : Int32) : ∀ (m k : Nat), k + m < 2 ^ 31 → (¬ cf_btw F G a b k m = -1 ↔ ∃ j, k ≤ j ∧ j < k + m ∧ ((F j = a ∧ G j = b) ∨ (F j = b ∧ G j = a)))
  | 0, k, _ => by
    constructor
    · intro h; exact absurd rfl h
    · rintro ⟨j, h1, h2, _⟩; omega
  | m + 1, k, hk => by
    unfold cf_btw
    by_cases hc : (F k = a ∧ G k = b) ∨ (F k = b ∧ G k = a)
    · rw [if_pos hc]
      exact ⟨fun _ => ⟨k, Nat.le_refl k, by omega, hc⟩, fun _ => nI_ne_m1 (by omega)⟩
    · rw [if_neg hc, cf_btw_iff F G a b m (k + 1) (by omega)]
      constructor
      · rintro ⟨j, h1, h2, h3⟩; exact ⟨j, by omega, by omega, h3⟩
      · rintro ⟨j, h1, h2, h3⟩
        rcases Nat.lt_or_ge k j with h | h
        · exact ⟨j, h, by omega, h3⟩
        · have : j = k := by omega
          subst this; exact absurd h3 hc
theorem cf_btw_congr {F G F' G' : Nat → Int32} {a b : Int32} : ∀ (m k : Nat), (∀ j, k ≤ j → j < k + m → F j = F' j ∧ G j = G' j) → cf_btw F G a b k m = cf_btw F' G' a b k m
  | 0, _, _ => rfl
  | m + 1, k, h => by
    unfold cf_btw
    rw [(h k (Nat.le_refl k) (by omega)).1, (h k (Nat.le_refl k) (by omega)).2, cf_btw_congr m (k + 1) (fun j h1 h2 => h j (by omega) (by omega))]
theorem ra.lnk {S : nf_S} {r : Nat → Int32} {nl na K : Nat} (h : ra S 0 r nl na K) (x y : Int32) : cf_lnk S x y = mf_lnk r x y := by
  unfold cf_lnk mf_lnk
  have h1 := h.1
  rw [h.2.2.2.2.2.1, h.2.2.2.2.2.2.1]
  refine cf_btw_congr _ _ (fun j _ hj => ?_)
  rw [cf_num_I (by omega)] at hj
  have h2 := h.2.2.2.2.2.2.2.1 j (by omega)
  exact ⟨h2.1, h2.2.1⟩
theorem mf_lnk_low {r r' : Nat → Int32} {nl : Nat} {x y : Int32} (hr : r 6 = nI nl) (hnl : nl ≤ 12) (e : ∀ i, i < 200 → r i = r' i) : mf_lnk r x y = mf_lnk r' x y := by
  unfold mf_lnk
  rw [← e 6 (by decide), hr]
  refine cf_btw_congr _ _ (fun j _ hj => ?_)
  rw [cf_num_I (by omega)] at hj
  simp only [mf_lk]
  rw [e _ (by omega), e _ (by omega)]
  exact ⟨rfl, rfl⟩
theorem has_bit {h x : Nat} (hh : h < 6) (hx : x < 6) : cf_has (cf_bit (nI h)) (nI x) = true ↔ x = h := by
  rw [has_I _ (by omega), cf_bit_bt (by omega) (by omega)]; simp
theorem nI_eq_iff {x y : Nat} (hx : x < 2 ^ 31) (hy : y < 2 ^ 31) : nI x = nI y ↔ x = y := ⟨nI_inj hx hy, fun h => by rw [h]⟩
theorem cf_nb_bt {F G : Nat → Int32} {h t : Nat} (hh : h < 6) (ht : t < 32) : ∀ (m k : Nat) (acc : Int32), (∀ j, k ≤ j → j < k + m → (∃ x, x < 6 ∧ F j = nI x) ∧ ∃ x, x < 6 ∧ G j = nI x) →
    (bt (cf_nb F G (cf_bit (nI h)) k m acc) t = true ↔ bt acc t = true ∨ ∃ j, k ≤ j ∧ j < k + m ∧ ((F j = nI h ∧ G j = nI t) ∨ (F j = nI t ∧ G j = nI h)))
  | 0, k, acc, _ => by
    constructor
    · intro h; exact Or.inl h
    · rintro (h | ⟨j, h1, h2, _⟩)
      · exact h
      · omega
  | m + 1, k, acc, hFG => by
    unfold cf_nb
    rw [cf_nb_bt hh ht m (k + 1) _ (fun j h1 h2 => hFG j (by omega) (by omega))]
    obtain ⟨⟨x, hx, ex⟩, y, hy, ey⟩ := hFG k (Nat.le_refl k) (by omega)
    have e1 : bt (if cf_has (cf_bit (nI h)) (G k) = true then (if cf_has (cf_bit (nI h)) (F k) = true then acc ||| (1 : Int32) <<< (G k &&& 31) else acc) ||| (1 : Int32) <<< (F k &&& 31) else (if cf_has (cf_bit (nI h)) (F k) = true then acc ||| (1 : Int32) <<< (G k &&& 31) else acc)) t = true ↔ bt acc t = true ∨ ((x = h ∧ y = t) ∨ (x = t ∧ y = h)) := by
      rw [ex, ey]
      simp only [has_bit hh hx, has_bit hh hy]
      by_cases h1 : x = h <;> by_cases h2 : y = h
      · simp only [h1, h2, if_true, b_or, bt_bit (show h < 32 by omega) ht]
        cases bt acc t <;> simp <;> omega
      · simp only [h1, h2, if_true, if_false, b_or, bt_bit (show y < 32 by omega) ht]
        cases bt acc t <;> simp <;> omega
      · simp only [h1, h2, if_true, if_false, b_or, bt_bit (show x < 32 by omega) ht]
        cases bt acc t <;> simp <;> omega
      · simp only [h1, h2, if_false]
        cases bt acc t <;> simp
    rw [e1]
    constructor
    · rintro ((h3 | h3) | ⟨j, h3, h4, h5⟩)
      · exact Or.inl h3
      · refine Or.inr ⟨k, Nat.le_refl k, by omega, ?_⟩
        rw [ex, ey]
        rcases h3 with ⟨rfl, rfl⟩ | ⟨rfl, rfl⟩
        · exact Or.inl ⟨rfl, rfl⟩
        · exact Or.inr ⟨rfl, rfl⟩
      · exact Or.inr ⟨j, by omega, by omega, h5⟩
    · rintro (h3 | ⟨j, h3, h4, h5⟩)
      · exact Or.inl (Or.inl h3)
      · rcases Nat.lt_or_ge k j with h6 | h6
        · exact Or.inr ⟨j, h6, by omega, h5⟩
        · have : j = k := by omega
          subst this
          left; right
          rw [ex, ey, nI_eq_iff (by omega) (by omega), nI_eq_iff (by omega) (by omega), nI_eq_iff (by omega) (by omega), nI_eq_iff (by omega) (by omega)] at h5
          exact h5
/-- a host's neighbours -/
theorem ra.nbr {S : nf_S} {r : Nat → Int32} {nl na K h t : Nat} (hA : ra S 0 r nl na K) (hh : h < 6) (ht : t < 32) : bt (cf_nbr S (cf_bit (nI h))) t = true ↔ ¬ cf_lnk S (nI h) (nI t) = -1 := by
  have h1 := hA.1
  unfold cf_nbr cf_lnk
  rw [hA.2.2.2.2.2.1, cf_num_I (by omega), cf_nb_bt hh ht _ _ _ (fun j _ hj => ?_), cf_btw_iff _ _ _ _ _ _ (by omega), b_0]
  · simp
  · have h2 := hA.2.2.2.2.2.2.2.1 j (by omega)
    exact ⟨h2.2.2.2.1, h2.2.2.2.2⟩
def pls (c : Nat → Bool) (a h k m : Nat) : List r3 := ((List.range' k m).filter c).map (fun t => (a, h, t))
theorem qh_add {g r : Nat → Int32} {Q : List r3} {a h t : Nat} (hq : qh g r Q) (hl : Q.length < 2 ^ 31) : qh g (mr_add r (mf_pack a h t (g (a * 6 + h)))) (Q ++ [(a, h, t)]) := by
  obtain ⟨h1, h2⟩ := hq
  unfold mr_add
  rw [h1, cf_num_I hl]
  refine ⟨?_, fun k a' s' t' hk => ?_⟩
  · simp only [mr_inc, upd]
    rw [if_pos trivial, if_neg (by omega), h1, List.length_append, List.length_singleton, nI_succ]
  · simp only [mr_inc, upd]
    rw [if_neg (by omega)]
    rcases Nat.lt_or_ge k Q.length with h3 | h3
    · rw [List.getElem?_append_left h3] at hk
      rw [if_neg (by omega)]
      exact h2 k a' s' t' hk
    · rw [List.getElem?_append_right h3] at hk
      have h4 : k - Q.length < 1 := (List.getElem?_eq_some_iff.mp hk).1
      have h5 : k = Q.length := by omega
      subst h5
      rw [Nat.sub_self] at hk
      cases hk
      rw [if_pos rfl]
theorem psh_q {g : Nat → Int32} {pp : Int32} {h a nl : Nat} {lk : Nat → Bool} (hnl : nl ≤ 12) (hg : g (a * 6 + h) = pp) : ∀ (m : Nat) (r : Nat → Int32) (k : Nat) (Q : List r3), k + m ≤ 6 → r 6 = nI nl → (∀ t, t < 6 → (lk t = true ↔ ¬ mf_lnk r (nI h) (nI t) = -1)) → qh g r Q → Q.length + m < 2 ^ 31 →
    qh g (mr_psh h a pp m r k) (Q ++ pls (fun t => !bt pp t && lk t) a h k m) ∧ ∀ i, i < 572 → mr_psh h a pp m r k i = r i
  | 0, r, k, Q, _, _, _, hq, _ => ⟨by simpa [pls, mr_psh] using hq, fun _ _ => rfl⟩
  | m + 1, r, k, Q, hkm, hr, hlk, hq, hl => by
    unfold mr_psh
    have hk6 : k < 6 := by omega
    have e1 : (pp >>> (nI k &&& 31)) &&& 1 = 0 ↔ bt pp k = false := by rw [tst0_iff, has_I _ (by omega)]
    by_cases hc : (!bt pp k && lk k) = true
    · have hc1 : bt pp k = false := by
        have := (Bool.and_eq_true _ _ ▸ hc).1
        simpa using this
      have hc2 : lk k = true := (Bool.and_eq_true _ _ ▸ hc).2
      have e2 : mr_psh1 h a pp r k = mr_add r (mf_pack a h k pp) := by
        unfold mr_psh1
        rw [if_pos (e1.mpr hc1), if_neg ((hlk k hk6).mp hc2)]
      rw [e2]
      have hq2 := qh_add (a := a) (h := h) (t := k) hq (by omega)
      rw [hg] at hq2
      have hlow : ∀ i, i < 572 → mr_add r (mf_pack a h k pp) i = r i := by
        intro i hi
        simp only [mr_add, mr_inc, upd]
        rw [if_neg (by omega), if_neg (by omega)]
      obtain ⟨h3, h4⟩ := psh_q hnl hg m (mr_add r (mf_pack a h k pp)) (k + 1) (Q ++ [(a, h, k)]) (by omega) (by rw [hlow 6 (by decide)]; exact hr) (fun t ht => by rw [mf_lnk_low (r := mr_add r (mf_pack a h k pp)) (r' := r) (by rw [hlow 6 (by decide)]; exact hr) hnl (fun i hi => hlow i (by omega))]; exact hlk t ht) hq2 (by rw [List.length_append, List.length_singleton]; omega)
      refine ⟨?_, fun i hi => (h4 i hi).trans (hlow i hi)⟩
      have e3 : Q ++ pls (fun t => !bt pp t && lk t) a h k (m + 1) = Q ++ [(a, h, k)] ++ pls (fun t => !bt pp t && lk t) a h (k + 1) m := by
        simp only [pls, List.range'_succ, List.filter_cons, hc, if_true, List.map_cons, List.append_assoc, List.singleton_append]
      rw [e3]; exact h3
    · have e2 : mr_psh1 h a pp r k = r := by
        unfold mr_psh1
        cases hb : bt pp k with
        | true => rw [if_neg (by rw [e1, hb]; decide)]
        | false =>
          rw [if_pos (e1.mpr hb)]
          have hc2 : ¬ lk k = true := fun h => hc (by rw [hb, h]; rfl)
          rw [if_pos (Classical.byContradiction (fun h => hc2 ((hlk k hk6).mpr h)))]
      rw [e2]
      obtain ⟨h3, h4⟩ := psh_q hnl hg m r (k + 1) Q (by omega) hr hlk hq (by omega)
      refine ⟨?_, h4⟩
      have e3 : pls (fun t => !bt pp t && lk t) a h k (m + 1) = pls (fun t => !bt pp t && lk t) a h (k + 1) m := by
        simp only [pls, List.range'_succ, List.filter_cons, hc, if_false]
        rfl
      rw [e3]; exact h3
theorem pls_mem {c : Nat → Bool} {a h m : Nat} {e : r3} : e ∈ pls c a h 0 m ↔ e.1 = a ∧ e.2.1 = h ∧ e.2.2 < m ∧ c e.2.2 = true := by
  obtain ⟨a', s', t'⟩ := e
  simp only [pls, List.mem_map, List.mem_filter, List.mem_range'_1, Prod.mk.injEq]
  constructor
  · rintro ⟨t, ⟨⟨_, h2⟩, h3⟩, rfl, rfl, rfl⟩
    exact ⟨rfl, rfl, by omega, h3⟩
  · rintro ⟨rfl, rfl, h3, h4⟩
    exact ⟨t', ⟨⟨by omega, by omega⟩, h4⟩, rfl, rfl, rfl⟩
theorem pls_nodup {c : Nat → Bool} {a h k m : Nat} : (pls c a h k m).Nodup := by
  unfold pls
  refine List.Pairwise.map _ (fun x y hxy e => hxy ?_) (List.Pairwise.filter _ (List.nodup_range'))
  have := congrArg (fun z : r3 => z.2.2) e
  exact this
/-- the queue behind a host's sending -/
theorem rq_put {f g r' : Nat → Int32} {Q : List r3} {a h : Nat} {pp x : Int32} {c : Nat → Bool} (ha : a < 30) (hh : h < 6) (hn : Q.Nodup) (hm : ∀ a s t, (a, s, t) ∈ Q ↔ a < 30 ∧ s < 6 ∧ t < 6 ∧ bt (f (a * 6 + s)) t = true) (he : f (a * 6 + h) = 0)
    (hx : ∀ t, t < 6 → bt x t = c t) (hq : qh (upd g (a * 6 + h) pp) r' (Q ++ pls c a h 0 6)) : rq (upd f (a * 6 + h) x) (upd g (a * 6 + h) pp) r' := by
  have hno : ∀ t, (a, h, t) ∉ Q := fun t hin => by
    have := (hm a h t).mp hin
    rw [he, b_0] at this
    exact absurd this.2.2.2 (by decide)
  refine ⟨Q ++ pls c a h 0 6, ?_, fun a' s' t' => ?_, hq⟩
  · refine List.nodup_append.mpr ⟨hn, pls_nodup, fun e h1 e2 h2 e3 => ?_⟩
    subst e3
    obtain ⟨q1, q2, q3, q4⟩ := pls_mem.mp h2
    obtain ⟨a1, s1, t1⟩ := e
    simp only at q1 q2
    subst q1; subst q2
    exact hno t1 h1
  · rw [List.mem_append, hm, pls_mem]
    simp only [upd]
    by_cases h1 : a' = a ∧ s' = h
    · obtain ⟨rfl, rfl⟩ := h1
      rw [he, b_0, if_pos rfl]
      constructor
      · rintro (⟨_, _, _, h5⟩ | ⟨_, _, h3, h4⟩)
        · exact absurd h5 (by decide)
        · exact ⟨ha, hh, h3, by rw [hx t' h3]; exact h4⟩
      · rintro ⟨_, _, h3, h4⟩
        exact Or.inr ⟨rfl, rfl, h3, by rw [← hx t' h3]; exact h4⟩
    · constructor
      · rintro (⟨h2, h3, h4, h5⟩ | ⟨h2, h3, _⟩)
        · rw [if_neg (by omega)]; exact ⟨h2, h3, h4, h5⟩
        · exact absurd ⟨h2, h3⟩ h1
      · rintro ⟨h2, h3, h4, h5⟩
        rw [if_neg (by omega)] at h5
        exact Or.inl ⟨h2, h3, h4, h5⟩
theorem qh_g {f g r : Nat → Int32} {Q : List r3} {a h : Nat} {pp : Int32} (hh : h < 6) (hm : ∀ a s t, (a, s, t) ∈ Q ↔ a < 30 ∧ s < 6 ∧ t < 6 ∧ bt (f (a * 6 + s)) t = true) (he : f (a * 6 + h) = 0) (hq : qh g r Q) : qh (upd g (a * 6 + h) pp) r Q := by
  refine ⟨hq.1, fun k a' s' t' hk => ?_⟩
  rw [hq.2 k a' s' t' hk]
  have hin := (hm a' s' t').mp (List.mem_of_getElem? hk)
  have : a' * 6 + s' ≠ a * 6 + h := fun e => by
    rw [e, he, b_0] at hin
    exact absurd hin.2.2.2 (by decide)
  simp only [upd]
  rw [if_neg this]
