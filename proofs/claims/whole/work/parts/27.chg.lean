/-! the changing calls compared -/
theorem rN.save {S : nf_S} {c nl na K : Nat} {r : Nat → Int32} (h : rN S 0 r nl na K) (hs : cs_sv S c) : rN (cs_save S c) 0 r nl na K := h.net (fun x y => (cs_save_I S c hs x y).symm) (fun x y => (cs_save_A S c hs x y).symm)
theorem ra.links {S T : nf_S} {r r' : Nat → Int32} {nl nl' na K : Nat} (h : ra S 0 r nl na K) (hn : nl' ≤ 12) (eI : ∀ c h, c ≠ 2 → nf_I T 0 c h = nf_I S 0 c h) (eA : ∀ c h, c < 2 ∨ 5 ≤ c → nf_A T 0 c h = nf_A S 0 c h) (eR : ∀ i, i < 6 ∨ 43 ≤ i → r' i = r i) (e6 : nf_I T 0 2 0 = nI nl') (e6' : r' 6 = nI nl')
    (hl : ∀ k, k < nl' → nf_A T 0 2 0 k = mf_lk r' 0 k ∧ nf_A T 0 3 0 k = mf_lk r' 1 k ∧ nf_A T 0 4 0 k = mf_lk r' 2 k ∧ (∃ x, x < 6 ∧ nf_A T 0 2 0 k = nI x) ∧ ∃ x, x < 6 ∧ nf_A T 0 3 0 k = nI x) : ra T 0 r' nl' na K := by
  obtain ⟨h1, h2, h3, h4, h5, h6, h7, h8, h9, h10, h11, h12, h13, h14⟩ := h
  refine ⟨hn, h2, ?_, ?_, fun g hg => ?_, e6, e6', hl, fun x hx => ?_, ?_, ?_, fun a ha => ?_, fun a ha => ?_, ?_⟩
  · rw [eI 0 0 (by decide), eR 0 (by decide)]; exact h3
  · rw [eI 1 0 (by decide), eR 1 (by decide)]; exact h4
  · rw [eA 0 0 (by decide), eR _ (by omega)]; exact h5 g hg
  · rw [eI 4 x (by decide), eR _ (by omega)]; exact h9 x hx
  · rw [eI 3 0 (by decide)]; exact h10
  · rw [eR 49 (by decide)]; exact h11
  · obtain ⟨q1, q2, q3⟩ := h12 a ha
    refine ⟨fun w hw => ?_, ?_, ?_⟩
    · rw [eA (5 + w) 0 (by omega)]
      have h := q1 w hw
      simp only [mf_of] at h ⊢
      rw [eR _ (by omega)]; exact h
    · rw [eA 8 0 (by decide), eA 9 0 (by decide)]; exact q2
    · rw [eA 6 0 (by decide)]; exact q3
  · have h := h13 a ha
    simp only [mf_of] at h ⊢
    rw [eR _ (by omega)]; exact h
  · rw [eR 0 (by decide)]; exact h14
theorem rN.low {S T : nf_S} {r r' : Nat → Int32} {nl nl' na na' K K' : Nat} (h : rN S 0 r nl na K) (hna : na ≤ na') (eI : ∀ h, nf_I T 0 5 h = nf_I S 0 5 h) (eA : ∀ c h, c = 1 ∨ 10 ≤ c → nf_A T 0 c h = nf_A S 0 c h) (eR : ∀ i, 200 ≤ i → r' i = r i) (hA : ra T 0 r' nl' na' K') : rN T 0 r' nl' na' K' := by
  obtain ⟨_, ⟨⟨b1, b2, b3, b4⟩, ⟨Q, q1, q2, q3, q4⟩, hw⟩, hp⟩ := h
  refine ⟨hA, ⟨⟨fun y hy b hb => ?_, fun y hy => ?_, fun y hy b hb => ?_, fun i hi => ?_⟩, ?_, ?_⟩, ?_⟩
  · have := b1 y hy b hb
    simp only [mf_kn] at this ⊢
    rw [eA 12 y (by decide), eR _ (by omega)]; exact ⟨this.1, fun h => this.2 (by omega)⟩
  · rw [eI, eR _ (by omega)]; exact ⟨(b2 y hy).1, fun a h1 h2 => (b2 y hy).2 a (by omega) h2⟩
  · rw [eA 13 y (by decide), eR _ (by omega)]; exact b3 y hy b hb
  · rw [eA 1 0 (by decide), eR _ (by omega)]; exact b4 i hi
  · rw [eA 10 0 (by decide), eA 11 0 (by decide)]
    exact ⟨Q, q1, q2, by rw [eR _ (by omega)]; exact q3, fun k a s t hk => by rw [eR _ (by omega)]; exact q4 k a s t hk⟩
  · rw [eA 10 0 (by decide), eA 11 0 (by decide)]
    exact fun i hi => ⟨(hw i hi).1, (hw i hi).2.1, fun h => (hw i hi).2.2.1 (by omega), (hw i hi).2.2.2⟩
  · rw [eA 10 0 (by decide), eA 11 0 (by decide)]; exact hp
theorem only0_addl (S : nf_S) (nl : Nat) (a b k : Int32) : only0 S (cs_addl S nl a b k) := ((((only0_sA S _ _ _).trans (only0_sA _ _ _ _)).trans (only0_sA _ _ _ _)).trans (only0_sI _ _ _ _))
theorem rN_addl {S : nf_S} {r : Nat → Int32} {nl na K : Nat} {a b k : Int32} (h : rN S 0 r nl na K) (hn : nl < 12) (ha : ∃ x, x < 6 ∧ a = nI x) (hb : ∃ x, x < 6 ∧ b = nI x) : rN (cs_addl S nl a b k) 0 (mr_addl r nl a b k) (nl + 1) na K := by
  have eA : ∀ c h, c < 2 ∨ 5 ≤ c → nf_A (cs_addl S nl a b k) 0 c h = nf_A S 0 c h := fun c x hc => by
    simp only [cs_addl, nf_A_sI, nf_A_sA]
    rw [if_neg (by omega), if_neg (by omega), if_neg (by omega)]
  have eI : ∀ c h, c ≠ 2 → nf_I (cs_addl S nl a b k) 0 c h = nf_I S 0 c h := fun c x hc => by
    simp only [cs_addl, nf_I_sI, nf_I_sA]
    rw [if_neg (by omega)]
  have eR : ∀ i, i < 6 ∨ 43 ≤ i → mr_addl r nl a b k i = r i := fun i hi => by
    simp only [mr_addl, upd]
    rw [if_neg (by omega), if_neg (by omega), if_neg (by omega), if_neg (by omega)]
  have e2 : nf_A (cs_addl S nl a b k) 0 2 0 = upd (nf_A S 0 2 0) nl a := rfl
  have e3 : nf_A (cs_addl S nl a b k) 0 3 0 = upd (nf_A S 0 3 0) nl b := rfl
  have e4 : nf_A (cs_addl S nl a b k) 0 4 0 = upd (nf_A S 0 4 0) nl k := rfl
  refine h.low (Nat.le_refl _) (fun x => eI 5 x (by decide)) (fun c x hc => eA c x (by omega)) (fun i hi => eR i (by omega)) (h.1.links (by omega) eI eA eR rfl (by simp [mr_addl, upd]) (fun j hj => ?_))
  rw [e2, e3, e4]
  by_cases hj2 : j = nl
  · subst hj2
    simp only [upd, mf_lk, mr_addl, if_true]
    refine ⟨?_, ?_, ?_, ha, hb⟩
    · rw [if_neg (by omega), if_neg (by omega), if_neg (by omega), if_pos (by omega)]
    · rw [if_neg (by omega), if_neg (by omega)]
    · rw [if_neg (by omega)]
  · have h8 := h.1.2.2.2.2.2.2.2.1 j (by omega)
    have e : ∀ w, w < 3 → mf_lk (mr_addl r nl a b k) w j = mf_lk r w j := fun w hw => by
      simp only [mf_lk, mr_addl, upd]
      rw [if_neg (by omega), if_neg (by omega), if_neg (by omega), if_neg (by omega)]
    rw [e 0 (by decide), e 1 (by decide), e 2 (by decide)]
    simp only [upd, hj2, if_false]
    exact h8
theorem only0_del (S : nf_S) (cnt a k : Nat) : only0 S (cs_del S 0 cnt a k) := ((((only0_sI S _ _ _).trans (only0_sA _ _ _ _)).trans (only0_sA _ _ _ _)).trans (only0_sA _ _ _ _))
theorem rN_del {S : nf_S} {r : Nat → Int32} {nl na K x : Nat} (h : rN S 0 r nl na K) (hx : x < nl) : rN (cs_del S 0 (nl - 1) x (nl - 1)) 0 (mr_rem r nl x) (nl - 1) na K := by
  have hn := h.1.1
  have eA : ∀ c h, c < 2 ∨ 5 ≤ c → nf_A (cs_del S 0 (nl - 1) x (nl - 1)) 0 c h = nf_A S 0 c h := fun c y hc => by
    simp only [cs_del, nf_A_sI, nf_A_sA]
    rw [if_neg (by omega), if_neg (by omega), if_neg (by omega)]
  have eI : ∀ c h, c ≠ 2 → nf_I (cs_del S 0 (nl - 1) x (nl - 1)) 0 c h = nf_I S 0 c h := fun c y hc => by
    simp only [cs_del, nf_I_sI, nf_I_sA]
    rw [if_neg (by omega)]
  have eR : ∀ i, i < 6 ∨ 43 ≤ i → mr_rem r nl x i = r i := fun i hi => by
    simp only [mr_rem, mr_sh, upd]
    rw [if_neg (by omega), if_neg (by omega)]
  have e2 : nf_A (cs_del S 0 (nl - 1) x (nl - 1)) 0 2 0 = cf_shift (nf_A S 0 2 0) x (nl - 1) := rfl
  have e3 : nf_A (cs_del S 0 (nl - 1) x (nl - 1)) 0 3 0 = cf_shift (nf_A S 0 3 0) x (nl - 1) := rfl
  have e4 : nf_A (cs_del S 0 (nl - 1) x (nl - 1)) 0 4 0 = cf_shift (nf_A S 0 4 0) x (nl - 1) := rfl
  refine h.low (Nat.le_refl _) (fun y => eI 5 y (by decide)) (fun c y hc => eA c y (by omega)) (fun i hi => eR i (by omega)) (h.1.links (by omega) eI eA eR rfl (by simp [mr_rem, upd]) (fun j hj => ?_))
  rw [e2, e3, e4]
  by_cases hj2 : x ≤ j
  · have h8 := h.1.2.2.2.2.2.2.2.1 (j + 1) (by omega)
    have e : ∀ w, w < 3 → mf_lk (mr_rem r nl x) w j = mf_lk r w (j + 1) := fun w hw => by
      simp only [mf_lk, mr_rem, mr_sh, upd]
      rw [if_neg (by omega), if_pos (by omega)]
      congr 1; omega
    rw [e 0 (by decide), e 1 (by decide), e 2 (by decide)]
    simp only [cf_shift]
    rw [if_pos (by omega), if_pos (by omega), if_pos (by omega)]
    exact h8
  · have h8 := h.1.2.2.2.2.2.2.2.1 j (by omega)
    have e : ∀ w, w < 3 → mf_lk (mr_rem r nl x) w j = mf_lk r w j := fun w hw => by
      simp only [mf_lk, mr_rem, mr_sh, upd]
      rw [if_neg (by omega), if_neg (by omega)]
    rw [e 0 (by decide), e 1 (by decide), e 2 (by decide)]
    simp only [cf_shift]
    rw [if_neg (by omega), if_neg (by omega), if_neg (by omega)]
    exact h8
theorem rN_kind {S : nf_S} {r : Nat → Int32} {nl na K x : Nat} {k : Int32} (h : rN S 0 r nl na K) (hx : x < nl) : rN (nf_sA S 0 4 0 (upd (nf_A S 0 4 0) x k)) 0 (upd r (7 + 3 * x + 2) k) nl na K := by
  have hn := h.1.1
  have eA : ∀ c h, c < 2 ∨ 5 ≤ c → nf_A (nf_sA S 0 4 0 (upd (nf_A S 0 4 0) x k)) 0 c h = nf_A S 0 c h := fun c y hc => by
    rw [nf_A_sA, if_neg (by omega)]
  have eR : ∀ i, i < 6 ∨ 43 ≤ i → upd r (7 + 3 * x + 2) k i = r i := fun i hi => by
    simp only [upd]
    rw [if_neg (by omega)]
  have e2 : nf_A (nf_sA S 0 4 0 (upd (nf_A S 0 4 0) x k)) 0 2 0 = nf_A S 0 2 0 := rfl
  have e3 : nf_A (nf_sA S 0 4 0 (upd (nf_A S 0 4 0) x k)) 0 3 0 = nf_A S 0 3 0 := rfl
  have e4 : nf_A (nf_sA S 0 4 0 (upd (nf_A S 0 4 0) x k)) 0 4 0 = upd (nf_A S 0 4 0) x k := rfl
  refine h.low (Nat.le_refl _) (fun y => rfl) (fun c y hc => eA c y (by omega)) (fun i hi => eR i (by omega)) (h.1.links hn (fun _ _ _ => rfl) eA eR h.1.2.2.2.2.2.1 (by simp only [upd]; rw [if_neg (by omega)]; exact h.1.2.2.2.2.2.2.1) (fun j hj => ?_))
  rw [e2, e3, e4]
  have h8 := h.1.2.2.2.2.2.2.2.1 j hj
  have e : ∀ w, w < 2 → mf_lk (upd r (7 + 3 * x + 2) k) w j = mf_lk r w j := fun w hw => by
    simp only [mf_lk, upd]
    rw [if_neg (by omega)]
  rw [e 0 (by decide), e 1 (by decide)]
  refine ⟨h8.1, h8.2.1, ?_, h8.2.2.2⟩
  by_cases hjx : j = x
  · subst hjx; simp [upd, mf_lk]
  · have := h8.2.2.1
    simp only [mf_lk, upd] at this ⊢
    rw [if_neg hjx, if_neg (by omega)]; exact this
theorem rN_groups {S : nf_S} {r : Nat → Int32} {nl na K x : Nat} {g : Int32} (h : rN S 0 r nl na K) (hx : x < 6) : rN (nf_sI S 0 4 x g) 0 (upd r (43 + x) g) nl na K := by
  have eR : ∀ i, i < 43 ∨ 49 ≤ i → upd r (43 + x) g i = r i := fun i hi => by
    simp only [upd]
    rw [if_neg (by omega)]
  have eI : ∀ c h, c ≠ 4 → nf_I (nf_sI S 0 4 x g) 0 c h = nf_I S 0 c h := fun c y hc => by rw [nf_I_sI, if_neg (by omega)]
  refine h.low (Nat.le_refl _) (fun y => eI 5 y (by decide)) (fun c y hc => rfl) (fun i hi => eR i (by omega)) ?_
  obtain ⟨⟨h1, h2, h3, h4, h5, h6, h7, h8, h9, h10, h11, h12, h13, h14⟩, _⟩ := h
  refine ⟨h1, h2, ?_, ?_, fun i hi => ?_, ?_, ?_, fun k hk => ?_, fun y hy => ?_, ?_, ?_, fun a ha => ?_, fun a ha => ?_, ?_⟩
  · rw [eI 0 0 (by decide), eR 0 (by decide)]; exact h3
  · rw [eI 1 0 (by decide), eR 1 (by decide)]; exact h4
  · rw [eR _ (by omega)]; exact h5 i hi
  · rw [eI 2 0 (by decide)]; exact h6
  · rw [eR 6 (by decide)]; exact h7
  · have h := h8 k hk
    simp only [mf_lk] at h ⊢
    rw [eR _ (by omega), eR _ (by omega), eR _ (by omega)]; exact h
  · by_cases e : y = x
    · subst e; simp [nf_I_sI, upd]
    · rw [nf_I_sI, if_neg (by omega)]; simp only [upd]; rw [if_neg (by omega)]; exact h9 y hy
  · rw [eI 3 0 (by decide)]; exact h10
  · rw [eR 49 (by decide)]; exact h11
  · obtain ⟨q1, q2⟩ := h12 a ha
    refine ⟨fun w hw => ?_, q2⟩
    have h := q1 w hw
    simp only [mf_of] at h ⊢
    rw [eR _ (by omega)]; exact h
  · have h := h13 a ha
    simp only [mf_of] at h ⊢
    rw [eR _ (by omega)]; exact h
  · rw [eR 0 (by decide)]; exact h14
theorem rN_expiry {S : nf_S} {r : Nat → Int32} {nl na K x : Nat} {g : Int32} (h : rN S 0 r nl na K) (hx : x < 4) : rN (nf_sA S 0 0 0 (upd (nf_A S 0 0 0) x g)) 0 (upd r (2 + x) g) nl na K := by
  have eR : ∀ i, i < 2 ∨ 6 ≤ i → upd r (2 + x) g i = r i := fun i hi => by
    simp only [upd]
    rw [if_neg (by omega)]
  have eA : ∀ c h, c ≠ 0 → nf_A (nf_sA S 0 0 0 (upd (nf_A S 0 0 0) x g)) 0 c h = nf_A S 0 c h := fun c y hc => by rw [nf_A_sA, if_neg (by omega)]
  have e0 : nf_A (nf_sA S 0 0 0 (upd (nf_A S 0 0 0) x g)) 0 0 0 = upd (nf_A S 0 0 0) x g := rfl
  refine h.low (Nat.le_refl _) (fun y => rfl) (fun c y hc => eA c y (by omega)) (fun i hi => eR i (by omega)) ?_
  obtain ⟨⟨h1, h2, h3, h4, h5, h6, h7, h8, h9, h10, h11, h12, h13, h14⟩, _⟩ := h
  refine ⟨h1, h2, ?_, ?_, fun i hi => ?_, h6, ?_, fun k hk => ?_, fun y hy => ?_, h10, ?_, fun a ha => ?_, fun a ha => ?_, ?_⟩
  · rw [eR 0 (by decide)]; exact h3
  · rw [eR 1 (by decide)]; exact h4
  · rw [e0]; simp only [upd]
    by_cases e : i = x
    · rw [if_pos e, if_pos (by omega)]
    · rw [if_neg e, if_neg (by omega)]; exact h5 i hi
  · rw [eR 6 (by decide)]; exact h7
  · have h := h8 k hk
    simp only [mf_lk] at h ⊢
    rw [eR _ (by omega), eR _ (by omega), eR _ (by omega), eA 2 0 (by decide), eA 3 0 (by decide), eA 4 0 (by decide)]; exact h
  · rw [eR _ (by omega)]; exact h9 y hy
  · rw [eR 49 (by decide)]; exact h11
  · obtain ⟨q1, q2⟩ := h12 a ha
    rw [eA 8 0 (by decide), eA 9 0 (by decide), eA 6 0 (by decide)]
    refine ⟨fun w hw => ?_, q2⟩
    have h := q1 w hw
    simp only [mf_of] at h ⊢
    rw [eR _ (by omega), eA _ 0 (by omega)]; exact h
  · have h := h13 a ha
    simp only [mf_of] at h ⊢
    rw [eR _ (by omega)]; exact h
  · rw [eR 0 (by decide)]; exact h14
theorem rN_limit {S : nf_S} {r : Nat → Int32} {nl na K : Nat} {g : Int32} (h : rN S 0 r nl na K) : rN (nf_sI S 0 1 0 g) 0 (upd r 1 g) nl na K := by
  have eR : ∀ i, i ≠ 1 → upd r 1 g i = r i := fun i hi => by
    simp only [upd]
    rw [if_neg (by omega)]
  have eI : ∀ c h, c ≠ 1 → nf_I (nf_sI S 0 1 0 g) 0 c h = nf_I S 0 c h := fun c y hc => by rw [nf_I_sI, if_neg (by omega)]
  refine h.low (Nat.le_refl _) (fun y => eI 5 y (by decide)) (fun c y hc => rfl) (fun i hi => eR i (by omega)) ?_
  obtain ⟨⟨h1, h2, h3, h4, h5, h6, h7, h8, h9, h10, h11, h12, h13, h14⟩, _⟩ := h
  refine ⟨h1, h2, ?_, ?_, fun i hi => ?_, ?_, ?_, fun k hk => ?_, fun y hy => ?_, ?_, ?_, fun a ha => ?_, fun a ha => ?_, ?_⟩
  · rw [eI 0 0 (by decide), eR 0 (by decide)]; exact h3
  · rfl
  · rw [eR _ (by omega)]; exact h5 i hi
  · rw [eI 2 0 (by decide)]; exact h6
  · rw [eR 6 (by decide)]; exact h7
  · have h := h8 k hk
    simp only [mf_lk] at h ⊢
    rw [eR _ (by omega), eR _ (by omega), eR _ (by omega)]; exact h
  · rw [eI 4 y (by decide), eR _ (by omega)]; exact h9 y hy
  · rw [eI 3 0 (by decide)]; exact h10
  · rw [eR 49 (by decide)]; exact h11
  · obtain ⟨q1, q2⟩ := h12 a ha
    refine ⟨fun w hw => ?_, q2⟩
    have h := q1 w hw
    simp only [mf_of] at h ⊢
    rw [eR _ (by omega)]; exact h
  · have h := h13 a ha
    simp only [mf_of] at h ⊢
    rw [eR _ (by omega)]; exact h
  · rw [eR 0 (by decide)]; exact h14
/-- a new article -/
theorem only0_app (S : nf_S) (na : Nat) (g a e t : Int32) : only0 S (cs_app S na g a e t) := ((((((only0_sA S _ _ _).trans (only0_sA _ _ _ _)).trans (only0_sA _ _ _ _)).trans (only0_sA _ _ _ _)).trans (only0_sA _ _ _ _)).trans (only0_sI _ _ _ _))
theorem rN_app {S : nf_S} {r : Nat → Int32} {nl na K : Nat} {g a e t : Int32} (h : rN S 0 r nl na K) (hn : na < 30) (hg : ∃ x, x < 4 ∧ g = nI x) (ha : ∃ x, x < 10 ∧ a = nI x) (ht : e = 0 ∨ ∃ x, x < 30 ∧ t = nI x) : rN (cs_app S na g a e t) 0 (mr_app r na g a e t) nl (na + 1) K := by
  have eA : ∀ c h, c < 5 ∨ 10 ≤ c → nf_A (cs_app S na g a e t) 0 c h = nf_A S 0 c h := fun c x hc => by
    simp only [cs_app, nf_A_sI, nf_A_sA]
    rw [if_neg (by omega), if_neg (by omega), if_neg (by omega), if_neg (by omega), if_neg (by omega)]
  have eI : ∀ c h, c ≠ 3 → nf_I (cs_app S na g a e t) 0 c h = nf_I S 0 c h := fun c x hc => by
    simp only [cs_app, nf_I_sI, nf_I_sA]
    rw [if_neg (by omega)]
  have eR : ∀ i, i < 49 ∨ 200 ≤ i → mr_app r na g a e t i = r i := fun i hi => by
    simp only [mr_app, upd]
    rw [if_neg (by omega), if_neg (by omega), if_neg (by omega), if_neg (by omega), if_neg (by omega), if_neg (by omega)]
  have e5 : nf_A (cs_app S na g a e t) 0 5 0 = upd (nf_A S 0 5 0) na g := rfl
  have e6 : nf_A (cs_app S na g a e t) 0 6 0 = upd (nf_A S 0 6 0) na a := rfl
  have e7 : nf_A (cs_app S na g a e t) 0 7 0 = upd (nf_A S 0 7 0) na (nf_I S 0 0 0) := rfl
  have e8 : nf_A (cs_app S na g a e t) 0 8 0 = upd (nf_A S 0 8 0) na e := rfl
  have e9 : nf_A (cs_app S na g a e t) 0 9 0 = upd (nf_A S 0 9 0) na t := rfl
  refine h.low (Nat.le_succ _) (fun y => eI 5 y (by decide)) (fun c y hc => eA c y (by omega)) (fun i hi => eR i (by omega)) ?_
  obtain ⟨⟨h1, h2, h3, h4, h5, h6, h7, h8, h9, h10, h11, h12, h13, h14⟩, _⟩ := h
  refine ⟨h1, hn, ?_, ?_, fun i hi => ?_, ?_, ?_, fun k hk => ?_, fun y hy => ?_, rfl, by simp [mr_app, upd], fun b hb => ?_, fun b hb => ?_, ?_⟩
  · rw [eI 0 0 (by decide), eR 0 (by decide)]; exact h3
  · rw [eI 1 0 (by decide), eR 1 (by decide)]; exact h4
  · rw [eA 0 0 (by decide), eR _ (by omega)]; exact h5 i hi
  · rw [eI 2 0 (by decide)]; exact h6
  · rw [eR 6 (by decide)]; exact h7
  · have h := h8 k hk
    simp only [mf_lk] at h ⊢
    rw [eR _ (by omega), eR _ (by omega), eR _ (by omega), eA 2 0 (by decide), eA 3 0 (by decide), eA 4 0 (by decide)]; exact h
  · rw [eI 4 y (by decide), eR _ (by omega)]; exact h9 y hy
  · rw [e8, e9, e6]
    refine ⟨fun w hw => ?_, ?_, ?_⟩
    · rw [mr_app_of r na g a e t b w hw]
      by_cases hb2 : b = na
      · subst hb2
        rw [if_pos rfl]
        rcases (show w = 0 ∨ w = 1 ∨ w = 2 ∨ w = 3 ∨ w = 4 by omega) with rfl | rfl | rfl | rfl | rfl
        · rw [e5]; simp [upd]
        · rw [e6]; simp [upd]
        · rw [e7]; simp [upd, h3]
        · rw [e8]; simp [upd]
        · rw [e9]; simp [upd]
      · rw [if_neg hb2, ← (h12 b (by omega)).1 w hw]
        rcases (show w = 0 ∨ w = 1 ∨ w = 2 ∨ w = 3 ∨ w = 4 by omega) with rfl | rfl | rfl | rfl | rfl
        · rw [e5]; simp [upd, hb2]
        · rw [e6]; simp [upd, hb2]
        · rw [e7]; simp [upd, hb2]
        · rw [e8]; simp [upd, hb2]
        · rw [e9]; simp [upd, hb2]
    · by_cases hb2 : b = na
      · subst hb2; simpa [upd] using ht
      · simpa [upd, hb2] using (h12 b (by omega)).2.1
    · by_cases hb2 : b = na
      · subst hb2; simpa [upd] using ha
      · simpa [upd, hb2] using (h12 b (by omega)).2.2
  · rw [mr_app_of r na g a e t b 0 (by decide)]
    by_cases hb2 : b = na
    · rw [if_pos hb2]; exact hg
    · rw [if_neg hb2]; exact h13 b hb
  · rw [eR 0 (by decide)]; exact h14
