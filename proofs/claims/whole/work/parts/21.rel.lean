/-! the relation between a net of the class and a row of the reference -/
def ra (S : nf_S) (n : Nat) (r : Nat → Int32) (nl na K : Nat) : Prop :=
  nl ≤ 12 ∧ na ≤ 30 ∧ nf_I S n 0 0 = r 0 ∧ nf_I S n 1 0 = r 1 ∧ (∀ g, g < 4 → nf_A S n 0 0 g = r (2 + g)) ∧
  nf_I S n 2 0 = nI nl ∧ r 6 = nI nl ∧
  (∀ k, k < nl → nf_A S n 2 0 k = mf_lk r 0 k ∧ nf_A S n 3 0 k = mf_lk r 1 k ∧ nf_A S n 4 0 k = mf_lk r 2 k ∧ (∃ x, x < 6 ∧ nf_A S n 2 0 k = nI x) ∧ ∃ x, x < 6 ∧ nf_A S n 3 0 k = nI x) ∧
  (∀ h, h < 6 → nf_I S n 4 h = r (43 + h)) ∧
  nf_I S n 3 0 = nI na ∧ r 49 = nI na ∧
  (∀ a, a < na → (∀ w, w < 5 → nf_A S n (5 + w) 0 a = mf_of r a w) ∧ (nf_A S n 8 0 a = 0 ∨ ∃ t, t < 30 ∧ nf_A S n 9 0 a = nI t) ∧ (∃ x, x < 10 ∧ nf_A S n 6 0 a = nI x)) ∧
  (∀ a, a < 30 → ∃ g, g < 4 ∧ mf_of r a 0 = nI g) ∧
  ∃ t, t ≤ K ∧ r 0 = nI t
def rb (S : nf_S) (n : Nat) (r : Nat → Int32) (na : Nat) : Prop :=
  (∀ h, h < 6 → ∀ a, a < 30 → nf_A S n 12 h a = mf_kn r h a ∧ (na ≤ a → nf_A S n 12 h a = -1)) ∧
  (∀ h, h < 6 → nf_I S n 5 h = r (380 + h) ∧ ∀ a, na ≤ a → a < 32 → bt (nf_I S n 5 h) a = false) ∧
  (∀ h, h < 6 → ∀ a, a < 30 → nf_A S n 13 h a = r (386 + 30 * h + a) ∧ ∃ x, x < 1024 ∧ nf_A S n 13 h a = nI x) ∧
  (∀ j, j < 6 → nf_A S n 1 0 j = r (566 + j))
abbrev r3 : Type := Nat × Nat × Nat
/-- the row's queue is the list Q -/
def qh (g r : Nat → Int32) (Q : List r3) : Prop := r 572 = nI Q.length ∧ ∀ k a s t, Q[k]? = some (a, s, t) → r (573 + k) = mf_pack a s t (g (a * 6 + s))
def rq (f g r : Nat → Int32) : Prop := ∃ Q : List r3, Q.Nodup ∧ (∀ a s t, (a, s, t) ∈ Q ↔ a < 30 ∧ s < 6 ∧ t < 6 ∧ bt (f (a * 6 + s)) t = true) ∧ qh g r Q
def rw1 (f g : Nat → Int32) (na : Nat) : Prop := ∀ i, i < 180 → (∃ x, x < 64 ∧ f i = nI x) ∧ (∃ p, p < 64 ∧ g i = nI p) ∧ (na * 6 ≤ i → f i = 0) ∧ bt (f i) (i % 6) = false
def rj (S : nf_S) (n : Nat) (r : Nat → Int32) (na : Nat) : Prop := rb S n r na ∧ rq (nf_A S n 10 0) (nf_A S n 11 0) r ∧ rw1 (nf_A S n 10 0) (nf_A S n 11 0) na
theorem ra.ok {S : nf_S} {r : Nat → Int32} {nl na K : Nat} (h : ra S 0 r nl na K) : cs_ok S nl na := by
  obtain ⟨h1, h2, h3, h4, h5, h6, h7, h8, h9, h10, h11, h12, h13, h14⟩ := h
  refine ⟨h1, h2, h6, h10, fun a ha => ⟨(h12 a ha).2.1, ?_⟩⟩
  rw [(h12 a ha).1 0 (by decide)]
  exact h13 a (by omega)
def cs0 (S T : nf_S) : Prop := (∀ c h, c ≠ 5 → nf_I S 0 c h = nf_I T 0 c h) ∧ ∀ c h, c < 10 → c ≠ 1 → nf_A S 0 c h = nf_A T 0 c h
theorem ra.same0 {S T : nf_S} {r r' : Nat → Int32} {nl na K : Nat} (h : ra S 0 r nl na K) (e0 : cs0 S T) (e2 : ∀ i, i < 200 → r i = r' i) : ra T 0 r' nl na K := by
  have e : cs0 S T ∧ True := ⟨e0, trivial⟩
  obtain ⟨e, _⟩ := e
  have e : (∀ c h, c ≠ 5 → nf_I S 0 c h = nf_I T 0 c h) ∧ (∀ c h, c < 10 → c ≠ 1 → nf_A S 0 c h = nf_A T 0 c h) ∧ True := ⟨e.1, e.2, trivial⟩
  obtain ⟨h1, h2, h3, h4, h5, h6, h7, h8, h9, h10, h11, h12, h13, h14⟩ := h
  refine ⟨h1, h2, ?_, ?_, fun g hg => ?_, ?_, ?_, fun k hk => ?_, fun x hx => ?_, ?_, ?_, fun a ha => ?_, fun a ha => ?_, ?_⟩
  · rw [← e.1 0 0 (by decide), ← e2 0 (by decide)]; exact h3
  · rw [← e.1 1 0 (by decide), ← e2 1 (by decide)]; exact h4
  · rw [← e.2.1 0 0 (by decide) (by decide), ← e2 _ (by omega)]; exact h5 g hg
  · rw [← e.1 2 0 (by decide)]; exact h6
  · rw [← e2 6 (by decide)]; exact h7
  · have h := h8 k hk
    simp only [mf_lk] at h ⊢
    rw [← e.2.1 2 0 (by decide) (by decide), ← e.2.1 3 0 (by decide) (by decide), ← e.2.1 4 0 (by decide) (by decide), ← e2 _ (by omega), ← e2 _ (by omega), ← e2 _ (by omega)]
    exact h
  · rw [← e.1 4 x (by decide), ← e2 _ (by omega)]; exact h9 x hx
  · rw [← e.1 3 0 (by decide)]; exact h10
  · rw [← e2 49 (by decide)]; exact h11
  · obtain ⟨q1, q2, q3⟩ := h12 a ha
    refine ⟨fun w hw => ?_, ?_, ?_⟩
    · rw [← e.2.1 (5 + w) 0 (by omega) (by omega)]
      have h := q1 w hw
      simp only [mf_of] at h ⊢
      rw [← e2 _ (by omega)]; exact h
    · rw [← e.2.1 8 0 (by decide) (by decide), ← e.2.1 9 0 (by decide) (by decide)]; exact q2
    · rw [← e.2.1 6 0 (by decide) (by decide)]; exact q3
  · have h := h13 a ha
    simp only [mf_of] at h ⊢
    rw [← e2 _ (by omega)]; exact h
  · rw [← e2 0 (by decide)]; exact h14
theorem ra.same {S T : nf_S} {r r' : Nat → Int32} {nl na K : Nat} (h : ra S 0 r nl na K) (e : cs_same S T) (e2 : ∀ i, i < 200 → r i = r' i) : ra T 0 r' nl na K := h.same0 ⟨e.1, e.2.1⟩ e2
/-! steps that leave the queue alone -/
theorem rb_inc {S : nf_S} {r : Nat → Int32} {na j : Nat} (h : rb S 0 r na) (hj : j < 6) : rb (cs_inc S j) 0 (mr_inc r (566 + j)) na := by
  obtain ⟨h1, h2, h3, h4⟩ := h
  refine ⟨fun x hx a ha => ?_, fun x hx => ?_, fun x hx a ha => ?_, fun i hi => ?_⟩
  · simp only [cs_inc, nf_A_sA, mf_kn, mr_inc, upd]
    rw [if_neg (by omega), if_neg (by omega)]; exact h1 x hx a ha
  · simp only [cs_inc, nf_I_sA, mr_inc, upd]
    rw [if_neg (by omega)]; exact h2 x hx
  · simp only [cs_inc, nf_A_sA, mr_inc, upd]
    rw [if_neg (by omega), if_neg (by omega)]; exact h3 x hx a ha
  · by_cases hij : i = j
    · subst hij; simp [cs_inc, nf_A_sA, mr_inc, upd, h4 i hi]
    · have e : ¬ 566 + i = 566 + j := by omega
      simp [cs_inc, nf_A_sA, mr_inc, upd, hij, h4 i hi]
theorem rb_known {S : nf_S} {r : Nat → Int32} {na h a : Nat} {x : Int32} (hb : rb S 0 r na) (hh : h < 6) (ha : a < na) (hna : na ≤ 30) : rb (cs_known S h a x) 0 (upd r (200 + 30 * h + a) x) na := by
  obtain ⟨h1, h2, h3, h4⟩ := hb
  refine ⟨fun y hy b hb => ?_, fun y hy => ?_, fun y hy b hb => ?_, fun i hi => ?_⟩
  · by_cases hy2 : y = h
    · subst hy2
      by_cases hb2 : b = a
      · subst hb2
        exact ⟨by simp [cs_known, nf_A_sA, mf_kn, upd], fun e => absurd e (by omega)⟩
      · have e : ¬ 200 + 30 * y + b = 200 + 30 * y + a := by omega
        simpa [cs_known, nf_A_sA, mf_kn, upd, hb2] using h1 y hy b hb
    · have e : ¬ 200 + 30 * y + b = 200 + 30 * h + a := by omega
      simpa [cs_known, nf_A_sA, mf_kn, upd, hy2, e] using h1 y hy b hb
  · simp only [cs_known, nf_I_sA, upd]
    rw [if_neg (by omega)]; exact h2 y hy
  · simp only [cs_known, nf_A_sA, upd]
    rw [if_neg (by omega), if_neg (by omega)]; exact h3 y hy b hb
  · simp only [cs_known, nf_A_sA, upd]
    rw [if_neg (by omega), if_neg (by omega)]; exact h4 i hi
/-- a store's word changes -/
theorem rb_store {S : nf_S} {r : Nat → Int32} {na h : Nat} {x : Int32} (hb : rb S 0 r na) (hh : h < 6) (hx : ∀ a, na ≤ a → a < 32 → bt x a = false) : rb (nf_sI S 0 5 h x) 0 (upd r (380 + h) x) na := by
  obtain ⟨h1, h2, h3, h4⟩ := hb
  refine ⟨fun y hy b hb => ?_, fun y hy => ?_, fun y hy b hb => ?_, fun i hi => ?_⟩
  · simp only [nf_A_sI, mf_kn, upd]
    rw [if_neg (by omega)]; exact h1 y hy b hb
  · by_cases hy2 : y = h
    · subst hy2
      exact ⟨by simp [nf_I_sI, upd], by simpa [nf_I_sI] using hx⟩
    · have e : ¬ 380 + y = 380 + h := by omega
      simpa [nf_I_sI, upd, hy2] using h2 y hy
  · simp only [nf_A_sI, upd]
    rw [if_neg (by omega)]; exact h3 y hy b hb
  · simp only [nf_A_sI, upd]
    rw [if_neg (by omega)]; exact h4 i hi
/-- a word of pending cancels changes -/
theorem rb_pend {S : nf_S} {r : Nat → Int32} {na h a : Nat} {x : Int32} (hb : rb S 0 r na) (hh : h < 6) (ha : a < 30) (hx : ∃ y, y < 1024 ∧ x = nI y) : rb (nf_sA S 0 13 h (upd (nf_A S 0 13 h) a x)) 0 (upd r (386 + 30 * h + a) x) na := by
  obtain ⟨h1, h2, h3, h4⟩ := hb
  refine ⟨fun y hy b hb => ?_, fun y hy => ?_, fun y hy b hb => ?_, fun i hi => ?_⟩
  · simp only [nf_A_sA, mf_kn, upd]
    rw [if_neg (by omega), if_neg (by omega)]; exact h1 y hy b hb
  · simp only [nf_I_sA, upd]
    rw [if_neg (by omega)]; exact h2 y hy
  · by_cases hy2 : y = h
    · subst hy2
      by_cases hb2 : b = a
      · subst hb2
        exact ⟨by simp [nf_A_sA, upd], by simpa [nf_A_sA, upd] using hx⟩
      · have e : ¬ 386 + 30 * y + b = 386 + 30 * y + a := by omega
        simpa [nf_A_sA, upd, hb2] using h3 y hy b hb
    · have e : ¬ 386 + 30 * y + b = 386 + 30 * h + a := by omega
      simpa [nf_A_sA, upd, hy2, e] using h3 y hy b hb
  · simp only [nf_A_sA, upd]
    rw [if_neg (by omega), if_neg (by omega)]; exact h4 i hi
theorem bt_ten {x : Int32} {k : Nat} (hx : ∃ y, y < 1024 ∧ x = nI y) (hk : k < 10) : (∃ y, y < 1024 ∧ x ||| cf_bit (nI k) = nI y) ∧ ∃ y, y < 1024 ∧ x &&& (cf_bit (nI k) ^^^ -1) = nI y := by
  obtain ⟨y, hy, rfl⟩ := hx
  constructor
  · refine bt_small (n := 10) (by decide) (fun i h1 h2 => ?_)
    rw [bt_keep _ (by omega) h2, bt_of_small (n := 10) hy h1 h2]
    simp; omega
  · refine bt_small (n := 10) (by decide) (fun i h1 h2 => ?_)
    rw [bt_drop _ (by omega) h2, bt_of_small (n := 10) hy h1 h2]
    simp
theorem take_none {x m : Int32} (h : cf_has x m = false) : x &&& (cf_bit m ^^^ -1) = x := by
  obtain ⟨k, hk, e⟩ := bt_amt m
  rw [has_amt hk e] at h
  have e2 : cf_bit m = cf_bit (nI k) := by unfold cf_bit; rw [e]
  rw [e2]
  apply b_ext
  intro i hi
  rw [bt_drop _ hk hi]
  by_cases h2 : i = k
  · subst h2; rw [h]; rfl
  · simp [h2]
theorem nf_A_upd_self (S : nf_S) (n c h a : Nat) : upd (nf_A S n c h) a (nf_A S n c h a) = nf_A S n c h := by
  funext i; simp only [upd]; split
  · rename_i e; rw [e]
  · rfl
theorem upd_self (r : Nat → Int32) (a : Nat) : upd r a (r a) = r := by
  funext i; simp only [upd]; split
  · rename_i e; rw [e]
  · rfl
/-- the target's part of an arrival -/
theorem rb_act {S : nf_S} {r : Nat → Int32} {nl na K h a t : Nat} (hA : ra S 0 r nl na K) (hb : rb S 0 r na) (hh : h < 6) (ha : a < na) (ht : t < 30) : rb (cs_act1 S a h t) 0 (mr_act r h a t) na := by
  have hb0 := hb
  obtain ⟨h1, h2, h3, h4⟩ := hb
  have hna := hA.2.1
  obtain ⟨q1, q2, x, hx, ex⟩ := hA.2.2.2.2.2.2.2.2.2.2.2.1 a ha
  have eau : nf_A S 0 6 0 a = mf_of r a 1 := q1 1 (by decide)
  unfold cs_act1 mr_act
  rw [← (h2 h hh).1, ← has_tst]
  cases hs : cf_has (nf_I S 0 5 h) (nI t) with
  | true =>
    simp only [if_true]
    rw [has_I _ (by omega)] at hs
    have htn : t < na := by
      rcases Nat.lt_or_ge t na with h | h
      · exact h
      · have := (h2 _ hh).2 t h (by omega)
        rw [hs] at this; cases this
    have etau : nf_A S 0 6 0 t = mf_of r t 1 := (hA.2.2.2.2.2.2.2.2.2.2.2.1 t htn).1 1 (by decide)
    rw [← etau, ← eau]
    by_cases hau : nf_A S 0 6 0 t = nf_A S 0 6 0 a
    · rw [if_pos hau, if_pos hau]
      refine rb_inc (j := 4) ?_ (by decide)
      unfold cs_drop
      refine rb_store hb0 hh (fun i h5 h6 => ?_)
      rw [bt_drop _ (by omega) h6, (h2 h hh).2 i h5 h6]; rfl
    · rw [if_neg hau, if_neg hau]
      refine rb_inc (j := 5) ?_ (by decide)
      rw [and_m1, (h2 h hh).1, upd_self]
      exact hb0
  | false =>
    simp only [Bool.false_eq_true, if_false]
    have hk := (h1 h hh t ht).1
    unfold cf_kn
    rw [hk]
    by_cases hm : mf_kn r h t = -1
    · rw [if_pos hm]
      simp only [hm, beq_self_eq_true, Bool.not_true, Bool.false_eq_true, if_false]
      unfold cs_addc
      rw [← (h3 h hh t ht).1, ← eau]
      refine rb_pend hb0 hh ht ?_
      rw [ex]
      exact (bt_ten (h3 h hh t ht).2 hx).1
    · rw [if_neg hm]
      have : (mf_kn r h t == -1) = false := by simpa using hm
      simp only [this, Bool.not_false, if_true]
      exact hb0
/-- the queue's rows are the same -/
def csq (S T : nf_S) : Prop := nf_A S 0 10 0 = nf_A T 0 10 0 ∧ nf_A S 0 11 0 = nf_A T 0 11 0
theorem csq.rf (S : nf_S) : csq S S := ⟨rfl, rfl⟩
theorem csq.trans {S T U : nf_S} (h : csq S T) (g : csq T U) : csq S U := ⟨h.1.trans g.1, h.2.trans g.2⟩
theorem csq_inc (S : nf_S) (j : Nat) : csq S (cs_inc S j) := ⟨rfl, rfl⟩
theorem csq_known (S : nf_S) (h a : Nat) (x : Int32) : csq S (cs_known S h a x) := ⟨rfl, rfl⟩
theorem csq_take (S : nf_S) (h a : Nat) (x : Int32) : csq S (cs_take S h a x) := ⟨rfl, rfl⟩
theorem csq_keep (S : nf_S) (h a : Nat) : csq S (cs_keep S h a) := ⟨rfl, rfl⟩
theorem csq_act (S : nf_S) (a h t : Nat) : csq S (cs_act1 S a h t) := by
  unfold cs_act1
  split
  · split
    · exact ⟨rfl, rfl⟩
    · exact ⟨rfl, rfl⟩
  · split
    · exact csq.rf S
    · exact ⟨rfl, rfl⟩
theorem qh.mid {g r r' : Nat → Int32} {Q : List r3} (h : qh g r Q) (e : mr_mid r r') : qh g r' Q := ⟨by rw [← e 572 (by omega)]; exact h.1, fun k a s t hk => by rw [← e (573 + k) (by omega)]; exact h.2 k a s t hk⟩
theorem rq.mid {f g r r' : Nat → Int32} (h : rq f g r) (e : mr_mid r r') : rq f g r' := by
  obtain ⟨Q, h1, h2, h3⟩ := h
  exact ⟨Q, h1, h2, h3.mid e⟩
theorem rj.step {S T : nf_S} {r r' : Nat → Int32} {na : Nat} (h : rj S 0 r na) (hb : rb T 0 r' na) (e : csq S T) (e2 : mr_mid r r') : rj T 0 r' na := by
  refine ⟨hb, ?_, ?_⟩
  · rw [← e.1, ← e.2]; exact h.2.1.mid e2
  · rw [← e.1, ← e.2]; exact h.2.2
