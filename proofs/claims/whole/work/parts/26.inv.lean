/-! the invariant of the law -/
def rN (S : nf_S) (n : Nat) (r : Nat → Int32) (nl na K : Nat) : Prop := ra S n r nl na K ∧ rj S n r na ∧ pd (nf_A S n 10 0) (nf_A S n 11 0) 1
theorem rN.net {S T : nf_S} {n m : Nat} {r : Nat → Int32} {nl na K : Nat} (h : rN S n r nl na K) (e1 : ∀ c h, nf_I S n c h = nf_I T m c h) (e2 : ∀ c h, nf_A S n c h = nf_A T m c h) : rN T m r nl na K := by
  have e1 : S.1 n = T.1 m := funext (fun c => funext (fun h => e1 c h))
  have e2 : S.2.1 n = T.2.1 m := funext (fun c => funext (fun h => e2 c h))
  simp only [rN, ra, rj, rb, nf_I, nf_A] at h ⊢
  rw [← e1, ← e2]; exact h
theorem rN.row {S : nf_S} {n : Nat} {r r' : Nat → Int32} {nl na K : Nat} (h : rN S n r nl na K) (e : ∀ i, i < 1597 → r i = r' i) : rN S n r' nl na K := by
  have h0 : rN (nf_cpN S 0 n) 0 r nl na K := h.net (fun c h => by rw [nf_I_cpN, if_pos rfl]) (fun c h => by rw [nf_A_cpN, if_pos rfl])
  have h1 : rN (nf_cpN S 0 n) 0 r' nl na K := by
    obtain ⟨hA, ⟨⟨b1, b2, b3, b4⟩, ⟨Q, q1, q2, q3, q4⟩, hw⟩, hp⟩ := h0
    refine ⟨hA.same0 ⟨fun _ _ _ => rfl, fun _ _ _ _ => rfl⟩ (fun i hi => e i (by omega)), ⟨⟨fun y hy b hb => ?_, fun y hy => ?_, fun y hy b hb => ?_, fun i hi => ?_⟩, ⟨Q, q1, q2, ?_, fun k a s t hk => ?_⟩, hw⟩, hp⟩
    · have := b1 y hy b hb
      simp only [mf_kn] at this ⊢
      rw [← e _ (by omega)]; exact this
    · rw [← e _ (by omega)]; exact b2 y hy
    · rw [← e _ (by omega)]; exact b3 y hy b hb
    · rw [← e _ (by omega)]; exact b4 i hi
    · rw [← e _ (by omega)]; exact q3
    · have hl : Q.length ≤ 900 := by rw [(rq_perm q1 q2).length_eq]; exact canon_len hw
      have hk2 : k < Q.length := (List.getElem?_eq_some_iff.mp hk).1
      rw [← e _ (by omega)]; exact q4 k a s t hk
  exact h1.net (fun c h => by rw [nf_I_cpN, if_pos rfl]) (fun c h => by rw [nf_A_cpN, if_pos rfl])
theorem rN.le {S : nf_S} {n : Nat} {r : Nat → Int32} {nl na K K' : Nat} (h : rN S n r nl na K) (hK : K ≤ K') : rN S n r nl na K' := by
  obtain ⟨⟨h1, h2, h3, h4, h5, h6, h7, h8, h9, h10, h11, h12, h13, t, h14, h15⟩, hJ⟩ := h
  exact ⟨⟨h1, h2, h3, h4, h5, h6, h7, h8, h9, h10, h11, h12, h13, t, Nat.le_trans h14 hK, h15⟩, hJ⟩
def inv (S : nf_S) (c nl na K : Nat) : Prop :=
  cs_sv S c ∧ (∀ i j, i < 4 → j < 4 → nf_v S i = nf_v S j → i = j) ∧ nf_J S 1 = nI c ∧ (∀ j, j < 4 → nf_O S 0 j = nf_O S 3 j) ∧ rN S 0 (nf_O S 1) nl na K ∧
  ∀ j, j < c → ∃ nl na, rN S (nf_v S j) (fun i => nf_O S 2 (1597 * j + i)) nl na K
def Inv (S : nf_S) (K : Nat) : Prop := ∃ c nl na, inv S c nl na K
def kp (S T : nf_S) : Prop := (∀ x, 1 ≤ x → nf_O T x = nf_O S x) ∧ nf_J T 1 = nf_J S 1
def agr (S : nf_S) (K : Nat) (q : nf_S × Int32) (p : nf_S → nf_S × Int32) : Prop := kp S q.1 ∧ q.2 = (p q.1).2 ∧ Inv (p q.1).1 K
theorem agr_fail {S : nf_S} {c nl na K j : Nat} {z : Int32} (h : inv S c nl na K) (hj : j < 4) : agr S K (cs_fail S j, z) (fun T => (me T (nf_O S 1) (nf_O S 2) (nf_O S 3) (nf_O S 4) c j, z)) := by
  obtain ⟨h1, h2, h3, h4, h5, h6⟩ := h
  refine ⟨⟨fun x hx => ?_, rfl⟩, rfl, c, nl, na, h1, h2, rfl, fun i hi => ?_, h5.net (fun _ _ => rfl) (fun _ _ => rfl), fun i hi => ?_⟩
  · show nf_O (nf_sO S 0 _) x = _
    rw [nf_O_sO, if_neg (by omega)]
  · show upd (nf_O S 0) j (nf_O S 0 j + 1) i = upd (nf_O S 3) j (nf_O S 3 j + 1) i
    simp only [upd]
    rw [h4 i hi, h4 j hj]
  · obtain ⟨nl, na, h⟩ := h6 i hi
    exact ⟨nl, na, h.net (fun _ _ => rfl) (fun _ _ => rfl)⟩
theorem agr_read {S : nf_S} {c nl na K : Nat} {z z' : Int32} (h : inv S c nl na K) (e : z = z') : agr S K (S, z) (fun T => (mm T (nf_O S 1) (nf_O S 2) (nf_O S 3) (nf_O S 4) (nI c), z')) := by
  refine ⟨⟨fun x hx => rfl, rfl⟩, e, c, nl, na, ?_⟩
  show inv (mm S (nf_O S 1) (nf_O S 2) (nf_O S 3) (nf_O S 4) (nI c)) c nl na K
  rw [← h.2.2.1, mm_self]; exact h
/-- only the live net and the taken queue differ -/
def only0 (S T : nf_S) : Prop := (∀ n c h, n ≠ 0 → n ≠ 5 → nf_I S n c h = nf_I T n c h ∧ nf_A S n c h = nf_A T n c h) ∧ (∀ x, nf_O S x = nf_O T x) ∧ (∀ j, nf_J S j = nf_J T j) ∧ nf_v S = nf_v T
theorem only0.rf (S : nf_S) : only0 S S := ⟨fun _ _ _ _ _ => ⟨rfl, rfl⟩, fun _ => rfl, fun _ => rfl, rfl⟩
theorem only0.trans {S T U : nf_S} (h : only0 S T) (g : only0 T U) : only0 S U := ⟨fun n c x h1 h2 => ⟨(h.1 n c x h1 h2).1.trans (g.1 n c x h1 h2).1, (h.1 n c x h1 h2).2.trans (g.1 n c x h1 h2).2⟩, fun x => (h.2.1 x).trans (g.2.1 x), fun j => (h.2.2.1 j).trans (g.2.2.1 j), h.2.2.2.trans g.2.2.2⟩
theorem only0.same {S T : nf_S} (h : cs_same S T) : only0 S T := ⟨fun n c x h1 _ => h.2.2.1 n c x h1, h.2.2.2.1, h.2.2.2.2.1, h.2.2.2.2.2⟩
theorem only0_sI (S : nf_S) (c h : Nat) (x : Int32) : only0 S (nf_sI S 0 c h x) := ⟨fun n c' h' h1 _ => ⟨by rw [nf_I_sI, if_neg (by omega)], rfl⟩, fun _ => rfl, fun _ => rfl, rfl⟩
theorem only0_sA (S : nf_S) (c h : Nat) (x : Nat → Int32) : only0 S (nf_sA S 0 c h x) := ⟨fun n c' h' h1 _ => ⟨rfl, by rw [nf_A_sA, if_neg (by omega)]⟩, fun _ => rfl, fun _ => rfl, rfl⟩
theorem agr_step {S T : nf_S} {c nl na K nl' na' K' : Nat} {z z' : Int32} {r' wk : Nat → Int32} (h : inv S c nl na K) (hK : K ≤ K') (ho : only0 (cs_save S c) T) (hT : rN T 0 r' nl' na' K') (e : z = z') : agr S K' (T, z) (fun U => (mm U r' (ms_save (nf_O S 2) (nf_O S 1) c) (nf_O S 3) wk (nI (ms_cnt c)), z')) := by
  obtain ⟨h1, h2, h3, h4, h5, h6⟩ := h
  have hc := h1.1
  have h1' := cs_save_sv S c h1
  have ec : (if c < 4 then c + 1 else 4) = ms_cnt c := by
    unfold ms_cnt
    by_cases h : c = 4
    · subst h; rfl
    · rw [if_neg h, if_pos (by omega)]
  rw [ec] at h1'
  have hv : ∀ i, nf_v T i = nf_v (cs_save S c) i := fun i => by rw [ho.2.2.2]
  refine ⟨⟨fun x hx => ?_, ?_⟩, e, ms_cnt c, nl', na', ⟨h1'.1, ?_, fun k hk => ?_⟩, fun i j hi hj hij => ?_, rfl, fun j hj => ?_, hT.net (fun _ _ => rfl) (fun _ _ => rfl), fun j hj => ?_⟩
  · rw [← ho.2.1 x, cs_save_O]
  · rw [← ho.2.2.1 1, cs_save_J S c 0]
  · show nf_J T 0 = _
    rw [← ho.2.2.1 0]; exact h1'.2.1
  · show 0 < nf_v T k ∧ nf_v T k < 5
    rw [hv]; exact h1'.2.2 k hk
  · have hij : nf_v T i = nf_v T j := hij
    rw [hv, hv] at hij
    unfold cs_save at hij
    split at hij
    · exact h2 i j hi hj hij
    · have : cf_rot (nf_v S) i = cf_rot (nf_v S) j := hij
      have hr : ∀ i, i < 4 → cf_rot (nf_v S) i = nf_v S (if i = 3 then 0 else i + 1) := by
        intro i hi
        rcases (show i = 0 ∨ i = 1 ∨ i = 2 ∨ i = 3 by omega) with rfl | rfl | rfl | rfl <;> rfl
      rw [hr i hi, hr j hj] at this
      have := h2 _ _ (by split <;> omega) (by split <;> omega) this
      split at this <;> split at this <;> omega
  · show nf_O T 0 j = nf_O S 3 j
    rw [← ho.2.1 0, cs_save_O]; exact h4 j hj
  · show ∃ nl na, rN (mm T r' (ms_save (nf_O S 2) (nf_O S 1) c) (nf_O S 3) wk (nI (ms_cnt c))) (nf_v T j) (fun i => ms_save (nf_O S 2) (nf_O S 1) c (1597 * j + i)) nl na K'
    -- a net of the saved state, moved into the last one
    have mv : ∀ n, 0 < n → n < 5 → ∀ m, (∀ x y, nf_I S m x y = nf_I (cs_save S c) n x y) → (∀ x y, nf_A S m x y = nf_A (cs_save S c) n x y) → ∀ r nl na, rN S m r nl na K → rN (mm T r' (ms_save (nf_O S 2) (nf_O S 1) c) (nf_O S 3) wk (nI (ms_cnt c))) n r nl na K' := by
      intro n n1 n2 m e1 e2 r nl na hN
      refine (hN.le hK).net (fun x y => ?_) (fun x y => ?_)
      · rw [e1, (ho.1 n x y (by omega) (by omega)).1]; rfl
      · rw [e2, (ho.1 n x y (by omega) (by omega)).2]; rfl
    rw [hv]
    by_cases h4c : c < 4
    · have es : cs_save S c = nf_cpN (nf_sJ S 0 (nI (c + 1))) (nf_v S c) 0 := by unfold cs_save; rw [if_pos h4c]
      have em : ms_cnt c = c + 1 := by unfold ms_cnt; rw [if_neg (by omega)]
      have er : ms_save (nf_O S 2) (nf_O S 1) c = ms_copy (nf_O S 2) (nf_O S 1) (1597 * c) 1597 := by unfold ms_save; rw [if_neg (by omega)]
      have ev : nf_v (cs_save S c) j = nf_v S j := by rw [es]; rfl
      rw [em] at hj
      rw [ev]
      by_cases hjc : j = c
      · subst hjc
        refine ⟨nl, na, (mv _ (h1.2.2 j h4c).1 (h1.2.2 j h4c).2 0 (fun x y => ?_) (fun x y => ?_) _ _ _ h5).row (fun i hi => ?_)⟩
        · rw [es, nf_I_cpN, if_pos rfl]; rfl
        · rw [es, nf_A_cpN, if_pos rfl]; rfl
        · rw [er]; simp only [ms_copy]
          rw [if_pos (by omega), show 1597 * j + i - 1597 * j = i by omega]
      · obtain ⟨nl1, na1, hN⟩ := h6 j (by omega)
        have hne : ¬ nf_v S j = nf_v S c := fun h => hjc (h2 j c (by omega) h4c h)
        refine ⟨nl1, na1, (mv _ (h1.2.2 j (by omega)).1 (h1.2.2 j (by omega)).2 (nf_v S j) (fun x y => ?_) (fun x y => ?_) _ _ _ hN).row (fun i hi => ?_)⟩
        · rw [es, nf_I_cpN, if_neg hne]; rfl
        · rw [es, nf_A_cpN, if_neg hne]; rfl
        · rw [er]; simp only [ms_copy]
          rw [if_neg (by omega)]
    · have h4' : c = 4 := by omega
      subst h4'
      have es : cs_save S 4 = nf_cpN (nf_sv S (cf_rot (nf_v S))) (nf_v S 0) 0 := rfl
      have er : ms_save (nf_O S 2) (nf_O S 1) 4 = ms_copy (ms_shift (nf_O S 2) 4791) (nf_O S 1) 4791 1597 := rfl
      have hj : j < 4 := hj
      by_cases hj3 : j = 3
      · subst hj3
        have ev : nf_v (cs_save S 4) 3 = nf_v S 0 := rfl
        rw [ev]
        refine ⟨nl, na, (mv _ (h1.2.2 0 (by omega)).1 (h1.2.2 0 (by omega)).2 0 (fun x y => ?_) (fun x y => ?_) _ _ _ h5).row (fun i hi => ?_)⟩
        · rw [es, nf_I_cpN, if_pos rfl]; rfl
        · rw [es, nf_A_cpN, if_pos rfl]; rfl
        · rw [er]; simp only [ms_copy]
          rw [if_pos (by omega), show 1597 * 3 + i - 4791 = i by omega]
      · have ev : nf_v (cs_save S 4) j = nf_v S (j + 1) := by
          rcases (show j = 0 ∨ j = 1 ∨ j = 2 by omega) with rfl | rfl | rfl <;> rfl
        rw [ev]
        obtain ⟨nl1, na1, hN⟩ := h6 (j + 1) (by omega)
        have hne : ¬ nf_v S (j + 1) = nf_v S 0 := fun h => absurd (h2 (j + 1) 0 (by omega) (by omega) h) (by omega)
        refine ⟨nl1, na1, (mv _ (h1.2.2 (j + 1) (by omega)).1 (h1.2.2 (j + 1) (by omega)).2 (nf_v S (j + 1)) (fun x y => ?_) (fun x y => ?_) _ _ _ hN).row (fun i hi => ?_)⟩
        · rw [es, nf_I_cpN, if_neg hne]; rfl
        · rw [es, nf_A_cpN, if_neg hne]; rfl
        · rw [er]; simp only [ms_copy]
          rw [if_neg (by omega)]
          simp only [ms_shift]
          rw [if_pos (by omega)]
          congr 1; omega
theorem agr_undo {S : nf_S} {c nl na K : Nat} (h : inv S c nl na K) : agr S K (cq_undo c S) (fun U => mq_undo c U (nf_O S 1) (nf_O S 2) (nf_O S 3) (nf_O S 4)) := by
  have h0 := h
  obtain ⟨h1, h2, h3, h4, h5, h6⟩ := h
  have hc := h1.1
  unfold cq_undo mq_undo
  by_cases hc0 : c = 0
  · subst hc0
    rw [if_neg (by decide)]
    simp only [show nI 0 = 0 from rfl, if_true]
    exact agr_fail h0 (by decide)
  · have e1 : (1 : Int32) ≤ nI c := by
      rcases (show c = 1 ∨ c = 2 ∨ c = 3 ∨ c = 4 by omega) with rfl | rfl | rfl | rfl <;> decide
    have e2 : ¬ nI c = 0 := by
      rcases (show c = 1 ∨ c = 2 ∨ c = 3 ∨ c = 4 by omega) with rfl | rfl | rfl | rfl <;> decide
    rw [if_pos e1]
    simp only [e2, if_false]
    obtain ⟨nl1, na1, hN⟩ := h6 (c - 1) (by omega)
    refine ⟨⟨fun x hx => rfl, rfl⟩, rfl, c - 1, nl1, na1, ⟨by omega, rfl, h1.2.2⟩, h2, rfl, h4, ?_, fun j hj => ?_⟩
    · refine (hN.row (r' := ms_undo (nf_O S 1) (nf_O S 2) (1597 * (c - 1)) 1597) (fun i hi => ?_)).net (fun x y => ?_) (fun x y => ?_)
      · simp only [ms_undo]; rw [if_pos hi]
      · show _ = nf_I (nf_cpN (nf_sJ S 0 (nI (c - 1))) 0 (nf_v S (c - 1))) 0 x y
        rw [nf_I_cpN, if_pos rfl]; rfl
      · show _ = nf_A (nf_cpN (nf_sJ S 0 (nI (c - 1))) 0 (nf_v S (c - 1))) 0 x y
        rw [nf_A_cpN, if_pos rfl]; rfl
    · obtain ⟨nl2, na2, hM⟩ := h6 j (by omega)
      have hne : ¬ nf_v S j = 0 := Nat.ne_of_gt (h1.2.2 j (by omega)).1
      refine ⟨nl2, na2, hM.net (fun x y => ?_) (fun x y => ?_)⟩
      · show _ = nf_I (nf_cpN (nf_sJ S 0 (nI (c - 1))) 0 (nf_v S (c - 1))) (nf_v S j) x y
        rw [nf_I_cpN, if_neg hne]; rfl
      · show _ = nf_A (nf_cpN (nf_sJ S 0 (nI (c - 1))) 0 (nf_v S (c - 1))) (nf_v S j) x y
        rw [nf_A_cpN, if_neg hne]; rfl
