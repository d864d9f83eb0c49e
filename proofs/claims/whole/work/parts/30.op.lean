/-! the digests compared, and the calls as pairs -/
theorem mixr_congr {f g : Nat → Int32} : ∀ (m k d : Nat) (h : Int64), (∀ j, j < m → f (k + j) = g (d + j)) → cf_mixr f k m h = cf_mixr g d m h
  | 0, k, d, h, e => rfl
  | m + 1, k, d, h, e => by
    unfold cf_mixr
    rw [show f k = g d from e 0 (by omega)]
    exact mixr_congr m (k + 1) (d + 1) _ (fun j hj => by have := e (j + 1) (by omega); rw [show k + 1 + j = k + (j + 1) by omega, show d + 1 + j = d + (j + 1) by omega]; exact this)
theorem mixl_eq {S : nf_S} {r : Nat → Int32} {nl na K : Nat} (hA : ra S 0 r nl na K) : ∀ (m k : Nat) (h : Int64), k + m ≤ nl → cf_mixl S k m h = cf_mixr (fun j => r (7 + j)) (3 * k) (3 * m) h
  | 0, k, h, hk => rfl
  | m + 1, k, h, hk => by
    have h8 := hA.2.2.2.2.2.2.2.1 k (by omega)
    simp only [mf_lk] at h8
    show cf_mixl S (k + 1) m _ = cf_mixr (fun j => r (7 + j)) (3 * k + 1 + 1 + 1) (3 * m) (cf_mix (cf_mix (cf_mix h (r (7 + 3 * k))) (r (7 + (3 * k + 1)))) (r (7 + (3 * k + 1 + 1))))
    rw [h8.1, h8.2.1, h8.2.2.1, mixl_eq hA m (k + 1) _ (by omega)]
    rfl
theorem mixa_eq {S : nf_S} {r : Nat → Int32} {nl na K : Nat} (hA : ra S 0 r nl na K) : ∀ (m k : Nat) (h : Int64), k + m ≤ na → cf_mixa S k m h = cf_mixr (fun j => r (50 + j)) (5 * k) (5 * m) h
  | 0, k, h, hk => rfl
  | m + 1, k, h, hk => by
    have h8 := (hA.2.2.2.2.2.2.2.2.2.2.2.1 k (by omega)).1
    have a0 : nf_A S 0 5 0 k = r (50 + 5 * k) := h8 0 (by decide)
    have a1 : nf_A S 0 6 0 k = r (50 + 5 * k + 1) := h8 1 (by decide)
    have a2 : nf_A S 0 7 0 k = r (50 + 5 * k + 2) := h8 2 (by decide)
    have a3 : nf_A S 0 8 0 k = r (50 + 5 * k + 3) := h8 3 (by decide)
    have a4 : nf_A S 0 9 0 k = r (50 + 5 * k + 4) := h8 4 (by decide)
    show cf_mixa S (k + 1) m _ = cf_mixr (fun j => r (50 + j)) (5 * k + 1 + 1 + 1 + 1 + 1) (5 * m) (cf_mix (cf_mix (cf_mix (cf_mix (cf_mix h (r (50 + 5 * k))) (r (50 + (5 * k + 1)))) (r (50 + (5 * k + 1 + 1)))) (r (50 + (5 * k + 1 + 1 + 1)))) (r (50 + (5 * k + 1 + 1 + 1 + 1))))
    rw [a0, a1, a2, a3, a4, mixa_eq hA m (k + 1) _ (by omega)]
    rfl
theorem mixs_eq {S : nf_S} {r : Nat → Int32} {na x : Nat} (hb : rb S 0 r na) (hx : x < 6) : ∀ (m k : Nat) (h : Int64), k + m ≤ 30 → cf_mixs S x k m h = mf_mixh r x m k h
  | 0, k, h, hk => rfl
  | m + 1, k, h, hk => by
    unfold cf_mixs mf_mixh
    rw [has_tst, (hb.2.1 x hx).1, (hb.1 x hx k (by omega)).1]
    exact mixs_eq hb hx m (k + 1) _ (by omega)
theorem mixh_eq {S : nf_S} {r : Nat → Int32} {nl na K x : Nat} (hA : ra S 0 r nl na K) (hb : rb S 0 r na) (hx : x < 6) (h : Int64) : cf_mixh S x na h = mf_mixh r x na 0 (cf_mix (cf_mix h (r (43 + x))) (mf_pnd r x 30 0 0)) := by
  have hna := hA.2.1
  have e1 := sum_pnd hb hx 30 0 0 (Nat.le_refl 30)
  have e2 := hA.2.2.2.2.2.2.2.2.1 x hx
  unfold cf_mixh
  rw [e1, e2]
  exact mixs_eq hb hx na 0 _ (by omega)
theorem mixo_eq {S : nf_S} {r : Nat → Int32} {nl na K : Nat} (hA : ra S 0 r nl na K) (hb : rb S 0 r na) : ∀ (m k : Nat) (h : Int64), k + m ≤ 6 → cf_mixo S na k m h = mf_mixo r na m k h
  | 0, k, h, hk => rfl
  | m + 1, k, h, hk => by
    have e1 : cf_mixo S na k (m + 1) h = cf_mixo S na (k + 1) m (cf_mixh S k na h) := rfl
    rw [e1, mixh_eq hA hb (by omega) h]
    exact mixo_eq hA hb m (k + 1) _ (by omega)
theorem mixr_s (f : Nat → Int32) (k m : Nat) (h : Int64) : cf_mixr f k (m + 1) h = cf_mixr f (k + 1) m (cf_mix h (f k)) := rfl
theorem mixr_2 (f : Nat → Int32) (h : Int64) : cf_mixr f 0 6 h = cf_mixr f 2 4 (cf_mix (cf_mix h (f 0)) (f 1)) := by
  rw [show (6 : Nat) = 5 + 1 from rfl, mixr_s f 0 5 h, show (5 : Nat) = 4 + 1 from rfl, mixr_s f (0 + 1) 4]
theorem dig_eq {S : nf_S} {c nl na K : Nat} (h : inv S c nl na K) : cf_dig S nl na = mf_dig (nf_O S 1) (nf_O S 3) nl na c := by
  have hN := h.2.2.2.2.1
  have hA := hN.1
  have e1 : nf_I S 0 3 0 = nf_O S 1 49 := by rw [hA.2.2.2.2.2.2.2.2.2.1, hA.2.2.2.2.2.2.2.2.2.2.1]
  have f1 : ∀ X, cf_mixr (nf_A S 0 1 0) 0 6 X = cf_mixr (fun k => nf_O S 1 (566 + k)) 0 6 X := fun X => mixr_congr (f := nf_A S 0 1 0) (g := fun k => nf_O S 1 (566 + k)) 6 0 0 X (fun j hj => by rw [Nat.zero_add]; exact hN.2.1.1.2.2.2 j hj)
  have f2 : ∀ X, cf_mixr (nf_O S 0) 0 4 X = cf_mixr (nf_O S 3) 0 4 X := fun X => mixr_congr (f := nf_O S 0) (g := nf_O S 3) 4 0 0 X (fun j hj => by rw [Nat.zero_add]; exact h.2.2.2.1 j hj)
  have f3 : ∀ X, cf_mixr (nf_A S 0 0 0) 0 4 X = cf_mixr (nf_O S 1) 2 4 X := fun X => mixr_congr (f := nf_A S 0 0 0) (g := nf_O S 1) 4 0 2 X (fun j hj => by rw [Nat.zero_add]; exact hA.2.2.2.2.1 j hj)
  have f4 := mixo_eq hA hN.2.1.1 6 0
  have f5 : ∀ X, cf_mixa S 0 na X = cf_mixr (fun k => nf_O S 1 (50 + k)) 0 (5 * na) X := fun X => mixa_eq hA na 0 X (by omega)
  have f6 : ∀ X, cf_mixl S 0 nl X = cf_mixr (fun k => nf_O S 1 (7 + k)) 0 (3 * nl) X := fun X => mixl_eq hA nl 0 X (by omega)
  have f7 := wait_eq h
  have f8 := h.1.2.1
  have f9 := hA.2.2.1
  have f10 := hA.2.2.2.1
  unfold cf_dig mf_dig
  rw [f1, f2, f3, f4 _ (by decide), f5, f6, f7, f8, e1, f9, f10, mixr_2 (nf_O S 1)]
theorem inv.ok {S : nf_S} {c nl na K : Nat} (h : inv S c nl na K) : cs_ok S nl na := h.2.2.2.2.1.1.ok
theorem inv.mok {S : nf_S} {c nl na K : Nat} (h : inv S c nl na K) : ∃ q, mr_ok (nf_O S 1) nl na q := by
  obtain ⟨q, h1, _⟩ := mr_arr_low (h := 0) (a := 0) (p := 0) h.2.2.2.2.1.1 h.2.2.2.2.1.2.1
  exact ⟨q, h1⟩
theorem inv.nl {S : nf_S} {c nl na K : Nat} (h : inv S c nl na K) : nf_O S 1 6 = nI nl ∧ nl ≤ 12 := ⟨h.2.2.2.2.1.1.2.2.2.2.2.2.1, h.2.2.2.2.1.1.1⟩
theorem inv.na {S : nf_S} {c nl na K : Nat} (h : inv S c nl na K) : nf_O S 1 49 = nI na ∧ na ≤ 30 := ⟨h.2.2.2.2.1.1.2.2.2.2.2.2.2.2.2.2.1, h.2.2.2.2.1.1.2.1⟩
theorem inv.pn {S : nf_S} {c nl na K : Nat} (h : inv S c nl na K) : ∀ x, x < 6 → ∀ k, k < 30 → ∃ y, y < 1024 ∧ nf_O S 1 (386 + 30 * x + k) = nI y := fun x hx k hk => by
  have := h.2.2.2.2.1.2.1.1.2.2.1 x hx k hk
  rw [← this.1]; exact this.2
theorem op_mk {L : nf_L} {d1 d2 : Nat} {y1 y2 : MethodName} {cc1 cc2 : ByteArray} {n1 n2 : Nat} {as1 as2 : List Value} {S : nf_S} {c K : Nat} {q : nf_S × Int32} {p : nf_S → nf_S × Int32} {rt1 rt2 : Option FieldType} (hJ : nf_J S 1 = nI c) (ha : agr S K q p)
    (h1 : nf_Sp L d1 y1 cc1 n1 rt1 as1 S (some (.int q.2)) q.1) (h2 : ∀ T, nf_Sp L d2 y2 cc2 n2 rt2 as2 (mm T (nf_O S 1) (nf_O S 2) (nf_O S 3) (nf_O S 4) (nI c)) (some (.int (p T).2)) (p T).1) :
    ∃ z S1 S2, nf_Sp L d1 y1 cc1 n1 rt1 as1 S (some (.int z)) S1 ∧ nf_Sp L d2 y2 cc2 n2 rt2 as2 S1 (some (.int z)) S2 ∧ Inv S2 K := by
  obtain ⟨⟨k1, k2⟩, h3, h4⟩ := ha
  refine ⟨q.2, q.1, (p q.1).1, h1, ?_, h4⟩
  have e : mm q.1 (nf_O S 1) (nf_O S 2) (nf_O S 3) (nf_O S 4) (nI c) = q.1 := by
    rw [← k1 1 (by decide), ← k1 2 (by decide), ← k1 3 (by decide), ← k1 4 (by decide), ← hJ, ← k2, mm_self]
  have h5 := h2 q.1
  rw [e] at h5
  rw [h3]; exact h5
