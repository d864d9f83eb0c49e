/-! where the cells of the class's table lie -/
theorem lns_at {N : Nat → nc_T} {b : Nat} (hN : ∀ a, (N a).length = 35) : ∀ (m k j i : Nat), j < m → i < 35 → (lns N b m k)[35 * j + i]? = (N (b + (41 + 35 * (k + j))))[i]?
  | 0, k, j, i, hj, hi => absurd hj (Nat.not_lt_zero j)
  | m + 1, k, j, i, hj, hi => by
    show (N (b + (41 + 35 * k)) ++ lns N b m (k + 1))[35 * j + i]? = _
    cases j with
    | zero => rw [List.getElem?_append_left (by rw [hN]; omega), Nat.mul_zero, Nat.zero_add, Nat.add_zero]
    | succ j =>
      rw [List.getElem?_append_right (by rw [hN]; omega), hN, show 35 * (j + 1) + i - 35 = 35 * j + i by omega, lns_at hN m (k + 1) j i (by omega) hi, show k + 1 + j = k + (j + 1) by omega]
theorem t5_net0 {o q z : va_E} {M Z R : nc_T} {i : Nat} (hM : M.length = 35) (hi : i < 35) : ((o :: (M ++ Z)) ++ (q :: z :: R))[1 + i]? = M[i]? := by
  rw [List.getElem?_append_left (by rw [List.length_cons, List.length_append]; omega), Nat.add_comm, List.getElem?_cons_succ, List.getElem?_append_left (by omega)]
theorem t5_tk {o q z : va_E} {M Z R : nc_T} {i : Nat} (hM : M.length = 35) (hZ : Z.length = 3) (hi : i < 3) : ((o :: (M ++ Z)) ++ (q :: z :: R))[36 + i]? = Z[i]? := by
  rw [List.getElem?_append_left (by rw [List.length_cons, List.length_append]; omega), show 36 + i = (35 + i) + 1 by omega, List.getElem?_cons_succ, List.getElem?_append_right (by omega), show 35 + i - M.length = i by omega]
theorem t5_r {o q z : va_E} {M Z R : nc_T} {i : Nat} (hM : M.length = 35) (hZ : Z.length = 3) : ((o :: (M ++ Z)) ++ (q :: z :: R))[39 + i]? = (q :: z :: R)[i]? := by
  rw [List.getElem?_append_right (by rw [List.length_cons, List.length_append]; omega), List.length_cons, List.length_append, hM, hZ, show 39 + i - (35 + 3 + 1) = i by omega]
theorem t5_net {o q z : va_E} {M Z : nc_T} {N : Nat → nc_T} {b i k : Nat} (hM : M.length = 35) (hZ : Z.length = 3) (hN : ∀ a, (N a).length = 35) (hk : k < 4) (hi : i < 35) : ((o :: (M ++ Z)) ++ (q :: z :: ([] ++ lns N b 4 0)))[41 + 35 * k + i]? = (N (b + (41 + 35 * k)))[i]? := by
  rw [show 41 + 35 * k + i = 39 + (35 * k + i + 1 + 1) by omega, t5_r hM hZ, List.getElem?_cons_succ, List.getElem?_cons_succ, List.nil_append, lns_at hN 4 0 k i hk hi, Nat.zero_add]
