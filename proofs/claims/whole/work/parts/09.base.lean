theorem nf_okA {n c : Nat} (hn : n < 5) (hc : c < 12) : nf_ok (9, n, c, 0) := Or.inl ⟨hn, Or.inl ⟨hc, rfl⟩⟩
theorem nf_ok12 {n h : Nat} (hn : n < 5) (hh : h < 6) : nf_ok (9, n, 12, h) := Or.inl ⟨hn, Or.inr ⟨Or.inl rfl, hh⟩⟩
theorem nf_ok13 {n h : Nat} (hn : n < 5) (hh : h < 6) : nf_ok (9, n, 13, h) := Or.inl ⟨hn, Or.inr ⟨Or.inr rfl, hh⟩⟩
theorem nf_ok4 {n h : Nat} (hn : n < 5) (hh : h < 6) : nf_ok (4, n, 0, h) := ⟨hn, rfl, hh⟩
theorem nf_okT10 : nf_ok (9, 5, 10, 0) := Or.inr ⟨rfl, Or.inl rfl, rfl⟩
theorem nf_okT11 : nf_ok (9, 5, 11, 0) := Or.inr ⟨rfl, Or.inr rfl, rfl⟩
theorem nf_okQ10 {n : Nat} (hn : n < 6) : nf_ok (9, n, 10, 0) := by
  rcases Nat.lt_or_ge n 5 with h | h
  · exact nf_okA h (by decide)
  · have : n = 5 := by omega
    subst this; exact nf_okT10
theorem nf_okQ11 {n : Nat} (hn : n < 6) : nf_ok (9, n, 11, 0) := by
  rcases Nat.lt_or_ge n 5 with h | h
  · exact nf_okA h (by decide)
  · have : n = 5 := by omega
    subst this; exact nf_okT11
theorem nf_okO {x : Nat} (hx : x < 5) : nf_ok (10, x, 0, 0) := ⟨hx, rfl⟩
theorem nf_len_lt (c : Nat) : nf_len c < 2 ^ 31 := by
  unfold nf_len; split <;> decide
theorem nf_lenO_lt (c : Nat) : nf_lenO c < 2 ^ 31 := by
  unfold nf_lenO; split <;> decide
theorem nf_inI {k N : Nat} (h : k < N) (hN : N < 2 ^ 31) : vp_in (nI k) N := nI_in h hN
theorem nf_add (a b : Nat) : nI (a + b) = nI a + nI b := by simp [nI, Int32.ofNat_add]
theorem nf_mul (a b : Nat) : nI (a * b) = nI a * nI b := by simp [nI, Int32.ofNat_mul]
theorem nf_succ_sub (k : Nat) : nI (k + 1) - 1 = nI k := nI_pred k
theorem nf_ext {S T : nf_S} (h1 : ∀ n c h, nf_I S n c h = nf_I T n c h) (h2 : ∀ n c h, nf_A S n c h = nf_A T n c h) (h3 : ∀ x, nf_O S x = nf_O T x) (h4 : ∀ j, nf_J S j = nf_J T j) (h5 : nf_v S = nf_v T) : S = T := by
  refine Prod.ext ?_ (Prod.ext ?_ (Prod.ext ?_ (Prod.ext ?_ h5)))
  · funext n c h; exact h1 n c h
  · funext n c h; exact h2 n c h
  · funext x; exact h3 x
  · funext j; exact h4 j
section NfBase
variable {L : nf_L} {d : Nat} {cc : ByteArray} {own : String} {nL : Nat} {ret : Option FieldType} {r : Option Value} {S2 : nf_S} {pc : Nat} {ls : List (Option Value)} {st : List Value} {S : nf_S}
theorem nf_iaddI {a b : Nat} (dg : decode cc pc = .ok (.iadd, 1)) (k : nf_V L d cc own nL ret r S2 (pc + 1) ls (.int (nI (a + b)) :: st) S) : nf_V L d cc own nL ret r S2 pc ls (.int (nI b) :: .int (nI a) :: st) S := nf_iadd dg (by rw [← nf_add]; exact k)
theorem nf_imulI {a b : Nat} (dg : decode cc pc = .ok (.imul, 1)) (k : nf_V L d cc own nL ret r S2 (pc + 1) ls (.int (nI (a * b)) :: st) S) : nf_V L d cc own nL ret r S2 pc ls (.int (nI b) :: .int (nI a) :: st) S := nf_imul dg (by rw [← nf_mul]; exact k)
theorem nf_ialdI {n c h k : Nat} (hq : nf_ok (9, n, c, h)) (hi : k < nf_len c) (dg : decode cc pc = .ok (.iaload, 1)) (kk : nf_V L d cc own nL ret r S2 (pc + 1) ls (.int (nf_A S n c h k) :: st) S) : nf_V L d cc own nL ret r S2 pc ls (.int (nI k) :: .ref (L.2.2 (9, n, c, h)) :: st) S :=
  nf_iald hq (nf_inI hi (nf_len_lt c)) dg (by rw [nI_clamp (Nat.lt_trans hi (nf_len_lt c))]; exact kk)
theorem nf_ialdOI {x k : Nat} (hq : nf_ok (10, x, 0, 0)) (hi : k < nf_lenO x) (dg : decode cc pc = .ok (.iaload, 1)) (kk : nf_V L d cc own nL ret r S2 (pc + 1) ls (.int (nf_O S x k) :: st) S) : nf_V L d cc own nL ret r S2 pc ls (.int (nI k) :: .ref (L.2.2 (10, x, 0, 0)) :: st) S :=
  nf_ialdO hq (nf_inI hi (nf_lenO_lt x)) dg (by rw [nI_clamp (Nat.lt_trans hi (nf_lenO_lt x))]; exact kk)
theorem nf_iastI {n c h k : Nat} {x : Int32} (hq : nf_ok (9, n, c, h)) (hi : k < nf_len c) (dg : decode cc pc = .ok (.iastore, 1)) (kk : nf_V L d cc own nL ret r S2 (pc + 1) ls st (nf_sA S n c h (upd (nf_A S n c h) k x))) : nf_V L d cc own nL ret r S2 pc ls (.int x :: .int (nI k) :: .ref (L.2.2 (9, n, c, h)) :: st) S :=
  nf_iast hq (nf_inI hi (nf_len_lt c)) dg (by rw [nI_clamp (Nat.lt_trans hi (nf_len_lt c))]; exact kk)
theorem nf_iastOI {x0 k : Nat} {x : Int32} (hq : nf_ok (10, x0, 0, 0)) (hi : k < nf_lenO x0) (dg : decode cc pc = .ok (.iastore, 1)) (kk : nf_V L d cc own nL ret r S2 (pc + 1) ls st (nf_sO S x0 (upd (nf_O S x0) k x))) : nf_V L d cc own nL ret r S2 pc ls (.int x :: .int (nI k) :: .ref (L.2.2 (10, x0, 0, 0)) :: st) S :=
  nf_iastO hq (nf_inI hi (nf_lenO_lt x0)) dg (by rw [nI_clamp (Nat.lt_trans hi (nf_lenO_lt x0))]; exact kk)
theorem nf_haldI {n k : Nat} (hn : n < 5) (hi : k < 6) (dg : decode cc pc = .ok (.aaload, 1)) (kk : nf_V L d cc own nL ret r S2 (pc + 1) ls (.ref (L.2.2 (4, n, 0, k)) :: st) S) : nf_V L d cc own nL ret r S2 pc ls (.int (nI k) :: .ref (L.2.2 (7, n, 0, 0)) :: st) S :=
  nf_hald hn (nf_inI hi (by decide)) dg (by rw [nI_clamp (Nat.lt_trans hi (by decide))]; exact kk)
theorem nf_saldI {k : Nat} (hi : k < 4) (dg : decode cc pc = .ok (.aaload, 1)) (kk : nf_V L d cc own nL ret r S2 (pc + 1) ls (.ref (L.2.2 (1, nf_v S k, 0, 0)) :: st) S) : nf_V L d cc own nL ret r S2 pc ls (.int (nI k) :: .ref (L.2.2 (6, 0, 0, 0)) :: st) S :=
  nf_sald (nf_inI hi (by decide)) dg (by rw [nI_clamp (Nat.lt_trans hi (by decide))]; exact kk)
theorem nf_sastI {k n : Nat} (hn : n < 5) (hi : k < 4) (dg : decode cc pc = .ok (.aastore, 1)) (kk : nf_V L d cc own nL ret r S2 (pc + 1) ls st (nf_sv S (va_up (nf_v S) k n))) : nf_V L d cc own nL ret r S2 pc ls (.ref (L.2.2 (1, n, 0, 0)) :: .int (nI k) :: .ref (L.2.2 (6, 0, 0, 0)) :: st) S :=
  nf_sast hn (nf_inI hi (by decide)) dg (by rw [nI_clamp (Nat.lt_trans hi (by decide))]; exact kk)
theorem nf_topI {x y : Int32} (e : x = y) (k : nf_V L d cc own nL ret r S2 pc ls (.int y :: st) S) : nf_V L d cc own nL ret r S2 pc ls (.int x :: st) S := by rw [e]; exact k
theorem nf_topR {p1 p2 : nf_Pos} (e : p1 = p2) (k : nf_V L d cc own nL ret r S2 pc ls (.ref (L.2.2 p2) :: st) S) : nf_V L d cc own nL ret r S2 pc ls (.ref (L.2.2 p1) :: st) S := by rw [e]; exact k
theorem nf_from {S' : nf_S} (e : S = S') (k : nf_V L d cc own nL ret r S2 pc ls st S') : nf_V L d cc own nL ret r S2 pc ls st S := by rw [e]; exact k
theorem nf_iincP0 {tl : List (Option Value)} {x : Int32} (dg : decode cc pc = .ok (.iinc 0 1, 3)) (hn : 0 < nL) (k : nf_V L d cc own nL ret r S2 (pc + 3) (some (.int (x + 1)) :: tl) st S) : nf_V L d cc own nL ret r S2 pc (some (.int x) :: tl) st S := nf_iinc0 dg (by rw [lit1]) hn k
theorem nf_iincP1 {o0 : Option Value} {tl : List (Option Value)} {x : Int32} (dg : decode cc pc = .ok (.iinc 1 1, 3)) (hc1 : nf_c1 o0 = true) (hn : 1 < nL) (k : nf_V L d cc own nL ret r S2 (pc + 3) (o0 :: some (.int (x + 1)) :: tl) st S) : nf_V L d cc own nL ret r S2 pc (o0 :: some (.int x) :: tl) st S := nf_iinc1 dg (by rw [lit1]) hc1 hn k
theorem nf_iincP2 {o0 o1 : Option Value} {tl : List (Option Value)} {x : Int32} (dg : decode cc pc = .ok (.iinc 2 1, 3)) (hc1 : nf_c1 o1 = true) (hn : 2 < nL) (k : nf_V L d cc own nL ret r S2 (pc + 3) (o0 :: o1 :: some (.int (x + 1)) :: tl) st S) : nf_V L d cc own nL ret r S2 pc (o0 :: o1 :: some (.int x) :: tl) st S := nf_iinc2 dg (by rw [lit1]) hc1 hn k
theorem nf_iincP3 {o0 o1 o2 : Option Value} {tl : List (Option Value)} {x : Int32} (dg : decode cc pc = .ok (.iinc 3 1, 3)) (hc1 : nf_c1 o2 = true) (hn : 3 < nL) (k : nf_V L d cc own nL ret r S2 (pc + 3) (o0 :: o1 :: o2 :: some (.int (x + 1)) :: tl) st S) : nf_V L d cc own nL ret r S2 pc (o0 :: o1 :: o2 :: some (.int x) :: tl) st S := nf_iinc3 dg (by rw [lit1]) hc1 hn k
theorem nf_iincP4 {o0 o1 o2 o3 : Option Value} {tl : List (Option Value)} {x : Int32} (dg : decode cc pc = .ok (.iinc 4 1, 3)) (hc1 : nf_c1 o3 = true) (hn : 4 < nL) (k : nf_V L d cc own nL ret r S2 (pc + 3) (o0 :: o1 :: o2 :: o3 :: some (.int (x + 1)) :: tl) st S) : nf_V L d cc own nL ret r S2 pc (o0 :: o1 :: o2 :: o3 :: some (.int x) :: tl) st S := nf_iinc4 dg (by rw [lit1]) hc1 hn k
theorem nf_iincP5 {o0 o1 o2 o3 o4 : Option Value} {tl : List (Option Value)} {x : Int32} (dg : decode cc pc = .ok (.iinc 5 1, 3)) (hc1 : nf_c1 o4 = true) (hn : 5 < nL) (k : nf_V L d cc own nL ret r S2 (pc + 3) (o0 :: o1 :: o2 :: o3 :: o4 :: some (.int (x + 1)) :: tl) st S) : nf_V L d cc own nL ret r S2 pc (o0 :: o1 :: o2 :: o3 :: o4 :: some (.int x) :: tl) st S := nf_iinc5 dg (by rw [lit1]) hc1 hn k
theorem nf_iincP6 {o0 o1 o2 o3 o4 o5 : Option Value} {tl : List (Option Value)} {x : Int32} (dg : decode cc pc = .ok (.iinc 6 1, 3)) (hc1 : nf_c1 o5 = true) (hn : 6 < nL) (k : nf_V L d cc own nL ret r S2 (pc + 3) (o0 :: o1 :: o2 :: o3 :: o4 :: o5 :: some (.int (x + 1)) :: tl) st S) : nf_V L d cc own nL ret r S2 pc (o0 :: o1 :: o2 :: o3 :: o4 :: o5 :: some (.int x) :: tl) st S := nf_iinc6 dg (by rw [lit1]) hc1 hn k
theorem nf_iincP7 {o0 o1 o2 o3 o4 o5 o6 : Option Value} {tl : List (Option Value)} {x : Int32} (dg : decode cc pc = .ok (.iinc 7 1, 3)) (hc1 : nf_c1 o6 = true) (hn : 7 < nL) (k : nf_V L d cc own nL ret r S2 (pc + 3) (o0 :: o1 :: o2 :: o3 :: o4 :: o5 :: o6 :: some (.int (x + 1)) :: tl) st S) : nf_V L d cc own nL ret r S2 pc (o0 :: o1 :: o2 :: o3 :: o4 :: o5 :: o6 :: some (.int x) :: tl) st S := nf_iinc7 dg (by rw [lit1]) hc1 hn k
theorem nf_iincP8 {o0 o1 o2 o3 o4 o5 o6 o7 : Option Value} {tl : List (Option Value)} {x : Int32} (dg : decode cc pc = .ok (.iinc 8 1, 3)) (hc1 : nf_c1 o7 = true) (hn : 8 < nL) (k : nf_V L d cc own nL ret r S2 (pc + 3) (o0 :: o1 :: o2 :: o3 :: o4 :: o5 :: o6 :: o7 :: some (.int (x + 1)) :: tl) st S) : nf_V L d cc own nL ret r S2 pc (o0 :: o1 :: o2 :: o3 :: o4 :: o5 :: o6 :: o7 :: some (.int x) :: tl) st S := nf_iinc8 dg (by rw [lit1]) hc1 hn k
theorem nf_iincP9 {o0 o1 o2 o3 o4 o5 o6 o7 o8 : Option Value} {tl : List (Option Value)} {x : Int32} (dg : decode cc pc = .ok (.iinc 9 1, 3)) (hc1 : nf_c1 o8 = true) (hn : 9 < nL) (k : nf_V L d cc own nL ret r S2 (pc + 3) (o0 :: o1 :: o2 :: o3 :: o4 :: o5 :: o6 :: o7 :: o8 :: some (.int (x + 1)) :: tl) st S) : nf_V L d cc own nL ret r S2 pc (o0 :: o1 :: o2 :: o3 :: o4 :: o5 :: o6 :: o7 :: o8 :: some (.int x) :: tl) st S := nf_iinc9 dg (by rw [lit1]) hc1 hn k
theorem nf_b0 (b : Bool) : nf_b b = 0 ↔ b = false := by cases b <;> decide
theorem nf_if_eqB {off : Int} {b : Bool} (tgt : Nat) (dg : decode cc pc = .ok (.ifCond .eq off, 3)) (ht : (pc : Int) + off = (tgt : Int)) (kt : b = false → nf_V L d cc own nL ret r S2 tgt ls st S) (kf : b = true → nf_V L d cc own nL ret r S2 (pc + 3) ls st S) : nf_V L d cc own nL ret r S2 pc ls (.int (nf_b b) :: st) S :=
  nf_if_eq tgt dg ht (fun h => kt ((nf_b0 b).mp h)) (fun h => kf (by cases b with | true => rfl | false => exact absurd rfl h))
theorem nf_if_neB {off : Int} {b : Bool} (tgt : Nat) (dg : decode cc pc = .ok (.ifCond .ne off, 3)) (ht : (pc : Int) + off = (tgt : Int)) (kt : b = true → nf_V L d cc own nL ret r S2 tgt ls st S) (kf : b = false → nf_V L d cc own nL ret r S2 (pc + 3) ls st S) : nf_V L d cc own nL ret r S2 pc ls (.int (nf_b b) :: st) S :=
  nf_if_ne tgt dg ht (fun h => kt (by cases b with | true => rfl | false => exact absurd rfl h)) (fun h => kf ((nf_b0 b).mp h))
end NfBase
