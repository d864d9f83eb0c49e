/-! bits (the first rows are the kit family "Int32 by its bits", pasted) -/
def bt (x : Int32) (i : Nat) : Bool := x.toBitVec.getLsbD i
theorem b_ext {x y : Int32} (h : ∀ i, i < 32 → bt x i = bt y i) : x = y := Int32.toBitVec_inj.mp (BitVec.eq_of_getLsbD_eq (fun i hi => h i hi))
theorem b_or (x y : Int32) (i : Nat) : bt (x ||| y) i = (bt x i || bt y i) := by unfold bt; rw [Int32.toBitVec_or, BitVec.getLsbD_or]
theorem b_and (x y : Int32) (i : Nat) : bt (x &&& y) i = (bt x i && bt y i) := by unfold bt; rw [Int32.toBitVec_and, BitVec.getLsbD_and]
theorem b_xor (x y : Int32) (i : Nat) : bt (x ^^^ y) i = (bt x i ^^ bt y i) := by unfold bt; rw [Int32.toBitVec_xor, BitVec.getLsbD_xor]
theorem b_big {x : Int32} {i : Nat} (h : 32 ≤ i) : bt x i = false := BitVec.getLsbD_of_ge _ _ h
theorem b_255 (i : Nat) : bt 255 i = decide (i < 8) := by
  rcases Nat.lt_or_ge i 32 with h | h
  · exact (by decide +kernel : ∀ i, i < 32 → bt 255 i = decide (i < 8)) i h
  · rw [b_big h, decide_eq_false (by omega)]
theorem b_65535 (i : Nat) : bt 65535 i = decide (i < 16) := by
  rcases Nat.lt_or_ge i 32 with h | h
  · exact (by decide +kernel : ∀ i, i < 32 → bt 65535 i = decide (i < 16)) i h
  · rw [b_big h, decide_eq_false (by omega)]
theorem b_m1 : ∀ i, i < 32 → bt (-1) i = true := by decide +kernel
theorem b_0 (i : Nat) : bt 0 i = false := BitVec.getLsbD_zero
theorem s_l : ∀ n, n < 32 → ((nI n &&& 31).toBitVec.smod 32).toNat = n := by decide +kernel
theorem s_u : ∀ n, n < 32 → (((nI n).toUInt32 &&& Int32.toUInt32 31).toBitVec % 32).toNat = n := by decide +kernel
theorem b_shl (n : Nat) (hn : n < 32) (x : Int32) {i : Nat} (hi : i < 32) : bt (x <<< (nI n &&& 31)) i = (decide (n ≤ i) && bt x (i - n)) := by
  unfold bt
  rw [Int32.toBitVec_shiftLeft]
  show (x.toBitVec <<< ((nI n &&& 31).toBitVec.smod 32).toNat).getLsbD i = _
  rw [s_l n hn, BitVec.getLsbD_shiftLeft]
  rcases Nat.lt_or_ge i n with h | h
  · simp [h, Nat.not_le.mpr h]
  · simp [hi, h, Nat.not_lt.mpr h]
theorem b_ushr (n : Nat) (hn : n < 32) (x : Int32) (i : Nat) : bt ((x.toUInt32 >>> ((nI n).toUInt32 &&& Int32.toUInt32 31)).toInt32) i = bt x (n + i) := by
  show (x.toUInt32 >>> ((nI n).toUInt32 &&& Int32.toUInt32 31)).toBitVec.getLsbD i = x.toUInt32.toBitVec.getLsbD (n + i)
  rw [UInt32.toBitVec_shiftRight]
  show (x.toUInt32.toBitVec >>> (((nI n).toUInt32 &&& Int32.toUInt32 31).toBitVec % 32).toNat).getLsbD i = _
  rw [s_u n hn, BitVec.getLsbD_ushiftRight]
theorem b_sshr (n : Nat) (hn : n < 32) (x : Int32) {i : Nat} (hi : i < 32) : bt (x >>> (nI n &&& 31)) i = if n + i < 32 then bt x (n + i) else bt x 31 := by
  unfold bt
  rw [Int32.toBitVec_shiftRight]
  show (x.toBitVec.sshiftRight ((nI n &&& 31).toBitVec.smod 32).toNat).getLsbD i = _
  rw [s_l n hn, BitVec.getLsbD_sshiftRight, BitVec.msb_eq_getLsbD_last]
  simp [hi]
theorem nx_and (a b : Nat) : nI a &&& nI b = nI (a &&& b) := by
  apply Int32.toBitVec_inj.1
  show BitVec.ofNat 32 a &&& BitVec.ofNat 32 b = BitVec.ofNat 32 (a &&& b)
  apply BitVec.eq_of_getLsbD_eq
  intro i hi
  simp [hi]
theorem nx_or (a b : Nat) : nI a ||| nI b = nI (a ||| b) := by
  apply Int32.toBitVec_inj.1
  show BitVec.ofNat 32 a ||| BitVec.ofNat 32 b = BitVec.ofNat 32 (a ||| b)
  apply BitVec.eq_of_getLsbD_eq
  intro i hi
  simp [hi]
theorem bt_nI (x : Nat) {i : Nat} (hi : i < 32) : bt (nI x) i = x.testBit i := by
  show (BitVec.ofNat 32 x).getLsbD i = _
  rw [BitVec.getLsbD_ofNat, decide_eq_true hi, Bool.true_and]
theorem bt_of32 (x : Int32) : ∃ n, n < 2 ^ 32 ∧ x = nI n := ⟨x.toBitVec.toNat, x.toBitVec.isLt, by
  apply Int32.toBitVec_inj.1
  show x.toBitVec = BitVec.ofNat 32 x.toBitVec.toNat
  simp⟩
/-- a shift's amount is a number below 32 -/
theorem bt_amt (m : Int32) : ∃ k, k < 32 ∧ m &&& 31 = nI k &&& 31 := by
  obtain ⟨n, _, rfl⟩ := bt_of32 m
  refine ⟨n &&& 31, ?_, ?_⟩
  · have : n &&& 31 ≤ 31 := Nat.and_le_right
    omega
  · show nI n &&& nI 31 = nI (n &&& 31) &&& nI 31
    rw [nx_and, nx_and, Nat.and_assoc, Nat.and_self]
theorem bt_1 (i : Nat) : bt 1 i = decide (i = 0) := by
  rcases Nat.lt_or_ge i 32 with h | h
  · exact (by decide +kernel : ∀ i, i < 32 → bt 1 i = decide (i = 0)) i h
  · rw [b_big h, decide_eq_false (by omega)]
theorem bt_bit {k : Nat} (hk : k < 32) {i : Nat} (hi : i < 32) : bt ((1 : Int32) <<< (nI k &&& 31)) i = decide (i = k) := by
  rw [b_shl k hk 1 hi, bt_1]
  by_cases h : i = k
  · subst h; simp
  · by_cases h2 : k ≤ i
    · have : ¬ i - k = 0 := by omega
      simp [h, this]
    · simp [h2, h]
theorem cf_bit_bt {k : Nat} (hk : k < 32) {i : Nat} (hi : i < 32) : bt (cf_bit (nI k)) i = decide (i = k) := bt_bit hk hi
theorem has_amt {s m : Int32} {k : Nat} (hk : k < 32) (e : m &&& 31 = nI k &&& 31) : cf_has s m = bt s k := by
  unfold cf_has
  rw [e]
  cases hb : bt s k with
  | true =>
    have : ¬ (s &&& (1 : Int32) <<< (nI k &&& 31)) = 0 := fun h => by
      have h1 : bt (s &&& (1 : Int32) <<< (nI k &&& 31)) k = bt 0 k := by rw [h]
      rw [b_and, bt_bit hk hk, b_0, hb] at h1
      simp at h1
    simp [this]
  | false =>
    have : (s &&& (1 : Int32) <<< (nI k &&& 31)) = 0 := b_ext (fun i hi => by
      rw [b_and, bt_bit hk hi, b_0]
      by_cases h : i = k
      · subst h; simp [hb]
      · simp [h])
    simp [this]
theorem shr_amt {s m : Int32} {k : Nat} (hk : k < 32) (e : m &&& 31 = nI k &&& 31) : (s >>> (m &&& 31)) &&& 1 = if bt s k = true then 1 else 0 := by
  rw [e]
  apply b_ext
  intro i hi
  rw [b_and, b_sshr k hk s hi, bt_1]
  by_cases h : i = 0
  · subst h
    simp only [Nat.add_zero, hk, if_true, decide_true, Bool.and_true]
    cases hb : bt s k with
    | true => simp; rw [bt_1]; rfl
    | false => simp; rw [b_0]
  · simp only [h, decide_false, Bool.and_false]
    split
    · rw [bt_1]; simp [h]
    · rw [b_0]
/-- the class's test of a bit and the reference's -/
theorem has_tst (s m : Int32) : cf_has s m = mf_tst s m := by
  obtain ⟨k, hk, e⟩ := bt_amt m
  rw [has_amt hk e]
  unfold mf_tst
  rw [shr_amt hk e]
  cases bt s k <;> decide
theorem tst_iff (s m : Int32) : ((s >>> (m &&& 31)) &&& 1 = 1) ↔ cf_has s m = true := by
  rw [has_tst]; simp [mf_tst]
theorem tst0_iff (s m : Int32) : ((s >>> (m &&& 31)) &&& 1 = 0) ↔ cf_has s m = false := by
  obtain ⟨k, hk, e⟩ := bt_amt m
  rw [has_amt hk e, shr_amt hk e]
  cases bt s k <;> decide
theorem has_I (s : Int32) {k : Nat} (hk : k < 32) : cf_has s (nI k) = bt s k := has_amt hk rfl
theorem and_m1 (x : Int32) : x &&& -1 = x := b_ext (fun i hi => by rw [b_and, b_m1 i hi, Bool.and_true])
theorem bt_drop (x : Int32) {k : Nat} (hk : k < 32) {i : Nat} (hi : i < 32) : bt (x &&& (cf_bit (nI k) ^^^ -1)) i = (bt x i && !decide (i = k)) := by
  rw [b_and, b_xor, cf_bit_bt hk hi, b_m1 i hi]
  cases bt x i <;> simp
theorem bt_keep (x : Int32) {k : Nat} (hk : k < 32) {i : Nat} (hi : i < 32) : bt (x ||| cf_bit (nI k)) i = (bt x i || decide (i = k)) := by
  rw [b_or, cf_bit_bt hk hi]
/-- a set with members below n only is a small number -/
theorem bt_small {x : Int32} {n : Nat} (hn : n ≤ 31) (h : ∀ i, n ≤ i → i < 32 → bt x i = false) : ∃ y, y < 2 ^ n ∧ x = nI y := by
  obtain ⟨y, hy, rfl⟩ := bt_of32 x
  refine ⟨y, ?_, rfl⟩
  apply Nat.lt_pow_two_of_testBit
  intro i hi
  rcases Nat.lt_or_ge i 32 with h2 | h2
  · rw [← bt_nI y h2]; exact h i hi h2
  · exact Nat.testBit_lt_two_pow (Nat.lt_of_lt_of_le hy (Nat.pow_le_pow_right (by decide) h2))
theorem bt_of_small {y n : Nat} (hy : y < 2 ^ n) {i : Nat} (h1 : n ≤ i) (h2 : i < 32) : bt (nI y) i = false := by
  rw [bt_nI y h2]
  exact Nat.testBit_lt_two_pow (Nat.lt_of_lt_of_le hy (Nat.pow_le_pow_right (by decide) h1))
theorem nI_inj {a b : Nat} (ha : a < 2 ^ 31) (hb : b < 2 ^ 31) (h : nI a = nI b) : a = b := by
  have h1 := nI_clamp ha
  have h2 := nI_clamp hb
  rw [h] at h1
  exact h1.symm.trans h2
theorem nI_ne_m1 {a : Nat} (ha : a < 2 ^ 31) : ¬ nI a = -1 := fun h => by
  have h1 := nI_toInt ha
  rw [h, show (-1 : Int32).toInt = -1 from by decide] at h1
  omega
/-- shifting a number down -/
theorem nI_shr {v k : Nat} (hv : v < 2 ^ 31) (hk : k < 32) : nI v >>> (nI k &&& 31) = nI (v / 2 ^ k) := by
  apply Int32.toInt_inj.mp
  have hd : v / 2 ^ k < 2 ^ 31 := Nat.lt_of_le_of_lt (Nat.div_le_self _ _) hv
  rw [nI_toInt hd]
  show ((nI v).toBitVec.sshiftRight ((nI k &&& 31).toBitVec.smod 32).toNat).toInt = _
  rw [s_l k hk, BitVec.toInt_sshiftRight]
  show (nI v).toInt >>> k = _
  rw [nI_toInt hv, Int.shiftRight_eq_div_pow]
  norm_cast
def pq_n (a s t p : Nat) : Nat := ((a * 8 + s) * 8 + t) * 64 + p
theorem or_add {x b i : Nat} (hb : b < 2 ^ i) : 2 ^ i * x ||| b = 2 ^ i * x + b := (Nat.two_pow_add_eq_or_of_lt hb x).symm
theorem sh12 : ∀ a, a < 30 → nI a <<< (12 &&& 31) = nI (4096 * a) := by decide +kernel
theorem sh9 : ∀ a, a < 8 → nI a <<< (9 &&& 31) = nI (512 * a) := by decide +kernel
theorem sh6 : ∀ a, a < 8 → nI a <<< (6 &&& 31) = nI (64 * a) := by decide +kernel
theorem pq_eq {a s t p : Nat} (ha : a < 30) (hs : s < 6) (ht : t < 6) (hp : p < 64) : mf_pack a s t (nI p) = nI (pq_n a s t p) := by
  unfold mf_pack pq_n
  rw [sh12 a ha, sh9 s (by omega), sh6 t (by omega), nx_or, nx_or, nx_or]
  congr 1
  have e1 : 4096 * a ||| 512 * s = 2 ^ 9 * (a * 8 + s) := by
    have h := or_add (x := a) (b := 512 * s) (i := 12) (by omega)
    rw [show 2 ^ 12 * a = 4096 * a by omega] at h
    rw [h]; omega
  rw [e1]
  have e2 : 2 ^ 9 * (a * 8 + s) ||| 64 * t = 2 ^ 6 * ((a * 8 + s) * 8 + t) := by
    rw [or_add (by omega)]; omega
  rw [e2, or_add (by omega)]; omega
theorem pq_lt {a s t p : Nat} (ha : a < 30) (hs : s < 6) (ht : t < 6) (hp : p < 64) : pq_n a s t p < 2 ^ 31 := by unfold pq_n; omega
theorem pq_12 {a s t p : Nat} (ha : a < 30) (hs : s < 6) (ht : t < 6) (hp : p < 64) : mf_pack a s t (nI p) >>> (12 &&& 31) = nI a := by
  rw [pq_eq ha hs ht hp]
  have h := nI_shr (k := 12) (pq_lt ha hs ht hp) (by decide)
  rw [show ((12 : Int32)) = nI 12 from rfl, h]
  congr 1; unfold pq_n; omega
theorem pq_6 {a s t p : Nat} (ha : a < 30) (hs : s < 6) (ht : t < 6) (hp : p < 64) : mf_pack a s t (nI p) >>> (6 &&& 31) = nI ((a * 8 + s) * 8 + t) := by
  rw [pq_eq ha hs ht hp]
  have h := nI_shr (k := 6) (pq_lt ha hs ht hp) (by decide)
  rw [show ((6 : Int32)) = nI 6 from rfl, h]
  congr 1; unfold pq_n; omega
theorem pq_9 {a s t p : Nat} (ha : a < 30) (hs : s < 6) (ht : t < 6) (hp : p < 64) : mf_pack a s t (nI p) >>> (9 &&& 31) = nI (a * 8 + s) := by
  rw [pq_eq ha hs ht hp]
  have h := nI_shr (k := 9) (pq_lt ha hs ht hp) (by decide)
  rw [show ((9 : Int32)) = nI 9 from rfl, h]
  congr 1; unfold pq_n; omega
theorem and7 (x : Nat) : nI x &&& 7 = nI (x % 8) := by
  show nI x &&& nI 7 = _
  rw [nx_and, show 7 = 2 ^ 3 - 1 from rfl, Nat.and_two_pow_sub_one_eq_mod]
theorem pq_t {a s t p : Nat} (ha : a < 30) (hs : s < 6) (ht : t < 6) (hp : p < 64) : (mf_pack a s t (nI p) >>> (6 &&& 31)) &&& 7 = nI t := by
  rw [pq_6 ha hs ht hp, and7]; congr 1; omega
theorem pq_s {a s t p : Nat} (ha : a < 30) (hs : s < 6) (ht : t < 6) (hp : p < 64) : (mf_pack a s t (nI p) >>> (9 &&& 31)) &&& 7 = nI s := by
  rw [pq_9 ha hs ht hp, and7]; congr 1; omega
theorem pq_p {a s t p : Nat} (ha : a < 30) (hs : s < 6) (ht : t < 6) (hp : p < 64) : mf_pack a s t (nI p) &&& 63 = nI p := by
  rw [pq_eq ha hs ht hp]
  show nI _ &&& nI 63 = _
  rw [nx_and, show 63 = 2 ^ 6 - 1 from rfl, Nat.and_two_pow_sub_one_eq_mod]
  congr 1; unfold pq_n; omega
