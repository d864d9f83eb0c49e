/-! The world of class, reference and law as ONE fixed layout: a place (kind, net, column, host) has an address; a state S is the ints and int arrays that change. -/
abbrev nf_Pos : Type := Nat × Nat × Nat × Nat
abbrev nf_L : Type := va_G × (ClassId × ClassId × ClassId) × (nf_Pos → Nat)
abbrev nf_S : Type := (Nat → Nat → Nat → Int32) × (Nat → Nat → Nat → Nat → Int32) × (Nat → Nat → Int32) × (Nat → Int32) × (Nat → Nat)
def nf_I (S : nf_S) (n c h : Nat) : Int32 := S.1 n c h
def nf_A (S : nf_S) (n c h : Nat) : Nat → Int32 := S.2.1 n c h
def nf_O (S : nf_S) (x : Nat) : Nat → Int32 := S.2.2.1 x
def nf_J (S : nf_S) (j : Nat) : Int32 := S.2.2.2.1 j
def nf_v (S : nf_S) : Nat → Nat := S.2.2.2.2
def nf_sI (S : nf_S) (n c h : Nat) (x : Int32) : nf_S := (fun n' c' h' => if n' = n ∧ c' = c ∧ h' = h then x else S.1 n' c' h', S.2)
def nf_sA (S : nf_S) (n c h : Nat) (f : Nat → Int32) : nf_S := (S.1, (fun n' c' h' => if n' = n ∧ c' = c ∧ h' = h then f else S.2.1 n' c' h'), S.2.2)
def nf_sO (S : nf_S) (x : Nat) (f : Nat → Int32) : nf_S := (S.1, S.2.1, (fun x' => if x' = x then f else S.2.2.1 x'), S.2.2.2)
def nf_sJ (S : nf_S) (j : Nat) (x : Int32) : nf_S := (S.1, S.2.1, S.2.2.1, (fun j' => if j' = j then x else S.2.2.2.1 j'), S.2.2.2.2)
def nf_sv (S : nf_S) (g : Nat → Nat) : nf_S := (S.1, S.2.1, S.2.2.1, S.2.2.2.1, g)
theorem nf_I_sI (S : nf_S) (n c h n' c' h' : Nat) (x : Int32) : nf_I (nf_sI S n c h x) n' c' h' = if n' = n ∧ c' = c ∧ h' = h then x else nf_I S n' c' h' := rfl
theorem nf_I_sA (S : nf_S) (n c h n' c' h' : Nat) (f : Nat → Int32) : nf_I (nf_sA S n c h f) n' c' h' = nf_I S n' c' h' := rfl
theorem nf_I_sO (S : nf_S) (x n' c' h' : Nat) (f : Nat → Int32) : nf_I (nf_sO S x f) n' c' h' = nf_I S n' c' h' := rfl
theorem nf_I_sJ (S : nf_S) (j n' c' h' : Nat) (x : Int32) : nf_I (nf_sJ S j x) n' c' h' = nf_I S n' c' h' := rfl
theorem nf_I_sv (S : nf_S) (n' c' h' : Nat) (g : Nat → Nat) : nf_I (nf_sv S g) n' c' h' = nf_I S n' c' h' := rfl
theorem nf_A_sA (S : nf_S) (n c h n' c' h' : Nat) (f : Nat → Int32) : nf_A (nf_sA S n c h f) n' c' h' = if n' = n ∧ c' = c ∧ h' = h then f else nf_A S n' c' h' := rfl
theorem nf_A_sI (S : nf_S) (n c h n' c' h' : Nat) (x : Int32) : nf_A (nf_sI S n c h x) n' c' h' = nf_A S n' c' h' := rfl
theorem nf_A_sO (S : nf_S) (x n' c' h' : Nat) (f : Nat → Int32) : nf_A (nf_sO S x f) n' c' h' = nf_A S n' c' h' := rfl
theorem nf_A_sJ (S : nf_S) (j n' c' h' : Nat) (x : Int32) : nf_A (nf_sJ S j x) n' c' h' = nf_A S n' c' h' := rfl
theorem nf_A_sv (S : nf_S) (n' c' h' : Nat) (g : Nat → Nat) : nf_A (nf_sv S g) n' c' h' = nf_A S n' c' h' := rfl
theorem nf_O_sO (S : nf_S) (x x' : Nat) (f : Nat → Int32) : nf_O (nf_sO S x f) x' = if x' = x then f else nf_O S x' := rfl
theorem nf_O_sI (S : nf_S) (n c h x' : Nat) (x : Int32) : nf_O (nf_sI S n c h x) x' = nf_O S x' := rfl
theorem nf_O_sA (S : nf_S) (n c h x' : Nat) (f : Nat → Int32) : nf_O (nf_sA S n c h f) x' = nf_O S x' := rfl
theorem nf_O_sJ (S : nf_S) (j x' : Nat) (x : Int32) : nf_O (nf_sJ S j x) x' = nf_O S x' := rfl
theorem nf_O_sv (S : nf_S) (x' : Nat) (g : Nat → Nat) : nf_O (nf_sv S g) x' = nf_O S x' := rfl
theorem nf_J_sJ (S : nf_S) (j j' : Nat) (x : Int32) : nf_J (nf_sJ S j x) j' = if j' = j then x else nf_J S j' := rfl
theorem nf_J_sI (S : nf_S) (n c h j' : Nat) (x : Int32) : nf_J (nf_sI S n c h x) j' = nf_J S j' := rfl
theorem nf_J_sA (S : nf_S) (n c h j' : Nat) (f : Nat → Int32) : nf_J (nf_sA S n c h f) j' = nf_J S j' := rfl
theorem nf_J_sO (S : nf_S) (x j' : Nat) (f : Nat → Int32) : nf_J (nf_sO S x f) j' = nf_J S j' := rfl
theorem nf_J_sv (S : nf_S) (j' : Nat) (g : Nat → Nat) : nf_J (nf_sv S g) j' = nf_J S j' := rfl
theorem nf_v_sv (S : nf_S) (g : Nat → Nat) : nf_v (nf_sv S g) = g := rfl
theorem nf_v_sI (S : nf_S) (n c h : Nat) (x : Int32) : nf_v (nf_sI S n c h x) = nf_v S := rfl
theorem nf_v_sA (S : nf_S) (n c h : Nat) (f : Nat → Int32) : nf_v (nf_sA S n c h f) = nf_v S := rfl
theorem nf_v_sO (S : nf_S) (x : Nat) (f : Nat → Int32) : nf_v (nf_sO S x f) = nf_v S := rfl
theorem nf_v_sJ (S : nf_S) (j : Nat) (x : Int32) : nf_v (nf_sJ S j x) = nf_v S := rfl
def nf_len (c : Nat) : Nat := match c with
  | 0 => 4
  | 1 => 6
  | 2 => 12
  | 3 => 12
  | 4 => 12
  | 10 => 180
  | 11 => 180
  | _ => 30
def nf_lenO (x : Nat) : Nat := match x with
  | 0 => 4
  | 1 => 1597
  | 2 => 6388
  | 3 => 4
  | _ => 1024
def nf_cell (L : nf_L) (S : nf_S) (q : nf_Pos) : va_E := match q.1 with
  | 0 => .inr (5, [.ref (L.2.2 (1, 0, 0, 0)), .ref (L.2.2 (5, 5, 0, 0)), .ref (L.2.2 (6, 0, 0, 0)), .int (nf_J S 0), .ref (L.2.2 (10, 0, 0, 0))])
  | 1 => .inr (3, [.int (nf_I S q.2.1 0 0), .int (nf_I S q.2.1 1 0), .ref (L.2.2 (9, q.2.1, 0, 0)), .ref (L.2.2 (2, q.2.1, 0, 0)), .ref (L.2.2 (3, q.2.1, 0, 0)), .ref (L.2.2 (7, q.2.1, 0, 0)), .ref (L.2.2 (5, q.2.1, 0, 0)), .ref (L.2.2 (9, q.2.1, 1, 0))])
  | 2 => .inr (2, [.int (nf_I S q.2.1 2 0), .ref (L.2.2 (9, q.2.1, 2, 0)), .ref (L.2.2 (9, q.2.1, 3, 0)), .ref (L.2.2 (9, q.2.1, 4, 0))])
  | 3 => .inr (0, [.int (nf_I S q.2.1 3 0), .ref (L.2.2 (9, q.2.1, 5, 0)), .ref (L.2.2 (9, q.2.1, 6, 0)), .ref (L.2.2 (9, q.2.1, 7, 0)), .ref (L.2.2 (9, q.2.1, 8, 0)), .ref (L.2.2 (9, q.2.1, 9, 0))])
  | 4 => .inr (1, [.int (nf_I S q.2.1 4 q.2.2.2), .int (nf_I S q.2.1 5 q.2.2.2), .ref (L.2.2 (9, q.2.1, 12, q.2.2.2)), .ref (L.2.2 (9, q.2.1, 13, q.2.2.2))])
  | 5 => .inr (4, [.ref (L.2.2 (9, q.2.1, 10, 0)), .ref (L.2.2 (9, q.2.1, 11, 0))])
  | 6 => .inl (L.2.1.2.2, 4, .inr (.inr (.inr (.inr (fun k => some (L.2.2 (1, nf_v S k, 0, 0)))))))
  | 7 => .inl (L.2.1.2.1, 6, .inr (.inr (.inr (.inr (fun k => some (L.2.2 (4, q.2.1, 0, k)))))))
  | 8 => .inr (6, [.ref (L.2.2 (10, 1, 0, 0)), .ref (L.2.2 (10, 2, 0, 0)), .int (nf_J S 1), .ref (L.2.2 (10, 3, 0, 0)), .ref (L.2.2 (10, 4, 0, 0))])
  | 9 => .inl (L.2.1.1, nf_len q.2.2.1, .inl (nf_A S q.2.1 q.2.2.1 q.2.2.2))
  | _ => .inl (L.2.1.1, nf_lenO q.2.1, .inl (nf_O S q.2.1))
def nf_ok (q : nf_Pos) : Prop := match q.1 with
  | 0 => q.2 = (0, 0, 0)
  | 1 => q.2.1 < 5 ∧ q.2.2 = (0, 0)
  | 2 => q.2.1 < 5 ∧ q.2.2 = (0, 0)
  | 3 => q.2.1 < 5 ∧ q.2.2 = (0, 0)
  | 4 => q.2.1 < 5 ∧ q.2.2.1 = 0 ∧ q.2.2.2 < 6
  | 5 => q.2.1 < 6 ∧ q.2.2 = (0, 0)
  | 6 => q.2 = (0, 0, 0)
  | 7 => q.2.1 < 5 ∧ q.2.2 = (0, 0)
  | 8 => q.2 = (0, 0, 0)
  | 9 => (q.2.1 < 5 ∧ ((q.2.2.1 < 12 ∧ q.2.2.2 = 0) ∨ ((q.2.2.1 = 12 ∨ q.2.2.1 = 13) ∧ q.2.2.2 < 6))) ∨ (q.2.1 = 5 ∧ (q.2.2.1 = 10 ∨ q.2.2.1 = 11) ∧ q.2.2.2 = 0)
  | 10 => q.2.1 < 5 ∧ q.2.2 = (0, 0)
  | _ => False
def nf_H (L : nf_L) (S : nf_S) (H : Heap) : Prop := ∀ q : nf_Pos, nf_ok q → va_at L.1 vwCl (L.2.2 q, nf_cell L S q) H
def nf_inj (L : nf_L) : Prop := ∀ p q : nf_Pos, nf_ok p → nf_ok q → L.2.2 p = L.2.2 q → p = q
def nf_Ad (L : nf_L) : Nat → Prop := fun a => ∃ q, nf_ok q ∧ a = L.2.2 q
def nf_tys (L : nf_L) : List (ClassId × FieldType) := [(L.2.1.1, .int), (L.2.1.2.1, .object RX1), (L.2.1.2.2, .object RX3)]
def nf_tbl : List Cond := lw_tbl.filter goodWord
def nf_nw : List Cond := [.methodLinkNest RX2 29 yX5_isBelow RX5, .methodLinkNest RX1 31 yX5_has RX5, .methodLinkNest RX2 25 yX5_has RX5, .methodLinkNest RX3 131 yX5_has RX5]
def nf_nest (U : State) : Prop := ∀ w ∈ nf_nw, va_Nw w U
theorem nf_nest.warm {s U : State} (hW : s.WarmedH U.vm) (h : nf_nest s) : nf_nest U := by
  intro w hw
  have h1 := h w hw
  simp only [nf_nw, List.mem_cons, List.not_mem_nil, or_false] at hw
  rcases hw with rfl | rfl | rfl | rfl <;> exact va_Nw.warmM hW h1
def nf_K (L : nf_L) (U : State) : Prop := va_K L.1 vwCl (nf_tys L) U ∧ nf_nest U
theorem nf_K.warm {L : nf_L} {s U : State} (hW : s.WarmedH U.vm) (h : nf_K L s) : nf_K L U := ⟨va_K.moved hW.alike h.1, nf_nest.warm hW h.2⟩
def nf_Pc (L : nf_L) (as : List Value) (S : nf_S) : Array Value → State → Prop := fun v U => v = as.toArray ∧ nf_inj L ∧ nf_H L S U.heap ∧ nf_K L U
def nf_Qc (L : nf_L) (r : Option Value) (S2 : nf_S) : Array Value → State → Outcome → State → Prop := fun _ st oc t => oc = .returned r ∧ nf_H L S2 t.heap ∧ va_F (nf_Ad L) st t
def nf_rm (d : Nat) : Room := { frames := d, cells := 0, slots := 0, locals := 40 * d }
def nf_ws (y : MethodName) (cc : ByteArray) (nL : Nat) (ret : Option FieldType) : List Cond := Cond.code y cc nL ret :: nf_tbl
/-- method y's contract: at S with these arguments it returns r, and leaves S2 -/
def nf_Sp (L : nf_L) (d : Nat) (y : MethodName) (cc : ByteArray) (nL : Nat) (ret : Option FieldType) (as : List Value) (S : nf_S) (r : Option Value) (S2 : nf_S) : Prop :=
  ∀ l : Launch, Met l y (nf_ws y cc nL ret) (nf_rm d) (nf_Pc L as S) (nf_Qc L r S2) 0 0 (nf_Ad L)
def nf_Cx (p : Program) (s : State) (m : MethodId) (args : Array Value) (meth : Method) (c : Code) (L : nf_L) (cc : ByteArray) (own : String) (nL : Nat) (ret : Option FieldType) : Prop :=
  p.tables.exec = Jvm.exec ∧ c.code = cc ∧ meth.sig.returnType = ret ∧ c.maxLocals = nL ∧ s.vm.findClass own = some m.cls ∧ (∀ w ∈ nf_tbl, w.before args s = true) ∧ meth.locks = false ∧ nf_inj L ∧ nf_K L s
def nf_Hp (L : nf_L) (S : nf_S) (s : State) (H : Heap) (locs : List Loc) : Prop := nf_H L S H ∧ va_S (nf_Ad L) s.heap H locs
def nf_prs : Nat → List (Option Value) → List (Nat × Value)
  | _, [] => []
  | i, none :: t => nf_prs (i + 1) t
  | i, some v :: t => (i, v) :: nf_prs (i + 1) t
theorem nf_prs_mem : ∀ (ls : List (Option Value)) (i : Nat) (q : Nat × Value), q ∈ nf_prs i ls ↔ ∃ j, q.1 = i + j ∧ ls[j]? = some (some q.2) := by
  intro ls
  induction ls with
  | nil => intro i q; simp [nf_prs]
  | cons a t ih =>
    intro i q
    cases a with
    | none =>
      simp only [nf_prs, ih]
      constructor
      · rintro ⟨j, h1, h2⟩
        exact ⟨j + 1, by omega, by simpa using h2⟩
      · rintro ⟨j, h1, h2⟩
        cases j with
        | zero => simp at h2
        | succ j => exact ⟨j, by omega, by simpa using h2⟩
    | some v =>
      simp only [nf_prs, List.mem_cons, ih]
      constructor
      · rintro (rfl | ⟨j, h1, h2⟩)
        · exact ⟨0, by simp, by simp⟩
        · exact ⟨j + 1, by omega, by simpa using h2⟩
      · rintro ⟨j, h1, h2⟩
        cases j with
        | zero =>
          left
          obtain ⟨a, b⟩ := q
          simp at h1 h2
          rw [h1, h2]
        | succ j => exact Or.inr ⟨j, by omega, by simpa using h2⟩
def nf_lh (la : Array Slot) (nL : Nat) (ls : List (Option Value)) : Prop := lv_has la nL (nf_prs 0 ls)
theorem nf_lh.at {la : Array Slot} {nL : Nat} {ls : List (Option Value)} (h : nf_lh la nL ls) {i : Nat} {v : Value} (hi : ls[i]? = some (some v)) : la[i]? = some (.val v) :=
  h.2.2 (i, v) ((nf_prs_mem ls 0 (i, v)).mpr ⟨i, by simp, hi⟩)
theorem nf_lh.of {la : Array Slot} {nL : Nat} {ls : List (Option Value)} {l : List (Nat × Value)} (h : lv_has la nL l) (hs : ∀ i v, ls[i]? = some (some v) → (i, v) ∈ l) : nf_lh la nL ls := by
  refine ⟨h.1, h.2.1, fun q hq => ?_⟩
  obtain ⟨j, h1, h2⟩ := (nf_prs_mem ls 0 q).mp hq
  have h3 : q.1 = j := by omega
  exact h.2.2 q (by have := hs j q.2 h2; rw [← h3] at this; exact this)
def nf_c1 (o : Option Value) : Bool := match o with
  | some v => v.category == 1
  | none => true
/-- behind a store of one word at i -/
theorem nf_lh.st1 {la : Array Slot} {nL i : Nat} {v : Value} {ls : List (Option Value)} (h2 : ∀ o, ls[i - 1]? = some o → 0 < i → nf_c1 o = true) (hl : i < ls.length)
    (h : lv_has la nL ((i, v) :: (nf_prs 0 ls).filter (fun q => !(q.1 == i) && !(q.1 + 1 == i && q.2.category == 2)))) : nf_lh la nL (ls.set i (some v)) := by
  refine nf_lh.of h ?_
  intro j u hj
  rw [List.getElem?_set] at hj
  by_cases hij : i = j
  · subst hij
    simp [hl] at hj
    subst hj
    exact List.mem_cons_self
  · rw [if_neg hij] at hj
    refine List.mem_cons_of_mem _ (List.mem_filter.mpr ⟨(nf_prs_mem ls 0 (j, u)).mpr ⟨j, by simp, hj⟩, ?_⟩)
    have h3 : ¬ (j = i) := fun e => hij e.symm
    simp only [Bool.and_eq_true, Bool.not_eq_true', beq_eq_false_iff_ne, ne_eq, h3, not_false_eq_true, true_and, Bool.and_eq_false_iff]
    by_cases h4 : j + 1 = i
    · have h5 := h2 (some u) (by rw [show i - 1 = j by omega]; exact hj) (by omega)
      right
      simp only [nf_c1, beq_iff_eq] at h5
      simp [h5]
    · left; exact h4
/-- behind a store of two words at i -/
theorem nf_lh.st2 {la : Array Slot} {nL i : Nat} {v : Value} {ls : List (Option Value)} (h2 : ∀ o, ls[i - 1]? = some o → 0 < i → nf_c1 o = true) (hl : i < ls.length)
    (h : lv_has la nL ((i, v) :: (nf_prs 0 ls).filter (fun q => !(q.1 == i) && (!(q.1 == i + 1) && !(q.1 + 1 == i && q.2.category == 2))))) : nf_lh la nL ((ls.set i (some v)).set (i + 1) none) := by
  refine nf_lh.of h ?_
  intro j u hj
  rw [List.getElem?_set, List.getElem?_set] at hj
  by_cases hij1 : i + 1 = j
  · rw [if_pos hij1] at hj
    split at hj <;> simp at hj
  rw [if_neg hij1] at hj
  by_cases hij : i = j
  · subst hij
    simp [hl] at hj
    subst hj
    exact List.mem_cons_self
  · rw [if_neg hij] at hj
    refine List.mem_cons_of_mem _ (List.mem_filter.mpr ⟨(nf_prs_mem ls 0 (j, u)).mpr ⟨j, by simp, hj⟩, ?_⟩)
    have h3 : ¬ (j = i) := fun e => hij e.symm
    have h3' : ¬ (j = i + 1) := fun e => hij1 e.symm
    simp only [Bool.and_eq_true, Bool.not_eq_true', beq_eq_false_iff_ne, ne_eq, h3, h3', not_false_eq_true, true_and, Bool.and_eq_false_iff]
    by_cases h4 : j + 1 = i
    · have h5 := h2 (some u) (by rw [show i - 1 = j by omega]; exact hj) (by omega)
      right
      simp only [nf_c1, beq_iff_eq] at h5
      simp [h5]
    · left; exact h4
/-- from here the method returns r, and leaves S2 -/
def nf_V (L : nf_L) (d : Nat) (cc : ByteArray) (own : String) (nL : Nat) (ret : Option FieldType) (r : Option Value) (S2 : nf_S) (pc : Nat) (ls : List (Option Value)) (st : List Value) (S : nf_S) : Prop :=
  ∀ (p : Program) (l : Launch) (e : Env) (s : State) (m : MethodId) (args : Array Value) (below : List Frame) (meth : Method) (c : Code) (H : Heap) (locs : List Loc) (la : Array Slot),
    nf_Cx p s m args meth c L cc own nL ret → nf_Hp L S s H locs → nf_lh la nL ls →
    W p l e (nf_rm d) s m args below meth c H locs 0 0 (MQ below (nf_Qc L r S2) args s 0 0 (nf_Ad L)) (F0 m pc la st)
section NfRows
variable {L : nf_L} {d : Nat} {cc : ByteArray} {own : String} {nL : Nat} {ret : Option FieldType} {r : Option Value} {S2 : nf_S} {pc : Nat} {ls : List (Option Value)} {st : List Value} {S : nf_S}
theorem nf_iconst {n : Int} {v : Int32} (dg : decode cc pc = .ok (.iconst n, 1)) (hv : Int32.ofInt n = v) (k : nf_V L d cc own nL ret r S2 (pc + 1) ls (.int v :: st) S) : nf_V L d cc own nL ret r S2 pc ls (st) S :=
  fun p l e s m args below meth c H locs la hC hH hl => lv_iconst hC.1 hC.2.1 dg hv (k p l e s m args below meth c H locs la hC hH hl)
theorem nf_bipush {n : Int} {v : Int32} (dg : decode cc pc = .ok (.bipush n, 2)) (hv : (Int8.ofInt n).toInt32 = v) (k : nf_V L d cc own nL ret r S2 (pc + 2) ls (.int v :: st) S) : nf_V L d cc own nL ret r S2 pc ls (st) S :=
  fun p l e s m args below meth c H locs la hC hH hl => lv_bipush hC.1 hC.2.1 dg hv (k p l e s m args below meth c H locs la hC hH hl)
theorem nf_sipush {n : Int} {v : Int32} (dg : decode cc pc = .ok (.sipush n, 3)) (hv : (Int16.ofInt n).toInt32 = v) (k : nf_V L d cc own nL ret r S2 (pc + 3) ls (.int v :: st) S) : nf_V L d cc own nL ret r S2 pc ls (st) S :=
  fun p l e s m args below meth c H locs la hC hH hl => lv_sipush hC.1 hC.2.1 dg hv (k p l e s m args below meth c H locs la hC hH hl)
theorem nf_lconst {n : Fin 2} {v : Int64} (dg : decode cc pc = .ok (.lconst n, 1)) (hv : Int64.ofNat (n : Nat) = v) (k : nf_V L d cc own nL ret r S2 (pc + 1) ls (.long v :: st) S) : nf_V L d cc own nL ret r S2 pc ls (st) S :=
  fun p l e s m args below meth c H locs la hC hH hl => lv_lconst hC.1 hC.2.1 dg hv (k p l e s m args below meth c H locs la hC hH hl)
theorem nf_ldcw {n : Nat} {v : Int32} (dg : decode cc pc = .ok (.ldc_w n, 3)) (hw : Cond.constant own n v ∈ nf_tbl) (k : nf_V L d cc own nL ret r S2 (pc + 3) ls (.int v :: st) S) : nf_V L d cc own nL ret r S2 pc ls (st) S :=
  fun p l e s m args below meth c H locs la hC hH hl => lv_ldcw hC.1 hC.2.1 hC.2.2.2.2.1 (hC.2.2.2.2.2.1 _ hw) dg (k p l e s m args below meth c H locs la hC hH hl)
theorem nf_ldc2 {n : Nat} {v : Int64} (dg : decode cc pc = .ok (.ldc2_w n, 3)) (hw : Cond.constantLong own n v ∈ nf_tbl) (k : nf_V L d cc own nL ret r S2 (pc + 3) ls (.long v :: st) S) : nf_V L d cc own nL ret r S2 pc ls (st) S :=
  fun p l e s m args below meth c H locs la hC hH hl => lv_ldc2 hC.1 hC.2.1 hC.2.2.2.2.1 (hC.2.2.2.2.2.1 _ hw) dg (k p l e s m args below meth c H locs la hC hH hl)
theorem nf_iln {k0 : Fin 4} {x : Int32} (dg : decode cc pc = .ok (.iload_n k0, 1)) (hx : ls[(k0 : Nat)]? = some (some (.int x))) (k : nf_V L d cc own nL ret r S2 (pc + 1) ls (.int x :: st) S) : nf_V L d cc own nL ret r S2 pc ls (st) S :=
  fun p l e s m args below meth c H locs la hC hH hl => lv_iload_n hC.1 hC.2.1 dg rfl (hl.at hx) (k p l e s m args below meth c H locs la hC hH hl)
theorem nf_il {i : Nat} {x : Int32} (dg : decode cc pc = .ok (.iload i, 2)) (hx : ls[i]? = some (some (.int x))) (k : nf_V L d cc own nL ret r S2 (pc + 2) ls (.int x :: st) S) : nf_V L d cc own nL ret r S2 pc ls (st) S :=
  fun p l e s m args below meth c H locs la hC hH hl => lv_iload hC.1 hC.2.1 dg (hl.at hx) (k p l e s m args below meth c H locs la hC hH hl)
theorem nf_lln {k0 : Fin 4} {x : Int64} (dg : decode cc pc = .ok (.lload_n k0, 1)) (hx : ls[(k0 : Nat)]? = some (some (.long x))) (k : nf_V L d cc own nL ret r S2 (pc + 1) ls (.long x :: st) S) : nf_V L d cc own nL ret r S2 pc ls (st) S :=
  fun p l e s m args below meth c H locs la hC hH hl => lv_lload_n hC.1 hC.2.1 dg rfl (hl.at hx) (k p l e s m args below meth c H locs la hC hH hl)
theorem nf_ll {i : Nat} {x : Int64} (dg : decode cc pc = .ok (.lload i, 2)) (hx : ls[i]? = some (some (.long x))) (k : nf_V L d cc own nL ret r S2 (pc + 2) ls (.long x :: st) S) : nf_V L d cc own nL ret r S2 pc ls (st) S :=
  fun p l e s m args below meth c H locs la hC hH hl => lv_lload hC.1 hC.2.1 dg (hl.at hx) (k p l e s m args below meth c H locs la hC hH hl)
theorem nf_aln {k0 : Fin 4} {x : Nat} (dg : decode cc pc = .ok (.aload_n k0, 1)) (hx : ls[(k0 : Nat)]? = some (some (.ref x))) (k : nf_V L d cc own nL ret r S2 (pc + 1) ls (.ref x :: st) S) : nf_V L d cc own nL ret r S2 pc ls (st) S :=
  fun p l e s m args below meth c H locs la hC hH hl => lv_aload_n hC.1 hC.2.1 dg rfl (hl.at hx) (k p l e s m args below meth c H locs la hC hH hl)
theorem nf_al {i : Nat} {x : Nat} (dg : decode cc pc = .ok (.aload i, 2)) (hx : ls[i]? = some (some (.ref x))) (k : nf_V L d cc own nL ret r S2 (pc + 2) ls (.ref x :: st) S) : nf_V L d cc own nL ret r S2 pc ls (st) S :=
  fun p l e s m args below meth c H locs la hC hH hl => lv_aload hC.1 hC.2.1 dg (hl.at hx) (k p l e s m args below meth c H locs la hC hH hl)
theorem nf_iadd {x y : Int32} (dg : decode cc pc = .ok (.iadd, 1)) (k : nf_V L d cc own nL ret r S2 (pc + 1) ls (.int (x + y) :: st) S) : nf_V L d cc own nL ret r S2 pc ls (.int y :: .int x :: st) S :=
  fun p l e s m args below meth c H locs la hC hH hl => lv_iadd hC.1 hC.2.1 dg (k p l e s m args below meth c H locs la hC hH hl)
theorem nf_isub {x y : Int32} (dg : decode cc pc = .ok (.isub, 1)) (k : nf_V L d cc own nL ret r S2 (pc + 1) ls (.int (x - y) :: st) S) : nf_V L d cc own nL ret r S2 pc ls (.int y :: .int x :: st) S :=
  fun p l e s m args below meth c H locs la hC hH hl => lv_isub hC.1 hC.2.1 dg (k p l e s m args below meth c H locs la hC hH hl)
theorem nf_imul {x y : Int32} (dg : decode cc pc = .ok (.imul, 1)) (k : nf_V L d cc own nL ret r S2 (pc + 1) ls (.int (x * y) :: st) S) : nf_V L d cc own nL ret r S2 pc ls (.int y :: .int x :: st) S :=
  fun p l e s m args below meth c H locs la hC hH hl => lv_imul hC.1 hC.2.1 dg (k p l e s m args below meth c H locs la hC hH hl)
theorem nf_iand {x y : Int32} (dg : decode cc pc = .ok (.iand, 1)) (k : nf_V L d cc own nL ret r S2 (pc + 1) ls (.int (x &&& y) :: st) S) : nf_V L d cc own nL ret r S2 pc ls (.int y :: .int x :: st) S :=
  fun p l e s m args below meth c H locs la hC hH hl => lv_iand hC.1 hC.2.1 dg (k p l e s m args below meth c H locs la hC hH hl)
theorem nf_ior {x y : Int32} (dg : decode cc pc = .ok (.ior, 1)) (k : nf_V L d cc own nL ret r S2 (pc + 1) ls (.int (x ||| y) :: st) S) : nf_V L d cc own nL ret r S2 pc ls (.int y :: .int x :: st) S :=
  fun p l e s m args below meth c H locs la hC hH hl => lv_ior hC.1 hC.2.1 dg (k p l e s m args below meth c H locs la hC hH hl)
theorem nf_ixor {x y : Int32} (dg : decode cc pc = .ok (.ixor, 1)) (k : nf_V L d cc own nL ret r S2 (pc + 1) ls (.int (x ^^^ y) :: st) S) : nf_V L d cc own nL ret r S2 pc ls (.int y :: .int x :: st) S :=
  fun p l e s m args below meth c H locs la hC hH hl => lv_ixor hC.1 hC.2.1 dg (k p l e s m args below meth c H locs la hC hH hl)
theorem nf_ishl {x y : Int32} (dg : decode cc pc = .ok (.ishl, 1)) (k : nf_V L d cc own nL ret r S2 (pc + 1) ls (.int (x <<< (y &&& 31)) :: st) S) : nf_V L d cc own nL ret r S2 pc ls (.int y :: .int x :: st) S :=
  fun p l e s m args below meth c H locs la hC hH hl => lv_ishl hC.1 hC.2.1 dg (k p l e s m args below meth c H locs la hC hH hl)
theorem nf_ishr {x y : Int32} (dg : decode cc pc = .ok (.ishr, 1)) (k : nf_V L d cc own nL ret r S2 (pc + 1) ls (.int (x >>> (y &&& 31)) :: st) S) : nf_V L d cc own nL ret r S2 pc ls (.int y :: .int x :: st) S :=
  fun p l e s m args below meth c H locs la hC hH hl => lv_ishr hC.1 hC.2.1 dg (k p l e s m args below meth c H locs la hC hH hl)
theorem nf_iushr {x y v : Int32} (dg : decode cc pc = .ok (.iushr, 1)) (hv : (x.toUInt32 >>> (y.toUInt32 &&& Int32.toUInt32 31)).toInt32 = v) (k : nf_V L d cc own nL ret r S2 (pc + 1) ls (.int v :: st) S) : nf_V L d cc own nL ret r S2 pc ls (.int y :: .int x :: st) S :=
  fun p l e s m args below meth c H locs la hC hH hl => lv_iushr hC.1 hC.2.1 dg hv (k p l e s m args below meth c H locs la hC hH hl)
theorem nf_idiv {x y : Int32} (dg : decode cc pc = .ok (.idiv, 1)) (hne : ¬ y = 0) (k : nf_V L d cc own nL ret r S2 (pc + 1) ls (.int (x / y) :: st) S) : nf_V L d cc own nL ret r S2 pc ls (.int y :: .int x :: st) S :=
  fun p l e s m args below meth c H locs la hC hH hl => lv_idiv hC.1 hC.2.1 dg hne (k p l e s m args below meth c H locs la hC hH hl)
theorem nf_irem {x y : Int32} (dg : decode cc pc = .ok (.irem, 1)) (hne : ¬ y = 0) (k : nf_V L d cc own nL ret r S2 (pc + 1) ls (.int (x - x / y * y) :: st) S) : nf_V L d cc own nL ret r S2 pc ls (.int y :: .int x :: st) S :=
  fun p l e s m args below meth c H locs la hC hH hl => lv_irem hC.1 hC.2.1 dg hne (k p l e s m args below meth c H locs la hC hH hl)
theorem nf_ladd {x y : Int64} (dg : decode cc pc = .ok (.ladd, 1)) (k : nf_V L d cc own nL ret r S2 (pc + 1) ls (.long (x + y) :: st) S) : nf_V L d cc own nL ret r S2 pc ls (.long y :: .long x :: st) S :=
  fun p l e s m args below meth c H locs la hC hH hl => lv_ladd hC.1 hC.2.1 dg (k p l e s m args below meth c H locs la hC hH hl)
theorem nf_lmul {x y : Int64} (dg : decode cc pc = .ok (.lmul, 1)) (k : nf_V L d cc own nL ret r S2 (pc + 1) ls (.long (x * y) :: st) S) : nf_V L d cc own nL ret r S2 pc ls (.long y :: .long x :: st) S :=
  fun p l e s m args below meth c H locs la hC hH hl => lv_lmul hC.1 hC.2.1 dg (k p l e s m args below meth c H locs la hC hH hl)
theorem nf_i2l {x : Int32} (dg : decode cc pc = .ok (.i2l, 1)) (k : nf_V L d cc own nL ret r S2 (pc + 1) ls (.long x.toInt64 :: st) S) : nf_V L d cc own nL ret r S2 pc ls (.int x :: st) S :=
  fun p l e s m args below meth c H locs la hC hH hl => lv_i2l hC.1 hC.2.1 dg rfl (k p l e s m args below meth c H locs la hC hH hl)
theorem nf_lcmp {x y : Int64} (dg : decode cc pc = .ok (.lcmp, 1)) (k : nf_V L d cc own nL ret r S2 (pc + 1) ls (.int (lg_cmp x y) :: st) S) : nf_V L d cc own nL ret r S2 pc ls (.long y :: .long x :: st) S :=
  fun p l e s m args below meth c H locs la hC hH hl => W.lcmp hC.1 hC.2.1 dg (k p l e s m args below meth c H locs la hC hH hl)
theorem nf_dup {va : Value} (dg : decode cc pc = .ok (.dup, 1)) (hva : va.category = 1) (k : nf_V L d cc own nL ret r S2 (pc + 1) ls (va :: va :: st) S) : nf_V L d cc own nL ret r S2 pc ls (va :: st) S :=
  fun p l e s m args below meth c H locs la hC hH hl => lv_dup hC.1 hC.2.1 dg hva (k p l e s m args below meth c H locs la hC hH hl)
theorem nf_dup2 {va vb : Value} (dg : decode cc pc = .ok (.dup2, 1)) (hva : va.category = 1) (hvb : vb.category = 1) (k : nf_V L d cc own nL ret r S2 (pc + 1) ls (va :: vb :: va :: vb :: st) S) : nf_V L d cc own nL ret r S2 pc ls (va :: vb :: st) S :=
  fun p l e s m args below meth c H locs la hC hH hl => lv_dup2_11 hC.1 hC.2.1 dg hva hvb (k p l e s m args below meth c H locs la hC hH hl)
theorem nf_pop {va : Value} (dg : decode cc pc = .ok (.pop, 1)) (hva : va.category = 1) (k : nf_V L d cc own nL ret r S2 (pc + 1) ls (st) S) : nf_V L d cc own nL ret r S2 pc ls (va :: st) S :=
  fun p l e s m args below meth c H locs la hC hH hl => lv_pop hC.1 hC.2.1 dg hva (k p l e s m args below meth c H locs la hC hH hl)
theorem nf_goto {off : Int} (tgt : Nat) (dg : decode cc pc = .ok (.goto off, 3)) (ht : (pc : Int) + off = (tgt : Int)) (k : nf_V L d cc own nL ret r S2 tgt ls st S) : nf_V L d cc own nL ret r S2 pc ls st S :=
  fun p l e s m args below meth c H locs la hC hH hl => lv_goto hC.1 hC.2.1 dg ht (k p l e s m args below meth c H locs la hC hH hl)
theorem nf_if_eq {off : Int} {x : Int32} (tgt : Nat) (dg : decode cc pc = .ok (.ifCond .eq off, 3)) (ht : (pc : Int) + off = (tgt : Int)) (kt : x = 0 → nf_V L d cc own nL ret r S2 tgt ls st S) (kf : ¬ (x = 0) → nf_V L d cc own nL ret r S2 (pc + 3) ls st S) : nf_V L d cc own nL ret r S2 pc ls (.int x :: st) S :=
  fun p l e s m args below meth c H locs la hC hH hl => lv_if_eq hC.1 hC.2.1 dg ht (fun h => kt h p l e s m args below meth c H locs la hC hH hl) (fun h => kf h p l e s m args below meth c H locs la hC hH hl)
theorem nf_if_ne {off : Int} {x : Int32} (tgt : Nat) (dg : decode cc pc = .ok (.ifCond .ne off, 3)) (ht : (pc : Int) + off = (tgt : Int)) (kt : ¬ x = 0 → nf_V L d cc own nL ret r S2 tgt ls st S) (kf : x = 0 → nf_V L d cc own nL ret r S2 (pc + 3) ls st S) : nf_V L d cc own nL ret r S2 pc ls (.int x :: st) S :=
  fun p l e s m args below meth c H locs la hC hH hl => lv_if_ne hC.1 hC.2.1 dg ht (fun h => kt h p l e s m args below meth c H locs la hC hH hl) (fun h => kf h p l e s m args below meth c H locs la hC hH hl)
theorem nf_if_lt {off : Int} {x : Int32} (tgt : Nat) (dg : decode cc pc = .ok (.ifCond .lt off, 3)) (ht : (pc : Int) + off = (tgt : Int)) (kt : x < 0 → nf_V L d cc own nL ret r S2 tgt ls st S) (kf : ¬ (x < 0) → nf_V L d cc own nL ret r S2 (pc + 3) ls st S) : nf_V L d cc own nL ret r S2 pc ls (.int x :: st) S :=
  fun p l e s m args below meth c H locs la hC hH hl => lv_if_lt hC.1 hC.2.1 dg ht (fun h => kt h p l e s m args below meth c H locs la hC hH hl) (fun h => kf h p l e s m args below meth c H locs la hC hH hl)
theorem nf_if_ge {off : Int} {x : Int32} (tgt : Nat) (dg : decode cc pc = .ok (.ifCond .ge off, 3)) (ht : (pc : Int) + off = (tgt : Int)) (kt : 0 ≤ x → nf_V L d cc own nL ret r S2 tgt ls st S) (kf : ¬ (0 ≤ x) → nf_V L d cc own nL ret r S2 (pc + 3) ls st S) : nf_V L d cc own nL ret r S2 pc ls (.int x :: st) S :=
  fun p l e s m args below meth c H locs la hC hH hl => lv_if_ge hC.1 hC.2.1 dg ht (fun h => kt h p l e s m args below meth c H locs la hC hH hl) (fun h => kf h p l e s m args below meth c H locs la hC hH hl)
theorem nf_if_gt {off : Int} {x : Int32} (tgt : Nat) (dg : decode cc pc = .ok (.ifCond .gt off, 3)) (ht : (pc : Int) + off = (tgt : Int)) (kt : 0 < x → nf_V L d cc own nL ret r S2 tgt ls st S) (kf : ¬ (0 < x) → nf_V L d cc own nL ret r S2 (pc + 3) ls st S) : nf_V L d cc own nL ret r S2 pc ls (.int x :: st) S :=
  fun p l e s m args below meth c H locs la hC hH hl => lv_if_gt hC.1 hC.2.1 dg ht (fun h => kt h p l e s m args below meth c H locs la hC hH hl) (fun h => kf h p l e s m args below meth c H locs la hC hH hl)
theorem nf_if_le {off : Int} {x : Int32} (tgt : Nat) (dg : decode cc pc = .ok (.ifCond .le off, 3)) (ht : (pc : Int) + off = (tgt : Int)) (kt : x ≤ 0 → nf_V L d cc own nL ret r S2 tgt ls st S) (kf : ¬ (x ≤ 0) → nf_V L d cc own nL ret r S2 (pc + 3) ls st S) : nf_V L d cc own nL ret r S2 pc ls (.int x :: st) S :=
  fun p l e s m args below meth c H locs la hC hH hl => lv_if_le hC.1 hC.2.1 dg ht (fun h => kt h p l e s m args below meth c H locs la hC hH hl) (fun h => kf h p l e s m args below meth c H locs la hC hH hl)
theorem nf_ic_eq {off : Int} {x y : Int32} (tgt : Nat) (dg : decode cc pc = .ok (.if_icmp .eq off, 3)) (ht : (pc : Int) + off = (tgt : Int)) (kt : x = y → nf_V L d cc own nL ret r S2 tgt ls st S) (kf : ¬ (x = y) → nf_V L d cc own nL ret r S2 (pc + 3) ls st S) : nf_V L d cc own nL ret r S2 pc ls (.int y :: .int x :: st) S :=
  fun p l e s m args below meth c H locs la hC hH hl => lv_icmp_eq hC.1 hC.2.1 dg ht (fun h => kt h p l e s m args below meth c H locs la hC hH hl) (fun h => kf h p l e s m args below meth c H locs la hC hH hl)
theorem nf_ic_ne {off : Int} {x y : Int32} (tgt : Nat) (dg : decode cc pc = .ok (.if_icmp .ne off, 3)) (ht : (pc : Int) + off = (tgt : Int)) (kt : ¬ x = y → nf_V L d cc own nL ret r S2 tgt ls st S) (kf : x = y → nf_V L d cc own nL ret r S2 (pc + 3) ls st S) : nf_V L d cc own nL ret r S2 pc ls (.int y :: .int x :: st) S :=
  fun p l e s m args below meth c H locs la hC hH hl => lv_icmp_ne hC.1 hC.2.1 dg ht (fun h => kt h p l e s m args below meth c H locs la hC hH hl) (fun h => kf h p l e s m args below meth c H locs la hC hH hl)
theorem nf_ic_lt {off : Int} {x y : Int32} (tgt : Nat) (dg : decode cc pc = .ok (.if_icmp .lt off, 3)) (ht : (pc : Int) + off = (tgt : Int)) (kt : x < y → nf_V L d cc own nL ret r S2 tgt ls st S) (kf : ¬ (x < y) → nf_V L d cc own nL ret r S2 (pc + 3) ls st S) : nf_V L d cc own nL ret r S2 pc ls (.int y :: .int x :: st) S :=
  fun p l e s m args below meth c H locs la hC hH hl => lv_icmp_lt hC.1 hC.2.1 dg ht (fun h => kt h p l e s m args below meth c H locs la hC hH hl) (fun h => kf h p l e s m args below meth c H locs la hC hH hl)
theorem nf_ic_ge {off : Int} {x y : Int32} (tgt : Nat) (dg : decode cc pc = .ok (.if_icmp .ge off, 3)) (ht : (pc : Int) + off = (tgt : Int)) (kt : y ≤ x → nf_V L d cc own nL ret r S2 tgt ls st S) (kf : ¬ (y ≤ x) → nf_V L d cc own nL ret r S2 (pc + 3) ls st S) : nf_V L d cc own nL ret r S2 pc ls (.int y :: .int x :: st) S :=
  fun p l e s m args below meth c H locs la hC hH hl => lv_icmp_ge hC.1 hC.2.1 dg ht (fun h => kt h p l e s m args below meth c H locs la hC hH hl) (fun h => kf h p l e s m args below meth c H locs la hC hH hl)
theorem nf_ic_gt {off : Int} {x y : Int32} (tgt : Nat) (dg : decode cc pc = .ok (.if_icmp .gt off, 3)) (ht : (pc : Int) + off = (tgt : Int)) (kt : y < x → nf_V L d cc own nL ret r S2 tgt ls st S) (kf : ¬ (y < x) → nf_V L d cc own nL ret r S2 (pc + 3) ls st S) : nf_V L d cc own nL ret r S2 pc ls (.int y :: .int x :: st) S :=
  fun p l e s m args below meth c H locs la hC hH hl => lv_icmp_gt hC.1 hC.2.1 dg ht (fun h => kt h p l e s m args below meth c H locs la hC hH hl) (fun h => kf h p l e s m args below meth c H locs la hC hH hl)
theorem nf_ic_le {off : Int} {x y : Int32} (tgt : Nat) (dg : decode cc pc = .ok (.if_icmp .le off, 3)) (ht : (pc : Int) + off = (tgt : Int)) (kt : x ≤ y → nf_V L d cc own nL ret r S2 tgt ls st S) (kf : ¬ (x ≤ y) → nf_V L d cc own nL ret r S2 (pc + 3) ls st S) : nf_V L d cc own nL ret r S2 pc ls (.int y :: .int x :: st) S :=
  fun p l e s m args below meth c H locs la hC hH hl => lv_icmp_le hC.1 hC.2.1 dg ht (fun h => kt h p l e s m args below meth c H locs la hC hH hl) (fun h => kf h p l e s m args below meth c H locs la hC hH hl)
theorem nf_isn {k0 : Fin 4} {x : Int32} (dg : decode cc pc = .ok (.istore_n k0, 1)) (h2 : ∀ o, ls[(k0 : Nat) - 1]? = some o → 0 < (k0 : Nat) → nf_c1 o = true) (hn : (k0 : Nat) < nL) (hll : (k0 : Nat) < ls.length) (k : nf_V L d cc own nL ret r S2 (pc + 1) (ls.set (k0 : Nat) (some (.int x))) st S) : nf_V L d cc own nL ret r S2 pc ls (.int x :: st) S :=
  fun p l e s m args below meth c H locs la hC hH hl => lv_istore_n hC.1 hC.2.1 dg rfl hl hn rfl (fun la2 hl2 => k p l e s m args below meth c H locs la2 hC hH (nf_lh.st1 h2 hll hl2))
theorem nf_isg {i : Nat} {x : Int32} (dg : decode cc pc = .ok (.istore i, 2)) (h2 : ∀ o, ls[i - 1]? = some o → 0 < i → nf_c1 o = true) (hn : i < nL) (hll : i < ls.length) (k : nf_V L d cc own nL ret r S2 (pc + 2) (ls.set i (some (.int x))) st S) : nf_V L d cc own nL ret r S2 pc ls (.int x :: st) S :=
  fun p l e s m args below meth c H locs la hC hH hl => lv_istore hC.1 hC.2.1 dg hl hn rfl (fun la2 hl2 => k p l e s m args below meth c H locs la2 hC hH (nf_lh.st1 h2 hll hl2))
theorem nf_asn {k0 : Fin 4} {x : Nat} (dg : decode cc pc = .ok (.astore_n k0, 1)) (h2 : ∀ o, ls[(k0 : Nat) - 1]? = some o → 0 < (k0 : Nat) → nf_c1 o = true) (hn : (k0 : Nat) < nL) (hll : (k0 : Nat) < ls.length) (k : nf_V L d cc own nL ret r S2 (pc + 1) (ls.set (k0 : Nat) (some (.ref x))) st S) : nf_V L d cc own nL ret r S2 pc ls (.ref x :: st) S :=
  fun p l e s m args below meth c H locs la hC hH hl => lv_astore_n hC.1 hC.2.1 dg rfl hl hn rfl (fun la2 hl2 => k p l e s m args below meth c H locs la2 hC hH (nf_lh.st1 h2 hll hl2))
theorem nf_asg {i : Nat} {x : Nat} (dg : decode cc pc = .ok (.astore i, 2)) (h2 : ∀ o, ls[i - 1]? = some o → 0 < i → nf_c1 o = true) (hn : i < nL) (hll : i < ls.length) (k : nf_V L d cc own nL ret r S2 (pc + 2) (ls.set i (some (.ref x))) st S) : nf_V L d cc own nL ret r S2 pc ls (.ref x :: st) S :=
  fun p l e s m args below meth c H locs la hC hH hl => lv_astore hC.1 hC.2.1 dg hl hn rfl (fun la2 hl2 => k p l e s m args below meth c H locs la2 hC hH (nf_lh.st1 h2 hll hl2))
theorem nf_lsn {k0 : Fin 4} {x : Int64} (dg : decode cc pc = .ok (.lstore_n k0, 1)) (h2 : ∀ o, ls[(k0 : Nat) - 1]? = some o → 0 < (k0 : Nat) → nf_c1 o = true) (hn : (k0 : Nat) + 1 < nL) (hll : (k0 : Nat) < ls.length) (k : nf_V L d cc own nL ret r S2 (pc + 1) ((ls.set (k0 : Nat) (some (.long x))).set ((k0 : Nat) + 1) none) st S) : nf_V L d cc own nL ret r S2 pc ls (.long x :: st) S :=
  fun p l e s m args below meth c H locs la hC hH hl => lv_lstore_n hC.1 hC.2.1 dg rfl hl hn rfl (fun la2 hl2 => k p l e s m args below meth c H locs la2 hC hH (nf_lh.st2 h2 hll hl2))
theorem nf_lsg {i : Nat} {x : Int64} (dg : decode cc pc = .ok (.lstore i, 2)) (h2 : ∀ o, ls[i - 1]? = some o → 0 < i → nf_c1 o = true) (hn : i + 1 < nL) (hll : i < ls.length) (k : nf_V L d cc own nL ret r S2 (pc + 2) ((ls.set i (some (.long x))).set (i + 1) none) st S) : nf_V L d cc own nL ret r S2 pc ls (.long x :: st) S :=
  fun p l e s m args below meth c H locs la hC hH hl => lv_lstore hC.1 hC.2.1 dg hl hn rfl (fun la2 hl2 => k p l e s m args below meth c H locs la2 hC hH (nf_lh.st2 h2 hll hl2))
theorem nf_iincg {i : Nat} {n : Int} {x v : Int32} (dg : decode cc pc = .ok (.iinc i n, 3)) (hx : ls[i]? = some (some (.int x))) (hv : x + Int32.ofInt n = v) (h2 : ∀ o, ls[i - 1]? = some o → 0 < i → nf_c1 o = true) (hn : i < nL) (hll : i < ls.length) (k : nf_V L d cc own nL ret r S2 (pc + 3) (ls.set i (some (.int v))) st S) : nf_V L d cc own nL ret r S2 pc ls st S := by
  intro p l e s m args below meth c H locs la hC hH hl
  obtain ⟨j, hj⟩ := List.getElem?_of_mem ((nf_prs_mem ls 0 (i, .int x)).mpr ⟨i, by simp, hx⟩)
  exact lv_iinc hC.1 hC.2.1 dg hl hj hv hn rfl (fun la2 hl2 => k p l e s m args below meth c H locs la2 hC hH (nf_lh.st1 h2 hll hl2))
theorem nf_is0 {o : Option Value} {tl : List (Option Value)} {x : Int32} (dg : decode cc pc = .ok (.istore_n 0, 1)) (hn : 0 < nL) (k : nf_V L d cc own nL ret r S2 (pc + 1) (some (.int x) :: tl) st S) : nf_V L d cc own nL ret r S2 pc (o :: tl) (.int x :: st) S :=
  nf_isn (k0 := 0) (ls := o :: tl) dg (fun o _ h => absurd h (Nat.lt_irrefl 0)) hn (by show (0 : Nat) < (o :: tl).length; simp) k
theorem nf_is1 {o0 o : Option Value} {tl : List (Option Value)} {x : Int32} (dg : decode cc pc = .ok (.istore_n 1, 1)) (hc1 : nf_c1 o0 = true) (hn : 1 < nL) (k : nf_V L d cc own nL ret r S2 (pc + 1) (o0 :: some (.int x) :: tl) st S) : nf_V L d cc own nL ret r S2 pc (o0 :: o :: tl) (.int x :: st) S :=
  nf_isn (k0 := 1) (ls := o0 :: o :: tl) dg (fun o h _ => by have h9 := Option.some.inj h; rw [← h9]; exact hc1) hn (by show (1 : Nat) < (o0 :: o :: tl).length; simp) k
theorem nf_is2 {o0 o1 o : Option Value} {tl : List (Option Value)} {x : Int32} (dg : decode cc pc = .ok (.istore_n 2, 1)) (hc1 : nf_c1 o1 = true) (hn : 2 < nL) (k : nf_V L d cc own nL ret r S2 (pc + 1) (o0 :: o1 :: some (.int x) :: tl) st S) : nf_V L d cc own nL ret r S2 pc (o0 :: o1 :: o :: tl) (.int x :: st) S :=
  nf_isn (k0 := 2) (ls := o0 :: o1 :: o :: tl) dg (fun o h _ => by have h9 := Option.some.inj h; rw [← h9]; exact hc1) hn (by show (2 : Nat) < (o0 :: o1 :: o :: tl).length; simp) k
theorem nf_is3 {o0 o1 o2 o : Option Value} {tl : List (Option Value)} {x : Int32} (dg : decode cc pc = .ok (.istore_n 3, 1)) (hc1 : nf_c1 o2 = true) (hn : 3 < nL) (k : nf_V L d cc own nL ret r S2 (pc + 1) (o0 :: o1 :: o2 :: some (.int x) :: tl) st S) : nf_V L d cc own nL ret r S2 pc (o0 :: o1 :: o2 :: o :: tl) (.int x :: st) S :=
  nf_isn (k0 := 3) (ls := o0 :: o1 :: o2 :: o :: tl) dg (fun o h _ => by have h9 := Option.some.inj h; rw [← h9]; exact hc1) hn (by show (3 : Nat) < (o0 :: o1 :: o2 :: o :: tl).length; simp) k
theorem nf_is4 {o0 o1 o2 o3 o : Option Value} {tl : List (Option Value)} {x : Int32} (dg : decode cc pc = .ok (.istore 4, 2)) (hc1 : nf_c1 o3 = true) (hn : 4 < nL) (k : nf_V L d cc own nL ret r S2 (pc + 2) (o0 :: o1 :: o2 :: o3 :: some (.int x) :: tl) st S) : nf_V L d cc own nL ret r S2 pc (o0 :: o1 :: o2 :: o3 :: o :: tl) (.int x :: st) S :=
  nf_isg (ls := o0 :: o1 :: o2 :: o3 :: o :: tl) dg (fun o h _ => by have h9 := Option.some.inj h; rw [← h9]; exact hc1) hn (by show (4 : Nat) < (o0 :: o1 :: o2 :: o3 :: o :: tl).length; simp) k
theorem nf_is5 {o0 o1 o2 o3 o4 o : Option Value} {tl : List (Option Value)} {x : Int32} (dg : decode cc pc = .ok (.istore 5, 2)) (hc1 : nf_c1 o4 = true) (hn : 5 < nL) (k : nf_V L d cc own nL ret r S2 (pc + 2) (o0 :: o1 :: o2 :: o3 :: o4 :: some (.int x) :: tl) st S) : nf_V L d cc own nL ret r S2 pc (o0 :: o1 :: o2 :: o3 :: o4 :: o :: tl) (.int x :: st) S :=
  nf_isg (ls := o0 :: o1 :: o2 :: o3 :: o4 :: o :: tl) dg (fun o h _ => by have h9 := Option.some.inj h; rw [← h9]; exact hc1) hn (by show (5 : Nat) < (o0 :: o1 :: o2 :: o3 :: o4 :: o :: tl).length; simp) k
theorem nf_is6 {o0 o1 o2 o3 o4 o5 o : Option Value} {tl : List (Option Value)} {x : Int32} (dg : decode cc pc = .ok (.istore 6, 2)) (hc1 : nf_c1 o5 = true) (hn : 6 < nL) (k : nf_V L d cc own nL ret r S2 (pc + 2) (o0 :: o1 :: o2 :: o3 :: o4 :: o5 :: some (.int x) :: tl) st S) : nf_V L d cc own nL ret r S2 pc (o0 :: o1 :: o2 :: o3 :: o4 :: o5 :: o :: tl) (.int x :: st) S :=
  nf_isg (ls := o0 :: o1 :: o2 :: o3 :: o4 :: o5 :: o :: tl) dg (fun o h _ => by have h9 := Option.some.inj h; rw [← h9]; exact hc1) hn (by show (6 : Nat) < (o0 :: o1 :: o2 :: o3 :: o4 :: o5 :: o :: tl).length; simp) k
theorem nf_is7 {o0 o1 o2 o3 o4 o5 o6 o : Option Value} {tl : List (Option Value)} {x : Int32} (dg : decode cc pc = .ok (.istore 7, 2)) (hc1 : nf_c1 o6 = true) (hn : 7 < nL) (k : nf_V L d cc own nL ret r S2 (pc + 2) (o0 :: o1 :: o2 :: o3 :: o4 :: o5 :: o6 :: some (.int x) :: tl) st S) : nf_V L d cc own nL ret r S2 pc (o0 :: o1 :: o2 :: o3 :: o4 :: o5 :: o6 :: o :: tl) (.int x :: st) S :=
  nf_isg (ls := o0 :: o1 :: o2 :: o3 :: o4 :: o5 :: o6 :: o :: tl) dg (fun o h _ => by have h9 := Option.some.inj h; rw [← h9]; exact hc1) hn (by show (7 : Nat) < (o0 :: o1 :: o2 :: o3 :: o4 :: o5 :: o6 :: o :: tl).length; simp) k
theorem nf_is8 {o0 o1 o2 o3 o4 o5 o6 o7 o : Option Value} {tl : List (Option Value)} {x : Int32} (dg : decode cc pc = .ok (.istore 8, 2)) (hc1 : nf_c1 o7 = true) (hn : 8 < nL) (k : nf_V L d cc own nL ret r S2 (pc + 2) (o0 :: o1 :: o2 :: o3 :: o4 :: o5 :: o6 :: o7 :: some (.int x) :: tl) st S) : nf_V L d cc own nL ret r S2 pc (o0 :: o1 :: o2 :: o3 :: o4 :: o5 :: o6 :: o7 :: o :: tl) (.int x :: st) S :=
  nf_isg (ls := o0 :: o1 :: o2 :: o3 :: o4 :: o5 :: o6 :: o7 :: o :: tl) dg (fun o h _ => by have h9 := Option.some.inj h; rw [← h9]; exact hc1) hn (by show (8 : Nat) < (o0 :: o1 :: o2 :: o3 :: o4 :: o5 :: o6 :: o7 :: o :: tl).length; simp) k
theorem nf_is9 {o0 o1 o2 o3 o4 o5 o6 o7 o8 o : Option Value} {tl : List (Option Value)} {x : Int32} (dg : decode cc pc = .ok (.istore 9, 2)) (hc1 : nf_c1 o8 = true) (hn : 9 < nL) (k : nf_V L d cc own nL ret r S2 (pc + 2) (o0 :: o1 :: o2 :: o3 :: o4 :: o5 :: o6 :: o7 :: o8 :: some (.int x) :: tl) st S) : nf_V L d cc own nL ret r S2 pc (o0 :: o1 :: o2 :: o3 :: o4 :: o5 :: o6 :: o7 :: o8 :: o :: tl) (.int x :: st) S :=
  nf_isg (ls := o0 :: o1 :: o2 :: o3 :: o4 :: o5 :: o6 :: o7 :: o8 :: o :: tl) dg (fun o h _ => by have h9 := Option.some.inj h; rw [← h9]; exact hc1) hn (by show (9 : Nat) < (o0 :: o1 :: o2 :: o3 :: o4 :: o5 :: o6 :: o7 :: o8 :: o :: tl).length; simp) k
theorem nf_as0 {o : Option Value} {tl : List (Option Value)} {x : Nat} (dg : decode cc pc = .ok (.astore_n 0, 1)) (hn : 0 < nL) (k : nf_V L d cc own nL ret r S2 (pc + 1) (some (.ref x) :: tl) st S) : nf_V L d cc own nL ret r S2 pc (o :: tl) (.ref x :: st) S :=
  nf_asn (k0 := 0) (ls := o :: tl) dg (fun o _ h => absurd h (Nat.lt_irrefl 0)) hn (by show (0 : Nat) < (o :: tl).length; simp) k
theorem nf_as1 {o0 o : Option Value} {tl : List (Option Value)} {x : Nat} (dg : decode cc pc = .ok (.astore_n 1, 1)) (hc1 : nf_c1 o0 = true) (hn : 1 < nL) (k : nf_V L d cc own nL ret r S2 (pc + 1) (o0 :: some (.ref x) :: tl) st S) : nf_V L d cc own nL ret r S2 pc (o0 :: o :: tl) (.ref x :: st) S :=
  nf_asn (k0 := 1) (ls := o0 :: o :: tl) dg (fun o h _ => by have h9 := Option.some.inj h; rw [← h9]; exact hc1) hn (by show (1 : Nat) < (o0 :: o :: tl).length; simp) k
theorem nf_as2 {o0 o1 o : Option Value} {tl : List (Option Value)} {x : Nat} (dg : decode cc pc = .ok (.astore_n 2, 1)) (hc1 : nf_c1 o1 = true) (hn : 2 < nL) (k : nf_V L d cc own nL ret r S2 (pc + 1) (o0 :: o1 :: some (.ref x) :: tl) st S) : nf_V L d cc own nL ret r S2 pc (o0 :: o1 :: o :: tl) (.ref x :: st) S :=
  nf_asn (k0 := 2) (ls := o0 :: o1 :: o :: tl) dg (fun o h _ => by have h9 := Option.some.inj h; rw [← h9]; exact hc1) hn (by show (2 : Nat) < (o0 :: o1 :: o :: tl).length; simp) k
theorem nf_as3 {o0 o1 o2 o : Option Value} {tl : List (Option Value)} {x : Nat} (dg : decode cc pc = .ok (.astore_n 3, 1)) (hc1 : nf_c1 o2 = true) (hn : 3 < nL) (k : nf_V L d cc own nL ret r S2 (pc + 1) (o0 :: o1 :: o2 :: some (.ref x) :: tl) st S) : nf_V L d cc own nL ret r S2 pc (o0 :: o1 :: o2 :: o :: tl) (.ref x :: st) S :=
  nf_asn (k0 := 3) (ls := o0 :: o1 :: o2 :: o :: tl) dg (fun o h _ => by have h9 := Option.some.inj h; rw [← h9]; exact hc1) hn (by show (3 : Nat) < (o0 :: o1 :: o2 :: o :: tl).length; simp) k
theorem nf_as4 {o0 o1 o2 o3 o : Option Value} {tl : List (Option Value)} {x : Nat} (dg : decode cc pc = .ok (.astore 4, 2)) (hc1 : nf_c1 o3 = true) (hn : 4 < nL) (k : nf_V L d cc own nL ret r S2 (pc + 2) (o0 :: o1 :: o2 :: o3 :: some (.ref x) :: tl) st S) : nf_V L d cc own nL ret r S2 pc (o0 :: o1 :: o2 :: o3 :: o :: tl) (.ref x :: st) S :=
  nf_asg (ls := o0 :: o1 :: o2 :: o3 :: o :: tl) dg (fun o h _ => by have h9 := Option.some.inj h; rw [← h9]; exact hc1) hn (by show (4 : Nat) < (o0 :: o1 :: o2 :: o3 :: o :: tl).length; simp) k
theorem nf_as5 {o0 o1 o2 o3 o4 o : Option Value} {tl : List (Option Value)} {x : Nat} (dg : decode cc pc = .ok (.astore 5, 2)) (hc1 : nf_c1 o4 = true) (hn : 5 < nL) (k : nf_V L d cc own nL ret r S2 (pc + 2) (o0 :: o1 :: o2 :: o3 :: o4 :: some (.ref x) :: tl) st S) : nf_V L d cc own nL ret r S2 pc (o0 :: o1 :: o2 :: o3 :: o4 :: o :: tl) (.ref x :: st) S :=
  nf_asg (ls := o0 :: o1 :: o2 :: o3 :: o4 :: o :: tl) dg (fun o h _ => by have h9 := Option.some.inj h; rw [← h9]; exact hc1) hn (by show (5 : Nat) < (o0 :: o1 :: o2 :: o3 :: o4 :: o :: tl).length; simp) k
theorem nf_as6 {o0 o1 o2 o3 o4 o5 o : Option Value} {tl : List (Option Value)} {x : Nat} (dg : decode cc pc = .ok (.astore 6, 2)) (hc1 : nf_c1 o5 = true) (hn : 6 < nL) (k : nf_V L d cc own nL ret r S2 (pc + 2) (o0 :: o1 :: o2 :: o3 :: o4 :: o5 :: some (.ref x) :: tl) st S) : nf_V L d cc own nL ret r S2 pc (o0 :: o1 :: o2 :: o3 :: o4 :: o5 :: o :: tl) (.ref x :: st) S :=
  nf_asg (ls := o0 :: o1 :: o2 :: o3 :: o4 :: o5 :: o :: tl) dg (fun o h _ => by have h9 := Option.some.inj h; rw [← h9]; exact hc1) hn (by show (6 : Nat) < (o0 :: o1 :: o2 :: o3 :: o4 :: o5 :: o :: tl).length; simp) k
theorem nf_as7 {o0 o1 o2 o3 o4 o5 o6 o : Option Value} {tl : List (Option Value)} {x : Nat} (dg : decode cc pc = .ok (.astore 7, 2)) (hc1 : nf_c1 o6 = true) (hn : 7 < nL) (k : nf_V L d cc own nL ret r S2 (pc + 2) (o0 :: o1 :: o2 :: o3 :: o4 :: o5 :: o6 :: some (.ref x) :: tl) st S) : nf_V L d cc own nL ret r S2 pc (o0 :: o1 :: o2 :: o3 :: o4 :: o5 :: o6 :: o :: tl) (.ref x :: st) S :=
  nf_asg (ls := o0 :: o1 :: o2 :: o3 :: o4 :: o5 :: o6 :: o :: tl) dg (fun o h _ => by have h9 := Option.some.inj h; rw [← h9]; exact hc1) hn (by show (7 : Nat) < (o0 :: o1 :: o2 :: o3 :: o4 :: o5 :: o6 :: o :: tl).length; simp) k
theorem nf_as8 {o0 o1 o2 o3 o4 o5 o6 o7 o : Option Value} {tl : List (Option Value)} {x : Nat} (dg : decode cc pc = .ok (.astore 8, 2)) (hc1 : nf_c1 o7 = true) (hn : 8 < nL) (k : nf_V L d cc own nL ret r S2 (pc + 2) (o0 :: o1 :: o2 :: o3 :: o4 :: o5 :: o6 :: o7 :: some (.ref x) :: tl) st S) : nf_V L d cc own nL ret r S2 pc (o0 :: o1 :: o2 :: o3 :: o4 :: o5 :: o6 :: o7 :: o :: tl) (.ref x :: st) S :=
  nf_asg (ls := o0 :: o1 :: o2 :: o3 :: o4 :: o5 :: o6 :: o7 :: o :: tl) dg (fun o h _ => by have h9 := Option.some.inj h; rw [← h9]; exact hc1) hn (by show (8 : Nat) < (o0 :: o1 :: o2 :: o3 :: o4 :: o5 :: o6 :: o7 :: o :: tl).length; simp) k
theorem nf_as9 {o0 o1 o2 o3 o4 o5 o6 o7 o8 o : Option Value} {tl : List (Option Value)} {x : Nat} (dg : decode cc pc = .ok (.astore 9, 2)) (hc1 : nf_c1 o8 = true) (hn : 9 < nL) (k : nf_V L d cc own nL ret r S2 (pc + 2) (o0 :: o1 :: o2 :: o3 :: o4 :: o5 :: o6 :: o7 :: o8 :: some (.ref x) :: tl) st S) : nf_V L d cc own nL ret r S2 pc (o0 :: o1 :: o2 :: o3 :: o4 :: o5 :: o6 :: o7 :: o8 :: o :: tl) (.ref x :: st) S :=
  nf_asg (ls := o0 :: o1 :: o2 :: o3 :: o4 :: o5 :: o6 :: o7 :: o8 :: o :: tl) dg (fun o h _ => by have h9 := Option.some.inj h; rw [← h9]; exact hc1) hn (by show (9 : Nat) < (o0 :: o1 :: o2 :: o3 :: o4 :: o5 :: o6 :: o7 :: o8 :: o :: tl).length; simp) k
theorem nf_ls0 {o oo : Option Value} {tl : List (Option Value)} {x : Int64} (dg : decode cc pc = .ok (.lstore_n 0, 1)) (hn : 0 + 1 < nL) (k : nf_V L d cc own nL ret r S2 (pc + 1) (some (.long x) :: none :: tl) st S) : nf_V L d cc own nL ret r S2 pc (o :: oo :: tl) (.long x :: st) S :=
  nf_lsn (k0 := 0) (ls := o :: oo :: tl) dg (fun o _ h => absurd h (Nat.lt_irrefl 0)) hn (by show (0 : Nat) < (o :: oo :: tl).length; simp) k
theorem nf_ls1 {o0 o oo : Option Value} {tl : List (Option Value)} {x : Int64} (dg : decode cc pc = .ok (.lstore_n 1, 1)) (hc1 : nf_c1 o0 = true) (hn : 1 + 1 < nL) (k : nf_V L d cc own nL ret r S2 (pc + 1) (o0 :: some (.long x) :: none :: tl) st S) : nf_V L d cc own nL ret r S2 pc (o0 :: o :: oo :: tl) (.long x :: st) S :=
  nf_lsn (k0 := 1) (ls := o0 :: o :: oo :: tl) dg (fun o h _ => by have h9 := Option.some.inj h; rw [← h9]; exact hc1) hn (by show (1 : Nat) < (o0 :: o :: oo :: tl).length; simp) k
theorem nf_ls2 {o0 o1 o oo : Option Value} {tl : List (Option Value)} {x : Int64} (dg : decode cc pc = .ok (.lstore_n 2, 1)) (hc1 : nf_c1 o1 = true) (hn : 2 + 1 < nL) (k : nf_V L d cc own nL ret r S2 (pc + 1) (o0 :: o1 :: some (.long x) :: none :: tl) st S) : nf_V L d cc own nL ret r S2 pc (o0 :: o1 :: o :: oo :: tl) (.long x :: st) S :=
  nf_lsn (k0 := 2) (ls := o0 :: o1 :: o :: oo :: tl) dg (fun o h _ => by have h9 := Option.some.inj h; rw [← h9]; exact hc1) hn (by show (2 : Nat) < (o0 :: o1 :: o :: oo :: tl).length; simp) k
theorem nf_ls3 {o0 o1 o2 o oo : Option Value} {tl : List (Option Value)} {x : Int64} (dg : decode cc pc = .ok (.lstore_n 3, 1)) (hc1 : nf_c1 o2 = true) (hn : 3 + 1 < nL) (k : nf_V L d cc own nL ret r S2 (pc + 1) (o0 :: o1 :: o2 :: some (.long x) :: none :: tl) st S) : nf_V L d cc own nL ret r S2 pc (o0 :: o1 :: o2 :: o :: oo :: tl) (.long x :: st) S :=
  nf_lsn (k0 := 3) (ls := o0 :: o1 :: o2 :: o :: oo :: tl) dg (fun o h _ => by have h9 := Option.some.inj h; rw [← h9]; exact hc1) hn (by show (3 : Nat) < (o0 :: o1 :: o2 :: o :: oo :: tl).length; simp) k
theorem nf_ls4 {o0 o1 o2 o3 o oo : Option Value} {tl : List (Option Value)} {x : Int64} (dg : decode cc pc = .ok (.lstore 4, 2)) (hc1 : nf_c1 o3 = true) (hn : 4 + 1 < nL) (k : nf_V L d cc own nL ret r S2 (pc + 2) (o0 :: o1 :: o2 :: o3 :: some (.long x) :: none :: tl) st S) : nf_V L d cc own nL ret r S2 pc (o0 :: o1 :: o2 :: o3 :: o :: oo :: tl) (.long x :: st) S :=
  nf_lsg (ls := o0 :: o1 :: o2 :: o3 :: o :: oo :: tl) dg (fun o h _ => by have h9 := Option.some.inj h; rw [← h9]; exact hc1) hn (by show (4 : Nat) < (o0 :: o1 :: o2 :: o3 :: o :: oo :: tl).length; simp) k
theorem nf_ls5 {o0 o1 o2 o3 o4 o oo : Option Value} {tl : List (Option Value)} {x : Int64} (dg : decode cc pc = .ok (.lstore 5, 2)) (hc1 : nf_c1 o4 = true) (hn : 5 + 1 < nL) (k : nf_V L d cc own nL ret r S2 (pc + 2) (o0 :: o1 :: o2 :: o3 :: o4 :: some (.long x) :: none :: tl) st S) : nf_V L d cc own nL ret r S2 pc (o0 :: o1 :: o2 :: o3 :: o4 :: o :: oo :: tl) (.long x :: st) S :=
  nf_lsg (ls := o0 :: o1 :: o2 :: o3 :: o4 :: o :: oo :: tl) dg (fun o h _ => by have h9 := Option.some.inj h; rw [← h9]; exact hc1) hn (by show (5 : Nat) < (o0 :: o1 :: o2 :: o3 :: o4 :: o :: oo :: tl).length; simp) k
theorem nf_ls6 {o0 o1 o2 o3 o4 o5 o oo : Option Value} {tl : List (Option Value)} {x : Int64} (dg : decode cc pc = .ok (.lstore 6, 2)) (hc1 : nf_c1 o5 = true) (hn : 6 + 1 < nL) (k : nf_V L d cc own nL ret r S2 (pc + 2) (o0 :: o1 :: o2 :: o3 :: o4 :: o5 :: some (.long x) :: none :: tl) st S) : nf_V L d cc own nL ret r S2 pc (o0 :: o1 :: o2 :: o3 :: o4 :: o5 :: o :: oo :: tl) (.long x :: st) S :=
  nf_lsg (ls := o0 :: o1 :: o2 :: o3 :: o4 :: o5 :: o :: oo :: tl) dg (fun o h _ => by have h9 := Option.some.inj h; rw [← h9]; exact hc1) hn (by show (6 : Nat) < (o0 :: o1 :: o2 :: o3 :: o4 :: o5 :: o :: oo :: tl).length; simp) k
theorem nf_ls7 {o0 o1 o2 o3 o4 o5 o6 o oo : Option Value} {tl : List (Option Value)} {x : Int64} (dg : decode cc pc = .ok (.lstore 7, 2)) (hc1 : nf_c1 o6 = true) (hn : 7 + 1 < nL) (k : nf_V L d cc own nL ret r S2 (pc + 2) (o0 :: o1 :: o2 :: o3 :: o4 :: o5 :: o6 :: some (.long x) :: none :: tl) st S) : nf_V L d cc own nL ret r S2 pc (o0 :: o1 :: o2 :: o3 :: o4 :: o5 :: o6 :: o :: oo :: tl) (.long x :: st) S :=
  nf_lsg (ls := o0 :: o1 :: o2 :: o3 :: o4 :: o5 :: o6 :: o :: oo :: tl) dg (fun o h _ => by have h9 := Option.some.inj h; rw [← h9]; exact hc1) hn (by show (7 : Nat) < (o0 :: o1 :: o2 :: o3 :: o4 :: o5 :: o6 :: o :: oo :: tl).length; simp) k
theorem nf_ls8 {o0 o1 o2 o3 o4 o5 o6 o7 o oo : Option Value} {tl : List (Option Value)} {x : Int64} (dg : decode cc pc = .ok (.lstore 8, 2)) (hc1 : nf_c1 o7 = true) (hn : 8 + 1 < nL) (k : nf_V L d cc own nL ret r S2 (pc + 2) (o0 :: o1 :: o2 :: o3 :: o4 :: o5 :: o6 :: o7 :: some (.long x) :: none :: tl) st S) : nf_V L d cc own nL ret r S2 pc (o0 :: o1 :: o2 :: o3 :: o4 :: o5 :: o6 :: o7 :: o :: oo :: tl) (.long x :: st) S :=
  nf_lsg (ls := o0 :: o1 :: o2 :: o3 :: o4 :: o5 :: o6 :: o7 :: o :: oo :: tl) dg (fun o h _ => by have h9 := Option.some.inj h; rw [← h9]; exact hc1) hn (by show (8 : Nat) < (o0 :: o1 :: o2 :: o3 :: o4 :: o5 :: o6 :: o7 :: o :: oo :: tl).length; simp) k
theorem nf_ls9 {o0 o1 o2 o3 o4 o5 o6 o7 o8 o oo : Option Value} {tl : List (Option Value)} {x : Int64} (dg : decode cc pc = .ok (.lstore 9, 2)) (hc1 : nf_c1 o8 = true) (hn : 9 + 1 < nL) (k : nf_V L d cc own nL ret r S2 (pc + 2) (o0 :: o1 :: o2 :: o3 :: o4 :: o5 :: o6 :: o7 :: o8 :: some (.long x) :: none :: tl) st S) : nf_V L d cc own nL ret r S2 pc (o0 :: o1 :: o2 :: o3 :: o4 :: o5 :: o6 :: o7 :: o8 :: o :: oo :: tl) (.long x :: st) S :=
  nf_lsg (ls := o0 :: o1 :: o2 :: o3 :: o4 :: o5 :: o6 :: o7 :: o8 :: o :: oo :: tl) dg (fun o h _ => by have h9 := Option.some.inj h; rw [← h9]; exact hc1) hn (by show (9 : Nat) < (o0 :: o1 :: o2 :: o3 :: o4 :: o5 :: o6 :: o7 :: o8 :: o :: oo :: tl).length; simp) k
theorem nf_iinc0 {tl : List (Option Value)} {x v : Int32} {n : Int} (dg : decode cc pc = .ok (.iinc 0 n, 3)) (hv : x + Int32.ofInt n = v) (hn : 0 < nL) (k : nf_V L d cc own nL ret r S2 (pc + 3) (some (.int v) :: tl) st S) : nf_V L d cc own nL ret r S2 pc (some (.int x) :: tl) st S :=
  nf_iincg (ls := some (.int x) :: tl) dg rfl hv (fun o _ h => absurd h (Nat.lt_irrefl 0)) hn (by simp) k
theorem nf_iinc1 {o0 : Option Value} {tl : List (Option Value)} {x v : Int32} {n : Int} (dg : decode cc pc = .ok (.iinc 1 n, 3)) (hv : x + Int32.ofInt n = v) (hc1 : nf_c1 o0 = true) (hn : 1 < nL) (k : nf_V L d cc own nL ret r S2 (pc + 3) (o0 :: some (.int v) :: tl) st S) : nf_V L d cc own nL ret r S2 pc (o0 :: some (.int x) :: tl) st S :=
  nf_iincg (ls := o0 :: some (.int x) :: tl) dg rfl hv (fun o h _ => by have h9 := Option.some.inj h; rw [← h9]; exact hc1) hn (by simp) k
theorem nf_iinc2 {o0 o1 : Option Value} {tl : List (Option Value)} {x v : Int32} {n : Int} (dg : decode cc pc = .ok (.iinc 2 n, 3)) (hv : x + Int32.ofInt n = v) (hc1 : nf_c1 o1 = true) (hn : 2 < nL) (k : nf_V L d cc own nL ret r S2 (pc + 3) (o0 :: o1 :: some (.int v) :: tl) st S) : nf_V L d cc own nL ret r S2 pc (o0 :: o1 :: some (.int x) :: tl) st S :=
  nf_iincg (ls := o0 :: o1 :: some (.int x) :: tl) dg rfl hv (fun o h _ => by have h9 := Option.some.inj h; rw [← h9]; exact hc1) hn (by simp) k
theorem nf_iinc3 {o0 o1 o2 : Option Value} {tl : List (Option Value)} {x v : Int32} {n : Int} (dg : decode cc pc = .ok (.iinc 3 n, 3)) (hv : x + Int32.ofInt n = v) (hc1 : nf_c1 o2 = true) (hn : 3 < nL) (k : nf_V L d cc own nL ret r S2 (pc + 3) (o0 :: o1 :: o2 :: some (.int v) :: tl) st S) : nf_V L d cc own nL ret r S2 pc (o0 :: o1 :: o2 :: some (.int x) :: tl) st S :=
  nf_iincg (ls := o0 :: o1 :: o2 :: some (.int x) :: tl) dg rfl hv (fun o h _ => by have h9 := Option.some.inj h; rw [← h9]; exact hc1) hn (by simp) k
theorem nf_iinc4 {o0 o1 o2 o3 : Option Value} {tl : List (Option Value)} {x v : Int32} {n : Int} (dg : decode cc pc = .ok (.iinc 4 n, 3)) (hv : x + Int32.ofInt n = v) (hc1 : nf_c1 o3 = true) (hn : 4 < nL) (k : nf_V L d cc own nL ret r S2 (pc + 3) (o0 :: o1 :: o2 :: o3 :: some (.int v) :: tl) st S) : nf_V L d cc own nL ret r S2 pc (o0 :: o1 :: o2 :: o3 :: some (.int x) :: tl) st S :=
  nf_iincg (ls := o0 :: o1 :: o2 :: o3 :: some (.int x) :: tl) dg rfl hv (fun o h _ => by have h9 := Option.some.inj h; rw [← h9]; exact hc1) hn (by simp) k
theorem nf_iinc5 {o0 o1 o2 o3 o4 : Option Value} {tl : List (Option Value)} {x v : Int32} {n : Int} (dg : decode cc pc = .ok (.iinc 5 n, 3)) (hv : x + Int32.ofInt n = v) (hc1 : nf_c1 o4 = true) (hn : 5 < nL) (k : nf_V L d cc own nL ret r S2 (pc + 3) (o0 :: o1 :: o2 :: o3 :: o4 :: some (.int v) :: tl) st S) : nf_V L d cc own nL ret r S2 pc (o0 :: o1 :: o2 :: o3 :: o4 :: some (.int x) :: tl) st S :=
  nf_iincg (ls := o0 :: o1 :: o2 :: o3 :: o4 :: some (.int x) :: tl) dg rfl hv (fun o h _ => by have h9 := Option.some.inj h; rw [← h9]; exact hc1) hn (by simp) k
theorem nf_iinc6 {o0 o1 o2 o3 o4 o5 : Option Value} {tl : List (Option Value)} {x v : Int32} {n : Int} (dg : decode cc pc = .ok (.iinc 6 n, 3)) (hv : x + Int32.ofInt n = v) (hc1 : nf_c1 o5 = true) (hn : 6 < nL) (k : nf_V L d cc own nL ret r S2 (pc + 3) (o0 :: o1 :: o2 :: o3 :: o4 :: o5 :: some (.int v) :: tl) st S) : nf_V L d cc own nL ret r S2 pc (o0 :: o1 :: o2 :: o3 :: o4 :: o5 :: some (.int x) :: tl) st S :=
  nf_iincg (ls := o0 :: o1 :: o2 :: o3 :: o4 :: o5 :: some (.int x) :: tl) dg rfl hv (fun o h _ => by have h9 := Option.some.inj h; rw [← h9]; exact hc1) hn (by simp) k
theorem nf_iinc7 {o0 o1 o2 o3 o4 o5 o6 : Option Value} {tl : List (Option Value)} {x v : Int32} {n : Int} (dg : decode cc pc = .ok (.iinc 7 n, 3)) (hv : x + Int32.ofInt n = v) (hc1 : nf_c1 o6 = true) (hn : 7 < nL) (k : nf_V L d cc own nL ret r S2 (pc + 3) (o0 :: o1 :: o2 :: o3 :: o4 :: o5 :: o6 :: some (.int v) :: tl) st S) : nf_V L d cc own nL ret r S2 pc (o0 :: o1 :: o2 :: o3 :: o4 :: o5 :: o6 :: some (.int x) :: tl) st S :=
  nf_iincg (ls := o0 :: o1 :: o2 :: o3 :: o4 :: o5 :: o6 :: some (.int x) :: tl) dg rfl hv (fun o h _ => by have h9 := Option.some.inj h; rw [← h9]; exact hc1) hn (by simp) k
theorem nf_iinc8 {o0 o1 o2 o3 o4 o5 o6 o7 : Option Value} {tl : List (Option Value)} {x v : Int32} {n : Int} (dg : decode cc pc = .ok (.iinc 8 n, 3)) (hv : x + Int32.ofInt n = v) (hc1 : nf_c1 o7 = true) (hn : 8 < nL) (k : nf_V L d cc own nL ret r S2 (pc + 3) (o0 :: o1 :: o2 :: o3 :: o4 :: o5 :: o6 :: o7 :: some (.int v) :: tl) st S) : nf_V L d cc own nL ret r S2 pc (o0 :: o1 :: o2 :: o3 :: o4 :: o5 :: o6 :: o7 :: some (.int x) :: tl) st S :=
  nf_iincg (ls := o0 :: o1 :: o2 :: o3 :: o4 :: o5 :: o6 :: o7 :: some (.int x) :: tl) dg rfl hv (fun o h _ => by have h9 := Option.some.inj h; rw [← h9]; exact hc1) hn (by simp) k
theorem nf_iinc9 {o0 o1 o2 o3 o4 o5 o6 o7 o8 : Option Value} {tl : List (Option Value)} {x v : Int32} {n : Int} (dg : decode cc pc = .ok (.iinc 9 n, 3)) (hv : x + Int32.ofInt n = v) (hc1 : nf_c1 o8 = true) (hn : 9 < nL) (k : nf_V L d cc own nL ret r S2 (pc + 3) (o0 :: o1 :: o2 :: o3 :: o4 :: o5 :: o6 :: o7 :: o8 :: some (.int v) :: tl) st S) : nf_V L d cc own nL ret r S2 pc (o0 :: o1 :: o2 :: o3 :: o4 :: o5 :: o6 :: o7 :: o8 :: some (.int x) :: tl) st S :=
  nf_iincg (ls := o0 :: o1 :: o2 :: o3 :: o4 :: o5 :: o6 :: o7 :: o8 :: some (.int x) :: tl) dg rfl hv (fun o h _ => by have h9 := Option.some.inj h; rw [← h9]; exact hc1) hn (by simp) k
theorem nf_q {s t : State} {H : Heap} {locs : List Loc} {args : Array Value} (hH : nf_Hp L S s H locs) (ht : t.heap = H) : nf_Qc L r S args s (.returned r) t :=
  ⟨rfl, by rw [ht]; exact hH.1, hH.2.F ht⟩
theorem nf_iret {v : Int32} (dg : decode cc pc = .ok (.ireturn, 1)) : nf_V L d cc own nL (some .int) (some (.int v)) S pc ls [.int v] S :=
  fun p l e s m args below meth c H locs la hC hH hl => W.iret hC.1 hC.2.1 hC.2.2.1 (fun t ht _ => nf_q hH ht) hH.2.2.2 dg hC.2.2.2.2.2.2.1
theorem nf_lret {v : Int64} (dg : decode cc pc = .ok (.lreturn, 1)) : nf_V L d cc own nL (some .long) (some (.long v)) S pc ls [.long v] S :=
  fun p l e s m args below meth c H locs la hC hH hl => W.lret hC.1 hC.2.1 hC.2.2.1 (fun t ht _ => nf_q hH ht) hH.2.2.2 dg hC.2.2.2.2.2.2.1
theorem nf_vret (dg : decode cc pc = .ok (.return_, 1)) : nf_V L d cc own nL none none S pc ls [] S :=
  fun p l e s m args below meth c H locs la hC hH hl => W.vret hC.1 hC.2.1 hC.2.2.1 (fun t ht _ => nf_q hH ht) hH.2.2.2 dg hC.2.2.2.2.2.2.1
def nf_b (b : Bool) : Int32 := if b then 1 else 0
theorem nf_zret0 (dg : decode cc pc = .ok (.ireturn, 1)) : nf_V L d cc own nL (some .boolean) (some (.int 0)) S pc ls [.int 0] S :=
  fun p l e s m args below meth c H locs la hC hH hl => W.zret hC.1 hC.2.1 hC.2.2.1 (by decide) (fun t ht _ => nf_q hH ht) hH.2.2.2 dg hC.2.2.2.2.2.2.1
theorem nf_zret1 (dg : decode cc pc = .ok (.ireturn, 1)) : nf_V L d cc own nL (some .boolean) (some (.int 1)) S pc ls [.int 1] S :=
  fun p l e s m args below meth c H locs la hC hH hl => W.zret hC.1 hC.2.1 hC.2.2.1 (by decide) (fun t ht _ => nf_q hH ht) hH.2.2.2 dg hC.2.2.2.2.2.2.1
theorem nf_zretb {b : Bool} (dg : decode cc pc = .ok (.ireturn, 1)) : nf_V L d cc own nL (some .boolean) (some (.int (nf_b b))) S pc ls [.int (nf_b b)] S := by
  cases b
  · exact nf_zret0 dg
  · exact nf_zret1 dg
/-- what is to be shown may be said otherwise -/
theorem nf_to {r' : Option Value} {S2' : nf_S} (e1 : r = r') (e2 : S2 = S2') (k : nf_V L d cc own nL ret r' S2' pc ls st S) : nf_V L d cc own nL ret r S2 pc ls st S := by rw [e1, e2]; exact k
end NfRows
