/-! constructors: a table of cells from address b on, each cell at b + its place; cells are made at the end -/
def nc_nw : List Cond := [.methodLinkNest RX3 24 yX2_init RX5, .methodLinkNest RX3 31 yX0_init RX5, .methodLinkNest RX3 44 yX4_init RX5, .methodLinkNest RX5 18 yX4_init RX5]
def nc_K (L : nf_L) (U : State) : Prop := nf_K L U ∧ (∀ w ∈ nc_nw, va_Nw w U) ∧ va_AO RX1 U ∧ va_AO RX3 U
theorem nc_K.warm {L : nf_L} {s U : State} (hW : s.WarmedH U.vm) (h : nc_K L s) : nc_K L U := by
  refine ⟨h.1.warm hW, fun w hw => ?_, h.2.2.1.moved hW.alike, h.2.2.2.moved hW.alike⟩
  have h1 := h.2.1 w hw
  simp only [nc_nw, List.mem_cons, List.not_mem_nil, or_false] at hw
  rcases hw with rfl | rfl | rfl | rfl <;> exact va_Nw.warmM hW h1
abbrev nc_T : Type := List va_E
def nc_H (L : nf_L) (b : Nat) (tbl : nc_T) (H : Heap) : Prop := H.size = b + tbl.length ∧ ∀ i x, tbl[i]? = some x → va_at L.1 vwCl (b + i, x) H
def nc_A (b : Nat) : Nat → Prop := fun q => b ≤ q
def nc_Pc (L : nf_L) (b : Nat) (as : List Value) (tin : nc_T) : Array Value → State → Prop := fun v U => v = as.toArray ∧ nc_H L b tin U.heap ∧ nc_K L U
def nc_Qc (L : nf_L) (b : Nat) (tout : nc_T) : Array Value → State → Outcome → State → Prop := fun _ st oc t => oc = .returned none ∧ nc_H L b tout t.heap ∧ va_F (nc_A b) st t
def nc_rm (d : Nat × Nat × Nat) : Room := { frames := d.1, cells := d.2.1, slots := d.2.2, locals := 40 * d.1 }
/-- a constructor's contract (or a void method's over the table) -/
def nc_Sp (L : nf_L) (d : Nat × Nat × Nat) (y : MethodName) (cc : ByteArray) (nL b : Nat) (as : List Value) (tin tout : nc_T) : Prop :=
  ∀ l : Launch, Met l y (nf_ws y cc nL none) (nc_rm d) (nc_Pc L b as tin) (nc_Qc L b tout) d.2.1 d.2.2 (nc_A b)
def nc_Cx (p : Program) (s : State) (m : MethodId) (args : Array Value) (meth : Method) (c : Code) (L : nf_L) (cc : ByteArray) (own : String) (nL : Nat) (nm : String) : Prop :=
  p.tables.exec = Jvm.exec ∧ c.code = cc ∧ meth.sig.returnType = none ∧ c.maxLocals = nL ∧ s.vm.findClass own = some m.cls ∧ (∀ w ∈ nf_tbl, w.before args s = true) ∧ meth.locks = false ∧ meth.name = nm ∧ nc_K L s
def nc_Hp (L : nf_L) (b : Nat) (tbl : nc_T) (s : State) (H : Heap) (locs : List Loc) : Prop := nc_H L b tbl H ∧ va_S (nc_A b) s.heap H locs
def nc_V (L : nf_L) (d : Nat × Nat × Nat) (cc : ByteArray) (own : String) (nL : Nat) (nm : String) (b : Nat) (tout : nc_T) (pc : Nat) (ls : List (Option Value)) (st : List Value) (S : (Nat × Nat) × nc_T) : Prop :=
  ∀ (p : Program) (l : Launch) (e : Env) (s : State) (m : MethodId) (args : Array Value) (below : List Frame) (meth : Method) (c : Code) (H : Heap) (locs : List Loc) (la : Array Slot),
    nc_Cx p s m args meth c L cc own nL nm → nc_Hp L b S.2 s H locs → nf_lh la nL ls →
    W p l e (nc_rm d) s m args below meth c H locs S.1.1 S.1.2 (MQ below (nc_Qc L b tout) args s d.2.1 d.2.2 (nc_A b)) (F0 m pc la st)
theorem va_at_kept {D : va_G} {cl : List vw_C} {q : Nat} {x : va_E} {H H1 : Heap} (h : va_at D cl (q, x) H) (e : H1[q]? = H[q]?) : va_at D cl (q, x) H1 := by
  have hP : va_P D cl [(q, x)] H := fun k z hz => by
    have : k = 0 := by
      have := (List.getElem?_eq_some_iff.mp hz).1
      simp at this; exact this
    subst this; cases hz; exact h
  exact (hP.kept (H1 := H1) (fun k z hz => by
    have : k = 0 := by
      have := (List.getElem?_eq_some_iff.mp hz).1
      simp at this; exact this
    subst this; cases hz; exact e)) 0 _ rfl
theorem va_P_one {D : va_G} {cl : List vw_C} {q : Nat} {x : va_E} {H : Heap} (h : va_at D cl (q, x) H) : va_P D cl [(q, x)] H := fun k z hz => by
  have : k = 0 := by
    have := (List.getElem?_eq_some_iff.mp hz).1
    simp at this; exact this
  subst this; cases hz; exact h
/-- a cell made at the end -/
theorem nc_H.push {L : nf_L} {b : Nat} {tbl : nc_T} {H H1 : Heap} {x : va_E} (h : nc_H L b tbl H) (z : H1.size = b + tbl.length + 1) (o : ∀ q, q < b + tbl.length → H1[q]? = H[q]?) (hx : va_at L.1 vwCl (b + tbl.length, x) H1) : nc_H L b (tbl ++ [x]) H1 := by
  refine ⟨by rw [z, List.length_append]; rfl, fun i y hy => ?_⟩
  by_cases hi : i < tbl.length
  · rw [List.getElem?_append_left hi] at hy
    exact va_at_kept (h.2 i y hy) (o _ (by omega))
  · rw [List.getElem?_append_right (by omega)] at hy
    have : i - tbl.length = 0 := by
      have := (List.getElem?_eq_some_iff.mp hy).1
      simp at this; exact this
    rw [this] at hy
    cases hy
    rw [show i = tbl.length by omega]; exact hx
/-- a cell changed -/
theorem nc_H.set {L : nf_L} {b i : Nat} {tbl : nc_T} {H H1 : Heap} {x : va_E} (h : nc_H L b tbl H) (z : H1.size = H.size) (o : ∀ q, q ≠ b + i → H1[q]? = H[q]?) (hx : va_at L.1 vwCl (b + i, x) H1) : nc_H L b (tbl.set i x) H1 := by
  refine ⟨by rw [z, h.1, List.length_set], fun j y hy => ?_⟩
  rw [List.getElem?_set] at hy
  by_cases hij : i = j
  · subst hij
    rw [if_pos rfl] at hy
    split at hy
    · cases hy; exact hx
    · cases hy
  · rw [if_neg hij] at hy
    exact va_at_kept (h.2 j y hy) (o _ (by omega))
theorem nc_S_push {b : Nat} {s : State} {H H1 : Heap} {locs : List Loc} {tbl : nc_T} {L : nf_L} (hH : nc_Hp L b tbl s H locs) (z : H1.size = b + tbl.length + 1) (o : ∀ q, q < b + tbl.length → H1[q]? = H[q]?) : va_S (nc_A b) s.heap H1 locs := by
  have hz := hH.1.1
  have hle := hH.2.1
  refine ⟨by omega, fun q h1 h2 => ?_, hH.2.2.2⟩
  rw [o q (by omega)]
  exact hH.2.2.1 q h1 h2
section NcRows
variable {L : nf_L} {d : Nat × Nat × Nat} {cc : ByteArray} {own : String} {nL : Nat} {ret : String} {r : Nat} {S2 : nc_T} {pc : Nat} {ls : List (Option Value)} {st : List Value} {S : (Nat × Nat) × nc_T}
theorem nc_iconst {n : Int} {v : Int32} (dg : decode cc pc = .ok (.iconst n, 1)) (hv : Int32.ofInt n = v) (k : nc_V L d cc own nL ret r S2 (pc + 1) ls (.int v :: st) S) : nc_V L d cc own nL ret r S2 pc ls (st) S :=
  fun p l e s m args below meth c H locs la hC hH hl => lv_iconst hC.1 hC.2.1 dg hv (k p l e s m args below meth c H locs la hC hH hl)
theorem nc_bipush {n : Int} {v : Int32} (dg : decode cc pc = .ok (.bipush n, 2)) (hv : (Int8.ofInt n).toInt32 = v) (k : nc_V L d cc own nL ret r S2 (pc + 2) ls (.int v :: st) S) : nc_V L d cc own nL ret r S2 pc ls (st) S :=
  fun p l e s m args below meth c H locs la hC hH hl => lv_bipush hC.1 hC.2.1 dg hv (k p l e s m args below meth c H locs la hC hH hl)
theorem nc_sipush {n : Int} {v : Int32} (dg : decode cc pc = .ok (.sipush n, 3)) (hv : (Int16.ofInt n).toInt32 = v) (k : nc_V L d cc own nL ret r S2 (pc + 3) ls (.int v :: st) S) : nc_V L d cc own nL ret r S2 pc ls (st) S :=
  fun p l e s m args below meth c H locs la hC hH hl => lv_sipush hC.1 hC.2.1 dg hv (k p l e s m args below meth c H locs la hC hH hl)
theorem nc_iln {k0 : Fin 4} {x : Int32} (dg : decode cc pc = .ok (.iload_n k0, 1)) (hx : ls[(k0 : Nat)]? = some (some (.int x))) (k : nc_V L d cc own nL ret r S2 (pc + 1) ls (.int x :: st) S) : nc_V L d cc own nL ret r S2 pc ls (st) S :=
  fun p l e s m args below meth c H locs la hC hH hl => lv_iload_n hC.1 hC.2.1 dg rfl (hl.at hx) (k p l e s m args below meth c H locs la hC hH hl)
theorem nc_aln {k0 : Fin 4} {x : Nat} (dg : decode cc pc = .ok (.aload_n k0, 1)) (hx : ls[(k0 : Nat)]? = some (some (.ref x))) (k : nc_V L d cc own nL ret r S2 (pc + 1) ls (.ref x :: st) S) : nc_V L d cc own nL ret r S2 pc ls (st) S :=
  fun p l e s m args below meth c H locs la hC hH hl => lv_aload_n hC.1 hC.2.1 dg rfl (hl.at hx) (k p l e s m args below meth c H locs la hC hH hl)
theorem nc_iadd {x y : Int32} (dg : decode cc pc = .ok (.iadd, 1)) (k : nc_V L d cc own nL ret r S2 (pc + 1) ls (.int (x + y) :: st) S) : nc_V L d cc own nL ret r S2 pc ls (.int y :: .int x :: st) S :=
  fun p l e s m args below meth c H locs la hC hH hl => lv_iadd hC.1 hC.2.1 dg (k p l e s m args below meth c H locs la hC hH hl)
theorem nc_dup {va : Value} (dg : decode cc pc = .ok (.dup, 1)) (hva : va.category = 1) (k : nc_V L d cc own nL ret r S2 (pc + 1) ls (va :: va :: st) S) : nc_V L d cc own nL ret r S2 pc ls (va :: st) S :=
  fun p l e s m args below meth c H locs la hC hH hl => lv_dup hC.1 hC.2.1 dg hva (k p l e s m args below meth c H locs la hC hH hl)
theorem nc_goto {off : Int} (tgt : Nat) (dg : decode cc pc = .ok (.goto off, 3)) (ht : (pc : Int) + off = (tgt : Int)) (k : nc_V L d cc own nL ret r S2 tgt ls st S) : nc_V L d cc own nL ret r S2 pc ls st S :=
  fun p l e s m args below meth c H locs la hC hH hl => lv_goto hC.1 hC.2.1 dg ht (k p l e s m args below meth c H locs la hC hH hl)
theorem nc_ic_ge {off : Int} {x y : Int32} (tgt : Nat) (dg : decode cc pc = .ok (.if_icmp .ge off, 3)) (ht : (pc : Int) + off = (tgt : Int)) (kt : y ≤ x → nc_V L d cc own nL ret r S2 tgt ls st S) (kf : ¬ (y ≤ x) → nc_V L d cc own nL ret r S2 (pc + 3) ls st S) : nc_V L d cc own nL ret r S2 pc ls (.int y :: .int x :: st) S :=
  fun p l e s m args below meth c H locs la hC hH hl => lv_icmp_ge hC.1 hC.2.1 dg ht (fun h => kt h p l e s m args below meth c H locs la hC hH hl) (fun h => kf h p l e s m args below meth c H locs la hC hH hl)
theorem nc_isn {k0 : Fin 4} {x : Int32} (dg : decode cc pc = .ok (.istore_n k0, 1)) (h2 : ∀ o, ls[(k0 : Nat) - 1]? = some o → 0 < (k0 : Nat) → nf_c1 o = true) (hn : (k0 : Nat) < nL) (hll : (k0 : Nat) < ls.length) (k : nc_V L d cc own nL ret r S2 (pc + 1) (ls.set (k0 : Nat) (some (.int x))) st S) : nc_V L d cc own nL ret r S2 pc ls (.int x :: st) S :=
  fun p l e s m args below meth c H locs la hC hH hl => lv_istore_n hC.1 hC.2.1 dg rfl hl hn rfl (fun la2 hl2 => k p l e s m args below meth c H locs la2 hC hH (nf_lh.st1 h2 hll hl2))
theorem nc_is1 {o0 o : Option Value} {tl : List (Option Value)} {x : Int32} (dg : decode cc pc = .ok (.istore_n 1, 1)) (hc1 : nf_c1 o0 = true) (hn : 1 < nL) (k : nc_V L d cc own nL ret r S2 (pc + 1) (o0 :: some (.int x) :: tl) st S) : nc_V L d cc own nL ret r S2 pc (o0 :: o :: tl) (.int x :: st) S :=
  nc_isn (k0 := 1) (ls := o0 :: o :: tl) dg (fun o h _ => by have h9 := Option.some.inj h; rw [← h9]; exact hc1) hn (by show (1 : Nat) < (o0 :: o :: tl).length; simp) k
theorem nc_is2 {o0 o1 o : Option Value} {tl : List (Option Value)} {x : Int32} (dg : decode cc pc = .ok (.istore_n 2, 1)) (hc1 : nf_c1 o1 = true) (hn : 2 < nL) (k : nc_V L d cc own nL ret r S2 (pc + 1) (o0 :: o1 :: some (.int x) :: tl) st S) : nc_V L d cc own nL ret r S2 pc (o0 :: o1 :: o :: tl) (.int x :: st) S :=
  nc_isn (k0 := 2) (ls := o0 :: o1 :: o :: tl) dg (fun o h _ => by have h9 := Option.some.inj h; rw [← h9]; exact hc1) hn (by show (2 : Nat) < (o0 :: o1 :: o :: tl).length; simp) k
theorem nc_is3 {o0 o1 o2 o : Option Value} {tl : List (Option Value)} {x : Int32} (dg : decode cc pc = .ok (.istore_n 3, 1)) (hc1 : nf_c1 o2 = true) (hn : 3 < nL) (k : nc_V L d cc own nL ret r S2 (pc + 1) (o0 :: o1 :: o2 :: some (.int x) :: tl) st S) : nc_V L d cc own nL ret r S2 pc (o0 :: o1 :: o2 :: o :: tl) (.int x :: st) S :=
  nc_isn (k0 := 3) (ls := o0 :: o1 :: o2 :: o :: tl) dg (fun o h _ => by have h9 := Option.some.inj h; rw [← h9]; exact hc1) hn (by show (3 : Nat) < (o0 :: o1 :: o2 :: o :: tl).length; simp) k
theorem nc_iincg {i : Nat} {n : Int} {x v : Int32} (dg : decode cc pc = .ok (.iinc i n, 3)) (hx : ls[i]? = some (some (.int x))) (hv : x + Int32.ofInt n = v) (h2 : ∀ o, ls[i - 1]? = some o → 0 < i → nf_c1 o = true) (hn : i < nL) (hll : i < ls.length) (k : nc_V L d cc own nL ret r S2 (pc + 3) (ls.set i (some (.int v))) st S) : nc_V L d cc own nL ret r S2 pc ls st S := by
  intro p l e s m args below meth c H locs la hC hH hl
  obtain ⟨j, hj⟩ := List.getElem?_of_mem ((nf_prs_mem ls 0 (i, .int x)).mpr ⟨i, by simp, hx⟩)
  exact lv_iinc hC.1 hC.2.1 dg hl hj hv hn rfl (fun la2 hl2 => k p l e s m args below meth c H locs la2 hC hH (nf_lh.st1 h2 hll hl2))
theorem nc_vret {tbl : nc_T} (dg : decode cc pc = .ok (.return_, 1)) : nc_V L d cc own nL ret r tbl pc ls [] ((d.2.1, d.2.2), tbl) :=
  fun p l e s m args below meth c H locs la hC hH hl => W.vret hC.1 hC.2.1 hC.2.2.1 (fun t ht _ => ⟨rfl, by rw [ht]; exact hH.1, hH.2.F ht⟩) hH.2.2.2 dg hC.2.2.2.2.2.2.1
theorem nc_objm : Cond.instanceMethod objectInit ∈ nf_tbl := List.mem_filter.mpr ⟨List.mem_of_getElem? (i := 36) (by decide +kernel), by decide +kernel⟩
theorem nc_objc : Cond.code objectInit ⟨#[0xb1]⟩ 1 none ∈ nf_tbl := List.mem_filter.mpr ⟨List.mem_of_getElem? (i := 37) (by decide +kernel), by decide +kernel⟩
theorem nc_obj {idx a : Nat} (hw : Cond.methodLink own idx objectInit ∈ nf_tbl) (hd : 1 ≤ d.1) (hr : (st.map fun v => v.category).sum + 12 ≤ 40 * d.1) (dg : decode cc pc = .ok (.invokespecial idx, 3)) (k : nc_V L d cc own nL ret r S2 (pc + 3) ls st S) : nc_V L d cc own nL ret r S2 pc ls (.ref a :: st) S := by
  intro p l e s m args below meth c H locs la hC hH hl
  refine W.objInit hC.1 hC.2.1 hC.2.2.2.2.1 (hC.2.2.2.2.2.1 _ hw) (hC.2.2.2.2.2.1 _ nc_objm) (hC.2.2.2.2.2.1 _ nc_objc) rfl (by rw [hC.2.2.2.1]; exact hl.1) rfl dg hd ?_ (k p l e s m args below meth c H locs la hC hH hl)
  show 2 * (F0 m pc la (.ref a :: st)).monitorRoom + _ + 12 ≤ 40 * d.1
  simpa [F0] using hr
theorem nc_new {cells slots : Nat} {tbl : nc_T} {C : String} {T : u_T} {N ci idx : Nat} (hcl : Cond.classLink own idx C ∈ nf_tbl) (hinst : Cond.instantiable C N ∈ nf_tbl) (hini : Cond.initialized C ∈ nf_tbl) (hin : ∀ w ∈ u_ws C T N, w ∈ nf_tbl) (ty : Nat → FieldType) (hty : ∀ k, k < N → parseFieldDescriptor (T k).2.2.1 = some (ty k)) (hc : vwCl[ci]? = some (C, T, N)) {fs : List Value} (hfs : ∀ j, j < N → defaultValue (ty j) = vp_V fs j) (h1 : cells + 1 ≤ d.2.1) (h2 : slots + N ≤ d.2.2) (dg : decode cc pc = .ok (.new idx, 3))
    (k : nc_V L d cc own nL ret r S2 (pc + 3) ls (.ref (r + tbl.length) :: st) ((cells + 1, slots + N), tbl ++ [.inr (ci, fs)])) : nc_V L d cc own nL ret r S2 pc ls st ((cells, slots), tbl) := by
  intro p l e s m args below meth c H locs la hC hH hl
  have hKn := hC.2.2.2.2.2.2.2.2.1.1.1 ci _ hc
  have hts := hC.2.2.2.2.2.1
  refine W.newcK hC.1 hC.2.1 hC.2.2.2.2.1 (hts _ hcl) (hts _ hinst) (hts _ hini) rfl dg h1 h2 hKn.2.1 hH.1.1 fun H1 kC hkC e1 z1 o1 => ?_
  exact k p l e s m args below meth c H1 locs la hC ⟨hH.1.push z1 o1 ⟨_, hc, (u_born ty hts hin hKn hkC e1 hty).to hfs⟩, nc_S_push hH z1 o1⟩ hl
theorem nc_arw : Cond.arrayClass .int ∈ nf_tbl := List.mem_filter.mpr ⟨List.mem_of_getElem? (i := 68) (by decide +kernel), by decide +kernel⟩
theorem nc_newa {cells slots : Nat} {tbl : nc_T} {n : Int32} {N : Nat} (hn : ¬ n < 0) (hN : n.toNatClampNeg = N) (hby : N * 4 ≤ 536870912) (h1 : cells + 1 ≤ d.2.1) (h2 : slots + N ≤ d.2.2) (dg : decode cc pc = .ok (.newarray .int, 2))
    (k : nc_V L d cc own nL ret r S2 (pc + 2) ls (.ref (r + tbl.length) :: st) ((cells + 1, slots + N), tbl ++ [.inl (L.2.1.1, N, .inl (fun _ => 0))])) : nc_V L d cc own nL ret r S2 pc ls (.int n :: st) ((cells, slots), tbl) := by
  intro p l e s m args below meth c H locs la hC hH hl
  have hts := hC.2.2.2.2.2.1
  have hA := (hC.2.2.2.2.2.2.2.2.1.1.2 0 _ rfl).2
  refine va_newaK (atype := .int) hC.1 hC.2.1 (hts _ nc_arw) rfl dg rfl hn hN hby h1 h2 hH.1.1 fun H1 cA e1 z1 o1 hAr hNm => ?_
  have hcA : cA = L.2.1.1 := Option.some.inj (hNm.symm.trans hA)
  subst hcA
  exact k p l e s m args below meth c H1 locs la hC ⟨hH.1.push z1 o1 (by show H1[_]? = some (vp_cell _ _); rw [vp_cell_i]; exact e1), nc_S_push hH z1 o1⟩ hl
theorem nc_newq {cells slots : Nat} {tbl : nc_T} {C : String} {t0 : Nat} {cA0 : ClassId} {n : Int32} {N idx : Nat} (hcl : Cond.classLink own idx C ∈ nf_tbl) (hao : ∀ U, nc_K L U → va_AO C U) (ht : (nf_tys L)[t0]? = some (cA0, .object C)) (hn : ¬ n < 0) (hN : n.toNatClampNeg = N) (hby : N * 4 ≤ 536870912) (h1 : cells + 1 ≤ d.2.1) (h2 : slots + N ≤ d.2.2) (dg : decode cc pc = .ok (.anewarray idx, 3))
    (k : nc_V L d cc own nL ret r S2 (pc + 3) ls (.ref (r + tbl.length) :: st) ((cells + 1, slots + N), tbl ++ [.inl (cA0, N, .inr (.inr (.inr (.inr (fun _ => none)))))])) : nc_V L d cc own nL ret r S2 pc ls (.int n :: st) ((cells, slots), tbl) := by
  intro p l e s m args below meth c H locs la hC hH hl
  have hts := hC.2.2.2.2.2.1
  subst hN
  have hA := (hC.2.2.2.2.2.2.2.2.1.1.2 t0 _ ht).2
  refine W.anew hC.1 hC.2.1 hC.2.2.2.2.1 (hts _ hcl) (va_AO.use (hao _ hC.2.2.2.2.2.2.2.2)) rfl dg rfl hn hby h1 h2 fun cA kA comp f1 f2 f3 f4 => ?_
  have hcA : cA = cA0 := by
    obtain ⟨_, _, _, _, _, g4⟩ := hA
    exact Option.some.inj (f1.symm.trans g4)
  subst hcA
  generalize hH1 : H.push ({ cls := cA, slots := Array.replicate n.toNatClampNeg .null, vm := .none } : Cell) = H1
  have z1 : H1.size = r + tbl.length + 1 := by rw [← hH1, Array.size_push, hH.1.1]
  have e1 : H1[H.size]? = some (arrV cA n.toNatClampNeg (fun _ => .null)) := by rw [← hH1, Array.getElem?_push_size, ← arrV_new]
  have o1 : ∀ q : Nat, q < r + tbl.length → H1[q]? = H[q]? := fun q hq => by rw [← hH1, Array.getElem?_push, if_neg (Nat.ne_of_lt (by rw [hH.1.1]; exact hq))]
  have hsz := hH.1.1
  rw [hsz] at e1
  have k2 := k p l e s m args below meth c H1 locs la hC ⟨hH.1.push z1 o1 (by show H1[_]? = some (vp_cell _ _); rw [vp_cell_q]; exact e1), nc_S_push hH z1 o1⟩ hl
  rw [← hsz] at k2
  exact k2
theorem nc_get {cells slots : Nat} {tbl : nc_T} {i ci : Nat} {fs : List Value} {C : String} {T : u_T} {N k0 idx : Nat} {v : Value} (he : tbl[i]? = some (.inr (ci, fs))) (hc : vwCl[ci]? = some (C, T, N)) (hin : ∀ w ∈ u_ws C T N, w ∈ nf_tbl) (hk : k0 < N) (hl : Cond.fieldLink own idx (T k0).1 (T k0).2.1 (T k0).2.2.1 ∈ nf_tbl) (hv : fs[k0]? = some v) (dg : decode cc pc = .ok (.getfield idx, 3))
    (k : nc_V L d cc own nL ret r S2 (pc + 3) ls (v :: st) ((cells, slots), tbl)) : nc_V L d cc own nL ret r S2 pc ls (.ref (r + i) :: st) ((cells, slots), tbl) := by
  intro p l e s m args below meth c H locs la hC hH hl2
  exact va_get hC.1 hC.2.1 hC.2.2.2.2.2.1 hin hC.2.2.2.2.1 hC.2.2.2.2.2.2.2.2.1.1 (va_P_one (hH.1.2 i _ he)) 0 rfl hc k0 hk (hC.2.2.2.2.2.1 _ hl) (fun _ h => h) hv dg (k p l e s m args below meth c H locs la hC hH hl2)
theorem nc_put {cells slots : Nat} {tbl : nc_T} {i ci : Nat} {fs : List Value} {C : String} {T : u_T} {N k0 idx : Nat} {v : Value} {ty : FieldType} (ty0 : Nat → FieldType) (he : tbl[i]? = some (.inr (ci, fs))) (hc : vwCl[ci]? = some (C, T, N)) (hin : ∀ w ∈ u_ws C T N, w ∈ nf_tbl) (hty : ∀ k, k < N → parseFieldDescriptor (T k).2.2.1 = some (ty0 k)) (hnm : ∀ a, a < N → ∀ b, b < N → a ≠ b → (T a).2.1 ≠ (T b).2.1) (hk : k0 < N) (hl : Cond.fieldLink own idx (T k0).1 (T k0).2.1 (T k0).2.2.1 ∈ nf_tbl)
    (hfin : (T k0).2.2.2 = false) (hd : parseFieldDescriptor (T k0).2.2.1 = some ty) (hn : narrow ty v = v) (hfit : fits ty v = true) (hlen : k0 < fs.length) (dg : decode cc pc = .ok (.putfield idx, 3))
    (k : nc_V L d cc own nL ret r S2 (pc + 3) ls st ((cells, slots), tbl.set i (.inr (ci, fs.set k0 v)))) : nc_V L d cc own nL ret r S2 pc ls (v :: .ref (r + i) :: st) ((cells, slots), tbl) := by
  intro p l e s m args below meth c H locs la hC hH hl2
  have hts := hC.2.2.2.2.2.1
  have hK := hC.2.2.2.2.2.2.2.2.1.1
  have hap := va_apart (own := own) hts hin ty0 hty hnm hK hc
  obtain ⟨r', h1, cell, q1, q2, q3, q4⟩ := hH.1.2 i _ he
  have hr : r' = (C, T, N) := Option.some.inj (h1.symm.trans hc)
  subst hr
  obtain ⟨hS, hfc, kC, hkC, hkind⟩ := hK.1 ci _ hc
  obtain ⟨cf, kf, fi, f, hi, hsl⟩ := hS k0 hk
  have hlay := hts _ (hin _ (u_in_lay hk))
  unfold u_lay at hlay
  rw [if_neg (by rw [hfin]; decide)] at hlay
  have hst := (u_facts hfc hkC (u_lays hts hin hk) hi).1
  have h6 := u_store hfc hkC hkind hlay hi hd hn hfit
  refine W.putK hC.1 hC.2.1 (f := f) ⟨hC.2.2.2.2.1, hts _ hl, ⟨_, _, _, hi⟩, hst⟩ (by rw [q2]; exact h6) q1 q3 (by rw [hsl]; exact k2_hasslot (q4 k0 hk)) rfl rfl dg fun H' e1 e2 e3 => ?_
  rw [hsl] at e1 ⊢
  exact k p l e s m args below meth c H' _ la hC ⟨hH.1.set e2 e3 ⟨_, hc, t_OB.to (V := updV (vp_V fs) k0 v) ⟨_, e1, q2, q3, t_set q4 hap hk v⟩ (fun j _ => vp_updV_set hlen v j)⟩, hH.2.put e2 e3 (Nat.le_add_right r i)⟩ hl2
theorem nc_putF {cells slots : Nat} {tbl : nc_T} {i ci : Nat} {fs : List Value} {C : String} {T : u_T} {N k0 idx : Nat} {v : Value} {ty : FieldType} (ty0 : Nat → FieldType) (he : tbl[i]? = some (.inr (ci, fs))) (hc : vwCl[ci]? = some (C, T, N)) (hin : ∀ w ∈ u_ws C T N, w ∈ nf_tbl) (hty : ∀ k, k < N → parseFieldDescriptor (T k).2.2.1 = some (ty0 k)) (hnm : ∀ a, a < N → ∀ b, b < N → a ≠ b → (T a).2.1 ≠ (T b).2.1) (hk : k0 < N) (hl : Cond.fieldLink own idx (T k0).1 (T k0).2.1 (T k0).2.2.1 ∈ nf_tbl)
    (hfin : (T k0).2.2.2 = true) (hdecl : (T k0).1 = own) (hnm2 : ret = "<init>") (hd : parseFieldDescriptor (T k0).2.2.1 = some ty) (hn : narrow ty v = v) (hfit : fits ty v = true) (hlen : k0 < fs.length) (dg : decode cc pc = .ok (.putfield idx, 3))
    (k : nc_V L d cc own nL ret r S2 (pc + 3) ls st ((cells, slots), tbl.set i (.inr (ci, fs.set k0 v)))) : nc_V L d cc own nL ret r S2 pc ls (v :: .ref (r + i) :: st) ((cells, slots), tbl) := by
  intro p l e s m args below meth c H locs la hC hH hl2
  have hts := hC.2.2.2.2.2.1
  have hown := hC.2.2.2.2.1
  have hK := hC.2.2.2.2.2.2.2.2.1.1
  have hap := va_apart (own := own) hts hin ty0 hty hnm hK hc
  obtain ⟨r', h1, cell, q1, q2, q3, q4⟩ := hH.1.2 i _ he
  have hr : r' = (C, T, N) := Option.some.inj (h1.symm.trans hc)
  subst hr
  obtain ⟨hS, hfc, kC, hkC, hkind⟩ := hK.1 ci _ hc
  obtain ⟨cf, kf, fi, f, hi, hsl⟩ := hS k0 hk
  have hlay := hts _ (hin _ (u_in_lay hk))
  unfold u_lay at hlay
  rw [if_pos hfin] at hlay
  have hst := (u_facts hfc hkC (u_lays hts hin hk) hi).1
  have hcf : m.cls = cf := by
    obtain ⟨_, _, c', _, _, _, -, -, hf', -, -, -, hown2, -⟩ := Cond.laysFinal_spec hlay
    have e1 : c' = cf := by have := hi.symm.trans hf'; simp at this; exact this.1.symm
    rw [hdecl] at hown2
    rw [← e1]; exact Option.some.inj (hown.symm.trans hown2)
  have h6 := u_fits hfc hkC hkind (Or.inr hlay) hi hd hn hfit
  refine W.putFinK hC.1 hC.2.1 hown (hts _ hl) hi hst hcf (by rw [hC.2.2.2.2.2.2.2.1]; exact hnm2) (by rw [q2]; exact h6) q1 q3 (by rw [hsl]; exact k2_hasslot (q4 k0 hk)) rfl rfl dg fun H' e1 e2 e3 => ?_
  rw [hsl] at e1 ⊢
  exact k p l e s m args below meth c H' _ la hC ⟨hH.1.set e2 e3 ⟨_, hc, t_OB.to (V := updV (vp_V fs) k0 v) ⟨_, e1, q2, q3, t_set q4 hap hk v⟩ (fun j _ => vp_updV_set hlen v j)⟩, hH.2.put e2 e3 (Nat.le_add_right r i)⟩ hl2
theorem nc_alen {cells slots : Nat} {tbl : nc_T} {i n : Nat} {f : Nat → Int32} (he : tbl[i]? = some (.inl (L.2.1.1, n, .inl f))) (dg : decode cc pc = .ok (.arraylength, 1))
    (k : nc_V L d cc own nL ret r S2 (pc + 1) ls (.int (Int32.ofNat n) :: st) ((cells, slots), tbl)) : nc_V L d cc own nL ret r S2 pc ls (.ref (r + i) :: st) ((cells, slots), tbl) := by
  intro p l e s m args below meth c H locs la hC hH hl2
  exact W.alen (n := Int32.ofNat n) hC.1 hC.2.1 (hH.1.2 i _ he) ((hC.2.2.2.2.2.2.2.2.1.1.2 0 _ rfl).1 n (fun j => .int (f j))) (by rw [vp_cell_i, arrV_size] <;> rfl) rfl rfl dg (k p l e s m args below meth c H locs la hC hH hl2)
theorem nc_iast {cells slots : Nat} {tbl : nc_T} {i n : Nat} {f : Nat → Int32} {j x : Int32} (he : tbl[i]? = some (.inl (L.2.1.1, n, .inl f))) (hin : vp_in j n) (dg : decode cc pc = .ok (.iastore, 1))
    (k : nc_V L d cc own nL ret r S2 (pc + 1) ls st ((cells, slots), tbl.set i (.inl (L.2.1.1, n, .inl (upd f j.toNatClampNeg x))))) : nc_V L d cc own nL ret r S2 pc ls (.int x :: .int j :: .ref (r + i) :: st) ((cells, slots), tbl) := by
  intro p l e s m args below meth c H locs la hC hH hl2
  refine W.iast hC.1 hC.2.1 (hH.1.2 i _ he) ((hC.2.2.2.2.2.2.2.2.1.1.2 0 _ rfl).1 n (fun j => .int (f j))) (fun q => by cases q) (by show ¬ (j < 0 ∨ (arrV _ _ _).slots.size ≤ _); rw [arrV_size]; exact hin) rfl rfl dg fun H1 e0 z oq => ?_
  refine k p l e s m args below meth c H1 _ la hC ⟨hH.1.set z oq ?_, hH.2.put z oq (Nat.le_add_right r i)⟩ hl2
  show H1[r + i]? = some (vp_cell _ _)
  rw [e0]
  rw [vp_cell_i, vp_cell_i, arrV_store]
  congr 2
  funext q
  by_cases hq : q = j.toNatClampNeg
  · subst hq
    simp [updV, upd]
  · simp [updV, upd, hq]
theorem nc_aast {cells slots : Nat} {tbl : nc_T} {i n t0 qk ci : Nat} {cA : ClassId} {rr : vw_C} {vs : List Value} {f : Nat → Option Nat} {j : Int32} (he : tbl[i]? = some (.inl (cA, n, .inr (.inr (.inr (.inr f)))))) (ht : (nf_tys L)[t0]? = some (cA, .object rr.1)) (hv : tbl[qk]? = some (.inr (ci, vs))) (hc : vwCl[ci]? = some rr) (hin : vp_in j n) (dg : decode cc pc = .ok (.aastore, 1))
    (k : nc_V L d cc own nL ret r S2 (pc + 1) ls st ((cells, slots), tbl.set i (.inl (cA, n, .inr (.inr (.inr (.inr (va_up f j.toNatClampNeg (some (r + qk)))))))))) : nc_V L d cc own nL ret r S2 pc ls (.ref (r + qk) :: .int j :: .ref (r + i) :: st) ((cells, slots), tbl) := by
  intro p l e s m args below meth c H locs la hC hH hl2
  have hK := hC.2.2.2.2.2.2.2.2.1.1
  have hlt : j.toNatClampNeg < n := Nat.not_le.mp fun q => hin (Or.inr q)
  have h0 : ¬ j < 0 := fun q => hin (Or.inl q)
  obtain ⟨r', hr', cellV, g1, g2, g3, -⟩ := hH.1.2 qk _ hv
  have hcls := (hK.1 ci rr hc).2
  obtain ⟨kA, comp, k1, k2, k3, -⟩ := (hK.2 t0 _ ht).2
  have hcomp : comp = L.1.1 ci := Option.some.inj (k3.symm.trans hcls.1)
  subst hcomp
  obtain ⟨kC, hkC, -⟩ := hcls.2
  refine W.aast hC.1 hC.2.1 (hH.1.2 i _ he) (fun q h => by cases h) (fun h => by cases h) k1 k2 rfl hkC ⟨h0, by show _ < (arrV _ _ _).slots.size; rw [arrV_size]; exact hlt⟩ g1 (fun q h => by rw [g3] at h; cases h) (by rw [g2]; exact hkC) (by rw [g2]; exact va_assign hcls) rfl rfl dg fun H1 e0 z oq => ?_
  refine k p l e s m args below meth c H1 _ la hC ⟨hH.1.set z oq ?_, hH.2.put z oq (Nat.le_add_right r i)⟩ hl2
  show H1[r + i]? = some (vp_cell _ _)
  rw [e0]
  rw [vp_cell_q, vp_cell_q, arrV_store]
  congr 2
  funext q
  by_cases hq : q = j.toNatClampNeg
  · subst hq
    simp [updV, va_up, va_rf]
  · simp [updV, va_up, hq]
theorem nc_blind {b : Nat} {as : List Value} {tin : nc_T} : FrameBlind (nc_Pc L b as tin) := by
  intro a U g mk h
  obtain ⟨h1, h2, ⟨⟨h4, h5⟩, h6, h7, h8⟩⟩ := h
  refine ⟨h1, h2, ⟨⟨va_K.moved (u := U) (U := U.calling g mk a) (Vm.Alike.refl U.vm) h4, fun w hw => va_Nw.same (u := U) (U := U.calling g mk a) (by simp only [nf_nw, List.mem_cons, List.not_mem_nil, or_false] at hw; rcases hw with rfl | rfl | rfl | rfl <;> rfl) rfl (h5 w hw)⟩, fun w hw => va_Nw.same (u := U) (U := U.calling g mk a) (by simp only [nc_nw, List.mem_cons, List.not_mem_nil, or_false] at hw; rcases hw with rfl | rfl | rfl | rfl <;> rfl) rfl (h6 w hw), h7.moved (U := U.calling g mk a) (Vm.Alike.refl U.vm), h8.moved (U := U.calling g mk a) (Vm.Alike.refl U.vm)⟩⟩
theorem nc_pre {s : State} {H : Heap} {b : Nat} {as : List Value} {tin : nc_T} (hK : nc_K L s) (hH : nc_H L b tin H) (U : State) (hU : U.heap = H) (hW : s.WarmedH U.vm) : nc_Pc L b as tin as.toArray U := ⟨rfl, by rw [hU]; exact hH, hK.warm hW⟩
/-- behind a call -/
theorem nc_after {p : Program} {l : Launch} {e : Env} {R : Room} {s : State} {m : MethodId} {args : Array Value} {below : List Frame} {meth : Method} {c : Code} {H : Heap} {locs : List Loc} {cells slots mc ms : Nat} {Q : State → Prop} {la : Array Slot} {st0 rest : List Value} {a : Array Value} {b b' : Nat} {pre tin tout : nc_T} (hb : b' = b + pre.length)
    (hr : va_Run p l e R s m args below meth c H locs cells slots mc ms (F0 m pc la st0) rest (nc_Qc L b' tout a) (nc_A b')) (hH : nc_Hp L b (pre ++ tin) s H locs) (hle : tin.length ≤ tout.length)
    (kk : ∀ (H1 : Heap) (locs1 : List Loc), nc_Hp L b (pre ++ tout) s H1 locs1 → W p l e R s m args below meth c H1 locs1 (cells + mc) (slots + ms) Q (F0 m (pc + 3) la rest)) : W p l e R s m args below meth c H locs cells slots Q (F0 m pc la st0) := by
  intro T hT X
  obtain ⟨v', st₀, t, T', Lc, h0, X', hL, e1, e2, ⟨hv, hh, hF⟩, hst⟩ := hr T hT X
  cases hv
  obtain ⟨z1, z2⟩ := hF
  rw [h0] at z1 z2
  subst hb
  have hsz := hH.1.1
  rw [List.length_append] at hsz
  have hS := hH.2
  have hP1 : nc_Hp L b (pre ++ tout) s t.heap (locs ++ Lc) := by
    refine ⟨⟨by rw [hh.1, List.length_append]; omega, fun i x hx => ?_⟩, ⟨Nat.le_trans hS.1 z1, fun q hq hA => ?_, fun x hx => ?_⟩⟩
    · by_cases hi : i < pre.length
      · rw [List.getElem?_append_left hi] at hx
        have h1 := hH.1.2 i x (by rw [List.getElem?_append_left hi]; exact hx)
        exact va_at_kept h1 (z2 (b + i) (by omega) (fun h => by unfold nc_A at h; omega))
      · rw [List.getElem?_append_right (by omega)] at hx
        have h1 := hh.2 _ _ hx
        rw [show b + pre.length + (i - pre.length) = b + i by omega] at h1
        exact h1
    · rw [z2 q (Nat.lt_of_lt_of_le hq hS.1) (fun h => hA (by unfold nc_A at h ⊢; omega))]
      exact hS.2.1 q hq hA
    · rcases List.mem_append.mp hx with h | h
      · exact hS.2.2 x h
      · have := hL x h
        unfold nc_A at this ⊢
        omega
  obtain ⟨t2, a1, b1⟩ := kk T'.heap (locs ++ Lc) (by rw [e1]; exact hP1) T' rfl X'
  exact ⟨t2, hst t2 a1, b1⟩
theorem nc_sub {b : Nat} {pre tin : nc_T} {H : Heap} (h : nc_H L b (pre ++ tin) H) : nc_H L (b + pre.length) tin H := by
  refine ⟨by rw [h.1, List.length_append]; omega, fun i x hx => ?_⟩
  have := h.2 (pre.length + i) x (by rw [List.getElem?_append_right (by omega), show pre.length + i - pre.length = i by omega]; exact hx)
  rw [show b + pre.length + i = b + (pre.length + i) by omega]; exact this
theorem nc_callI {cells slots : Nat} {pre tin tout : nc_T} {d1 : Nat × Nat × Nat} {idx mL : Nat} {y : MethodName} {bytes : ByteArray} (hs : nc_Sp L d1 y bytes mL (r + pre.length) [.ref (r + pre.length)] tin tout) (hk : nf_lk own idx y bytes mL none) (hin : Cond.instanceMethod y ∈ nf_tbl) (hy : y.name = "<init>") (hn : nf_nm y 0) (hle : tin.length ≤ tout.length) (hR : d1.1 + 1 ≤ d.1 ∧ 8 + (mL + 11) + 40 * d1.1 ≤ 40 * d.1) (hW : (st.map fun v => v.category).sum ≤ 8) (h1 : cells + d1.2.1 ≤ d.2.1 ∧ slots + d1.2.2 ≤ d.2.2) (dg : decode cc pc = .ok (.invokespecial idx, 3))
    (k : nc_V L d cc own nL ret r S2 (pc + 3) ls st ((cells + d1.2.1, slots + d1.2.2), pre ++ tout)) : nc_V L d cc own nL ret r S2 pc ls (.ref (r + pre.length) :: st) ((cells, slots), pre ++ tin) := by
  intro p l e s m args below meth c H locs la hC hH hl2
  have hts := hC.2.2.2.2.2.1
  refine nc_after (pre := pre) (tin := tin) (tout := tout) rfl (va_runI (n := 0) (As := []) ⟨hC.1, hC.2.1, hC.2.2.2.1, hC.2.2.2.2.1, hts⟩ (hs l) ⟨callB_of 0 hts (nf_good y bytes mL none hk.2.1) rfl rfl rfl (hts _ hk.2.2) (hts _ hk.1) ⟨hn.1.1, hn.1.2, hn.2⟩ hR, hy, hts _ hin⟩ ⟨nc_blind, nc_pre hC.2.2.2.2.2.2.2.2 (nc_sub hH.1)⟩ rfl rfl hl2.1 rfl (lv_room hW) dg h1) hH hle (fun H1 locs1 hH1 => k p l e s m args below meth c H1 locs1 la hC hH1 hl2)
theorem nc_callIN {cells slots : Nat} {host : String} {pre tin tout : nc_T} {d1 : Nat × Nat × Nat} {idx mL : Nat} {y : MethodName} {bytes : ByteArray} (hs : nc_Sp L d1 y bytes mL (r + pre.length) [.ref (r + pre.length)] tin tout) (hk : Cond.methodLinkNest own idx y host ∈ nc_nw ∧ Cond.code y bytes mL none ∈ nf_tbl ∧ Cond.initialized y.cls ∈ nf_tbl) (hin : Cond.instanceMethod y ∈ nf_tbl) (hy : y.name = "<init>") (hn : nf_nm y 0) (hle : tin.length ≤ tout.length) (hR : d1.1 + 1 ≤ d.1 ∧ 8 + (mL + 11) + 40 * d1.1 ≤ 40 * d.1) (hW : (st.map fun v => v.category).sum ≤ 8) (h1 : cells + d1.2.1 ≤ d.2.1 ∧ slots + d1.2.2 ≤ d.2.2) (dg : decode cc pc = .ok (.invokespecial idx, 3))
    (k : nc_V L d cc own nL ret r S2 (pc + 3) ls st ((cells + d1.2.1, slots + d1.2.2), pre ++ tout)) : nc_V L d cc own nL ret r S2 pc ls (.ref (r + pre.length) :: st) ((cells, slots), pre ++ tin) := by
  intro p l e s m args below meth c H locs la hC hH hl2
  have hts := hC.2.2.2.2.2.1
  refine nc_after (pre := pre) (tin := tin) (tout := tout) rfl (va_runIN (n := 0) (As := []) ⟨hC.1, hC.2.1, hC.2.2.2.1, hC.2.2.2.2.1, hts⟩ (hs l) ⟨va_cnB 0 hts (nf_good y bytes mL none hk.2.1) rfl rfl rfl (hC.2.2.2.2.2.2.2.2.2.1 _ hk.1) (hts _ hk.2.2) ⟨hn.1.1, hn.1.2, hn.2⟩ hR, hy, hts _ hin⟩ ⟨nc_blind, nc_pre hC.2.2.2.2.2.2.2.2 (nc_sub hH.1)⟩ rfl rfl hl2.1 rfl (lv_room hW) dg h1) hH hle (fun H1 locs1 hH1 => k p l e s m args below meth c H1 locs1 la hC hH1 hl2)
theorem nc_callS {cells slots : Nat} {tin tout : nc_T} {d1 : Nat × Nat × Nat} {idx mL : Nat} {y : MethodName} {bytes : ByteArray} {a0 a1 : Value} (hs : nc_Sp L d1 y bytes mL r [a0, a1] tin tout) (hk : nf_lk own idx y bytes mL none) (hst : Cond.static y ∈ nf_tbl) (hn : nf_nm y 2) (hle : tin.length ≤ tout.length) (hR : d1.1 + 1 ≤ d.1 ∧ 8 + (mL + 11) + 40 * d1.1 ≤ 40 * d.1) (hW : (st.map fun v => v.category).sum ≤ 8) (h1 : cells + d1.2.1 ≤ d.2.1 ∧ slots + d1.2.2 ≤ d.2.2) (dg : decode cc pc = .ok (.invokestatic idx, 3))
    (k : nc_V L d cc own nL ret r S2 (pc + 3) ls st ((cells + d1.2.1, slots + d1.2.2), tout)) : nc_V L d cc own nL ret r S2 pc ls (a1 :: a0 :: st) ((cells, slots), tin) := by
  intro p l e s m args below meth c H locs la hC hH hl2
  have hts := hC.2.2.2.2.2.1
  refine nc_after (pre := []) (tin := tin) (tout := tout) rfl (va_runS (n := 2) (As := [a0, a1]) ⟨hC.1, hC.2.1, hC.2.2.2.1, hC.2.2.2.2.1, hts⟩ (hs l) ⟨callB_of 2 hts (nf_good y bytes mL none hk.2.1) rfl rfl rfl (hts _ hk.2.2) (hts _ hk.1) ⟨hn.1.1, hn.1.2, hn.2⟩ hR, hts _ hst⟩ ⟨nc_blind, nc_pre hC.2.2.2.2.2.2.2.2 hH.1⟩ rfl rfl hl2.1 rfl (lv_room hW) dg h1) hH hle (fun H1 locs1 hH1 => k p l e s m args below meth c H1 locs1 la hC hH1 hl2)
theorem nc_start {y : MethodName} {as : List Value} {tin tout : nc_T} (hy : plainName y.cls = true) (hl : (lg_sl as).length ≤ nL) (ho : y.cls = own) (hnm : y.name = ret) {ls0 : List (Option Value)} (hls : lv_args 0 as = nf_prs 0 ls0) (k : nc_V L d cc own nL ret r tout 0 ls0 [] ((0, 0), tin)) : nc_Sp L d y cc nL r as tin tout := by
  intro l
  refine Met.ofW (cc := cc) (maxL := nL) (ret := none) hy rfl ?_
  intro p e s m args below meth c s₁ B hml hv
  obtain ⟨rfl, hH, hK⟩ := hv
  have hts := atoms_spec (ws := nf_ws y cc nL none) B.pre
  have hown : s.vm.findClass own = some m.cls := by rw [← ho]; exact findClass_of_methodNamed B.named
  have hle := lv_entry as (n := nL) hl
  rw [hls] at hle
  rw [lg_entry_eq]
  exact k p l e s m as.toArray below meth c s.heap [] _ ⟨B.exec, B.bytes, B.returns, hml, hown, fun w hw => hts w (List.mem_cons_of_mem _ hw), B.notSynchronized, (name_of_methodNamed B.named B.method).1.trans hnm, hK⟩ ⟨hH, va_S.rf⟩ hle
end NcRows
