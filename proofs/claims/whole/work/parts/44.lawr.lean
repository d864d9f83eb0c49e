/-! THE CLAIM OUT OF ONE WALK OF THE LAW'S BODY. Your part is whole_start (and what it stands on); all else here is the same for every law, but numbers. -/
def R_law : String := "NewsFloodLaw"
def lw_P (b : Addr) (xs : List Int32) (args : Array Value) (s : State) : Prop := args = #[.ref b] ∧ s.IntsAt b xs ∧ xs.length ≤ 2560 ∧ (Jvm.Cond.and given_1 narrow_1).before args s = true
def lw_Q (_ : Array Value) (s : State) (o : Outcome) (t : State) : Prop := o = .returned (some (.int 1)) ∧ Framed s o t [] 600000 7302250
def lw_Z (below : List Frame) (a : Array Value) (s : State) : State → Prop := fun t => ∃ o, t.status = .running ∧ Ended t below o ∧ lw_Q a s o t
/-- the law's own end, with 1 on the stack, nothing written that was there before, its room as the claim has it -/
theorem lw_ret {p : Program} {l : Launch} {e : Env} {s : State} {m : MethodId} {below : List Frame} {meth : Method} {c : Code} {b : Nat} (hx : p.tables.exec = Jvm.exec) (hb : c.code = code) (hr : meth.sig.returnType = ret) (hlocks : meth.locks = false) {pc : Nat} {H : Heap} {ls : Array Slot} (hdg : decode code pc = .ok (.ireturn, 1)) : W p l e room_1 s m #[Value.ref b] below meth c H [] 600000 7302250 (lw_Z below #[Value.ref b] s) (F0 m pc ls [.int 1]) := by
  intro T hT X
  obtain ⟨fs, hret, hrun, hended, hW, hframe⟩ := X.leave (v := some (.int 1)) (hlocks := hlocks) (fun h => by rw [hr] at h; cases h)
  have hmeth' : T.vm.method? m = some meth := X.method'
  refine ⟨T.setFrames fs, ?_, .returned (some (.int 1)), hrun, hended, rfl, ⟨_, rfl⟩, hW, hframe⟩
  jvm_step X.here [X.here.top, hx, hb, hdg, hmeth', hr, ret, narrow_b1]
  (try refine ⟨rfl, ?_⟩); (try refine ⟨rfl, ?_⟩)
  first | (intro acts; rw [hret _ acts rfl rfl rfl]) | rw [hret _ _ rfl rfl rfl]
  exact Steps.refl _
/-- what holds at the law's entry: the machine, the code, the tables' words (any of lw_tbl by 'hts w (by decide +kernel)'), the script of L ints xs at the cell b, what the Statement gives of the start (any of its parts by flat_of_before) -/
def lw_At (p : Program) (s : State) (m : MethodId) (meth : Method) (c : Code) (b L : Nat) (xs : Nat → Int32) : Prop :=
  p.tables.exec = Jvm.exec ∧ c.code = code ∧ meth.sig.returnType = ret ∧ c.maxLocals = 4 ∧ s.vm.findClass R_law = some m.cls ∧ (∀ w ∈ lw_tbl, w.before #[Value.ref b] s = true) ∧ va_X b L xs s s.heap ∧ b < s.heap.size ∧ meth.locks = false ∧ (Jvm.Cond.and given_1 narrow_1).before #[Value.ref b] s = true
/-! the law's rows: the script, the two objects and the place in locals 0 to 3, the world as the layout has it -/
def lj_C (p : Program) (s : State) (m : MethodId) (meth : Method) (c : Code) (sc n : Nat) (xs : Nat → Int32) (L : nf_L) : Prop :=
  p.tables.exec = Jvm.exec ∧ c.code = code ∧ meth.sig.returnType = ret ∧ c.maxLocals = 4 ∧ s.vm.findClass RL = some m.cls ∧ (∀ w ∈ nf_tbl, w.before #[Value.ref sc] s = true) ∧ va_X sc n xs s s.heap ∧ sc < s.heap.size ∧ meth.locks = false ∧ nf_inj L ∧ nf_K L s ∧ (∀ q, nf_Ad L q → nc_A s.heap.size q)
def lj_ls (L : nf_L) (sc : Nat) (x : Int32) : List (Nat × Value) := [(0, .ref sc), (1, .ref (L.2.2 (0, 0, 0, 0))), (2, .ref (L.2.2 (8, 0, 0, 0))), (3, .int x)]
def lj_V (L : nf_L) (sc n : Nat) (xs : Nat → Int32) (x : Int32) (pc : Nat) (st : List Value) (S : nf_S) : Prop :=
  ∀ (p : Program) (l : Launch) (e : Env) (s : State) (m : MethodId) (below : List Frame) (meth : Method) (c : Code) (H : Heap) (locs : List Loc) (la : Array Slot),
    lj_C p s m meth c sc n xs L → nf_H L S H → va_S (nc_A s.heap.size) s.heap H locs → lv_has la 4 (lj_ls L sc x) →
    W p l e room_1 s m #[Value.ref sc] below meth c H locs 186 14223 (lw_Z below #[Value.ref sc] s) (F0 m pc la st)
section LjRows
variable {L : nf_L} {sc n : Nat} {xs : Nat → Int32} {x : Int32} {pc : Nat} {st : List Value} {S : nf_S}
theorem lj_a0 (dg : decode code pc = .ok (.aload_n 0, 1)) (k : lj_V L sc n xs x (pc + 1) (.ref sc :: st) S) : lj_V L sc n xs x pc st S :=
  fun p l e s m below meth c H locs la hC hH hS hl => lv_aload_n hC.1 hC.2.1 dg rfl (lv_at hl 0 rfl) (k p l e s m below meth c H locs la hC hH hS hl)
theorem lj_a1 (dg : decode code pc = .ok (.aload_n 1, 1)) (k : lj_V L sc n xs x (pc + 1) (.ref (L.2.2 (0, 0, 0, 0)) :: st) S) : lj_V L sc n xs x pc st S :=
  fun p l e s m below meth c H locs la hC hH hS hl => lv_aload_n hC.1 hC.2.1 dg rfl (lv_at hl 1 rfl) (k p l e s m below meth c H locs la hC hH hS hl)
theorem lj_a2 (dg : decode code pc = .ok (.aload_n 2, 1)) (k : lj_V L sc n xs x (pc + 1) (.ref (L.2.2 (8, 0, 0, 0)) :: st) S) : lj_V L sc n xs x pc st S :=
  fun p l e s m below meth c H locs la hC hH hS hl => lv_aload_n hC.1 hC.2.1 dg rfl (lv_at hl 2 rfl) (k p l e s m below meth c H locs la hC hH hS hl)
theorem lj_i3 (dg : decode code pc = .ok (.iload_n 3, 1)) (k : lj_V L sc n xs x (pc + 1) (.int x :: st) S) : lj_V L sc n xs x pc st S :=
  fun p l e s m below meth c H locs la hC hH hS hl => lv_iload_n hC.1 hC.2.1 dg rfl (lv_at hl 3 rfl) (k p l e s m below meth c H locs la hC hH hS hl)
theorem lj_ic {k0 : Int} {v : Int32} (dg : decode code pc = .ok (.iconst k0, 1)) (hv : Int32.ofInt k0 = v) (k : lj_V L sc n xs x (pc + 1) (.int v :: st) S) : lj_V L sc n xs x pc st S :=
  fun p l e s m below meth c H locs la hC hH hS hl => lv_iconst hC.1 hC.2.1 dg hv (k p l e s m below meth c H locs la hC hH hS hl)
theorem lj_bi {k0 : Int} {v : Int32} (dg : decode code pc = .ok (.bipush k0, 2)) (hv : (Int8.ofInt k0).toInt32 = v) (k : lj_V L sc n xs x (pc + 2) (.int v :: st) S) : lj_V L sc n xs x pc st S :=
  fun p l e s m below meth c H locs la hC hH hS hl => lv_bipush hC.1 hC.2.1 dg hv (k p l e s m below meth c H locs la hC hH hS hl)
theorem lj_iadd {u v : Int32} (dg : decode code pc = .ok (.iadd, 1)) (k : lj_V L sc n xs x (pc + 1) (.int (u + v) :: st) S) : lj_V L sc n xs x pc (.int v :: .int u :: st) S :=
  fun p l e s m below meth c H locs la hC hH hS hl => lv_iadd hC.1 hC.2.1 dg (k p l e s m below meth c H locs la hC hH hS hl)
theorem lj_isub {u v : Int32} (dg : decode code pc = .ok (.isub, 1)) (k : lj_V L sc n xs x (pc + 1) (.int (u - v) :: st) S) : lj_V L sc n xs x pc (.int v :: .int u :: st) S :=
  fun p l e s m below meth c H locs la hC hH hS hl => lv_isub hC.1 hC.2.1 dg (k p l e s m below meth c H locs la hC hH hS hl)
theorem lj_iand {u v : Int32} (dg : decode code pc = .ok (.iand, 1)) (k : lj_V L sc n xs x (pc + 1) (.int (u &&& v) :: st) S) : lj_V L sc n xs x pc (.int v :: .int u :: st) S :=
  fun p l e s m below meth c H locs la hC hH hS hl => lv_iand hC.1 hC.2.1 dg (k p l e s m below meth c H locs la hC hH hS hl)
theorem lj_not {s : State} {sc : Nat} (h : sc < s.heap.size) : ¬ nc_A s.heap.size sc := fun q => by unfold nc_A at q; omega
theorem lj_sld {j : Nat} (hj : j < n) (hn : n ≤ 2560) (dg : decode code pc = .ok (.iaload, 1)) (k : lj_V L sc n xs x (pc + 1) (.int (xs j) :: st) S) : lj_V L sc n xs x pc (.int (nI j) :: .ref sc :: st) S := by
  intro p l e s m below meth c H locs la hC hH hS hl
  refine va_sld hC.1 hC.2.1 hC.2.2.2.2.2.2.1 hC.2.2.2.2.2.2.2.1 (lj_not hC.2.2.2.2.2.2.2.1) hS (vp_in_nI hj (by omega)) dg ?_
  rw [nI_clamp (show j < 2 ^ 31 by omega)]
  exact k p l e s m below meth c H locs la hC hH hS hl
theorem lj_slen (dg : decode code pc = .ok (.arraylength, 1)) (k : lj_V L sc n xs x (pc + 1) (.int (nI n) :: st) S) : lj_V L sc n xs x pc (.ref sc :: st) S :=
  fun p l e s m below meth c H locs la hC hH hS hl => va_slen hC.1 hC.2.1 hC.2.2.2.2.2.2.1 hC.2.2.2.2.2.2.2.1 (lj_not hC.2.2.2.2.2.2.2.1) hS dg (k p l e s m below meth c H locs la hC hH hS hl)
theorem lj_gt {off : Int} {u v : Int32} (tgt : Nat) (dg : decode code pc = .ok (.if_icmp .gt off, 3)) (ht : (pc : Int) + off = (tgt : Int)) (kt : v < u → lj_V L sc n xs x tgt st S) (kf : ¬ v < u → lj_V L sc n xs x (pc + 3) st S) : lj_V L sc n xs x pc (.int v :: .int u :: st) S :=
  fun p l e s m below meth c H locs la hC hH hS hl => lv_icmp_gt hC.1 hC.2.1 dg ht (fun h => kt h p l e s m below meth c H locs la hC hH hS hl) (fun h => kf h p l e s m below meth c H locs la hC hH hS hl)
theorem lj_eq {off : Int} {z : Int32} (tgt : Nat) (dg : decode code pc = .ok (.if_icmp .eq off, 3)) (ht : (pc : Int) + off = (tgt : Int)) (kt : lj_V L sc n xs x tgt st S) : lj_V L sc n xs x pc (.int z :: .int z :: st) S :=
  fun p l e s m below meth c H locs la hC hH hS hl => lv_icmp_eq hC.1 hC.2.1 dg ht (fun _ => kt p l e s m below meth c H locs la hC hH hS hl) (fun h => absurd rfl h)
theorem lj_lcmp {z : Int64} (dg : decode code pc = .ok (.lcmp, 1)) (kt : lj_V L sc n xs x (pc + 1) (.int 0 :: st) S) : lj_V L sc n xs x pc (.long z :: .long z :: st) S := by
  intro p l e s m below meth c H locs la hC hH hS hl
  refine W.lcmp hC.1 hC.2.1 dg ?_
  rw [show lg_cmp z z = 0 by simp [lg_cmp]]
  exact kt p l e s m below meth c H locs la hC hH hS hl
theorem lj_ifeq {off : Int} (tgt : Nat) (dg : decode code pc = .ok (.ifCond .eq off, 3)) (ht : (pc : Int) + off = (tgt : Int)) (kt : lj_V L sc n xs x tgt st S) : lj_V L sc n xs x pc (.int 0 :: st) S :=
  fun p l e s m below meth c H locs la hC hH hS hl => lv_if_eq hC.1 hC.2.1 dg ht (fun _ => kt p l e s m below meth c H locs la hC hH hS hl) (fun h => absurd rfl h)
theorem lj_goto {off : Int} (tgt : Nat) (dg : decode code pc = .ok (.goto off, 3)) (ht : (pc : Int) + off = (tgt : Int)) (k : lj_V L sc n xs x tgt st S) : lj_V L sc n xs x pc st S :=
  fun p l e s m below meth c H locs la hC hH hS hl => lv_goto hC.1 hC.2.1 dg ht (k p l e s m below meth c H locs la hC hH hS hl)
theorem lj_iinc {v : Int32} (dg : decode code pc = .ok (.iinc 3 5, 3)) (hv : x + Int32.ofInt 5 = v) (k : lj_V L sc n xs v (pc + 3) st S) : lj_V L sc n xs x pc st S :=
  fun p l e s m below meth c H locs la hC hH hS hl => lv_iinc (k := 3) (lv' := [(3, .int v), (0, .ref sc), (1, .ref (L.2.2 (0, 0, 0, 0))), (2, .ref (L.2.2 (8, 0, 0, 0)))]) hC.1 hC.2.1 dg hl rfl hv (by decide) rfl (fun la hl => k p l e s m below meth c H locs la hC hH hS (lv_sub hl [1, 2, 3, 0] rfl))
/-- an argument: script[i + k] -/
theorem lj_arg {i kn : Nat} {k0 : Int} (hi : i + kn < n) (hn : n ≤ 2560) (hk : Int32.ofInt k0 = nI kn) (d1 : decode code pc = .ok (.aload_n 0, 1)) (d2 : decode code (pc + 1) = .ok (.iload_n 3, 1)) (d3 : decode code (pc + 1 + 1) = .ok (.iconst k0, 1)) (d4 : decode code (pc + 1 + 1 + 1) = .ok (.iadd, 1)) (d5 : decode code (pc + 1 + 1 + 1 + 1) = .ok (.iaload, 1)) (k : lj_V L sc n xs (nI i) (pc + 1 + 1 + 1 + 1 + 1) (.int (xs (i + kn)) :: st) S) : lj_V L sc n xs (nI i) pc st S := by
  refine lj_a0 d1 (lj_i3 d2 (lj_ic d3 hk (lj_iadd d4 ?_)))
  rw [nI_add]
  exact lj_sld hi hn d5 k
theorem lj_after {p : Program} {l : Launch} {e : Env} {R : Room} {s : State} {m : MethodId} {args : Array Value} {below : List Frame} {meth : Method} {c : Code} {H : Heap} {locs : List Loc} {cells slots : Nat} {Q : State → Prop} {la : Array Slot} {st0 rest : List Value} {a : Array Value} {v : Option Value} {S1 : nf_S} {A : Nat → Prop} (hA : ∀ q, nf_Ad L q → A q)
    (hr : CallRun p l e R s m args below meth c H locs cells slots 0 0 (F0 m pc la st0) rest (nf_Qc L v S1 a) (nf_Ad L)) (hS : va_S A s.heap H locs)
    (kk : ∀ (H1 : Heap) (locs1 : List Loc), nf_H L S1 H1 → va_S A s.heap H1 locs1 → W p l e R s m args below meth c H1 locs1 cells slots Q (F0 m (pc + 3) la (v.toList ++ rest))) : W p l e R s m args below meth c H locs cells slots Q (F0 m pc la st0) := by
  intro T hT X
  obtain ⟨v', st₀, t, T', Lc, h0, X', hL, e1, ⟨hv, hh, hF⟩, hst⟩ := hr T hT X
  cases hv
  have hS1 : va_S A s.heap t.heap (locs ++ Lc) := by
    obtain ⟨z1, z2⟩ := hF
    rw [h0] at z1 z2
    refine ⟨Nat.le_trans hS.1 z1, fun q hq hA1 => ?_, fun x hx => ?_⟩
    · rw [z2 q (Nat.lt_of_lt_of_le hq hS.1) (fun h => hA1 (hA q h))]
      exact hS.2.1 q hq hA1
    · rcases List.mem_append.mp hx with h | h
      · exact hS.2.2 x h
      · exact hA _ (hL x h)
  obtain ⟨t2, a1, b1⟩ := kk t.heap (locs ++ Lc) hh hS1 T' e1 X'
  exact ⟨t2, hst t2 a1, b1⟩
theorem lj_call {q : nf_Pos} {ci : Nat} {fs : List Value} {t : vw_C} {d1 idx mL nn : Nat} {y : MethodName} {bytes : ByteArray} {rt : Option FieldType} {as : List Value} {v : Option Value} {S1 : nf_S} (hs : nf_Sp L d1 y bytes mL rt (.ref (L.2.2 q) :: as) S v S1) (hq : nf_ok q) (he : nf_cell L S q = .inr (ci, fs)) (hc : vwCl[ci]? = some t) (hk : nf_lk RL idx y bytes mL rt) (hin : Cond.instanceMethod y ∈ nf_tbl) (hse : Cond.selects t.1 y y ∈ nf_tbl) (hn : nf_nm y nn) (ha : as.length = nn) (hR : d1 + 1 ≤ 9 ∧ 8 + (mL + 11) + 40 * d1 ≤ 326) (hW : (st.map fun v => v.category).sum ≤ 8) (dg : decode code pc = .ok (.invokevirtual idx, 3))
    (k : lj_V L sc n xs x (pc + 3) (v.toList ++ st) S1) : lj_V L sc n xs x pc (as.reverse ++ .ref (L.2.2 q) :: st) S := by
  intro p l e s m below meth c H locs la hC hH hS hl
  have hts := hC.2.2.2.2.2.1
  have hK := hC.2.2.2.2.2.2.2.2.2.2.1
  have hJ := hC.2.2.2.2.2.2.2.2.2.1
  exact lj_after hC.2.2.2.2.2.2.2.2.2.2.2 (W.runV (n := nn) ⟨hC.1, hC.2.1, hC.2.2.2.1, hC.2.2.2.2.1, hts⟩ (hs l) ⟨nf_cb hts hk hn hR, hts _ hin, hts _ hse⟩ ⟨nf_blind, nf_recv hK hH hq he hc, nf_pre hJ hK hH⟩ rfl ha hl.1 rfl (lv_room hW) dg ⟨Nat.le_of_ble_eq_true rfl, Nat.le_of_ble_eq_true rfl⟩) hS
    (fun H1 locs1 hH1 hS1 => k p l e s m below meth c H1 locs1 la hC hH1 hS1 hl)
theorem lj_end : lj_V L sc n xs x 746 [] S := by
  intro p l e s m below meth c H locs la hC hH hS hl
  refine lv_iconst (v := 1) hC.1 hC.2.1 dL_law_746 (by decide) ?_
  refine va_forget (fun q hq => hS.2.2 q hq) ?_
  refine W.widen (k := 600000) (n := 7302250) (Nat.le_of_ble_eq_true rfl) (Nat.le_of_ble_eq_true rfl) ?_
  exact lw_ret hC.1 hC.2.1 hC.2.2.1 hC.2.2.2.2.2.2.2.2.1 dL_law_747
theorem lj_in {dflt lo hi : Int} {offs : Array Int} {len : Nat} {u : Int32} {off : Int} (tgt : Nat) (dg : decode code pc = .ok (.tableswitch dflt lo hi offs, len)) (h1 : ¬ u.toInt < lo) (h2 : ¬ hi < u.toInt) (ho : offs[(u.toInt - lo).toNat]? = some off) (ht : (pc : Int) + off = (tgt : Int)) (k : lj_V L sc n xs x tgt st S) : lj_V L sc n xs x pc (.int u :: st) S :=
  fun p l e s m below meth c H locs la hC hH hS hl => lv_tableIn hC.1 hC.2.1 dg h1 h2 ho ht (k p l e s m below meth c H locs la hC hH hS hl)
theorem lj_out {dflt lo hi : Int} {offs : Array Int} {len : Nat} {u : Int32} (tgt : Nat) (dg : decode code pc = .ok (.tableswitch dflt lo hi offs, len)) (h : u.toInt < lo ∨ hi < u.toInt) (ht : (pc : Int) + dflt = (tgt : Int)) (k : lj_V L sc n xs x tgt st S) : lj_V L sc n xs x pc (.int u :: st) S :=
  fun p l e s m below meth c H locs la hC hH hS hl => lv_tableOut hC.1 hC.2.1 dg h ht (k p l e s m below meth c H locs la hC hH hS hl)
theorem lj_cmp {i : Nat} (hn : n ≤ 2560) (hi : i ≤ 5000) : nI n - nI 5 < nI i ↔ n < i + 5 := by
  rw [Int32.lt_iff_toInt_lt, pk_sub_toInt (by omega) (by omega), nI_toInt (by omega)]
  omega
theorem lj_head {i : Nat} (hn : n ≤ 2560) (hi : i ≤ 5000) (kt : n < i + 5 → lj_V L sc n xs (nI i) 746 [] S) (kf : i + 5 ≤ n → lj_V L sc n xs (nI i) 26 [] S) : lj_V L sc n xs (nI i) 18 [] S := by
  refine lj_i3 (pc := 18) dL_law_18 (lj_a0 (pc := 19) dL_law_19 (lj_slen (pc := 20) dL_law_20 (lj_ic (pc := 21) (v := nI 5) dL_law_21 (by decide) (lj_isub (pc := 22) dL_law_22 ?_))))
  exact lj_gt (pc := 23) 746 dL_law_23 (by decide) (fun h => kt ((lj_cmp hn hi).mp h)) (fun h => kf (by have := mt (lj_cmp hn hi).mpr h; omega))
theorem lj_next {i : Nat} (k : lj_V L sc n xs (nI (i + 5)) 18 [] S) : lj_V L sc n xs (nI i) 740 [] S := by
  refine lj_iinc (pc := 740) (v := nI (i + 5)) dL_law_740 (by rw [show Int32.ofInt 5 = nI 5 from by decide, nI_add]) ?_
  exact lj_goto (pc := 743) 18 dL_law_743 (by decide) k
end LjRows
