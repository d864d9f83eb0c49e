/-! the law from its entry -/
theorem cl_L_7 : Cond.classLink RL 7 RX5 ∈ nf_tbl := List.mem_filter.mpr ⟨List.mem_of_getElem? (i := 30) (by decide +kernel), by decide +kernel⟩
theorem cl_L_10 : Cond.classLink RL 10 RX6 ∈ nf_tbl := List.mem_filter.mpr ⟨List.mem_of_getElem? (i := 476) (by decide +kernel), by decide +kernel⟩
theorem t5_len (L : nf_L) (b : Nat) : (t5 L b).length = 181 := by
  unfold t5
  have h : ∀ (m k : Nat), (lns (fun a => nc_oX3 L a) b m k).length = 35 * m := by
    intro m
    induction m with
    | zero => intro k; rfl
    | succ m ih =>
      intro k
      show (nc_oX3 L _ ++ lns (fun a => nc_oX3 L a) b m (k + 1)).length = _
      rw [List.length_append, oX3_len, ih]; omega
  have h4 : (nc_oX4 L (b + 36)).length = 3 := rfl
  rw [List.length_append, List.length_cons, List.length_append, oX3_len, h4, List.length_cons, List.length_cons, List.nil_append, h]
set_option maxHeartbeats 4000000 in
set_option maxRecDepth 100000 in
theorem whole_start {p : Program} {e : Env} {s : State} {m : MethodId} {below : List Frame} {meth : Method} {c : Code} (l : Launch) (hflags : l.flags = flags0) {b L : Nat} {xs : Nat → Int32} (hL : L ≤ 2560) (C0 : lw_At p s m meth c b L xs) : W p l e room_1 s m #[Value.ref b] below meth c s.heap [] 0 0 (lw_Z below #[Value.ref b] s) (entryFrame m ([Value.ref b] : List Value).toArray 4) := by
  obtain ⟨hx, hb, hr, hml, hown, hts, hX, hbl, hlocks, hgv⟩ := C0
  have hown : s.vm.findClass RL = some m.cls := hown
  have htf : ∀ w ∈ nf_tbl, w.before #[Value.ref b] s = true := fun w hw => hts w (List.mem_filter.mp hw).1
  obtain ⟨D, cs, hKall⟩ := lw_K hts
  have hK := hKall s.heap.size
  generalize hLe : lay D cs s.heap.size = Ly at hK
  have hl := lv_entry ([.ref b]) (n := 4) (Nat.le_of_ble_eq_true rfl)
  rw [lg_entry_eq]
  generalize (lg_sl ([.ref b]) ++ List.replicate (4 - (lg_sl ([.ref b])).length) Slot.unset).toArray = la at hl ⊢
  have hl : lv_has la 4 [(0, .ref b)] := hl
  have hKn5 := hK.1.1.1 5 _ rfl
  have hKn6 := hK.1.1.1 6 _ rfl
  have hH0 : nc_Hp Ly s.heap.size [] s s.heap [] := ⟨⟨rfl, fun i x h => by simp at h⟩, va_S.rf⟩
  have h5 : nc_Sp Ly (3, 180, 5200) yX5_init cX5_init 2 s.heap.size [.ref s.heap.size] [.inr (5, [.null, .null, .null, .int 0, .null])] (t5 Ly s.heap.size) := sc_X5
  refine W.newcK hx hb hown (htf _ cl_L_7) (htf _ is_X5) (htf _ ini_X5) rfl dL_law_0 (Nat.le_of_ble_eq_true rfl) (Nat.le_of_ble_eq_true rfl) hKn5.2.1 rfl fun H1 kC hkC e1 z1 o1 => ?_
  have hH1 : nc_Hp Ly s.heap.size [.inr (5, [.null, .null, .null, .int 0, .null])] s H1 [] := ⟨hH0.1.push z1 o1 ⟨_, rfl, (u_born tyX5 htf nf_inX5 hKn5 hkC e1 tyX5_ok).to (by decide +kernel)⟩, nc_S_push hH0 z1 o1⟩
  refine lv_dup (pc := 3) hx hb dL_law_3 rfl ?_
  refine nc_after (pc := 4) (pre := []) (tin := [.inr (5, [.null, .null, .null, .int 0, .null])]) (tout := t5 Ly s.heap.size) rfl (va_runI (n := 0) (As := []) (rest := [.ref s.heap.size]) ⟨hx, hb, hml, hown, htf⟩ (h5 l) ⟨callB_of 0 htf (nf_good yX5_init cX5_init 2 none mk_L_9.2.1) rfl rfl rfl (htf _ mk_L_9.2.2) (htf _ mk_L_9.1) ⟨nm_X5_init.1.1, nm_X5_init.1.2, nm_X5_init.2⟩ ⟨Nat.le_of_ble_eq_true rfl, Nat.le_of_ble_eq_true rfl⟩, rfl, htf _ im_X5_init⟩ ⟨nc_blind, nc_pre hK hH1.1⟩ rfl rfl hl.1 rfl (lv_room (Nat.le_of_ble_eq_true rfl)) dL_law_4 ⟨Nat.le_of_ble_eq_true rfl, Nat.le_of_ble_eq_true rfl⟩) hH1 (by rw [t5_len]; decide) (fun H2 locs2 hH2 => ?_)
  rw [List.nil_append] at hH2
  refine lv_astore_n (pc := 7) (lv' := [(1, .ref s.heap.size), (0, .ref b)]) hx hb dL_law_7 rfl hl (by decide) rfl (fun la hl => ?_)
  have hle := t5_len Ly s.heap.size
  generalize hMe : t5 Ly s.heap.size = M at hle hH2
  refine W.newcK hx hb hown (htf _ cl_L_10) (htf _ is_X6) (htf _ ini_X6) rfl dL_law_8 (Nat.le_of_ble_eq_true rfl) (Nat.le_of_ble_eq_true rfl) hKn6.2.1 hH2.1.1 fun H3 kC hkC e1 z1 o1 => ?_
  have hH3 : nc_Hp Ly s.heap.size (M ++ [.inr (6, [.null, .null, .int 0, .null, .null])]) s H3 locs2 := ⟨hH2.1.push z1 o1 ⟨_, rfl, (u_born tyX6 htf nf_inX6 hKn6 hkC e1 tyX6_ok).to (by decide +kernel)⟩, nc_S_push hH2 z1 o1⟩
  refine lv_dup (pc := 11) hx hb dL_law_11 rfl ?_
  refine nc_after (pc := 12) (pre := M) (tin := [.inr (6, [.null, .null, .int 0, .null, .null])]) (tout := t6 Ly (s.heap.size + M.length) r60) rfl (va_runI (n := 0) (As := []) (rest := [.ref (s.heap.size + M.length)]) ⟨hx, hb, hml, hown, htf⟩ ((sc_X6 (L := Ly) (b := s.heap.size + M.length)) l) ⟨callB_of 0 htf (nf_good yX6_init cX6_init 2 none mk_L_12.2.1) rfl rfl rfl (htf _ mk_L_12.2.2) (htf _ mk_L_12.1) ⟨nm_X6_init.1.1, nm_X6_init.1.2, nm_X6_init.2⟩ ⟨Nat.le_of_ble_eq_true rfl, Nat.le_of_ble_eq_true rfl⟩, rfl, htf _ im_X6_init⟩ ⟨nc_blind, nc_pre hK (nc_sub hH3.1)⟩ rfl rfl hl.1 rfl (lv_room (Nat.le_of_ble_eq_true rfl)) dL_law_12 ⟨Nat.le_of_ble_eq_true rfl, Nat.le_of_ble_eq_true rfl⟩) hH3 (Nat.le_of_ble_eq_true rfl) (fun H4 locs4 hH4 => ?_)
  refine lv_astore_n (pc := 15) (lv' := [(2, .ref (s.heap.size + M.length)), (1, .ref s.heap.size), (0, .ref b)]) hx hb dL_law_15 rfl hl (by decide) rfl (fun la hl => ?_)
  refine lv_iconst (pc := 16) (v := nI 0) hx hb dL_law_16 (by decide) ?_
  refine lv_istore_n (pc := 17) (lv' := [(3, .int (nI 0)), (2, .ref (s.heap.size + M.length)), (1, .ref s.heap.size), (0, .ref b)]) hx hb dL_law_17 rfl hl (by decide) rfl (fun la9 hl9 => ?_)
  refine W.widen (k := 186) (n := 14223) (Nat.le_of_ble_eq_true rfl) (Nat.le_of_ble_eq_true rfl) ?_
  rw [hle] at hl9 hH4
  subst hMe
  subst hLe
  have hHf : nf_H (lay D cs s.heap.size) s0 H4 := by
    refine lay_H (fun i x hx => ?_) (fun i x hx => ?_)
    · exact hH4.1.2 i x (by rw [List.getElem?_append_left ((List.getElem?_eq_some_iff.mp hx).1)]; exact hx)
    · have h9 := hH4.1.2 (181 + i) x (by rw [List.getElem?_append_right (by rw [hle]; omega), hle, show 181 + i - 181 = i by omega]; exact hx)
      rw [← Nat.add_assoc] at h9
      exact h9
  have hl2 : lv_has la9 4 (lj_ls (lay D cs s.heap.size) b (nI 0)) := lv_sub hl9 [3, 2, 1, 0] rfl
  exact lj_loop hL L 0 0 s0 (by omega) (by omega) (Nat.le_refl 0) inv0 p l e s m below meth c H4 locs4 la9 ⟨hx, hb, hr, hml, hown, htf, hX, hbl, hlocks, lay_inj D cs s.heap.size, hK.1, fun q h => by obtain ⟨r, -, hq⟩ := h; rw [hq]; exact Nat.le_add_right _ _⟩ hHf hH4.2 hl2
