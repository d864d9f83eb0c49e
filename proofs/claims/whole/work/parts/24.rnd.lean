/-! a round on both sides -/
theorem m567 (r : Nat → Int32) : upd r 567 (r 567 + 0) = r := by rw [Int32.add_zero, upd_self]
theorem send_sim {S : nf_S} {r : Nat → Int32} {nl na K a s t p : Nat} (hA : ra S 0 r nl na K) (hJ : rj S 0 r na) (hk : rk S) (hd : ¬ nf_I S 0 0 0 = -1) (ha : a < na) (hs : s < 6) (ht : t < 6) (hp : p < 64) :
    (mr_stp r (mf_pack a s t (nI p))).2 = nf_b (cs_send S a s t (nI p)).2 ∧ rj (cs_send S a s t (nI p)).1 0 (mr_stp r (mf_pack a s t (nI p))).1 na ∧ (∀ i, i < 200 → (mr_stp r (mf_pack a s t (nI p))).1 i = r i) ∧ rk (cs_send S a s t (nI p)).1 := by
  have hna := hA.2.1
  have ha30 : a < 30 := by omega
  unfold mr_stp cs_send cs_send2 mr_go
  rw [pq_s ha30 hs ht hp, pq_t ha30 hs ht hp, pq_12 ha30 hs ht hp, pq_p ha30 hs ht hp, cf_num_I (by omega), cf_num_I (by omega), hA.lnk, m567]
  by_cases hl : mf_lnk r (nI s) (nI t) = -1
  · rw [if_pos hl, if_pos hl]
    exact ⟨rfl, hJ, fun _ _ => rfl, hk⟩
  · rw [if_neg hl, if_neg hl]
    have hl2 := hl
    rw [← hA.lnk] at hl2
    obtain ⟨j, _, h2, h3⟩ := cf_btw_some _ _ hl2
    have hnl := hA.1
    rw [hA.2.2.2.2.2.1, cf_num_I (by omega)] at h2
    have h3' : mf_lnk r (nI s) (nI t) = nI j := by rw [← hA.lnk]; exact h3
    rw [h3', cf_num_I (by omega), (hA.2.2.2.2.2.2.2.1 j (by omega)).2.2.1]
    have go : ∀ (T : nf_S) (r1 : Nat → Int32), ra T 0 r1 nl na K → rj T 0 r1 na → rk T → ¬ nf_I T 0 0 0 = -1 → (∀ i, i < 200 → r1 i = r i) →
        (mr_arr (mr_inc r1 566) t a (nI p)).2 = nf_b (cs_arr (cs_inc T 0) a t (nI p)).2 ∧ rj (cs_arr (cs_inc T 0) a t (nI p)).1 0 (mr_arr (mr_inc r1 566) t a (nI p)).1 na ∧ (∀ i, i < 200 → (mr_arr (mr_inc r1 566) t a (nI p)).1 i = r i) ∧ rk (cs_arr (cs_inc T 0) a t (nI p)).1 := by
      intro T r1 hA1 hJ1 hk1 hd1 hlow
      have hm := mr_mid_inc r1 (566 + 0) (by omega) (by omega)
      have hJ2 := hJ1.step (rb_inc (j := 0) hJ1.1 (by decide)) (csq_inc _ _) hm
      have hA2 := hA1.same (cs_same_inc T 0) (fun i hi => hm i (Or.inl hi))
      obtain ⟨q1, q2, q3⟩ := arr_sim hA2 hJ2 ht ha hp (fun e => hk1 a ha30 t ht e)
      exact ⟨q1, q2, fun i hi => (q3 i hi).trans ((hm i (Or.inl hi)).symm.trans (hlow i hi)), rk_arr (S := cs_inc T 0) hk1 ht hd1⟩
    by_cases hki : mf_lk r 2 j = 1
    · rw [if_pos hki, if_pos hki]
      have hm := mr_mid_inc r (566 + 1) (by omega) (by omega)
      have hJ1 := hJ.step (rb_inc (j := 1) hJ.1 (by decide)) (csq_inc _ _) hm
      have hA1 := hA.same (cs_same_inc S 1) (fun i hi => hm i (Or.inl hi))
      have ek := (hJ1.1.1 t ht a ha30).1
      unfold cf_kn
      rw [ek]
      show (if mf_kn (mr_inc r (566 + 1)) t a = -1 then mr_arr (mr_inc (mr_inc r (566 + 1)) 566) t a (nI p) else (mr_inc r (566 + 1), 0)).2 = _ ∧ rj _ 0 (if mf_kn (mr_inc r (566 + 1)) t a = -1 then mr_arr (mr_inc (mr_inc r (566 + 1)) 566) t a (nI p) else (mr_inc r (566 + 1), 0)).1 na ∧ (∀ i, i < 200 → (if mf_kn (mr_inc r (566 + 1)) t a = -1 then mr_arr (mr_inc (mr_inc r (566 + 1)) 566) t a (nI p) else (mr_inc r (566 + 1), 0)).1 i = r i) ∧ _
      by_cases hkn : mf_kn (mr_inc r (566 + 1)) t a = -1
      · have hb : (!(mf_kn (mr_inc r (566 + 1)) t a == -1)) = false := by rw [hkn]; decide
        rw [hb, if_pos hkn]
        simp only [Bool.false_eq_true, if_false]
        exact go (cs_inc S 1) (mr_inc r (566 + 1)) hA1 hJ1 hk hd (fun i hi => (hm i (Or.inl hi)).symm)
      · have hb : (!(mf_kn (mr_inc r (566 + 1)) t a == -1)) = true := by
          have : (mf_kn (mr_inc r (566 + 1)) t a == -1) = false := by simpa using hkn
          rw [this]; rfl
        rw [hb, if_neg hkn]
        simp only [if_true]
        exact ⟨rfl, hJ1, fun i hi => (hm i (Or.inl hi)).symm, hk⟩
    · rw [if_neg hki, if_neg hki]
      exact go S r hA hJ hk hd (fun _ _ => rfl)
/-- the class's step for a transfer -/
def cst (G : Nat → Int32) (X : nf_S × Int32) (e : r3) : nf_S × Int32 :=
  if (cs_send X.1 e.1 e.2.1 e.2.2 (G (e.1 * 6 + e.2.1))).2 = true then ((cs_send X.1 e.1 e.2.1 e.2.2 (G (e.1 * 6 + e.2.1))).1, X.2 + 1) else ((cs_send X.1 e.1 e.2.1 e.2.2 (G (e.1 * 6 + e.2.1))).1, X.2)
theorem cst_1 (G : Nat → Int32) (X : nf_S × Int32) (e : r3) : (cst G X e).1 = (cs_send X.1 e.1 e.2.1 e.2.2 (G (e.1 * 6 + e.2.1))).1 := by
  unfold cst; split <;> rfl
theorem cst_2 (G : Nat → Int32) (X : nf_S × Int32) (e : r3) : (cst G X e).2 = X.2 + nf_b (cs_send X.1 e.1 e.2.1 e.2.2 (G (e.1 * 6 + e.2.1))).2 := by
  unfold cst
  cases (cs_send X.1 e.1 e.2.1 e.2.2 (G (e.1 * 6 + e.2.1))).2 with
  | true => rfl
  | false => simp [nf_b]
def fx (S : nf_S) (F G : Nat → Int32) : Prop := nf_A S 5 10 0 = F ∧ nf_A S 5 11 0 = G
theorem fx.same {S T : nf_S} {F G : Nat → Int32} (h : fx S F G) (e : cs_same S T) : fx T F G := ⟨by rw [← (e.2.2.1 5 10 0 (by decide)).2]; exact h.1, by rw [← (e.2.2.1 5 11 0 (by decide)).2]; exact h.2⟩
theorem stp_cst {S : nf_S} {F G : Nat → Int32} (h : fx S F G) (acc : Int32) {a s t : Nat} (ht : t < 6) : cs_stp S acc a s t = if bt (F (a * 6 + s)) t = true then cst G (S, acc) (a, s, t) else (S, acc) := by
  unfold cs_stp cst
  rw [h.1, h.2, has_I _ (by omega)]
theorem rcv_fold {F G : Nat → Int32} {a s : Nat} : ∀ (m : Nat) (S : nf_S) (acc : Int32) (t : Nat), t + m ≤ 6 → fx S F G → cs_rcv a s m S acc t = (pls (fun t => bt (F (a * 6 + s)) t) a s t m).foldl (cst G) (S, acc)
  | 0, S, acc, t, _, _ => rfl
  | m + 1, S, acc, t, htm, h => by
    unfold cs_rcv
    rw [rcv_fold m _ _ (t + 1) (by omega) (h.same (cs_same_stp S acc a s t)), stp_cst h acc (by omega)]
    unfold pls
    rw [List.range'_succ, List.filter_cons]
    cases hb : bt (F (a * 6 + s)) t with
    | true => simp only [if_true, List.map_cons, List.foldl_cons]
    | false => simp only [Bool.false_eq_true, if_false]
theorem snd_fold {F G : Nat → Int32} {a : Nat} : ∀ (m : Nat) (S : nf_S) (acc : Int32) (s : Nat), fx S F G → cs_snd a m S acc s = ((List.range' s m).flatMap (fun s => pls (fun t => bt (F (a * 6 + s)) t) a s 0 6)).foldl (cst G) (S, acc)
  | 0, S, acc, s, _ => rfl
  | m + 1, S, acc, s, h => by
    unfold cs_snd
    rw [snd_fold m _ _ (s + 1) (h.same (cs_same_rcv a s 6 S acc 0)), rcv_fold 6 S acc 0 (by omega) h, List.range'_succ, List.flatMap_cons, List.foldl_append]
theorem art_fold {F G : Nat → Int32} : ∀ (m : Nat) (S : nf_S) (acc : Int32) (a : Nat), fx S F G → cs_art m S acc a = ((List.range' a m).flatMap (cns F)).foldl (cst G) (S, acc)
  | 0, S, acc, a, _ => rfl
  | m + 1, S, acc, a, h => by
    unfold cs_art
    rw [art_fold m _ _ (a + 1) (h.same (cs_same_snd a 6 S acc 0)), show List.range' a (m + 1) = a :: List.range' (a + 1) m from List.range'_succ, List.flatMap_cons, List.foldl_append, snd_fold 6 S acc 0 h]
    rfl
/-- the reference's step keeps step with the class's over the same transfers -/
theorem fold_sim {G wk : Nat → Int32} {nl na K : Nat} : ∀ (l : List r3) (S : nf_S) (acc : Int32) (r : Nat → Int32) (k : Nat), (∀ e ∈ l, e.1 < na ∧ e.2.1 < 6 ∧ e.2.2 < 6 ∧ ∃ p, p < 64 ∧ G (e.1 * 6 + e.2.1) = nI p) → (∀ j e, l[j]? = some e → wk (k + j) = mf_pack e.1 e.2.1 e.2.2 (G (e.1 * 6 + e.2.1))) →
    ra S 0 r nl na K → rj S 0 r na → rk S → ¬ nf_I S 0 0 0 = -1 →
    (mr_rnd wk l.length r k acc).2 = (l.foldl (cst G) (S, acc)).2 ∧ rj (l.foldl (cst G) (S, acc)).1 0 (mr_rnd wk l.length r k acc).1 na ∧ ra (l.foldl (cst G) (S, acc)).1 0 (mr_rnd wk l.length r k acc).1 nl na K ∧ mr_sf wk l.length r k
  | [], S, acc, r, k, _, _, hA, hJ, _, _ => ⟨rfl, hJ, hA, trivial⟩
  | e :: l, S, acc, r, k, hv, hw, hA, hJ, hk, hd => by
    obtain ⟨ha, hs, ht, p, hp, ep⟩ := hv e List.mem_cons_self
    have hw0 := hw 0 e rfl
    rw [Nat.add_zero, ep] at hw0
    obtain ⟨q1, q2, q3, q4⟩ := send_sim hA hJ hk hd ha hs ht hp
    have hsame := cs_same_send S e.1 e.2.1 e.2.2 (nI p)
    have hA2 := hA.same hsame (fun i hi => (q3 i hi).symm)
    have hd2 : ¬ nf_I (cs_send S e.1 e.2.1 e.2.2 (nI p)).1 0 0 0 = -1 := by rw [← hsame.1 0 0 (by decide)]; exact hd
    have e1 : (cst G (S, acc) e).1 = (cs_send S e.1 e.2.1 e.2.2 (nI p)).1 := by rw [cst_1, ep]
    have e2 : (cst G (S, acc) e).2 = acc + (mr_stp r (wk k)).2 := by rw [cst_2, ep, hw0, q1]
    have e3 : cst G (S, acc) e = ((cs_send S e.1 e.2.1 e.2.2 (nI p)).1, acc + (mr_stp r (wk k)).2) := Prod.ext e1 e2
    have ih := fold_sim l (cs_send S e.1 e.2.1 e.2.2 (nI p)).1 (acc + (mr_stp r (wk k)).2) (mr_stp r (wk k)).1 (k + 1) (fun x hx => hv x (List.mem_cons_of_mem _ hx)) (fun j x hx => by
      have := hw (j + 1) x (by simpa using hx)
      rw [← this]; congr 1; omega) (by rw [hw0]; exact hA2) (by rw [hw0]; exact q2) q4 hd2
    have hc : mr_can r (wk k) := by
      obtain ⟨q, hq, _⟩ := mr_arr_low (h := 0) (a := 0) (p := 0) hA hJ
      refine ⟨nl, na, q, e.1, e.2.2, hq, ha, ht, ?_, ?_⟩
      · rw [hw0]; exact pq_12 (by have := hA.2.1; omega) hs ht hp
      · rw [hw0]; exact pq_t (by have := hA.2.1; omega) hs ht hp
    rw [List.foldl_cons, e3, List.length_cons]
    exact ⟨ih.1, ih.2.1, ih.2.2.1, hc, ih.2.2.2⟩

/-! the reference puts the transfers in order -/
def rp (wk : Nat → Int32) : Nat → List Int32
  | 0 => []
  | k + 1 => wk k :: rp wk k
def insR (v : Int32) : List Int32 → List Int32
  | [] => [v]
  | x :: l => if x >>> (6 &&& 31) ≤ v >>> (6 &&& 31) then v :: x :: l else x :: insR v l
theorem rp_upd (wk : Nat → Int32) (j : Nat) (x : Int32) : ∀ k, k ≤ j → rp (upd wk j x) k = rp wk k
  | 0, _ => rfl
  | k + 1, h => by
    unfold rp
    rw [rp_upd wk j x k (by omega)]
    simp only [upd]
    rw [if_neg (by omega)]
theorem ins_above (v : Int32) : ∀ (k : Nat) (wk : Nat → Int32) (j : Nat), k < j → ms_ins v k wk j = wk j
  | 0, wk, j, h => by simp only [ms_ins, upd]; rw [if_neg (by omega)]
  | k + 1, wk, j, h => by
    unfold ms_ins
    split
    · simp only [upd]; rw [if_neg (by omega)]
    · rw [ins_above v k _ j (by omega)]; simp only [upd]; rw [if_neg (by omega)]
theorem rp_ins (v : Int32) : ∀ (k : Nat) (wk : Nat → Int32), rp (ms_ins v k wk) (k + 1) = insR v (rp wk k)
  | 0, wk => by simp [rp, insR, ms_ins, upd]
  | k + 1, wk => by
    unfold ms_ins
    rw [show rp wk (k + 1) = wk k :: rp wk k from rfl]
    unfold insR
    by_cases h : wk k >>> (6 &&& 31) ≤ v >>> (6 &&& 31)
    · rw [if_pos h, if_pos h]
      show upd wk (k + 1) v (k + 1) :: rp (upd wk (k + 1) v) (k + 1) = _
      rw [rp_upd wk (k + 1) v (k + 1) (Nat.le_refl _)]
      simp only [upd, if_true]
      rfl
    · rw [if_neg h, if_neg h]
      show ms_ins v k (upd wk (k + 1) (wk k)) (k + 1) :: rp (ms_ins v k (upd wk (k + 1) (wk k))) (k + 1) = _
      rw [ins_above v k _ (k + 1) (by omega), rp_ins v k, rp_upd wk (k + 1) _ k (by omega)]
      simp only [upd, if_true]
theorem rp_srt (r : Nat → Int32) : ∀ (V : List Int32) (wk : Nat → Int32) (k : Nat), (∀ j v, V[j]? = some v → r (573 + k + j) = v) → rp (ms_srt r V.length wk k) (k + V.length) = V.foldl (fun l v => insR v l) (rp wk k)
  | [], wk, k, _ => rfl
  | v :: V, wk, k, h => by
    have h0 := h 0 v rfl
    rw [Nat.add_zero] at h0
    show rp (ms_srt r (V.length + 1) wk k) (k + (V.length + 1)) = _
    unfold ms_srt
    rw [show k + (V.length + 1) = (k + 1) + V.length by omega, rp_srt r V _ (k + 1) (fun j x hx => by
      have := h (j + 1) x (by simpa using hx)
      rw [← this]; congr 1; omega), rp_ins, h0]
    rfl
theorem insR_perm (v : Int32) : ∀ l : List Int32, (insR v l).Perm (v :: l)
  | [] => List.Perm.refl _
  | x :: l => by
    unfold insR
    split
    · exact List.Perm.refl _
    · exact ((insR_perm v l).cons x).trans (List.Perm.swap v x l)
theorem insR_sorted (v : Int32) : ∀ l : List Int32, l.Pairwise (fun x y : Int32 => y >>> (6 &&& 31) ≤ x >>> (6 &&& 31)) → (insR v l).Pairwise (fun x y : Int32 => y >>> (6 &&& 31) ≤ x >>> (6 &&& 31))
  | [], _ => List.pairwise_singleton _ _
  | x :: l, h => by
    unfold insR
    obtain ⟨h1, h2⟩ := List.pairwise_cons.mp h
    split
    · rename_i hc
      refine List.pairwise_cons.mpr ⟨fun y hy => ?_, h⟩
      rcases List.mem_cons.mp hy with rfl | hy
      · exact hc
      · exact Int32.le_trans (h1 y hy) hc
    · rename_i hc
      refine List.pairwise_cons.mpr ⟨fun y hy => ?_, insR_sorted v l h2⟩
      rcases List.mem_cons.mp ((insR_perm v l).subset hy) with rfl | hy
      · exact Int32.le_of_lt (Int32.not_le.mp hc)
      · exact h1 y hy
theorem insL : ∀ (V l : List Int32), l.Pairwise (fun x y : Int32 => y >>> (6 &&& 31) ≤ x >>> (6 &&& 31)) → (V.foldl (fun l v => insR v l) l).Pairwise (fun x y : Int32 => y >>> (6 &&& 31) ≤ x >>> (6 &&& 31)) ∧ (V.foldl (fun l v => insR v l) l).Perm (V ++ l)
  | [], l, h => ⟨h, List.Perm.refl _⟩
  | v :: V, l, h => by
    obtain ⟨h1, h2⟩ := insL V (insR v l) (insR_sorted v l h)
    refine ⟨h1, h2.trans ?_⟩
    refine ((insR_perm v l).append_left V).trans ?_
    exact List.perm_middle
theorem rp_get (wk : Nat → Int32) : ∀ (k j : Nat), j < k → (rp wk k).reverse[j]? = some (wk j)
  | 0, j, h => absurd h (by omega)
  | k + 1, j, h => by
    unfold rp
    rw [List.reverse_cons]
    have hl : ∀ k, (rp wk k).length = k := fun k => by
      induction k with
      | zero => rfl
      | succ k ih => unfold rp; rw [List.length_cons, ih]
    rcases Nat.lt_or_ge j k with h1 | h1
    · rw [List.getElem?_append_left (by rw [List.length_reverse, hl]; exact h1)]
      exact rp_get wk k j h1
    · have : j = k := by omega
      subst this
      rw [List.getElem?_append_right (by rw [List.length_reverse, hl]; exact Nat.le_refl _), List.length_reverse, hl, Nat.sub_self]
      rfl
def pkg (g : Nat → Int32) (e : r3) : Int32 := mf_pack e.1 e.2.1 e.2.2 (g (e.1 * 6 + e.2.1))
/-- the work row holds the transfers in the document's order -/
theorem srt_canon {f g r wk : Nat → Int32} {na : Nat} (hq : rq f g r) (hw : rw1 f g na) : r 572 = nI (canon f 30).length ∧ ∀ j e, (canon f 30)[j]? = some e → ms_srt r (canon f 30).length wk 0 j = pkg g e := by
  obtain ⟨Q, hn, hm, h1, h2⟩ := hq
  have hp := rq_perm hn hm
  have hlen := hp.length_eq
  rw [← hlen]
  refine ⟨h1, ?_⟩
  have e1 := rp_srt r (Q.map (pkg g)) wk 0 (fun j v hv => by
    rw [List.getElem?_map] at hv
    cases he : Q[j]? with
    | none => rw [he] at hv; cases hv
    | some e =>
      rw [he] at hv
      obtain ⟨a, s, t⟩ := e
      cases hv
      rw [show 573 + 0 + j = 573 + j by omega]
      exact h2 j a s t he)
  rw [List.length_map, Nat.zero_add] at e1
  obtain ⟨h3, h4⟩ := insL (Q.map (pkg g)) (rp wk 0) List.Pairwise.nil
  rw [← e1] at h3 h4
  have h4' : (rp (ms_srt r Q.length wk 0) Q.length).Perm (Q.map (pkg g)) := by simpa [rp] using h4
  have hval : ∀ e ∈ canon f 30, ∃ p, p < 64 ∧ pkg g e = mf_pack e.1 e.2.1 e.2.2 (nI p) ∧ e.1 < 30 ∧ e.2.1 < 6 ∧ e.2.2 < 6 := by
    intro e he
    obtain ⟨q1, q2, q3, _⟩ := canon_mem.mp he
    obtain ⟨_, ⟨p, hp, ep⟩, _⟩ := hw (e.1 * 6 + e.2.1) (by omega)
    exact ⟨p, hp, by unfold pkg; rw [ep], q1, q2, q3⟩
  have hkey : ∀ e ∈ canon f 30, pkg g e >>> (6 &&& 31) = nI (r3k e) := by
    intro e he
    obtain ⟨p, hp, e2, q1, q2, q3⟩ := hval e he
    rw [e2, pq_6 q1 q2 q3 hp]; rfl
  have hk31 : ∀ e ∈ canon f 30, r3k e < 2 ^ 31 := by
    intro e he
    obtain ⟨q1, q2, q3, _⟩ := canon_mem.mp he
    unfold r3k; omega
  have h5 : (rp (ms_srt r Q.length wk 0) Q.length).reverse = (canon f 30).map (pkg g) := by
    refine List.Perm.eq_of_pairwise (le := fun x y : Int32 => x >>> (6 &&& 31) ≤ y >>> (6 &&& 31)) ?_ (List.pairwise_reverse.mpr h3) ?_ ((List.reverse_perm _).trans (h4'.trans (hp.map _)))
    · intro x y hx hy hxy hyx
      have hx2 := (h4'.trans (hp.map _)).subset (List.mem_reverse.mp hx)
      obtain ⟨e, he, rfl⟩ := List.mem_map.mp hx2
      obtain ⟨e', he', rfl⟩ := List.mem_map.mp hy
      have hkk := Int32.le_antisymm hxy hyx
      rw [hkey e he, hkey e' he'] at hkk
      have h6 := nI_inj (hk31 e he) (hk31 e' he') hkk
      obtain ⟨q1, q2, q3, _⟩ := canon_mem.mp he
      obtain ⟨p1, p2, p3, _⟩ := canon_mem.mp he'
      obtain ⟨a, s, t⟩ := e
      obtain ⟨a', s', t'⟩ := e'
      unfold r3k at h6
      simp only at h6 q1 q2 q3 p1 p2 p3
      have e1 : a = a' := by omega
      have e2 : s = s' := by omega
      have e3 : t = t' := by omega
      rw [e1, e2, e3]
    · refine List.pairwise_map.mpr ?_
      refine List.Pairwise.imp_of_mem ?_ (canon_sorted f 30)
      intro x y hx hy hxy
      rw [hkey x hx, hkey y hy]
      exact nI_le (by omega) (hk31 y hy)
  intro j e he
  have hj : j < Q.length := by rw [hlen]; exact (List.getElem?_eq_some_iff.mp he).1
  have h7 := rp_get (ms_srt r Q.length wk 0) Q.length j hj
  rw [h5, List.getElem?_map, he] at h7
  exact (Option.some.inj h7).symm
