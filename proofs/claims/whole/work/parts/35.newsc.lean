/-! the class's constructor: the four saved nets -/
def lq (b : Nat) : Nat → Nat → (Nat → Option Nat) → (Nat → Option Nat)
  | 0, _, f => f
  | m + 1, k, f => lq b m (k + 1) (va_up f k (some (b + (41 + 35 * k))))
def lns (N : Nat → nc_T) (b : Nat) : Nat → Nat → nc_T
  | 0, _ => []
  | m + 1, k => N (b + (41 + 35 * k)) ++ lns N b m (k + 1)
abbrev fd3 : List Value := [.int 0, .int 0, .null, .null, .null, .null, .null, .null]
abbrev qx (L : nf_L) (f : Nat → Option Nat) : va_E := .inl (L.2.1.2.2, 4, .inr (.inr (.inr (.inr f))))
theorem set_39 {A R M : nc_T} {x x' y : va_E} (hA : A.length = 39) : ((A ++ (x :: y :: R)) ++ M).set 39 x' = A ++ (x' :: y :: (R ++ M)) := by
  rw [List.append_assoc, List.set_append_right _ _ (by omega), show 39 - A.length = 0 by omega]
  rfl
set_option maxRecDepth 100000 in
theorem lp_X5 {L : nf_L} {b : Nat} {A : nc_T} {fs : List Value} {N : Nat → nc_T} (hA : A.length = 39) (h0 : A[0]? = some (.inr (5, fs))) (hf : fs[2]? = some (.ref (b + 39))) (hN : ∀ a, (N a).length = 35 ∧ ∃ g, (N a)[0]? = some (.inr (3, g))) (hs : ∀ a, nc_Sp L (2, 34, 958) yX3_init cX3_init 2 a [.ref a] [.inr (3, fd3)] (N a)) : ∀ (m k : Nat) (f : Nat → Option Nat) (R : nc_T), k + m = 4 → R.length = 35 * k →
    nc_V L (3, 180, 5200) cX5_init RX5 2 "<init>" b (A ++ (qx L (lq b m k f) :: za L 4 :: (R ++ lns N b m k))) 48 [some (.ref b), some (.int (nI k))] [] ((40 + 35 * k, 1336 + 966 * k), A ++ (qx L f :: za L 4 :: R)) := by
  intro m
  induction m with
  | zero =>
    intro k f R hk hR
    have hk4 : k = 4 := by omega
    subst hk4
    rw [show R ++ lns N b 0 4 = R from List.append_nil R]
    refine nc_iln (pc := 48) dX5_init_48 rfl ?_
    refine nc_iconst (pc := 49) (v := nI 4) dX5_init_49 (by decide) ?_
    refine nc_ic_ge (pc := 50) 72 dX5_init_50 (by decide) (fun _ => ?_) (fun h => absurd (by decide) h)
    exact nc_vret (pc := 72) dX5_init_72
  | succ m ih =>
    intro k f R hk hR
    refine nc_iln (pc := 48) dX5_init_48 rfl ?_
    refine nc_iconst (pc := 49) (v := nI 4) dX5_init_49 (by decide) ?_
    refine nc_ic_ge (pc := 50) 72 dX5_init_50 (by decide) (fun h => absurd (nI_lt (show k < 4 by omega) (by decide)) (Int32.not_lt.mpr h)) (fun _ => ?_)
    refine nc_aln (pc := 53) dX5_init_53 rfl ?_
    refine nc_get (pc := 54) (i := 0) (ci := 5) (fs := fs) (k0 := 2) (by rw [List.getElem?_append_left (by omega)]; exact h0) rfl nf_inX5 (by decide) lk_X5_23 hf dX5_init_54 ?_
    refine nc_iln (pc := 57) dX5_init_57 rfl ?_
    refine nc_new (pc := 58) (ci := 3) (fs := fd3) cl_X5_9 is_X3 ini_X3 nf_inX3 tyX3 tyX3_ok rfl (by decide +kernel) (by show 40 + 35 * k + 1 ≤ 180; omega) (by show 1336 + 966 * k + 8 ≤ 5200; omega) dX5_init_58 ?_
    refine nc_dup (pc := 61) dX5_init_61 rfl ?_
    have hl : (A ++ (qx L f :: za L 4 :: R)).length = 41 + 35 * k := by rw [List.length_append, List.length_cons, List.length_cons]; omega
    obtain ⟨hN1, g, hg⟩ := hN (b + (A ++ (qx L f :: za L 4 :: R)).length)
    refine nc_callI (pc := 62) (d := (3, 180, 5200)) (r := b) (st := [.ref (b + (A ++ (qx L f :: za L 4 :: R)).length), .int (nI k), .ref (b + 39)]) (cells := 40 + 35 * k + 1) (slots := 1336 + 966 * k + 8) (d1 := (2, 34, 958)) (pre := A ++ (qx L f :: za L 4 :: R)) (tin := [.inr (3, fd3)]) (tout := N (b + (A ++ (qx L f :: za L 4 :: R)).length)) (hs _) mk_X5_11 im_X3_init rfl nn_X3 (by rw [hN1]; decide) ⟨by decide, Nat.le_of_ble_eq_true rfl⟩ (Nat.le_of_ble_eq_true rfl) ⟨by show 40 + 35 * k + 1 + 34 ≤ 180; omega, by show 1336 + 966 * k + 8 + 958 ≤ 5200; omega⟩ dX5_init_62 ?_
    refine nc_aast (pc := 65) (i := 39) (qk := (A ++ (qx L f :: za L 4 :: R)).length) (ci := 3) (t0 := 2) (n := 4) (cA := L.2.1.2.2) (f := f) (vs := g) (rr := (RX3, TX3, 8)) ?_ rfl ?_ rfl (nf_inI (N := 4) (k := k) (by omega) (by decide)) dX5_init_65 ?_
    · rw [List.getElem?_append_left (by omega), List.getElem?_append_right (by omega), show 39 - A.length = 0 by omega]; rfl
    · rw [List.getElem?_append_right (Nat.le_refl _), Nat.sub_self]; exact hg
    · refine nc_eq (S' := ((40 + 35 * (k + 1), 1336 + 966 * (k + 1)), A ++ (qx L (va_up f k (some (b + (41 + 35 * k)))) :: za L 4 :: (R ++ N (b + (41 + 35 * k)))))) (st' := []) ?_ rfl ?_
      · rw [set_39 hA, nI_clamp (show k < 2 ^ 31 by omega), hl]
        show ((40 + 35 * k + 1 + 34, 1336 + 966 * k + 8 + 958), _) = _
        rw [show 40 + 35 * k + 1 + 34 = 40 + 35 * (k + 1) by omega, show 1336 + 966 * k + 8 + 958 = 1336 + 966 * (k + 1) by omega]
      · refine nc_iincg (pc := 66) (v := nI (k + 1)) dX5_init_66 rfl (nI_succ k).symm (fun o h _ => by have h9 := Option.some.inj h; rw [← h9]; rfl) (by decide) (Nat.le_of_ble_eq_true rfl) ?_
        refine nc_goto (pc := 69) 48 dX5_init_69 (by decide) ?_
        have h9 := ih (k + 1) (va_up f k (some (b + (41 + 35 * k)))) (R ++ N (b + (41 + 35 * k))) (by omega) (by rw [List.length_append, hR, (hN _).1]; omega)
        rw [List.append_assoc] at h9
        exact h9
