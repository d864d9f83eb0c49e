/-! the layout that the constructors make -/
def nb (n : Nat) : Nat := if n = 0 then 1 else 6 + 35 * n
def cof (c h : Nat) : Nat := match c with
  | 0 => 1
  | 1 => 16
  | 2 => 3
  | 3 => 4
  | 4 => 5
  | 5 => 7
  | 6 => 8
  | 7 => 9
  | 8 => 10
  | 9 => 11
  | 10 => 14
  | 11 => 15
  | 12 => 18 + 3 * h
  | _ => 19 + 3 * h
def off (q : nf_Pos) : Nat := match q.1 with
  | 0 => 0
  | 1 => nb q.2.1
  | 2 => nb q.2.1 + 2
  | 3 => nb q.2.1 + 6
  | 4 => nb q.2.1 + (17 + 3 * q.2.2.2)
  | 5 => if q.2.1 = 5 then 36 else nb q.2.1 + 13
  | 6 => 39
  | 7 => nb q.2.1 + 12
  | 8 => 181
  | 9 => if q.2.1 = 5 then q.2.2.1 + 27 else nb q.2.1 + cof q.2.2.1 q.2.2.2
  | _ => if q.2.1 = 0 then 40 else 181 + q.2.1
def lay (D : va_G) (cs : ClassId × ClassId × ClassId) (b : Nat) : nf_L := (D, cs, fun q => b + off q)
set_option maxRecDepth 100000 in
theorem off_all : ∀ p ∈ nf_all, ∀ q ∈ nf_all, off p = off q → p = q := by decide +kernel
theorem lay_inj (D : va_G) (cs : ClassId × ClassId × ClassId) (b : Nat) : nf_inj (lay D cs b) := by
  intro p q hp hq h
  have h : b + off p = b + off q := h
  exact off_all p (nf_all_in hp) q (nf_all_in hq) (by omega)
def s0 : nf_S := ((fun _ c _ => if c = 1 then 10 else if c = 4 then 15 else 0), (fun _ c _ => if c = 0 then cf_fill (fun _ => 0) 5 4 else if c = 12 then cf_fill (fun _ => 0) (-1) 30 else fun _ => 0), (fun x => if x = 1 then r60 else fun _ => 0), (fun _ => 0), (fun k => k + 1))
