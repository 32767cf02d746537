/-! the model: small methods -/
theorem ix12 {x y : Int32} {a b : Nat} (hx : x = nI a) (hy : y = nI b) : 12 * x + y = nI (12 * a + b) := by
  rw [hx, hy, show (12 : Int32) = nI 12 from rfl, pk_mul, nI_add]
theorem ix12b {x y : Int32} {a b : Nat} (hx : x = nI a) (hy : y = nI b) : 12 * x + y + 1 = nI (12 * a + (b + 1)) := by
  rw [ix12 hx hy, nI_1]; rfl
theorem ix12k {x y : Int32} {a b c : Nat} (hx : x = nI a) (hy : y = nI b) : 12 * x + y + nI c = nI (12 * a + (b + c)) := by
  rw [ix12 hx hy, nI_add, Nat.add_assoc]
def sx_in (x a b : Int32) : Int32 := if x < a then 0 else if b < x then 0 else 1
def pf_owe (N : MJ) (g a b : Nat) (x : Int64) : MJ := uJ N g (12 * a + b) (N g (12 * a + b) + x)
def ps_on (P : MI) (N : MJ) (i k : Nat) (z : Int32) : MJ :=
  let a := tn (P 20 (12 * i + k)); let b := tn (P 20 (12 * i + (k + 1))); let x := z.toInt64 * (P 21 (12 * i + k)).toInt64
  if P 17 i ≤ nI k then pf_owe (pf_owe (pf_owe N 1 a b x) 1 b a (-x)) 2 a b x else pf_owe (pf_owe (pf_owe (pf_owe N 1 a b x) 1 b a (-x)) 2 a b x) 2 b a (-x)
def ps_fee (P : MI) (b : Nat) (x : Int32) : Int64 := x.toInt64 * (P 6 b).toInt64 / 1000
def ps_lim (P : MI) (i j : Nat) : Int64 := if P 4 0 = 0 then (P 10 (12 * i + j)).toInt64 else if P 11 (12 * i + j) = 0 then (P 10 (12 * i + j)).toInt64 else 2 * (P 10 (12 * i + j)).toInt64
def ps_can (P : MI) (N : MJ) (a c : Nat) (x : Int32) : Int32 := if nI a = nI c then 0 else if 0 ≤ lg_cmp (N 5 c) 1000000000000 then 0 else if 0 < lg_cmp (N 1 (12 * a + c) + x.toInt64 + N 5 c) (ps_lim P c a) then 0 else 1
theorem sx_in_bo (x a b : Int32) : hw_bo (sx_in x a b) := by
  unfold sx_in
  repeat' split
  all_goals first | exact Or.inl rfl | exact Or.inr rfl
def sx_br2 (P : MI) (x y : Int32) : Int32 := if sx_in x 0 (P 0 0 - 1) = 0 then 0 else if sx_in y 0 (P 0 0 - 1) = 0 then 0 else 1
