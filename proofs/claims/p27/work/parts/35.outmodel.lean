/-! the model: what is called from outside -/
theorem in_c {x M : Int32} {n : Nat} (hM : M.toInt = n) (hn : n < 2 ^ 31) (h : ¬ sx_in x 0 M = 0) : x = nI (tn x) ∧ tn x ≤ n := by
  unfold sx_in at h
  by_cases c : x < 0
  · rw [if_pos c] at h; exact absurd rfl h
  · rw [if_neg c] at h
    by_cases c2 : M < x
    · rw [if_pos c2] at h; exact absurd rfl h
    · obtain ⟨j, j1, j2⟩ := nI_of2 hM c (Int32.not_lt.mp c2)
      subst j2
      have : tn (nI j) = j := nI_clamp (by omega)
      rw [this]
      exact ⟨rfl, j1⟩
theorem in_n {x c9 : Int32} {n : Nat} (hc : c9 = nI n) (hn : n < 2 ^ 31) (h : ¬ sx_in x 0 (c9 - 1) = 0) : x = nI (tn x) ∧ tn x < n := by
  rcases Nat.eq_zero_or_pos n with z | z
  · subst z
    exfalso
    apply h
    rw [hc]
    unfold sx_in
    by_cases c : x < 0
    · rw [if_pos c]
    · rw [if_neg c, if_pos]
      have : (nI 0 - 1 : Int32) = -1 := by decide
      rw [this]
      exact Int32.lt_of_lt_of_le (by decide : (-1 : Int32) < 0) (Int32.not_lt.mp c)
  · obtain ⟨k, rfl⟩ : ∃ k, n = k + 1 := ⟨n - 1, by omega⟩
    have e : c9 - 1 = nI k := by rw [hc]; exact nI_pred _
    rw [e] at h
    obtain ⟨h1, h2⟩ := in_c (M := nI k) (n := k) (nI_toInt (by omega)) (by omega) h
    exact ⟨h1, by omega⟩
theorem br2_n {P : MI} {x y : Int32} {n : Nat} (hc : P 0 0 = nI n) (hn : n < 2 ^ 31) (h : ¬ sx_br2 P x y = 0) : (x = nI (tn x) ∧ tn x < n) ∧ (y = nI (tn y) ∧ tn y < n) := by
  unfold sx_br2 at h
  by_cases c : sx_in x 0 (P 0 0 - 1) = 0
  · rw [if_pos c] at h; exact absurd rfl h
  · rw [if_neg c] at h
    by_cases c2 : sx_in y 0 (P 0 0 - 1) = 0
    · rw [if_pos c2] at h; exact absurd rfl h
    · exact ⟨in_n hc hn c, in_n hc hn c2⟩
def ps_broker (P : MI) (N : MJ) (x y z : Int32) (nb : Nat) : Int32 × MI × MJ := if sx_in x 0 7 = 0 then (0, uI P 40 0 1, N) else if sx_in y 0 1000000 = 0 then (0, uI P 40 0 2, N) else if sx_in z 0 100 = 0 then (0, uI P 40 0 2, N) else if P 0 0 = 12 then (0, uI P 40 0 3, N) else (P 0 0 + 1 - 1, uI (uI (uI (uI P 40 0 0) 5 nb x) 6 nb z) 0 0 (P 0 0 + 1), uJ N 0 nb y.toInt64)
def ps_rate (P : MI) (N : MJ) (x y : Int32) : Int32 × MI × MJ := if sx_in x 0 (P 0 0 - 1) = 0 then (0, uI P 40 0 1, N) else if sx_in y 0 100 = 0 then (0, uI P 40 0 2, N) else (P 6 (tn x), uI (uI P 40 0 0) 6 (tn x) y, N)
def ps_trust (P : MI) (N : MJ) (x y z w : Int32) : MI × MJ := if sx_br2 P x y = 0 then (uI P 40 0 1, N) else if x = y then (uI P 40 0 2, N) else if sx_in z 0 1000000 = 0 then (uI P 40 0 2, N) else (uI (uI (uI P 40 0 0) 10 (12 * tn x + tn y) z) 11 (12 * tn x + tn y) w, N)
def ps_both (N : MJ) (a b : Nat) (x : Int64) : MJ := pf_owe (pf_owe (pf_owe (pf_owe N 1 a b x) 1 b a (-x)) 2 a b x) 2 b a (-x)
def pj_pay (N : MJ) (x y z : Int32) : MJ := ps_both (uJ (uJ N 0 (tn x) (N 0 (tn x) - z.toInt64)) 0 (tn y) (uJ N 0 (tn x) (N 0 (tn x) - z.toInt64) 0 (tn y) + z.toInt64)) (tn x) (tn y) (-z).toInt64
def ps_pay (P : MI) (N : MJ) (x y z : Int32) : Int32 × MI × MJ := if sx_br2 P x y = 0 then (0, uI P 40 0 1, N) else if x = y then (0, uI P 40 0 2, N) else if sx_in z 1 1000000 = 0 then (0, uI P 40 0 2, N) else if ¬ P 7 (tn x) = 0 then (0, uI P 40 0 3, N) else if ¬ P 7 (tn y) = 0 then (0, uI P 40 0 3, N) else if lg_cmp (N 1 (12 * tn x + tn y)) z.toInt64 < 0 then (0, uI P 40 0 3, N) else if lg_cmp (N 0 (tn x)) z.toInt64 < 0 then (0, uI P 40 0 3, N) else ((pj_pay N x y z 1 (12 * tn x + tn y)).toInt32, uI P 40 0 0, pj_pay N x y z)
def pj_deliver (N : MJ) (x y z : Int32) : MJ := ps_both N (tn x) (tn y) (-z).toInt64
def ps_deliver (P : MI) (N : MJ) (x y z : Int32) : Int32 × MI × MJ := if sx_br2 P x y = 0 then (0, uI P 40 0 1, N) else if x = y then (0, uI P 40 0 2, N) else if sx_in z 1 1000000 = 0 then (0, uI P 40 0 2, N) else if P 7 (tn x) = 2 then (0, uI P 40 0 3, N) else if P 7 (tn y) = 2 then (0, uI P 40 0 3, N) else if lg_cmp (N 1 (12 * tn x + tn y)) z.toInt64 < 0 then (0, uI P 40 0 3, N) else ((pj_deliver N x y z 1 (12 * tn x + tn y)).toInt32, uI P 40 0 0, pj_deliver N x y z)
def ps_courier (P : MI) (N : MJ) (x y z w : Int32) (nc : Nat) : Int32 × MI × MJ := if sx_br2 P x y = 0 then (0, uI P 40 0 1, N) else if x = y then (0, uI P 40 0 2, N) else if sx_in z 1 1000000 = 0 then (0, uI P 40 0 2, N) else if sx_in w 1 500 = 0 then (0, uI P 40 0 2, N) else if 40 ≤ P 2 0 then (0, uI P 40 0 3, N) else if ¬ P 7 (tn x) = 0 then (0, uI P 40 0 3, N) else if lg_cmp (N 0 (tn x)) z.toInt64 < 0 then (0, uI P 40 0 3, N) else (P 2 0 + 1 - 1, uI (uI (uI (uI (uI (uI P 40 0 0) 24 nc z) 22 nc x) 23 nc y) 25 nc (P 3 0 + w)) 2 0 (P 2 0 + 1), uJ N 0 (tn x) (N 0 (tn x) - z.toInt64))
def ps_rob (P : MI) (N : MJ) (x : Int32) : Int32 × MI × MJ := if sx_in x 0 (P 2 0 - 1) = 0 then (0, uI P 40 0 1, N) else if ¬ P 41 (tn x) = 0 then (0, uI P 40 0 2, N) else (P 24 (tn x), uI (uI P 40 0 0) 41 (tn x) 1, uJ N 4 3 (N 4 3 + (P 24 (tn x)).toInt64))
def ps_law (P : MI) (N : MJ) (x y : Int32) : Int32 × MI × MJ := if sx_in x 0 7 = 0 then (0, uI P 40 0 1, N) else if sx_in y 0 1000000 = 0 then (0, uI P 40 0 2, N) else (P 29 (tn x), uI (uI P 40 0 0) 28 (tn x) y, N)
def ps_list (P : MI) (N : MJ) (x : Int32) : Int32 × MI × MJ := if sx_in x 0 19 = 0 then (0, uI P 40 0 1, N) else if ¬ P 30 (tn x) = 0 then (0, uI (uI P 40 0 0) 30 (tn x) 0, N) else (1, uI (uI P 40 0 0) 30 (tn x) 1, N)
