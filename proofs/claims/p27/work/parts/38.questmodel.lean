/-! the model: the questions, clear, ring -/
def ps_debt (P : MI) (N : MJ) (x y w : Int32) : Int64 × MI × MJ := if sx_br2 P x y = 0 then (0, uI P 40 0 1, N) else if w = 0 then (N 1 (12 * tn x + tn y), uI P 40 0 0, N) else (N 2 (12 * tn x + tn y), uI P 40 0 0, N)
def ps_agree (P : MI) (N : MJ) (x y : Int32) : Int32 × MI × MJ := if sx_br2 P x y = 0 then (0, uI P 40 0 1, N) else if ¬ lg_cmp (N 2 (12 * tn x + tn y)) (-N 2 (12 * tn y + tn x)) = 0 then (0, uI P 40 0 0, N) else (1, uI P 40 0 0, N)
def ps_wayOf (P : MI) (N : MJ) (x y : Int32) : Int32 × MI × MJ := if sx_in x 0 (P 1 0 - 1) = 0 then (0, uI P 40 0 1, N) else if y < 0 then (0, uI P 40 0 1, N) else if P 19 (tn x) ≤ y then (-1, uI P 40 0 0, N) else (P 20 (12 * tn x + tn y), uI P 40 0 0, N)
theorem in_3 {x : Int32} (h : ¬ sx_in x 0 3 = 0) : x = 0 ∨ x = 1 ∨ x = 2 ∨ x = 3 := by
  obtain ⟨h2, h1⟩ := in_c (n := 3) (by decide) (by omega) h
  rcases (show tn x = 0 ∨ tn x = 1 ∨ tn x = 2 ∨ tn x = 3 by omega) with q | q | q | q <;> rw [q] at h2 <;> rw [h2] <;> decide
theorem in_5 {x : Int32} (h : ¬ sx_in x 0 5 = 0) : x = 0 ∨ x = 1 ∨ x = 2 ∨ x = 3 ∨ x = 4 ∨ x = 5 := by
  obtain ⟨h2, h1⟩ := in_c (n := 5) (by decide) (by omega) h
  rcases (show tn x = 0 ∨ tn x = 1 ∨ tn x = 2 ∨ tn x = 3 ∨ tn x = 4 ∨ tn x = 5 by omega) with q | q | q | q | q | q <;> rw [q] at h2 <;> rw [h2] <;> decide
theorem in_7 {x : Int32} (h : ¬ sx_in x 0 7 = 0) : x = 0 ∨ x = 1 ∨ x = 2 ∨ x = 3 ∨ x = 4 ∨ x = 5 ∨ x = 6 ∨ x = 7 := by
  obtain ⟨h2, h1⟩ := in_c (n := 7) (by decide) (by omega) h
  rcases (show tn x = 0 ∨ tn x = 1 ∨ tn x = 2 ∨ tn x = 3 ∨ tn x = 4 ∨ tn x = 5 ∨ tn x = 6 ∨ tn x = 7 by omega) with q | q | q | q | q | q | q | q <;> rw [q] at h2 <;> rw [h2] <;> decide
def pr_orderOf (P : MI) (x y : Int32) : Int32 := if y = 0 then P 16 (tn x) else if y = 1 then P 12 (tn x) else if y = 2 then P 14 (tn x) else if y = 3 then P 17 (tn x) else if y = 4 then P 18 (tn x) else P 15 (tn x)
def ps_orderOf (P : MI) (N : MJ) (x y : Int32) : Int32 × MI × MJ := if sx_in x 0 (P 1 0 - 1) = 0 then (0, uI P 40 0 1, N) else if sx_in y 0 5 = 0 then (0, uI P 40 0 2, N) else (pr_orderOf P x y, uI P 40 0 0, N)
def ps_brokerOf (P : MI) (N : MJ) (x y : Int32) (nb : Nat) : Int64 × MI × MJ := if sx_in x 0 (P 0 0 - 1) = 0 then (0, uI P 40 0 1, N) else if sx_in y 0 3 = 0 then (0, uI P 40 0 2, N) else if ¬ y = 0 then (if ¬ y = 1 then (if ¬ y = 2 then (lp (sf_wo N (tn x)) nb 0 (N 0 (tn x)), uI P 40 0 0, N) else ((P 5 (tn x)).toInt64, uI P 40 0 0, N)) else (N 0 (tn x), uI P 40 0 0, N)) else ((P 7 (tn x)).toInt64, uI P 40 0 0, N)
def pc_fin (N : MJ) (a b d : Nat) (m : Int64) : Int64 × MJ := if 0 < lg_cmp m 0 then (m, ps_both (ps_both (ps_both N a b (-m)) b d (-m)) d a (-m)) else (0, N)
def ps_clr (N : MJ) (a b d : Nat) : Int64 × MJ := if 0 ≤ lg_cmp (N 1 (12 * a + b)) (N 1 (12 * b + d)) then (if 0 ≤ lg_cmp (N 1 (12 * d + a)) (N 1 (12 * b + d)) then pc_fin N a b d (N 1 (12 * b + d)) else pc_fin N a b d (N 1 (12 * d + a))) else (if 0 ≤ lg_cmp (N 1 (12 * d + a)) (N 1 (12 * a + b)) then pc_fin N a b d (N 1 (12 * a + b)) else pc_fin N a b d (N 1 (12 * d + a)))
def pf_r1 (a b d : Nat) (σ : Int64 × MJ) : Int64 × MJ := if nI a = nI b then (σ.1 + 0, σ.2) else if nI b = nI d then (σ.1 + 0, σ.2) else if nI a = nI d then (σ.1 + 0, σ.2) else (σ.1 + (ps_clr σ.2 a b d).1, (ps_clr σ.2 a b d).2)
def pf_r2' (nb a b : Nat) (σ : Int64 × MJ) : Int64 × MJ := lp (pf_r1 a b) nb 0 σ
def pf_r3' (nb a : Nat) (σ : Int64 × MJ) : Int64 × MJ := lp (pf_r2' nb a) nb 0 σ
def ps_ring (N : MJ) (nb : Nat) : Int64 × MJ := lp (pf_r3' nb) nb 0 (0, N)
