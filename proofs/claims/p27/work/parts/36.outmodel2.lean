/-! the model: festival, fetch, word broken, raid, pass -/
def pp_festival (P : MI) : MI := uI (uI P 40 0 0) 4 0 (if P 4 0 = 0 then 1 else 0)
def pp_fetch (P : MI) (x : Int32) : MI := uI (uI P 40 0 0) 18 (tn x) (P 18 (tn x) + 1)
def ps_fetch (P : MI) (N : MJ) (x y : Int32) : Int32 × MI × MJ := if sx_in x 0 (P 1 0 - 1) = 0 then (0, uI P 40 0 1, N) else if sx_in y 0 9999 = 0 then (0, uI P 40 0 2, N) else if ¬ P 16 (tn x) = 1 then (0, uI P 40 0 3, N) else if ¬ P 7 (tn (P 20 (12 * tn x + hw_ln P (tn x)))) = 0 then (0, uI P 40 0 3, N) else if lg_cmp (N 0 (tn (P 20 (12 * tn x + hw_ln P (tn x))))) (P 12 (tn x)).toInt64 < 0 then (0, uI P 40 0 3, N)
  else if y = P 13 (tn x) then (2, uI (uI P 40 0 0) 16 (tn x) 2, uJ (uJ N 0 (tn (P 20 (12 * tn x + hw_ln P (tn x)))) (N 0 (tn (P 20 (12 * tn x + hw_ln P (tn x)))) - (P 12 (tn x)).toInt64)) 4 1 (N 4 1 + (P 12 (tn x)).toInt64))
  else if ¬ pp_fetch P x 18 (tn x) = 3 then (P 16 (tn x), pp_fetch P x, N) else (sp_ef (pp_fetch P x) (tn x) 16 (tn x), sp_ef (pp_fetch P x) (tn x), lp (pf_tb (pp_fetch P x) (tn x)) (hw_ln P (tn x) - 0) 0 N)
/-- failsFor may go on from here -/
def pg_ready (x : Int32) (nb no : Nat) (σ : MI × MJ) : Prop := ∃ G : Nat → MI × MJ → Prop, G 0 σ ∧ pf_inv x nb no G ∧ (ps_ff σ.1 σ.2 x nb no).1 1 0 = nI no
def pf_bw (x : Int32) (i : Nat) (σ : MI × MJ × Nat) : MI × MJ × Nat := if ¬ σ.1 20 (12 * i + 0) = x then σ else if σ.1 16 i = 0 then (uI σ.1 16 i 5, lp (pf_tb σ.1 i) (hw_ln σ.1 i - 0) 0 σ.2.1, σ.2.2 + 1) else if ¬ σ.1 16 i = 3 then σ else (uI σ.1 16 i 5, σ.2.1, σ.2.2 + 1)
theorem bw_a {x : Int32} {i : Nat} {σ : MI × MJ × Nat} (h : ¬ σ.1 20 (12 * i + 0) = x) : pf_bw x i σ = σ := if_pos h
theorem bw_b {x : Int32} {i : Nat} {σ : MI × MJ × Nat} (h : σ.1 20 (12 * i + 0) = x) (h2 : σ.1 16 i = 0) : pf_bw x i σ = (uI σ.1 16 i 5, lp (pf_tb σ.1 i) (hw_ln σ.1 i - 0) 0 σ.2.1, σ.2.2 + 1) := (if_neg (fun z => z h)).trans (if_pos h2)
theorem bw_c {x : Int32} {i : Nat} {σ : MI × MJ × Nat} (h : σ.1 20 (12 * i + 0) = x) (h2 : ¬ σ.1 16 i = 0) (h3 : ¬ σ.1 16 i = 3) : pf_bw x i σ = σ := (if_neg (fun z => z h)).trans ((if_neg h2).trans (if_pos h3))
theorem bw_d {x : Int32} {i : Nat} {σ : MI × MJ × Nat} (h : σ.1 20 (12 * i + 0) = x) (h2 : ¬ σ.1 16 i = 0) (h3 : σ.1 16 i = 3) : pf_bw x i σ = (uI σ.1 16 i 5, σ.2.1, σ.2.2 + 1) := (if_neg (fun z => z h)).trans ((if_neg h2).trans (if_neg (fun z => z h3)))
theorem bw_oth {x : Int32} {i : Nat} {σ : MI × MJ × Nat} {g j : Nat} (h : g ≠ 16) : (pf_bw x i σ).1 g j = σ.1 g j := by
  unfold pf_bw
  repeat' split
  all_goals first | rfl | simp [uI, h]
def pl_bw (P : MI) (N : MJ) (x : Int32) (no : Nat) : MI × MJ × Nat := lp (pf_bw x) no 0 (uI (uI P 40 0 0) 7 (tn x) 2, N, 0)
def ps_breakWord (P : MI) (N : MJ) (x : Int32) (nb no : Nat) : Int32 × MI × MJ := if sx_in x 0 (P 0 0 - 1) = 0 then (0, uI P 40 0 1, N) else if P 7 (tn x) = 2 then (0, uI P 40 0 2, N) else (nI (pl_bw P N x no).2.2, ps_ff (pl_bw P N x no).1 (pl_bw P N x no).2.1 x nb no)
def pp_raid (P : MI) (x : Int32) : MI := uI (uI (uI (uI P 40 0 0) 7 (tn x) 1) 8 (tn x) (P 3 0 + 720)) 9 (tn x) 1
def pj_raid (N : MJ) (x : Int32) : MJ := uJ (uJ N 0 (tn x) 0) 4 4 (N 4 4 + (N 0 (tn x)).toInt32.toInt64)
def ps_raid (P : MI) (N : MJ) (x : Int32) (nb no : Nat) : Int32 × MI × MJ := if sx_in x 0 (P 0 0 - 1) = 0 then (0, uI P 40 0 1, N) else if ¬ P 7 (tn x) = 0 then (0, uI P 40 0 2, N) else ((N 0 (tn x)).toInt32, ps_ff (pp_raid P x) (pj_raid N x) x nb no)
def pf_ps (nb no nc _j : Nat) (σ : MI × MJ) : MI × MJ := ps_nh σ.1 σ.2 nb no nc
def pl_pass (P : MI) (N : MJ) (x : Int32) (nb no nc : Nat) : MI × MJ := lp (pf_ps nb no nc) (tn x) 0 (uI P 40 0 0, N)
def ps_pass (P : MI) (N : MJ) (x : Int32) (nb no nc : Nat) : Int32 × MI × MJ := if sx_in x 1 500 = 0 then (0, uI P 40 0 1, N) else ((pl_pass P N x nb no nc).1 3 0, pl_pass P N x nb no nc)
theorem nh_iv {P : MI} {N : MJ} {nb no nc : Nat} (h : pv_iv P nb no nc) : pv_iv (ps_nh P N nb no nc).1 nb no nc := lp_inv pf_ca (fun _ σ => pv_iv σ.1 nb no nc) nc (fun _ _ _ hs => hs.congr (fun g j hg => ca_oth (by omega))) nc 0 _ (by omega) (n4_iv h)
theorem in_1 {x M : Int32} {n : Nat} (hM : M.toInt = n) (hn : n < 2 ^ 31) (h : ¬ sx_in x 1 M = 0) : x = nI (tn x) ∧ tn x ≤ n := by
  refine in_c hM hn (fun z => h ?_)
  unfold sx_in at *
  by_cases c : x < 1
  · rw [if_pos c]
  · rw [if_neg c]
    by_cases c2 : M < x
    · rw [if_pos c2]
    · rw [if_neg (fun y => c (Int32.lt_trans y (by decide))), if_neg c2] at z
      exact absurd z (by decide)
