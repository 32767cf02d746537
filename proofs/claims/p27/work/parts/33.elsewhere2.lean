/-! the model: going elsewhere -/
def pf_mk (P : MI) (i k : Nat) (x : Int32) : Int32 := x ||| ((1 : Int32) <<< (P 20 (12 * i + k) &&& 31))
def pg_mk (P : MI) (i : Nat) : Int32 := lp (pf_mk P i) (hw_pl P i) 0 0
def pg_N (P : MI) (N : MJ) (i : Nat) : MJ := lp (pf_tb P i) (hw_ln P i - hw_pl P i) (hw_pl P i) N
def pg_W (P : MI) (N : MJ) (i nb : Nat) : MI × MJ := ps_fws P (pg_N P N i) (P 20 (12 * i + hw_ln P i)) (P 12 i) (pg_mk P i) nb
def pg_bk (P : MI) (N : MJ) (i q : Nat) : MI × MJ := (uI (sp_ef (uI P 19 i (nI (q + 1))) i) 19 i (P 19 i), lp (pf_tb (uI P 19 i (nI (q + 1))) i) (q - 0) 0 N)
def pf_pp (P : MI) (N : MJ) (a : Nat) (am : Int32) (nb : Nat) : Nat → Nat
  | 0 => a
  | k + 1 => tn (pf_nx P N (pf_pp P N a am nb k) am nb)
def pg_n (P : MI) (N : MJ) (i nb : Nat) : Nat := tn ((pg_W P N i nb).1 42 (hw_at P i (hw_pl P i))) - 1
def pg_p (P : MI) (N : MJ) (i nb : Nat) : Nat → Nat := pf_pp (pg_W P N i nb).1 (pg_W P N i nb).2 (hw_at P i (hw_pl P i)) (P 12 i) nb
def pg_K (P : MI) (N : MJ) (i nb : Nat) : MI := uI (lp (pf_fd (pg_p P N i nb)) (pg_n P N i nb) 0 (pg_W P N i nb).1) 43 (pg_n P N i nb) (P 20 (12 * i + hw_ln P i))
def pg_go (P : MI) (N : MJ) (i nb : Nat) : MI × MJ :=
  if 0 ≤ lg_cmp ((pg_W P N i nb).2 5 (hw_at P i (hw_pl P i))) 1000000000000 then pg_bk (pg_W P N i nb).1 (pg_W P N i nb).2 i (hw_pl P i)
  else if 0 < lg_cmp ((pg_W P N i nb).2 5 (tn (pg_K P N i nb 43 1))) (P 21 (12 * i + hw_pl P i) - P 12 i).toInt64 then pg_bk (pg_K P N i nb) (pg_W P N i nb).2 i (hw_pl P i)
  else ps_lay (pg_K P N i nb) (pg_W P N i nb).2 i (hw_pl P i) (pg_n P N i nb)
/-- what another way asks for, where there is one -/
def pg_way (P : MI) (N : MJ) (i nb : Nat) : Prop := lg_cmp ((pg_W P N i nb).2 5 (hw_at P i (hw_pl P i))) 1000000000000 < 0 ∧ 1 ≤ pg_n P N i nb ∧ hw_pl P i + pg_n P N i nb < 12 ∧ pg_p P N i nb (pg_n P N i nb) = hw_at P i (hw_ln P i) ∧ ∀ k, k < pg_n P N i nb → pg_p P N i nb k < 12 ∧ pg_p P N i nb k ≠ hw_at P i (hw_ln P i) ∧ pf_nx (pg_W P N i nb).1 (pg_W P N i nb).2 (pg_p P N i nb k) (P 12 i) nb = nI (pg_p P N i nb (k + 1))
def pg_fit (P : MI) (N : MJ) (i nb : Nat) : Prop := P 0 0 = nI nb ∧ nb ≤ 12 ∧ hw_or P i ∧ (0 ≤ lg_cmp ((pg_W P N i nb).2 5 (hw_at P i (hw_pl P i))) 1000000000000 ∨ pg_way P N i nb)
theorem u43 (P : MI) (n : Nat) (v : Int32) {g j : Nat} (h : ¬ (g = 43 ∧ j = n)) : uI P 43 n v g j = P g j := if_neg h
theorem fd_oth {p : Nat → Nat} {P : MI} (n : Nat) {g j : Nat} (h : ¬ (g = 43 ∧ j < n)) : lp (pf_fd p) n 0 P g j = P g j := lp_inv (pf_fd p) (fun _ σ => σ g j = P g j) n (fun k σ hk hs => by
  have : pf_fd p k σ g j = σ g j := u43 _ _ _ (by omega)
  exact this.trans hs) n 0 P (by omega) rfl
theorem fd_at {p : Nat → Nat} {P : MI} {k : Nat} (n : Nat) (h : k < n) : lp (pf_fd p) n 0 P 43 k = nI (p k) := by
  have key := lp_inv (pf_fd p) (fun j σ => ∀ k, k < j → σ 43 k = nI (p k)) n (fun j σ hj hs k hk => by
    by_cases e : k = j
    · subst e; exact if_pos ⟨rfl, rfl⟩
    · have : pf_fd p j σ 43 k = σ 43 k := u43 _ _ _ (by omega)
      exact this.trans (hs k (by omega))) n 0 P (by omega) (fun k hk => absurd hk (Nat.not_lt_zero k))
  exact key k h
theorem pg_K_oth {P : MI} {N : MJ} {i nb g j : Nat} (h : g ≠ 43) (h2 : g ≠ 42) : pg_K P N i nb g j = P g j := by
  unfold pg_K
  rw [u43 _ _ _ (fun z => h z.1), fd_oth _ (fun z => h z.1)]
  exact fws_oth h2
theorem pg_K_at {P : MI} {N : MJ} {i nb k : Nat} (hor : hw_or P i) (hw : pg_way P N i nb) (hk : k ≤ pg_n P N i nb) : pg_K P N i nb 43 k = nI (pg_p P N i nb k) := by
  unfold pg_K
  by_cases e : k = pg_n P N i nb
  · rw [e, show ∀ (X : MI) (n : Nat) (v : Int32), uI X 43 n v 43 n = v from fun X n v => if_pos ⟨rfl, rfl⟩, hw.2.2.2.1]
    exact (hor.1.2.2 _ (Nat.le_refl _)).x
  · rw [u43 _ _ _ (fun z => e z.2)]
    exact fd_at _ (by omega)
theorem pg_p_lt {P : MI} {N : MJ} {i nb k : Nat} (hor : hw_or P i) (hw : pg_way P N i nb) (hk : k ≤ pg_n P N i nb) : pg_p P N i nb k < 12 := by
  by_cases e : k = pg_n P N i nb
  · rw [e, hw.2.2.2.1]; exact (hor.1.2.2 _ (Nat.le_refl _)).b
  · exact (hw.2.2.2.2 k (by omega)).1
theorem pg_a {P : MI} {N : MJ} {i nb : Nat} (h : 0 ≤ lg_cmp ((pg_W P N i nb).2 5 (hw_at P i (hw_pl P i))) 1000000000000) : pg_go P N i nb = pg_bk (pg_W P N i nb).1 (pg_W P N i nb).2 i (hw_pl P i) := if_pos h
theorem pg_b {P : MI} {N : MJ} {i nb : Nat} (h : ¬ 0 ≤ lg_cmp ((pg_W P N i nb).2 5 (hw_at P i (hw_pl P i))) 1000000000000) (h2 : 0 < lg_cmp ((pg_W P N i nb).2 5 (tn (pg_K P N i nb 43 1))) (P 21 (12 * i + hw_pl P i) - P 12 i).toInt64) : pg_go P N i nb = pg_bk (pg_K P N i nb) (pg_W P N i nb).2 i (hw_pl P i) := by unfold pg_go; rw [if_neg h, if_pos h2]
theorem pg_c {P : MI} {N : MJ} {i nb : Nat} (h : ¬ 0 ≤ lg_cmp ((pg_W P N i nb).2 5 (hw_at P i (hw_pl P i))) 1000000000000) (h2 : ¬ 0 < lg_cmp ((pg_W P N i nb).2 5 (tn (pg_K P N i nb 43 1))) (P 21 (12 * i + hw_pl P i) - P 12 i).toInt64) : pg_go P N i nb = ps_lay (pg_K P N i nb) (pg_W P N i nb).2 i (hw_pl P i) (pg_n P N i nb) := by unfold pg_go; rw [if_neg h, if_neg h2]
theorem nI_npos {a n : Nat} (h : a + n < 12) : ¬ nI (n + 1) ≤ 0 := fun z => absurd ((nI_leI (a := n + 1) (b := 0) (by omega) (by omega)).mp z) (by omega)
