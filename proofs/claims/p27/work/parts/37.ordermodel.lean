/-! the model: order -/
def po_W (P : MI) (N : MJ) (y z : Int32) (nb : Nat) : MI × MJ := ps_fws P N y z 0 nb
def po_n (P : MI) (N : MJ) (x y z : Int32) (nb : Nat) : Nat := tn ((po_W P N y z nb).1 42 (tn x)) - 1
def po_p (P : MI) (N : MJ) (x y z : Int32) (nb : Nat) : Nat → Nat := pf_pp (po_W P N y z nb).1 (po_W P N y z nb).2 (tn x) z nb
def po_K (P : MI) (N : MJ) (x y z : Int32) (nb : Nat) : MI := uI (lp (pf_fd (po_p P N x y z nb)) (po_n P N x y z nb) 0 (po_W P N y z nb).1) 43 (po_n P N x y z nb) y
def po_far (P : MI) (N : MJ) (x y z : Int32) (nb : Nat) : Prop := 0 ≤ lg_cmp ((po_W P N y z nb).2 5 (tn x)) 1000000000000
def po_way (P : MI) (N : MJ) (x y z : Int32) (nb : Nat) : Prop := lg_cmp ((po_W P N y z nb).2 5 (tn x)) 1000000000000 < 0 ∧ 1 ≤ po_n P N x y z nb ∧ po_n P N x y z nb < 12 ∧ po_p P N x y z nb (po_n P N x y z nb) = tn y ∧ ∀ k, k < po_n P N x y z nb → po_p P N x y z nb k < 12 ∧ po_p P N x y z nb k ≠ tn y ∧ pf_nx (po_W P N y z nb).1 (po_W P N y z nb).2 (po_p P N x y z nb k) z nb = nI (po_p P N x y z nb (k + 1))
theorem po_K_oth {P : MI} {N : MJ} {x y z : Int32} {nb g j : Nat} (h : g ≠ 43) (h2 : g ≠ 42) : po_K P N x y z nb g j = P g j := by
  unfold po_K
  rw [u43 _ _ _ (fun z => h z.1), fd_oth _ (fun z => h z.1)]
  exact fws_oth h2
theorem po_K_at {P : MI} {N : MJ} {x y z : Int32} {nb k : Nat} (hy : y = nI (tn y)) (hw : po_way P N x y z nb) (hk : k ≤ po_n P N x y z nb) : po_K P N x y z nb 43 k = nI (po_p P N x y z nb k) := by
  unfold po_K
  by_cases e : k = po_n P N x y z nb
  · rw [e, show ∀ (X : MI) (n : Nat) (v : Int32), uI X 43 n v 43 n = v from fun X n v => if_pos ⟨rfl, rfl⟩, hw.2.2.2.1]
    exact hy
  · rw [u43 _ _ _ (fun z => e z.2)]
    exact fd_at _ (by omega)
theorem po_p_lt {P : MI} {N : MJ} {x y z : Int32} {nb k : Nat} (hy : tn y < 12) (hw : po_way P N x y z nb) (hk : k ≤ po_n P N x y z nb) : po_p P N x y z nb k < 12 := by
  by_cases e : k = po_n P N x y z nb
  · rw [e, hw.2.2.2.1]; exact hy
  · exact (hw.2.2.2.2 k (by omega)).1
theorem lay_oth {P : MI} {N : MJ} {i q w g j : Nat} (h : g ≠ 19) (h2 : g ≠ 20) (h3 : g ≠ 21) : (ps_lay P N i q w).1 g j = P g j := by
  have e := lp_inv (pf_l2 i q) (fun _ σ => σ.1 g j = lp (pf_l1 i q) (w + 1) 0 (uI P 19 i (nI (q + (w + 1)))) g j) w (fun k σ _ hs => by
    have : (pf_l2 i q k σ).1 g j = σ.1 g j := by simp [pf_l2, uI, h3]
    exact this.trans hs) w 0 (lp (pf_l1 i q) (w + 1) 0 (uI P 19 i (nI (q + (w + 1)))), N) (by omega) rfl
  refine e.trans ((l1_oth (w + 1) (fun z => h2 z.1)).trans ?_)
  simp [uI, h]
def po_tell (L : MI) (z : Int32) (t : Nat) : MI := uI L 29 t (L 29 t + (if z ≤ L 28 t then 0 else 1))
theorem po_tell_a {L : MI} {z : Int32} {t : Nat} (h : z ≤ L 28 t) : po_tell L z t = uI L 29 t (L 29 t + 0) := by unfold po_tell; rw [if_pos h]
theorem po_tell_b {L : MI} {z : Int32} {t : Nat} (h : ¬ z ≤ L 28 t) : po_tell L z t = uI L 29 t (L 29 t + 1) := by unfold po_tell; rw [if_neg h]
def po_g (W : MI × MJ) (x z : Int32) : Int32 := (z.toInt64 + W.2 5 (tn x)).toInt32
def po_P (K : MI) (W : MI × MJ) (x z v : Int32) (no : Nat) : MI := uI (uI (uI (uI (uI (uI (uI K 40 0 0) 1 0 (K 1 0 + 1)) 16 no 0) 12 no z) 14 no (po_g W x z)) 13 no v) 15 no (K 3 0)
def po_N (Q : MI) (W : MI × MJ) (x : Int32) (no : Nat) : MJ := uJ (uJ W.2 0 (tn x) (W.2 0 (tn x) + (Q 14 no).toInt64)) 4 0 (W.2 4 0 + (Q 14 no).toInt64)
def po_L (P : MI) (N : MJ) (x y z v : Int32) (nb no : Nat) : MI × MJ := ps_lay (po_P (po_K P N x y z nb) (po_W P N y z nb) x z v no) (po_N (po_P (po_K P N x y z nb) (po_W P N y z nb) x z v no) (po_W P N y z nb) x no) no 0 (po_n P N x y z nb)
def ps_order (P : MI) (N : MJ) (x y z w v : Int32) (nb no : Nat) : Int32 × MI × MJ := if sx_br2 P x y = 0 then (0, uI P 40 0 1, N) else if sx_in w 0 19 = 0 then (0, uI P 40 0 1, N) else if x = y then (0, uI P 40 0 2, N) else if sx_in z 1 1000000 = 0 then (0, uI P 40 0 2, N) else if sx_in v 0 9999 = 0 then (0, uI P 40 0 2, N) else if 40 ≤ P 1 0 then (0, uI P 40 0 3, N) else if ¬ P 30 (tn w) = 0 then (0, uI P 40 0 3, N)
  else if 0 ≤ lg_cmp ((po_W P N y z nb).2 5 (tn x)) 1000000000000 then (0, uI (po_W P N y z nb).1 40 0 3, (po_W P N y z nb).2)
  else (po_K P N x y z nb 1 0, po_tell (po_L P N x y z v nb no).1 z (tn ((po_L P N x y z v nb no).1 5 (tn x))), (po_L P N x y z v nb no).2)
