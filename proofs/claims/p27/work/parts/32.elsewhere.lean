/-! the model: one way, another way -/
def pf_nk (P : MI) (N : MJ) (a : Nat) (am : Int32) (nb k : Nat) (r : Int32) : Int32 :=
  if ps_can P N a (nb - 1 - k) am = 0 then r else if ¬ lg_cmp (ps_fee P a am + N 5 (nb - 1 - k)) (N 5 a) = 0 then r else if ¬ P 42 (nb - 1 - k) + 1 = P 42 a then r else nI (nb - k) - 1
def pf_nx (P : MI) (N : MJ) (a : Nat) (am : Int32) (nb : Nat) : Int32 := lp (pf_nk P N a am nb) nb 0 (-1)
def pf_fd (p : Nat → Nat) (k : Nat) (P : MI) : MI := uI P 43 k (nI (p k))
theorem lp_fun {σ : Type} {f g : Nat → σ → σ} (h : ∀ k s, f k s = g k s) : ∀ n i s, lp f n i s = lp g n i s := by
  have : f = g := funext fun k => funext fun s => h k s
  intro n i s; rw [this]
theorem nx_congr {P P' : MI} {N : MJ} (h : ∀ g j, g ≠ 43 → P' g j = P g j) (a : Nat) (am : Int32) (nb : Nat) : pf_nx P' N a am nb = pf_nx P N a am nb := by
  unfold pf_nx
  apply lp_fun
  intro k r
  have h1 : ps_can P' N a (nb - 1 - k) am = ps_can P N a (nb - 1 - k) am := by
    unfold ps_can ps_lim
    rw [h 4 0 (by decide), h 10 _ (by decide), h 11 _ (by decide)]
  have h2 : ps_fee P' a am = ps_fee P a am := by unfold ps_fee; rw [h 6 _ (by decide)]
  unfold pf_nk
  rw [h1, h2, h 42 _ (by decide), h 42 _ (by decide)]
theorem dn_at {nb k : Nat} (h : k < nb) : nI (nb - k) - 1 = nI (nb - 1 - k) := by
  rw [show nb - k = (nb - 1 - k) + 1 by omega]; exact nI_pred _
theorem dn_dec {nb k : Nat} (h : k < nb) : nI (nb - k) - 1 + Int32.ofInt (-1) = nI (nb - (k + 1)) - 1 := by
  rw [dn_at h, show nb - (k + 1) = nb - 1 - k by omega, Int32.sub_eq_add_neg, show (-1 : Int32) = Int32.ofInt (-1) from by decide]
