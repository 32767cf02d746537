/-! the model: taking back, ways -/
def pf_tb (P : MI) (i k : Nat) (N : MJ) : MJ := ps_on P N i k (-1)
def pf_po (P : MI) (i : Nat) (x : Int32) (k : Nat) (r : Int32) : Int32 := if ¬ P 20 (12 * i + k) = x then r else nI k
def pf_l1 (i q k : Nat) (P : MI) : MI := uI P 20 (12 * i + (q + k)) (P 43 k)
def pf_l2 (i q k : Nat) (σ : MI × MJ) : MI × MJ :=
  (uI σ.1 21 (12 * i + (q + k)) ((σ.1 12 i).toInt64 + σ.2 5 (tn (σ.1 43 (k + 1)))).toInt32, ps_on (uI σ.1 21 (12 * i + (q + k)) ((σ.1 12 i).toInt64 + σ.2 5 (tn (σ.1 43 (k + 1)))).toInt32) σ.2 i (q + k) 1)
def ps_lay (P : MI) (N : MJ) (i q m : Nat) : MI × MJ := lp (pf_l2 i q) m 0 (lp (pf_l1 i q) (m + 1) 0 (uI P 19 i (nI (q + (m + 1)))), N)
theorem hw_wy.congr {I I' : MI} {o n : Nat} (h : hw_wy I o n) (h1 : I' 19 o = I 19 o) (h2 : ∀ k, k ≤ n → I' 20 (12 * o + k) = I 20 (12 * o + k)) : hw_wy I' o n := ⟨h.1, h1.trans h.2.1, fun k hk => by rw [h2 k hk]; exact h.2.2 k hk⟩
theorem l1_oth {P : MI} {i q g j : Nat} (n : Nat) (h : ¬ (g = 20 ∧ 12 * i + q ≤ j ∧ j < 12 * i + q + n)) : lp (pf_l1 i q) n 0 P g j = P g j := lp_inv (pf_l1 i q) (fun _ σ => σ g j = P g j) n (fun k σ hk hs => by
  have : pf_l1 i q k σ g j = σ g j := by
    unfold pf_l1 uI
    rw [if_neg (by omega)]
  exact this.trans hs) n 0 P (by omega) rfl
theorem l1_at {P : MI} {i q k : Nat} (n : Nat) (h : k < n) : lp (pf_l1 i q) n 0 P 20 (12 * i + (q + k)) = P 43 k := by
  have key := lp_inv (pf_l1 i q) (fun j σ => (∀ j, σ 43 j = P 43 j) ∧ ∀ k, k < j → σ 20 (12 * i + (q + k)) = P 43 k) n (fun j σ hj hs => ⟨fun b => hs.1 b, fun k hk => by
    by_cases e : k = j
    · subst e
      have : pf_l1 i q k σ 20 (12 * i + (q + k)) = σ 43 k := if_pos ⟨rfl, rfl⟩
      exact this.trans (hs.1 k)
    · have : pf_l1 i q j σ 20 (12 * i + (q + k)) = σ 20 (12 * i + (q + k)) := if_neg (by omega)
      exact this.trans (hs.2 k (by omega))⟩) n 0 P (by omega) ⟨fun _ => rfl, fun k hk => absurd hk (Nat.not_lt_zero k)⟩
  exact key.2 k h
theorem l1_wy {P : MI} {i q m : Nat} (hqm : q + m < 12) (h1 : ∀ j, j < q → hw_ok (P 20 (12 * i + j))) (h2 : ∀ k, k ≤ m → hw_ok (P 43 k)) : hw_wy (lp (pf_l1 i q) (m + 1) 0 (uI P 19 i (nI (q + (m + 1))))) i (q + m) := by
  refine ⟨hqm, ?_, fun k hk => ?_⟩
  · rw [l1_oth _ (by omega)]; exact if_pos ⟨rfl, rfl⟩
  · rcases Nat.lt_or_ge k q with z | z
    · rw [l1_oth _ (by omega)]; exact h1 k z
    · have e := l1_at (P := uI P 19 i (nI (q + (m + 1)))) (i := i) (q := q) (k := k - q) (m + 1) (by omega)
      rw [show q + (k - q) = k by omega] at e
      rw [e]; exact h2 (k - q) (by omega)
def pf_bit (mk : Int32) (i : Nat) : Int32 := (mk >>> (nI i &&& 31)) &&& 1
def pf_f0 (x am mk : Int32) (i : Nat) (σ : MI × MJ) : MI × MJ := (uI σ.1 42 i 1, uJ σ.2 5 i (if ¬ nI i = x then 1000000000000 else if ¬ σ.1 7 i = 0 then 1000000000000 else if ¬ pf_bit mk i = 0 then 1000000000000 else ps_fee σ.1 i am))
def pf_up (am : Int32) (i c9 : Nat) (σ : MI × MJ) : MI × MJ := (uI σ.1 42 i (σ.1 42 c9 + 1), uJ σ.2 5 i (ps_fee σ.1 i am + σ.2 5 c9))
def pf_rx (x am mk : Int32) (i c9 : Nat) (σ : MI × MJ) : MI × MJ :=
  if nI i = x then σ else if ¬ σ.1 7 i = 0 then σ else if ¬ pf_bit mk i = 0 then σ else if ps_can σ.1 σ.2 i c9 am = 0 then σ
  else if lg_cmp (ps_fee σ.1 i am + σ.2 5 c9) (σ.2 5 i) < 0 then pf_up am i c9 σ else if ¬ lg_cmp (ps_fee σ.1 i am + σ.2 5 c9) (σ.2 5 i) = 0 then σ else if σ.1 42 i ≤ σ.1 42 c9 + 1 then σ else pf_up am i c9 σ
def pf_r2 (x am mk : Int32) (nb i : Nat) (σ : MI × MJ) : MI × MJ := lp (pf_rx x am mk i) nb 0 σ
def pf_r3 (x am mk : Int32) (nb _j : Nat) (σ : MI × MJ) : MI × MJ := lp (pf_r2 x am mk nb) nb 0 σ
def ps_fws (P : MI) (N : MJ) (x am mk : Int32) (nb : Nat) : MI × MJ := lp (pf_r3 x am mk nb) nb 0 (lp (pf_f0 x am mk) nb 0 (P, N))
theorem f0_oth {x am mk : Int32} {i : Nat} {σ : MI × MJ} {g j : Nat} (h : g ≠ 42) : (pf_f0 x am mk i σ).1 g j = σ.1 g j := by simp [pf_f0, uI, h]
theorem rx_oth {x am mk : Int32} {i c9 : Nat} {σ : MI × MJ} {g j : Nat} (h : g ≠ 42) : (pf_rx x am mk i c9 σ).1 g j = σ.1 g j := by
  unfold pf_rx
  repeat' split
  all_goals first | rfl | simp [pf_up, uI, h]
theorem r2_oth {x am mk : Int32} {nb i : Nat} {σ : MI × MJ} {g j : Nat} (h : g ≠ 42) : (pf_r2 x am mk nb i σ).1 g j = σ.1 g j := lp_inv (pf_rx x am mk i) (fun _ τ => τ.1 g j = σ.1 g j) nb (fun _ _ _ hs => (rx_oth h).trans hs) nb 0 σ (by omega) rfl
theorem r3_oth {x am mk : Int32} {nb i : Nat} {σ : MI × MJ} {g j : Nat} (h : g ≠ 42) : (pf_r3 x am mk nb i σ).1 g j = σ.1 g j := lp_inv (pf_r2 x am mk nb) (fun _ τ => τ.1 g j = σ.1 g j) nb (fun _ _ _ hs => (r2_oth h).trans hs) nb 0 σ (by omega) rfl
theorem fws_oth {P : MI} {N : MJ} {x am mk : Int32} {nb g j : Nat} (h : g ≠ 42) : (ps_fws P N x am mk nb).1 g j = P g j := by
  have e : (lp (pf_f0 x am mk) nb 0 (P, N)).1 g j = P g j := lp_inv (pf_f0 x am mk) (fun _ τ => τ.1 g j = P g j) nb (fun _ _ _ hs => (f0_oth h).trans hs) nb 0 (P, N) (by omega) rfl
  exact (lp_inv (pf_r3 x am mk nb) (fun _ τ => τ.1 g j = (lp (pf_f0 x am mk) nb 0 (P, N)).1 g j) nb (fun _ _ _ hs => (r3_oth h).trans hs) nb 0 _ (by omega) rfl).trans e
theorem f0_a {x am mk : Int32} {i : Nat} {σ : MI × MJ} (h : ¬ nI i = x) : pf_f0 x am mk i σ = (uI σ.1 42 i 1, uJ σ.2 5 i 1000000000000) := by unfold pf_f0; rw [if_pos h]
theorem f0_b {x am mk : Int32} {i : Nat} {σ : MI × MJ} (h : nI i = x) (h2 : ¬ σ.1 7 i = 0) : pf_f0 x am mk i σ = (uI σ.1 42 i 1, uJ σ.2 5 i 1000000000000) := by unfold pf_f0; rw [if_neg (fun z => z h), if_pos h2]
theorem f0_c {x am mk : Int32} {i : Nat} {σ : MI × MJ} (h : nI i = x) (h2 : σ.1 7 i = 0) (h3 : ¬ pf_bit mk i = 0) : pf_f0 x am mk i σ = (uI σ.1 42 i 1, uJ σ.2 5 i 1000000000000) := by unfold pf_f0; rw [if_neg (fun z => z h), if_neg (fun z => z h2), if_pos h3]
theorem f0_d {x am mk : Int32} {i : Nat} {σ : MI × MJ} (h : nI i = x) (h2 : σ.1 7 i = 0) (h3 : pf_bit mk i = 0) : pf_f0 x am mk i σ = (uI σ.1 42 i 1, uJ σ.2 5 i (ps_fee σ.1 i am)) := by unfold pf_f0; rw [if_neg (fun z => z h), if_neg (fun z => z h2), if_neg (fun z => z h3)]
