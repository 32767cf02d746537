/-! class and model, step by step -/
theorem lp_rel {σ τ : Type} (f : Nat → σ → σ) (g : Nat → τ → τ) (R : Nat → σ → τ → Prop) (hi : Nat) (step : ∀ i s t, i < hi → R i s t → R (i + 1) (f i s) (g i t)) : ∀ n i s t, i + n = hi → R i s t → R hi (lp f n i s) (lp g n i t) := by
  intro n
  induction n with
  | zero =>
    intro i s t h hr
    have : i = hi := by omega
    subst this
    exact hr
  | succ n ih =>
    intro i s t h hr
    exact ih (i + 1) (f i s) (g i t) (by omega) (step i s t (by omega) hr)
/-- the fields that both sides have -/
def shd (g : Nat) : Prop := g ≤ 20 ∨ (22 ≤ g ∧ g ≤ 25) ∨ (28 ≤ g ∧ g ≤ 30)
def ri (I P : MI) : Prop := ∀ g j, shd g → P g j = I g j
/-- the steps of the orders' ways agree, as far as they count -/
def rs (I P : MI) (no : Nat) : Prop := ∀ o, o < no → ∀ k, k < hw_ln I o → P 21 (12 * o + k) = I 21 (12 * o + k) ∧ ∃ m : Nat, m ≤ 2300000 ∧ I 21 (12 * o + k) = nI m
theorem tb_same {I P : MI} {J N : MJ} {no i k : Nat} (h1 : ri I P) (h2 : rs I P no) (hi : i < no) (hk : k < hw_ln I i) (h : jr J N) : jr (sf_tb I i k J) (pf_tb P i k N) := by
  obtain ⟨e1, m, m1, m2⟩ := h2 i hi k hk
  obtain ⟨n1, n2⟩ := neg64 (m := m) (by omega)
  have e20 : ∀ j, P 20 j = I 20 j := fun j => h1 20 j (by unfold shd; omega)
  have e17 : P 17 i = I 17 i := h1 17 i (by unfold shd; omega)
  unfold sf_tb pf_tb ps_on
  rw [e1, e17, e20, e20, m2]
  by_cases c : I 17 i ≤ nI k
  · rw [if_pos c, if_pos c]
    rw [n1]
    exact (h.change _ _ _).write _ _ _
  · rw [if_neg c, if_neg c]
    rw [n1]
    have hw := ((h.change (I 20 (12 * i + k)).toNatClampNeg (I 20 (12 * i + (k + 1))).toNatClampNeg ((-1 : Int32).toInt64 * (nI m).toInt64)).write (I 20 (12 * i + k)).toNatClampNeg (I 20 (12 * i + (k + 1))).toNatClampNeg ((-1 : Int32).toInt64 * (nI m).toInt64)).write (I 20 (12 * i + (k + 1))).toNatClampNeg (I 20 (12 * i + k)).toNatClampNeg (-((-1 : Int32).toInt64 * (nI m).toInt64))
    rw [← n2] at hw
    rw [← n2]
    exact hw
theorem la_same {I P : MI} {J N : MJ} {i k m : Nat} (h20 : ∀ j, P 20 j = I 20 j) (e21 : P 21 (12 * i + k) = I 21 (12 * i + k)) (h17 : P 17 i ≤ nI k) (hm : m < 2 ^ 31) (m2 : I 21 (12 * i + k) = nI m) (h : jr J N) : jr (sf_la I i k J) (ps_on P N i k 1) := by
  have h2 : (1 : Int32).toInt64 * (nI m).toInt64 = (nI m).toInt64 := by
    rw [show (1 : Int32).toInt64 = 1 from by decide, Int64.one_mul]
  unfold sf_la ps_on
  rw [e21, h20, h20, m2, if_pos h17, h2]
  exact (h.change _ _ _).write _ _ _
theorem tbs_same {I P : MI} {J N : MJ} {no i n q : Nat} (h1 : ri I P) (h2 : rs I P no) (hi : i < no) (hk : q + n ≤ hw_ln I i) (h : jr J N) : jr (lp (sf_tb I i) n q J) (lp (pf_tb P i) n q N) :=
  lp_rel (sf_tb I i) (pf_tb P i) (fun _ J N => jr J N) (q + n) (fun k _ _ hkk hj => tb_same h1 h2 hi (by omega) hj) n q J N rfl h
/-- sums over what fits -/
def sq (q : Nat → Prop) [DecidablePred q] (v : Nat → Int64) (i : Nat) (s : Int64) : Int64 := if q i then s + v i else s
theorem sq_shift (q : Nat → Prop) [DecidablePred q] (v : Nat → Int64) : ∀ n i s d, lp (sq q v) n i (s + d) = lp (sq q v) n i s + d := by
  intro n
  induction n with
  | zero => intro i s d; rfl
  | succ n ih =>
    intro i s d
    show lp (sq q v) n (i + 1) (sq q v i (s + d)) = lp (sq q v) n (i + 1) (sq q v i s) + d
    rw [← ih]
    congr 1
    unfold sq
    split
    · rw [Int64.add_assoc, Int64.add_assoc, Int64.add_comm d]
    · rfl
theorem sq_congr {q q' : Nat → Prop} [DecidablePred q] [DecidablePred q'] {v v' : Nat → Int64} : ∀ n i s, (∀ j, i ≤ j → j < i + n → (q j ↔ q' j) ∧ (q j → v j = v' j)) → lp (sq q v) n i s = lp (sq q' v') n i s := by
  intro n
  induction n with
  | zero => intro i s _; rfl
  | succ n ih =>
    intro i s h
    obtain ⟨h1, h2⟩ := h i (Nat.le_refl _) (by omega)
    have e : sq q v i s = sq q' v' i s := by
      unfold sq
      by_cases c : q i
      · rw [if_pos c, if_pos (h1.mp c), h2 c]
      · rw [if_neg c, if_neg (fun z => c (h1.mpr z))]
    show lp (sq q v) n (i + 1) (sq q v i s) = lp (sq q' v') n (i + 1) (sq q' v' i s)
    rw [e]
    exact ih _ _ (fun j a b => h j (by omega) (by omega))
/-- one more fits -/
theorem sq_more {q q' : Nat → Prop} [DecidablePred q] [DecidablePred q'] {v v' : Nat → Int64} {x : Nat} : ∀ n i s, i ≤ x → x < i + n → (∀ j, j ≠ x → (q j ↔ q' j) ∧ (q j → v j = v' j)) → ¬ q x → q' x → lp (sq q' v') n i s = lp (sq q v) n i s + v' x := by
  intro n
  induction n with
  | zero => intro i s h1 h2; omega
  | succ n ih =>
    intro i s h1 h2 h3 h4 h5
    show lp (sq q' v') n (i + 1) (sq q' v' i s) = lp (sq q v) n (i + 1) (sq q v i s) + v' x
    by_cases e : i = x
    · subst e
      have e1 : sq q' v' i s = s + v' i := if_pos h5
      have e2 : sq q v i s = s := if_neg h4
      rw [e1, e2, sq_shift]
      congr 1
      exact (sq_congr n (i + 1) s (fun j a b => h3 j (by omega))).symm
    · have e1 : sq q' v' i s = sq q v i s := by
        obtain ⟨a, b⟩ := h3 i e
        unfold sq
        by_cases c : q i
        · rw [if_pos c, if_pos (a.mp c), b c]
        · rw [if_neg c, if_neg (fun z => c (a.mpr z))]
      rw [e1]
      exact ih (i + 1) _ (by omega) (by omega) h3 h4 h5
