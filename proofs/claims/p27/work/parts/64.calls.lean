/-! each call, by the class and by the ghost -/
/-- one call, by the class and by the ghost: thrown, or well -/
def so (k nb no nc : Nat) (K : MI → MJ → Int64 → MI → MJ → Prop) (r : Int64) (nb' no' nc' : Nat) (P' : MI) (N' : MJ) (I : MI) (J : MJ) : Prop :=
  (¬ P' 40 0 = 0 ∧ (∃ Ie, K I J NO Ie J ∧ IV (k + 1) nb no nc Ie J P' N') ∧ IV (k + 1) nb no nc I J P' N') ∨ (P' 40 0 = 0 ∧ ∃ I' J' o', K I J o' I' J' ∧ o' = r ∧ IV (k + 1) nb' no' nc' I' J' P' N')
theorem ne40 {P : MI} {v : Int32} (h : ¬ v = 0) : ¬ uI P 40 0 v 40 0 = 0 := h
set_option maxRecDepth 100000 in
theorem so_rate {k nb no nc : Nat} {I : MI} {J : MJ} {P : MI} {N : MJ} {x y : Int32} (h : IV k nb no nc I J P N) (hk9 : k ≤ 520) : so k nb no nc (kL_rate x y) (ps_rate P N x y).1.toInt64 (nb) (no) (nc) (ps_rate P N x y).2.1 (ps_rate P N x y).2.2 I J := by
  have hbc : I 0 0 = nI nb := h.ci.1.1.1
  have hnb : nb ≤ 12 := h.ci.1.1.2
  have hoc : I 1 0 = nI no := h.ci.1.2.1.1
  have hno : no ≤ 40 := h.ci.1.2.1.2
  have hcc : I 2 0 = nI nc := h.ci.1.2.2.1.1
  have hnc : nc ≤ 40 := h.ci.1.2.2.1.2
  have r0 : P 0 0 = I 0 0 := h.ints 0 0 (by unfold shd; omega)
  have r1 : P 1 0 = I 1 0 := h.ints 1 0 (by unfold shd; omega)
  have r2 : P 2 0 = I 2 0 := h.ints 2 0 (by unfold shd; omega)
  have r3 : P 3 0 = I 3 0 := h.ints 3 0 (by unfold shd; omega)
  have rP : ∀ g j, ((5 ≤ g ∧ g ≤ 8) ∨ (12 ≤ g ∧ g ≤ 20) ∨ (22 ≤ g ∧ g ≤ 25) ∨ (28 ≤ g ∧ g ≤ 30)) → P g j = I g j := fun g j hg => h.ints g j (by unfold shd; omega)
  have n0 : ∀ j, N 0 j = J 0 j := fun j => (h.debts j).1.symm
  have n1 : ∀ j, N 1 j = J 1 j := fun j => (h.debts j).2.1.symm
  have n2 : ∀ j, N 2 j = J 2 j := fun j => (h.debts j).2.2.symm
  rcases ix_cs (x := x) hbc (by omega) with ⟨a1, a2, a3, a4⟩ | ⟨a1, a2⟩
  · rcases rg_cs y 0 100 with ⟨p1, p2⟩ | ⟨p1, p2⟩
    · have q9 : ps_rate P N x y = (P 6 (tn x), uI (uI P 40 0 0) 6 (tn x) y, N) := by simp [ps_rate, r0, a2, p2]
      rw [q9]
      obtain ⟨b1, b2⟩ := sx_rg_n (n := 100) (by decide) (by decide) p1
      exact Or.inr ⟨rfl, uI I 6 (tn x) y, J, (I 6 (tn x)).toInt64, n_L_rate h.ci (by simp [e_rate, hx_or, a1, p1]), (by rw [rP 6 _ (by omega)]), v_rate h _ b1 b2⟩
    · have q9 : ps_rate P N x y = (0, uI P 40 0 2, N) := by simp [ps_rate, r0, a2, p2]
      rw [q9]
      exact Or.inl ⟨ne40 (P := P) (v := 2) (by decide), ⟨I, t_L_rate_eA h.ci (by simp [e_rate, hx_or, a1, p1]), h.th 2⟩, h.th 2⟩
  · have q9 : ps_rate P N x y = (0, uI P 40 0 1, N) := by simp [ps_rate, r0, a2]
    rw [q9]
    exact Or.inl ⟨ne40 (P := P) (v := 1) (by decide), ⟨I, t_L_rate_eI h.ci (by simp [e_rate, hx_or, a1]), h.th 1⟩, h.th 1⟩
set_option maxRecDepth 100000 in
theorem so_broker {k nb no nc : Nat} {I : MI} {J : MJ} {P : MI} {N : MJ} {x y z : Int32} (h : IV k nb no nc I J P N) (hk9 : k ≤ 520) : so k nb no nc (kL_broker x y z) (ps_broker P N x y z nb).1.toInt64 (nb + 1) (no) (nc) (ps_broker P N x y z nb).2.1 (ps_broker P N x y z nb).2.2 I J := by
  have hbc : I 0 0 = nI nb := h.ci.1.1.1
  have hnb : nb ≤ 12 := h.ci.1.1.2
  have hoc : I 1 0 = nI no := h.ci.1.2.1.1
  have hno : no ≤ 40 := h.ci.1.2.1.2
  have hcc : I 2 0 = nI nc := h.ci.1.2.2.1.1
  have hnc : nc ≤ 40 := h.ci.1.2.2.1.2
  have r0 : P 0 0 = I 0 0 := h.ints 0 0 (by unfold shd; omega)
  have r1 : P 1 0 = I 1 0 := h.ints 1 0 (by unfold shd; omega)
  have r2 : P 2 0 = I 2 0 := h.ints 2 0 (by unfold shd; omega)
  have r3 : P 3 0 = I 3 0 := h.ints 3 0 (by unfold shd; omega)
  have rP : ∀ g j, ((5 ≤ g ∧ g ≤ 8) ∨ (12 ≤ g ∧ g ≤ 20) ∨ (22 ≤ g ∧ g ≤ 25) ∨ (28 ≤ g ∧ g ≤ 30)) → P g j = I g j := fun g j hg => h.ints g j (by unfold shd; omega)
  have n0 : ∀ j, N 0 j = J 0 j := fun j => (h.debts j).1.symm
  have n1 : ∀ j, N 1 j = J 1 j := fun j => (h.debts j).2.1.symm
  have n2 : ∀ j, N 2 j = J 2 j := fun j => (h.debts j).2.2.symm
  rcases ix_cs (x := x) (c9 := 8) (n := 8) rfl (by omega) with ⟨a1, a2, a3, a4⟩ | ⟨a1, a2⟩
  · rcases rg_cs y 0 1000000 with ⟨p1, p2⟩ | ⟨p1, p2⟩
    · rcases rg_cs z 0 100 with ⟨w1, w2⟩ | ⟨w1, w2⟩
      · have a2 : ¬ sx_in x 0 7 = 0 := a2
        by_cases f0 : nb = 12
        · have f1 : 12 ≤ I 0 0 := by rw [hbc, f0]; decide
          have f2 : P 0 0 = 12 := by rw [r0, hbc, f0]; rfl
          have q9 : ps_broker P N x y z nb = (0, uI P 40 0 3, N) := by simp [ps_broker, a2, p2, w2, f2]
          rw [q9]
          exact Or.inl ⟨ne40 (P := P) (v := 3) (by decide), ⟨I, t_L_broker_eS h.ci (by simp [e_broker, hx_or, sx_st, a1, p1, w1, f1]), h.th 3⟩, h.th 3⟩
        · have f1 : ¬ 12 ≤ I 0 0 := by rw [hbc]; exact nI_ge (b := 12) (by omega) (by omega)
          have f2 : ¬ P 0 0 = 12 := by rw [r0, hbc]; exact fun z => f0 ((nI_eq (b := 12) (by omega) (by omega)).mp z)
          have q9 : ps_broker P N x y z nb = (P 0 0 + 1 - 1, uI (uI (uI (uI P 40 0 0) 5 nb x) 6 nb z) 0 0 (P 0 0 + 1), uJ N 0 nb y.toInt64) := by simp [ps_broker, a2, p2, w2, f2]
          rw [q9]
          obtain ⟨b1, b2⟩ := sx_rg_n (n := 1000000) (by decide) (by decide) p1
          obtain ⟨d1, d2⟩ := sx_rg_n (n := 100) (by decide) (by decide) w1
          exact Or.inr ⟨rfl, i_broker I x z nb, uJ J 0 nb y.toInt64, (I 0 0 + 1 - 1).toInt64, n_L_broker h.ci (by simp [e_broker, hx_or, sx_st, a1, p1, w1, f1]), (by rw [r0]), v_broker h a3 a4 b1 b2 d1 d2 (by omega)⟩
      · have a2 : ¬ sx_in x 0 7 = 0 := a2
        have q9 : ps_broker P N x y z nb = (0, uI P 40 0 2, N) := by simp [ps_broker, a2, p2, w2]
        rw [q9]
        exact Or.inl ⟨ne40 (P := P) (v := 2) (by decide), ⟨I, t_L_broker_eA h.ci (by simp [e_broker, hx_or, a1, p1, w1]), h.th 2⟩, h.th 2⟩
    · have a2 : ¬ sx_in x 0 7 = 0 := a2
      have q9 : ps_broker P N x y z nb = (0, uI P 40 0 2, N) := by simp [ps_broker, a2, p2]
      rw [q9]
      exact Or.inl ⟨ne40 (P := P) (v := 2) (by decide), ⟨I, t_L_broker_eA h.ci (by simp [e_broker, hx_or, a1, p1]), h.th 2⟩, h.th 2⟩
  · have a2 : sx_in x 0 7 = 0 := a2
    have q9 : ps_broker P N x y z nb = (0, uI P 40 0 1, N) := by simp [ps_broker, a2]
    rw [q9]
    exact Or.inl ⟨ne40 (P := P) (v := 1) (by decide), ⟨I, t_L_broker_eI h.ci (by simp [e_broker, hx_or, a1]), h.th 1⟩, h.th 1⟩
set_option maxRecDepth 100000 in
theorem so_trust {k nb no nc : Nat} {I : MI} {J : MJ} {P : MI} {N : MJ} {x y z w : Int32} (hw : hw_bo w) (h : IV k nb no nc I J P N) (hk9 : k ≤ 520) : so k nb no nc (kL_trust x y z w) 0 (nb) (no) (nc) (ps_trust P N x y z w).1 (ps_trust P N x y z w).2 I J := by
  have hbc : I 0 0 = nI nb := h.ci.1.1.1
  have hnb : nb ≤ 12 := h.ci.1.1.2
  have hoc : I 1 0 = nI no := h.ci.1.2.1.1
  have hno : no ≤ 40 := h.ci.1.2.1.2
  have hcc : I 2 0 = nI nc := h.ci.1.2.2.1.1
  have hnc : nc ≤ 40 := h.ci.1.2.2.1.2
  have r0 : P 0 0 = I 0 0 := h.ints 0 0 (by unfold shd; omega)
  have r1 : P 1 0 = I 1 0 := h.ints 1 0 (by unfold shd; omega)
  have r2 : P 2 0 = I 2 0 := h.ints 2 0 (by unfold shd; omega)
  have r3 : P 3 0 = I 3 0 := h.ints 3 0 (by unfold shd; omega)
  have rP : ∀ g j, ((5 ≤ g ∧ g ≤ 8) ∨ (12 ≤ g ∧ g ≤ 20) ∨ (22 ≤ g ∧ g ≤ 25) ∨ (28 ≤ g ∧ g ≤ 30)) → P g j = I g j := fun g j hg => h.ints g j (by unfold shd; omega)
  have n0 : ∀ j, N 0 j = J 0 j := fun j => (h.debts j).1.symm
  have n1 : ∀ j, N 1 j = J 1 j := fun j => (h.debts j).2.1.symm
  have n2 : ∀ j, N 2 j = J 2 j := fun j => (h.debts j).2.2.symm
  rcases two_cs (x := x) (y := y) hbc r0 hnb with ⟨a1, a2, a3, a4, a5, a6⟩ | ⟨a1, a2⟩ | ⟨a1, a2, a3⟩
  · rcases rg_cs z 0 1000000 with ⟨p1, p2⟩ | ⟨p1, p2⟩
    · have q9 : ps_trust P N x y z w = (uI (uI (uI P 40 0 0) 10 (12 * tn x + tn y) z) 11 (12 * tn x + tn y) w, N) := by simp [ps_trust, a2, a3, p2]
      rw [q9]
      obtain ⟨b1, b2⟩ := sx_rg_n (n := 1000000) (by decide) (by decide) p1
      exact Or.inr ⟨rfl, i_trust I x y z w, J, 0, n_L_trust hw h.ci (by simp [e_trust, hx_or, a1, p1]), rfl, v_trust h w _ b1 b2⟩
    · have q9 : ps_trust P N x y z w = (uI P 40 0 2, N) := by simp [ps_trust, a2, a3, p2]
      rw [q9]
      exact Or.inl ⟨ne40 (P := P) (v := 2) (by decide), ⟨I, t_L_trust_eA hw h.ci (by simp [e_trust, hx_or, a1, p1]), h.th 2⟩, h.th 2⟩
  · have q9 : ps_trust P N x y z w = (uI P 40 0 1, N) := by simp [ps_trust, a2]
    rw [q9]
    exact Or.inl ⟨ne40 (P := P) (v := 1) (by decide), ⟨I, t_L_trust_eI hw h.ci (by simp [e_trust, hx_or, a1]), h.th 1⟩, h.th 1⟩
  · have q9 : ps_trust P N x y z w = (uI P 40 0 2, N) := by simp [ps_trust, a2, show (x = y) = True from eq_true a3]
    rw [q9]
    exact Or.inl ⟨ne40 (P := P) (v := 2) (by decide), ⟨I, t_L_trust_eA hw h.ci (by simp [e_trust, hx_or, a1]), h.th 2⟩, h.th 2⟩
set_option maxRecDepth 100000 in
theorem so_law {k nb no nc : Nat} {I : MI} {J : MJ} {P : MI} {N : MJ} {x y : Int32} (h : IV k nb no nc I J P N) (hk9 : k ≤ 520) : so k nb no nc (kL_lawOf x y) (ps_law P N x y).1.toInt64 (nb) (no) (nc) (ps_law P N x y).2.1 (ps_law P N x y).2.2 I J := by
  have hbc : I 0 0 = nI nb := h.ci.1.1.1
  have hnb : nb ≤ 12 := h.ci.1.1.2
  have hoc : I 1 0 = nI no := h.ci.1.2.1.1
  have hno : no ≤ 40 := h.ci.1.2.1.2
  have hcc : I 2 0 = nI nc := h.ci.1.2.2.1.1
  have hnc : nc ≤ 40 := h.ci.1.2.2.1.2
  have r0 : P 0 0 = I 0 0 := h.ints 0 0 (by unfold shd; omega)
  have r1 : P 1 0 = I 1 0 := h.ints 1 0 (by unfold shd; omega)
  have r2 : P 2 0 = I 2 0 := h.ints 2 0 (by unfold shd; omega)
  have r3 : P 3 0 = I 3 0 := h.ints 3 0 (by unfold shd; omega)
  have rP : ∀ g j, ((5 ≤ g ∧ g ≤ 8) ∨ (12 ≤ g ∧ g ≤ 20) ∨ (22 ≤ g ∧ g ≤ 25) ∨ (28 ≤ g ∧ g ≤ 30)) → P g j = I g j := fun g j hg => h.ints g j (by unfold shd; omega)
  have n0 : ∀ j, N 0 j = J 0 j := fun j => (h.debts j).1.symm
  have n1 : ∀ j, N 1 j = J 1 j := fun j => (h.debts j).2.1.symm
  have n2 : ∀ j, N 2 j = J 2 j := fun j => (h.debts j).2.2.symm
  rcases ix_cs (x := x) (c9 := 8) (n := 8) rfl (by omega) with ⟨a1, a2, a3, a4⟩ | ⟨a1, a2⟩
  · rcases rg_cs y 0 1000000 with ⟨p1, p2⟩ | ⟨p1, p2⟩
    · have a2 : ¬ sx_in x 0 7 = 0 := a2
      have q9 : ps_law P N x y = (P 29 (tn x), uI (uI P 40 0 0) 28 (tn x) y, N) := by simp [ps_law, a2, p2]
      rw [q9]
      exact Or.inr ⟨rfl, uI I 28 (tn x) y, J, (I 29 (tn x)).toInt64, n_L_lawOf (by simp [e_law, hx_or, a1, p1]), (by rw [rP 29 _ (by omega)]), h.set 28 _ _ (by unfold fre; omega) (by unfold ckf; omega) 0⟩
    · have a2 : ¬ sx_in x 0 7 = 0 := a2
      have q9 : ps_law P N x y = (0, uI P 40 0 2, N) := by simp [ps_law, a2, p2]
      rw [q9]
      exact Or.inl ⟨ne40 (P := P) (v := 2) (by decide), ⟨I, t_L_lawOf_eA (by simp [e_law, hx_or, a1, p1]), h.th 2⟩, h.th 2⟩
  · have a2 : sx_in x 0 7 = 0 := a2
    have q9 : ps_law P N x y = (0, uI P 40 0 1, N) := by simp [ps_law, a2]
    rw [q9]
    exact Or.inl ⟨ne40 (P := P) (v := 1) (by decide), ⟨I, t_L_lawOf_eI (by simp [e_law, hx_or, a1]), h.th 1⟩, h.th 1⟩
set_option maxRecDepth 100000 in
theorem so_list {k nb no nc : Nat} {I : MI} {J : MJ} {P : MI} {N : MJ} {x : Int32} (h : IV k nb no nc I J P N) (hk9 : k ≤ 520) : so k nb no nc (kL_list x) (if (ps_list P N x).1 = 0 then 0 else 1) (nb) (no) (nc) (ps_list P N x).2.1 (ps_list P N x).2.2 I J := by
  have hbc : I 0 0 = nI nb := h.ci.1.1.1
  have hnb : nb ≤ 12 := h.ci.1.1.2
  have hoc : I 1 0 = nI no := h.ci.1.2.1.1
  have hno : no ≤ 40 := h.ci.1.2.1.2
  have hcc : I 2 0 = nI nc := h.ci.1.2.2.1.1
  have hnc : nc ≤ 40 := h.ci.1.2.2.1.2
  have r0 : P 0 0 = I 0 0 := h.ints 0 0 (by unfold shd; omega)
  have r1 : P 1 0 = I 1 0 := h.ints 1 0 (by unfold shd; omega)
  have r2 : P 2 0 = I 2 0 := h.ints 2 0 (by unfold shd; omega)
  have r3 : P 3 0 = I 3 0 := h.ints 3 0 (by unfold shd; omega)
  have rP : ∀ g j, ((5 ≤ g ∧ g ≤ 8) ∨ (12 ≤ g ∧ g ≤ 20) ∨ (22 ≤ g ∧ g ≤ 25) ∨ (28 ≤ g ∧ g ≤ 30)) → P g j = I g j := fun g j hg => h.ints g j (by unfold shd; omega)
  have n0 : ∀ j, N 0 j = J 0 j := fun j => (h.debts j).1.symm
  have n1 : ∀ j, N 1 j = J 1 j := fun j => (h.debts j).2.1.symm
  have n2 : ∀ j, N 2 j = J 2 j := fun j => (h.debts j).2.2.symm
  rcases ix_cs (x := x) (c9 := 20) (n := 20) rfl (by omega) with ⟨a1, a2, a3, a4⟩ | ⟨a1, a2⟩
  · have a2 : ¬ sx_in x 0 19 = 0 := a2
    by_cases c1 : I 30 (tn x) = 0
    · have c2 : P 30 (tn x) = 0 := (rP 30 _ (by omega)).trans c1
      have q9 : ps_list P N x = (1, uI (uI P 40 0 0) 30 (tn x) 1, N) := by simp [ps_list, a2, c2]
      rw [q9]
      have e9 : i_list I x = uI I 30 (tn x) 1 := by simp [i_list, c1]
      have w9 := n_L_list (I := I) (J := J) (x := x) (by simp [e_list, a1])
      rw [e9] at w9
      exact Or.inr ⟨rfl, uI I 30 (tn x) 1, J, _, w9, (by simp [c1]), h.set 30 _ _ (by unfold fre; omega) (by unfold ckf; omega) 0⟩
    · have c2 : ¬ P 30 (tn x) = 0 := fun z => c1 ((rP 30 _ (by omega)).symm.trans z)
      have q9 : ps_list P N x = (0, uI (uI P 40 0 0) 30 (tn x) 0, N) := by simp [ps_list, a2, c2]
      rw [q9]
      have e9 : i_list I x = uI I 30 (tn x) 0 := by simp [i_list, c1]
      have w9 := n_L_list (I := I) (J := J) (x := x) (by simp [e_list, a1])
      rw [e9] at w9
      exact Or.inr ⟨rfl, uI I 30 (tn x) 0, J, _, w9, (by simp [c1]), h.set 30 _ _ (by unfold fre; omega) (by unfold ckf; omega) 0⟩
  · have a2 : sx_in x 0 19 = 0 := a2
    have q9 : ps_list P N x = (0, uI P 40 0 1, N) := by simp [ps_list, a2]
    rw [q9]
    exact Or.inl ⟨ne40 (P := P) (v := 1) (by decide), ⟨I, t_L_list_eI (by simp [e_list, hx_or, a1]), h.th 1⟩, h.th 1⟩
set_option maxRecDepth 100000 in
theorem so_rob {k nb no nc : Nat} {I : MI} {J : MJ} {P : MI} {N : MJ} {x : Int32} (h : IV k nb no nc I J P N) (hk9 : k ≤ 520) : so k nb no nc (kL_rob x) (ps_rob P N x).1.toInt64 (nb) (no) (nc) (ps_rob P N x).2.1 (ps_rob P N x).2.2 I J := by
  have hbc : I 0 0 = nI nb := h.ci.1.1.1
  have hnb : nb ≤ 12 := h.ci.1.1.2
  have hoc : I 1 0 = nI no := h.ci.1.2.1.1
  have hno : no ≤ 40 := h.ci.1.2.1.2
  have hcc : I 2 0 = nI nc := h.ci.1.2.2.1.1
  have hnc : nc ≤ 40 := h.ci.1.2.2.1.2
  have r0 : P 0 0 = I 0 0 := h.ints 0 0 (by unfold shd; omega)
  have r1 : P 1 0 = I 1 0 := h.ints 1 0 (by unfold shd; omega)
  have r2 : P 2 0 = I 2 0 := h.ints 2 0 (by unfold shd; omega)
  have r3 : P 3 0 = I 3 0 := h.ints 3 0 (by unfold shd; omega)
  have rP : ∀ g j, ((5 ≤ g ∧ g ≤ 8) ∨ (12 ≤ g ∧ g ≤ 20) ∨ (22 ≤ g ∧ g ≤ 25) ∨ (28 ≤ g ∧ g ≤ 30)) → P g j = I g j := fun g j hg => h.ints g j (by unfold shd; omega)
  have n0 : ∀ j, N 0 j = J 0 j := fun j => (h.debts j).1.symm
  have n1 : ∀ j, N 1 j = J 1 j := fun j => (h.debts j).2.1.symm
  have n2 : ∀ j, N 2 j = J 2 j := fun j => (h.debts j).2.2.symm
  rcases ix_cs (x := x) hcc (by omega) with ⟨a1, a2, a3, a4⟩ | ⟨a1, a2⟩
  · have hv : P 41 (tn x) = if I 26 (tn x) = 0 then 1 else 0 := h.1.2.1 (tn x) a4
    by_cases c1 : I 26 (tn x) = 0
    · have c2 : ¬ P 41 (tn x) = 0 := by rw [hv, if_pos c1]; decide
      have q9 : ps_rob P N x = (0, uI P 40 0 2, N) := by simp [ps_rob, r2, a2, c2]
      rw [q9]
      exact Or.inl ⟨ne40 (P := P) (v := 2) (by decide), ⟨I, t_L_rob_eS h.ci (by simp [e_rob, hx_or, a1, sx_st, c1]), h.th 2⟩, h.th 2⟩
    · have c2 : P 41 (tn x) = 0 := by rw [hv, if_neg c1]
      have q9 : ps_rob P N x = (P 24 (tn x), uI (uI P 40 0 0) 41 (tn x) 1, uJ N 4 3 (N 4 3 + (P 24 (tn x)).toInt64)) := by simp [ps_rob, r2, a2, c2]
      rw [q9]
      exact Or.inr ⟨rfl, i_rob I x, J, (I 24 (tn x)).toInt64, n_L_rob h.ci (by simp [e_rob, hx_or, sx_st, a1, c1]), (by rw [rP 24 _ (by omega)]), v_rob h a4 c1⟩
  · have q9 : ps_rob P N x = (0, uI P 40 0 1, N) := by simp [ps_rob, r2, a2]
    rw [q9]
    exact Or.inl ⟨ne40 (P := P) (v := 1) (by decide), ⟨I, t_L_rob_eI h.ci (by simp [e_rob, hx_or, a1]), h.th 1⟩, h.th 1⟩
set_option maxRecDepth 100000 in
theorem so_pay {k nb no nc : Nat} {I : MI} {J : MJ} {P : MI} {N : MJ} {x y z : Int32} (h : IV k nb no nc I J P N) (hk9 : k ≤ 520) : so k nb no nc (kL_pay x y z) (ps_pay P N x y z).1.toInt64 (nb) (no) (nc) (ps_pay P N x y z).2.1 (ps_pay P N x y z).2.2 I J := by
  have hbc : I 0 0 = nI nb := h.ci.1.1.1
  have hnb : nb ≤ 12 := h.ci.1.1.2
  have hoc : I 1 0 = nI no := h.ci.1.2.1.1
  have hno : no ≤ 40 := h.ci.1.2.1.2
  have hcc : I 2 0 = nI nc := h.ci.1.2.2.1.1
  have hnc : nc ≤ 40 := h.ci.1.2.2.1.2
  have r0 : P 0 0 = I 0 0 := h.ints 0 0 (by unfold shd; omega)
  have r1 : P 1 0 = I 1 0 := h.ints 1 0 (by unfold shd; omega)
  have r2 : P 2 0 = I 2 0 := h.ints 2 0 (by unfold shd; omega)
  have r3 : P 3 0 = I 3 0 := h.ints 3 0 (by unfold shd; omega)
  have rP : ∀ g j, ((5 ≤ g ∧ g ≤ 8) ∨ (12 ≤ g ∧ g ≤ 20) ∨ (22 ≤ g ∧ g ≤ 25) ∨ (28 ≤ g ∧ g ≤ 30)) → P g j = I g j := fun g j hg => h.ints g j (by unfold shd; omega)
  have n0 : ∀ j, N 0 j = J 0 j := fun j => (h.debts j).1.symm
  have n1 : ∀ j, N 1 j = J 1 j := fun j => (h.debts j).2.1.symm
  have n2 : ∀ j, N 2 j = J 2 j := fun j => (h.debts j).2.2.symm
  rcases two_cs (x := x) (y := y) hbc r0 hnb with ⟨a1, a2, a3, a4, a5, a6⟩ | ⟨a1, a2⟩ | ⟨a1, a2, a3⟩
  · rcases rg_cs z 1 1000000 with ⟨p1, p2⟩ | ⟨p1, p2⟩
    · have u1 : P 7 (tn x) = I 7 (tn x) := rP 7 _ (by omega)
      have u2 : P 7 (tn y) = I 7 (tn y) := rP 7 _ (by omega)
      by_cases c1 : I 7 (tn x) = 0
      · by_cases c2 : I 7 (tn y) = 0
        · by_cases c3 : lg_cmp (J 1 (12 * tn x + tn y)) z.toInt64 < 0
          · have q9 : ps_pay P N x y z = (0, uI P 40 0 3, N) := by simp [ps_pay, a2, a3, p2, u1, u2, n1, c1, c2, c3]
            rw [q9]
            exact Or.inl ⟨ne40 (P := P) (v := 3) (by decide), ⟨I, t_L_pay_eS h.ci (by simp [e_pay, hx_or, hb, sx_st, a1, p1, c1, c2, c3]), h.th 3⟩, h.th 3⟩
          · by_cases c4 : lg_cmp (J 0 (tn x)) z.toInt64 < 0
            · have q9 : ps_pay P N x y z = (0, uI P 40 0 3, N) := by simp [ps_pay, a2, a3, p2, u1, u2, n1, n0, c1, c2, c3, c4]
              rw [q9]
              exact Or.inl ⟨ne40 (P := P) (v := 3) (by decide), ⟨I, t_L_pay_eS h.ci (by simp [e_pay, hx_or, hb, sx_st, a1, p1, c1, c2, c3, c4]), h.th 3⟩, h.th 3⟩
            · obtain ⟨b1, b2, b3⟩ := sx_rg_1 (n := 1000000) (by decide) (by decide) p1
              have e1 : (j_pay J x y z 1 (12 * tn x + tn y)) = pj_pay N x y z 1 (12 * tn x + tn y) := ((v_pay h (by omega) (by omega) (by omega) a6 b1 b3 (sub_cash b1 (by omega) c4 (h.2.1.2.2.2.2.2.2.2 (tn x)).1).1).1.1.2.2.1 _).2.1
              have q9 : ps_pay P N x y z = ((pj_pay N x y z 1 (12 * tn x + tn y)).toInt32, uI P 40 0 0, pj_pay N x y z) := by simp [ps_pay, a2, a3, p2, u1, u2, n1, n0, c1, c2, c3, c4]
              rw [q9]
              exact Or.inr ⟨rfl, I, j_pay J x y z, (j_pay J x y z 1 (12 * tn x + tn y)).toInt32.toInt64, n_L_pay h.ci (by simp [e_pay, hx_or, hb, sx_st, a1, p1, c1, c2, c3, c4]), (by rw [e1]), v_pay h (by omega) (by omega) (by omega) a6 b1 b3 (sub_cash b1 (by omega) c4 (h.2.1.2.2.2.2.2.2.2 (tn x)).1).1⟩
        · have q9 : ps_pay P N x y z = (0, uI P 40 0 3, N) := by simp [ps_pay, a2, a3, p2, u1, u2, c1, c2]
          rw [q9]
          exact Or.inl ⟨ne40 (P := P) (v := 3) (by decide), ⟨I, t_L_pay_eS h.ci (by simp [e_pay, hx_or, hb, sx_st, a1, p1, c1, c2]), h.th 3⟩, h.th 3⟩
      · have q9 : ps_pay P N x y z = (0, uI P 40 0 3, N) := by simp [ps_pay, a2, a3, p2, u1, c1]
        rw [q9]
        exact Or.inl ⟨ne40 (P := P) (v := 3) (by decide), ⟨I, t_L_pay_eS h.ci (by simp [e_pay, hx_or, hb, sx_st, a1, p1, c1]), h.th 3⟩, h.th 3⟩
    · have q9 : ps_pay P N x y z = (0, uI P 40 0 2, N) := by simp [ps_pay, a2, a3, p2]
      rw [q9]
      exact Or.inl ⟨ne40 (P := P) (v := 2) (by decide), ⟨I, t_L_pay_eA h.ci (by simp [e_pay, hx_or, a1, p1]), h.th 2⟩, h.th 2⟩
  · have q9 : ps_pay P N x y z = (0, uI P 40 0 1, N) := by simp [ps_pay, a2]
    rw [q9]
    exact Or.inl ⟨ne40 (P := P) (v := 1) (by decide), ⟨I, t_L_pay_eI h.ci (by simp [e_pay, hx_or, a1]), h.th 1⟩, h.th 1⟩
  · have q9 : ps_pay P N x y z = (0, uI P 40 0 2, N) := by simp [ps_pay, a2, show (x = y) = True from eq_true a3]
    rw [q9]
    exact Or.inl ⟨ne40 (P := P) (v := 2) (by decide), ⟨I, t_L_pay_eA h.ci (by simp [e_pay, hx_or, a1]), h.th 2⟩, h.th 2⟩
set_option maxRecDepth 100000 in
theorem so_deliver {k nb no nc : Nat} {I : MI} {J : MJ} {P : MI} {N : MJ} {x y z : Int32} (h : IV k nb no nc I J P N) (hk9 : k ≤ 520) : so k nb no nc (kL_deliver x y z) (ps_deliver P N x y z).1.toInt64 (nb) (no) (nc) (ps_deliver P N x y z).2.1 (ps_deliver P N x y z).2.2 I J := by
  have hbc : I 0 0 = nI nb := h.ci.1.1.1
  have hnb : nb ≤ 12 := h.ci.1.1.2
  have hoc : I 1 0 = nI no := h.ci.1.2.1.1
  have hno : no ≤ 40 := h.ci.1.2.1.2
  have hcc : I 2 0 = nI nc := h.ci.1.2.2.1.1
  have hnc : nc ≤ 40 := h.ci.1.2.2.1.2
  have r0 : P 0 0 = I 0 0 := h.ints 0 0 (by unfold shd; omega)
  have r1 : P 1 0 = I 1 0 := h.ints 1 0 (by unfold shd; omega)
  have r2 : P 2 0 = I 2 0 := h.ints 2 0 (by unfold shd; omega)
  have r3 : P 3 0 = I 3 0 := h.ints 3 0 (by unfold shd; omega)
  have rP : ∀ g j, ((5 ≤ g ∧ g ≤ 8) ∨ (12 ≤ g ∧ g ≤ 20) ∨ (22 ≤ g ∧ g ≤ 25) ∨ (28 ≤ g ∧ g ≤ 30)) → P g j = I g j := fun g j hg => h.ints g j (by unfold shd; omega)
  have n0 : ∀ j, N 0 j = J 0 j := fun j => (h.debts j).1.symm
  have n1 : ∀ j, N 1 j = J 1 j := fun j => (h.debts j).2.1.symm
  have n2 : ∀ j, N 2 j = J 2 j := fun j => (h.debts j).2.2.symm
  rcases two_cs (x := x) (y := y) hbc r0 hnb with ⟨a1, a2, a3, a4, a5, a6⟩ | ⟨a1, a2⟩ | ⟨a1, a2, a3⟩
  · rcases rg_cs z 1 1000000 with ⟨p1, p2⟩ | ⟨p1, p2⟩
    · have u1 : P 7 (tn x) = I 7 (tn x) := rP 7 _ (by omega)
      have u2 : P 7 (tn y) = I 7 (tn y) := rP 7 _ (by omega)
      by_cases c1 : I 7 (tn x) = 2
      · have q9 : ps_deliver P N x y z = (0, uI P 40 0 3, N) := by simp [ps_deliver, a2, a3, p2, u1, c1]
        rw [q9]
        exact Or.inl ⟨ne40 (P := P) (v := 3) (by decide), ⟨I, t_L_deliver_eS h.ci (by simp [e_deliver, hx_or, sx_st, a1, p1, c1]), h.th 3⟩, h.th 3⟩
      · by_cases c2 : I 7 (tn y) = 2
        · have q9 : ps_deliver P N x y z = (0, uI P 40 0 3, N) := by simp [ps_deliver, a2, a3, p2, u1, u2, c1, c2]
          rw [q9]
          exact Or.inl ⟨ne40 (P := P) (v := 3) (by decide), ⟨I, t_L_deliver_eS h.ci (by simp [e_deliver, hx_or, sx_st, a1, p1, c1, c2]), h.th 3⟩, h.th 3⟩
        · by_cases c3 : lg_cmp (J 1 (12 * tn x + tn y)) z.toInt64 < 0
          · have q9 : ps_deliver P N x y z = (0, uI P 40 0 3, N) := by simp [ps_deliver, a2, a3, p2, u1, u2, n1, c1, c2, c3]
            rw [q9]
            exact Or.inl ⟨ne40 (P := P) (v := 3) (by decide), ⟨I, t_L_deliver_eS h.ci (by simp [e_deliver, hx_or, sx_st, a1, p1, c1, c2, c3]), h.th 3⟩, h.th 3⟩
          · have v9 := v_deliver h (by omega) (x := x) (y := y) (z := z) (by omega) (by omega)
            have e1 : (j_deliver J x y z 1 (12 * tn x + tn y)) = pj_deliver N x y z 1 (12 * tn x + tn y) := (v9.1.1.2.2.1 _).2.1
            have q9 : ps_deliver P N x y z = ((pj_deliver N x y z 1 (12 * tn x + tn y)).toInt32, uI P 40 0 0, pj_deliver N x y z) := by simp [ps_deliver, a2, a3, p2, u1, u2, n1, c1, c2, c3]
            rw [q9]
            exact Or.inr ⟨rfl, I, j_deliver J x y z, (j_deliver J x y z 1 (12 * tn x + tn y)).toInt32.toInt64, n_L_deliver h.ci (by simp [e_deliver, hx_or, sx_st, a1, p1, c1, c2, c3]), (by rw [e1]), v9⟩
    · have q9 : ps_deliver P N x y z = (0, uI P 40 0 2, N) := by simp [ps_deliver, a2, a3, p2]
      rw [q9]
      exact Or.inl ⟨ne40 (P := P) (v := 2) (by decide), ⟨I, t_L_deliver_eA h.ci (by simp [e_deliver, hx_or, a1, p1]), h.th 2⟩, h.th 2⟩
  · have q9 : ps_deliver P N x y z = (0, uI P 40 0 1, N) := by simp [ps_deliver, a2]
    rw [q9]
    exact Or.inl ⟨ne40 (P := P) (v := 1) (by decide), ⟨I, t_L_deliver_eI h.ci (by simp [e_deliver, hx_or, a1]), h.th 1⟩, h.th 1⟩
  · have q9 : ps_deliver P N x y z = (0, uI P 40 0 2, N) := by simp [ps_deliver, a2, show (x = y) = True from eq_true a3]
    rw [q9]
    exact Or.inl ⟨ne40 (P := P) (v := 2) (by decide), ⟨I, t_L_deliver_eA h.ci (by simp [e_deliver, hx_or, a1]), h.th 2⟩, h.th 2⟩
set_option maxRecDepth 100000 in
theorem so_courier {k nb no nc : Nat} {I : MI} {J : MJ} {P : MI} {N : MJ} {x y z w : Int32} (h : IV k nb no nc I J P N) (hk9 : k ≤ 520) : so k nb no nc (kL_courier x y z w) (ps_courier P N x y z w nc).1.toInt64 (nb) (no) (nc + 1) (ps_courier P N x y z w nc).2.1 (ps_courier P N x y z w nc).2.2 I J := by
  have hbc : I 0 0 = nI nb := h.ci.1.1.1
  have hnb : nb ≤ 12 := h.ci.1.1.2
  have hoc : I 1 0 = nI no := h.ci.1.2.1.1
  have hno : no ≤ 40 := h.ci.1.2.1.2
  have hcc : I 2 0 = nI nc := h.ci.1.2.2.1.1
  have hnc : nc ≤ 40 := h.ci.1.2.2.1.2
  have r0 : P 0 0 = I 0 0 := h.ints 0 0 (by unfold shd; omega)
  have r1 : P 1 0 = I 1 0 := h.ints 1 0 (by unfold shd; omega)
  have r2 : P 2 0 = I 2 0 := h.ints 2 0 (by unfold shd; omega)
  have r3 : P 3 0 = I 3 0 := h.ints 3 0 (by unfold shd; omega)
  have rP : ∀ g j, ((5 ≤ g ∧ g ≤ 8) ∨ (12 ≤ g ∧ g ≤ 20) ∨ (22 ≤ g ∧ g ≤ 25) ∨ (28 ≤ g ∧ g ≤ 30)) → P g j = I g j := fun g j hg => h.ints g j (by unfold shd; omega)
  have n0 : ∀ j, N 0 j = J 0 j := fun j => (h.debts j).1.symm
  have n1 : ∀ j, N 1 j = J 1 j := fun j => (h.debts j).2.1.symm
  have n2 : ∀ j, N 2 j = J 2 j := fun j => (h.debts j).2.2.symm
  rcases two_cs (x := x) (y := y) hbc r0 hnb with ⟨a1, a2, a3, a4, a5, a6⟩ | ⟨a1, a2⟩ | ⟨a1, a2, a3⟩
  · rcases rg_cs z 1 1000000 with ⟨p1, p2⟩ | ⟨p1, p2⟩
    · rcases rg_cs w 1 500 with ⟨w1, w2⟩ | ⟨w1, w2⟩
      · have u1 : P 7 (tn x) = I 7 (tn x) := rP 7 _ (by omega)
        by_cases f0 : nc = 40
        · have f1 : 40 ≤ I 2 0 := by rw [hcc, f0]; decide
          have q9 : ps_courier P N x y z w nc = (0, uI P 40 0 3, N) := by simp [ps_courier, a2, a3, p2, w2, r2, f1]
          rw [q9]
          exact Or.inl ⟨ne40 (P := P) (v := 3) (by decide), ⟨I, t_L_courier_eS h.ci (by simp [e_courier, hx_or, hb, sx_st, a1, p1, w1, f1]), h.th 3⟩, h.th 3⟩
        · have f1 : ¬ 40 ≤ I 2 0 := by rw [hcc]; exact nI_ge (b := 40) (by omega) (by omega)
          by_cases c1 : I 7 (tn x) = 0
          · by_cases c4 : lg_cmp (J 0 (tn x)) z.toInt64 < 0
            · have q9 : ps_courier P N x y z w nc = (0, uI P 40 0 3, N) := by simp [ps_courier, a2, a3, p2, w2, r2, f1, u1, n0, c1, c4]
              rw [q9]
              exact Or.inl ⟨ne40 (P := P) (v := 3) (by decide), ⟨I, t_L_courier_eS h.ci (by simp [e_courier, hx_or, hb, sx_st, a1, p1, w1, f1, c1, c4]), h.th 3⟩, h.th 3⟩
            · obtain ⟨b1, b2, b3⟩ := sx_rg_1 (n := 1000000) (by decide) (by decide) p1
              have q9 : ps_courier P N x y z w nc = (P 2 0 + 1 - 1, uI (uI (uI (uI (uI (uI P 40 0 0) 24 nc z) 22 nc x) 23 nc y) 25 nc (P 3 0 + w)) 2 0 (P 2 0 + 1), uJ N 0 (tn x) (N 0 (tn x) - z.toInt64)) := by unfold ps_courier; rw [if_neg a2, if_neg a3, if_neg p2, if_neg w2, if_neg (by rw [r2]; exact f1), if_neg (fun y => y (u1.trans c1)), if_neg (by rw [n0]; exact c4)]
              rw [q9]
              exact Or.inr ⟨rfl, i_courier I x y z w nc, uJ J 0 (tn x) (J 0 (tn x) - z.toInt64), (I 2 0 + 1 - 1).toInt64, n_L_courier h.ci (by simp [e_courier, hx_or, hb, sx_st, a1, p1, w1, f1, c1, c4]), (by rw [r2]), v_courier h a4.1 (by omega) a5.1 (by omega) b1 b3 (by omega) (sub_cash b1 (by omega) c4 (h.2.1.2.2.2.2.2.2.2 (tn x)).1).1⟩
          · have q9 : ps_courier P N x y z w nc = (0, uI P 40 0 3, N) := by simp [ps_courier, a2, a3, p2, w2, r2, f1, u1, c1]
            rw [q9]
            exact Or.inl ⟨ne40 (P := P) (v := 3) (by decide), ⟨I, t_L_courier_eS h.ci (by simp [e_courier, hx_or, hb, sx_st, a1, p1, w1, f1, c1]), h.th 3⟩, h.th 3⟩
      · have q9 : ps_courier P N x y z w nc = (0, uI P 40 0 2, N) := by simp [ps_courier, a2, a3, p2, w2]
        rw [q9]
        exact Or.inl ⟨ne40 (P := P) (v := 2) (by decide), ⟨I, t_L_courier_eA h.ci (by simp [e_courier, hx_or, a1, p1, w1]), h.th 2⟩, h.th 2⟩
    · have q9 : ps_courier P N x y z w nc = (0, uI P 40 0 2, N) := by simp [ps_courier, a2, a3, p2]
      rw [q9]
      exact Or.inl ⟨ne40 (P := P) (v := 2) (by decide), ⟨I, t_L_courier_eA h.ci (by simp [e_courier, hx_or, a1, p1]), h.th 2⟩, h.th 2⟩
  · have q9 : ps_courier P N x y z w nc = (0, uI P 40 0 1, N) := by simp [ps_courier, a2]
    rw [q9]
    exact Or.inl ⟨ne40 (P := P) (v := 1) (by decide), ⟨I, t_L_courier_eI h.ci (by simp [e_courier, hx_or, a1]), h.th 1⟩, h.th 1⟩
  · have q9 : ps_courier P N x y z w nc = (0, uI P 40 0 2, N) := by simp [ps_courier, a2, show (x = y) = True from eq_true a3]
    rw [q9]
    exact Or.inl ⟨ne40 (P := P) (v := 2) (by decide), ⟨I, t_L_courier_eA h.ci (by simp [e_courier, hx_or, a1]), h.th 2⟩, h.th 2⟩
theorem nh_40 (P : MI) (N : MJ) (nb no nc : Nat) : (ps_nh P N nb no nc).1 40 0 = P 40 0 := by
  have e1 : pn_1 P nb 40 0 = P 40 0 := n1_oth (by decide) (by decide)
  have e2 : (pn_2 P N nb no).1 40 0 = P 40 0 := lp_inv pn_b (fun _ σ => σ.1 40 0 = P 40 0) no (fun i σ _ hs => (nb_oth (by decide) (by decide)).trans hs) no 0 _ (by omega) e1
  have e3 : (pn_3 P N nb no).1 40 0 = P 40 0 := lp_inv pn_c (fun _ σ => σ.1 40 0 = P 40 0) no (fun i σ _ hs => (nc_oth (by decide)).trans hs) no 0 _ (by omega) e2
  have e4 : (pn_4 P N nb no).1 40 0 = P 40 0 := lp_inv pn_d (fun _ σ => σ.1 40 0 = P 40 0) no (fun i σ _ hs => (nd_oth (by decide)).trans hs) no 0 _ (by omega) e3
  exact lp_inv pf_ca (fun _ σ => σ.1 40 0 = P 40 0) nc (fun i σ hi hs => (ca_oth (by decide)).trans hs) nc 0 _ (by omega) e4
theorem ps_40 (P : MI) (N : MJ) (x : Int32) (nb no nc : Nat) : (pl_pass P N x nb no nc).1 40 0 = 0 := lp_inv (pf_ps nb no nc) (fun _ σ => σ.1 40 0 = 0) (tn x) (fun i σ _ hs => (nh_40 σ.1 σ.2 nb no nc).trans hs) (tn x) 0 (uI P 40 0 0, N) (by omega) rfl
set_option maxRecDepth 100000 in
theorem so_pass {k nb no nc : Nat} {I : MI} {J : MJ} {P : MI} {N : MJ} {x : Int32} (h : IV k nb no nc I J P N) (hk9 : k ≤ 520) : so k nb no nc (kL_pass x) (ps_pass P N x nb no nc).1.toInt64 (nb) (no) (nc) (ps_pass P N x nb no nc).2.1 (ps_pass P N x nb no nc).2.2 I J := by
  have hbc : I 0 0 = nI nb := h.ci.1.1.1
  have hnb : nb ≤ 12 := h.ci.1.1.2
  have hoc : I 1 0 = nI no := h.ci.1.2.1.1
  have hno : no ≤ 40 := h.ci.1.2.1.2
  have hcc : I 2 0 = nI nc := h.ci.1.2.2.1.1
  have hnc : nc ≤ 40 := h.ci.1.2.2.1.2
  have r0 : P 0 0 = I 0 0 := h.ints 0 0 (by unfold shd; omega)
  have r1 : P 1 0 = I 1 0 := h.ints 1 0 (by unfold shd; omega)
  have r2 : P 2 0 = I 2 0 := h.ints 2 0 (by unfold shd; omega)
  have r3 : P 3 0 = I 3 0 := h.ints 3 0 (by unfold shd; omega)
  have rP : ∀ g j, ((5 ≤ g ∧ g ≤ 8) ∨ (12 ≤ g ∧ g ≤ 20) ∨ (22 ≤ g ∧ g ≤ 25) ∨ (28 ≤ g ∧ g ≤ 30)) → P g j = I g j := fun g j hg => h.ints g j (by unfold shd; omega)
  have n0 : ∀ j, N 0 j = J 0 j := fun j => (h.debts j).1.symm
  have n1 : ∀ j, N 1 j = J 1 j := fun j => (h.debts j).2.1.symm
  have n2 : ∀ j, N 2 j = J 2 j := fun j => (h.debts j).2.2.symm
  rcases rg_cs x 1 500 with ⟨p1, p2⟩ | ⟨p1, p2⟩
  · obtain ⟨b1, b2, b3⟩ := sx_rg_1 (n := 500) (by decide) (by decide) p1
    have v9 := v_pass h (by omega) (x := x) b3
    have q9 : ps_pass P N x nb no nc = ((pl_pass P N x nb no nc).1 3 0, pl_pass P N x nb no nc) := by simp [ps_pass, p2]
    rw [q9]
    have e3 : (pl_pass P N x nb no nc).1 3 0 = (s_pass I J x nb no nc).1 3 0 := v9.ints 3 0 (by unfold shd; omega)
    have e40 : (pl_pass P N x nb no nc).1 40 0 = 0 := ps_40 P N x nb no nc
    exact Or.inr ⟨e40, (s_pass I J x nb no nc).1, (s_pass I J x nb no nc).2, ((s_pass I J x nb no nc).1 3 0).toInt64, n_L_pass h.ci (by simp [e_pass, p1]), (by rw [e3]), v9⟩
  · have q9 : ps_pass P N x nb no nc = (0, uI P 40 0 1, N) := by simp [ps_pass, p2]
    rw [q9]
    exact Or.inl ⟨ne40 (P := P) (v := 1) (by decide), ⟨I, t_L_pass_eA h.ci (by simp [e_pass, hx_or, p1]), h.th 1⟩, h.th 1⟩
