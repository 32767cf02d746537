/-! what is asked: the answer hangs on the ghost alone, nothing changes -/
theorem aqI {K : MI → MJ → Int64 → MI → MJ → Prop} {q : Prop} [Decidable q] {r : Int64} {I : MI} {J : MJ} (h : ¬ q) (k : K I J NO I J) : K I J (if q then r else NO) I J := by rw [if_neg h]; exact k
theorem aqR {K : MI → MJ → Int64 → MI → MJ → Prop} {q : Prop} [Decidable q] {r o : Int64} {I : MI} {J : MJ} (h : q) (k : K I J o I J) (e : o = r) : K I J (if q then r else NO) I J := by rw [if_pos h, ← e]; exact k
theorem aq_brokerOf {k nb no nc : Nat} {I : MI} {J : MJ} {P : MI} {N : MJ} (x y : Int32) (h : IV k nb no nc I J P N) : kL_brokerOf x y I J (if (ps_brokerOf P N x y nb).2.1 40 0 = 0 then (ps_brokerOf P N x y nb).1 else NO) I J := by
  have hbc : I 0 0 = nI nb := h.ci.1.1.1
  have hnb : nb ≤ 12 := h.ci.1.1.2
  have hoc : I 1 0 = nI no := h.ci.1.2.1.1
  have hno : no ≤ 40 := h.ci.1.2.1.2
  have hcc : I 2 0 = nI nc := h.ci.1.2.2.1.1
  have hnc : nc ≤ 40 := h.ci.1.2.2.1.2
  have r0 : P 0 0 = I 0 0 := h.ints 0 0 (by unfold shd; omega)
  have r1 : P 1 0 = I 1 0 := h.ints 1 0 (by unfold shd; omega)
  have r2 : P 2 0 = I 2 0 := h.ints 2 0 (by unfold shd; omega)
  have r3 : P 3 0 = I 3 0 := h.ints 3 0 (by unfold shd; omega)
  have rP : ∀ g j, ((5 ≤ g ∧ g ≤ 8) ∨ (12 ≤ g ∧ g ≤ 20) ∨ (22 ≤ g ∧ g ≤ 25) ∨ (28 ≤ g ∧ g ≤ 30)) → P g j = I g j := fun g j hg => h.ints g j (by unfold shd; omega)
  have n0 : ∀ j, N 0 j = J 0 j := fun j => (h.debts j).1.symm
  have n1 : ∀ j, N 1 j = J 1 j := fun j => (h.debts j).2.1.symm
  have n2 : ∀ j, N 2 j = J 2 j := fun j => (h.debts j).2.2.symm
  rcases ix_cs (x := x) hbc (by omega) with ⟨a1, a2, a3, a4⟩ | ⟨a1, a2⟩
  · rcases rg_cs y 0 3 with ⟨p1, p2⟩ | ⟨p1, p2⟩
    · have e9 : lp (sf_wo N (tn x)) nb 0 (J 0 (tn x)) = lp (sf_wo J (tn x)) nb 0 (J 0 (tn x)) := lp_eq (hi := nb) (fun i s _ => by unfold sf_wo; rw [n1]) nb 0 _ (by omega)
      have q9 : ps_brokerOf P N x y nb = (r_brokerOf I J x y nb, uI P 40 0 0, N) := by
        unfold ps_brokerOf r_brokerOf
        rw [if_neg (by rw [r0]; exact a2), if_neg p2]
        by_cases c0 : y = 0
        · rw [if_neg (fun z => z c0), if_pos c0, rP 7 _ (by omega)]
        rw [if_pos c0, if_neg c0]
        by_cases c1 : y = 1
        · rw [if_neg (fun z => z c1), if_pos c1, n0]
        rw [if_pos c1, if_neg c1]
        by_cases c2 : y = 2
        · rw [if_neg (fun z => z c2), if_pos c2, rP 5 _ (by omega)]
        rw [if_pos c2, if_neg c2, n0, e9]
      rw [q9]
      exact aqR (K := kL_brokerOf x y) rfl (n_L_brokerOf h.ci (by simp [e_brokerOf, hx_or, a1, p1])) (rfl)
    · have q9 : ps_brokerOf P N x y nb = (0, uI P 40 0 2, N) := by simp [ps_brokerOf, r0, a2, p2]
      rw [q9]
      exact aqI (K := kL_brokerOf x y) (ne40 (P := P) (v := 2) (by decide)) (t_L_brokerOf_eA h.ci (by simp [e_brokerOf, hx_or, a1, p1]))
  · have q9 : ps_brokerOf P N x y nb = (0, uI P 40 0 1, N) := by simp [ps_brokerOf, r0, a2]
    rw [q9]
    exact aqI (K := kL_brokerOf x y) (ne40 (P := P) (v := 1) (by decide)) (t_L_brokerOf_eI h.ci (by simp [e_brokerOf, hx_or, a1]))
theorem aq_debt {k nb no nc : Nat} {I : MI} {J : MJ} {P : MI} {N : MJ} (x y z : Int32) (h : IV k nb no nc I J P N) : kL_debt x y z I J (if (ps_debt P N x y z).2.1 40 0 = 0 then (ps_debt P N x y z).1 else NO) I J := by
  have hbc : I 0 0 = nI nb := h.ci.1.1.1
  have hnb : nb ≤ 12 := h.ci.1.1.2
  have hoc : I 1 0 = nI no := h.ci.1.2.1.1
  have hno : no ≤ 40 := h.ci.1.2.1.2
  have hcc : I 2 0 = nI nc := h.ci.1.2.2.1.1
  have hnc : nc ≤ 40 := h.ci.1.2.2.1.2
  have r0 : P 0 0 = I 0 0 := h.ints 0 0 (by unfold shd; omega)
  have r1 : P 1 0 = I 1 0 := h.ints 1 0 (by unfold shd; omega)
  have r2 : P 2 0 = I 2 0 := h.ints 2 0 (by unfold shd; omega)
  have r3 : P 3 0 = I 3 0 := h.ints 3 0 (by unfold shd; omega)
  have rP : ∀ g j, ((5 ≤ g ∧ g ≤ 8) ∨ (12 ≤ g ∧ g ≤ 20) ∨ (22 ≤ g ∧ g ≤ 25) ∨ (28 ≤ g ∧ g ≤ 30)) → P g j = I g j := fun g j hg => h.ints g j (by unfold shd; omega)
  have n0 : ∀ j, N 0 j = J 0 j := fun j => (h.debts j).1.symm
  have n1 : ∀ j, N 1 j = J 1 j := fun j => (h.debts j).2.1.symm
  have n2 : ∀ j, N 2 j = J 2 j := fun j => (h.debts j).2.2.symm
  rcases ix_cs (x := x) hbc (by omega) with ⟨a1, a2, a3, a4⟩ | ⟨a1, a2⟩
  · rcases ix_cs (x := y) hbc (by omega) with ⟨p1, p2, p3, p4⟩ | ⟨p1, p2⟩
    · have a9 : ¬ sx_br2 P x y = 0 := by unfold sx_br2; rw [r0, if_neg a2, if_neg p2]; decide
      have q9 : ps_debt P N x y z = (r_debt J x y z, uI P 40 0 0, N) := by
        unfold ps_debt r_debt
        rw [if_neg a9]
        by_cases c0 : z = 0
        · rw [if_pos c0, if_pos c0, n1]
        · rw [if_neg c0, if_neg c0, n2]
      rw [q9]
      exact aqR (K := kL_debt x y z) rfl (n_L_debt h.ci (by simp [e_debt, hx_or, a1, p1])) (rfl)
    · have a9 : sx_br2 P x y = 0 := by unfold sx_br2; rw [r0, if_neg a2, if_pos p2]
      have q9 : ps_debt P N x y z = (0, uI P 40 0 1, N) := by simp [ps_debt, a9]
      rw [q9]
      exact aqI (K := kL_debt x y z) (ne40 (P := P) (v := 1) (by decide)) (t_L_debt_eI h.ci (by simp [e_debt, hx_or, a1, p1]))
  · have a9 : sx_br2 P x y = 0 := by unfold sx_br2; rw [r0, if_pos a2]
    have q9 : ps_debt P N x y z = (0, uI P 40 0 1, N) := by simp [ps_debt, a9]
    rw [q9]
    exact aqI (K := kL_debt x y z) (ne40 (P := P) (v := 1) (by decide)) (t_L_debt_eI h.ci (by simp [e_debt, hx_or, a1]))
set_option maxRecDepth 100000 in
theorem aq_wayOf {k nb no nc : Nat} {I : MI} {J : MJ} {P : MI} {N : MJ} (x y : Int32) (h : IV k nb no nc I J P N) : kL_wayOf x y I J (if (ps_wayOf P N x y).2.1 40 0 = 0 then (ps_wayOf P N x y).1.toInt64 else NO) I J := by
  have hbc : I 0 0 = nI nb := h.ci.1.1.1
  have hnb : nb ≤ 12 := h.ci.1.1.2
  have hoc : I 1 0 = nI no := h.ci.1.2.1.1
  have hno : no ≤ 40 := h.ci.1.2.1.2
  have hcc : I 2 0 = nI nc := h.ci.1.2.2.1.1
  have hnc : nc ≤ 40 := h.ci.1.2.2.1.2
  have r0 : P 0 0 = I 0 0 := h.ints 0 0 (by unfold shd; omega)
  have r1 : P 1 0 = I 1 0 := h.ints 1 0 (by unfold shd; omega)
  have r2 : P 2 0 = I 2 0 := h.ints 2 0 (by unfold shd; omega)
  have r3 : P 3 0 = I 3 0 := h.ints 3 0 (by unfold shd; omega)
  have rP : ∀ g j, ((5 ≤ g ∧ g ≤ 8) ∨ (12 ≤ g ∧ g ≤ 20) ∨ (22 ≤ g ∧ g ≤ 25) ∨ (28 ≤ g ∧ g ≤ 30)) → P g j = I g j := fun g j hg => h.ints g j (by unfold shd; omega)
  have n0 : ∀ j, N 0 j = J 0 j := fun j => (h.debts j).1.symm
  have n1 : ∀ j, N 1 j = J 1 j := fun j => (h.debts j).2.1.symm
  have n2 : ∀ j, N 2 j = J 2 j := fun j => (h.debts j).2.2.symm
  rcases ix_cs (x := x) hoc (by omega) with ⟨a1, a2, a3, a4⟩ | ⟨a1, a2⟩
  · rcases pl_cs y with ⟨p1, p2, p3⟩ | ⟨p1, p2⟩
    · have q9 : ps_wayOf P N x y = (r_wayOf I x y, uI P 40 0 0, N) := by
        unfold ps_wayOf r_wayOf
        rw [if_neg (by rw [r1]; exact a2), if_neg p2, rP 19 _ (by omega), rP 20 _ (by omega)]
        by_cases c0 : I 19 (tn x) ≤ y
        · rw [if_pos c0, if_pos c0]
        · rw [if_neg c0, if_neg c0]
      rw [q9]
      exact aqR (K := kL_wayOf x y) rfl (n_L_wayOf h.ci (by simp [e_wayOf, hx_or, a1, p1])) (rfl)
    · have q9 : ps_wayOf P N x y = (0, uI P 40 0 1, N) := by simp [ps_wayOf, r1, a2, p2]
      rw [q9]
      exact aqI (K := kL_wayOf x y) (ne40 (P := P) (v := 1) (by decide)) (t_L_wayOf_eI h.ci (by simp [e_wayOf, hx_or, a1, p1]))
  · have q9 : ps_wayOf P N x y = (0, uI P 40 0 1, N) := by simp [ps_wayOf, r1, a2]
    rw [q9]
    exact aqI (K := kL_wayOf x y) (ne40 (P := P) (v := 1) (by decide)) (t_L_wayOf_eI h.ci (by simp [e_wayOf, hx_or, a1]))
theorem aq_orderOf {k nb no nc : Nat} {I : MI} {J : MJ} {P : MI} {N : MJ} (x y : Int32) (h : IV k nb no nc I J P N) : kL_orderOf x y I J (if (ps_orderOf P N x y).2.1 40 0 = 0 then (ps_orderOf P N x y).1.toInt64 else NO) I J := by
  have hbc : I 0 0 = nI nb := h.ci.1.1.1
  have hnb : nb ≤ 12 := h.ci.1.1.2
  have hoc : I 1 0 = nI no := h.ci.1.2.1.1
  have hno : no ≤ 40 := h.ci.1.2.1.2
  have hcc : I 2 0 = nI nc := h.ci.1.2.2.1.1
  have hnc : nc ≤ 40 := h.ci.1.2.2.1.2
  have r0 : P 0 0 = I 0 0 := h.ints 0 0 (by unfold shd; omega)
  have r1 : P 1 0 = I 1 0 := h.ints 1 0 (by unfold shd; omega)
  have r2 : P 2 0 = I 2 0 := h.ints 2 0 (by unfold shd; omega)
  have r3 : P 3 0 = I 3 0 := h.ints 3 0 (by unfold shd; omega)
  have rP : ∀ g j, ((5 ≤ g ∧ g ≤ 8) ∨ (12 ≤ g ∧ g ≤ 20) ∨ (22 ≤ g ∧ g ≤ 25) ∨ (28 ≤ g ∧ g ≤ 30)) → P g j = I g j := fun g j hg => h.ints g j (by unfold shd; omega)
  have n0 : ∀ j, N 0 j = J 0 j := fun j => (h.debts j).1.symm
  have n1 : ∀ j, N 1 j = J 1 j := fun j => (h.debts j).2.1.symm
  have n2 : ∀ j, N 2 j = J 2 j := fun j => (h.debts j).2.2.symm
  rcases ix_cs (x := x) hoc (by omega) with ⟨a1, a2, a3, a4⟩ | ⟨a1, a2⟩
  · rcases rg_cs y 0 5 with ⟨p1, p2⟩ | ⟨p1, p2⟩
    · have q9 : ps_orderOf P N x y = (r_orderOf I x y, uI P 40 0 0, N) := by
        unfold ps_orderOf pr_orderOf r_orderOf
        rw [if_neg (by rw [r1]; exact a2), if_neg p2, rP 16 _ (by omega), rP 12 _ (by omega), rP 14 _ (by omega), rP 17 _ (by omega), rP 18 _ (by omega), rP 15 _ (by omega)]
      rw [q9]
      exact aqR (K := kL_orderOf x y) rfl (n_L_orderOf h.ci (by simp [e_orderOf, hx_or, a1, p1])) (rfl)
    · have q9 : ps_orderOf P N x y = (0, uI P 40 0 2, N) := by simp [ps_orderOf, r1, a2, p2]
      rw [q9]
      exact aqI (K := kL_orderOf x y) (ne40 (P := P) (v := 2) (by decide)) (t_L_orderOf_eA h.ci (by simp [e_orderOf, hx_or, a1, p1]))
  · have q9 : ps_orderOf P N x y = (0, uI P 40 0 1, N) := by simp [ps_orderOf, r1, a2]
    rw [q9]
    exact aqI (K := kL_orderOf x y) (ne40 (P := P) (v := 1) (by decide)) (t_L_orderOf_eI h.ci (by simp [e_orderOf, hx_or, a1]))
theorem aq_sum {k nb no nc : Nat} {I : MI} {J : MJ} {P : MI} {N : MJ} (x : Int32) (h : IV k nb no nc I J P N) : kL_sum x I J (if (ps_sum P N x nb no nc).2.1 40 0 = 0 then (ps_sum P N x nb no nc).1 else NO) I J := by
  have hbc : I 0 0 = nI nb := h.ci.1.1.1
  have hnb : nb ≤ 12 := h.ci.1.1.2
  have hoc : I 1 0 = nI no := h.ci.1.2.1.1
  have hno : no ≤ 40 := h.ci.1.2.1.2
  have hcc : I 2 0 = nI nc := h.ci.1.2.2.1.1
  have hnc : nc ≤ 40 := h.ci.1.2.2.1.2
  have r0 : P 0 0 = I 0 0 := h.ints 0 0 (by unfold shd; omega)
  have r1 : P 1 0 = I 1 0 := h.ints 1 0 (by unfold shd; omega)
  have r2 : P 2 0 = I 2 0 := h.ints 2 0 (by unfold shd; omega)
  have r3 : P 3 0 = I 3 0 := h.ints 3 0 (by unfold shd; omega)
  have rP : ∀ g j, ((5 ≤ g ∧ g ≤ 8) ∨ (12 ≤ g ∧ g ≤ 20) ∨ (22 ≤ g ∧ g ≤ 25) ∨ (28 ≤ g ∧ g ≤ 30)) → P g j = I g j := fun g j hg => h.ints g j (by unfold shd; omega)
  have n0 : ∀ j, N 0 j = J 0 j := fun j => (h.debts j).1.symm
  have n1 : ∀ j, N 1 j = J 1 j := fun j => (h.debts j).2.1.symm
  have n2 : ∀ j, N 2 j = J 2 j := fun j => (h.debts j).2.2.symm
  rcases rg_cs x 0 7 with ⟨p1, p2⟩ | ⟨p1, p2⟩
  · have q9 : ps_sum P N x nb no nc = (r_sum I J x nb no nc, uI P 40 0 0, N) := by unfold ps_sum; rw [if_neg p2, sum_same h x]
    rw [q9]
    exact aqR (K := kL_sum x) rfl (n_L_sum h.ci (by simp [e_sum, p1])) (rfl)
  · have q9 : ps_sum P N x nb no nc = (0, uI P 40 0 1, N) := by simp [ps_sum, p2]
    rw [q9]
    exact aqI (K := kL_sum x) (ne40 (P := P) (v := 1) (by decide)) (t_L_sum_eA h.ci (by simp [e_sum, hx_or, p1]))
theorem aq_inq {k nb no nc : Nat} {I : MI} {J : MJ} {P : MI} {N : MJ} (h : IV k nb no nc I J P N) : ∀ (l : Launch) (D : va_G) (b0 : Nat) (P0 : MI) (N0 : MJ) (o : Int64), hM l yX5_inquiry cX5_inquiry 4 (some .int) rX5_inquiry D b0 [.ref (hw_ad b0 0 0)] I J P0 N0 o (some (.int (ps_inq P N nb))) I J P0 N0 o := fun l D b0 P0 N0 o => by
  rw [← inq_same h.ints h.debts h.ci.1.1.2]
  exact m_X5_inquiry h.ci.1.1.1 h.ci.1.1.2
