/-! the same on both sides: debts, ways -/
theorem pg_way_of {P : MI} {N : MJ} {i nb f n : Nat} {p : Nat → Nat} {op : Nat → Prop} {fe : Nat → Nat} {ow : Nat → Nat → Nat → Prop} (hm : mc P (pg_N P N i) (P 12 i) (pg_mk P i) nb op fe ow) (hnb : nb ≤ 12) (hor : hw_or P i) (ht : hw_at P i (hw_ln P i) < nb) (hn1 : 1 ≤ n) (hqn : hw_pl P i + n < 12) (hn : n + 1 ≤ nb) (h : bv op fe ow (hw_at P i (hw_ln P i)) (hw_at P i (hw_pl P i)) f n) (hw : wp op fe ow (hw_at P i (hw_ln P i)) (hw_at P i (hw_pl P i)) n p) :
    pg_way P N i nb ∧ pg_n P N i nb = n ∧ ∀ k, k ≤ n → pg_p P N i nb k = p k := by
  obtain ⟨w1, w2, w3⟩ := way_of hm hnb ht hn h hw
  obtain ⟨g1, g2⟩ := fws_path hm hnb ht hn h hw
  have eW : pg_W P N i nb = ps_fws P (pg_N P N i) (nI (hw_at P i (hw_ln P i))) (P 12 i) (pg_mk P i) nb := by
    unfold pg_W
    rw [show nI (hw_at P i (hw_ln P i)) = P 20 (12 * i + hw_ln P i) from (hor.1.2.2 _ (Nat.le_refl _)).x.symm]
  have en : pg_n P N i nb = n := by unfold pg_n; rw [eW]; exact w2
  have ep : ∀ k, k ≤ n → pg_p P N i nb k = p k := fun k hk => by unfold pg_p; rw [eW]; exact w3 k hk
  refine ⟨⟨by rw [eW]; exact w1, by omega, by omega, ?_, fun k hk => ?_⟩, en, ep⟩
  · rw [en, ep n (Nat.le_refl _)]; exact hw.2.1
  · rw [en] at hk
    rw [ep k (by omega), ep (k + 1) (by omega), eW]
    exact ⟨by have := (g1 k (by omega)).1; omega, (g2 k hk).1, (g2 k hk).2⟩
theorem pg_far_of {P : MI} {N : MJ} {i nb : Nat} {op : Nat → Prop} {fe : Nat → Nat} {ow : Nat → Nat → Nat → Prop} (hm : mc P (pg_N P N i) (P 12 i) (pg_mk P i) nb op fe ow) (hnb : nb ≤ 12) (hor : hw_or P i) (ht : hw_at P i (hw_ln P i) < nb) (ha : hw_at P i (hw_pl P i) < nb) (h : ∀ n f, ¬ rl op fe ow (hw_at P i (hw_ln P i)) n (hw_at P i (hw_pl P i)) f) : 0 ≤ lg_cmp ((pg_W P N i nb).2 5 (hw_at P i (hw_pl P i))) 1000000000000 := by
  have eW : pg_W P N i nb = ps_fws P (pg_N P N i) (nI (hw_at P i (hw_ln P i))) (P 12 i) (pg_mk P i) nb := by
    unfold pg_W
    rw [show nI (hw_at P i (hw_ln P i)) = P 20 (12 * i + hw_ln P i) from (hor.1.2.2 _ (Nat.le_refl _)).x.symm]
  rw [eW, fws_none hm hnb ht ha h, lg_cmp_ge]
  exact Int64.le_refl _
/-- class and model hold the same debts, books, cash -/
def jr (J N : MJ) : Prop := ∀ j, J 0 j = N 0 j ∧ J 1 j = N 1 j ∧ J 2 j = N 2 j
theorem uJ_at (N : MJ) (g j : Nat) (v : Int64) (g' j' : Nat) : uJ N g j v g' j' = if g' = g ∧ j' = j then v else N g' j' := rfl
theorem jr.u {J N : MJ} (h : jr J N) (g j : Nat) (v : Int64) : jr (uJ J g j v) (uJ N g j v) := fun k => by
  obtain ⟨a, b, c⟩ := h k
  simp only [uJ_at]
  refine ⟨?_, ?_, ?_⟩
  · split
    · rfl
    · exact a
  · split
    · rfl
    · exact b
  · split
    · rfl
    · exact c
theorem jr.change {J N : MJ} (h : jr J N) (a b : Nat) (x : Int64) : jr (sp_change J a b x) (pf_owe (pf_owe N 1 a b x) 1 b a (-x)) := by
  unfold sp_change pf_owe
  have h1 := h.u 1 (12 * a + b) (N 1 (12 * a + b) + x)
  rw [(h (12 * a + b)).2.1]
  have e := (h1 (12 * b + a)).2.1
  rw [e, Int64.sub_eq_add_neg]
  exact h1.u _ _ _
theorem jr.write {J N : MJ} (h : jr J N) (a b : Nat) (x : Int64) : jr (sp_write J a b x) (pf_owe N 2 a b x) := by
  unfold sp_write pf_owe
  rw [(h (12 * a + b)).2.2]
  exact h.u _ _ _
theorem jr.known {J N : MJ} (h : jr J N) (a b : Nat) (x : Int64) : jr (sp_known J a b x) (ps_both N a b x) := ((h.change a b x).write a b x).write b a (-x)
/-- numbers that a step may have -/
theorem neg64 {m : Nat} (hm : m < 2 ^ 31) : (-(nI m)).toInt64 = (-1 : Int32).toInt64 * (nI m).toInt64 ∧ (nI m).toInt64 = -((-1 : Int32).toInt64 * (nI m).toInt64) := by
  have h1 : (-(nI m)).toInt64.toInt = -(m : Int) := by
    rw [i32l, Int32.toInt_neg, nI_toInt hm]
    exact Int.bmod_eq_of_le (by omega) (by omega)
  have h2 : ((-1 : Int32).toInt64 * (nI m).toInt64).toInt = -(m : Int) := by
    rw [Int64.toInt_mul, i32l, i32l, nI_toInt hm, show (-1 : Int32).toInt = -1 from by decide]
    rw [show (-1 : Int) * (m : Int) = -(m : Int) by omega]
    exact Int.bmod_eq_of_le (by omega) (by omega)
  refine ⟨Int64.toInt_inj.mp (h1.trans h2.symm), Int64.toInt_inj.mp ?_⟩
  rw [Int64.toInt_neg, h2, i32l, nI_toInt hm, Int.neg_neg]
  exact (Int.bmod_eq_of_le (by omega) (by omega)).symm
