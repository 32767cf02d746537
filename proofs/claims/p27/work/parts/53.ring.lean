/-! rings on both sides -/
theorem i64_eq_of {a b : Int64} (h : a.toInt = b.toInt) : a = b := Int64.toInt_inj.mp h
theorem min_toInt (x y : Int64) : (sp_min x y).toInt = min x.toInt y.toInt := by
  unfold sp_min
  by_cases c : y < x
  · rw [if_pos c]
    have := Int64.lt_iff_toInt_lt.mp c
    omega
  · rw [if_neg c]
    have : ¬ y.toInt < x.toInt := fun z => c (Int64.lt_iff_toInt_lt.mpr z)
    omega
theorem clr_min (N : MJ) (a b d : Nat) : ps_clr N a b d = pc_fin N a b d (sp_min (N 1 (12 * a + b)) (sp_min (N 1 (12 * b + d)) (N 1 (12 * d + a)))) := by
  have hm := min_toInt (N 1 (12 * a + b)) (sp_min (N 1 (12 * b + d)) (N 1 (12 * d + a)))
  have hm2 := min_toInt (N 1 (12 * b + d)) (N 1 (12 * d + a))
  unfold ps_clr
  have hge : ∀ x y : Int64, (0 ≤ lg_cmp x y) ↔ y.toInt ≤ x.toInt := fun x y => by rw [lg_cmp_ge, Int64.le_iff_toInt_le]
  by_cases c1 : 0 ≤ lg_cmp (N 1 (12 * a + b)) (N 1 (12 * b + d))
  · rw [if_pos c1]
    have q1 := (hge _ _).mp c1
    by_cases c2 : 0 ≤ lg_cmp (N 1 (12 * d + a)) (N 1 (12 * b + d))
    · rw [if_pos c2]
      have q2 := (hge _ _).mp c2
      exact congrArg _ (i64_eq_of (by omega))
    · rw [if_neg c2]
      have q2 : ¬ _ := fun z => c2 ((hge _ _).mpr z)
      exact congrArg _ (i64_eq_of (by omega))
  · rw [if_neg c1]
    have q1 : ¬ _ := fun z => c1 ((hge _ _).mpr z)
    by_cases c2 : 0 ≤ lg_cmp (N 1 (12 * d + a)) (N 1 (12 * a + b))
    · rw [if_pos c2]
      have q2 := (hge _ _).mp c2
      exact congrArg _ (i64_eq_of (by omega))
    · rw [if_neg c2]
      have q2 : ¬ _ := fun z => c2 ((hge _ _).mpr z)
      exact congrArg _ (i64_eq_of (by omega))
theorem clr_same {J N : MJ} (h : jr J N) (a b d : Nat) : (sp_cr J a b d).1 = (ps_clr N a b d).1 ∧ jr (sp_cr J a b d).2 (ps_clr N a b d).2 := by
  rw [clr_min]
  have e : sp_min (N 1 (12 * a + b)) (sp_min (N 1 (12 * b + d)) (N 1 (12 * d + a))) = sp_le J a b d := by
    unfold sp_le
    rw [(h (12 * a + b)).2.1, (h (12 * b + d)).2.1, (h (12 * d + a)).2.1]
  rw [e]
  unfold sp_cr pc_fin
  by_cases c : 0 < lg_cmp (sp_le J a b d) 0
  · rw [if_pos c, if_pos c]
    exact ⟨rfl, ((h.known _ _ _).known _ _ _).known _ _ _⟩
  · rw [if_neg c, if_neg c]
    exact ⟨rfl, h⟩
theorem ring_same {J N : MJ} {nb : Nat} (h : jr J N) : (sp_ring J nb).1 = (ps_ring N nb).1 ∧ jr (sp_ring J nb).2 (ps_ring N nb).2 := by
  let R : Nat → Int64 × MJ → Int64 × MJ → Prop := fun _ σ τ => σ.1 = τ.1 ∧ jr σ.2 τ.2
  have s1 : ∀ a b i (σ τ : Int64 × MJ), R i σ τ → R (i + 1) (sf_r1 a b i σ) (pf_r1 a b i τ) := fun a b i σ τ hr => by
    obtain ⟨r1, r2⟩ := hr
    obtain ⟨q1, q2⟩ := clr_same r2 a b i
    have z0 : τ.1 + 0 = τ.1 := Int64.add_zero _
    unfold sf_r1 pf_r1
    by_cases c1 : nI a = nI b
    · rw [if_pos c1, if_pos c1]; exact ⟨r1.trans z0.symm, r2⟩
    rw [if_neg c1, if_neg c1]
    by_cases c2 : nI b = nI i
    · rw [if_pos c2, if_pos c2]; exact ⟨r1.trans z0.symm, r2⟩
    rw [if_neg c2, if_neg c2]
    by_cases c3 : nI i = nI a
    · rw [if_pos c3, if_pos c3.symm]; exact ⟨r1.trans z0.symm, r2⟩
    rw [if_neg c3, if_neg (fun z => c3 z.symm)]
    exact ⟨by show σ.1 + _ = τ.1 + _; rw [r1, q1], q2⟩
  exact lp_rel (sf_r3 nb) (pf_r3' nb) R nb (fun a σ τ _ hr => lp_rel (sf_r2 nb a) (pf_r2' nb a) R nb (fun b σ τ _ hr => lp_rel (sf_r1 a b) (pf_r1 a b) R nb (fun i σ τ _ hr => s1 a b i σ τ hr) nb 0 σ τ (by omega) hr) nb 0 σ τ (by omega) hr) nb 0 (0, J) (0, N) (by omega) ⟨rfl, h⟩
