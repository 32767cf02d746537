/-! an hour on both sides: paying back, and the whole -/
theorem gb_RH {nb no nc i : Nat} {σ τ : MI × MJ} (hi : i < no) (h : RH nb no nc σ τ) : RH nb no nc (sf_gb i σ) (pn_d i τ) := by
  obtain ⟨h1, h2, h3, h4, h5⟩ := h
  have hm := gb_same (i := i) h1
  obtain ⟨r1, r2, r3, r4⟩ := id h1
  have e16 : τ.1 16 i = σ.1 16 i := r1 16 i (by unfold shd; omega)
  have e14 : τ.1 14 i = σ.1 14 i := r1 14 i (by unfold shd; omega)
  have e7 : ∀ j, τ.1 7 j = σ.1 7 j := fun j => r1 7 j (by unfold shd; omega)
  have e20 : ∀ j, τ.1 20 j = σ.1 20 j := fun j => r1 20 j (by unfold shd; omega)
  have ej : ∀ j, τ.2 0 j = σ.2 0 j := fun j => (r3 j).1.symm
  have c7 : (hb (σ.1 7 (σ.1 20 (12 * i + 0)).toNatClampNeg = 0) = 0) ↔ ¬ σ.1 7 (σ.1 20 (12 * i + 0)).toNatClampNeg = 0 := by
    by_cases q : σ.1 7 (σ.1 20 (12 * i + 0)).toNatClampNeg = 0
    · rw [hb_t q]; exact ⟨fun z => absurd z (by decide), fun z => absurd q z⟩
    · rw [hb_f q]; exact ⟨fun _ => q, fun _ => rfl⟩
  have hc : (sf_gb i σ = σ ∧ pn_d i τ = τ) ∨ (σ.1 16 i = 3 ∧ (sf_gb i σ).1 = uI σ.1 16 i 4 ∧ (sf_gb i σ).2 3 0 = σ.2 3 0 ∧ (pn_d i τ).1 = uI τ.1 16 i 4 ∧ (∀ j, j ≠ 2 → (pn_d i τ).2 4 j = τ.2 4 j) ∧ (pn_d i τ).2 4 2 = τ.2 4 2 + (σ.1 14 i).toInt64) := by
    unfold sf_gb pn_d
    rw [e16, e20, e7, ej, e14]
    by_cases q1 : ¬ σ.1 16 i = 3
    · rw [if_pos q1, if_pos q1]; exact Or.inl ⟨rfl, rfl⟩
    rw [if_neg q1, if_neg q1]
    by_cases q2 : ¬ σ.1 7 (σ.1 20 (12 * i + 0)).toNatClampNeg = 0
    · rw [if_pos (c7.mpr q2), if_pos q2]; exact Or.inl ⟨rfl, rfl⟩
    rw [if_neg (fun z => q2 (c7.mp z)), if_neg q2]
    by_cases q3 : lg_cmp (σ.2 0 (σ.1 20 (12 * i + 0)).toNatClampNeg) (σ.1 14 i).toInt64 < 0
    · rw [if_pos q3, if_pos q3]; exact Or.inl ⟨rfl, rfl⟩
    rw [if_neg q3, if_neg q3]
    exact Or.inr ⟨Decidable.not_not.mp q1, rfl, by simp [uJ], rfl, fun j hj => by simp [uJ, hj], by simp [uJ]⟩
  rcases hc with ⟨a, b⟩ | ⟨a, b, b3, b4, b5, b6⟩
  · rw [a, b]; exact ⟨h1, h2, h3, h4, h5⟩
  have o1 : ∀ g j, g ≠ 16 → (sf_gb i σ).1 g j = σ.1 g j := fun g j hg => sf_gb_ne hg j
  have s1 : (sf_gb i σ).1 16 i = 4 := by rw [b]; exact if_pos ⟨rfl, rfl⟩
  have s2 : ∀ o, o ≠ i → (sf_gb i σ).1 16 o = σ.1 16 o := fun o ho => by rw [b]; exact if_neg (fun z => ho z.2)
  have s41 : ∀ j, (pn_d i τ).1 41 j = τ.1 41 j := fun j => nd_oth (by decide)
  obtain ⟨u0, u1, u2, u3⟩ := h4
  refine ⟨hm, fun c hc => ?_, h3.congr (fun g j hg => o1 g j (by omega)) (fun o ho => ?_), ⟨?_, ?_, ?_, ?_⟩, by rw [b3, b5 4 (by decide)]; exact h5⟩
  · rw [s41, o1 26 c (by decide)]; exact h2 c hc
  · by_cases q : o = i
    · rw [q]; exact ⟨4, by omega, s1⟩
    · rw [s2 o q]; exact h3.2 o ho
  · rw [b5 0 (by decide), u0]
    exact sq_congr no 0 0 (fun j _ _ => ⟨Iff.rfl, fun _ => by rw [o1 14 j (by decide)]⟩)
  · rw [b5 1 (by decide), u1]
    refine sq_congr no 0 0 (fun j _ _ => ⟨?_, fun _ => by rw [o1 12 j (by decide)]⟩)
    by_cases q : j = i
    · subst q
      rw [s1, a]; exact ⟨fun z => absurd z (by decide), fun z => absurd z (by decide)⟩
    · rw [s2 j q]
  · rw [b6, u2]
    have := sq_more (q := fun j => σ.1 16 j = 4) (q' := fun j => (sf_gb i σ).1 16 j = 4) (v := fun j => (σ.1 14 j).toInt64) (v' := fun j => ((sf_gb i σ).1 14 j).toInt64) (x := i) no 0 0 (Nat.zero_le _) (by omega) (fun j hj => ⟨by rw [s2 j hj], fun _ => by rw [o1 14 j (by decide)]⟩) (by rw [a]; decide) s1
    rw [this, o1 14 i (by decide)]
  · rw [b5 3 (by decide), u3]
    exact sq_congr nc 0 0 (fun j _ _ => ⟨by rw [o1 27 j (by decide)], fun _ => by rw [o1 24 j (by decide)]⟩)
/-- an hour -/
theorem hour_same {nb no nc t : Nat} {I P : MI} {J N : MJ} (h : RH nb no nc (I, J) (P, N)) (ht : I 3 0 = nI t) (ht2 : t + 1 ≤ 500000000) : RH nb no nc (sp_ph I J nb no nc) (ps_nh P N nb no nc) := by
  obtain ⟨⟨h1, h2, h3, h4⟩, hv, hq, hs, hz⟩ := h
  have e3 : P 3 0 = I 3 0 := h1 3 0 (by unfold shd; omega)
  have a1 : ri (uI I 3 0 (I 3 0 + 1)) (uI P 3 0 (P 3 0 + 1)) := by rw [e3]; exact h1.u _ _ _
  have b1 : ri (sp_er (uI I 3 0 (I 3 0 + 1)) nb) (pn_1 P nb) := er_same a1
  have oI : ∀ g j, g ≠ 7 → g ≠ 3 → sp_er (uI I 3 0 (I 3 0 + 1)) nb g j = I g j := fun g j q1 q2 => (sp_er_ne q1 j).trans (if_neg (fun z => q2 z.1))
  have oP : ∀ g j, g ≠ 7 → g ≠ 3 → pn_1 P nb g j = P g j := fun g j q1 q2 => n1_oth q1 q2
  have c1 : RH nb no nc (sp_er (uI I 3 0 (I 3 0 + 1)) nb, J) (pn_1 P nb, N) := by
    refine ⟨⟨b1, h2.congr (fun j => oI 19 j (by decide) (by decide)) (fun j => oI 21 j (by decide) (by decide)) (fun j => oP 21 j (by decide) (by decide)), h3, n1_iv h4⟩, fun c hc => ?_, ⟨⟨t + 1, ht2, ?_, fun o ho => ?_⟩, fun o ho => ?_⟩, hs.congr (fun o ho => ⟨oI 12 o (by decide) (by decide), oI 14 o (by decide) (by decide), stn (oI 16 o (by decide) (by decide))⟩) (fun c hc => ⟨oI 24 c (by decide) (by decide), oI 27 c (by decide) (by decide)⟩) (fun _ => rfl), hz⟩
    · show pn_1 P nb 41 c = if sp_er (uI I 3 0 (I 3 0 + 1)) nb 26 c = 0 then 1 else 0
      rw [oP 41 c (by decide) (by decide), oI 26 c (by decide) (by decide)]; exact hv c hc
    · show sp_er (uI I 3 0 (I 3 0 + 1)) nb 3 0 = nI (t + 1)
      rw [sp_er_ne (by decide), show uI I 3 0 (I 3 0 + 1) 3 0 = I 3 0 + 1 from if_pos ⟨rfl, rfl⟩, ht, nI_1]
    · obtain ⟨⟨t', t1, t2, t3⟩, _⟩ := hq
      obtain ⟨g, g1, g2⟩ := t3 o ho
      have : t' = t := (nI_eq (by omega) (by omega)).mp (t2.symm.trans ht)
      exact ⟨g, by omega, (oI 15 o (by decide) (by decide)).trans g2⟩
    · show ∃ s, s ≤ 5 ∧ sp_er (uI I 3 0 (I 3 0 + 1)) nb 16 o = nI s
      rw [oI 16 o (by decide) (by decide)]; exact hq.2 o ho
  have c2 := lp_rel sf_mm pn_b (fun _ σ τ => RH nb no nc σ τ) no (fun i _ _ hi h => mm_RH hi h) no 0 _ _ (by omega) c1
  have c3 := lp_rel sf_sb pn_c (fun _ σ τ => RH nb no nc σ τ) no (fun i _ _ hi h => sb_RH hi h) no 0 _ _ (by omega) c2
  have c4 := lp_rel sf_gb pn_d (fun _ σ τ => RH nb no nc σ τ) no (fun i _ _ hi h => gb_RH hi h) no 0 _ _ (by omega) c3
  exact lp_rel sf_rc pf_ca (fun _ σ τ => RH nb no nc σ τ) nc (fun i _ _ hi h => rc_RH hi h) nc 0 _ _ (by omega) c4
