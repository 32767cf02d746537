/-! an hour, on both sides -/
theorem uI_at (I : MI) (g j : Nat) (v : Int32) (g' j' : Nat) : uI I g j v g' j' = if g' = g ∧ j' = j then v else I g' j' := rfl
theorem ri.u {I P : MI} (h : ri I P) (g j : Nat) (v : Int32) : ri (uI I g j v) (uI P g j v) := fun g' j' hs => by
  rw [uI_at, uI_at]
  split
  · rfl
  · exact h g' j' hs
theorem ri.pu {I P : MI} (h : ri I P) (g j : Nat) (v : Int32) (hv : shd g → I g j = v) : ri I (uI P g j v) := fun g' j' hs => by
  rw [uI_at]
  by_cases c : g' = g ∧ j' = j
  · rw [if_pos c, c.1, c.2]; exact (hv (c.1 ▸ hs)).symm
  · rw [if_neg c]; exact h g' j' hs
theorem ri.iu {I P : MI} (h : ri I P) (g j : Nat) (v : Int32) (hg : ¬ shd g) : ri (uI I g j v) P := fun g' j' hs => by
  have hn : ¬ (g' = g ∧ j' = j) := fun z => hg (z.1 ▸ hs)
  rw [uI_at, if_neg hn]
  exact h g' j' hs
theorem rs.congr {I P I' P' : MI} {no : Nat} (h : rs I P no) (h1 : ∀ j, I' 19 j = I 19 j) (h2 : ∀ j, I' 21 j = I 21 j) (h3 : ∀ j, P' 21 j = P 21 j) : rs I' P' no := fun o ho k hk => by
  have e : hw_ln I' o = hw_ln I o := by unfold hw_ln; rw [h1]
  rw [e] at hk
  rw [h3, h2]
  exact h o ho k hk
theorem er_same {I P : MI} {nb : Nat} (h : ri I P) : ri (sp_er I nb) (lp pn_a nb 0 P) :=
  lp_rel sf_er pn_a (fun _ I P => ri I P) nb (fun i I P _ h => by
    have e7 : P 7 i = I 7 i := h 7 i (by unfold shd; omega)
    have e3 : P 3 0 = I 3 0 := h 3 0 (by unfold shd; omega)
    have e8 : P 8 i = I 8 i := h 8 i (by unfold shd; omega)
    unfold sf_er pn_a
    rw [e7, e3, e8]
    by_cases c1 : ¬ I 7 i = 1
    · rw [if_pos c1, if_pos c1]; exact h.pu 7 i _ (fun _ => rfl)
    · rw [if_neg c1, if_neg c1]
      by_cases c2 : I 3 0 < I 8 i
      · rw [if_pos c2, if_pos c2]; exact h.pu 7 i _ (fun _ => rfl)
      · rw [if_neg c2, if_neg c2]; exact h.u 7 i 0) nb 0 I P (by omega) h
/-- what is the same on both sides while an hour passes -/
def rh (nb no nc : Nat) (σ τ : MI × MJ) : Prop := ri σ.1 τ.1 ∧ rs σ.1 τ.1 no ∧ jr σ.2 τ.2 ∧ pv_iv τ.1 nb no nc
theorem pl_eq {I P : MI} (h : ri I P) (o : Nat) : hw_pl P o = hw_pl I o := by unfold hw_pl; rw [h 17 o (by unfold shd; omega)]
theorem ln_eq {I P : MI} (h : ri I P) (o : Nat) : hw_ln P o = hw_ln I o := by unfold hw_ln; rw [h 19 o (by unfold shd; omega)]
theorem mm_same {nb no nc i : Nat} {σ τ : MI × MJ} (hi : i < no) (h : rh nb no nc σ τ) : rh nb no nc (sf_mm i σ) (pn_b i τ) := by
  have hiv := nb_iv (i := i) h.2.2.2 hi
  obtain ⟨h1, h2, h3, h4⟩ := h
  have e16 : τ.1 16 i = σ.1 16 i := h1 16 i (by unfold shd; omega)
  have e17 : τ.1 17 i = σ.1 17 i := h1 17 i (by unfold shd; omega)
  have e19 : τ.1 19 i = σ.1 19 i := h1 19 i (by unfold shd; omega)
  have e20 : ∀ j, τ.1 20 j = σ.1 20 j := fun j => h1 20 j (by unfold shd; omega)
  refine ⟨?_, ?_, ?_, hiv⟩
  all_goals
    unfold sf_mm pn_b
    rw [e16]
    by_cases c1 : ¬ σ.1 16 i = 0
    · rw [if_pos c1, if_pos c1]; first | exact h1 | exact h2 | exact h3
    rw [if_neg c1, if_neg c1]
    have c0 : τ.1 16 i = 0 := e16.trans (Decidable.not_not.mp c1)
    obtain ⟨b1, b2, b3, b4, b5, b6⟩ := id h4
    have hor := b4 i hi
    have hlt := b6 i hi c0
    have hn12 := hor.1.1
    have q17 : σ.1 17 i = nI (hw_pl τ.1 i) := e17.symm.trans hor.2.2.1
    have q19 : σ.1 19 i = nI (hw_ln τ.1 i + 1) := e19.symm.trans hor.1.2.1
    have c2 : ¬ σ.1 19 i ≤ σ.1 17 i + 1 := by rw [q19, q17, nI_1]; exact nI_ge (by omega) (by omega)
    rw [if_neg c2]
    have a17 : uI σ.1 17 i (σ.1 17 i + 1) 17 i = σ.1 17 i + 1 := if_pos ⟨rfl, rfl⟩
    have a19 : uI σ.1 17 i (σ.1 17 i + 1) 19 i = σ.1 19 i := if_neg (fun z => absurd z.1 (by decide))
    have cc : (uI σ.1 17 i (σ.1 17 i + 1) 17 i + 1 = uI σ.1 17 i (σ.1 17 i + 1) 19 i) ↔ τ.1 17 i + 1 = nI (hw_ln τ.1 i) := by
      rw [a17, a19, e17, q17, q19, nI_1, nI_1]
      constructor
      · intro z
        have := (nI_eq (by omega) (by omega)).mp z
        exact congrArg nI (by omega)
      · intro z
        have := (nI_eq (by omega) (by omega)).mp z
        exact congrArg nI (by omega)
    have epl := pl_eq h1 i
    obtain ⟨s1, m, s2, s3⟩ := h2 i hi (hw_pl σ.1 i) (by rw [← epl, ← ln_eq h1 i]; exact hlt)
    have hww := h3.write (σ.1 20 (12 * i + (hw_pl σ.1 i + 1))).toNatClampNeg (σ.1 20 (12 * i + hw_pl σ.1 i)).toNatClampNeg (-σ.1 21 (12 * i + hw_pl σ.1 i)).toInt64
    have hst : ri (uI σ.1 17 i (σ.1 17 i + 1)) (uI τ.1 17 i (τ.1 17 i + 1)) := by rw [e17]; exact h1.u _ _ _
    have e0 : uI σ.1 17 i (σ.1 17 i + 1) 16 i = 0 := (show uI σ.1 17 i (σ.1 17 i + 1) 16 i = σ.1 16 i from if_neg (fun z => absurd z.1 (by decide))).trans (Decidable.not_not.mp c1)
    by_cases c3 : τ.1 17 i + 1 = nI (hw_ln τ.1 i)
    · rw [if_neg (fun z => z (cc.mpr c3))]
      unfold ps_mv
      rw [if_neg (fun z => z c3), epl, e20, e20, s1]
      first
        | exact hst.u 16 i 1
        | exact h2.congr (fun _ => rfl) (fun _ => rfl) (fun _ => rfl)
        | exact hww
    · rw [if_pos (fun z => c3 (cc.mp z))]
      unfold ps_mv
      rw [if_pos c3, epl, e20, e20, s1]
      first
        | exact hst.pu 16 i 0 (fun _ => e0)
        | exact h2.congr (fun _ => rfl) (fun _ => rfl) (fun _ => rfl)
        | exact hww
/-- the hours and how the orders are, in their bounds -/
def hh (I : MI) (no : Nat) : Prop := (∃ t : Nat, t ≤ 500000000 ∧ I 3 0 = nI t ∧ ∀ o, o < no → ∃ g : Nat, g ≤ t ∧ I 15 o = nI g) ∧ ∀ o, o < no → ∃ s : Nat, s ≤ 5 ∧ I 16 o = nI s
theorem hh.congr {I I' : MI} {no : Nat} (h : hh I no) (h1 : ∀ g j, (g = 3 ∨ g = 15) → I' g j = I g j) (h2 : ∀ o, o < no → ∃ s : Nat, s ≤ 5 ∧ I' 16 o = nI s) : hh I' no := by
  obtain ⟨⟨t, a, b, d⟩, _⟩ := h
  exact ⟨⟨t, a, by rw [h1 3 0 (by omega)]; exact b, fun o ho => by rw [h1 15 o (by omega)]; exact d o ho⟩, h2⟩
theorem ef_same {I P : MI} {i : Nat} (h : ri I P) : ri (sp_ef I i) (sp_ef P i) := by
  unfold sp_ef
  rw [h 20 _ (by unfold shd; omega), h 7 _ (by unfold shd; omega)]
  exact h.u _ _ _
theorem ef_st (I : MI) (i : Nat) : ∃ s : Nat, s ≤ 5 ∧ sp_ef I i 16 i = nI s := by
  have e : sp_ef I i 16 i = (if ¬ I 7 (I 20 (12 * i + 0)).toNatClampNeg = 2 then 3 else 5) := if_pos ⟨rfl, rfl⟩
  rw [e]
  split
  · exact ⟨3, by omega, rfl⟩
  · exact ⟨5, by omega, rfl⟩
theorem sb_same {nb no nc i : Nat} {σ τ : MI × MJ} (hi : i < no) (h : rh nb no nc σ τ) (hhh : hh σ.1 no) : rh nb no nc (sf_sb i σ) (pn_c i τ) := by
  have hiv := nc_iv (i := i) h.2.2.2
  obtain ⟨h1, h2, h3, h4⟩ := h
  have e16 : τ.1 16 i = σ.1 16 i := h1 16 i (by unfold shd; omega)
  have e15 : τ.1 15 i = σ.1 15 i := h1 15 i (by unfold shd; omega)
  have e3 : τ.1 3 0 = σ.1 3 0 := h1 3 0 (by unfold shd; omega)
  obtain ⟨⟨t, t1, t2, t3⟩, hs⟩ := hhh
  obtain ⟨g, g1, g2⟩ := t3 i hi
  obtain ⟨w, w1, w2⟩ := hs i hi
  have c16 : (hb (σ.1 16 i = 0 ∨ σ.1 16 i = 1) = 0) ↔ 1 < τ.1 16 i := by
    have x1 : (σ.1 16 i = 0 ∨ σ.1 16 i = 1) ↔ (w = 0 ∨ w = 1) := by
      rw [w2]
      exact or_congr (nI_eq (b := 0) (by omega) (by omega)) (nI_eq (b := 1) (by omega) (by omega))
    have x2 : 1 < τ.1 16 i ↔ 1 < w := by
      rw [e16, w2]
      exact nI_ltI (a := 1) (by omega) (by omega)
    by_cases q : σ.1 16 i = 0 ∨ σ.1 16 i = 1
    · rw [hb_t q]
      have := x1.mp q
      exact ⟨fun z => absurd z (by decide), fun z => by have := x2.mp z; omega⟩
    · rw [hb_f q]
      have : ¬ (w = 0 ∨ w = 1) := fun z => q (x1.mpr z)
      exact ⟨fun _ => x2.mpr (by omega), fun _ => rfl⟩
  have c3 : (σ.1 3 0 < σ.1 15 i + 240) ↔ (τ.1 3 0 - τ.1 15 i < 240) := by
    have es : nI t - nI g = nI (t - g) := by
      obtain ⟨d, rfl⟩ : ∃ d, t = g + d := ⟨t - g, by omega⟩
      rw [← nI_add, Nat.add_sub_cancel_left, Int32.add_comm, Int32.add_sub_cancel]
    rw [e3, e15, t2, g2, es, show (240 : Int32) = nI 240 from rfl, nI_add, nI_ltI (by omega) (by omega), nI_ltI (by omega) (by omega)]
    omega
  refine ⟨?_, ?_, ?_, hiv⟩
  all_goals
    unfold sf_sb pn_c
    by_cases q1 : 1 < τ.1 16 i
    · rw [if_pos (c16.mpr q1), if_pos q1]; first | exact h1 | exact h2 | exact h3
    rw [if_neg (fun z => q1 (c16.mp z)), if_neg q1]
    by_cases q2 : τ.1 3 0 - τ.1 15 i < 240
    · rw [if_pos (c3.mpr q2), if_pos q2]; first | exact h1 | exact h2 | exact h3
    rw [if_neg (fun z => q2 (c3.mp z)), if_neg q2]
    first
      | exact ef_same h1
      | exact h2.congr (I' := sp_ef σ.1 i) (P' := sp_ef τ.1 i) (fun _ => sp_ef_ne (g := 19) (by decide) _) (fun _ => sp_ef_ne (g := 21) (by decide) _) (fun _ => sp_ef_ne (g := 21) (by decide) _)
      | (show jr (sp_tbk σ.1 σ.2 i) (lp (pf_tb τ.1 i) (hw_ln τ.1 i - 0) 0 τ.2)
         rw [ln_eq h1 i]
         exact tbs_same h1 h2 hi (by omega) h3)
theorem gb_same {nb no nc i : Nat} {σ τ : MI × MJ} (h : rh nb no nc σ τ) : rh nb no nc (sf_gb i σ) (pn_d i τ) := by
  have hiv := nd_iv (i := i) h.2.2.2
  obtain ⟨h1, h2, h3, h4⟩ := h
  have e16 : τ.1 16 i = σ.1 16 i := h1 16 i (by unfold shd; omega)
  have e14 : τ.1 14 i = σ.1 14 i := h1 14 i (by unfold shd; omega)
  have e7 : ∀ j, τ.1 7 j = σ.1 7 j := fun j => h1 7 j (by unfold shd; omega)
  have e20 : ∀ j, τ.1 20 j = σ.1 20 j := fun j => h1 20 j (by unfold shd; omega)
  have ej : ∀ j, τ.2 0 j = σ.2 0 j := fun j => (h3 j).1.symm
  have c7 : (hb (σ.1 7 (σ.1 20 (12 * i + 0)).toNatClampNeg = 0) = 0) ↔ ¬ σ.1 7 (σ.1 20 (12 * i + 0)).toNatClampNeg = 0 := by
    by_cases q : σ.1 7 (σ.1 20 (12 * i + 0)).toNatClampNeg = 0
    · rw [hb_t q]; exact ⟨fun z => absurd z (by decide), fun z => absurd q z⟩
    · rw [hb_f q]; exact ⟨fun _ => q, fun _ => rfl⟩
  have hj : jr (uJ σ.2 0 (σ.1 20 (12 * i + 0)).toNatClampNeg (σ.2 0 (σ.1 20 (12 * i + 0)).toNatClampNeg - (σ.1 14 i).toInt64)) (uJ (uJ τ.2 0 (σ.1 20 (12 * i + 0)).toNatClampNeg (σ.2 0 (σ.1 20 (12 * i + 0)).toNatClampNeg - (σ.1 14 i).toInt64)) 4 2 (τ.2 4 2 + (σ.1 14 i).toInt64)) := fun k => h3.u _ _ _ k
  refine ⟨?_, ?_, ?_, hiv⟩
  all_goals
    unfold sf_gb pn_d
    rw [e16, e20, e7, ej, e14]
    by_cases q1 : ¬ σ.1 16 i = 3
    · rw [if_pos q1, if_pos q1]; first | exact h1 | exact h2 | exact h3
    rw [if_neg q1, if_neg q1]
    by_cases q2 : ¬ σ.1 7 (σ.1 20 (12 * i + 0)).toNatClampNeg = 0
    · rw [if_pos (c7.mpr q2), if_pos q2]; first | exact h1 | exact h2 | exact h3
    rw [if_neg (fun z => q2 (c7.mp z)), if_neg q2]
    by_cases q3 : lg_cmp (σ.2 0 (σ.1 20 (12 * i + 0)).toNatClampNeg) (σ.1 14 i).toInt64 < 0
    · rw [if_pos q3, if_pos q3]; first | exact h1 | exact h2 | exact h3
    rw [if_neg q3, if_neg q3]
    first
      | exact h1.u 16 i 4
      | exact h2.congr (fun _ => rfl) (fun _ => rfl) (fun _ => rfl)
      | exact hj
