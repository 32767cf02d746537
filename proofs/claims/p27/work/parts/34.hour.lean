/-! the model: what fails for a broker, an hour -/
def pf_ff (x : Int32) (nb i : Nat) (σ : MI × MJ) : MI × MJ := if ¬ σ.1 16 i = 0 then σ else if lp (pf_po σ.1 i x) (hw_ln σ.1 i + 1) 0 (-1) ≤ σ.1 17 i then σ else pg_go σ.1 σ.2 i nb
def ps_ff (P : MI) (N : MJ) (x : Int32) (nb no : Nat) : MI × MJ := lp (pf_ff x nb) no 0 (P, N)
theorem ff_a {x : Int32} {nb i : Nat} {σ : MI × MJ} (h : ¬ σ.1 16 i = 0) : pf_ff x nb i σ = σ := if_pos h
theorem ff_b {x : Int32} {nb i : Nat} {σ : MI × MJ} (h : σ.1 16 i = 0) (h2 : lp (pf_po σ.1 i x) (hw_ln σ.1 i + 1) 0 (-1) ≤ σ.1 17 i) : pf_ff x nb i σ = σ := (if_neg (fun z => z h)).trans (if_pos h2)
theorem ff_c {x : Int32} {nb i : Nat} {σ : MI × MJ} (h : σ.1 16 i = 0) (h2 : ¬ lp (pf_po σ.1 i x) (hw_ln σ.1 i + 1) 0 (-1) ≤ σ.1 17 i) : pf_ff x nb i σ = pg_go σ.1 σ.2 i nb := (if_neg (fun z => z h)).trans (if_neg h2)
/-- what holds before each step of failsFor -/
def pf_inv (x : Int32) (nb no : Nat) (G : Nat → MI × MJ → Prop) : Prop := ∀ i σ, i < no → G i σ → G (i + 1) (pf_ff x nb i σ) ∧ σ.1 1 0 = nI no ∧ hw_or σ.1 i ∧ (σ.1 16 i = 0 → ¬ lp (pf_po σ.1 i x) (hw_ln σ.1 i + 1) 0 (-1) ≤ σ.1 17 i → pg_fit σ.1 σ.2 i nb)
def ps_mv (P : MI) (N : MJ) (i q n : Nat) : MI × MJ :=
  (uI (uI P 17 i (P 17 i + 1)) 16 i (if ¬ P 17 i + 1 = nI n then 0 else 1), pf_owe N 2 (tn (P 20 (12 * i + (q + 1)))) (tn (P 20 (12 * i + q))) (-P 21 (12 * i + q)).toInt64)
def pf_ca (i : Nat) (σ : MI × MJ) : MI × MJ := if ¬ σ.1 41 i = 0 then σ else if σ.1 3 0 < σ.1 25 i then σ else
  (uI σ.1 41 i 1, pf_owe (pf_owe (pf_owe (pf_owe (uJ σ.2 0 (tn (σ.1 23 i)) (σ.2 0 (tn (σ.1 23 i)) + (σ.1 24 i).toInt64)) 1 (tn (σ.1 22 i)) (tn (σ.1 23 i)) (-σ.1 24 i).toInt64) 1 (tn (σ.1 23 i)) (tn (σ.1 22 i)) (-(-σ.1 24 i).toInt64)) 2 (tn (σ.1 22 i)) (tn (σ.1 23 i)) (-σ.1 24 i).toInt64) 2 (tn (σ.1 23 i)) (tn (σ.1 22 i)) (-(-σ.1 24 i).toInt64))
theorem ca_oth {i : Nat} {σ : MI × MJ} {g j : Nat} (h : g ≠ 41) : (pf_ca i σ).1 g j = σ.1 g j := by
  unfold pf_ca
  repeat' split
  all_goals first | rfl | simp [uI, h]
def pn_a (i : Nat) (σ : MI) : MI := uI σ 7 i (if ¬ σ 7 i = 1 then σ 7 i else if σ 3 0 < σ 8 i then σ 7 i else 0)
def pn_b (i : Nat) (σ : MI × MJ) : MI × MJ := if ¬ σ.1 16 i = 0 then σ else ps_mv σ.1 σ.2 i (hw_pl σ.1 i) (hw_ln σ.1 i)
def pn_c (i : Nat) (σ : MI × MJ) : MI × MJ := if 1 < σ.1 16 i then σ else if σ.1 3 0 - σ.1 15 i < 240 then σ else (sp_ef σ.1 i, lp (pf_tb σ.1 i) (hw_ln σ.1 i - 0) 0 σ.2)
def pn_d (i : Nat) (σ : MI × MJ) : MI × MJ := if ¬ σ.1 16 i = 3 then σ else if ¬ σ.1 7 (tn (σ.1 20 (12 * i + 0))) = 0 then σ else if lg_cmp (σ.2 0 (tn (σ.1 20 (12 * i + 0)))) (σ.1 14 i).toInt64 < 0 then σ else
  (uI σ.1 16 i 4, uJ (uJ σ.2 0 (tn (σ.1 20 (12 * i + 0))) (σ.2 0 (tn (σ.1 20 (12 * i + 0))) - (σ.1 14 i).toInt64)) 4 2 (σ.2 4 2 + (σ.1 14 i).toInt64))
def pn_1 (P : MI) (nb : Nat) : MI := lp pn_a nb 0 (uI P 3 0 (P 3 0 + 1))
def pn_2 (P : MI) (N : MJ) (nb no : Nat) : MI × MJ := lp pn_b no 0 (pn_1 P nb, N)
def pn_3 (P : MI) (N : MJ) (nb no : Nat) : MI × MJ := lp pn_c no 0 (pn_2 P N nb no)
def pn_4 (P : MI) (N : MJ) (nb no : Nat) : MI × MJ := lp pn_d no 0 (pn_3 P N nb no)
def ps_nh (P : MI) (N : MJ) (nb no nc : Nat) : MI × MJ := lp pf_ca nc 0 (pn_4 P N nb no)
theorem na_oth {i : Nat} {σ : MI} {g j : Nat} (h : g ≠ 7) : pn_a i σ g j = σ g j := by simp [pn_a, uI, h]
theorem nb_oth {i : Nat} {σ : MI × MJ} {g j : Nat} (h : g ≠ 16) (h2 : g ≠ 17) : (pn_b i σ).1 g j = σ.1 g j := by
  unfold pn_b
  split
  · rfl
  · simp [ps_mv, uI, h, h2]
theorem nc_oth {i : Nat} {σ : MI × MJ} {g j : Nat} (h : g ≠ 16) : (pn_c i σ).1 g j = σ.1 g j := by
  unfold pn_c
  repeat' split
  all_goals first | rfl | exact sp_ef_ne h j
theorem nd_oth {i : Nat} {σ : MI × MJ} {g j : Nat} (h : g ≠ 16) : (pn_d i σ).1 g j = σ.1 g j := by
  unfold pn_d
  repeat' split
  all_goals first | rfl | simp [uI, h]
theorem n1_oth {P : MI} {nb g j : Nat} (h : g ≠ 7) (h3 : g ≠ 3) : pn_1 P nb g j = P g j := (lp_inv pn_a (fun _ σ => σ g j = uI P 3 0 (P 3 0 + 1) g j) nb (fun _ _ _ hs => (na_oth h).trans hs) nb 0 _ (by omega) rfl).trans (by simp [uI, h3])
/-- the model's numbers, as far as indices ask for it; on its way: a message that goes is not at the end of its way -/
def pv_iv (P : MI) (nb no nc : Nat) : Prop := (P 0 0 = nI nb ∧ nb ≤ 12) ∧ (P 1 0 = nI no ∧ no ≤ 40) ∧ (P 2 0 = nI nc ∧ nc ≤ 40) ∧ hw_os P no ∧ hw_cs P nc ∧ ∀ o, o < no → P 16 o = 0 → hw_pl P o < hw_ln P o
theorem pv_iv.congr {P P' : MI} {nb no nc : Nat} (h : pv_iv P nb no nc) (h1 : ∀ g j, (g = 0 ∨ g = 1 ∨ g = 2 ∨ g = 16 ∨ g = 17 ∨ g = 19 ∨ g = 20 ∨ g = 22 ∨ g = 23) → P' g j = P g j) : pv_iv P' nb no nc := by
  obtain ⟨a1, a2, a3, a4, a5, a6⟩ := h
  refine ⟨by rw [h1 0 0 (by omega)]; exact a1, by rw [h1 1 0 (by omega)]; exact a2, by rw [h1 2 0 (by omega)]; exact a3, a4.congr (fun g j hg => h1 g j (by omega)), a5.congr (fun g j hg => h1 g j (by omega)), fun o ho hz => ?_⟩
  have e1 : hw_pl P' o = hw_pl P o := by unfold hw_pl; rw [h1 17 o (by omega)]
  have e2 : hw_ln P' o = hw_ln P o := by unfold hw_ln; rw [h1 19 o (by omega)]
  rw [e1, e2]
  exact a6 o ho (by rw [← h1 16 o (by omega)]; exact hz)
/-- only how order i is changes, and not to 0 -/
theorem pv_iv.how {P P' : MI} {nb no nc i : Nat} (h : pv_iv P nb no nc) (h1 : ∀ g j, (g = 0 ∨ g = 1 ∨ g = 2 ∨ g = 17 ∨ g = 19 ∨ g = 20 ∨ g = 22 ∨ g = 23 ∨ (g = 16 ∧ j ≠ i)) → P' g j = P g j) (h2 : ¬ P' 16 i = 0) : pv_iv P' nb no nc := by
  obtain ⟨a1, a2, a3, a4, a5, a6⟩ := h
  refine ⟨by rw [h1 0 0 (by omega)]; exact a1, by rw [h1 1 0 (by omega)]; exact a2, by rw [h1 2 0 (by omega)]; exact a3, a4.congr (fun g j hg => h1 g j (by omega)), a5.congr (fun g j hg => h1 g j (by omega)), fun o ho hz => ?_⟩
  have e1 : hw_pl P' o = hw_pl P o := by unfold hw_pl; rw [h1 17 o (by omega)]
  have e2 : hw_ln P' o = hw_ln P o := by unfold hw_ln; rw [h1 19 o (by omega)]
  rw [e1, e2]
  by_cases c : o = i
  · subst c; exact absurd hz h2
  · exact a6 o ho (by rw [← h1 16 o (by omega)]; exact hz)
theorem nb_iv {nb no nc i : Nat} {σ : MI × MJ} (h : pv_iv σ.1 nb no nc) (hi : i < no) : pv_iv (pn_b i σ).1 nb no nc := by
  unfold pn_b
  by_cases c : ¬ σ.1 16 i = 0
  · rw [if_pos c]; exact h
  · rw [if_neg c]
    have c0 : σ.1 16 i = 0 := Decidable.not_not.mp c
    obtain ⟨a1, a2, a3, a4, a5, a6⟩ := id h
    have hor := a4 i hi
    have hlt := a6 i hi c0
    have hn12 := hor.1.1
    have o1 : ∀ g j, g ≠ 16 → g ≠ 17 → (ps_mv σ.1 σ.2 i (hw_pl σ.1 i) (hw_ln σ.1 i)).1 g j = σ.1 g j := fun g j q1 q2 => by simp [ps_mv, uI, q1, q2]
    have o2 : ∀ g j, j ≠ i → (ps_mv σ.1 σ.2 i (hw_pl σ.1 i) (hw_ln σ.1 i)).1 g j = σ.1 g j := fun g j q => by simp [ps_mv, uI, q]
    have t17 : (ps_mv σ.1 σ.2 i (hw_pl σ.1 i) (hw_ln σ.1 i)).1 17 i = nI (hw_pl σ.1 i + 1) := by
      have : (ps_mv σ.1 σ.2 i (hw_pl σ.1 i) (hw_ln σ.1 i)).1 17 i = σ.1 17 i + 1 := by simp [ps_mv, uI]
      rw [this, ← nI_1, ← hor.2.2.1]
    have t16 : (ps_mv σ.1 σ.2 i (hw_pl σ.1 i) (hw_ln σ.1 i)).1 16 i = (if ¬ σ.1 17 i + 1 = nI (hw_ln σ.1 i) then 0 else 1) := if_pos ⟨rfl, rfl⟩
    have e17 : σ.1 17 i + 1 = nI (hw_pl σ.1 i + 1) := by rw [← nI_1, ← hor.2.2.1]
    generalize (ps_mv σ.1 σ.2 i (hw_pl σ.1 i) (hw_ln σ.1 i)).1 = P' at o1 o2 t17 t16
    have eln : ∀ o, hw_ln P' o = hw_ln σ.1 o := fun o => by unfold hw_ln; rw [o1 19 o (by decide) (by decide)]
    have epl : hw_pl P' i = hw_pl σ.1 i + 1 := by unfold hw_pl at *; rw [t17]; exact nI_clamp (by omega)
    refine ⟨by rw [o1 0 0 (by decide) (by decide)]; exact a1, by rw [o1 1 0 (by decide) (by decide)]; exact a2, by rw [o1 2 0 (by decide) (by decide)]; exact a3, fun o ho => ?_, a5.congr (fun g j hg => o1 g j (by omega) (by omega)), fun o ho hz => ?_⟩
    · by_cases e : o = i
      · subst e
        refine ⟨?_, ?_, ?_, ?_⟩
        · rw [eln]; exact hor.1.congr (o1 _ _ (by decide) (by decide)) (fun k _ => o1 _ _ (by decide) (by decide))
        · rw [eln]; exact hor.2.1
        · rw [epl]; exact t17
        · rw [epl, eln]; omega
      · exact (a4 o ho).congr (o2 _ _ e) (o1 _ _ (by decide) (by decide)) (fun k _ => o1 _ _ (by decide) (by decide))
    · by_cases e : o = i
      · subst e
        rw [epl, eln]
        rw [t16, e17] at hz
        by_cases q : nI (hw_pl σ.1 o + 1) = nI (hw_ln σ.1 o)
        · rw [if_neg (fun z => z q)] at hz; exact absurd hz (by decide)
        · have : hw_pl σ.1 o + 1 ≠ hw_ln σ.1 o := fun z => q (congrArg nI z)
          omega
      · have : hw_pl P' o = hw_pl σ.1 o := by unfold hw_pl; rw [o2 17 o e]
        rw [this, eln]
        exact a6 o ho (by rw [← o2 16 o e]; exact hz)
theorem ef_nz (P : MI) (i : Nat) : ¬ sp_ef P i 16 i = 0 := by
  have : sp_ef P i 16 i = (if ¬ P 7 (P 20 (12 * i + 0)).toNatClampNeg = 2 then 3 else 5) := if_pos ⟨rfl, rfl⟩
  rw [this]
  split <;> decide
theorem nc_iv {nb no nc i : Nat} {σ : MI × MJ} (h : pv_iv σ.1 nb no nc) : pv_iv (pn_c i σ).1 nb no nc := by
  unfold pn_c
  by_cases c : 1 < σ.1 16 i
  · rw [if_pos c]; exact h
  · rw [if_neg c]
    by_cases c2 : σ.1 3 0 - σ.1 15 i < 240
    · rw [if_pos c2]; exact h
    · rw [if_neg c2]
      exact h.how (i := i) (fun g j hg => by
        show sp_ef σ.1 i g j = _
        unfold sp_ef uI
        rw [if_neg (by omega)]) (ef_nz _ _)
theorem nd_iv {nb no nc i : Nat} {σ : MI × MJ} (h : pv_iv σ.1 nb no nc) : pv_iv (pn_d i σ).1 nb no nc := by
  unfold pn_d
  repeat' split
  all_goals first
    | exact h
    | exact h.how (i := i) (fun g j hg => if_neg (by omega)) (fun z => absurd ((show (4 : Int32) = uI σ.1 16 i 4 16 i from (if_pos ⟨rfl, rfl⟩).symm).trans z) (by decide))
theorem n1_iv {P : MI} {nb no nc : Nat} (h : pv_iv P nb no nc) : pv_iv (pn_1 P nb) nb no nc := h.congr (fun g j hg => n1_oth (by omega) (by omega))
theorem n2_iv {P : MI} {N : MJ} {nb no nc : Nat} (h : pv_iv P nb no nc) : pv_iv (pn_2 P N nb no).1 nb no nc := lp_inv pn_b (fun _ σ => pv_iv σ.1 nb no nc) no (fun _ _ hi hs => nb_iv hs hi) no 0 _ (by omega) (n1_iv h)
theorem n3_iv {P : MI} {N : MJ} {nb no nc : Nat} (h : pv_iv P nb no nc) : pv_iv (pn_3 P N nb no).1 nb no nc := lp_inv pn_c (fun _ σ => pv_iv σ.1 nb no nc) no (fun _ _ _ hs => nc_iv hs) no 0 _ (by omega) (n2_iv h)
theorem n4_iv {P : MI} {N : MJ} {nb no nc : Nat} (h : pv_iv P nb no nc) : pv_iv (pn_4 P N nb no).1 nb no nc := lp_inv pn_d (fun _ σ => pv_iv σ.1 nb no nc) no (fun _ _ _ hs => nd_iv hs) no 0 _ (by omega) (n3_iv h)
