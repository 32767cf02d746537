/-! couriers and sums on both sides -/
def rv (nc : Nat) (I P : MI) : Prop := ∀ c, c < nc → P 41 c = if I 26 c = 0 then 1 else 0
theorem rc_same {nb no nc i : Nat} {σ τ : MI × MJ} (hi : i < nc) (h : rh nb no nc σ τ) (hv : rv nc σ.1 τ.1) : rh nb no nc (sf_rc i σ) (pf_ca i τ) ∧ rv nc (sf_rc i σ).1 (pf_ca i τ).1 := by
  have hiv : pv_iv (pf_ca i τ).1 nb no nc := h.2.2.2.congr (fun g j hg => ca_oth (by omega))
  obtain ⟨h1, h2, h3, h4⟩ := h
  have e3 : τ.1 3 0 = σ.1 3 0 := h1 3 0 (by unfold shd; omega)
  have e22 : τ.1 22 i = σ.1 22 i := h1 22 i (by unfold shd; omega)
  have e23 : τ.1 23 i = σ.1 23 i := h1 23 i (by unfold shd; omega)
  have e24 : τ.1 24 i = σ.1 24 i := h1 24 i (by unfold shd; omega)
  have e25 : τ.1 25 i = σ.1 25 i := h1 25 i (by unfold shd; omega)
  have e41 : (¬ τ.1 41 i = 0) ↔ σ.1 26 i = 0 := by
    rw [hv i hi]
    by_cases q : σ.1 26 i = 0
    · rw [if_pos q]; exact ⟨fun _ => q, fun _ => by decide⟩
    · rw [if_neg q]; exact ⟨fun z => absurd rfl z, fun z => absurd z q⟩
  have ej : τ.2 0 (tn (σ.1 23 i)) = σ.2 0 (tn (σ.1 23 i)) := (h3 _).1.symm
  have hj : jr (sp_known (uJ σ.2 0 (σ.1 23 i).toNatClampNeg (σ.2 0 (σ.1 23 i).toNatClampNeg + (σ.1 24 i).toInt64)) (σ.1 22 i).toNatClampNeg (σ.1 23 i).toNatClampNeg (-σ.1 24 i).toInt64) (ps_both (uJ τ.2 0 (tn (σ.1 23 i)) (σ.2 0 (tn (σ.1 23 i)) + (σ.1 24 i).toInt64)) (tn (σ.1 22 i)) (tn (σ.1 23 i)) (-σ.1 24 i).toInt64) := (h3.u 0 _ _).known _ _ _
  by_cases q1 : σ.1 26 i = 0
  · rw [show sf_rc i σ = σ from if_pos q1, show pf_ca i τ = τ from if_pos (e41.mpr q1)]
    exact ⟨⟨h1, h2, h3, h4⟩, hv⟩
  by_cases q2 : σ.1 3 0 < σ.1 25 i
  · rw [show sf_rc i σ = σ from (if_neg q1).trans (if_pos q2), show pf_ca i τ = τ from (if_neg (fun z => q1 (e41.mp z))).trans (if_pos (by rw [e3, e25]; exact q2))]
    exact ⟨⟨h1, h2, h3, h4⟩, hv⟩
  have es : sf_rc i σ = (uI σ.1 26 i 0, sp_known (uJ σ.2 0 (σ.1 23 i).toNatClampNeg (σ.2 0 (σ.1 23 i).toNatClampNeg + (σ.1 24 i).toInt64)) (σ.1 22 i).toNatClampNeg (σ.1 23 i).toNatClampNeg (-σ.1 24 i).toInt64) := (if_neg q1).trans (if_neg q2)
  have et : pf_ca i τ = (uI τ.1 41 i 1, ps_both (uJ τ.2 0 (tn (σ.1 23 i)) (σ.2 0 (tn (σ.1 23 i)) + (σ.1 24 i).toInt64)) (tn (σ.1 22 i)) (tn (σ.1 23 i)) (-σ.1 24 i).toInt64) := by
    refine ((if_neg (fun z => q1 (e41.mp z))).trans (if_neg (by rw [e3, e25]; exact q2))).trans ?_
    rw [e22, e23, e24, ej]
    rfl
  rw [et] at hiv
  rw [es, et]
  refine ⟨⟨(h1.iu 26 i 0 (by unfold shd; omega)).pu 41 i 1 (fun z => absurd z (by unfold shd; omega)), h2.congr (fun _ => rfl) (fun _ => rfl) (fun _ => rfl), hj, hiv⟩, fun c hc => ?_⟩
  show uI τ.1 41 i 1 41 c = if uI σ.1 26 i 0 26 c = 0 then 1 else 0
  by_cases q : c = i
  · have a1 : uI τ.1 41 i 1 41 c = 1 := if_pos ⟨rfl, q⟩
    have a2 : uI σ.1 26 i 0 26 c = 0 := if_pos ⟨rfl, q⟩
    rw [a1, a2]
    rfl
  · have a1 : uI τ.1 41 i 1 41 c = τ.1 41 c := if_neg (fun z => q z.2)
    have a2 : uI σ.1 26 i 0 26 c = σ.1 26 c := if_neg (fun z => q z.2)
    rw [a1, a2]
    exact hv c hc
/-- the model's running sums are the sums -/
def SU (I : MI) (N : MJ) (no nc : Nat) : Prop :=
  N 4 0 = lp (sq (fun _ => True) (fun i => (I 14 i).toInt64)) no 0 0 ∧ N 4 1 = lp (sq (fun i => I 16 i = 2) (fun i => (I 12 i).toInt64)) no 0 0 ∧
  N 4 2 = lp (sq (fun i => I 16 i = 4) (fun i => (I 14 i).toInt64)) no 0 0 ∧ N 4 3 = lp (sq (fun i => ¬ I 27 i = 0) (fun i => (I 24 i).toInt64)) nc 0 0
theorem SU.congr {I I' : MI} {N N' : MJ} {no nc : Nat} (h : SU I N no nc) (h1 : ∀ o, o < no → I' 12 o = I 12 o ∧ I' 14 o = I 14 o ∧ (I' 16 o = 2 ↔ I 16 o = 2) ∧ (I' 16 o = 4 ↔ I 16 o = 4)) (h2 : ∀ c, c < nc → I' 24 c = I 24 c ∧ I' 27 c = I 27 c) (h3 : ∀ j, N' 4 j = N 4 j) : SU I' N' no nc := by
  obtain ⟨a, b, c, d⟩ := h
  refine ⟨?_, ?_, ?_, ?_⟩
  · rw [h3, a]; exact sq_congr no 0 0 (fun j _ hj => ⟨Iff.rfl, fun _ => by rw [(h1 j (by omega)).2.1]⟩)
  · rw [h3, b]; exact sq_congr no 0 0 (fun j _ hj => ⟨(h1 j (by omega)).2.2.1.symm, fun _ => by rw [(h1 j (by omega)).1]⟩)
  · rw [h3, c]; exact sq_congr no 0 0 (fun j _ hj => ⟨(h1 j (by omega)).2.2.2.symm, fun _ => by rw [(h1 j (by omega)).2.1]⟩)
  · rw [h3, d]; exact sq_congr nc 0 0 (fun j _ hj => ⟨by rw [(h2 j (by omega)).2], fun _ => by rw [(h2 j (by omega)).1]⟩)
theorem sums_0 {I : MI} (n i : Nat) (s : Int64) : lp (sf_sg I) n i s = lp (sq (fun _ => True) (fun i => (I 14 i).toInt64)) n i s := by
  apply lp_fun
  intro k s
  unfold sf_sg sq
  rw [if_pos trivial]
theorem sums_1 {I : MI} (n i : Nat) (s : Int64) : lp (sf_sp I) n i s = lp (sq (fun i => I 16 i = 2) (fun i => (I 12 i).toInt64)) n i s := by
  apply lp_fun
  intro k s
  unfold sf_sp sq
  by_cases c : I 16 k = 2
  · rw [if_neg (fun z => z c), if_pos c]
  · rw [if_pos c, if_neg c]
theorem sums_2 {I : MI} (x : Int32) (n i : Nat) (s : Int64) : lp (sf_si I x) n i s = lp (sq (fun i => I 16 i = x) (fun i => (I 14 i).toInt64)) n i s := by
  apply lp_fun
  intro k s
  unfold sf_si sq
  by_cases c : I 16 k = x
  · rw [if_neg (fun z => z c), if_pos c]
  · rw [if_pos c, if_neg c]
theorem sums_3 {I : MI} (n i : Nat) (s : Int64) : lp (sf_sr I) n i s = lp (sq (fun i => ¬ I 27 i = 0) (fun i => (I 24 i).toInt64)) n i s := by
  apply lp_fun
  intro k s
  unfold sf_sr sq
  by_cases c : I 27 k = 0
  · rw [if_pos c, if_neg (fun z => z c)]
  · rw [if_neg c, if_pos c]
