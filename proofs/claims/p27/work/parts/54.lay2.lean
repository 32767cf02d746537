/-! a way that is laid, on both sides -/
theorem lp_shift {σ : Type} (f : Nat → σ → σ) (q : Nat) : ∀ n i s, lp f n (q + i) s = lp (fun k => f (q + k)) n i s := by
  intro n
  induction n with
  | zero => intro i s; rfl
  | succ n ih => intro i s; exact ih (i + 1) (f (q + i) s)
theorem owe_5 (N : MJ) (g a b : Nat) (x : Int64) (j : Nat) (hg : g ≠ 5) : pf_owe N g a b x 5 j = N 5 j := if_neg (fun z => hg z.1.symm)
theorem on_5 (P : MI) (N : MJ) (i k : Nat) (z : Int32) (j : Nat) : ps_on P N i k z 5 j = N 5 j := by
  unfold ps_on
  split
  · rw [owe_5 _ _ _ _ _ _ (by decide), owe_5 _ _ _ _ _ _ (by decide), owe_5 _ _ _ _ _ _ (by decide)]
  · rw [owe_5 _ _ _ _ _ _ (by decide), owe_5 _ _ _ _ _ _ (by decide), owe_5 _ _ _ _ _ _ (by decide), owe_5 _ _ _ _ _ _ (by decide)]
def lay_R (M0 T : MI) (N : MJ) (i q k : Nat) (Jc : MJ) (τ : MI × MJ) : Prop :=
  jr Jc τ.2 ∧ (∀ g j, ¬ (g = 21 ∧ 12 * i + q ≤ j ∧ j < 12 * i + (q + k)) → τ.1 g j = M0 g j) ∧ (∀ k', k' < k → τ.1 21 (12 * i + (q + k')) = T 21 (12 * i + (q + k'))) ∧ (∀ j, τ.2 5 j = N 5 j) ∧ ∀ j, τ.2 4 j = N 4 j
theorem lay_step {M0 T : MI} {N : MJ} {i q k n m f : Nat} {b : Nat} {Jc : MJ} {τ : MI × MJ} (hk : k < n) (h : lay_R M0 T N i q k Jc τ) (h20 : ∀ j, M0 20 j = T 20 j) (h17 : M0 17 i ≤ nI (q + k)) (h12 : M0 12 i = nI m) (hm : m ≤ 1000000) (h43 : M0 43 (k + 1) = nI b) (hb9 : b < 12) (hf : f ≤ 1300000) (h5 : (N 5 b).toInt = f) (ht : T 21 (12 * i + (q + k)) = nI (m + f)) :
    lay_R M0 T N i q (k + 1) (sf_la T i (q + k) Jc) (pf_l2 i q k τ) := by
  obtain ⟨r1, r2, r3, r4, r5⟩ := h
  have e12 : τ.1 12 i = nI m := (r2 12 i (fun z => absurd z.1 (by decide))).trans h12
  have e43 : tn (τ.1 43 (k + 1)) = b := by rw [r2 43 (k + 1) (fun z => absurd z.1 (by decide)), h43]; exact nI_clamp (by omega)
  have e5 : τ.2 5 b = lN f := by rw [r4]; exact Int64.toInt_inj.mp (h5.trans (lN_toInt (by omega)).symm)
  have ev : ((τ.1 12 i).toInt64 + τ.2 5 (tn (τ.1 43 (k + 1)))).toInt32 = T 21 (12 * i + (q + k)) := by
    rw [e12, e43, e5, nI_l (by omega), lN_add, lN_i, ht]
  have eS : pf_l2 i q k τ = (uI τ.1 21 (12 * i + (q + k)) (T 21 (12 * i + (q + k))), ps_on (uI τ.1 21 (12 * i + (q + k)) (T 21 (12 * i + (q + k)))) τ.2 i (q + k) 1) := by
    unfold pf_l2
    rw [ev]
  rw [eS]
  have x20 : ∀ j, uI τ.1 21 (12 * i + (q + k)) (T 21 (12 * i + (q + k))) 20 j = T 20 j := fun j => (if_neg (fun z => absurd z.1 (by decide))).trans ((r2 20 j (fun z => absurd z.1 (by decide))).trans (h20 j))
  refine ⟨la_same (m := m + f) x20 (if_pos ⟨rfl, rfl⟩) ?_ (by omega) ht r1, fun g j hg => ?_, fun k' hk' => ?_, fun j => (on_5 _ _ _ _ _ j).trans (r4 j), fun j => (on_4 _ _ _ _ _ j).trans (r5 j)⟩
  · rw [uI_at, if_neg (fun z => absurd z.1 (by decide)), r2 17 i (fun z => absurd z.1 (by decide))]
    exact h17
  · show uI τ.1 21 (12 * i + (q + k)) _ g j = _
    rw [uI_at, if_neg (fun z => hg ⟨z.1, by omega, by omega⟩)]
    exact r2 g j (fun z => hg ⟨z.1, z.2.1, by omega⟩)
  · show uI τ.1 21 (12 * i + (q + k)) _ 21 _ = _
    rw [uI_at]
    by_cases c : k' = k
    · subst c; rw [if_pos ⟨rfl, rfl⟩]
    · rw [if_neg (fun z => c (by omega))]
      exact r3 k' (by omega)
theorem lay_gen {K P : MI} {J N : MJ} {i q n m : Nat} {p : Nat → Nat} (hr : ∀ g j, shd g → g ≠ 1 → P g j = K g j) (hj : jr J N) (h37 : K 37 0 = nI (n + 1)) (hqn : q + n < 12) (h12 : K 12 i = nI m) (hm : m ≤ 1000000) (h17 : K 17 i = nI q)
    (hp : ∀ k, k ≤ n → p k < 12 ∧ K 36 k = nI (p k) ∧ P 43 k = nI (p k) ∧ ∃ f : Nat, f ≤ 1300000 ∧ K 34 (p k) = nI f ∧ (N 5 (p k)).toInt = f) :
    (∀ g j, shd g → g ≠ 1 → (ps_lay P N i q n).1 g j = sp_take K i q (n + 1) g j) ∧ (∀ k, k < n → (ps_lay P N i q n).1 21 (12 * i + (q + k)) = sp_take K i q (n + 1) 21 (12 * i + (q + k)) ∧ ∃ s : Nat, s ≤ 2300000 ∧ sp_take K i q (n + 1) 21 (12 * i + (q + k)) = nI s) ∧
    (∀ g j, ¬ (g = 19 ∧ j = i) → ¬ ((g = 20 ∨ g = 21) ∧ 12 * i + q ≤ j ∧ j < 12 * i + (q + (n + 1))) → (ps_lay P N i q n).1 g j = P g j) ∧
    jr (lp (sf_la (sp_take K i q (n + 1)) i) n q J) (ps_lay P N i q n).2 ∧ ∀ j, (ps_lay P N i q n).2 4 j = N 4 j := by
  generalize hT : sp_take K i q (n + 1) = T
  generalize hM : lp (pf_l1 i q) (n + 1) 0 (uI P 19 i (nI (q + (n + 1)))) = M0
  have mo : ∀ g j, ¬ (g = 19 ∧ j = i) → ¬ (g = 20 ∧ 12 * i + q ≤ j ∧ j < 12 * i + (q + (n + 1))) → M0 g j = P g j := fun g j h1 h2 => by
    rw [← hM, l1_oth (n + 1) (fun z => h2 ⟨z.1, z.2.1, by omega⟩)]
    exact if_neg h1
  have mi : ∀ k, k ≤ n → M0 20 (12 * i + (q + k)) = nI (p k) := fun k hk => by
    rw [← hM, l1_at (n + 1) (by omega)]
    exact (if_neg (fun z => absurd z.1 (by decide))).trans (hp k hk).2.2.1
  have m19 : M0 19 i = nI (q + (n + 1)) := by
    rw [← hM, l1_oth (n + 1) (fun z => absurd z.1 (by decide))]
    exact if_pos ⟨rfl, rfl⟩
  have t20 : ∀ k, k ≤ n → T 20 (12 * i + (q + k)) = nI (p k) := fun k hk => by
    rw [← hT, (take_at h37 (by omega) (by omega)).1]
    exact (hp k hk).2.1
  have to : ∀ g j, ¬ (g = 19 ∧ j = i) → ¬ ((g = 20 ∨ g = 21) ∧ 12 * i + q ≤ j ∧ j < 12 * i + (q + (n + 1))) → T g j = K g j := fun g j h1 h2 => by
    rw [← hT]
    exact take_oth h1 (fun z => h2 ⟨z.1, z.2.1, by omega⟩)
  have t19 : T 19 i = nI (q + (n + 1)) := by rw [← hT]; exact take_19 K i q (n + 1)
  have mT : ∀ g j, g ≠ 21 → shd g → g ≠ 1 → M0 g j = T g j := fun g j h21 hs hg1 => by
    by_cases c1 : g = 19 ∧ j = i
    · rw [c1.1, c1.2, m19, t19]
    · by_cases c2 : g = 20 ∧ 12 * i + q ≤ j ∧ j < 12 * i + (q + (n + 1))
      · obtain ⟨k, hk, rfl⟩ : ∃ k, k ≤ n ∧ j = 12 * i + (q + k) := ⟨j - (12 * i + q), by omega, by omega⟩
        rw [c2.1, mi k hk, t20 k hk]
      · rw [mo g j c1 c2, to g j c1 (fun z => c2 ⟨by omega, z.2⟩)]
        exact hr g j hs hg1
  have h20 : ∀ j, M0 20 j = T 20 j := fun j => mT 20 j (by decide) (by unfold shd; omega) (by decide)
  have s17 : M0 17 i = nI q := by
    rw [mo 17 i (fun z => absurd z.1 (by decide)) (fun z => absurd z.1 (by decide)), hr 17 i (by unfold shd; omega) (by decide)]
    exact h17
  have s12 : M0 12 i = nI m := by
    rw [mo 12 i (fun z => absurd z.1 (by decide)) (fun z => absurd z.1 (by decide)), hr 12 i (by unfold shd; omega) (by decide)]
    exact h12
  have s43 : ∀ k, k ≤ n → M0 43 k = nI (p k) := fun k hk => by
    rw [mo 43 k (fun z => absurd z.1 (by decide)) (fun z => absurd z.1 (by decide))]
    exact (hp k hk).2.2.1
  have t21 : ∀ k, k < n → ∃ f : Nat, f ≤ 1300000 ∧ (N 5 (p (k + 1))).toInt = f ∧ T 21 (12 * i + (q + k)) = nI (m + f) := fun k hk => by
    obtain ⟨b1, b2, _, f, f1, f2, f3⟩ := hp (k + 1) (by omega)
    refine ⟨f, f1, f3, ?_⟩
    rw [← hT, (take_at h37 (by omega) (by omega)).2, if_neg (by omega), h12, b2, nI_clamp (by omega), f2, nI_add]
  have key := lp_rel (fun k => sf_la T i (q + k)) (pf_l2 i q) (lay_R M0 T N i q) n (fun k s t hk hR => by
    obtain ⟨f, f1, f2, f3⟩ := t21 k hk
    exact lay_step hk hR h20 (by rw [s17]; exact nI_le (by omega) (by omega)) s12 hm (s43 (k + 1) (by omega)) (hp (k + 1) (by omega)).1 f1 f2 f3) n 0 J (M0, N) (by omega) ⟨hj, fun _ _ _ => rfl, fun k' hk' => absurd hk' (Nat.not_lt_zero k'), fun _ => rfl, fun _ => rfl⟩
  rw [← lp_shift (sf_la T i) q n 0 J, Nat.add_zero] at key
  have eL : ps_lay P N i q n = lp (pf_l2 i q) n 0 (M0, N) := by
    unfold ps_lay
    rw [hM]
  rw [eL]
  generalize lp (pf_l2 i q) n 0 (M0, N) = X at key ⊢
  obtain ⟨r1, r2, r3, r4, r5⟩ := key
  refine ⟨fun g j hs hg1 => ?_, fun k hk => ?_, fun g j h1 h2 => ?_, r1, r5⟩
  · have h21 : g ≠ 21 := by unfold shd at hs; omega
    rw [r2 g j (fun z => h21 z.1)]
    exact mT g j h21 hs hg1
  · obtain ⟨f, f1, f2, f3⟩ := t21 k hk
    exact ⟨r3 k hk, m + f, by omega, f3⟩
  · rw [r2 g j (fun z => h2 ⟨Or.inr z.1, z.2.1, by omega⟩)]
    exact mo g j h1 (fun z => h2 ⟨Or.inl z.1, z.2⟩)
theorem lay_same {K P : MI} {J N : MJ} {i q n m : Nat} {p : Nat → Nat} (hr : ri K P) (hj : jr J N) (h37 : K 37 0 = nI (n + 1)) (hqn : q + n < 12) (h12 : K 12 i = nI m) (hm : m ≤ 1000000) (h17 : K 17 i = nI q)
    (hp : ∀ k, k ≤ n → p k < 12 ∧ K 36 k = nI (p k) ∧ P 43 k = nI (p k) ∧ ∃ f : Nat, f ≤ 1300000 ∧ K 34 (p k) = nI f ∧ (N 5 (p k)).toInt = f) :
    ri (sp_take K i q (n + 1)) (ps_lay P N i q n).1 ∧ (∀ k, k < n → (ps_lay P N i q n).1 21 (12 * i + (q + k)) = sp_take K i q (n + 1) 21 (12 * i + (q + k)) ∧ ∃ s : Nat, s ≤ 2300000 ∧ sp_take K i q (n + 1) 21 (12 * i + (q + k)) = nI s) ∧
    (∀ g j, ¬ (g = 19 ∧ j = i) → ¬ ((g = 20 ∨ g = 21) ∧ 12 * i + q ≤ j ∧ j < 12 * i + (q + (n + 1))) → (ps_lay P N i q n).1 g j = P g j) ∧
    jr (lp (sf_la (sp_take K i q (n + 1)) i) n q J) (ps_lay P N i q n).2 ∧ ∀ j, (ps_lay P N i q n).2 4 j = N 4 j := by
  obtain ⟨a1, a2, a3, a4, a5⟩ := lay_gen (fun g j hs _ => hr g j hs) hj h37 hqn h12 hm h17 hp
  refine ⟨fun g j hs => ?_, a2, a3, a4, a5⟩
  by_cases c : g = 1
  · subst c
    rw [a3 1 j (fun z => absurd z.1 (by decide)) (fun z => by omega), take_ne (by decide) (by decide) (by decide)]
    exact hr 1 j hs
  · exact a1 g j hs c
