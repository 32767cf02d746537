/-! another way for an order, on both sides -/
theorem lk_same {I P : MI} {J N : MJ} {nb no nc i : Nat} {B : Int} (h : RH nb no nc (I, J) (P, N)) (hc : hw_ci I J nb no nc B) (hl : hw_lm I) (hw : hw_wb I no nb) (hi : i < no) (hB : B + 51539607552 ≤ 4611686018427387904) (h0 : I 16 i = 0) :
    RH nb no nc (sp_lk I J i) (pg_go P N i nb) ∧ hw_wb (sp_lk I J i).1 no nb ∧ pg_fit P N i nb := by
  obtain ⟨⟨r1, r2, r3, r4⟩, _⟩ := id h
  replace r1 : ri I P := r1
  replace r2 : rs I P no := r2
  replace r3 : jr J N := r3
  replace r4 : pv_iv P nb no nc := r4
  obtain ⟨kp, kc, kb⟩ := lk_pres hc hi hB
  have hos := hc.1.2.2.2.2.2.1
  have hor := hos i hi
  have hnb := hc.1.1.2
  have hlt : hw_pl I i < hw_ln I i := by
    rw [← pl_eq r1 i, ← ln_eq r1 i]
    exact r4.2.2.2.2.2 i hi ((r1 16 i (by unfold shd; omega)).trans h0)
  obtain ⟨m, hm, ham⟩ := (hc.2.1 i hi).2
  obtain ⟨hoth, _⟩ := lk_spec hc.1.1.1 hnb hor (hc.2.1 i hi).1 (hc.2.1 i hi).2 hc.2.2.1 kb
  obtain ⟨wj, ww⟩ := look_ways r1 r2 hl r3 hc.1.1.1 hnb hc.2.2.1 hi hor (hc.2.1 i hi).1 hm ham kb hlt (fun k hk => hw i hi k hk)
  have horP : hw_or P i := hor.congr (r1 17 i (by unfold shd; omega)) (r1 19 i (by unfold shd; omega)) (fun k _ => r1 20 _ (by unfold shd; omega))
  have epl := pl_eq r1 i
  have eW : ∀ g j, g ≠ 42 → g ≠ 43 → (pg_W P N i nb).1 g j = P g j := fun g j h1 _ => fws_oth h1
  have jW : jr (sp_lkJ I J i) (pg_W P N i nb).2 := fun j => by
    obtain ⟨a, b, c⟩ := wj j
    exact ⟨a.trans (fws_N (by decide)).symm, b.trans (fws_N (by decide)).symm, c.trans (fws_N (by decide)).symm⟩
  have nW : ∀ j, (pg_W P N i nb).2 4 j = N 4 j := fun j => (fws_N (by decide)).trans (tbs_4 P i j _ _ N)
  have h3 : sp_lkJ I J i 3 0 = J 3 0 := tbs_3 _ _ _ _ _
  have hbk : ∀ Q : MI, (∀ g j, g ≠ 42 → g ≠ 43 → Q g j = P g j) → RH nb no nc (sp_bk (sp_lkr I J i).2 (sp_lkJ I J i) i (hw_pl I i)) (pg_bk Q (pg_W P N i nb).2 i (hw_pl P i)) ∧ hw_wb (sp_bk (sp_lkr I J i).2 (sp_lkJ I J i) i (hw_pl I i)).1 no nb := fun Q hQ => by
    refine ⟨by rw [epl]; exact bk_RH h hi ⟨by rw [h0]; decide, by rw [h0]; decide⟩ hoth hQ jW nW h3 (by omega), hw.congr hos (fun o ho => ⟨(sp_ef_ne (I := (sp_lkr I J i).2) (i := i) (g := 19) (by decide) o).trans (hoth 19 o (by decide)), fun k _ => (sp_ef_ne (I := (sp_lkr I J i).2) (i := i) (g := 20) (by decide) _).trans (hoth 20 _ (by decide))⟩)⟩
  have hp0 : P 0 0 = nI nb ∧ nb ≤ 12 := r4.1
  rcases ww with ⟨w1, w2⟩ | ⟨w1, w2, n, p, n1, n2, n3, n4, n5⟩
  · rw [sp_lk_a w1, pg_a w2]
    exact ⟨(hbk _ eW).1, (hbk _ eW).2, hp0.1, hp0.2, horP, Or.inl w2⟩
  · have hfit : pg_fit P N i nb := ⟨hp0.1, hp0.2, horP, Or.inr w2⟩
    have hne : ¬ (sp_lkr I J i).1 = 0 := by rw [w1]; decide
    have hnf : ¬ 0 ≤ lg_cmp ((pg_W P N i nb).2 5 (hw_at P i (hw_pl P i))) 1000000000000 := Int32.not_le.mpr w2.1
    obtain ⟨q0, q1, q2, f1, q4, q5, q6⟩ := n5 1 n1
    have e43 : tn (pg_K P N i nb 43 1) = p 1 := by
      rw [pg_K_at horP w2 (by rw [n3]; exact n1), q1]
      exact nI_clamp (by omega)
    have ef : sp_fbf (sp_lkr I J i).2 = nI f1 := by
      unfold sp_fbf
      rw [n4, nI_clamp (by omega), if_pos (by omega), q2, nI_clamp (by omega), q5]
    have c2 : (I 21 (12 * i + hw_pl I i) - I 12 i < sp_fbf (sp_lkr I J i).2) ↔ 0 < lg_cmp ((pg_W P N i nb).2 5 (tn (pg_K P N i nb 43 1))) (P 21 (12 * i + hw_pl P i) - P 12 i).toInt64 := by
      rw [ef, e43, epl, (r2 i hi _ hlt).1, r1 12 i (by unfold shd; omega), lg_cmp_gt, Int32.lt_iff_toInt_lt, Int64.lt_iff_toInt_lt, i32l, q6, nI_toInt (by omega)]
    have hKo : ∀ g j, g ≠ 42 → g ≠ 43 → pg_K P N i nb g j = P g j := fun g j h1 h2 => pg_K_oth h2 h1
    by_cases c : I 21 (12 * i + hw_pl I i) - I 12 i < sp_fbf (sp_lkr I J i).2
    · rw [sp_lk_b hne c, pg_b hnf (c2.mp c)]
      exact ⟨(hbk _ hKo).1, (hbk _ hKo).2, hfit⟩
    · have em : ((sp_lkr I J i).2 37 0).toNatClampNeg = n + 1 := by rw [n4, nI_clamp (by omega)]
      have hos2 : hw_os (sp_take (sp_lkr I J i).2 i (hw_pl I i) (n + 1)) no := by
        have := kc.1.2.2.2.2.2.1
        rw [sp_lk_c hne c, em] at this
        exact this
      rw [sp_lk_c hne c, pg_c hnf (fun z => c (c2.mpr z)), em, n3]
      have hpk : ∀ k, k ≤ n → p k < 12 ∧ (sp_lkr I J i).2 36 k = nI (p k) ∧ pg_K P N i nb 43 k = nI (p k) ∧ ∃ f : Nat, f ≤ 1300000 ∧ (sp_lkr I J i).2 34 (p k) = nI f ∧ ((pg_W P N i nb).2 5 (p k)).toInt = f := fun k hk => by
        obtain ⟨b0, b1, b2, f, f1, f2, f3⟩ := n5 k hk
        exact ⟨by omega, b2, by rw [pg_K_at horP w2 (by rw [n3]; exact hk), b1], f, f1, f2, f3⟩
      refine ⟨?_, fun o ho k hk => ?_, hfit⟩
      · have e : hw_pl I i + (n + 1 - 1) - hw_pl I i = n := by omega
        show RH nb no nc (sp_take (sp_lkr I J i).2 i (hw_pl I i) (n + 1), lp (sf_la (sp_take (sp_lkr I J i).2 i (hw_pl I i) (n + 1)) i) (hw_pl I i + (n + 1 - 1) - hw_pl I i) (hw_pl I i) (sp_lkJ I J i)) (ps_lay (pg_K P N i nb) (pg_W P N i nb).2 i (hw_pl P i) n)
        rw [e, epl]
        exact lay_RH h hos hos2 hi hoth hKo jW nW h3 n4 n1 n2 ham hm hpk
      · show hw_at (sp_take (sp_lkr I J i).2 i (hw_pl I i) (n + 1)) o k < nb
        have hk9 : k ≤ hw_ln (sp_take (sp_lkr I J i).2 i (hw_pl I i) (n + 1)) o := hk
        by_cases d : o = i
        · subst d
          have t19 : hw_ln (sp_take (sp_lkr I J o).2 o (hw_pl I o) (n + 1)) o = hw_pl I o + n := by
            unfold hw_ln
            rw [take_19, nI_clamp (by omega)]
            omega
          rw [t19] at hk9
          rcases Nat.lt_or_ge k (hw_pl I o) with z | z
          · have e : hw_at (sp_take (sp_lkr I J o).2 o (hw_pl I o) (n + 1)) o k = hw_at I o k := by
              unfold hw_at
              rw [take_oth (fun y => absurd y.1 (by decide)) (fun y => by omega), hoth _ _ (by decide)]
            rw [e]
            exact hw o ho k (by omega)
          · have e : hw_at (sp_take (sp_lkr I J o).2 o (hw_pl I o) (n + 1)) o k = p (k - hw_pl I o) := by
              have := (take_at (i := o) (q := hw_pl I o) n4 (by omega) (show k - hw_pl I o < n + 1 by omega)).1
              rw [show hw_pl I o + (k - hw_pl I o) = k by omega] at this
              unfold hw_at
              rw [this, (hpk _ (by omega)).2.1, nI_clamp (by have := (hpk (k - hw_pl I o) (by omega)).1; omega)]
            rw [e]
            exact (n5 _ (by omega)).1
        · have h11 := (hos o ho).1.1
          have e19 : hw_ln (sp_take (sp_lkr I J i).2 i (hw_pl I i) (n + 1)) o = hw_ln I o := by
            unfold hw_ln
            rw [take_oth (fun y => d y.2) (fun y => by omega), hoth _ _ (by decide)]
          rw [e19] at hk9
          have e : hw_at (sp_take (sp_lkr I J i).2 i (hw_pl I i) (n + 1)) o k = hw_at I o k := by
            unfold hw_at
            rw [take_oth (fun y => absurd y.1 (by decide)) (fun y => by omega), hoth _ _ (by decide)]
          rw [e]
          exact hw o ho k hk9
/-! who is still to be passed -/
theorem an_iff (q : Nat → Bool) : ∀ n i, an q n i = true ↔ ∃ k, i ≤ k ∧ k < i + n ∧ q k = true := by
  intro n
  induction n with
  | zero => intro i; exact ⟨fun z => absurd z (by simp [an]), fun ⟨k, a, b, _⟩ => absurd b (by omega)⟩
  | succ n ih =>
    intro i
    have e : an q (n + 1) i = (q i || an q n (i + 1)) := rfl
    rw [e, Bool.or_eq_true, ih]
    constructor
    · rintro (z | ⟨k, a, b, d⟩)
      · exact ⟨i, Nat.le_refl _, by omega, z⟩
      · exact ⟨k, by omega, by omega, d⟩
    · rintro ⟨k, a, b, d⟩
      rcases Nat.lt_or_ge i k with z | z
      · exact Or.inr ⟨k, by omega, by omega, d⟩
      · obtain rfl : k = i := by omega
        exact Or.inl d
theorem po_spec (P : MI) (i : Nat) (x : Int32) : ∀ n, (lp (pf_po P i x) n 0 (-1) = -1 ∧ ∀ k, k < n → ¬ P 20 (12 * i + k) = x) ∨ ∃ k, k < n ∧ lp (pf_po P i x) n 0 (-1) = nI k ∧ P 20 (12 * i + k) = x ∧ ∀ j, k < j → j < n → ¬ P 20 (12 * i + j) = x := by
  intro n
  induction n with
  | zero => exact Or.inl ⟨rfl, fun k hk => absurd hk (Nat.not_lt_zero k)⟩
  | succ n ih =>
    rw [lp_last, Nat.zero_add]
    by_cases c : P 20 (12 * i + n) = x
    · refine Or.inr ⟨n, by omega, if_neg (fun z => z c), c, fun j a b => by omega⟩
    · have e : pf_po P i x n (lp (pf_po P i x) n 0 (-1)) = lp (pf_po P i x) n 0 (-1) := if_pos c
      rw [e]
      rcases ih with ⟨a, b⟩ | ⟨k, a, b, d, f⟩
      · refine Or.inl ⟨a, fun k hk => ?_⟩
        rcases Nat.lt_or_ge k n with z | z
        · exact b k z
        · obtain rfl : k = n := by omega
          exact c
      · refine Or.inr ⟨k, by omega, b, d, fun j h1 h2 => ?_⟩
        rcases Nat.lt_or_ge j n with z | z
        · exact f j h1 z
        · obtain rfl : j = n := by omega
          exact c
theorem sp_po {I P : MI} {i : Nat} {x : Int32} (h : ri I P) (hor : hw_or I i) : (hb (hw_sp I i x = true) = 0) ↔ lp (pf_po P i x) (hw_ln P i + 1) 0 (-1) ≤ P 17 i := by
  have eln := ln_eq h i
  have e20 : ∀ j, P 20 j = I 20 j := fun j => h 20 j (by unfold shd; omega)
  have e17 : P 17 i = nI (hw_pl I i) := (h 17 i (by unfold shd; omega)).trans hor.2.2.1
  have hle := hor.2.2.2
  have hn := hor.1.1
  have a1 : (hb (hw_sp I i x = true) = 0) ↔ ∀ k, hw_pl I i < k → k < hw_ln I i + 1 → ¬ I 20 (12 * i + k) = x := by
    by_cases c : hw_sp I i x = true
    · rw [hb_t c]
      refine ⟨fun z => absurd z (by decide), fun z => ?_⟩
      obtain ⟨k, k1, k2, k3⟩ := (an_iff _ _ _).mp c
      exact absurd (of_decide_eq_true k3) (z k (by omega) (by omega))
    · rw [hb_f c]
      refine ⟨fun _ k k1 k2 k3 => c ((an_iff _ _ _).mpr ⟨k, by omega, by omega, decide_eq_true k3⟩), fun _ => rfl⟩
  rw [a1, eln, e17]
  rcases po_spec P i x (hw_ln I i + 1) with ⟨a, b⟩ | ⟨k, a, b, d, f⟩
  · rw [a]
    refine ⟨fun _ => ?_, fun _ k _ k2 => by rw [← e20]; exact b k k2⟩
    exact Int32.le_of_lt (show (-1 : Int32) < nI (hw_pl I i) by
      rw [Int32.lt_iff_toInt_lt, nI_toInt (by omega)]
      show (-1 : Int) < _
      omega)
  · rw [b, nI_leI (by omega) (by omega)]
    constructor
    · intro z
      rcases Nat.lt_or_ge (hw_pl I i) k with y | y
      · exact absurd ((e20 _).symm.trans d) (z k y a)
      · exact y
    · intro z j j1 j2
      rw [← e20]
      exact f j (by omega) j2
/-- avoiding, on both sides -/
def av_G (nb no nc : Nat) (B : Int) (i : Nat) (σ τ : MI × MJ) : Prop := RH nb no nc σ τ ∧ hw_ci σ.1 σ.2 nb no nc (B + i * 51539607552) ∧ hw_lm σ.1 ∧ hw_wb σ.1 no nb
theorem av_same {x : Int32} {nb no nc i : Nat} {B : Int} {σ τ : MI × MJ} (h : av_G nb no nc B i σ τ) (hi : i < no) (hB : B + (i + 1 : Nat) * 51539607552 ≤ 4611686018427387904) : av_G nb no nc B (i + 1) (sf_av x i σ) (pf_ff x nb i τ) ∧ τ.1 1 0 = nI no ∧ hw_or τ.1 i ∧ (τ.1 16 i = 0 → ¬ lp (pf_po τ.1 i x) (hw_ln τ.1 i + 1) 0 (-1) ≤ τ.1 17 i → pg_fit τ.1 τ.2 i nb) := by
  obtain ⟨h1, h2, h3, h4⟩ := h
  obtain ⟨⟨r1, r2, r3, r4⟩, _⟩ := id h1
  have hos := h2.1.2.2.2.2.2.1
  have e16 : τ.1 16 i = σ.1 16 i := r1 16 i (by unfold shd; omega)
  have hpo := sp_po (x := x) r1 (hos i hi)
  have hB2 : B + (i : Int) * 51539607552 + 51539607552 ≤ 4611686018427387904 := by omega
  have hcm : hw_ci σ.1 σ.2 nb no nc (B + (i + 1 : Nat) * 51539607552) := ⟨h2.1, h2.2.1, h2.2.2.1, h2.2.2.2.mono (by omega)⟩
  refine ⟨?_, r4.2.1.1, r4.2.2.2.1 i hi, fun c1 c2 => (lk_same h1 h2 h3 h4 hi hB2 (e16.symm.trans c1)).2.2⟩
  by_cases c1 : ¬ σ.1 16 i = 0
  · rw [sf_av_a c1, ff_a (fun z => c1 (e16.symm.trans z))]
    exact ⟨h1, hcm, h3, h4⟩
  have c1 := Decidable.not_not.mp c1
  by_cases c2 : hb (hw_sp σ.1 i x = true) = 0
  · rw [sf_av_b c1 c2, ff_b (e16.trans c1) (hpo.mp c2)]
    exact ⟨h1, hcm, h3, h4⟩
  · rw [sf_av_c c1 c2, ff_c (e16.trans c1) (fun z => c2 (hpo.mpr z))]
    obtain ⟨a1, a2, _⟩ := lk_same h1 h2 h3 h4 hi hB2 c1
    obtain ⟨b1, b2, _⟩ := lk_pres h2 hi hB2
    refine ⟨a1, ⟨b2.1, b2.2.1, b2.2.2.1, b2.2.2.2.mono (by omega)⟩, fun j => ?_, a2⟩
    rw [b1 10 j (by decide) (by decide) (by decide) (by decide) (by decide)]
    exact h3 j
/-- and what the model's contract asks -/
theorem ff_same {x : Int32} {nb no nc : Nat} {B : Int} {I P : MI} {J N : MJ} (h : RH nb no nc (I, J) (P, N)) (hc : hw_ci I J nb no nc B) (hl : hw_lm I) (hw : hw_wb I no nb) (hB : B + 2061584302080 ≤ 4611686018427387904) : pg_ready x nb no (P, N) ∧ RH nb no nc (sp_av I J x no) (ps_ff P N x nb no) ∧ hw_wb (sp_av I J x no).1 no nb := by
  have hno := hc.1.2.1.2
  have h0 : av_G nb no nc B 0 (I, J) (P, N) := ⟨h, ⟨hc.1, hc.2.1, hc.2.2.1, hc.2.2.2.mono (by omega)⟩, hl, hw⟩
  have key := lp_rel (sf_av x) (pf_ff x nb) (av_G nb no nc B) no (fun i s t hi hr => (av_same hr hi (by omega)).1) no 0 (I, J) (P, N) (by omega) h0
  refine ⟨⟨fun i τ => ∃ σ, av_G nb no nc B i σ τ, ⟨_, h0⟩, fun i τ hi ⟨σ, hσ⟩ => ?_, key.1.1.2.2.2.2.1.1⟩, key.1, key.2.2.2⟩
  obtain ⟨a, b⟩ := av_same (x := x) hσ hi (by omega)
  exact ⟨⟨_, a⟩, b⟩
