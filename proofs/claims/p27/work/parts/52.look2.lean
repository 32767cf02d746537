/-! another way on both sides -/
theorem lkI_31 {I : MI} {i nb a : Nat} (hbc : I 0 0 = nI nb) (hnb : nb ≤ 12) (ha : a < 12) : (¬ sp_lkI I i 31 a = 0) ↔ (a < nb ∧ I 7 a = 0 ∧ ∀ k, k < hw_pl I i → hw_at I i k ≠ a) := by
  unfold sp_lkI
  rw [lv_31]
  have e20 : ∀ k, (sp_start I (I 0 0) (I 12 i) (I 4 0) 20 (12 * i + k)).toNatClampNeg = hw_at I i k := fun k => by rw [sp_start_oth (by decide) (by decide) (by decide)]; rfl
  by_cases c : ∃ k, k < hw_pl I i ∧ (sp_start I (I 0 0) (I 12 i) (I 4 0) 20 (12 * i + k)).toNatClampNeg = a
  · rw [if_pos c]
    obtain ⟨k, k1, k2⟩ := c
    rw [e20] at k2
    exact ⟨fun z => absurd rfl z, fun z => absurd k2 (z.2.2 k k1)⟩
  · rw [if_neg c, hbc, sp_start_31 hnb ha]
    exact ⟨fun z => ⟨z.1, z.2, fun k k1 k2 => c ⟨k, k1, (e20 k).trans k2⟩⟩, fun z => ⟨z.1, z.2.1⟩⟩
theorem look_ways {I P : MI} {J N : MJ} {nb no i m : Nat} (h : ri I P) (hrs : rs I P no) (hl : hw_lm I) (hj : jr J N) (hbc : I 0 0 = nI nb) (hnb : nb ≤ 12) (hrt : hw_rt I) (hi : i < no) (hor : hw_or I i) (hdf : hw_df I i) (hm : m ≤ 1000000) (ham : I 12 i = nI m) (hbd : bd (sp_lkJ I J i) 4611686018427387904) (hlt : hw_pl I i < hw_ln I i) (hwb : ∀ k, k ≤ hw_ln I i → hw_at I i k < nb) :
    jr (sp_lkJ I J i) (pg_N P N i) ∧
    (((sp_lkr I J i).1 = 0 ∧ 0 ≤ lg_cmp ((pg_W P N i nb).2 5 (hw_at P i (hw_pl P i))) 1000000000000) ∨
    ((sp_lkr I J i).1 = 1 ∧ pg_way P N i nb ∧ ∃ (n : Nat) (p : Nat → Nat), 1 ≤ n ∧ hw_pl I i + n < 12 ∧ pg_n P N i nb = n ∧ (sp_lkr I J i).2 37 0 = nI (n + 1) ∧ ∀ k, k ≤ n → p k < nb ∧ pg_p P N i nb k = p k ∧ (sp_lkr I J i).2 36 k = nI (p k) ∧ ∃ fk : Nat, fk ≤ 1300000 ∧ (sp_lkr I J i).2 34 (p k) = nI fk ∧ ((pg_W P N i nb).2 5 (p k)).toInt = fk)) := by
  have epl := pl_eq h i
  have eln := ln_eq h i
  have e20 : ∀ j, P 20 j = I 20 j := fun j => h 20 j (by unfold shd; omega)
  have eat : ∀ k, hw_at P i k = hw_at I i k := fun k => by unfold hw_at; rw [e20]
  have e12 : P 12 i = I 12 i := h 12 i (by unfold shd; omega)
  have horP : hw_or P i := hor.congr (h 17 i (by unfold shd; omega)) (h 19 i (by unfold shd; omega)) (fun k _ => e20 _)
  have hjN : jr (sp_lkJ I J i) (pg_N P N i) := by
    unfold sp_lkJ pg_N
    rw [epl, eln]
    exact tbs_same h hrs hi (by omega) hj
  refine ⟨hjN, ?_⟩
  have hK : ∀ g j, g ≠ 31 → g ≠ 38 → g ≠ 39 → sp_lkI I i g j = I g j := fun g j h1 h2 h3 => lkI_oth h1 h2 h3 j
  have e38 : sp_lkI I i 38 0 = I 12 i := (lv_oth (by decide) _ _).trans sp_start_38.1
  have e39 : sp_lkI I i 39 0 = I 4 0 := (lv_oth (by decide) _ _).trans sp_start_38.2
  have eop : cop (sp_lkI I i) = mop P (pg_mk P i) nb := op_same h hnb (fun a ha => by
    rw [lkI_31 hbc hnb ha]
    have hmk := mk_step (P := P) (i := i) ha (fun k hk => horP.1.2.2 k hk) (hw_pl P i) (by rw [epl, eln]; omega)
    rw [show pf_bit (pg_mk P i) a = 0 ↔ _ from hmk, epl]
    constructor
    · intro z; exact ⟨z.1, z.2.1, fun k hk => by rw [eat]; exact z.2.2 k hk⟩
    · intro z; exact ⟨z.1, z.2.1, fun k hk => by rw [← eat]; exact z.2.2 k hk⟩)
  have efe : cfe (sp_lkI I i) = mfe P (P 12 i) := fe_same h (e38.trans e12.symm) (fun j => hK 6 j (by decide) (by decide) (by decide))
  have eow : cow (sp_lkI I i) (sp_lkJ I J i) = mow P (pg_N P N i) (P 12 i) := ow_same h hl hjN (e38.trans e12.symm) e39 (fun j => hK 10 j (by decide) (by decide) (by decide)) (fun j => hK 11 j (by decide) (by decide) (by decide))
  obtain ⟨hd, hop, hfe, hmo⟩ := dc_inst (I := sp_lkI I i) (J := sp_lkJ I J i) (hrt.congr (fun j => hK 6 j (by decide) (by decide) (by decide))) ⟨m, hm, e38.trans ham⟩ hbd
  rw [eop, efe, eow] at hd
  rw [eop] at hop
  rw [efe] at hfe
  rw [eow] at hmo
  have hrtP : hw_rt P := hrt.congr (fun j => h 6 j (by unfold shd; omega))
  have hbdN : bd (pg_N P N i) 4611686018427387904 := fun j => by rw [← (hjN j).2.1]; exact hbd j
  have hmc := mc_inst (P := P) (N := pg_N P N i) (am := P 12 i) (mk := pg_mk P i) hnb hrtP hm (e12.trans ham) hbdN
  have hat : ∀ k, k ≤ hw_ln I i → hw_at I i k < 12 := fun k hk => by have := hwb k hk; omega
  have hta : hw_at I i (hw_pl I i) ≠ hw_at I i (hw_ln I i) := fun e => hdf _ _ hlt (Nat.le_refl _) (by
    rw [(hor.1.2.2 _ (Nat.le_of_lt hlt)).x, (hor.1.2.2 _ (Nat.le_refl _)).x]
    exact congrArg nI e)
  have hlk := (lk_spec hbc hnb hor hdf ⟨m, hm, ham⟩ hrt hbd).2
  have hfs := (find_spec hd hop hfe hmo (hat _ (Nat.le_of_lt hlt)) (hat _ (Nat.le_refl _))).2
  have ht : hw_at P i (hw_ln P i) < nb := by rw [eat, eln]; exact hwb _ (Nat.le_refl _)
  have ha : hw_at P i (hw_pl P i) < nb := by rw [eat, epl]; exact hwb _ (Nat.le_of_lt hlt)
  have et1 : hw_at P i (hw_ln P i) = hw_at I i (hw_ln I i) := by rw [eat, eln]
  have et2 : hw_at P i (hw_pl P i) = hw_at I i (hw_pl I i) := by rw [eat, epl]
  rcases hfs with ⟨a1, a2⟩ | ⟨a1, n, f, p, b1, b2, b3, b4, b5, b6, b7⟩
  · exact Or.inl ⟨a1, pg_far_of hmc hnb horP ht ha (by rw [et1, et2]; exact a2)⟩
  · have hn1 : 1 ≤ n := by
      rcases Nat.eq_zero_or_pos n with q | q
      · subst q; exact absurd (b4.1.symm.trans b4.2.1) hta
      · exact q
    have hnn : n + 1 ≤ nb := b2 nb (fun a ha => ha.1)
    have hqn : hw_pl I i + n < 12 := by
      rcases hlk with q | ⟨_, n', p', q1, q2, _⟩
      · rw [show (sp_lkr I J i).1 = 1 from a1] at q; exact absurd q (by decide)
      · have := (nI_eq (a := n' + 1) (b := n + 1) (by omega) (by omega)).mp (q2.symm.trans b5)
        omega
    obtain ⟨w1, w2, w3⟩ := pg_way_of (N := N) hmc hnb horP ht hn1 (by rw [epl]; exact hqn) hnn (by rw [et1, et2]; exact b3) (by rw [et1, et2]; exact b4)
    refine Or.inr ⟨a1, w1, n, p, hn1, hqn, w2, b5, fun k hk => ?_⟩
    obtain ⟨fk, c1, c2, c3⟩ := b7 k hk
    have hpk : p k < nb := (rl_op c1.1).1
    rw [← et1] at c1
    have := (fws_best hmc hnb ht hpk (by omega) c1).1.1
    refine ⟨by omega, w3 k hk, b6 k hk, fk, c3, c2, ?_⟩
    unfold pg_W
    rw [show P 20 (12 * i + hw_ln P i) = nI (hw_at P i (hw_ln P i)) from (horP.1.2.2 _ (Nat.le_refl _)).x]
    exact this
