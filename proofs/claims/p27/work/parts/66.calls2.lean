/-! each call, by the class and by the model: the rest -/
theorem go_40 (P : MI) (N : MJ) (i nb : Nat) : (pg_go P N i nb).1 40 0 = P 40 0 := by
  have eW : (pg_W P N i nb).1 40 0 = P 40 0 := fws_oth (by decide)
  have eK : pg_K P N i nb 40 0 = P 40 0 := pg_K_oth (by decide) (by decide)
  have eb : ∀ (Q : MI) (X : MJ) q, (pg_bk Q X i q).1 40 0 = Q 40 0 := fun Q X q => ((bk_ints Q X i q).1 40 0).trans (sp_ef_ne (by decide) 0)
  unfold pg_go
  by_cases c1 : 0 ≤ lg_cmp ((pg_W P N i nb).2 5 (hw_at P i (hw_pl P i))) 1000000000000
  · rw [if_pos c1]; exact (eb _ _ _).trans eW
  · rw [if_neg c1]
    by_cases c2 : 0 < lg_cmp ((pg_W P N i nb).2 5 (tn (pg_K P N i nb 43 1))) (P 21 (12 * i + hw_pl P i) - P 12 i).toInt64
    · rw [if_pos c2]; exact (eb _ _ _).trans eK
    · rw [if_neg c2]; exact (lay_oth (by decide) (by decide) (by decide)).trans eK
theorem ff_40 (P : MI) (N : MJ) (x : Int32) (nb no : Nat) : (ps_ff P N x nb no).1 40 0 = P 40 0 := lp_inv (pf_ff x nb) (fun _ σ => σ.1 40 0 = P 40 0) no (fun i σ _ hs => by
  unfold pf_ff
  repeat' split
  · exact hs
  · exact hs
  · exact (go_40 σ.1 σ.2 i nb).trans hs) no 0 (P, N) (by omega) rfl
theorem bw_40 (P : MI) (N : MJ) (x : Int32) (no : Nat) : (pl_bw P N x no).1 40 0 = 0 := lp_inv (pf_bw x) (fun _ σ => σ.1 40 0 = 0) no (fun i σ _ hs => (bw_oth (by decide)).trans hs) no 0 _ (by omega) rfl
set_option maxRecDepth 100000 in
theorem so_breakWord {k nb no nc : Nat} {I : MI} {J : MJ} {P : MI} {N : MJ} {x : Int32} (h : IV k nb no nc I J P N) (hk9 : k ≤ 520) : so k nb no nc (kL_breakWord x) (ps_breakWord P N x nb no).1.toInt64 (nb) (no) (nc) (ps_breakWord P N x nb no).2.1 (ps_breakWord P N x nb no).2.2 I J := by
  have hbc : I 0 0 = nI nb := h.ci.1.1.1
  have hnb : nb ≤ 12 := h.ci.1.1.2
  have hoc : I 1 0 = nI no := h.ci.1.2.1.1
  have hno : no ≤ 40 := h.ci.1.2.1.2
  have hcc : I 2 0 = nI nc := h.ci.1.2.2.1.1
  have hnc : nc ≤ 40 := h.ci.1.2.2.1.2
  have r0 : P 0 0 = I 0 0 := h.ints 0 0 (by unfold shd; omega)
  have r1 : P 1 0 = I 1 0 := h.ints 1 0 (by unfold shd; omega)
  have r2 : P 2 0 = I 2 0 := h.ints 2 0 (by unfold shd; omega)
  have r3 : P 3 0 = I 3 0 := h.ints 3 0 (by unfold shd; omega)
  have rP : ∀ g j, ((5 ≤ g ∧ g ≤ 8) ∨ (12 ≤ g ∧ g ≤ 20) ∨ (22 ≤ g ∧ g ≤ 25) ∨ (28 ≤ g ∧ g ≤ 30)) → P g j = I g j := fun g j hg => h.ints g j (by unfold shd; omega)
  have n0 : ∀ j, N 0 j = J 0 j := fun j => (h.debts j).1.symm
  have n1 : ∀ j, N 1 j = J 1 j := fun j => (h.debts j).2.1.symm
  have n2 : ∀ j, N 2 j = J 2 j := fun j => (h.debts j).2.2.symm
  obtain ⟨v1, v2, v3⟩ := v_breakWord (x := x) h (by omega)
  rcases ix_cs (x := x) hbc (by omega) with ⟨a1, a2, a3, a4⟩ | ⟨a1, a2⟩
  · have u1 : P 7 (tn x) = I 7 (tn x) := rP 7 _ (by omega)
    by_cases c1 : I 7 (tn x) = 2
    · have q9 : ps_breakWord P N x nb no = (0, uI P 40 0 2, N) := by simp [ps_breakWord, r0, a2, u1, c1]
      rw [q9]
      exact Or.inl ⟨ne40 (P := P) (v := 2) (by decide), ⟨I, t_L_breakWord_eS h.ci (by omega) (by simp [e_breakWord, hx_or, a1, sx_st, c1]), h.th 2⟩, h.th 2⟩
    · have q9 : ps_breakWord P N x nb no = (nI (pl_bw P N x no).2.2, ps_ff (pl_bw P N x no).1 (pl_bw P N x no).2.1 x nb no) := by simp [ps_breakWord, r0, a2, u1, c1]
      rw [q9]
      exact Or.inr ⟨(ff_40 _ _ _ _ _).trans (bw_40 P N x no), (s_breakWord I J x no).1, (s_breakWord I J x no).2, _, n_L_breakWord h.ci (by omega) (by simp [e_breakWord, hx_or, sx_st, a1, c1]), (by rw [v2]), v3⟩
  · have q9 : ps_breakWord P N x nb no = (0, uI P 40 0 1, N) := by simp [ps_breakWord, r0, a2]
    rw [q9]
    exact Or.inl ⟨ne40 (P := P) (v := 1) (by decide), ⟨I, t_L_breakWord_eI h.ci (by omega) (by simp [e_breakWord, hx_or, a1]), h.th 1⟩, h.th 1⟩
set_option maxRecDepth 100000 in
theorem so_raid {k nb no nc : Nat} {I : MI} {J : MJ} {P : MI} {N : MJ} {x : Int32} (h : IV k nb no nc I J P N) (hk9 : k ≤ 520) : so k nb no nc (kL_raid x) (ps_raid P N x nb no).1.toInt64 (nb) (no) (nc) (ps_raid P N x nb no).2.1 (ps_raid P N x nb no).2.2 I J := by
  have hbc : I 0 0 = nI nb := h.ci.1.1.1
  have hnb : nb ≤ 12 := h.ci.1.1.2
  have hoc : I 1 0 = nI no := h.ci.1.2.1.1
  have hno : no ≤ 40 := h.ci.1.2.1.2
  have hcc : I 2 0 = nI nc := h.ci.1.2.2.1.1
  have hnc : nc ≤ 40 := h.ci.1.2.2.1.2
  have r0 : P 0 0 = I 0 0 := h.ints 0 0 (by unfold shd; omega)
  have r1 : P 1 0 = I 1 0 := h.ints 1 0 (by unfold shd; omega)
  have r2 : P 2 0 = I 2 0 := h.ints 2 0 (by unfold shd; omega)
  have r3 : P 3 0 = I 3 0 := h.ints 3 0 (by unfold shd; omega)
  have rP : ∀ g j, ((5 ≤ g ∧ g ≤ 8) ∨ (12 ≤ g ∧ g ≤ 20) ∨ (22 ≤ g ∧ g ≤ 25) ∨ (28 ≤ g ∧ g ≤ 30)) → P g j = I g j := fun g j hg => h.ints g j (by unfold shd; omega)
  have n0 : ∀ j, N 0 j = J 0 j := fun j => (h.debts j).1.symm
  have n1 : ∀ j, N 1 j = J 1 j := fun j => (h.debts j).2.1.symm
  have n2 : ∀ j, N 2 j = J 2 j := fun j => (h.debts j).2.2.symm
  obtain ⟨v1, v2, v3⟩ := v_raid (x := x) h (by omega)
  rcases ix_cs (x := x) hbc (by omega) with ⟨a1, a2, a3, a4⟩ | ⟨a1, a2⟩
  · have u1 : P 7 (tn x) = I 7 (tn x) := rP 7 _ (by omega)
    by_cases c1 : I 7 (tn x) = 0
    · have q9 : ps_raid P N x nb no = ((N 0 (tn x)).toInt32, ps_ff (pp_raid P x) (pj_raid N x) x nb no) := by simp [ps_raid, r0, a2, u1, c1]
      rw [q9]
      exact Or.inr ⟨(ff_40 _ _ _ _ _).trans rfl, (s_raid I J x no).1, (s_raid I J x no).2, _, n_L_raid h.ci (by omega) (by simp [e_raid, hx_or, sx_st, hb, a1, c1]), (by rw [v2]), v3⟩
    · have q9 : ps_raid P N x nb no = (0, uI P 40 0 2, N) := by simp [ps_raid, r0, a2, u1, c1]
      rw [q9]
      exact Or.inl ⟨ne40 (P := P) (v := 2) (by decide), ⟨I, t_L_raid_eS h.ci (by omega) (by simp [e_raid, hx_or, a1, sx_st, hb, c1]), h.th 2⟩, h.th 2⟩
  · have q9 : ps_raid P N x nb no = (0, uI P 40 0 1, N) := by simp [ps_raid, r0, a2]
    rw [q9]
    exact Or.inl ⟨ne40 (P := P) (v := 1) (by decide), ⟨I, t_L_raid_eI h.ci (by omega) (by simp [e_raid, hx_or, a1]), h.th 1⟩, h.th 1⟩
set_option maxRecDepth 100000 in
theorem so_fetch {k nb no nc : Nat} {I : MI} {J : MJ} {P : MI} {N : MJ} {x y : Int32} (h : IV k nb no nc I J P N) (hk9 : k ≤ 520) : so k nb no nc (kL_fetch x y) (ps_fetch P N x y).1.toInt64 (nb) (no) (nc) (ps_fetch P N x y).2.1 (ps_fetch P N x y).2.2 I J := by
  have hbc : I 0 0 = nI nb := h.ci.1.1.1
  have hnb : nb ≤ 12 := h.ci.1.1.2
  have hoc : I 1 0 = nI no := h.ci.1.2.1.1
  have hno : no ≤ 40 := h.ci.1.2.1.2
  have hcc : I 2 0 = nI nc := h.ci.1.2.2.1.1
  have hnc : nc ≤ 40 := h.ci.1.2.2.1.2
  have r0 : P 0 0 = I 0 0 := h.ints 0 0 (by unfold shd; omega)
  have r1 : P 1 0 = I 1 0 := h.ints 1 0 (by unfold shd; omega)
  have r2 : P 2 0 = I 2 0 := h.ints 2 0 (by unfold shd; omega)
  have r3 : P 3 0 = I 3 0 := h.ints 3 0 (by unfold shd; omega)
  have rP : ∀ g j, ((5 ≤ g ∧ g ≤ 8) ∨ (12 ≤ g ∧ g ≤ 20) ∨ (22 ≤ g ∧ g ≤ 25) ∨ (28 ≤ g ∧ g ≤ 30)) → P g j = I g j := fun g j hg => h.ints g j (by unfold shd; omega)
  have n0 : ∀ j, N 0 j = J 0 j := fun j => (h.debts j).1.symm
  have n1 : ∀ j, N 1 j = J 1 j := fun j => (h.debts j).2.1.symm
  have n2 : ∀ j, N 2 j = J 2 j := fun j => (h.debts j).2.2.symm
  rcases ix_cs (x := x) hoc (by omega) with ⟨a1, a2, a3, a4⟩ | ⟨a1, a2⟩
  · rcases rg_cs y 0 9999 with ⟨p1, p2⟩ | ⟨p1, p2⟩
    · have eb : tn (P 20 (12 * tn x + hw_ln P (tn x))) = (hw_at I (tn x) (hw_ln I (tn x))) := by unfold hw_at; rw [ln_eq h.ints, rP 20 _ (by omega)]
      have u16 : P 16 (tn x) = I 16 (tn x) := rP 16 _ (by omega)
      have u12 : P 12 (tn x) = I 12 (tn x) := rP 12 _ (by omega)
      have u7 : P 7 (hw_at I (tn x) (hw_ln I (tn x))) = I 7 (hw_at I (tn x) (hw_ln I (tn x))) := rP 7 _ (by omega)
      by_cases h1 : I 16 (tn x) = 1
      · by_cases c2 : I 7 (hw_at I (tn x) (hw_ln I (tn x))) = 0
        · by_cases c3 : lg_cmp (J 0 (hw_at I (tn x) (hw_ln I (tn x)))) (I 12 (tn x)).toInt64 < 0
          · have q9 : ps_fetch P N x y = (0, uI P 40 0 3, N) := by simp [ps_fetch, r1, a2, p2, u16, h1, eb, u7, c2, n0, u12, c3]
            rw [q9]
            exact Or.inl ⟨ne40 (P := P) (v := 3) (by decide), ⟨I, t_L_fetch_eS h.ci (by simp [e_fetch, hx_or, sx_st, hb, a1, p1, h1, c2, c3]), h.th 3⟩, h.th 3⟩
          · obtain ⟨f, f1, f2⟩ := h.2.2.2.2 (tn x) a4 (Or.inr h1)
            have ew : e_fetch I J x y = none := by simp [e_fetch, hx_or, sx_st, hb, a1, p1, h1, c2, c3]
            have w9 := n_L_fetch (I := I) (J := J) h.ci ew
            have eln : hw_ln P (tn x) = hw_ln I (tn x) := ln_eq h.ints _
            by_cases d1 : y = I 13 (tn x)
            · have d2 : y = P 13 (tn x) := d1.trans (rP 13 _ (by omega)).symm
              have q9 : ps_fetch P N x y = (2, uI (uI P 40 0 0) 16 (tn x) 2, uJ (uJ N 0 (hw_at I (tn x) (hw_ln I (tn x))) (N 0 (hw_at I (tn x) (hw_ln I (tn x))) - (I 12 (tn x)).toInt64)) 4 1 (N 4 1 + (I 12 (tn x)).toInt64)) := by unfold ps_fetch; rw [if_neg (by rw [r1]; exact a2), if_neg p2, if_neg (fun z => z (u16.trans h1)), eb, if_neg (fun z => z (u7.trans c2)), n0, u12, if_neg c3, if_pos d2, ← n0]
              have q8 : s_fetch I J x y = (2, uI I 16 (tn x) 2, uJ J 0 (hw_at I (tn x) (hw_ln I (tn x))) (J 0 (hw_at I (tn x) (hw_ln I (tn x))) - (I 12 (tn x)).toInt64)) := if_pos d1
              rw [q9]
              rw [q8] at w9
              exact Or.inr ⟨rfl, uI I 16 (tn x) 2, uJ J 0 (hw_at I (tn x) (hw_ln I (tn x))) (J 0 (hw_at I (tn x) (hw_ln I (tn x))) - (I 12 (tn x)).toInt64), _, w9, (rfl), v_fetch_a h a4 h1 c3⟩
            · have d2 : ¬ y = P 13 (tn x) := fun z => d1 (z.trans (rP 13 _ (by omega)))
              have e18 : P 18 (tn x) = I 18 (tn x) := rP 18 _ (by omega)
              have i18 : i_fetch I x 18 (tn x) = nI (f + 1) := by
                have e9 : i_fetch I x 18 (tn x) = I 18 (tn x) + 1 := if_pos ⟨rfl, rfl⟩
                rw [e9, f2, nI_1]
              have p18 : pp_fetch P x 18 (tn x) = nI (f + 1) := by
                have e9 : pp_fetch P x 18 (tn x) = P 18 (tn x) + 1 := if_pos ⟨rfl, rfl⟩
                rw [e9, e18, f2, nI_1]
              have e9 : I 18 (tn x) + 1 = nI (f + 1) := by rw [f2, nI_1]
              have eI : i_fetch I x = uI I 18 (tn x) (nI (f + 1)) := by unfold i_fetch; rw [e9]
              have eP : pp_fetch P x = uI (uI P 40 0 0) 18 (tn x) (nI (f + 1)) := by unfold pp_fetch; rw [e18, e9]
              by_cases g1 : f = 2
              · have g2 : ¬ i_fetch I x 18 (tn x) < 3 := by rw [i18, g1]; decide
                have g3 : ¬ ¬ pp_fetch P x 18 (tn x) = 3 := fun z => z (by rw [p18, g1]; rfl)
                have q9 : ps_fetch P N x y = (sp_ef (pp_fetch P x) (tn x) 16 (tn x), sp_ef (pp_fetch P x) (tn x), lp (pf_tb (pp_fetch P x) (tn x)) (hw_ln P (tn x) - 0) 0 N) := by unfold ps_fetch; rw [if_neg (by rw [r1]; exact a2), if_neg p2, if_neg (fun z => z (u16.trans h1)), eb, if_neg (fun z => z (u7.trans c2)), n0, u12, if_neg c3, if_neg d2, if_neg g3]
                have q8 : s_fetch I J x y = (sp_ef (i_fetch I x) (tn x) 16 (tn x), sp_ef (i_fetch I x) (tn x), lp (sf_tb (i_fetch I x) (tn x)) (hw_ln I (tn x) - 0) 0 J) := (if_neg d1).trans (if_neg g2)
                rw [q9, eP, eln, Nat.sub_zero]
                rw [q8, eI, Nat.sub_zero] at w9
                have v9 := v_fetch_c (nI (f + 1)) h (by omega) a4 h1
                have e16 : sp_ef (uI (uI P 40 0 0) 18 (tn x) (nI (f + 1))) (tn x) 16 (tn x) = sp_ef (uI I 18 (tn x) (nI (f + 1))) (tn x) 16 (tn x) := v9.ints 16 _ (by unfold shd; omega)
                exact Or.inr ⟨rfl, _, _, _, w9, (by rw [e16]), v9⟩
              · have g2 : i_fetch I x 18 (tn x) < 3 := by rw [i18]; exact nI_lt (b := 3) (by omega) (by omega)
                have g3 : ¬ pp_fetch P x 18 (tn x) = 3 := fun z => by rw [p18] at z; have := (nI_eq (b := 3) (by omega) (by omega)).mp z; omega
                have q9 : ps_fetch P N x y = (P 16 (tn x), pp_fetch P x, N) := by unfold ps_fetch; rw [if_neg (by rw [r1]; exact a2), if_neg p2, if_neg (fun z => z (u16.trans h1)), eb, if_neg (fun z => z (u7.trans c2)), n0, u12, if_neg c3, if_neg d2, if_pos g3]
                have q8 : s_fetch I J x y = (I 16 (tn x), i_fetch I x, J) := (if_neg d1).trans (if_pos g2)
                rw [q9, eP]
                rw [q8, eI] at w9
                exact Or.inr ⟨rfl, _, _, _, w9, (by rw [u16]), v_fetch_b h a4 rfl (by omega)⟩
        · have q9 : ps_fetch P N x y = (0, uI P 40 0 3, N) := by simp [ps_fetch, r1, a2, p2, u16, h1, eb, u7, c2]
          rw [q9]
          exact Or.inl ⟨ne40 (P := P) (v := 3) (by decide), ⟨I, t_L_fetch_eS h.ci (by simp [e_fetch, hx_or, sx_st, hb, a1, p1, h1, c2]), h.th 3⟩, h.th 3⟩
      · have q9 : ps_fetch P N x y = (0, uI P 40 0 3, N) := by simp [ps_fetch, r1, a2, p2, u16, h1]
        rw [q9]
        exact Or.inl ⟨ne40 (P := P) (v := 3) (by decide), ⟨I, t_L_fetch_eS h.ci (by simp [e_fetch, hx_or, sx_st, hb, a1, p1, h1]), h.th 3⟩, h.th 3⟩
    · have q9 : ps_fetch P N x y = (0, uI P 40 0 2, N) := by simp [ps_fetch, r1, a2, p2]
      rw [q9]
      exact Or.inl ⟨ne40 (P := P) (v := 2) (by decide), ⟨I, t_L_fetch_eA h.ci (by simp [e_fetch, hx_or, a1, p1]), h.th 2⟩, h.th 2⟩
  · have q9 : ps_fetch P N x y = (0, uI P 40 0 1, N) := by simp [ps_fetch, r1, a2]
    rw [q9]
    exact Or.inl ⟨ne40 (P := P) (v := 1) (by decide), ⟨I, t_L_fetch_eI h.ci (by simp [e_fetch, hx_or, a1]), h.th 1⟩, h.th 1⟩
set_option maxRecDepth 100000 in
theorem so_brokerOf {k nb no nc : Nat} {I : MI} {J : MJ} {P : MI} {N : MJ} {x y : Int32} (h : IV k nb no nc I J P N) (hk9 : k ≤ 520) : so k nb no nc (kL_brokerOf x y) (ps_brokerOf P N x y nb).1 (nb) (no) (nc) (ps_brokerOf P N x y nb).2.1 (ps_brokerOf P N x y nb).2.2 I J := by
  have hbc : I 0 0 = nI nb := h.ci.1.1.1
  have hnb : nb ≤ 12 := h.ci.1.1.2
  have hoc : I 1 0 = nI no := h.ci.1.2.1.1
  have hno : no ≤ 40 := h.ci.1.2.1.2
  have hcc : I 2 0 = nI nc := h.ci.1.2.2.1.1
  have hnc : nc ≤ 40 := h.ci.1.2.2.1.2
  have r0 : P 0 0 = I 0 0 := h.ints 0 0 (by unfold shd; omega)
  have r1 : P 1 0 = I 1 0 := h.ints 1 0 (by unfold shd; omega)
  have r2 : P 2 0 = I 2 0 := h.ints 2 0 (by unfold shd; omega)
  have r3 : P 3 0 = I 3 0 := h.ints 3 0 (by unfold shd; omega)
  have rP : ∀ g j, ((5 ≤ g ∧ g ≤ 8) ∨ (12 ≤ g ∧ g ≤ 20) ∨ (22 ≤ g ∧ g ≤ 25) ∨ (28 ≤ g ∧ g ≤ 30)) → P g j = I g j := fun g j hg => h.ints g j (by unfold shd; omega)
  have n0 : ∀ j, N 0 j = J 0 j := fun j => (h.debts j).1.symm
  have n1 : ∀ j, N 1 j = J 1 j := fun j => (h.debts j).2.1.symm
  have n2 : ∀ j, N 2 j = J 2 j := fun j => (h.debts j).2.2.symm
  rcases ix_cs (x := x) hbc (by omega) with ⟨a1, a2, a3, a4⟩ | ⟨a1, a2⟩
  · rcases rg_cs y 0 3 with ⟨p1, p2⟩ | ⟨p1, p2⟩
    · have e9 : lp (sf_wo N (tn x)) nb 0 (J 0 (tn x)) = lp (sf_wo J (tn x)) nb 0 (J 0 (tn x)) := lp_eq (hi := nb) (fun i s _ => by unfold sf_wo; rw [n1]) nb 0 _ (by omega)
      have q9 : ps_brokerOf P N x y nb = (r_brokerOf I J x y nb, uI P 40 0 0, N) := by
        unfold ps_brokerOf r_brokerOf
        rw [if_neg (by rw [r0]; exact a2), if_neg p2]
        by_cases c0 : y = 0
        · rw [if_neg (fun z => z c0), if_pos c0, rP 7 _ (by omega)]
        rw [if_pos c0, if_neg c0]
        by_cases c1 : y = 1
        · rw [if_neg (fun z => z c1), if_pos c1, n0]
        rw [if_pos c1, if_neg c1]
        by_cases c2 : y = 2
        · rw [if_neg (fun z => z c2), if_pos c2, rP 5 _ (by omega)]
        rw [if_pos c2, if_neg c2, n0, e9]
      rw [q9]
      exact Or.inr ⟨rfl, I, J, _, n_L_brokerOf h.ci (by simp [e_brokerOf, hx_or, a1, p1]), (rfl), h.th 0⟩
    · have q9 : ps_brokerOf P N x y nb = (0, uI P 40 0 2, N) := by simp [ps_brokerOf, r0, a2, p2]
      rw [q9]
      exact Or.inl ⟨ne40 (P := P) (v := 2) (by decide), ⟨I, t_L_brokerOf_eA h.ci (by simp [e_brokerOf, hx_or, a1, p1]), h.th 2⟩, h.th 2⟩
  · have q9 : ps_brokerOf P N x y nb = (0, uI P 40 0 1, N) := by simp [ps_brokerOf, r0, a2]
    rw [q9]
    exact Or.inl ⟨ne40 (P := P) (v := 1) (by decide), ⟨I, t_L_brokerOf_eI h.ci (by simp [e_brokerOf, hx_or, a1]), h.th 1⟩, h.th 1⟩
set_option maxRecDepth 100000 in
theorem so_debt {k nb no nc : Nat} {I : MI} {J : MJ} {P : MI} {N : MJ} {x y z : Int32} (h : IV k nb no nc I J P N) (hk9 : k ≤ 520) : so k nb no nc (kL_debt x y z) (ps_debt P N x y z).1 (nb) (no) (nc) (ps_debt P N x y z).2.1 (ps_debt P N x y z).2.2 I J := by
  have hbc : I 0 0 = nI nb := h.ci.1.1.1
  have hnb : nb ≤ 12 := h.ci.1.1.2
  have hoc : I 1 0 = nI no := h.ci.1.2.1.1
  have hno : no ≤ 40 := h.ci.1.2.1.2
  have hcc : I 2 0 = nI nc := h.ci.1.2.2.1.1
  have hnc : nc ≤ 40 := h.ci.1.2.2.1.2
  have r0 : P 0 0 = I 0 0 := h.ints 0 0 (by unfold shd; omega)
  have r1 : P 1 0 = I 1 0 := h.ints 1 0 (by unfold shd; omega)
  have r2 : P 2 0 = I 2 0 := h.ints 2 0 (by unfold shd; omega)
  have r3 : P 3 0 = I 3 0 := h.ints 3 0 (by unfold shd; omega)
  have rP : ∀ g j, ((5 ≤ g ∧ g ≤ 8) ∨ (12 ≤ g ∧ g ≤ 20) ∨ (22 ≤ g ∧ g ≤ 25) ∨ (28 ≤ g ∧ g ≤ 30)) → P g j = I g j := fun g j hg => h.ints g j (by unfold shd; omega)
  have n0 : ∀ j, N 0 j = J 0 j := fun j => (h.debts j).1.symm
  have n1 : ∀ j, N 1 j = J 1 j := fun j => (h.debts j).2.1.symm
  have n2 : ∀ j, N 2 j = J 2 j := fun j => (h.debts j).2.2.symm
  rcases ix_cs (x := x) hbc (by omega) with ⟨a1, a2, a3, a4⟩ | ⟨a1, a2⟩
  · rcases ix_cs (x := y) hbc (by omega) with ⟨p1, p2, p3, p4⟩ | ⟨p1, p2⟩
    · have a9 : ¬ sx_br2 P x y = 0 := by unfold sx_br2; rw [r0, if_neg a2, if_neg p2]; decide
      have q9 : ps_debt P N x y z = (r_debt J x y z, uI P 40 0 0, N) := by
        unfold ps_debt r_debt
        rw [if_neg a9]
        by_cases c0 : z = 0
        · rw [if_pos c0, if_pos c0, n1]
        · rw [if_neg c0, if_neg c0, n2]
      rw [q9]
      exact Or.inr ⟨rfl, I, J, _, n_L_debt h.ci (by simp [e_debt, hx_or, a1, p1]), (rfl), h.th 0⟩
    · have a9 : sx_br2 P x y = 0 := by unfold sx_br2; rw [r0, if_neg a2, if_pos p2]
      have q9 : ps_debt P N x y z = (0, uI P 40 0 1, N) := by simp [ps_debt, a9]
      rw [q9]
      exact Or.inl ⟨ne40 (P := P) (v := 1) (by decide), ⟨I, t_L_debt_eI h.ci (by simp [e_debt, hx_or, a1, p1]), h.th 1⟩, h.th 1⟩
  · have a9 : sx_br2 P x y = 0 := by unfold sx_br2; rw [r0, if_pos a2]
    have q9 : ps_debt P N x y z = (0, uI P 40 0 1, N) := by simp [ps_debt, a9]
    rw [q9]
    exact Or.inl ⟨ne40 (P := P) (v := 1) (by decide), ⟨I, t_L_debt_eI h.ci (by simp [e_debt, hx_or, a1]), h.th 1⟩, h.th 1⟩
set_option maxRecDepth 100000 in
set_option maxRecDepth 100000 in
theorem so_wayOf {k nb no nc : Nat} {I : MI} {J : MJ} {P : MI} {N : MJ} {x y : Int32} (h : IV k nb no nc I J P N) (hk9 : k ≤ 520) : so k nb no nc (kL_wayOf x y) (ps_wayOf P N x y).1.toInt64 (nb) (no) (nc) (ps_wayOf P N x y).2.1 (ps_wayOf P N x y).2.2 I J := by
  have hbc : I 0 0 = nI nb := h.ci.1.1.1
  have hnb : nb ≤ 12 := h.ci.1.1.2
  have hoc : I 1 0 = nI no := h.ci.1.2.1.1
  have hno : no ≤ 40 := h.ci.1.2.1.2
  have hcc : I 2 0 = nI nc := h.ci.1.2.2.1.1
  have hnc : nc ≤ 40 := h.ci.1.2.2.1.2
  have r0 : P 0 0 = I 0 0 := h.ints 0 0 (by unfold shd; omega)
  have r1 : P 1 0 = I 1 0 := h.ints 1 0 (by unfold shd; omega)
  have r2 : P 2 0 = I 2 0 := h.ints 2 0 (by unfold shd; omega)
  have r3 : P 3 0 = I 3 0 := h.ints 3 0 (by unfold shd; omega)
  have rP : ∀ g j, ((5 ≤ g ∧ g ≤ 8) ∨ (12 ≤ g ∧ g ≤ 20) ∨ (22 ≤ g ∧ g ≤ 25) ∨ (28 ≤ g ∧ g ≤ 30)) → P g j = I g j := fun g j hg => h.ints g j (by unfold shd; omega)
  have n0 : ∀ j, N 0 j = J 0 j := fun j => (h.debts j).1.symm
  have n1 : ∀ j, N 1 j = J 1 j := fun j => (h.debts j).2.1.symm
  have n2 : ∀ j, N 2 j = J 2 j := fun j => (h.debts j).2.2.symm
  rcases ix_cs (x := x) hoc (by omega) with ⟨a1, a2, a3, a4⟩ | ⟨a1, a2⟩
  · rcases pl_cs y with ⟨p1, p2, p3⟩ | ⟨p1, p2⟩
    · have q9 : ps_wayOf P N x y = (r_wayOf I x y, uI P 40 0 0, N) := by
        unfold ps_wayOf r_wayOf
        rw [if_neg (by rw [r1]; exact a2), if_neg p2, rP 19 _ (by omega), rP 20 _ (by omega)]
        by_cases c0 : I 19 (tn x) ≤ y
        · rw [if_pos c0, if_pos c0]
        · rw [if_neg c0, if_neg c0]
      rw [q9]
      exact Or.inr ⟨rfl, I, J, _, n_L_wayOf h.ci (by simp [e_wayOf, hx_or, a1, p1]), (rfl), h.th 0⟩
    · have q9 : ps_wayOf P N x y = (0, uI P 40 0 1, N) := by simp [ps_wayOf, r1, a2, p2]
      rw [q9]
      exact Or.inl ⟨ne40 (P := P) (v := 1) (by decide), ⟨I, t_L_wayOf_eI h.ci (by simp [e_wayOf, hx_or, a1, p1]), h.th 1⟩, h.th 1⟩
  · have q9 : ps_wayOf P N x y = (0, uI P 40 0 1, N) := by simp [ps_wayOf, r1, a2]
    rw [q9]
    exact Or.inl ⟨ne40 (P := P) (v := 1) (by decide), ⟨I, t_L_wayOf_eI h.ci (by simp [e_wayOf, hx_or, a1]), h.th 1⟩, h.th 1⟩
set_option maxRecDepth 100000 in
theorem so_orderOf {k nb no nc : Nat} {I : MI} {J : MJ} {P : MI} {N : MJ} {x y : Int32} (h : IV k nb no nc I J P N) (hk9 : k ≤ 520) : so k nb no nc (kL_orderOf x y) (ps_orderOf P N x y).1.toInt64 (nb) (no) (nc) (ps_orderOf P N x y).2.1 (ps_orderOf P N x y).2.2 I J := by
  have hbc : I 0 0 = nI nb := h.ci.1.1.1
  have hnb : nb ≤ 12 := h.ci.1.1.2
  have hoc : I 1 0 = nI no := h.ci.1.2.1.1
  have hno : no ≤ 40 := h.ci.1.2.1.2
  have hcc : I 2 0 = nI nc := h.ci.1.2.2.1.1
  have hnc : nc ≤ 40 := h.ci.1.2.2.1.2
  have r0 : P 0 0 = I 0 0 := h.ints 0 0 (by unfold shd; omega)
  have r1 : P 1 0 = I 1 0 := h.ints 1 0 (by unfold shd; omega)
  have r2 : P 2 0 = I 2 0 := h.ints 2 0 (by unfold shd; omega)
  have r3 : P 3 0 = I 3 0 := h.ints 3 0 (by unfold shd; omega)
  have rP : ∀ g j, ((5 ≤ g ∧ g ≤ 8) ∨ (12 ≤ g ∧ g ≤ 20) ∨ (22 ≤ g ∧ g ≤ 25) ∨ (28 ≤ g ∧ g ≤ 30)) → P g j = I g j := fun g j hg => h.ints g j (by unfold shd; omega)
  have n0 : ∀ j, N 0 j = J 0 j := fun j => (h.debts j).1.symm
  have n1 : ∀ j, N 1 j = J 1 j := fun j => (h.debts j).2.1.symm
  have n2 : ∀ j, N 2 j = J 2 j := fun j => (h.debts j).2.2.symm
  rcases ix_cs (x := x) hoc (by omega) with ⟨a1, a2, a3, a4⟩ | ⟨a1, a2⟩
  · rcases rg_cs y 0 5 with ⟨p1, p2⟩ | ⟨p1, p2⟩
    · have q9 : ps_orderOf P N x y = (r_orderOf I x y, uI P 40 0 0, N) := by
        unfold ps_orderOf pr_orderOf r_orderOf
        rw [if_neg (by rw [r1]; exact a2), if_neg p2, rP 16 _ (by omega), rP 12 _ (by omega), rP 14 _ (by omega), rP 17 _ (by omega), rP 18 _ (by omega), rP 15 _ (by omega)]
      rw [q9]
      exact Or.inr ⟨rfl, I, J, _, n_L_orderOf h.ci (by simp [e_orderOf, hx_or, a1, p1]), (rfl), h.th 0⟩
    · have q9 : ps_orderOf P N x y = (0, uI P 40 0 2, N) := by simp [ps_orderOf, r1, a2, p2]
      rw [q9]
      exact Or.inl ⟨ne40 (P := P) (v := 2) (by decide), ⟨I, t_L_orderOf_eA h.ci (by simp [e_orderOf, hx_or, a1, p1]), h.th 2⟩, h.th 2⟩
  · have q9 : ps_orderOf P N x y = (0, uI P 40 0 1, N) := by simp [ps_orderOf, r1, a2]
    rw [q9]
    exact Or.inl ⟨ne40 (P := P) (v := 1) (by decide), ⟨I, t_L_orderOf_eI h.ci (by simp [e_orderOf, hx_or, a1]), h.th 1⟩, h.th 1⟩
set_option maxRecDepth 100000 in
theorem so_sum {k nb no nc : Nat} {I : MI} {J : MJ} {P : MI} {N : MJ} {x : Int32} (h : IV k nb no nc I J P N) (hk9 : k ≤ 520) : so k nb no nc (kL_sum x) (ps_sum P N x nb no nc).1 (nb) (no) (nc) (ps_sum P N x nb no nc).2.1 (ps_sum P N x nb no nc).2.2 I J := by
  have hbc : I 0 0 = nI nb := h.ci.1.1.1
  have hnb : nb ≤ 12 := h.ci.1.1.2
  have hoc : I 1 0 = nI no := h.ci.1.2.1.1
  have hno : no ≤ 40 := h.ci.1.2.1.2
  have hcc : I 2 0 = nI nc := h.ci.1.2.2.1.1
  have hnc : nc ≤ 40 := h.ci.1.2.2.1.2
  have r0 : P 0 0 = I 0 0 := h.ints 0 0 (by unfold shd; omega)
  have r1 : P 1 0 = I 1 0 := h.ints 1 0 (by unfold shd; omega)
  have r2 : P 2 0 = I 2 0 := h.ints 2 0 (by unfold shd; omega)
  have r3 : P 3 0 = I 3 0 := h.ints 3 0 (by unfold shd; omega)
  have rP : ∀ g j, ((5 ≤ g ∧ g ≤ 8) ∨ (12 ≤ g ∧ g ≤ 20) ∨ (22 ≤ g ∧ g ≤ 25) ∨ (28 ≤ g ∧ g ≤ 30)) → P g j = I g j := fun g j hg => h.ints g j (by unfold shd; omega)
  have n0 : ∀ j, N 0 j = J 0 j := fun j => (h.debts j).1.symm
  have n1 : ∀ j, N 1 j = J 1 j := fun j => (h.debts j).2.1.symm
  have n2 : ∀ j, N 2 j = J 2 j := fun j => (h.debts j).2.2.symm
  rcases rg_cs x 0 7 with ⟨p1, p2⟩ | ⟨p1, p2⟩
  · have q9 : ps_sum P N x nb no nc = (r_sum I J x nb no nc, uI P 40 0 0, N) := by unfold ps_sum; rw [if_neg p2, sum_same h x]
    rw [q9]
    exact Or.inr ⟨rfl, I, J, _, n_L_sum h.ci (by simp [e_sum, p1]), (rfl), h.th 0⟩
  · have q9 : ps_sum P N x nb no nc = (0, uI P 40 0 1, N) := by simp [ps_sum, p2]
    rw [q9]
    exact Or.inl ⟨ne40 (P := P) (v := 1) (by decide), ⟨I, t_L_sum_eA h.ci (by simp [e_sum, hx_or, p1]), h.th 1⟩, h.th 1⟩
theorem tn_lt (x : Int32) : tn x < 2 ^ 31 := by
  have := Int32.toInt_lt x
  show x.toInt.toNat < 2 ^ 31
  omega
set_option maxRecDepth 100000 in
theorem so_way {k nb no nc : Nat} {I : MI} {J : MJ} {P : MI} {N : MJ} {x y z w : Int32} (h : IV k nb no nc I J P N) (hk9 : k ≤ 520) : so k nb no nc (kL_way x y z w) (ps_way P N x y z w nb).1.toInt64 (nb) (no) (nc) (ps_way P N x y z w nb).2.1 (ps_way P N x y z w nb).2.2 I J := by
  have hbc : I 0 0 = nI nb := h.ci.1.1.1
  have hnb : nb ≤ 12 := h.ci.1.1.2
  have hoc : I 1 0 = nI no := h.ci.1.2.1.1
  have hno : no ≤ 40 := h.ci.1.2.1.2
  have hcc : I 2 0 = nI nc := h.ci.1.2.2.1.1
  have hnc : nc ≤ 40 := h.ci.1.2.2.1.2
  have r0 : P 0 0 = I 0 0 := h.ints 0 0 (by unfold shd; omega)
  have r1 : P 1 0 = I 1 0 := h.ints 1 0 (by unfold shd; omega)
  have r2 : P 2 0 = I 2 0 := h.ints 2 0 (by unfold shd; omega)
  have r3 : P 3 0 = I 3 0 := h.ints 3 0 (by unfold shd; omega)
  have rP : ∀ g j, ((5 ≤ g ∧ g ≤ 8) ∨ (12 ≤ g ∧ g ≤ 20) ∨ (22 ≤ g ∧ g ≤ 25) ∨ (28 ≤ g ∧ g ≤ 30)) → P g j = I g j := fun g j hg => h.ints g j (by unfold shd; omega)
  have n0 : ∀ j, N 0 j = J 0 j := fun j => (h.debts j).1.symm
  have n1 : ∀ j, N 1 j = J 1 j := fun j => (h.debts j).2.1.symm
  have n2 : ∀ j, N 2 j = J 2 j := fun j => (h.debts j).2.2.symm
  rcases pl_cs w with ⟨w1, w2, w3⟩ | ⟨w1, w2⟩
  · rcases two_cs (x := x) (y := y) hbc r0 hnb with ⟨a1, a2, a3, a4, a5, a6⟩ | ⟨a1, a2⟩ | ⟨a1, a2, a3⟩
    · rcases rg_cs z 1 1000000 with ⟨p1, p2⟩ | ⟨p1, p2⟩
      · obtain ⟨b1, b2, b3⟩ := sx_rg_1 (n := 1000000) (by decide) (by decide) p1
        have ew : e_way I x y z w = none := by simp [e_way, hx_or, w1, a1, p1]
        have w9 := n_L_way (I := I) (J := J) h.ci (by omega) ew
        have hbd : bd J 4611686018427387904 := h.ci.2.2.2.mono (by omega)
        have h0 := h.th0 0
        have fs := fw_spec (a := tn x) (b := tn y) (z := tn z) hbc hnb (by omega) (by omega) a6 b3 h.ci.2.2.1 hbd
        have ow := order_ways (x := x) (y := y) (z := tn z) h0.ints h.2.1.2.1 h.debts hbc hnb h.ci.2.2.1 hbd a4.2 a5.1 a5.2 a6 b3
        rw [← b1] at fs ow
        have oK := fs.1
        have eW1 : ∀ g j, g ≠ 42 → (po_W (uI P 40 0 0) N y z nb).1 g j = (uI P 40 0 0) g j := fun g j hg => fws_oth hg
        have eW2 : ∀ g j, g ≠ 5 → (po_W (uI P 40 0 0) N y z nb).2 g j = N g j := fun g j hg => fws_N hg
        have e40 : ∀ g j, g ≠ 40 → (uI P 40 0 0) g j = P g j := fun g j hg => if_neg (fun z => hg z.1)
        rcases ow with ⟨f1, f2⟩ | ⟨f1, f2, n, p, g1, g2, g3, g4, g5⟩
        · skip
          have q9 : ps_way P N x y z w nb = (-1, (po_W (uI P 40 0 0) N y z nb).1, (po_W (uI P 40 0 0) N y z nb).2) := by unfold ps_way; rw [if_neg a2, if_neg w2, if_neg a3, if_neg p2]; exact if_pos f2
          rw [q9]
          have q8 : r_way I J x y z w = -1 := if_pos f1
          rw [q8] at w9
          exact Or.inr ⟨(eW1 40 0 (by decide)).trans rfl, _, J, _, w9, (rfl), h.congr oK (fun g j h1 h2 _ => (eW1 g j h2).trans (e40 g j h1)) eW2⟩
        · have hnf : ¬ 0 ≤ lg_cmp ((po_W (uI P 40 0 0) N y z nb).2 5 (tn x)) 1000000000000 := Int32.not_le.mpr f2.1
          have f3 : ¬ (sp_fw I J (tn x) (tn y) z).1 = 0 := by rw [f1]; decide
          have ePK : ∀ g j, g ≠ 42 → g ≠ 43 → po_K (uI P 40 0 0) N x y z nb g j = (uI P 40 0 0) g j := fun g j h1 h2 => po_K_oth h2 h1
          by_cases c1 : nI (n + 1) ≤ w
          · have q9 : ps_way P N x y z w nb = (-1, po_K (uI P 40 0 0) N x y z nb, (po_W (uI P 40 0 0) N y z nb).2) := by unfold ps_way; rw [if_neg a2, if_neg w2, if_neg a3, if_neg p2, if_neg hnf, g3, if_pos c1]
            rw [q9]
            have q8 : r_way I J x y z w = -1 := (if_neg f3).trans (if_pos (by rw [g4]; exact c1))
            rw [q8] at w9
            exact Or.inr ⟨(ePK 40 0 (by decide) (by decide)).trans rfl, _, J, _, w9, (rfl), h.congr oK (fun g j h1 h2 h3 => (ePK g j h2 h3).trans (e40 g j h1)) eW2⟩
          · have hwn : tn w ≤ n := by
              rcases Nat.lt_or_ge n (tn w) with z9 | z9
              · exact absurd (show nI (n + 1) ≤ w from by rw [w3]; exact nI_le (by omega) (tn_lt w)) c1
              · exact z9
            obtain ⟨k0, k1, k2, _⟩ := g5 (tn w) hwn
            have q9 : ps_way P N x y z w nb = (po_K (uI P 40 0 0) N x y z nb 43 (tn w), po_K (uI P 40 0 0) N x y z nb, (po_W (uI P 40 0 0) N y z nb).2) := by unfold ps_way; rw [if_neg a2, if_neg w2, if_neg a3, if_neg p2, if_neg hnf, g3, if_neg c1]
            rw [q9]
            have q8 : r_way I J x y z w = nI (p (tn w)) := (if_neg f3).trans ((if_neg (by rw [g4]; exact c1)).trans k2)
            rw [q8] at w9
            have q7 : po_K (uI P 40 0 0) N x y z nb 43 (tn w) = nI (p (tn w)) := by rw [po_K_at a5.1 f2 (by rw [g3]; exact hwn), k1]
            exact Or.inr ⟨(ePK 40 0 (by decide) (by decide)).trans rfl, _, J, _, w9, (by rw [q7]), h.congr oK (fun g j h1 h2 h3 => (ePK g j h2 h3).trans (e40 g j h1)) eW2⟩
      · have hx9 : sx_br2 P x y = 0 ∨ w < 0 ∨ x = y ∨ sx_in z 1 1000000 = 0 := Or.inr (Or.inr (Or.inr p2))
        have q9 : ps_way P N x y z w nb = (0, uI P 40 0 2, N) := by simp [ps_way, a2, w2, a3, p2]
        rw [q9]
        exact Or.inl ⟨ne40 (P := P) (v := 2) (by decide), ⟨I, t_L_way_eA h.ci (by omega) (by simp [e_way, hx_or, w1, a1, p1]), h.th 2⟩, h.th 2⟩
    · have hx9 : sx_br2 P x y = 0 ∨ w < 0 ∨ x = y ∨ sx_in z 1 1000000 = 0 := Or.inl a2
      have q9 : ps_way P N x y z w nb = (0, uI P 40 0 1, N) := by simp [ps_way, a2]
      rw [q9]
      exact Or.inl ⟨ne40 (P := P) (v := 1) (by decide), ⟨I, t_L_way_eI h.ci (by omega) (by simp [e_way, hx_or, w1, a1]), h.th 1⟩, h.th 1⟩
    · have hx9 : sx_br2 P x y = 0 ∨ w < 0 ∨ x = y ∨ sx_in z 1 1000000 = 0 := Or.inr (Or.inr (Or.inl a3))
      have q9 : ps_way P N x y z w nb = (0, uI P 40 0 2, N) := by simp [ps_way, a2, w2, show (x = y) = True from eq_true a3]
      rw [q9]
      exact Or.inl ⟨ne40 (P := P) (v := 2) (by decide), ⟨I, t_L_way_eA h.ci (by omega) (by simp [e_way, hx_or, w1, a1]), h.th 2⟩, h.th 2⟩
  · have hx9 : sx_br2 P x y = 0 ∨ w < 0 ∨ x = y ∨ sx_in z 1 1000000 = 0 := Or.inr (Or.inl w2)
    have q9 : ps_way P N x y z w nb = (0, uI P 40 0 1, N) := by simp [ps_way, w2]
    rw [q9]
    exact Or.inl ⟨ne40 (P := P) (v := 1) (by decide), ⟨I, t_L_way_eI h.ci (by omega) (by simp [e_way, hx_or, w1]), h.th 1⟩, h.th 1⟩
set_option maxRecDepth 100000 in
theorem so_order {k nb no nc : Nat} {I : MI} {J : MJ} {P : MI} {N : MJ} {x y z w v : Int32} (h : IV k nb no nc I J P N) (hk9 : k ≤ 520) : so k nb no nc (kL_order x y z w v) (ps_order P N x y z w v nb no).1.toInt64 (nb) (no + 1) (nc) (ps_order P N x y z w v nb no).2.1 (ps_order P N x y z w v nb no).2.2 I J := by
  have hbc : I 0 0 = nI nb := h.ci.1.1.1
  have hnb : nb ≤ 12 := h.ci.1.1.2
  have hoc : I 1 0 = nI no := h.ci.1.2.1.1
  have hno : no ≤ 40 := h.ci.1.2.1.2
  have hcc : I 2 0 = nI nc := h.ci.1.2.2.1.1
  have hnc : nc ≤ 40 := h.ci.1.2.2.1.2
  have r0 : P 0 0 = I 0 0 := h.ints 0 0 (by unfold shd; omega)
  have r1 : P 1 0 = I 1 0 := h.ints 1 0 (by unfold shd; omega)
  have r2 : P 2 0 = I 2 0 := h.ints 2 0 (by unfold shd; omega)
  have r3 : P 3 0 = I 3 0 := h.ints 3 0 (by unfold shd; omega)
  have rP : ∀ g j, ((5 ≤ g ∧ g ≤ 8) ∨ (12 ≤ g ∧ g ≤ 20) ∨ (22 ≤ g ∧ g ≤ 25) ∨ (28 ≤ g ∧ g ≤ 30)) → P g j = I g j := fun g j hg => h.ints g j (by unfold shd; omega)
  have n0 : ∀ j, N 0 j = J 0 j := fun j => (h.debts j).1.symm
  have n1 : ∀ j, N 1 j = J 1 j := fun j => (h.debts j).2.1.symm
  have n2 : ∀ j, N 2 j = J 2 j := fun j => (h.debts j).2.2.symm
  rcases ix_cs (x := w) (c9 := 20) (n := 20) rfl (by omega) with ⟨w1, w2, w3, w4⟩ | ⟨w1, w2⟩
  · have w2 : ¬ sx_in w 0 19 = 0 := w2
    rcases two_cs (x := x) (y := y) hbc r0 hnb with ⟨a1, a2, a3, a4, a5, a6⟩ | ⟨a1, a2⟩ | ⟨a1, a2, a3⟩
    · rcases rg_cs z 1 1000000 with ⟨p1, p2⟩ | ⟨p1, p2⟩
      · rcases rg_cs v 0 9999 with ⟨v1, v2⟩ | ⟨v1, v2⟩
        · by_cases f0 : no = 40
          · have f1 : 40 ≤ I 1 0 := by rw [hoc, f0]; decide
            have f2 : 40 ≤ P 1 0 := by rw [r1]; exact f1
            have hx9 : sx_br2 P x y = 0 ∨ sx_in w 0 19 = 0 ∨ x = y ∨ sx_in z 1 1000000 = 0 ∨ sx_in v 0 9999 = 0 ∨ 40 ≤ P 1 0 ∨ ¬ P 30 (tn w) = 0 := Or.inr (Or.inr (Or.inr (Or.inr (Or.inr (Or.inl f2)))))
            have q9 : ps_order P N x y z w v nb no = (0, uI P 40 0 3, N) := by simp [ps_order, a2, w2, a3, p2, v2, f2]
            rw [q9]
            have e6 : e6_order I x y z w v = some eS := by simp [e6_order, hx_or, sx_st, w1, a1, p1, v1, f1]
            have w9 := t_L_order_eS (I := I) (J := J) h.ci h.2.1.2.2.2.1 (by omega) (show e_order I J x y z w v = some eS by simp [e_order, hx_or, e6])
            have ex : x_order I J x y z w v = I := if_neg (by rw [e6]; simp)
            rw [ex] at w9
            exact Or.inl ⟨ne40 (P := P) (v := 3) (by decide), ⟨I, w9, h.th 3⟩, h.th 3⟩
          · have f1 : ¬ 40 ≤ I 1 0 := by rw [hoc]; exact nI_ge (b := 40) (by omega) (by omega)
            have f2 : ¬ 40 ≤ P 1 0 := by rw [r1]; exact f1
            by_cases l1 : I 30 (tn w) = 0
            · have l2 : P 30 (tn w) = 0 := (rP 30 _ (by omega)).trans l1
              have e6 : e6_order I x y z w v = none := by simp [e6_order, hx_or, sx_st, w1, a1, p1, v1, f1, l1]
              obtain ⟨b1, b2, b3⟩ := sx_rg_1 (n := 1000000) (by decide) (by decide) p1
              have ht : ∀ i, i < 12 → ∃ t : Nat, t < 8 ∧ P 5 i = nI t := fun i hi => by
                obtain ⟨t, t1, t2⟩ := h.ci.1.2.2.2.2.1 i hi
                exact ⟨t, t1, (rP 5 _ (by omega)).trans t2⟩
              have hbd : bd J 4611686018427387904 := h.ci.2.2.2.mono (by omega)
              have fs := fw_spec (a := tn x) (b := tn y) (z := tn z) hbc hnb (by omega) (by omega) a6 b3 h.ci.2.2.1 hbd
              have ow := order_ways (x := x) (y := y) (z := tn z) h.ints h.2.1.2.1 h.debts hbc hnb h.ci.2.2.1 hbd a4.2 a5.1 a5.2 a6 b3
              rw [← b1] at fs ow
              have oK := fs.1
              by_cases d1 : (sp_fw I J (tn x) (tn y) z).1 = 0
              · have f9 : po_far P N x y z nb := by
                  rcases ow with ⟨_, q⟩ | ⟨q, _⟩
                  · exact q
                  · exact absurd (d1.symm.trans q) (by decide)
                have q9 : ps_order P N x y z w v nb no = (0, uI (po_W P N y z nb).1 40 0 3, (po_W P N y z nb).2) := by unfold ps_order; rw [if_neg a2, if_neg w2, if_neg a3, if_neg p2, if_neg v2, if_neg f2, if_neg (fun z => z l2)]; exact if_pos f9
                rw [q9]
                have w9 := t_L_order_eS (I := I) (J := J) h.ci h.2.1.2.2.2.1 (by omega) (show e_order I J x y z w v = some eS by simp [e_order, hx_or, e6, sx_st, d1])
                have ex : x_order I J x y z w v = (sp_fw I J (tn x) (tn y) z).2 := if_pos e6
                rw [ex] at w9
                have eW1 : ∀ g j, g ≠ 42 → (po_W P N y z nb).1 g j = P g j := fun g j hg => fws_oth hg
                exact Or.inl ⟨ne40 (P := (po_W P N y z nb).1) (v := 3) (by decide), ⟨_, w9, h.congr oK (fun g j h1 h2 _ => (if_neg (fun z => h1 z.1)).trans (eW1 g j h2)) (fun g j hg => fws_N hg)⟩, h.congr (fun _ _ _ => rfl) (fun g j h1 h2 _ => (if_neg (fun z => h1 z.1)).trans (eW1 g j h2)) (fun g j hg => fws_N hg)⟩
              · obtain ⟨v8, v9⟩ := v_order (v := v) h (by omega) a4.2 a5.1 a5.2 a6 b1 b3 (by omega) d1
                have hnf : ¬ 0 ≤ lg_cmp ((po_W P N y z nb).2 5 (tn x)) 1000000000000 := Int32.not_le.mpr v8.1
                have ep : po_K P N x y z nb 1 0 = nI no := (po_K_oth (by decide) (by decide)).trans (r1.trans hoc)
                have q9 : ps_order P N x y z w v nb no = (nI no, po_tell (po_L P N x y z v nb no).1 z (tn ((po_L P N x y z v nb no).1 5 (tn x))), (po_L P N x y z v nb no).2) := by unfold ps_order; rw [if_neg a2, if_neg w2, if_neg a3, if_neg p2, if_neg v2, if_neg f2, if_neg (fun z => z l2), if_neg hnf, ep]
                rw [q9]
                have w9 := n_L_order (I := I) (J := J) h.ci h.2.1.2.2.2.1 (by omega) (show e_order I J x y z w v = none by simp [e_order, hx_or, e6, sx_st, d1])
                have e40 : po_tell (po_L P N x y z v nb no).1 z (tn ((po_L P N x y z v nb no).1 5 (tn x))) 40 0 = 0 := by
                  unfold po_tell po_L
                  rw [uI_at, if_neg (fun z => absurd z.1 (by decide)), lay_oth (by decide) (by decide) (by decide)]
                  rfl
                exact Or.inr ⟨e40, _, _, _, w9, (rfl), v9⟩
            · have l2 : ¬ P 30 (tn w) = 0 := fun z => l1 ((rP 30 _ (by omega)).symm.trans z)
              have hx9 : sx_br2 P x y = 0 ∨ sx_in w 0 19 = 0 ∨ x = y ∨ sx_in z 1 1000000 = 0 ∨ sx_in v 0 9999 = 0 ∨ 40 ≤ P 1 0 ∨ ¬ P 30 (tn w) = 0 := Or.inr (Or.inr (Or.inr (Or.inr (Or.inr (Or.inr l2)))))
              have q9 : ps_order P N x y z w v nb no = (0, uI P 40 0 3, N) := by simp [ps_order, a2, w2, a3, p2, v2, f2, l2]
              rw [q9]
              have e6 : e6_order I x y z w v = some eS := by simp [e6_order, hx_or, sx_st, w1, a1, p1, v1, f1, l1]
              have w9 := t_L_order_eS (I := I) (J := J) h.ci h.2.1.2.2.2.1 (by omega) (show e_order I J x y z w v = some eS by simp [e_order, hx_or, e6])
              have ex : x_order I J x y z w v = I := if_neg (by rw [e6]; simp)
              rw [ex] at w9
              exact Or.inl ⟨ne40 (P := P) (v := 3) (by decide), ⟨I, w9, h.th 3⟩, h.th 3⟩
        · have hx9 : sx_br2 P x y = 0 ∨ sx_in w 0 19 = 0 ∨ x = y ∨ sx_in z 1 1000000 = 0 ∨ sx_in v 0 9999 = 0 ∨ 40 ≤ P 1 0 ∨ ¬ P 30 (tn w) = 0 := Or.inr (Or.inr (Or.inr (Or.inr (Or.inl v2))))
          have q9 : ps_order P N x y z w v nb no = (0, uI P 40 0 2, N) := by simp [ps_order, a2, w2, a3, p2, v2]
          rw [q9]
          have e6 : e6_order I x y z w v = some eA := by simp [e6_order, hx_or, sx_st, w1, a1, p1, v1]
          have w9 := t_L_order_eA (I := I) (J := J) h.ci h.2.1.2.2.2.1 (by omega) (show e_order I J x y z w v = some eA by simp [e_order, hx_or, e6])
          have ex : x_order I J x y z w v = I := if_neg (by rw [e6]; simp)
          rw [ex] at w9
          exact Or.inl ⟨ne40 (P := P) (v := 2) (by decide), ⟨I, w9, h.th 2⟩, h.th 2⟩
      · have hx9 : sx_br2 P x y = 0 ∨ sx_in w 0 19 = 0 ∨ x = y ∨ sx_in z 1 1000000 = 0 ∨ sx_in v 0 9999 = 0 ∨ 40 ≤ P 1 0 ∨ ¬ P 30 (tn w) = 0 := Or.inr (Or.inr (Or.inr (Or.inl p2)))
        have q9 : ps_order P N x y z w v nb no = (0, uI P 40 0 2, N) := by simp [ps_order, a2, w2, a3, p2]
        rw [q9]
        have e6 : e6_order I x y z w v = some eA := by simp [e6_order, hx_or, sx_st, w1, a1, p1]
        have w9 := t_L_order_eA (I := I) (J := J) h.ci h.2.1.2.2.2.1 (by omega) (show e_order I J x y z w v = some eA by simp [e_order, hx_or, e6])
        have ex : x_order I J x y z w v = I := if_neg (by rw [e6]; simp)
        rw [ex] at w9
        exact Or.inl ⟨ne40 (P := P) (v := 2) (by decide), ⟨I, w9, h.th 2⟩, h.th 2⟩
    · have hx9 : sx_br2 P x y = 0 ∨ sx_in w 0 19 = 0 ∨ x = y ∨ sx_in z 1 1000000 = 0 ∨ sx_in v 0 9999 = 0 ∨ 40 ≤ P 1 0 ∨ ¬ P 30 (tn w) = 0 := Or.inl a2
      have q9 : ps_order P N x y z w v nb no = (0, uI P 40 0 1, N) := by simp [ps_order, a2]
      rw [q9]
      have e6 : e6_order I x y z w v = some eI := by simp [e6_order, hx_or, sx_st, w1, a1]
      have w9 := t_L_order_eI (I := I) (J := J) h.ci h.2.1.2.2.2.1 (by omega) (show e_order I J x y z w v = some eI by simp [e_order, hx_or, e6])
      have ex : x_order I J x y z w v = I := if_neg (by rw [e6]; simp)
      rw [ex] at w9
      exact Or.inl ⟨ne40 (P := P) (v := 1) (by decide), ⟨I, w9, h.th 1⟩, h.th 1⟩
    · have hx9 : sx_br2 P x y = 0 ∨ sx_in w 0 19 = 0 ∨ x = y ∨ sx_in z 1 1000000 = 0 ∨ sx_in v 0 9999 = 0 ∨ 40 ≤ P 1 0 ∨ ¬ P 30 (tn w) = 0 := Or.inr (Or.inr (Or.inl a3))
      have q9 : ps_order P N x y z w v nb no = (0, uI P 40 0 2, N) := by simp [ps_order, a2, w2, show (x = y) = True from eq_true a3]
      rw [q9]
      have e6 : e6_order I x y z w v = some eA := by simp [e6_order, hx_or, sx_st, w1, a1]
      have w9 := t_L_order_eA (I := I) (J := J) h.ci h.2.1.2.2.2.1 (by omega) (show e_order I J x y z w v = some eA by simp [e_order, hx_or, e6])
      have ex : x_order I J x y z w v = I := if_neg (by rw [e6]; simp)
      rw [ex] at w9
      exact Or.inl ⟨ne40 (P := P) (v := 2) (by decide), ⟨I, w9, h.th 2⟩, h.th 2⟩
  · have w2 : sx_in w 0 19 = 0 := w2
    have hx9 : sx_br2 P x y = 0 ∨ sx_in w 0 19 = 0 ∨ x = y ∨ sx_in z 1 1000000 = 0 ∨ sx_in v 0 9999 = 0 ∨ 40 ≤ P 1 0 ∨ ¬ P 30 (tn w) = 0 := Or.inr (Or.inl w2)
    have q9 : ps_order P N x y z w v nb no = (0, uI P 40 0 1, N) := by simp [ps_order, w2]
    rw [q9]
    have e6 : e6_order I x y z w v = some eI := by simp [e6_order, hx_or, sx_st, w1]
    have w9 := t_L_order_eI (I := I) (J := J) h.ci h.2.1.2.2.2.1 (by omega) (show e_order I J x y z w v = some eI by simp [e_order, hx_or, e6])
    have ex : x_order I J x y z w v = I := if_neg (by rw [e6]; simp)
    rw [ex] at w9
    exact Or.inl ⟨ne40 (P := P) (v := 1) (by decide), ⟨I, w9, h.th 1⟩, h.th 1⟩
