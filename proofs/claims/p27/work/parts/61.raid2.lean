/-! raids, broken words: the relation behind them -/
theorem lk_16 {I : MI} {J : MJ} {i o : Nat} (ho : o ≠ i) (hoth : ∀ g j, ¬ (31 ≤ g ∧ g ≤ 39) → (sp_lkr I J i).2 g j = I g j) : (sp_lk I J i).1 16 o = I 16 o := by
  have eb : (sp_bk (sp_lkr I J i).2 (sp_lkJ I J i) i (hw_pl I i)).1 16 o = I 16 o := (show sp_ef (sp_lkr I J i).2 i 16 o = (sp_lkr I J i).2 16 o from if_neg (fun z => ho z.2)).trans (hoth 16 o (by decide))
  by_cases c1 : (sp_lkr I J i).1 = 0
  · rw [sp_lk_a c1]; exact eb
  · by_cases c2 : I 21 (12 * i + hw_pl I i) - I 12 i < sp_fbf (sp_lkr I J i).2
    · rw [sp_lk_b c1 c2]; exact eb
    · rw [sp_lk_c c1 c2]
      exact (take_ne (by decide) (by decide) (by decide) o).trans (hoth 16 o (by decide))
theorem av_fcr {x : Int32} {nb no nc : Nat} {I : MI} {J : MJ} {B : Int} (h : hw_ci I J nb no nc B) (hB : B + 2061584302080 ≤ 4611686018427387904) : fcr no I (sp_av I J x no).1 := by
  have hno := h.1.2.1.2
  have key := lp_inv (sf_av x) (fun i σ => hw_ci σ.1 σ.2 nb no nc (B + i * 51539607552) ∧ fcr no I σ.1) no (fun i σ hi hs => by
    obtain ⟨a, b⟩ := av_step (x := x) hs.1 hi (by omega)
    refine ⟨⟨b.1, b.2.1, b.2.2.1, b.2.2.2.mono (by omega)⟩, hs.2.tr ?_⟩
    by_cases c1 : ¬ σ.1 16 i = 0
    · rw [sf_av_a c1]; exact fcr.rf _ _
    have c1 := Decidable.not_not.mp c1
    by_cases c2 : hb (hw_sp σ.1 i x = true) = 0
    · rw [sf_av_b c1 c2]; exact fcr.rf _ _
    rw [sf_av_c c1 c2] at a ⊢
    obtain ⟨_, _, kb⟩ := lk_pres hs.1 hi (by omega)
    obtain ⟨hoth, _⟩ := lk_spec hs.1.1.1.1 hs.1.1.1.2 (hs.1.1.2.2.2.2.2.1 i hi) (hs.1.2.1 i hi).1 (hs.1.2.1 i hi).2 hs.1.2.2.1 kb
    exact fcr.st (i := i) (fun o => a 18 o (by decide) (by decide) (by decide) (by decide) (by decide)) (fun o ho => lk_16 ho hoth) (fun _ => Or.inl c1)) no 0 (I, J) (by omega) ⟨⟨h.1, h.2.1, h.2.2.1, h.2.2.2.mono (by omega)⟩, fcr.rf _ _⟩
  exact key.2
theorem go_41 (P : MI) (N : MJ) (i nb c : Nat) : (pg_go P N i nb).1 41 c = P 41 c := by
  have eW : (pg_W P N i nb).1 41 c = P 41 c := fws_oth (by decide)
  have eK : pg_K P N i nb 41 c = P 41 c := pg_K_oth (by decide) (by decide)
  have eb : ∀ (Q : MI) (X : MJ) q, (pg_bk Q X i q).1 41 c = Q 41 c := fun Q X q => ((bk_ints Q X i q).1 41 c).trans (sp_ef_ne (by decide) c)
  unfold pg_go
  by_cases c1 : 0 ≤ lg_cmp ((pg_W P N i nb).2 5 (hw_at P i (hw_pl P i))) 1000000000000
  · rw [if_pos c1]; exact (eb _ _ _).trans eW
  · rw [if_neg c1]
    by_cases c2 : 0 < lg_cmp ((pg_W P N i nb).2 5 (tn (pg_K P N i nb 43 1))) (P 21 (12 * i + hw_pl P i) - P 12 i).toInt64
    · rw [if_pos c2]; exact (eb _ _ _).trans eK
    · rw [if_neg c2]; exact (lay_oth (by decide) (by decide) (by decide)).trans eK
theorem ff_41 (P : MI) (N : MJ) (x : Int32) (nb no c : Nat) : (ps_ff P N x nb no).1 41 c = P 41 c := lp_inv (pf_ff x nb) (fun _ σ => σ.1 41 c = P 41 c) no (fun i σ _ hs => by
  unfold pf_ff
  repeat' split
  · exact hs
  · exact hs
  · exact (go_41 σ.1 σ.2 i nb c).trans hs) no 0 (P, N) (by omega) rfl
theorem v_avoid {k nb no nc : Nat} {B : Int} {I P : MI} {J N : MJ} {x : Int32} (h : IVB k B nb no nc I J P N) (hB : B + 2061584302080 ≤ 4611686018427387904) : pg_ready x nb no (P, N) ∧ IVB k (B + 2061584302080) nb no nc (sp_av I J x no).1 (sp_av I J x no).2 (ps_ff P N x nb no).1 (ps_ff P N x nb no).2 := by
  obtain ⟨h1, ⟨a1, a2, a3, a4, a5, a6, a7, a8⟩, ⟨t, t1, t2⟩, h3, h4⟩ := h
  obtain ⟨f1, f2, f3⟩ := ff_same (x := x) h1 a1 a2 a3 hB
  obtain ⟨g1, g2⟩ := av_all (x := x) a1 hB
  have o : ∀ g j, (g ≤ 15 ∨ (17 ≤ g ∧ g ≤ 18) ∨ (22 ≤ g ∧ g ≤ 30)) → (sp_av I J x no).1 g j = I g j := fun g j hg => g1 g j (by omega) (by omega) (by omega) (by omega) (by omega)
  have jv := jk_av (x := x) a1 hB
  refine ⟨f1, f2, ⟨g2, fun j => ?_, f3, ⟨fun o' h1 h2 => ?_, fun c h1 h2 => ?_⟩, fun o' ho => ?_, fun c hc => ?_, jv.2.2 a7, fun j => ?_⟩, ⟨t, t1, (o 3 0 (by omega)).trans t2⟩, fun c hc => (ff_41 P N x nb no c).trans (h3 c hc), h4.mv (av_fcr (x := x) a1 hB)⟩
  · show ∃ m : Nat, m ≤ 1000000 ∧ (sp_av I J x no).1 10 j = nI m
    rw [o 10 j (by omega)]; exact a2 j
  · show (sp_av I J x no).1 17 o' = 0 ∧ (sp_av I J x no).1 18 o' = 0
    rw [o 17 o' (by omega), o 18 o' (by omega)]; exact a4.1 o' h1 h2
  · show (sp_av I J x no).1 27 c = 0 ∧ (sp_av I J x no).1 26 c = 0
    rw [o 27 c (by omega), o 26 c (by omega)]; exact a4.2 c h1 h2
  · show ∃ g : Nat, g ≤ 2300000 ∧ (sp_av I J x no).1 14 o' = nI g
    rw [o 14 o' (by omega)]; exact a5 o' ho
  · show (∃ m : Nat, m ≤ 1000000 ∧ (sp_av I J x no).1 24 c = nI m) ∧ (¬ (sp_av I J x no).1 26 c = 0 → (sp_av I J x no).1 27 c = 0)
    rw [o 24 c (by omega), o 26 c (by omega), o 27 c (by omega)]; exact a6 c hc
  · show 0 ≤ ((sp_av I J x no).2 0 j).toInt ∧ ((sp_av I J x no).2 0 j).toInt ≤ 3000000 * (k : Int) + 1000000 * (ar (sp_av I J x no).1 nc : Int)
    rw [jv.1 j, ar_congr nc (fun c _ => o 26 c (by omega))]
    exact a8 j
theorem cast_cash {x : Int64} (h0 : 0 ≤ x.toInt) (h1 : x.toInt < 2147483648) : x.toInt32.toInt64 = x := by
  apply Int64.toInt_inj.mp
  rw [i32l, Int64.toInt_toInt32]
  exact Int.bmod_eq_of_le (by omega) (by omega)
theorem v_raid {k nb no nc : Nat} {I P : MI} {J N : MJ} {x : Int32} (h : IV k nb no nc I J P N) (hk9 : k ≤ 600) : pg_ready x nb no (pp_raid P x, pj_raid N x) ∧ J 0 (tn x) = N 0 (tn x) ∧ IV (k + 1) nb no nc (s_raid I J x no).1 (s_raid I J x no).2 (ps_ff (pp_raid P x) (pj_raid N x) x nb no).1 (ps_ff (pp_raid P x) (pj_raid N x) x nb no).2 := by
  have e3 := h.ints 3 0 (by unfold shd; omega)
  have e0 := (h.debts (tn x)).1
  obtain ⟨h1, h2, ⟨t, t1, t2⟩, h4, h5⟩ := h.th0 0
  obtain ⟨a1, a2, a3, a4, a5, a6, a7, a8⟩ := id h2
  have hle := ar_le I nc
  have hnc := h.ci.1.2.2.1.2
  have hx0 : 0 ≤ (J 0 (tn x)).toInt ∧ (J 0 (tn x)).toInt ≤ 3000000 * (k : Int) + 1000000 * (ar I nc : Int) := a8 (tn x)
  have ec : (N 0 (tn x)).toInt32.toInt64 = J 0 (tn x) := by rw [← e0]; exact cast_cash hx0.1 (by omega)
  generalize hI : uI (uI (uI I 7 (tn x) 1) 8 (tn x) (I 3 0 + 720)) 9 (tn x) 1 = I1
  generalize hJ : uJ (uJ J 0 (tn x) 0) 3 0 (J 3 0 + J 0 (tn x)) = J1
  have oI : ∀ g j, ¬ (7 ≤ g ∧ g ≤ 9) → I1 g j = I g j := fun g j hg => by rw [← hI, uI_at, if_neg (fun z => by omega), uI_at, if_neg (fun z => by omega), uI_at, if_neg (fun z => by omega)]
  have oJ : ∀ g j, g ≠ 0 → g ≠ 3 → J1 g j = J g j := fun g j h1 h2 => by rw [← hJ, uJ_at' _ _ _ _ (fun z => h2 z.1), uJ_at' _ _ _ _ (fun z => h1 z.1)]
  have oJ0 : ∀ j, J1 0 j = if j = tn x then 0 else J 0 j := fun j => by
    rw [← hJ, uJ_at' _ _ _ _ (fun z => absurd z.1 (by decide)), uJ_at]
    by_cases c : j = tn x
    · rw [if_pos c, if_pos ⟨rfl, c⟩]
    · rw [if_neg c, if_neg (fun z => c z.2)]
  have oN : ∀ g j, g ≠ 0 → ¬ (g = 4 ∧ j = 4) → pj_raid N x g j = N g j := fun g j h1 h2 => by
    unfold pj_raid
    rw [uJ_at' _ _ _ _ h2, uJ_at' _ _ _ _ (fun z => h1 z.1)]
  have oN0 : ∀ j, pj_raid N x 0 j = if j = tn x then 0 else N 0 j := fun j => by
    unfold pj_raid
    rw [uJ_at' _ _ _ _ (fun z => absurd z.1 (by decide)), uJ_at]
    by_cases c : j = tn x
    · rw [if_pos c, if_pos ⟨rfl, c⟩]
    · rw [if_neg c, if_neg (fun z => c z.2)]
  have R : RH nb no nc (I1, J1) (pp_raid P x, pj_raid N x) := by
    have s1 := ((h1.set 7 (tn x) 1 (by unfold fre; omega)).set 8 (tn x) (I 3 0 + 720) (by unfold fre; omega)).set 9 (tn x) 1 (by unfold fre; omega)
    rw [hI, ← e3] at s1
    obtain ⟨⟨r1, r2, r3, r4⟩, hv, hq, ⟨s0, s1', s2, s3⟩, hz⟩ := s1
    refine ⟨⟨r1, r2, fun j => ?_, r4⟩, hv, hq, ⟨?_, ?_, ?_, ?_⟩, ?_⟩
    · obtain ⟨b0, b1, b2⟩ := h.debts j
      show J1 0 j = pj_raid N x 0 j ∧ J1 1 j = pj_raid N x 1 j ∧ J1 2 j = pj_raid N x 2 j
      rw [oJ0, oN0, b0, oJ 1 j (by decide) (by decide), oN 1 j (by decide) (by omega), oJ 2 j (by decide) (by decide), oN 2 j (by decide) (by omega)]
      exact ⟨rfl, b1, b2⟩
    · exact (oN 4 0 (by decide) (by omega)).trans s0
    · exact (oN 4 1 (by decide) (by omega)).trans s1'
    · exact (oN 4 2 (by decide) (by omega)).trans s2
    · exact (oN 4 3 (by decide) (by omega)).trans s3
    · show J1 3 0 = pj_raid N x 4 4
      have u1 : J1 3 0 = J 3 0 + J 0 (tn x) := by rw [← hJ]; exact if_pos ⟨rfl, rfl⟩
      have u2 : pj_raid N x 4 4 = N 4 4 + (N 0 (tn x)).toInt32.toInt64 := by unfold pj_raid; exact if_pos ⟨rfl, rfl⟩
      rw [u1, u2, ec, show J 3 0 = N 4 4 from hz]
  have C : CK k nb no nc ((k : Int) * 1000000000000000) (I1, J1) := (h2.congr (I' := I1) (fun g j hg => oI g j (by unfold ckf at hg; omega)) a1.2.2.2 a7 (fun _ => rfl)).cash (fun j => by rw [oJ 1 j (by decide) (by decide)]; exact a1.2.2.2 j) (fun a b ha hb9 => by rw [oJ 1 _ (by decide) (by decide), oJ 1 _ (by decide) (by decide)]; exact a7 a b ha hb9) (fun j => by
    rw [oJ0, ar_congr nc (fun c _ => oI 26 c (by omega))]
    by_cases c : j = tn x
    · rw [if_pos c]
      refine ⟨Int.le_refl 0, ?_⟩
      show (0 : Int) ≤ _
      omega
    · rw [if_neg c]; exact a8 j)
  have V : IVB k ((k : Int) * 1000000000000000) nb no nc I1 J1 (pp_raid P x) (pj_raid N x) := ⟨R, C, ⟨t, t1, (oI 3 0 (by omega)).trans t2⟩, fun c hc => h4 c hc, h5.mv (fcr.same (fun g j hg => oI g j (by omega)))⟩
  obtain ⟨v1, v2⟩ := v_avoid (x := x) V (by omega)
  have es : s_raid I J x no = sp_av I1 J1 x no := by unfold s_raid; rw [hI, hJ]
  rw [es]
  exact ⟨v1, e0, v2.up (by omega)⟩
theorem v_breakWord {k nb no nc : Nat} {I P : MI} {J N : MJ} {x : Int32} (h : IV k nb no nc I J P N) (hk9 : k ≤ 600) : pg_ready x nb no ((pl_bw P N x no).1, (pl_bw P N x no).2.1) ∧ (l_breakWord I J x no).2.2 = (pl_bw P N x no).2.2 ∧ IV (k + 1) nb no nc (s_breakWord I J x no).1 (s_breakWord I J x no).2 (ps_ff (pl_bw P N x no).1 (pl_bw P N x no).2.1 x nb no).1 (ps_ff (pl_bw P N x no).1 (pl_bw P N x no).2.1 x nb no).2 := by
  obtain ⟨h1, h2, ⟨t, t1, t2⟩, h4, h5⟩ := h.th0 0
  obtain ⟨a1, a2, a3, a4, a5, a6, a7, a8⟩ := id h2
  have s1 := h1.set 7 (tn x) 2 (by unfold fre; omega)
  have ci1 : hw_ci (uI I 7 (tn x) 2) J nb no nc ((k : Int) * 1000000000000000) := h.ci.u 7 (by decide) _ _
  have hos := ci1.1.2.2.2.2.2.1
  have key := lp_rel (sf_lo x) (pf_bw x) (fun _ σ τ => RH nb no nc (σ.1, σ.2.1) (τ.1, τ.2.1) ∧ σ.2.2 = τ.2.2 ∧ (∀ c, τ.1 41 c = P 41 c) ∧ hw_fc σ.1 no) no (fun i σ τ hi ⟨b1, b2, b3, b4⟩ => by
    have r := b1.1.1
    have e20 : τ.1 20 (12 * i + 0) = σ.1 20 (12 * i + 0) := r 20 _ (by unfold shd; omega)
    have e16 : τ.1 16 i = σ.1 16 i := r 16 i (by unfold shd; omega)
    have u41 : ∀ c, uI τ.1 16 i 5 41 c = P 41 c := fun c => (if_neg (fun z => absurd z.1 (by decide))).trans (b3 c)
    have fc5 : hw_fc (uI σ.1 16 i 5) no := b4.mv (fcr.st (i := i) (fun o => by rw [uI_at, if_neg (fun z => absurd z.1 (by decide))]) (fun o ho => by rw [uI_at, if_neg (fun z => ho z.2)]) (fun z => by
      have e : uI σ.1 16 i 5 16 i = 5 := if_pos ⟨rfl, rfl⟩
      rw [e] at z
      exact absurd z (by decide)))
    unfold sf_lo pf_bw
    rw [e20, e16]
    by_cases c1 : ¬ σ.1 20 (12 * i + 0) = x
    · rw [if_pos c1, if_pos c1]; exact ⟨b1, b2, b3, b4⟩
    rw [if_neg c1, if_neg c1]
    by_cases c2 : σ.1 16 i = 0
    · rw [if_pos c2, if_pos c2]
      refine ⟨RH.st b1 ⟨by show σ.1 16 i ≠ 2; rw [c2]; decide, by show σ.1 16 i ≠ 4; rw [c2]; decide⟩ ⟨5, by omega, rfl⟩ (by decide) ?_ ?_ ?_, by show σ.2.2 + 1 = τ.2.2 + 1; rw [b2], u41, fc5⟩
      · show jr (lp (sf_tb σ.1 i) (hw_ln σ.1 i) 0 σ.2.1) (lp (pf_tb τ.1 i) (hw_ln τ.1 i) 0 τ.2.1)
        rw [show hw_ln τ.1 i = hw_ln σ.1 i from ln_eq r i]
        exact tbs_same r b1.1.2.1 hi (by show 0 + hw_ln σ.1 i ≤ hw_ln σ.1 i; omega) b1.1.2.2.1
      · exact tbs_3 _ _ _ _ _
      · exact fun j => tbs_4 _ _ _ _ _ _
    rw [if_neg c2, if_neg c2]
    by_cases c3 : ¬ σ.1 16 i = 3
    · rw [if_pos c3, if_pos c3]; exact ⟨b1, b2, b3, b4⟩
    rw [if_neg c3, if_neg c3]
    have c3 := Decidable.not_not.mp c3
    exact ⟨RH.st b1 ⟨by show σ.1 16 i ≠ 2; rw [c3]; decide, by show σ.1 16 i ≠ 4; rw [c3]; decide⟩ ⟨5, by omega, rfl⟩ (by decide) b1.1.2.2.1 rfl (fun _ => rfl), by show σ.2.2 + 1 = τ.2.2 + 1; rw [b2], u41, fc5⟩) no 0 (uI I 7 (tn x) 2, J, 0) (uI (uI P 40 0 0) 7 (tn x) 2, N, 0) (by omega) ⟨s1, rfl, fun c => rfl, h5⟩
  obtain ⟨b1, b2, b3, b4⟩ := key
  have hno := ci1.1.2.1.2
  have ci2 := lo_ci (x := x) ci1 (by omega)
  have jl := jk_lo (x := x) (J := J) hos
  have oL : ∀ g j, g ≠ 16 → g ≠ 7 → (l_breakWord I J x no).1 g j = I g j := fun g j h1 h2 => (sp_lo_ne h1 j).trans (if_neg (fun z => h2 z.1))
  have V : IVB k ((k : Int) * 1000000000000000 + 1030792151040) nb no nc (l_breakWord I J x no).1 (l_breakWord I J x no).2.1 (pl_bw P N x no).1 (pl_bw P N x no).2.1 := by
    refine ⟨b1, ?_, ⟨t, t1, (oL 3 0 (by decide) (by decide)).trans t2⟩, fun c hc => (b3 c).trans (h4 c hc), b4⟩
    exact CK_jk h2 (fun g j hg => oL g j (by unfold ckf at hg; omega) (by unfold ckf at hg; omega)) ci2.2.2.2 jl
  obtain ⟨v1, v2⟩ := v_avoid (x := x) V (by omega)
  exact ⟨v1, b2, v2.up (by omega)⟩
