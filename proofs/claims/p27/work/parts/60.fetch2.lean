/-! fetching and hours: the relation behind them -/
theorem RH.st {nb no nc i : Nat} {I P : MI} {J N J' N' : MJ} {v : Int32} (h : RH nb no nc (I, J) (P, N)) (h0 : I 16 i ≠ 2 ∧ I 16 i ≠ 4) (hv : ∃ s : Nat, s ≤ 5 ∧ v = nI s) (hv2 : v ≠ 2 ∧ v ≠ 4 ∧ v ≠ 0) (hj : jr J' N') (h3 : J' 3 0 = J 3 0) (h4 : ∀ j, N' 4 j = N 4 j) : RH nb no nc (uI I 16 i v, J') (uI P 16 i v, N') := by
  obtain ⟨⟨r1, r2, r3, r4⟩, hv9, hq, hs, hz⟩ := h
  have o : ∀ (X : MI) g j, ¬ (g = 16 ∧ j = i) → uI X 16 i v g j = X g j := fun X g j h => if_neg h
  have n16 : ∀ X : MI, uI X 16 i v 16 i = v := fun X => if_pos ⟨rfl, rfl⟩
  refine ⟨⟨ri.u r1 16 i v, r2.congr (fun j => o I 19 j (by omega)) (fun j => o I 21 j (by omega)) (fun j => o P 21 j (by omega)), hj, pv_iv.how (i := i) r4 (fun g j hg => o P g j (by omega)) (by show ¬ uI P 16 i v 16 i = 0; rw [n16]; exact hv2.2.2)⟩, fun c hc => ?_, hq.congr (fun g j hg => o I g j (by omega)) (fun o' ho => ?_), hs.congr (fun o' ho => ⟨o I 12 o' (by omega), o I 14 o' (by omega), ?_⟩) (fun c hc => ⟨o I 24 c (by omega), o I 27 c (by omega)⟩) h4, ?_⟩
  · show uI P 16 i v 41 c = if uI I 16 i v 26 c = 0 then 1 else 0
    rw [o P 41 c (by omega), o I 26 c (by omega)]; exact hv9 c hc
  · show ∃ s : Nat, s ≤ 5 ∧ uI I 16 i v 16 o' = nI s
    by_cases c : o' = i
    · subst c; rw [n16]; exact hv
    · rw [o I 16 o' (by omega)]; exact hq.2 o' ho
  · by_cases c : o' = i
    · subst c
      exact stx (I := I) (I' := uI I 16 o' v) rfl (n16 I) ⟨h0.1, h0.2, hv2.1, hv2.2.1⟩
    · exact stn (o I 16 o' (by omega))
  · show J' 3 0 = N' 4 4
    rw [h3, h4]; exact hz
def IVB (k : Nat) (B : Int) (nb no nc : Nat) (I : MI) (J : MJ) (P : MI) (N : MJ) : Prop := RH nb no nc (I, J) (P, N) ∧ CK k nb no nc B (I, J) ∧ (∃ t : Nat, t ≤ 500 * k ∧ I 3 0 = nI t) ∧ (∀ c, nc ≤ c → P 41 c = 0) ∧ hw_fc I no
theorem IVB.up {k nb no nc : Nat} {B : Int} {I P : MI} {J N : MJ} (h : IVB k B nb no nc I J P N) (hB : B ≤ ((k + 1 : Nat) : Int) * 1000000000000000) : IV (k + 1) nb no nc I J P N := by
  obtain ⟨h1, h2, ⟨t, t1, t2⟩, h3, h4⟩ := h
  exact ⟨h1, CK.up h2 (Nat.le_succ k) hB, ⟨t, by omega, t2⟩, h3, h4⟩
theorem sub_cash {a : Int64} {x : Int32} {m : Nat} (hx : x = nI m) (hm : m ≤ 2300000) (h : ¬ lg_cmp a x.toInt64 < 0) (h0 : 0 ≤ a.toInt) : (m : Int) ≤ a.toInt ∧ (a - x.toInt64).toInt = a.toInt - m := by
  have hge := Int64.not_lt.mp (fun z => h ((lg_cmp_lt _ _).mpr z))
  rw [Int64.le_iff_toInt_le, i32l, hx, nI_toInt (by omega)] at hge
  have hl := Int64.toInt_lt a
  have e : x.toInt64.toInt = m := by rw [i32l, hx, nI_toInt (by omega)]
  exact ⟨hge, by rw [i64sub (by rw [e]; omega) (by rw [e]; omega), e]⟩
theorem v_fetch_a {k nb no nc i b : Nat} {I P : MI} {J N : MJ} (h : IV k nb no nc I J P N) (hi : i < no) (h1 : I 16 i = 1) (hca : ¬ lg_cmp (J 0 b) (I 12 i).toInt64 < 0) : IV (k + 1) nb no nc (uI I 16 i 2) (uJ J 0 b (J 0 b - (I 12 i).toInt64)) (uI (uI P 40 0 0) 16 i 2) (uJ (uJ N 0 b (N 0 b - (I 12 i).toInt64)) 4 1 (N 4 1 + (I 12 i).toInt64)) := by
  have e0 : N 0 b = J 0 b := (h.debts b).1.symm
  obtain ⟨h1', h2, ⟨t, t1, t2⟩, h4, h5⟩ := h.th0 0
  have h2' := CK.up h2 (Nat.le_succ k) (B' := ((k + 1 : Nat) : Int) * 1000000000000000) (by omega)
  obtain ⟨a1, a2, a3, a4, a5, a6, a7, a8⟩ := id h2'
  obtain ⟨m, m1, m2⟩ := (a1.2.1 i hi).2
  have hb0 := a8 b
  have hb1 : 0 ≤ (J 0 b).toInt ∧ (J 0 b).toInt ≤ 3000000 * ((k + 1 : Nat) : Int) + 1000000 * (ar I nc : Int) := hb0
  obtain ⟨u1, u2⟩ := sub_cash m2 (by omega) hca hb1.1
  replace u2 : (J 0 b - (I 12 i).toInt64).toInt = (J 0 b).toInt - m := u2
  obtain ⟨⟨r1, r2, r3, r4⟩, hv9, hq, ⟨s0, s1, s2, s3⟩, hz⟩ := h1'
  have o : ∀ (X : MI) g j, ¬ (g = 16 ∧ j = i) → uI X 16 i 2 g j = X g j := fun X g j h => if_neg h
  have n16 : ∀ X : MI, uI X 16 i 2 16 i = 2 := fun X => if_pos ⟨rfl, rfl⟩
  have nN : ∀ g j, g ≠ 0 → ¬ (g = 4 ∧ j = 1) → uJ (uJ N 0 b (N 0 b - (I 12 i).toInt64)) 4 1 (N 4 1 + (I 12 i).toInt64) g j = N g j := fun g j h1 h2 => by rw [uJ_at' _ _ _ _ h2, uJ_at' _ _ _ _ (fun z => h1 z.1)]
  have nJ : ∀ g j, g ≠ 0 → uJ J 0 b (J 0 b - (I 12 i).toInt64) g j = J g j := fun g j h1 => uJ_at' _ _ _ _ (fun z => h1 z.1)
  refine ⟨⟨⟨ri.u r1 16 i 2, r2.congr (fun j => o I 19 j (by omega)) (fun j => o I 21 j (by omega)) (fun j => o _ 21 j (by omega)), ?_, pv_iv.how (i := i) r4 (fun g j hg => o _ g j (by omega)) (by show ¬ uI (uI P 40 0 0) 16 i 2 16 i = 0; rw [n16]; decide)⟩, fun c hc => hv9 c hc, hq.congr (fun g j hg => o I g j (by omega)) (fun o' ho => ?_), ⟨?_, ?_, ?_, ?_⟩, ?_⟩, (h2'.congr (I' := uI I 16 i 2) (fun g j hg => o I g j (fun z => by unfold ckf at hg; omega)) a1.2.2.2 a7 (fun _ => rfl)).cash (a1.2.2.2.u0 _ _) (sk_u0 a7 _ _) (fun j => ?_), ⟨t, by omega, t2⟩, h4, h5.mv (fcr.st (i := i) (fun o' => o I 18 o' (by omega)) (fun o' ho => o I 16 o' (by omega)) (fun z => ?_))⟩
  · have := r3.u 0 b (J 0 b - (I 12 i).toInt64)
    show jr (uJ J 0 b (J 0 b - (I 12 i).toInt64)) (uJ (uJ N 0 b (N 0 b - (I 12 i).toInt64)) 4 1 (N 4 1 + (I 12 i).toInt64))
    rw [e0]
    exact this
  · show ∃ s : Nat, s ≤ 5 ∧ uI I 16 i 2 16 o' = nI s
    by_cases c : o' = i
    · subst c; rw [n16]; exact ⟨2, by omega, rfl⟩
    · rw [o I 16 o' (by omega)]; exact hq.2 o' ho
  · refine (nN 4 0 (by decide) (by decide)).trans (Eq.trans s0 ?_)
    exact sq_congr no 0 0 (fun j _ _ => ⟨Iff.rfl, fun _ => by (try dsimp only); rw [o I 14 j (by omega)]⟩)
  · have := sq_more (q := fun j => I 16 j = 2) (q' := fun j => uI I 16 i 2 16 j = 2) (v := fun j => (I 12 j).toInt64) (v' := fun j => (uI I 16 i 2 12 j).toInt64) (x := i) no 0 0 (Nat.zero_le _) (by omega) (fun j hj => ⟨by rw [o I 16 j (by omega)], fun _ => by (try dsimp only); rw [o I 12 j (by omega)]⟩) (by rw [h1]; decide) (n16 I)
    have e41 : uJ (uJ N 0 b (N 0 b - (I 12 i).toInt64)) 4 1 (N 4 1 + (I 12 i).toInt64) 4 1 = N 4 1 + (I 12 i).toInt64 := if_pos ⟨rfl, rfl⟩
    refine Eq.trans e41 (Eq.trans ?_ this.symm)
    rw [show N 4 1 = _ from s1, o I 12 i (by omega)]
  · refine (nN 4 2 (by decide) (by decide)).trans (Eq.trans s2 ?_)
    refine sq_congr no 0 0 (fun j _ _ => ⟨?_, fun _ => by (try dsimp only); rw [o I 14 j (by omega)]⟩)
    (try dsimp only)
    by_cases c : j = i
    · subst c; rw [n16, h1]; exact ⟨fun z => absurd z (by decide), fun z => absurd z (by decide)⟩
    · rw [o I 16 j (by omega)]
  · refine (nN 4 3 (by decide) (by decide)).trans (Eq.trans s3 ?_)
    exact sq_congr nc 0 0 (fun j _ _ => ⟨by (try dsimp only); rw [o I 27 j (by omega)], fun _ => by (try dsimp only); rw [o I 24 j (by omega)]⟩)
  · refine (nJ 3 0 (by decide)).trans (Eq.trans hz (nN 4 4 (by decide) (by decide)).symm)
  · show 0 ≤ (uJ J 0 b (J 0 b - (I 12 i).toInt64) 0 j).toInt ∧ (uJ J 0 b (J 0 b - (I 12 i).toInt64) 0 j).toInt ≤ 3000000 * ((k + 1 : Nat) : Int) + 1000000 * (ar (uI I 16 i 2) nc : Int)
    rw [ar_congr nc (fun c _ => o I 26 c (by omega)), uJ_at]
    by_cases c : (0 : Nat) = 0 ∧ j = b
    · rw [if_pos c, u2]; omega
    · rw [if_neg c]; exact a8 j
  · exact Or.inr h1
theorem v_fetch_b {k nb no nc i f : Nat} {I P : MI} {J N : MJ} {v : Int32} (h : IV k nb no nc I J P N) (hi : i < no) (hv : v = nI f) (hf : f ≤ 2) : IV (k + 1) nb no nc (uI I 18 i v) J (uI (uI P 40 0 0) 18 i v) N := by
  obtain ⟨h1, h2, ⟨t, t1, t2⟩, h4, h5⟩ := h.th0 0
  obtain ⟨a1, a2, a3, a4, a5, a6, a7, a8⟩ := CK.up h2 (Nat.le_succ k) (B' := ((k + 1 : Nat) : Int) * 1000000000000000) (by omega)
  have o : ∀ (X : MI) g j, ¬ (g = 18 ∧ j = i) → uI X 18 i v g j = X g j := fun X g j h => if_neg h
  refine ⟨h1.set 18 i v (by unfold fre; omega), ⟨a1.congr (fun g j hg => o I g j (by omega)) a1.2.2.2, a2, a3, ⟨fun o' h1 h2 => ?_, a4.2⟩, a5, a6, a7, a8.int (fun c => rfl)⟩, ⟨t, by omega, t2⟩, h4, fun o' ho hs => ?_⟩
  · show uI I 18 i v 17 o' = 0 ∧ uI I 18 i v 18 o' = 0
    rw [o I 17 o' (by omega), o I 18 o' (by omega)]; exact a4.1 o' h1 h2
  · show ∃ f : Nat, f ≤ 2 ∧ uI I 18 i v 18 o' = nI f
    by_cases c : o' = i
    · exact ⟨f, hf, (if_pos ⟨rfl, c⟩).trans hv⟩
    · rw [o I 18 o' (by omega)]
      exact h5 o' ho hs
theorem bk_RH' {nb no nc i : Nat} {I P : MI} {J N : MJ} (h : RH nb no nc (I, J) (P, N)) (hi : i < no) (h0 : I 16 i ≠ 2 ∧ I 16 i ≠ 4) {q : Nat} (hq : q ≤ hw_ln I i) : RH nb no nc (sp_ef I i, lp (sf_tb I i) q 0 J) (sp_ef P i, lp (pf_tb P i) q 0 N) := by
  have b := bk_RH (K := I) (Q := P) (J' := J) (N' := N) h hi h0 (fun _ _ _ => rfl) (fun _ _ _ _ => rfl) h.1.2.2.1 (fun _ => rfl) rfl hq
  obtain ⟨c1, c2⟩ := bk_ints P N i q
  exact RH.congr (I := sp_ef I i) (J := lp (sf_tb I i) q 0 J) (P := (pg_bk P N i q).1) (N := (pg_bk P N i q).2) b (fun _ _ _ => rfl) (fun _ _ => rfl) (fun g j _ _ _ => (c1 g j).symm) (fun g j _ => by rw [c2])
theorem ef_fcr {no : Nat} (I : MI) (i : Nat) : fcr no I (sp_ef I i) := fcr.st (i := i) (fun o => sp_ef_ne (by decide) o) (fun o ho => if_neg (fun z => ho z.2)) (fun z => by
  have e : sp_ef I i 16 i = (if ¬ I 7 (I 20 (12 * i + 0)).toNatClampNeg = 2 then 3 else 5) := if_pos ⟨rfl, rfl⟩
  rw [e] at z
  exfalso
  split at z
  · exact absurd z (by decide)
  · exact absurd z (by decide))
theorem v_fetch_c {k nb no nc i : Nat} {I P : MI} {J N : MJ} (v : Int32) (h : IV k nb no nc I J P N) (hk9 : k ≤ 600) (hi : i < no) (h1 : I 16 i = 1) : IV (k + 1) nb no nc (sp_ef (uI I 18 i v) i) (lp (sf_tb (uI I 18 i v) i) (hw_ln I i) 0 J) (sp_ef (uI (uI P 40 0 0) 18 i v) i) (lp (pf_tb (uI (uI P 40 0 0) 18 i v) i) (hw_ln I i) 0 N) := by
  obtain ⟨h1', h2, ⟨t, t1, t2⟩, h4, h5⟩ := h.th0 0
  have h2' := CK.up h2 (Nat.le_succ k) (Int.le_refl _)
  obtain ⟨a1, a2, a3, a4, a5, a6, a7, a8⟩ := id h2'
  have hor := a1.1.2.2.2.2.2.1 i hi
  have hn : hw_ln I i < 12 := hor.1.1
  have o : ∀ (X : MI) g j, ¬ (g = 18 ∧ j = i) → uI X 18 i v g j = X g j := fun X g j h => if_neg h
  have o2 : ∀ g j, g ≠ 16 → ¬ (g = 18 ∧ j = i) → sp_ef (uI I 18 i v) i g j = I g j := fun g j h1 h2 => (sp_ef_ne h1 j).trans (o I g j h2)
  have n16 : sp_ef (uI I 18 i v) i 16 i = 3 ∨ sp_ef (uI I 18 i v) i 16 i = 5 := by
    have e : sp_ef (uI I 18 i v) i 16 i = (if ¬ (uI I 18 i v) 7 ((uI I 18 i v) 20 (12 * i + 0)).toNatClampNeg = 2 then 3 else 5) := if_pos ⟨rfl, rfl⟩
    rw [e]
    split
    · exact Or.inl rfl
    · exact Or.inr rfl
  have jt : jk J (lp (sf_tb (uI I 18 i v) i) (hw_ln I i) 0 J) := jk_tbs (ln := hw_ln I i) J hor.1.2.2 (by omega)
  have bt : bd (lp (sf_tb (uI I 18 i v) i) (hw_ln I i) 0 J) (((k + 1 : Nat) : Int) * 1000000000000000) := (bd.lp (fun k J B hb h => hb.tb h) (hw_ln I i) 0 J _ h.ci.2.2.2 (by omega)).mono (by omega)
  have s1 := (h1'.set 18 i v (by unfold fre; omega))
  refine ⟨bk_RH' (q := hw_ln I i) s1 hi ⟨by show I 16 i ≠ 2; rw [h1]; decide, by show I 16 i ≠ 4; rw [h1]; decide⟩ (Nat.le_refl _), ⟨⟨a1.1.congr2 (fun g j hg => o2 g j (by omega) (by omega)), a1.2.1.congr a1.1.2.2.2.2.2.1 (fun g j hg => o2 g j (by omega) (by omega)), a1.2.2.1.congr (fun j => o2 6 j (by decide) (by omega)), bt⟩, a2, a3.congr a1.1.2.2.2.2.2.1 (fun o' _ => ⟨o2 19 o' (by decide) (by omega), fun k _ => o2 20 _ (by decide) (by omega)⟩), ⟨fun o' h1 h2 => ?_, fun c h1 h2 => ?_⟩, fun o' ho => ?_, fun c hc => ?_, jt.2.2 a7, ?_⟩, ⟨t, by omega, (o2 3 0 (by decide) (by omega)).trans t2⟩, fun c hc => ?_, fun o' ho hs => ?_⟩
  · show sp_ef (uI I 18 i v) i 17 o' = 0 ∧ sp_ef (uI I 18 i v) i 18 o' = 0
    rw [o2 17 o' (by decide) (by omega), o2 18 o' (by decide) (by omega)]; exact a4.1 o' h1 h2
  · show sp_ef (uI I 18 i v) i 27 c = 0 ∧ sp_ef (uI I 18 i v) i 26 c = 0
    rw [o2 27 c (by decide) (by omega), o2 26 c (by decide) (by omega)]; exact a4.2 c h1 h2
  · show ∃ g : Nat, g ≤ 2300000 ∧ sp_ef (uI I 18 i v) i 14 o' = nI g
    rw [o2 14 o' (by decide) (by omega)]; exact a5 o' ho
  · show (∃ m : Nat, m ≤ 1000000 ∧ sp_ef (uI I 18 i v) i 24 c = nI m) ∧ (¬ sp_ef (uI I 18 i v) i 26 c = 0 → sp_ef (uI I 18 i v) i 27 c = 0)
    rw [o2 24 c (by decide) (by omega), o2 26 c (by decide) (by omega), o2 27 c (by decide) (by omega)]; exact a6 c hc
  · intro j
    show 0 ≤ (lp (sf_tb (uI I 18 i v) i) (hw_ln I i) 0 J 0 j).toInt ∧ (lp (sf_tb (uI I 18 i v) i) (hw_ln I i) 0 J 0 j).toInt ≤ 3000000 * ((k + 1 : Nat) : Int) + 1000000 * (ar (sp_ef (uI I 18 i v) i) nc : Int)
    rw [jt.1 j, ar_congr nc (fun c _ => o2 26 c (by decide) (by omega))]
    exact a8 j
  · refine (sp_ef_ne (g := 41) (by decide) c).trans ((if_neg (fun z => absurd z.1 (by decide))).trans (h4 c hc))
  · by_cases c : o' = i
    · subst c
      rcases n16 with e | e <;> rw [e] at hs <;> exact absurd hs (by decide)
    · have e16 : sp_ef (uI I 18 i v) i 16 o' = I 16 o' := (if_neg (fun z => c z.2)).trans (o I 16 o' (by omega))
      rw [e16] at hs
      rw [o2 18 o' (by decide) (by omega)]
      exact h5 o' ho hs
/-! hours -/
theorem ph_3 (I : MI) (J : MJ) (nb no nc : Nat) : (sp_ph I J nb no nc).1 3 0 = I 3 0 + 1 := by
  unfold sp_ph
  rw [sp_rc_ne (by decide), sp_gb_ne (by decide), sp_sb_ne (by decide), sp_mm_ne (by decide) (by decide), sp_er_ne (by decide)]
  exact if_pos ⟨rfl, rfl⟩
theorem mm_fcr {no : Nat} (i : Nat) (σ : MI × MJ) : fcr no σ.1 (sf_mm i σ).1 := by
  unfold sf_mm
  by_cases c1 : ¬ σ.1 16 i = 0
  · rw [if_pos c1]; exact fcr.rf _ _
  rw [if_neg c1]
  by_cases c2 : σ.1 19 i ≤ σ.1 17 i + 1
  · rw [if_pos c2]; exact fcr.rf _ _
  rw [if_neg c2]
  by_cases c3 : ¬ uI σ.1 17 i (σ.1 17 i + 1) 17 i + 1 = uI σ.1 17 i (σ.1 17 i + 1) 19 i
  · rw [if_pos c3]
    exact fcr.same (fun g j hg => if_neg (fun z => by omega))
  rw [if_neg c3]
  refine fcr.st (i := i) (fun o => ?_) (fun o ho => ?_) (fun _ => Or.inl (Decidable.not_not.mp c1))
  · show uI (uI σ.1 17 i (σ.1 17 i + 1)) 16 i 1 18 o = σ.1 18 o
    rw [uI_at, if_neg (fun z => absurd z.1 (by decide)), uI_at, if_neg (fun z => absurd z.1 (by decide))]
  · show uI (uI σ.1 17 i (σ.1 17 i + 1)) 16 i 1 16 o = σ.1 16 o
    rw [uI_at, if_neg (fun z => ho z.2), uI_at, if_neg (fun z => absurd z.1 (by decide))]
theorem sb_fcr {no : Nat} (i : Nat) (σ : MI × MJ) : fcr no σ.1 (sf_sb i σ).1 := by
  unfold sf_sb
  repeat' split
  · exact fcr.rf _ _
  · exact fcr.rf _ _
  · exact ef_fcr σ.1 i
theorem gb_fcr {no : Nat} (i : Nat) (σ : MI × MJ) : fcr no σ.1 (sf_gb i σ).1 := by
  unfold sf_gb
  repeat' split
  · exact fcr.rf _ _
  · exact fcr.rf _ _
  · exact fcr.rf _ _
  · refine fcr.st (I' := uI σ.1 16 i 4) (i := i) (fun o => by rw [uI_at, if_neg (fun z => absurd z.1 (by decide))]) (fun o ho => by rw [uI_at, if_neg (fun z => ho z.2)]) (fun z => ?_)
    have e : uI σ.1 16 i 4 16 i = 4 := if_pos ⟨rfl, rfl⟩
    rw [e] at z
    exact absurd z (by decide)
theorem ph_fcr (I : MI) (J : MJ) (nb no nc : Nat) : fcr no I (sp_ph I J nb no nc).1 := by
  have c1 : fcr no I (sp_er (uI I 3 0 (I 3 0 + 1)) nb) := fcr.same (fun g j hg => (sp_er_ne (by omega) j).trans (if_neg (fun z => by omega)))
  have c2 : fcr no I (sp_mm (sp_er (uI I 3 0 (I 3 0 + 1)) nb) J no).1 := lp_inv sf_mm (fun _ σ => fcr no I σ.1) no (fun i σ _ h => h.tr (mm_fcr i σ)) no 0 _ (by omega) c1
  have c3 := lp_inv sf_sb (fun _ σ => fcr no I σ.1) no (fun i σ _ h => h.tr (sb_fcr i σ)) no 0 (sp_mm (sp_er (uI I 3 0 (I 3 0 + 1)) nb) J no) (by omega) c2
  have c4 := lp_inv sf_gb (fun _ σ => fcr no I σ.1) no (fun i σ _ h => h.tr (gb_fcr i σ)) no 0 (sp_sb (sp_mm (sp_er (uI I 3 0 (I 3 0 + 1)) nb) J no).1 (sp_mm (sp_er (uI I 3 0 (I 3 0 + 1)) nb) J no).2 no) (by omega) c3
  exact c4.tr (fcr.same (fun g j hg => sp_rc_ne (by omega) j))
theorem nh_41 (P : MI) (N : MJ) (nb no nc c : Nat) (h : nc ≤ c) : (ps_nh P N nb no nc).1 41 c = P 41 c := by
  have e1 : pn_1 P nb 41 c = P 41 c := n1_oth (by decide) (by decide)
  have e2 : (pn_2 P N nb no).1 41 c = P 41 c := lp_inv pn_b (fun _ σ => σ.1 41 c = P 41 c) no (fun i σ _ hs => (nb_oth (by decide) (by decide)).trans hs) no 0 _ (by omega) e1
  have e3 : (pn_3 P N nb no).1 41 c = P 41 c := lp_inv pn_c (fun _ σ => σ.1 41 c = P 41 c) no (fun i σ _ hs => (nc_oth (by decide)).trans hs) no 0 _ (by omega) e2
  have e4 : (pn_4 P N nb no).1 41 c = P 41 c := lp_inv pn_d (fun _ σ => σ.1 41 c = P 41 c) no (fun i σ _ hs => (nd_oth (by decide)).trans hs) no 0 _ (by omega) e3
  refine lp_inv pf_ca (fun _ σ => σ.1 41 c = P 41 c) nc (fun i σ hi hs => ?_) nc 0 _ (by omega) e4
  unfold pf_ca
  repeat' split
  · exact hs
  · exact hs
  · exact (if_neg (fun z => by omega)).trans hs
theorem v_pass {k nb no nc : Nat} {I P : MI} {J N : MJ} (h : IV k nb no nc I J P N) (hk9 : k ≤ 600) {x : Int32} (hx : tn x ≤ 500) : IV (k + 1) nb no nc (s_pass I J x nb no nc).1 (s_pass I J x nb no nc).2 (pl_pass P N x nb no nc).1 (pl_pass P N x nb no nc).2 := by
  obtain ⟨h1, h2, ⟨t, t1, t2⟩, h4, h5⟩ := h.th0 0
  have key := lp_rel (sf_ps nb no nc) (pf_ps nb no nc) (fun i σ τ => RH nb no nc σ τ ∧ CK k nb no nc ((k : Int) * 1000000000000000 + i * 1116691496960) σ ∧ σ.1 3 0 = nI (t + i) ∧ (∀ c, nc ≤ c → τ.1 41 c = 0) ∧ hw_fc σ.1 no) (tn x) (fun i σ τ hi ⟨b1, b2, b3, b4, b5⟩ => by
    refine ⟨hour_same (I := σ.1) (J := σ.2) (P := τ.1) (N := τ.2) b1 b3 (by omega), ?_, ?_, fun c hc => (nh_41 τ.1 τ.2 nb no nc c hc).trans (b4 c hc), b5.mv (ph_fcr σ.1 σ.2 nb no nc)⟩
    · have := hour_CK (I := σ.1) (J := σ.2) b2 (by omega) (by omega)
      exact CK.up this (Nat.le_refl _) (by omega)
    · exact (ph_3 σ.1 σ.2 nb no nc).trans (by rw [b3, nI_1]; rfl)) (tn x) 0 (I, J) (uI P 40 0 0, N) (by omega) ⟨h1, CK.up h2 (Nat.le_refl _) (by omega), by simpa using t2, h4, h5⟩
  obtain ⟨b1, b2, b3, b4, b5⟩ := key
  exact ⟨b1, CK.up b2 (Nat.le_succ k) (by omega), ⟨t + tn x, by omega, b3⟩, b4, b5⟩
