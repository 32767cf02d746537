/-! couriers, paying, rings: the relation behind them -/
theorem CK.cash {k k' nb no nc : Nat} {B B' : Int} {I : MI} {J J' : MJ} (h : CK k nb no nc B (I, J)) (h2 : bd J' B') (h3 : sk J') (h4 : hw_cb I J' nc k') : CK k' nb no nc B' (I, J') := by
  obtain ⟨a1, a2, a3, a4, a5, a6, a7, a8⟩ := h
  exact ⟨⟨a1.1, a1.2.1, a1.2.2.1, h2⟩, a2, a3, a4, a5, a6, h3, h4⟩
theorem hw_cb.up {I : MI} {J : MJ} {nc k k' : Nat} (h : hw_cb I J nc k) (hk : k ≤ k') : hw_cb I J nc k' := fun j => by have := h j; omega
theorem sk_u0 {J : MJ} (h : sk J) (j : Nat) (x : Int64) : sk (uJ J 0 j x) := fun a b ha hb9 => by
  have e : ∀ g i, g ≠ 0 → uJ J 0 j x g i = J g i := fun g i hg => if_neg (fun z => hg z.1)
  rw [e 1 _ (by decide), e 1 _ (by decide)]
  exact h a b ha hb9
theorem uJ_at' (N : MJ) (g j : Nat) (v : Int64) {g' j' : Nat} (h : ¬ (g' = g ∧ j' = j)) : uJ N g j v g' j' = N g' j' := if_neg h
theorem v_courier {k nb no nc : Nat} {I P : MI} {J N : MJ} (h : IV k nb no nc I J P N) {x y z w : Int32} {m : Nat} (hx : x = nI (tn x)) (hxb : tn x < 12) (hy : y = nI (tn y)) (hyb : tn y < 12) (hz : z = nI m) (hm : m ≤ 1000000) (hnc : nc < 40) (hca : (m : Int) ≤ (J 0 (tn x)).toInt) : IV (k + 1) nb no (nc + 1) (i_courier I x y z w nc) (uJ J 0 (tn x) (J 0 (tn x) - z.toInt64)) (uI (uI (uI (uI (uI (uI P 40 0 0) 24 nc z) 22 nc x) 23 nc y) 25 nc (P 3 0 + w)) 2 0 (P 2 0 + 1)) (uJ N 0 (tn x) (N 0 (tn x) - z.toInt64)) := by
  have e2 := h.ints 2 0 (by unfold shd; omega)
  have e3 := h.ints 3 0 (by unfold shd; omega)
  have e0 : N 0 (tn x) = J 0 (tn x) := (h.debts (tn x)).1.symm
  obtain ⟨h1, h2, ⟨t, t1, t2⟩, h4, h5⟩ := h.th0 0
  obtain ⟨a1, a2, a3, a4, a5, a6, a7, a8⟩ := CK.up h2 (Nat.le_succ k) (B' := ((k + 1 : Nat) : Int) * 1000000000000000) (by omega)
  obtain ⟨⟨r1, r2, r3, r4⟩, hv, hq, hs, hzz⟩ := h1
  obtain ⟨q1, q2, q3, q4, q5, q6, q7⟩ := a1.1
  have q3' : I 2 0 = nI nc := q3.1
  have oI : ∀ g j, g ≠ 2 → ¬ (22 ≤ g ∧ g ≤ 26) → i_courier I x y z w nc g j = I g j := fun g j h1 h2 => by
    unfold i_courier
    rw [uI_at, if_neg (fun z => h1 z.1), uI_at, if_neg (fun z => by omega), uI_at, if_neg (fun z => by omega), uI_at, if_neg (fun z => by omega), uI_at, if_neg (fun z => by omega), uI_at, if_neg (fun z => by omega)]
  have oc : ∀ g j, g ≠ 2 → j ≠ nc → i_courier I x y z w nc g j = I g j := fun g j h1 h2 => by
    unfold i_courier
    rw [uI_at, if_neg (fun z => h1 z.1), uI_at, if_neg (fun z => h2 z.2), uI_at, if_neg (fun z => h2 z.2), uI_at, if_neg (fun z => h2 z.2), uI_at, if_neg (fun z => h2 z.2), uI_at, if_neg (fun z => h2 z.2)]
  have n22 : i_courier I x y z w nc 22 nc = x := by simp [i_courier, uI]
  have n23 : i_courier I x y z w nc 23 nc = y := by simp [i_courier, uI]
  have n24 : i_courier I x y z w nc 24 nc = z := by simp [i_courier, uI]
  have n26 : i_courier I x y z w nc 26 nc = 1 := by simp [i_courier, uI]
  have n2 : i_courier I x y z w nc 2 0 = nI (nc + 1) := by
    have : i_courier I x y z w nc 2 0 = I 2 0 + 1 := by simp [i_courier, uI]
    rw [this, q3', nI_1]
  generalize hP : uI (uI (uI (uI (uI (uI P 40 0 0) 24 nc z) 22 nc x) 23 nc y) 25 nc (P 3 0 + w)) 2 0 (P 2 0 + 1) = P'
  have oP : ∀ g j, g ≠ 2 → ¬ (22 ≤ g ∧ g ≤ 25) → P' g j = uI P 40 0 0 g j := fun g j h1 h2 => by
    rw [← hP, uI_at, if_neg (fun z => h1 z.1), uI_at, if_neg (fun z => by omega), uI_at, if_neg (fun z => by omega), uI_at, if_neg (fun z => by omega), uI_at, if_neg (fun z => by omega)]
  have R : ri (i_courier I x y z w nc) P' := by
    have R0 := ((((((ri.u r1 22 nc x).u 23 nc y).u 24 nc z).u 25 nc (I 3 0 + w)).iu 26 nc 1 (by unfold shd; omega)).u 2 0 (I 2 0 + 1))
    intro g j hg
    have := R0 g j hg
    refine Eq.trans ?_ this
    rw [← hP, e2, e3]
    by_cases c : g = 24
    · subst c; simp [uI]
    · simp [uI, c]
  refine ⟨⟨⟨R, r2.congr (fun j => oI 19 j (by decide) (by decide)) (fun j => oI 21 j (by decide) (by decide)) (fun j => oP 21 j (by decide) (by decide)), ?_, ?_⟩, fun c hc => ?_, hq.congr (fun g j hg => oI g j (by omega) (by omega)) (fun o ho => ?_), ?_, ?_⟩, ⟨⟨⟨⟨(oI 0 0 (by decide) (by decide)).trans q1.1, q1.2⟩, ⟨(oI 1 0 (by decide) (by decide)).trans q2.1, q2.2⟩, ⟨n2, by omega⟩, (show hw_bo (i_courier I x y z w nc 4 0) from (oI 4 0 (by decide) (by decide)) ▸ q4), fun i hi => ?_, q6.congr (fun g j hg => oI g j (by omega) (by omega)), fun c hc => ?_⟩, a1.2.1.congr q6 (fun g j hg => oI g j (by omega) (by omega)), a1.2.2.1.congr (fun i => oI 6 i (by decide) (by decide)), a1.2.2.2.u0 _ _⟩, fun j => ?_, a3.congr q6 (fun o _ => ⟨oI 19 o (by decide) (by decide), fun k _ => oI 20 _ (by decide) (by decide)⟩), ⟨fun o h1 h2 => ?_, fun c h1 h2 => ?_⟩, fun o ho => ?_, fun c hc => ?_, sk_u0 a7 _ _, fun j => ?_⟩, ⟨t, by omega, (oI 3 0 (by decide) (by decide)).trans t2⟩, fun c hc => ?_, h5.mv (fcr.same (fun g j hg => oI g j (by omega) (by omega)))⟩
  · rw [e0]; exact r3.u 0 _ _
  · obtain ⟨p1, p2, p3, p4, p5, p6⟩ := r4
    have o' : ∀ g j, (g = 16 ∨ g = 17 ∨ g = 19 ∨ g = 20) → P' g j = uI P 40 0 0 g j := fun g j hg => oP g j (by omega) (by omega)
    refine ⟨⟨(oP 0 0 (by decide) (by decide)).trans p1.1, p1.2⟩, ⟨(oP 1 0 (by decide) (by decide)).trans p2.1, p2.2⟩, ⟨(R 2 0 (by unfold shd; omega)).trans n2, by omega⟩, p4.congr (fun g j hg => o' g j (by omega)), fun c hc => ?_, fun o ho hg => ?_⟩
    · (try dsimp only); rw [R 22 c (by unfold shd; omega), R 23 c (by unfold shd; omega)]
      by_cases d : c = nc
      · subst d; rw [n22, n23]; exact ⟨⟨_, hxb, hx⟩, ⟨_, hyb, hy⟩⟩
      · rw [oc 22 c (by decide) d, oc 23 c (by decide) d]; exact q7 c (by omega)
    · have := p6 o ho ((o' 16 o (by omega)).symm.trans hg)
      unfold hw_pl hw_ln at this ⊢
      (try dsimp only)
      rw [o' 17 o (by omega), o' 19 o (by omega)]
      exact this
  · show P' 41 c = if i_courier I x y z w nc 26 c = 0 then 1 else 0
    rw [oP 41 c (by decide) (by decide)]
    by_cases d : c = nc
    · subst d
      rw [n26, if_neg (by decide)]
      exact h4 c (Nat.le_refl _)
    · rw [oc 26 c (by decide) d]; exact hv c (by omega)
  · show ∃ s : Nat, s ≤ 5 ∧ i_courier I x y z w nc 16 o = nI s
    rw [oI 16 o (by decide) (by decide)]; exact hq.2 o ho
  · obtain ⟨s0, s1, s2, s3⟩ := hs
    have n4 : ∀ j, uJ N 0 (tn x) (N 0 (tn x) - z.toInt64) 4 j = N 4 j := fun j => uJ_at' _ _ _ _ (fun z => absurd z.1 (by decide))
    refine ⟨?_, ?_, ?_, ?_⟩
    · show uJ N 0 (tn x) (N 0 (tn x) - z.toInt64) 4 0 = _
      rw [n4, show N 4 0 = _ from s0]
      exact sq_congr no 0 0 (fun j _ _ => ⟨Iff.rfl, fun _ => by (try dsimp only); rw [show i_courier I x y z w nc 14 j = I 14 j from oI 14 j (by decide) (by decide)]⟩)
    · show uJ N 0 (tn x) (N 0 (tn x) - z.toInt64) 4 1 = _
      rw [n4, show N 4 1 = _ from s1]
      exact sq_congr no 0 0 (fun j _ _ => ⟨by (try dsimp only); rw [show i_courier I x y z w nc 16 j = I 16 j from oI 16 j (by decide) (by decide)], fun _ => by (try dsimp only); rw [show i_courier I x y z w nc 12 j = I 12 j from oI 12 j (by decide) (by decide)]⟩)
    · show uJ N 0 (tn x) (N 0 (tn x) - z.toInt64) 4 2 = _
      rw [n4, show N 4 2 = _ from s2]
      exact sq_congr no 0 0 (fun j _ _ => ⟨by (try dsimp only); rw [show i_courier I x y z w nc 16 j = I 16 j from oI 16 j (by decide) (by decide)], fun _ => by (try dsimp only); rw [show i_courier I x y z w nc 14 j = I 14 j from oI 14 j (by decide) (by decide)]⟩)
    · show uJ N 0 (tn x) (N 0 (tn x) - z.toInt64) 4 3 = _
      rw [n4, show N 4 3 = _ from s3, lp_last, Nat.zero_add]
      have z27 : i_courier I x y z w nc 27 nc = 0 := (oI 27 nc (by decide) (by decide)).trans (a4.2 nc (Nat.le_refl _) hnc).1
      refine Eq.trans ?_ (if_neg (fun y => y z27)).symm
      exact sq_congr nc 0 0 (fun j _ hj => ⟨by (try dsimp only); rw [show i_courier I x y z w nc 27 j = I 27 j from oI 27 j (by decide) (by decide)], fun _ => by (try dsimp only); rw [show i_courier I x y z w nc 24 j = I 24 j from oc 24 j (by decide) (by omega)]⟩)
  · exact hzz
  · (try dsimp only); rw [show i_courier I x y z w nc 5 i = I 5 i from oI 5 i (by decide) (by decide)]; exact q5 i hi
  · show hw_ok (i_courier I x y z w nc 22 c) ∧ hw_ok (i_courier I x y z w nc 23 c)
    by_cases d : c = nc
    · subst d; rw [n22, n23]; exact ⟨⟨_, hxb, hx⟩, ⟨_, hyb, hy⟩⟩
    · rw [oc 22 c (by decide) d, oc 23 c (by decide) d]; exact q7 c (by omega)
  · (try dsimp only); rw [show i_courier I x y z w nc 10 j = I 10 j from oI 10 j (by decide) (by decide)]; exact a2 j
  · show i_courier I x y z w nc 17 o = 0 ∧ i_courier I x y z w nc 18 o = 0
    rw [oI 17 o (by decide) (by decide), oI 18 o (by decide) (by decide)]; exact a4.1 o h1 h2
  · show i_courier I x y z w nc 27 c = 0 ∧ i_courier I x y z w nc 26 c = 0
    rw [oI 27 c (by decide) (by decide), oc 26 c (by decide) (by omega)]; exact a4.2 c (by omega) h2
  · (try dsimp only); rw [show i_courier I x y z w nc 14 o = I 14 o from oI 14 o (by decide) (by decide)]; exact a5 o ho
  · show (∃ m : Nat, m ≤ 1000000 ∧ i_courier I x y z w nc 24 c = nI m) ∧ (¬ i_courier I x y z w nc 26 c = 0 → i_courier I x y z w nc 27 c = 0)
    rw [oI 27 c (by decide) (by decide)]
    by_cases d : c = nc
    · subst d; rw [n24]; exact ⟨⟨m, hm, hz⟩, fun _ => (a4.2 c (Nat.le_refl _) hnc).1⟩
    · rw [oc 24 c (by decide) d, oc 26 c (by decide) d]; exact a6 c (by omega)
  · show 0 ≤ (uJ J 0 (tn x) (J 0 (tn x) - z.toInt64) 0 j).toInt ∧ (uJ J 0 (tn x) (J 0 (tn x) - z.toInt64) 0 j).toInt ≤ 3000000 * ((k + 1 : Nat) : Int) + 1000000 * ((ar (i_courier I x y z w nc) nc + (if i_courier I x y z w nc 26 nc = 0 then 1 else 0) : Nat) : Int)
    rw [n26, if_neg (by decide), Nat.add_zero, ar_congr nc (fun c hc => oc 26 c (by decide) (by omega)), uJ_at]
    have hl : z.toInt64.toInt = m := by rw [i32l, hz, nI_toInt (by omega)]
    have h0 := a8 (tn x)
    have hlt := Int64.toInt_lt (J 0 (tn x))
    by_cases c : (0 : Nat) = 0 ∧ j = tn x
    · rw [if_pos c, i64sub (by rw [hl]; omega) (by rw [hl]; omega), hl]
      have h0' : 0 ≤ (J 0 (tn x)).toInt ∧ (J 0 (tn x)).toInt ≤ 3000000 * ((k + 1 : Nat) : Int) + 1000000 * (ar I nc : Int) := h0
      omega
    · rw [if_neg c]; exact a8 j
  · show P' 41 c = 0
    rw [oP 41 c (by decide) (by decide)]
    exact h4 c (by omega)
theorem v_rob {k nb no nc : Nat} {I P : MI} {J N : MJ} (h : IV k nb no nc I J P N) {x : Int32} (hx : tn x < nc) (hr : ¬ I 26 (tn x) = 0) : IV (k + 1) nb no nc (i_rob I x) J (uI (uI P 40 0 0) 41 (tn x) 1) (uJ N 4 3 (N 4 3 + (P 24 (tn x)).toInt64)) := by
  have e24 := h.ints 24 (tn x) (by unfold shd; omega)
  obtain ⟨h1, h2, ⟨t, t1, t2⟩, h4, h5⟩ := h.th0 0
  obtain ⟨a1, a2, a3, a4, a5, a6, a7, a8⟩ := CK.up h2 (Nat.le_succ k) (B' := ((k + 1 : Nat) : Int) * 1000000000000000) (by omega)
  obtain ⟨⟨r1, r2, r3, r4⟩, hv, hq, hs, hzz⟩ := h1
  have hnc := a1.1.2.2.1.2
  have oI : ∀ g j, g ≠ 26 → g ≠ 27 → i_rob I x g j = I g j := fun g j h1 h2 => by
    unfold i_rob
    rw [uI_at, if_neg (fun z => h2 z.1), uI_at, if_neg (fun z => h1 z.1)]
  have oc : ∀ g j, j ≠ tn x → i_rob I x g j = I g j := fun g j h1 => by
    unfold i_rob
    rw [uI_at, if_neg (fun z => h1 z.2), uI_at, if_neg (fun z => h1 z.2)]
  have n26 : i_rob I x 26 (tn x) = 0 := by simp [i_rob, uI]
  have n27 : i_rob I x 27 (tn x) = 1 := by simp [i_rob, uI]
  have oP : ∀ g j, g ≠ 41 → uI (uI P 40 0 0) 41 (tn x) 1 g j = uI P 40 0 0 g j := fun g j h1 => by rw [uI_at, if_neg (fun z => h1 z.1)]
  have n41 : ∀ c, c ≠ tn x → uI (uI P 40 0 0) 41 (tn x) 1 41 c = uI P 40 0 0 41 c := fun c hc => by rw [uI_at, if_neg (fun z => hc z.2)]
  have nN : ∀ g j, ¬ (g = 4 ∧ j = 3) → uJ N 4 3 (N 4 3 + (P 24 (tn x)).toInt64) g j = N g j := fun g j h => if_neg h
  refine ⟨⟨⟨fun g j hg => ?_, r2.congr (fun j => oI 19 j (by decide) (by decide)) (fun j => oI 21 j (by decide) (by decide)) (fun j => oP 21 j (by decide)), fun j => ?_, r4.congr (fun g j hg => oP g j (by omega))⟩, fun c hc => ?_, hq.congr (fun g j hg => oI g j (by omega) (by omega)) (fun o ho => ?_), ?_, ?_⟩, ⟨a1.congr (fun g j hg => oI g j (by omega) (by omega)) a1.2.2.2, fun j => ?_, a3.congr a1.1.2.2.2.2.2.1 (fun o _ => ⟨oI 19 o (by decide) (by decide), fun k _ => oI 20 _ (by decide) (by decide)⟩), ⟨fun o h1 h2 => ?_, fun c h1 h2 => ?_⟩, fun o ho => ?_, fun c hc => ?_, a7, fun j => ?_⟩, ⟨t, by omega, (oI 3 0 (by decide) (by decide)).trans t2⟩, fun c hc => (n41 c (by omega)).trans (h4 c hc), h5.mv (fcr.same (fun g j hg => oI g j (by omega) (by omega)))⟩
  · show uI (uI P 40 0 0) 41 (tn x) 1 g j = i_rob I x g j
    rw [oP g j (by unfold shd at hg; omega), oI g j (by unfold shd at hg; omega) (by unfold shd at hg; omega)]
    exact r1 g j hg
  · obtain ⟨b0, b1, b2⟩ := r3 j
    exact ⟨b0.trans (nN 0 j (by omega)).symm, b1.trans (nN 1 j (by omega)).symm, b2.trans (nN 2 j (by omega)).symm⟩
  · show uI (uI P 40 0 0) 41 (tn x) 1 41 c = if i_rob I x 26 c = 0 then 1 else 0
    by_cases d : c = tn x
    · rw [d, n26, if_pos rfl]; exact if_pos ⟨rfl, rfl⟩
    · rw [n41 c d, oc 26 c d]; exact hv c hc
  · show ∃ s : Nat, s ≤ 5 ∧ i_rob I x 16 o = nI s
    rw [oI 16 o (by decide) (by decide)]; exact hq.2 o ho
  · obtain ⟨s0, s1, s2, s3⟩ := hs
    have o14 : ∀ j, i_rob I x 14 j = I 14 j := fun j => oI 14 j (by decide) (by decide)
    have o12 : ∀ j, i_rob I x 12 j = I 12 j := fun j => oI 12 j (by decide) (by decide)
    have o16 : ∀ j, i_rob I x 16 j = I 16 j := fun j => oI 16 j (by decide) (by decide)
    refine ⟨?_, ?_, ?_, ?_⟩
    · show uJ N 4 3 (N 4 3 + (P 24 (tn x)).toInt64) 4 0 = _
      rw [nN 4 0 (by omega), show N 4 0 = _ from s0]
      exact sq_congr no 0 0 (fun j _ _ => ⟨Iff.rfl, fun _ => by (try dsimp only); rw [o14]⟩)
    · show uJ N 4 3 (N 4 3 + (P 24 (tn x)).toInt64) 4 1 = _
      rw [nN 4 1 (by omega), show N 4 1 = _ from s1]
      exact sq_congr no 0 0 (fun j _ _ => ⟨by (try dsimp only); rw [o16], fun _ => by (try dsimp only); rw [o12]⟩)
    · show uJ N 4 3 (N 4 3 + (P 24 (tn x)).toInt64) 4 2 = _
      rw [nN 4 2 (by omega), show N 4 2 = _ from s2]
      exact sq_congr no 0 0 (fun j _ _ => ⟨by (try dsimp only); rw [o16], fun _ => by (try dsimp only); rw [o14]⟩)
    · show uJ N 4 3 (N 4 3 + (P 24 (tn x)).toInt64) 4 3 = _
      have := sq_more (q := fun c => ¬ I 27 c = 0) (q' := fun c => ¬ i_rob I x 27 c = 0) (v := fun c => (I 24 c).toInt64) (v' := fun c => (i_rob I x 24 c).toInt64) (x := tn x) nc 0 0 (Nat.zero_le _) (by omega) (fun j hj => ⟨by (try dsimp only); rw [oc 27 j hj], fun _ => by (try dsimp only); rw [oc 24 j hj]⟩) (fun y => y ((a6 (tn x) hx).2 hr)) (by rw [n27]; decide)
      refine Eq.trans (if_pos ⟨rfl, rfl⟩) ?_
      rw [this, e24, show N 4 3 = _ from s3, oI 24 (tn x) (by decide) (by decide)]
  · show J 3 0 = uJ N 4 3 (N 4 3 + (P 24 (tn x)).toInt64) 4 4
    rw [nN 4 4 (by omega)]; exact hzz
  · (try dsimp only); rw [show i_rob I x 10 j = I 10 j from oI 10 j (by decide) (by decide)]; exact a2 j
  · show i_rob I x 17 o = 0 ∧ i_rob I x 18 o = 0
    rw [oI 17 o (by decide) (by decide), oI 18 o (by decide) (by decide)]; exact a4.1 o h1 h2
  · show i_rob I x 27 c = 0 ∧ i_rob I x 26 c = 0
    rw [oc 27 c (by omega), oc 26 c (by omega)]; exact a4.2 c h1 h2
  · (try dsimp only); rw [show i_rob I x 14 o = I 14 o from oI 14 o (by decide) (by decide)]; exact a5 o ho
  · show (∃ m : Nat, m ≤ 1000000 ∧ i_rob I x 24 c = nI m) ∧ (¬ i_rob I x 26 c = 0 → i_rob I x 27 c = 0)
    rw [oI 24 c (by decide) (by decide)]
    refine ⟨(a6 c hc).1, fun y => ?_⟩
    by_cases d : c = tn x
    · rw [d] at y; exact absurd n26 y
    · rw [oc 27 c d]; exact (a6 c hc).2 (fun w => y ((oc 26 c d).trans w))
  · show 0 ≤ (J 0 j).toInt ∧ (J 0 j).toInt ≤ 3000000 * ((k + 1 : Nat) : Int) + 1000000 * (ar (i_rob I x) nc : Int)
    rw [ar_more nc hx (fun c hc => oc 26 c hc) hr n26]
    have h0 : 0 ≤ (J 0 j).toInt ∧ (J 0 j).toInt ≤ 3000000 * ((k + 1 : Nat) : Int) + 1000000 * (ar I nc : Int) := a8 j
    omega
/-- debts that change, nothing else -/
theorem v_J {k nb no nc : Nat} {I P : MI} {J N J' N' : MJ} (h : IV k nb no nc I J P N) (hj : jr J' N') (hk : jk J J') (hb9 : bd J' (((k + 1 : Nat) : Int) * 1000000000000000)) (h4 : ∀ j, N' 4 j = N 4 j) (e : Int32) : IV (k + 1) nb no nc I J' (uI P 40 0 e) N' := by
  obtain ⟨h1, h2, ⟨t, t1, t2⟩, h5, h6⟩ := h.th0 e
  exact ⟨h1.cash hj (hk.2.1 0) h4, CK_jk (CK.up h2 (Nat.le_succ k) (Int.le_refl _)) (fun _ _ _ => rfl) hb9 hk, ⟨t, by omega, t2⟩, h5, h6⟩
theorem v_deliver {k nb no nc : Nat} {I P : MI} {J N : MJ} (h : IV k nb no nc I J P N) (hk9 : k ≤ 600) {x y z : Int32} (hxb : tn x < 12) (hyb : tn y < 12) : IV (k + 1) nb no nc I (j_deliver J x y z) (uI P 40 0 0) (pj_deliver N x y z) := by
  have ib := i32b (-z)
  refine v_J h (h.debts.known _ _ _) (jk_known J _ hxb hyb) (bd.mono (h.ci.2.2.2.known (X := 2147483648) (by rw [i32l]; omega) (by rw [i32l]; omega) (by omega)) (by omega)) (fun j => both_4 _ _ _ _ _) 0
theorem v_pay {k nb no nc : Nat} {I P : MI} {J N : MJ} (h : IV k nb no nc I J P N) (hk9 : k ≤ 600) {x y z : Int32} {m : Nat} (hxb : tn x < 12) (hyb : tn y < 12) (hxy : tn x ≠ tn y) (hz : z = nI m) (hm : m ≤ 1000000) (hca : (m : Int) ≤ (J 0 (tn x)).toInt) : IV (k + 1) nb no nc I (j_pay J x y z) (uI P 40 0 0) (pj_pay N x y z) := by
  have ib := i32b (-z)
  have e0 : ∀ j, N 0 j = J 0 j := fun j => (h.debts j).1.symm
  have j1 := h.debts.u 0 (tn x) (J 0 (tn x) - z.toInt64)
  have e1 := (j1 (tn y)).1
  have j2 := j1.u 0 (tn y) (uJ J 0 (tn x) (J 0 (tn x) - z.toInt64) 0 (tn y) + z.toInt64)
  have eN : pj_pay N x y z = ps_both (uJ (uJ N 0 (tn x) (J 0 (tn x) - z.toInt64)) 0 (tn y) (uJ J 0 (tn x) (J 0 (tn x) - z.toInt64) 0 (tn y) + z.toInt64)) (tn x) (tn y) (-z).toInt64 := by
    unfold pj_pay
    rw [e0, ← e1]
  have hl : z.toInt64.toInt = m := by rw [i32l, hz, nI_toInt (by omega)]
  obtain ⟨h1, h2, ⟨t, t1, t2⟩, h5, h6⟩ := h.th0 0
  have h2' := CK.up h2 (Nat.le_succ k) (Int.le_refl _)
  have a8 := h2.2.2.2.2.2.2.2
  have sk2 : sk (uJ (uJ J 0 (tn x) (J 0 (tn x) - z.toInt64)) 0 (tn y) (uJ J 0 (tn x) (J 0 (tn x) - z.toInt64) 0 (tn y) + z.toInt64)) := sk_u0 (sk_u0 h2.2.2.2.2.2.2.1 _ _) _ _
  have jk2 := jk_known (uJ (uJ J 0 (tn x) (J 0 (tn x) - z.toInt64)) 0 (tn y) (uJ J 0 (tn x) (J 0 (tn x) - z.toInt64) 0 (tn y) + z.toInt64)) (-z).toInt64 hxb hyb
  have bd2 : bd (j_pay J x y z) (((k + 1 : Nat) : Int) * 1000000000000000) := bd.mono (((h.ci.2.2.2.u0 _ _).u0 _ _).known (X := 2147483648) (by rw [i32l]; omega) (by rw [i32l]; omega) (by omega)) (by omega)
  have hle := ar_le I nc
  have hnc := h.ci.1.2.2.1.2
  refine ⟨h1.cash (by rw [eN]; exact j2.known _ _ _) ?_ (fun j => ?_), h2'.cash bd2 (jk2.2.2 sk2) (fun j => ?_), ⟨t, by omega, t2⟩, h5, h6⟩
  · exact (jk2.2.1 0).trans ((uJ_at' _ _ _ _ (fun z => absurd z.1 (by decide))).trans (uJ_at' _ _ _ _ (fun z => absurd z.1 (by decide))))
  · rw [eN, both_4]
    exact (uJ_at' _ _ _ _ (fun z => absurd z.1 (by decide))).trans (uJ_at' _ _ _ _ (fun z => absurd z.1 (by decide)))
  · have hx0 : 0 ≤ (J 0 (tn x)).toInt ∧ (J 0 (tn x)).toInt ≤ 3000000 * (k : Int) + 1000000 * (ar I nc : Int) := a8 (tn x)
    have hy0 : 0 ≤ (J 0 (tn y)).toInt ∧ (J 0 (tn y)).toInt ≤ 3000000 * (k : Int) + 1000000 * (ar I nc : Int) := a8 (tn y)
    have hj0 : 0 ≤ (J 0 j).toInt ∧ (J 0 j).toInt ≤ 3000000 * (k : Int) + 1000000 * (ar I nc : Int) := a8 j
    have ej : j_pay J x y z 0 j = uJ (uJ J 0 (tn x) (J 0 (tn x) - z.toInt64)) 0 (tn y) (uJ J 0 (tn x) (J 0 (tn x) - z.toInt64) 0 (tn y) + z.toInt64) 0 j := jk2.1 j
    show 0 ≤ (j_pay J x y z 0 j).toInt ∧ (j_pay J x y z 0 j).toInt ≤ 3000000 * ((k + 1 : Nat) : Int) + 1000000 * (ar I nc : Int)
    rw [ej, uJ_at' J 0 (tn x) _ (fun y => hxy y.2.symm), uJ_at]
    by_cases c : (0 : Nat) = 0 ∧ j = tn y
    · rw [if_pos c, i64add (by rw [hl]; omega) (by rw [hl]; omega), hl]
      omega
    · rw [if_neg c, uJ_at]
      by_cases d : (0 : Nat) = 0 ∧ j = tn x
      · rw [if_pos d, i64sub (by rw [hl]; omega) (by rw [hl]; omega), hl]
        omega
      · rw [if_neg d]; omega
/-! rings keep the bound -/
theorem known_neg {J : MJ} {B : Int} {a b : Nat} {v : Int64} (hs : sk J) (h : bd J B) (hB : B < 9223372036854775807) (ha : a < 12) (hb9 : b < 12) (hab : a ≠ b) (hv : 0 < v.toInt) (hle : v.toInt ≤ (J 1 (12 * a + b)).toInt) : bd (sp_known J a b (-v)) B ∧ ∀ j, j ≠ 12 * a + b → j ≠ 12 * b + a → sp_known J a b (-v) 1 j = J 1 j := by
  have hw : ∀ j, sp_known J a b (-v) 1 j = sp_change J a b (-v) 1 j := fun j => by
    show sp_write (sp_write (sp_change J a b (-v)) a b (-v)) b a (- -v) 1 j = _
    have e : ∀ (X : MJ) c d (u : Int64), sp_write X c d u 1 j = X 1 j := fun X c d u => by unfold sp_write; exact uJ_at' _ _ _ _ (fun z => absurd z.1 (by decide))
    rw [e, e]
  have p := h (12 * a + b)
  have hvl := Int64.toInt_lt v
  have hn : (-v).toInt = -v.toInt := by
    rw [Int64.toInt_neg]
    exact Int.bmod_eq_of_le (by omega) (by omega)
  have q := hs a b ha hb9
  have hjl := Int64.toInt_lt (J 1 (12 * a + b))
  have hq : (J 1 (12 * b + a)).toInt = -(J 1 (12 * a + b)).toInt := by
    rw [q, Int64.toInt_neg]
    exact Int.bmod_eq_of_le (by omega) (by omega)
  refine ⟨fun j => ?_, fun j h1 h2 => ?_⟩
  · rw [hw, sp_change_at]
    by_cases c1 : (1 : Nat) = 1 ∧ j = 12 * b + a
    · rw [if_pos c1, uJ_at, if_neg (fun z => hab (by omega)), i64sub (by rw [hn, hq]; omega) (by rw [hn, hq]; omega), hn, hq]
      omega
    · rw [if_neg c1]
      by_cases c2 : (1 : Nat) = 1 ∧ j = 12 * a + b
      · rw [if_pos c2, i64add (by rw [hn]; omega) (by rw [hn]; omega), hn]
        omega
      · rw [if_neg c2]; exact h j
  · rw [hw, sp_change_at, if_neg (fun z => h2 z.2), if_neg (fun z => h1 z.2)]
theorem cr_bd {J : MJ} {B : Int} {a b d : Nat} (hs : sk J) (h : bd J B) (hB : B < 9223372036854775807) (ha : a < 12) (hb9 : b < 12) (hd : d < 12) (hab : a ≠ b) (hbd : b ≠ d) (hda : d ≠ a) : bd (sp_cr J a b d).2 B ∧ jk J (sp_cr J a b d).2 := by
  unfold sp_cr
  by_cases c : 0 < lg_cmp (sp_le J a b d) 0
  · rw [if_pos c]
    have hv : 0 < (sp_le J a b d).toInt := by
      have := (lg_cmp_gt _ _).mp c
      rw [Int64.lt_iff_toInt_lt] at this
      exact this
    have m1 := min_toInt (J 1 (12 * a + b)) (sp_min (J 1 (12 * b + d)) (J 1 (12 * d + a)))
    have m2 := min_toInt (J 1 (12 * b + d)) (J 1 (12 * d + a))
    have e1 : (sp_le J a b d).toInt = min (J 1 (12 * a + b)).toInt (sp_min (J 1 (12 * b + d)) (J 1 (12 * d + a))).toInt := m1
    generalize sp_le J a b d = v at hv e1
    obtain ⟨b1, o1⟩ := known_neg (v := v) hs h hB ha hb9 hab hv (by omega)
    have j1 := jk_known J (-v) ha hb9
    obtain ⟨b2, o2⟩ := known_neg (v := v) (j1.2.2 hs) b1 hB hb9 hd hbd hv (by rw [o1 _ (by omega) (by omega)]; omega)
    have j2 := j1.tr (jk_known (sp_known J a b (-v)) (-v) hb9 hd)
    obtain ⟨b3, o3⟩ := known_neg (v := v) (j2.2.2 hs) b2 hB hd ha hda hv (by rw [o2 _ (by omega) (by omega), o1 _ (by omega) (by omega)]; omega)
    exact ⟨b3, j2.tr (jk_known _ (-v) hd ha)⟩
  · rw [if_neg c]
    exact ⟨h, jk_rf J⟩
theorem ring_bd {J : MJ} {B : Int} {nb : Nat} (hs : sk J) (h : bd J B) (hB : B < 9223372036854775807) (hnb : nb ≤ 12) : bd (sp_ring J nb).2 B ∧ jk J (sp_ring J nb).2 := by
  let Q : Int64 × MJ → Prop := fun σ => bd σ.2 B ∧ jk J σ.2
  have s1 : ∀ a b i (σ : Int64 × MJ), a < nb → b < nb → i < nb → Q σ → Q (sf_r1 a b i σ) := fun a b i σ ha hb9 hi hq => by
    unfold sf_r1
    by_cases c1 : nI a = nI b
    · rw [if_pos c1]; exact hq
    rw [if_neg c1]
    by_cases c2 : nI b = nI i
    · rw [if_pos c2]; exact hq
    rw [if_neg c2]
    by_cases c3 : nI i = nI a
    · rw [if_pos c3]; exact hq
    rw [if_neg c3]
    obtain ⟨u1, u2⟩ := cr_bd (a := a) (b := b) (d := i) (hq.2.2.2 hs) hq.1 hB (by omega) (by omega) (by omega) (fun z => c1 (congrArg nI z)) (fun z => c2 (congrArg nI z)) (fun z => c3 (congrArg nI z))
    exact ⟨u1, hq.2.tr u2⟩
  exact lp_inv (sf_r3 nb) (fun _ σ => Q σ) nb (fun a σ ha hq => lp_inv (sf_r2 nb a) (fun _ σ => Q σ) nb (fun b σ hb9 hq => lp_inv (sf_r1 a b) (fun _ σ => Q σ) nb (fun i σ hi hq => s1 a b i σ ha hb9 hi hq) nb 0 σ (by omega) hq) nb 0 σ (by omega) hq) nb 0 (0, J) (by omega) ⟨h, jk_rf J⟩
theorem ring_4 {N : MJ} {nb : Nat} (j : Nat) : (ps_ring N nb).2 4 j = N 4 j := by
  have c1 : ∀ a b d (X : MJ), (ps_clr X a b d).2 4 j = X 4 j := fun a b d X => by
    rw [clr_min]
    unfold pc_fin
    split
    · dsimp only
      rw [both_4, both_4, both_4]
    · rfl
  have s1 : ∀ a b i (σ : Int64 × MJ), (pf_r1 a b i σ).2 4 j = σ.2 4 j := fun a b i σ => by
    unfold pf_r1
    repeat' split
    all_goals first | rfl | exact c1 _ _ _ _
  exact lp_inv (pf_r3' nb) (fun _ σ => σ.2 4 j = N 4 j) nb (fun a σ _ hq => lp_inv (pf_r2' nb a) (fun _ σ => σ.2 4 j = N 4 j) nb (fun b σ _ hq => lp_inv (pf_r1 a b) (fun _ σ => σ.2 4 j = N 4 j) nb (fun i σ _ hq => (s1 a b i σ).trans hq) nb 0 σ (by omega) hq) nb 0 σ (by omega) hq) nb 0 (0, N) (by omega) rfl
theorem v_ring {k nb no nc : Nat} {I P : MI} {J N : MJ} (h : IV k nb no nc I J P N) (hk9 : k ≤ 600) : (sp_ring J nb).1 = (ps_ring N nb).1 ∧ IV (k + 1) nb no nc I (sp_ring J nb).2 (uI P 40 0 0) (ps_ring N nb).2 := by
  obtain ⟨r1, r2⟩ := ring_same (nb := nb) h.debts
  obtain ⟨b1, b2⟩ := ring_bd (nb := nb) h.2.1.2.2.2.2.2.2.1 h.ci.2.2.2 (by omega) h.ci.1.1.2
  exact ⟨r1, v_J h r2 b2 (b1.mono (by omega)) (fun j => ring_4 j) 0⟩
