/-! a new order: the relation behind it -/
theorem v_order {k nb no nc m : Nat} {I P : MI} {J N : MJ} {x y z v : Int32} (h : IV k nb no nc I J P N) (hk9 : k ≤ 600) (hxb : tn x < nb) (hy : y = nI (tn y)) (hyb : tn y < nb) (hxy : tn x ≠ tn y) (hz : z = nI m) (hm : m ≤ 1000000) (hno : no < 40) (hw : ¬ (sp_fw I J (tn x) (tn y) z).1 = 0) :
    po_way P N x y z nb ∧ IV (k + 1) nb (no + 1) nc (i2_order (sp_fw I J (tn x) (tn y) z).2 x z v no) (j_order (sp_fw I J (tn x) (tn y) z).2 J x z v no) (po_tell (po_L P N x y z v nb no).1 z (tn ((po_L P N x y z v nb no).1 5 (tn x)))) (po_L P N x y z v nb no).2 := by
  subst hz
  have hbd : bd J 4611686018427387904 := h.ci.2.2.2.mono (by omega)
  have hnb := h.ci.1.1.2
  obtain ⟨f1, f2⟩ := fw_spec (a := tn x) (b := tn y) (z := m) h.ci.1.1.1 hnb (by omega) (by omega) hxy hm h.ci.2.2.1 hbd
  have ow := order_ways (x := x) (y := y) (z := m) h.ints h.2.1.2.1 h.debts h.ci.1.1.1 hnb h.ci.2.2.1 hbd hxb hy hyb hxy hm
  rcases ow with ⟨q, _⟩ | ⟨_, w2, n, p, n1, n2, n3, n4, n5⟩
  · exact absurd q hw
  rcases f2 with q | ⟨_, n', p', m1, m2, m3, m4, m5, m6⟩
  · exact absurd q hw
  have hn : n' = n := by
    have := (nI_eq (a := n' + 1) (b := n + 1) (by omega) (by omega)).mp (m3.symm.trans n4)
    omega
  subst hn
  generalize (sp_fw I J (tn x) (tn y) (nI m)).2 = K at *
  refine ⟨w2, ?_⟩
  have hpp : ∀ k, k ≤ n' → p k = p' k := fun k hk => by
    have h1 := (n5 k hk).1
    have h2 := (m6 k hk).1
    exact (nI_eq (by omega) (by omega)).mp ((n5 k hk).2.2.1.symm.trans (m6 k hk).2.1)
  have hp0 : p 0 = tn x := (hpp 0 (Nat.zero_le _)).trans m4
  have hdf : ∀ k, k ≤ n' → ∀ j, j < k → p j ≠ p k := fun k hk j hj => by
    rw [hpp k hk, hpp j (by omega)]
    exact (m6 k hk).2.2.1 j hj
  have p1K : tn (K 37 0) = n' + 1 := by rw [n4]; exact nI_clamp (by omega)
  obtain ⟨_, _, q36, g0, q1, q2, q3⟩ := n5 0 (Nat.zero_le _)
  rw [hp0] at q36 q2 q3
  have hg : g_order K (nI m) = nI (m + g0) := by
    unfold g_order
    rw [p1K, if_pos (by omega), q36, show tn (nI (tn x)) = tn x from nI_clamp (by omega), q2, nI_add]
  generalize hW : po_W P N y (nI m) nb = W at *
  have hpg : po_g W x (nI m) = nI (m + g0) := by
    unfold po_g
    have e5 : W.2 5 (tn x) = lN g0 := Int64.toInt_inj.mp (q3.trans (lN_toInt (by omega)).symm)
    rw [e5, nI_l (by omega), lN_add, lN_i]
  have eW1 : ∀ g j, g ≠ 42 → W.1 g j = P g j := fun g j hg => by rw [← hW]; exact fws_oth hg
  have eW2 : ∀ g j, g ≠ 5 → W.2 g j = N g j := fun g j hg => by rw [← hW]; exact fws_N hg
  generalize hI0 : i0_order K (nI m) v no = I0
  have oI0 : ∀ g j, ¬ ((12 ≤ g ∧ g ≤ 16) ∧ j = no) → I0 g j = K g j := fun g j hg => by
    rw [← hI0]
    unfold i0_order
    rw [uI_at, if_neg (fun z => hg ⟨by omega, z.2⟩), uI_at, if_neg (fun z => hg ⟨by omega, z.2⟩), uI_at, if_neg (fun z => hg ⟨by omega, z.2⟩), uI_at, if_neg (fun z => hg ⟨by omega, z.2⟩), uI_at, if_neg (fun z => hg ⟨by omega, z.2⟩)]
  have i12 : I0 12 no = nI m := by rw [← hI0]; simp [i0_order, uI]
  have i13 : I0 13 no = v := by rw [← hI0]; simp [i0_order, uI]
  have i14 : I0 14 no = nI (m + g0) := by rw [← hI0, ← hg]; simp [i0_order, uI]
  have i15 : I0 15 no = K 3 0 := by rw [← hI0]; simp [i0_order, uI]
  have i16 : I0 16 no = 0 := by rw [← hI0]; simp [i0_order, uI]
  have ePK : ∀ g j, g ≠ 42 → g ≠ 43 → po_K P N x y (nI m) nb g j = P g j := fun g j h1 h2 => po_K_oth h2 h1
  generalize hQ : po_P (po_K P N x y (nI m) nb) W x (nI m) v no = Q
  have oQ : ∀ g j, ¬ ((12 ≤ g ∧ g ≤ 16) ∧ j = no) → ¬ (g = 1 ∧ j = 0) → g ≠ 40 → Q g j = po_K P N x y (nI m) nb g j := fun g j h1 h2 h3 => by
    rw [← hQ]
    unfold po_P
    rw [uI_at, if_neg (fun z => h1 ⟨by omega, z.2⟩), uI_at, if_neg (fun z => h1 ⟨by omega, z.2⟩), uI_at, if_neg (fun z => h1 ⟨by omega, z.2⟩), uI_at, if_neg (fun z => h1 ⟨by omega, z.2⟩), uI_at, if_neg (fun z => h1 ⟨by omega, z.2⟩), uI_at, if_neg h2, uI_at, if_neg (fun z => h3 z.1)]
  have u12 : Q 12 no = nI m := by rw [← hQ]; simp [po_P, uI]
  have u13 : Q 13 no = v := by rw [← hQ]; simp [po_P, uI]
  have u14 : Q 14 no = nI (m + g0) := by rw [← hQ, ← hpg]; simp [po_P, uI]
  have u15 : Q 15 no = P 3 0 := by
    have : Q 15 no = po_K P N x y (nI m) nb 3 0 := by rw [← hQ]; simp [po_P, uI]
    rw [this]; exact ePK 3 0 (by decide) (by decide)
  have u16 : Q 16 no = 0 := by rw [← hQ]; simp [po_P, uI]
  have u1 : Q 1 0 = nI (no + 1) := by
    have e : Q 1 0 = po_K P N x y (nI m) nb 1 0 + 1 := by rw [← hQ]; simp [po_P, uI]
    rw [e, ePK 1 0 (by decide) (by decide), h.pv.2.1.1, nI_1]
  have hr' : ∀ g j, shd g → g ≠ 1 → Q g j = I0 g j := fun g j hs h1 => by
    by_cases c : (12 ≤ g ∧ g ≤ 16) ∧ j = no
    · obtain ⟨c1, rfl⟩ := c
      rcases (show g = 12 ∨ g = 13 ∨ g = 14 ∨ g = 15 ∨ g = 16 by omega) with rfl | rfl | rfl | rfl | rfl
      · rw [u12, i12]
      · rw [u13, i13]
      · rw [u14, i14]
      · rw [u15, i15, f1 3 0 (by decide)]; exact h.ints 3 0 (by unfold shd; omega)
      · rw [u16, i16]
    · rw [oQ g j c (fun z => h1 z.1) (by unfold shd at hs; omega), ePK g j (by unfold shd at hs; omega) (by unfold shd at hs; omega), oI0 g j c, f1 g j (by unfold shd at hs; omega)]
      exact h.ints g j hs
  have e0 : ∀ j, N 0 j = J 0 j := fun j => (h.debts j).1.symm
  generalize hJ0 : uJ J 0 (tn x) (J 0 (tn x) + (nI (m + g0)).toInt64) = J0
  generalize hN0 : po_N Q W x no = N0
  have oJ0 : ∀ g j, g ≠ 0 → J0 g j = J g j := fun g j hg => by rw [← hJ0]; exact uJ_at' _ _ _ _ (fun z => hg z.1)
  have oN0 : ∀ g j, g ≠ 0 → g ≠ 5 → ¬ (g = 4 ∧ j = 0) → N0 g j = N g j := fun g j h1 h2 h3 => by
    rw [← hN0]
    unfold po_N
    rw [uJ_at' _ _ _ _ h3, uJ_at' _ _ _ _ (fun z => h1 z.1), eW2 g j h2]
  have n05 : ∀ j, N0 5 j = W.2 5 j := fun j => by
    rw [← hN0]
    unfold po_N
    rw [uJ_at' _ _ _ _ (fun z => absurd z.1 (by decide)), uJ_at' _ _ _ _ (fun z => absurd z.1 (by decide))]
  have n00 : ∀ j, N0 0 j = J0 0 j := fun j => by
    rw [← hN0, ← hJ0]
    unfold po_N
    rw [uJ_at' _ _ _ _ (fun z => absurd z.1 (by decide)), uJ_at, uJ_at, u14, eW2 0 _ (by decide), eW2 0 _ (by decide), e0, e0]
  have n04 : N0 4 0 = N 4 0 + (nI (m + g0)).toInt64 := by
    rw [← hN0]
    unfold po_N
    rw [uJ_at, if_pos ⟨rfl, rfl⟩, u14, eW2 4 0 (by decide)]
  have hj0 : jr J0 N0 := fun j => by
    obtain ⟨b0, b1, b2⟩ := h.debts j
    exact ⟨(n00 j).symm, by rw [oJ0 1 j (by decide), oN0 1 j (by decide) (by decide) (by omega)]; exact b1, by rw [oJ0 2 j (by decide), oN0 2 j (by decide) (by decide) (by omega)]; exact b2⟩
  obtain ⟨h1', h2, ⟨t, t1, t2⟩, h4, h5⟩ := id h
  obtain ⟨a1, a2, a3, a4, a5, a6, a7, a8⟩ := CK.up h2 (Nat.le_succ k) (B' := (k : Int) * 1000000000000000) (Int.le_refl _)
  replace a1 : hw_ci I J nb no nc ((k : Int) * 1000000000000000) := a1
  replace a3 : hw_wb I no nb := a3
  replace a4 : hw_fr I no nc := a4
  obtain ⟨⟨r1, r2, r3, r4⟩, hv9, hq, ⟨s0, s1, s2, s3⟩, hzz⟩ := h1'
  have z17 : I0 17 no = nI 0 := by
    rw [oI0 17 no (by omega), f1 17 no (by decide), (a4.1 no (Nat.le_refl _) hno).1]; rfl
  have z37 : I0 37 0 = nI (n' + 1) := (oI0 37 0 (by omega)).trans n4
  obtain ⟨l1, l2, l3, l4, l5⟩ := lay_gen (K := I0) (P := Q) (J := J0) (N := N0) (i := no) (q := 0) (n := n') (m := m) (p := p) hr' hj0 z37 (by omega) i12 hm z17 (fun k hk => by
    obtain ⟨b0, b1, b2, f, b3, b4, b5⟩ := n5 k hk
    refine ⟨by omega, (oI0 36 k (by omega)).trans b2, ?_, f, b3, (oI0 34 _ (by omega)).trans b4, by rw [n05]; exact b5⟩
    rw [oQ 43 k (by omega) (by omega) (by decide), po_K_at hy w2 (by rw [n3]; exact hk), b1])
  obtain ⟨tw, tz, tor, tdf⟩ := take_new (K := I0) (i := no) (n := n') (p := p) z37 n2 n1 (by rw [z17]; rfl) (fun k hk => ⟨by have := (n5 k hk).1; omega, (oI0 36 k (by omega)).trans (n5 k hk).2.2.1, hdf k hk⟩)
  have eL : po_L P N x y (nI m) v nb no = ps_lay Q N0 no 0 n' := by
    unfold po_L
    rw [hW, hQ, hN0, n3]
  rw [eL]
  have e1o : i1_order K (nI m) v no = sp_take I0 no 0 (n' + 1) := by
    unfold i1_order
    rw [hI0, p1K]
  have ej : j_order K J x (nI m) v no = lp (sf_la (sp_take I0 no 0 (n' + 1)) no) n' 0 J0 := by
    unfold j_order
    rw [e1o, p1K, take_ne (by decide) (by decide) (by decide), i14, hJ0]
    rfl
  have ei : i2_order K x (nI m) v no = uI (sp_tell (sp_take I0 no 0 (n' + 1)) (tn (K 5 (tn x))) (nI m)) 1 0 (nI (no + 1)) := by
    unfold i2_order
    rw [e1o]
  rw [ej, ei]
  have tin : ∀ k, k ≤ n' → sp_take I0 no 0 (n' + 1) 20 (12 * no + k) = nI (p k) := fun k hk => by
    have := (take_at (i := no) (q := 0) z37 (by omega) (show k < n' + 1 by omega)).1
    rw [Nat.zero_add] at this
    rw [this]
    exact (oI0 36 k (by omega)).trans (n5 k hk).2.2.1
  have t19 : sp_take I0 no 0 (n' + 1) 19 no = nI (n' + 1) := by rw [take_19, Nat.zero_add]
  have tot : ∀ g j, ¬ (g = 19 ∧ j = no) → ¬ ((g = 20 ∨ g = 21) ∧ 12 * no ≤ j ∧ j < 12 * no + (n' + 1)) → sp_take I0 no 0 (n' + 1) g j = I0 g j := fun g j h1 h2 => take_oth h1 (fun z => h2 ⟨z.1, by omega, by omega⟩)
  have lot : ∀ g j, ¬ (g = 19 ∧ j = no) → ¬ ((g = 20 ∨ g = 21) ∧ 12 * no ≤ j ∧ j < 12 * no + (n' + 1)) → (ps_lay Q N0 no 0 n').1 g j = Q g j := fun g j h1 h2 => l3 g j h1 (fun z => h2 ⟨z.1, by omega, by omega⟩)
  simp only [Nat.zero_add] at l2
  generalize sp_take I0 no 0 (n' + 1) = T at *
  generalize ps_lay Q N0 no 0 n' = L at *
  have e5 : tn (L.1 5 (tn x)) = tn (K 5 (tn x)) := by
    rw [l1 5 _ (by unfold shd; omega) (by decide), tot 5 _ (by omega) (by omega), oI0 5 _ (by omega)]
  rw [e5]
  generalize tn (K 5 (tn x)) = tw9
  -- what the class's numbers are
  generalize hI2 : uI (sp_tell T tw9 (nI m)) 1 0 (nI (no + 1)) = I2
  generalize hP2 : po_tell L.1 (nI m) tw9 = P2
  have oI2 : ∀ g j, ¬ (g = 1 ∧ j = 0) → g ≠ 29 → I2 g j = T g j := fun g j h1 h2 => by
    rw [← hI2, uI_at, if_neg h1]
    exact tell_ne h2
  have oP2 : ∀ g j, g ≠ 29 → P2 g j = L.1 g j := fun g j h2 => by
    rw [← hP2]
    unfold po_tell
    rw [uI_at, if_neg (fun z => h2 z.1)]
  have oI : ∀ g j, ¬ (g = 1 ∧ j = 0) → g ≠ 29 → ¬ ((12 ≤ g ∧ g ≤ 16) ∧ j = no) → ¬ (g = 19 ∧ j = no) → ¬ ((g = 20 ∨ g = 21) ∧ 12 * no ≤ j ∧ j < 12 * no + (n' + 1)) → ¬ (31 ≤ g ∧ g ≤ 39) → I2 g j = I g j := fun g j c1 c2 c3 c4 c5 c6 => by
    rw [oI2 g j c1 c2, tot g j c4 c5, oI0 g j c3, f1 g j c6]
  have oF : ∀ g j, g ≠ 1 → g ≠ 29 → ¬ (12 ≤ g ∧ g ≤ 16) → ¬ (19 ≤ g ∧ g ≤ 21) → ¬ (31 ≤ g ∧ g ≤ 39) → I2 g j = I g j := fun g j c1 c2 c3 c4 c5 => oI g j (by omega) c2 (by omega) (by omega) (by omega) c5
  have oP : ∀ g j, g ≠ 1 → g ≠ 29 → ¬ (12 ≤ g ∧ g ≤ 16) → ¬ (19 ≤ g ∧ g ≤ 21) → g ≠ 40 → g ≠ 42 → g ≠ 43 → P2 g j = P g j := fun g j c1 c2 c3 c4 c5 c6 c7 => by
    rw [oP2 g j c2, lot g j (by omega) (by omega), oQ g j (by omega) (by omega) c5, ePK g j c6 c7]
  have i2_1 : I2 1 0 = nI (no + 1) := by rw [← hI2]; exact if_pos ⟨rfl, rfl⟩
  have R : ri I2 P2 := fun g j hs => by
    by_cases c1 : g = 29
    · subst c1
      have eT : ∀ i, L.1 28 i = T 28 i ∧ L.1 29 i = T 29 i := fun i => ⟨l1 28 i (by unfold shd; omega) (by decide), l1 29 i (by unfold shd; omega) (by decide)⟩
      rw [← hP2, ← hI2, uI_at _ 1 0, if_neg (fun z => absurd z.1 (by decide))]
      unfold po_tell sp_tell
      rw [(eT tw9).1, (eT tw9).2]
      by_cases c : nI m ≤ T 28 tw9
      · rw [if_pos c, if_pos c, uI_at]
        by_cases d : (29 : Nat) = 29 ∧ j = tw9
        · rw [if_pos d, d.2]; exact Int32.add_zero _
        · rw [if_neg d]; exact (eT j).2
      · rw [if_neg c, if_neg c, uI_at, uI_at]
        by_cases d : (29 : Nat) = 29 ∧ j = tw9
        · rw [if_pos d, if_pos d]
        · rw [if_neg d, if_neg d]; exact (eT j).2
    · rw [oP2 g j c1]
      by_cases c2 : g = 1
      · subst c2
        rw [lot 1 j (by omega) (by omega)]
        by_cases d : j = 0
        · subst d; rw [u1, i2_1]
        · rw [oQ 1 j (by omega) (by omega) (by decide), ePK 1 j (by decide) (by decide), oI 1 j (by omega) (by decide) (by omega) (by omega) (by omega) (by decide)]
          exact h.ints 1 j hs
      · rw [l1 g j hs c2, oI2 g j (by omega) c1]
  have hlo : ∀ o, o ≠ no → hw_ln I2 o = hw_ln I o := fun o ho => by unfold hw_ln; rw [oI 19 o (by omega) (by decide) (by omega) (by omega) (by omega) (by decide)]
  have hln : hw_ln I2 no = n' := by
    unfold hw_ln
    rw [oI2 19 no (by omega) (by decide), t19, nI_clamp (by omega)]
    omega
  have in20 : ∀ k, k ≤ n' → I2 20 (12 * no + k) = nI (p k) := fun k hk => (oI2 20 _ (by omega) (by decide)).trans (tin k hk)
  have i2_12 : I2 12 no = nI m := by rw [oI2 12 no (by omega) (by decide), tot 12 no (by omega) (by omega), i12]
  have i2_14 : I2 14 no = nI (m + g0) := by rw [oI2 14 no (by omega) (by decide), tot 14 no (by omega) (by omega), i14]
  have i2_15 : I2 15 no = I 3 0 := by rw [oI2 15 no (by omega) (by decide), tot 15 no (by omega) (by omega), i15, f1 3 0 (by decide)]
  have i2_16 : I2 16 no = 0 := by rw [oI2 16 no (by omega) (by decide), tot 16 no (by omega) (by omega), i16]
  have i2_18 : I2 18 no = 0 := (oF 18 no (by decide) (by decide) (by decide) (by decide) (by decide)).trans (a4.1 no (Nat.le_refl _) hno).2
  have old : ∀ o, o < no → ∀ g, (12 ≤ g ∧ g ≤ 19) → I2 g o = I g o := fun o ho g hg => oI g o (by omega) (by omega) (by omega) (by omega) (by omega) (by omega)
  have old20 : ∀ o, o < no → ∀ k, k < 12 → I2 20 (12 * o + k) = I 20 (12 * o + k) ∧ I2 21 (12 * o + k) = I 21 (12 * o + k) ∧ P2 21 (12 * o + k) = P 21 (12 * o + k) := fun o ho k hk => ⟨oI 20 _ (by omega) (by decide) (by omega) (by omega) (by omega) (by decide), oI 21 _ (by omega) (by decide) (by omega) (by omega) (by omega) (by decide), by rw [oP2 21 _ (by decide), lot 21 _ (by omega) (by omega), oQ 21 _ (by omega) (by omega) (by decide), ePK 21 _ (by decide) (by decide)]⟩
  have hos := a1.1.2.2.2.2.2.1
  have hos2 : hw_os I2 (no + 1) := fun o ho => by
    rcases Nat.lt_or_ge o no with q | q
    · exact (hos o q).congr (old o q 17 (by omega)) (old o q 19 (by omega)) (fun k hk => (old20 o q k hk).1)
    · obtain rfl : o = no := by omega
      exact tor.congr (oI2 17 o (by omega) (by decide)) (oI2 19 o (by omega) (by decide)) (fun k hk => oI2 20 _ (by omega) (by decide))
  have jl := jk_las (I := T) (i := no) (n := n') (q := 0) (ln := n') J0 tw.2.2 (by omega)
  have bl : bd (lp (sf_la T no) n' 0 J0) (((k + 1 : Nat) : Int) * 1000000000000000) := (bd.lp (fun k J B hb h => hb.la h) n' 0 J0 _ (fun j => by rw [oJ0 1 j (by decide)]; exact a1.2.2.2 j) (by omega)).mono (by omega)
  have sk0 : sk J0 := fun a b ha hb9 => by rw [oJ0 1 _ (by decide), oJ0 1 _ (by decide)]; exact a7 a b ha hb9
  have i2_3 : I2 3 0 = I 3 0 := oF 3 0 (by decide) (by decide) (by decide) (by decide) (by decide)
  refine ⟨⟨⟨R, fun o ho k' hk' => ?_, l4, ?_⟩, fun c hc => ?_, ⟨?_, fun o ho => ?_⟩, ⟨?_, ?_, ?_, ?_⟩, ?_⟩, ⟨⟨⟨⟨(oF 0 0 (by decide) (by decide) (by decide) (by decide) (by decide)).trans a1.1.1.1, hnb⟩, ⟨i2_1, by omega⟩, ⟨(oF 2 0 (by decide) (by decide) (by decide) (by decide) (by decide)).trans a1.1.2.2.1.1, a1.1.2.2.1.2⟩, ?_, fun i hi => ?_, hos2, a1.1.2.2.2.2.2.2.congr (fun g j hg => oF g j (by omega) (by omega) (by omega) (by omega) (by omega))⟩, fun o ho => ?_, a1.2.2.1.congr (fun i => oF 6 i (by decide) (by decide) (by decide) (by decide) (by decide)), bl⟩, fun j => ?_, fun o ho k' hk' => ?_, ⟨fun o h1 h2 => ?_, fun c h1 h2 => ?_⟩, fun o ho => ?_, fun c hc => ?_, jl.2.2 sk0, fun j => ?_⟩, ⟨t, by omega, i2_3.trans t2⟩, fun c hc => ?_, fun o ho hs => ?_⟩
  · -- steps
    show P2 21 (12 * o + k') = I2 21 (12 * o + k') ∧ ∃ m : Nat, m ≤ 2300000 ∧ I2 21 (12 * o + k') = nI m
    have hk9 : k' < hw_ln I2 o := hk'
    rcases Nat.lt_or_ge o no with q | q
    · rw [hlo o (by omega)] at hk9
      have h11 := (hos o q).1.1
      obtain ⟨_, b1, b2⟩ := old20 o q k' (by omega)
      rw [b1, b2]
      exact r2 o q k' hk9
    · obtain rfl : o = no := by omega
      rw [hln] at hk9
      rw [oI2 21 _ (by omega) (by decide), oP2 21 _ (by decide)]
      exact l2 k' hk9
  · -- the model's invariant
    obtain ⟨p1, p2, p3, p4, p5, p6⟩ := r4
    refine ⟨⟨(oP 0 0 (by decide) (by decide) (by decide) (by decide) (by decide) (by decide) (by decide)).trans p1.1, p1.2⟩, ⟨(R 1 0 (by unfold shd; omega)).trans i2_1, by omega⟩, ⟨(oP 2 0 (by decide) (by decide) (by decide) (by decide) (by decide) (by decide) (by decide)).trans p3.1, p3.2⟩, hos2.congr (fun g j hg => R g j (by unfold shd; omega)), p5.congr (fun g j hg => oP g j (by omega) (by omega) (by omega) (by omega) (by omega) (by omega) (by omega)), fun o ho hg => ?_⟩
    have hg9 : P2 16 o = 0 := hg
    show hw_pl P2 o < hw_ln P2 o
    have x1 : hw_pl P2 o = hw_pl I2 o := pl_eq R o
    have x2 : hw_ln P2 o = hw_ln I2 o := ln_eq R o
    rw [x1, x2]
    rcases Nat.lt_or_ge o no with q | q
    · have e16 : P 16 o = 0 := by
        rw [R 16 o (by unfold shd; omega), old o q 16 (by omega)] at hg9
        exact (r1 16 o (by unfold shd; omega)).trans hg9
      have hlt := p6 o q e16
      have y1 : hw_pl P o = hw_pl I o := pl_eq r1 o
      have y2 : hw_ln P o = hw_ln I o := ln_eq r1 o
      replace hlt : hw_pl P o < hw_ln P o := hlt
      rw [y1, y2] at hlt
      have : hw_pl I2 o = hw_pl I o := by unfold hw_pl; rw [old o q 17 (by omega)]
      rw [this, hlo o (by omega)]
      exact hlt
    · obtain rfl : o = no := by omega
      have : hw_pl I2 o = 0 := by
        unfold hw_pl
        rw [oI2 17 o (by omega) (by decide), tot 17 o (by omega) (by omega), z17]
        rfl
      rw [this, hln]
      omega
  · show P2 41 c = if I2 26 c = 0 then 1 else 0
    rw [oP 41 c (by decide) (by decide) (by decide) (by decide) (by decide) (by decide) (by decide), oF 26 c (by decide) (by decide) (by decide) (by decide) (by decide)]
    exact hv9 c hc
  · obtain ⟨⟨t', b1, b2, b3⟩, _⟩ := hq
    refine ⟨t', b1, i2_3.trans b2, fun o ho => ?_⟩
    show ∃ g : Nat, g ≤ t' ∧ I2 15 o = nI g
    rcases Nat.lt_or_ge o no with q | q
    · rw [old o q 15 (by omega)]; exact b3 o q
    · obtain rfl : o = no := by omega
      exact ⟨t', Nat.le_refl _, i2_15.trans b2⟩
  · show ∃ s : Nat, s ≤ 5 ∧ I2 16 o = nI s
    rcases Nat.lt_or_ge o no with q | q
    · rw [old o q 16 (by omega)]; exact hq.2 o q
    · obtain rfl : o = no := by omega
      exact ⟨0, by omega, i2_16⟩
  · refine (l5 0).trans ?_
    rw [n04, show N 4 0 = _ from s0, lp_last, Nat.zero_add]
    refine Eq.trans ?_ (if_pos trivial).symm
    exact congr (congrArg HAdd.hAdd (sq_congr no 0 0 (fun j _ hj => ⟨Iff.rfl, fun _ => by (try dsimp only); rw [old j (by omega) 14 (by omega)]⟩))) (congrArg Int32.toInt64 i2_14.symm)
  · refine (l5 1).trans ((oN0 4 1 (by decide) (by decide) (by decide)).trans ?_)
    rw [show N 4 1 = _ from s1, lp_last, Nat.zero_add]
    refine Eq.trans ?_ (if_neg (fun z => absurd (i2_16.symm.trans z) (by decide))).symm
    exact sq_congr no 0 0 (fun j _ hj => ⟨by (try dsimp only); rw [old j (by omega) 16 (by omega)], fun _ => by (try dsimp only); rw [old j (by omega) 12 (by omega)]⟩)
  · refine (l5 2).trans ((oN0 4 2 (by decide) (by decide) (by decide)).trans ?_)
    rw [show N 4 2 = _ from s2, lp_last, Nat.zero_add]
    refine Eq.trans ?_ (if_neg (fun z => absurd (i2_16.symm.trans z) (by decide))).symm
    exact sq_congr no 0 0 (fun j _ hj => ⟨by (try dsimp only); rw [old j (by omega) 16 (by omega)], fun _ => by (try dsimp only); rw [old j (by omega) 14 (by omega)]⟩)
  · refine (l5 3).trans ((oN0 4 3 (by decide) (by decide) (by decide)).trans ?_)
    rw [show N 4 3 = _ from s3]
    exact sq_congr nc 0 0 (fun j _ hj => ⟨by (try dsimp only); rw [oF 27 j (by decide) (by decide) (by decide) (by decide) (by decide)], fun _ => by (try dsimp only); rw [oF 24 j (by decide) (by decide) (by decide) (by decide) (by decide)]⟩)
  · show lp (sf_la T no) n' 0 J0 3 0 = L.2 4 4
    rw [l5 4, oN0 4 4 (by decide) (by decide) (by decide), las_3, oJ0 3 0 (by decide)]
    exact hzz
  · show hw_bo (I2 4 0)
    rw [oF 4 0 (by decide) (by decide) (by decide) (by decide) (by decide)]
    exact a1.1.2.2.2.1
  · show ∃ t : Nat, t < 8 ∧ I2 5 i = nI t
    rw [oF 5 i (by decide) (by decide) (by decide) (by decide) (by decide)]
    exact a1.1.2.2.2.2.1 i hi
  · show hw_df I2 o ∧ hw_am I2 o
    rcases Nat.lt_or_ge o no with q | q
    · have h11 := (hos o q).1.1
      exact ⟨(a1.2.1 o q).1.congr h11 (old o q 19 (by omega)) (fun k hk => (old20 o q k hk).1), (a1.2.1 o q).2.congr (old o q 12 (by omega))⟩
    · obtain rfl : o = no := by omega
      have h11 := tor.1.1
      exact ⟨tdf.congr h11 (oI2 19 o (by omega) (by decide)) (fun k hk => oI2 20 _ (by omega) (by decide)), ⟨m, hm, i2_12⟩⟩
  · show ∃ m : Nat, m ≤ 1000000 ∧ I2 10 j = nI m
    rw [oF 10 j (by decide) (by decide) (by decide) (by decide) (by decide)]
    exact a2 j
  · show hw_at I2 o k' < nb
    have hk9 : k' ≤ hw_ln I2 o := hk'
    rcases Nat.lt_or_ge o no with q | q
    · have h11 := (hos o q).1.1
      rw [hlo o (by omega)] at hk9
      unfold hw_at
      rw [(old20 o q k' (by omega)).1]
      exact a3 o q k' hk9
    · obtain rfl : o = no := by omega
      rw [hln] at hk9
      unfold hw_at
      have := (n5 k' hk9).1
      rw [in20 k' hk9, nI_clamp (by omega)]
      exact this
  · show I2 17 o = 0 ∧ I2 18 o = 0
    rw [oF 17 o (by decide) (by decide) (by decide) (by decide) (by decide), oF 18 o (by decide) (by decide) (by decide) (by decide) (by decide)]
    exact a4.1 o (by omega) h2
  · show I2 27 c = 0 ∧ I2 26 c = 0
    rw [oF 27 c (by decide) (by decide) (by decide) (by decide) (by decide), oF 26 c (by decide) (by decide) (by decide) (by decide) (by decide)]
    exact a4.2 c h1 h2
  · show ∃ g : Nat, g ≤ 2300000 ∧ I2 14 o = nI g
    rcases Nat.lt_or_ge o no with q | q
    · rw [old o q 14 (by omega)]; exact a5 o q
    · obtain rfl : o = no := by omega
      exact ⟨m + g0, by omega, i2_14⟩
  · show (∃ m : Nat, m ≤ 1000000 ∧ I2 24 c = nI m) ∧ (¬ I2 26 c = 0 → I2 27 c = 0)
    rw [oF 24 c (by decide) (by decide) (by decide) (by decide) (by decide), oF 26 c (by decide) (by decide) (by decide) (by decide) (by decide), oF 27 c (by decide) (by decide) (by decide) (by decide) (by decide)]
    exact a6 c hc
  · show 0 ≤ (lp (sf_la T no) n' 0 J0 0 j).toInt ∧ (lp (sf_la T no) n' 0 J0 0 j).toInt ≤ 3000000 * ((k + 1 : Nat) : Int) + 1000000 * (ar I2 nc : Int)
    have a8' := h2.2.2.2.2.2.2.2
    have hle := ar_le I nc
    have hnc := a1.1.2.2.1.2
    have hx0 : 0 ≤ (J 0 (tn x)).toInt ∧ (J 0 (tn x)).toInt ≤ 3000000 * (k : Int) + 1000000 * (ar I nc : Int) := a8' (tn x)
    have hj0' : 0 ≤ (J 0 j).toInt ∧ (J 0 j).toInt ≤ 3000000 * (k : Int) + 1000000 * (ar I nc : Int) := a8' j
    rw [jl.1 j, ar_congr nc (fun c _ => oF 26 c (by decide) (by decide) (by decide) (by decide) (by decide)), ← hJ0, uJ_at]
    have el : (nI (m + g0)).toInt64.toInt = ((m + g0 : Nat) : Int) := by rw [i32l, nI_toInt (by omega)]
    by_cases c : (0 : Nat) = 0 ∧ j = tn x
    · rw [if_pos c, i64add (by rw [el]; omega) (by rw [el]; omega), el]
      omega
    · rw [if_neg c]; omega
  · show P2 41 c = 0
    rw [oP 41 c (by decide) (by decide) (by decide) (by decide) (by decide) (by decide) (by decide)]
    exact h4 c hc
  · rcases Nat.lt_or_ge o no with q | q
    · rw [old o q 16 (by omega)] at hs
      rw [old o q 18 (by omega)]
      exact h5 o q hs
    · obtain rfl : o = no := by omega
      exact ⟨0, by omega, i2_18⟩
