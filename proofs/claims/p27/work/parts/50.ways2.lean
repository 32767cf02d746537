/-! ways on both sides -/
def hw_lm (I : MI) : Prop := ∀ j, ∃ m : Nat, m ≤ 1000000 ∧ I 10 j = nI m
theorem lim_same {I P : MI} (h : ri I P) (hl : hw_lm I) (i j : Nat) : (ps_lim P i j).toInt = (sp_lim I i j (I 4 0)).toInt := by
  have e4 : P 4 0 = I 4 0 := h 4 0 (by unfold shd; omega)
  have e10 : P 10 (12 * i + j) = I 10 (12 * i + j) := h 10 _ (by unfold shd; omega)
  have e11 : P 11 (12 * i + j) = I 11 (12 * i + j) := h 11 _ (by unfold shd; omega)
  obtain ⟨m, m1, m2⟩ := hl (12 * i + j)
  unfold ps_lim sp_lim
  rw [e4, e10, e11, m2]
  by_cases c1 : I 4 0 = 0
  · rw [if_pos c1, if_pos c1]; exact i32l _
  rw [if_neg c1, if_neg c1]
  by_cases c2 : I 11 (12 * i + j) = 0
  · rw [if_pos c2, if_pos c2]; exact i32l _
  rw [if_neg c2, if_neg c2]
  rw [show (2 : Int32) = nI 2 from rfl, pk_mul, nI_toInt (by omega), nI_l (by omega), show (2 : Int64) = lN 2 from rfl, lN_mul, lN_toInt (by omega)]
theorem bit_0 (a : Nat) : pf_bit 0 a = 0 := by
  unfold pf_bit
  rw [Int32.zero_shiftRight, Int32.zero_and]
theorem sp_start_39 {I : MI} {x am fe : Int32} : sp_start I x am fe 38 0 = am ∧ sp_start I x am fe 39 0 = fe := sp_start_38
/-- the fees and who may come to owe, the same on both sides -/
theorem fe_same {I P K : MI} (h : ri I P) {am : Int32} (h38 : K 38 0 = am) (h6 : ∀ j, K 6 j = I 6 j) : cfe K = mfe P am := by
  funext a
  unfold cfe mfe
  rw [h38, h6, h 6 a (by unfold shd; omega)]
theorem ow_same {I P K : MI} {J N : MJ} (h : ri I P) (hl : hw_lm I) (hj : jr J N) {am : Int32} (h38 : K 38 0 = am) (h39 : K 39 0 = I 4 0) (h10 : ∀ j, K 10 j = I 10 j) (h11 : ∀ j, K 11 j = I 11 j) : cow K J = mow P N am := by
  funext a c f
  unfold cow mow
  have e : sp_lim K c a (K 39 0) = sp_lim I c a (I 4 0) := by unfold sp_lim; rw [h39, h10, h11]
  rw [e, h38, (hj (12 * a + c)).2.1, lim_same h hl c a]
theorem op_same {I P K : MI} {nb : Nat} {mk : Int32} (h : ri I P) (hnb : nb ≤ 12) (h31 : ∀ a, a < 12 → ((¬ K 31 a = 0) ↔ (a < nb ∧ I 7 a = 0 ∧ pf_bit mk a = 0))) : cop K = mop P mk nb := by
  funext a
  unfold cop mop
  rw [h 7 a (by unfold shd; omega)]
  refine propext ⟨fun z => (h31 a z.1).mp z.2, fun z => ⟨by omega, (h31 a (by omega)).mpr z⟩⟩
/-- a new order's way: found on both sides, the same one, or on neither -/
theorem order_ways {I P : MI} {J N : MJ} {nb z : Nat} {x y : Int32} (h : ri I P) (hl : hw_lm I) (hj : jr J N) (hbc : I 0 0 = nI nb) (hnb : nb ≤ 12) (hrt : hw_rt I) (hbd : bd J 4611686018427387904) (hx : tn x < nb) (hy : y = nI (tn y)) (hyb : tn y < nb) (hxy : tn x ≠ tn y) (hz : z ≤ 1000000) :
    ((sp_fw I J (tn x) (tn y) (nI z)).1 = 0 ∧ po_far P N x y (nI z) nb) ∨
    ((sp_fw I J (tn x) (tn y) (nI z)).1 = 1 ∧ po_way P N x y (nI z) nb ∧ ∃ (n : Nat) (p : Nat → Nat), 1 ≤ n ∧ n < 12 ∧ po_n P N x y (nI z) nb = n ∧ (sp_fw I J (tn x) (tn y) (nI z)).2 37 0 = nI (n + 1) ∧ ∀ k, k ≤ n → p k < nb ∧ po_p P N x y (nI z) nb k = p k ∧ (sp_fw I J (tn x) (tn y) (nI z)).2 36 k = nI (p k) ∧ ∃ fk : Nat, fk ≤ 1300000 ∧ (sp_fw I J (tn x) (tn y) (nI z)).2 34 (p k) = nI fk ∧ ((po_W P N y (nI z) nb).2 5 (p k)).toInt = fk) := by
  have hst : ∀ g j, g ≠ 31 → g ≠ 38 → g ≠ 39 → sp_start I (I 0 0) (nI z) (I 4 0) g j = I g j := fun g j h1 h2 h3 => sp_start_oth h1 h2 h3
  have e38 : sp_start I (I 0 0) (nI z) (I 4 0) 38 0 = nI z := sp_start_38.1
  have e39 : sp_start I (I 0 0) (nI z) (I 4 0) 39 0 = I 4 0 := sp_start_38.2
  have eop : cop (sp_start I (I 0 0) (nI z) (I 4 0)) = mop P 0 nb := op_same h hnb (fun a ha => by
    rw [hbc, sp_start_31 hnb ha]
    exact ⟨fun q => ⟨q.1, q.2, bit_0 a⟩, fun q => ⟨q.1, q.2.1⟩⟩)
  have efe : cfe (sp_start I (I 0 0) (nI z) (I 4 0)) = mfe P (nI z) := fe_same h e38 (fun j => hst 6 j (by decide) (by decide) (by decide))
  have eow : cow (sp_start I (I 0 0) (nI z) (I 4 0)) J = mow P N (nI z) := ow_same h hl hj e38 e39 (fun j => hst 10 j (by decide) (by decide) (by decide)) (fun j => hst 11 j (by decide) (by decide) (by decide))
  obtain ⟨hd, hop, hfe, hm⟩ := dc_inst (I := sp_start I (I 0 0) (nI z) (I 4 0)) (J := J) (hrt.congr (fun i => hst 6 i (by decide) (by decide) (by decide))) ⟨z, hz, e38⟩ hbd
  rw [eop, efe, eow] at hd
  rw [eop] at hop
  rw [efe] at hfe
  rw [eow] at hm
  have hrtP : hw_rt P := hrt.congr (fun i => h 6 i (by unfold shd; omega))
  have hbdN : bd N 4611686018427387904 := fun j => by rw [← (hj j).2.1]; exact hbd j
  have hmc := mc_inst (P := P) (N := N) (am := nI z) (mk := 0) hnb hrtP hz rfl hbdN
  have hfs := (find_spec hd hop hfe hm (show tn x < 12 by omega) (show tn y < 12 by omega)).2
  rcases hfs with ⟨a1, a2⟩ | ⟨a1, n, f, p, b1, b2, b3, b4, b5, b6, b7⟩
  · exact Or.inl ⟨a1, po_far_of hmc hnb hy hyb hx a2⟩
  · have hn1 : 1 ≤ n := by
      rcases Nat.eq_zero_or_pos n with q | q
      · subst q; exact absurd (b4.1.symm.trans b4.2.1) hxy
      · exact q
    have hnn : n + 1 ≤ nb := b2 nb (fun a ha => ha.1)
    obtain ⟨w1, w2, w3⟩ := po_way_of hmc hnb hy hyb hn1 hnn b3 b4
    refine Or.inr ⟨a1, w1, n, p, hn1, b1, w2, b5, fun k hk => ?_⟩
    obtain ⟨fk, c1, c2, c3⟩ := b7 k hk
    have hpk : p k < nb := (rl_op c1.1).1
    have := (fws_best hmc hnb hyb hpk (by omega) c1).1.1
    refine ⟨by omega, w3 k hk, b6 k hk, fk, c3, c2, ?_⟩
    unfold po_W
    rw [hy]
    exact this
