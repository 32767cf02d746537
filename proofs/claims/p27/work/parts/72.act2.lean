/-! one act: what comes out hangs on the ghost alone -/
def O1 (k nb no nc : Nat) (P : MI) (N : MJ) (K : MI → MJ → Int64 → MI → MJ → Prop) (b : Bool) : Prop :=
  ∃ (r : Int64) (nb' no' nc' : Nat) (P' : MI) (N' : MJ), GT b nb no nc P N nb' no' nc' P' N' ∧
    ((r = NO ∧ (nb' = nb ∧ no' = no ∧ nc' = nc) ∧ ∀ I J, IV k nb no nc I J P N → (∃ Ie Je, K I J NO Ie Je ∧ IV (k + 1) nb no nc Ie Je P' N') ∧ IV (k + 1) nb no nc I J P' N') ∨
     (¬ r = NO ∧ ∀ I J, IV k nb no nc I J P N → ∃ I' J', K I J r I' J' ∧ IV (k + 1) nb' no' nc' I' J' P' N'))
theorem O1.of {k nb no nc nb' no' nc' : Nat} {P P' : MI} {N N' : MJ} {K : MI → MJ → Int64 → MI → MJ → Prop} {b : Bool} {r : Int64} (hs : ∀ I J, IV k nb no nc I J P N → so k nb no nc K r nb' no' nc' P' N' I J) (hr : ¬ r = NO) (t0 : ¬ P' 40 0 = 0 → GT b nb no nc P N nb no nc P' N') (t1 : P' 40 0 = 0 → GT b nb no nc P N nb' no' nc' P' N') : O1 k nb no nc P N K b := by
  by_cases c9 : P' 40 0 = 0
  · refine ⟨r, nb', no', nc', P', N', t1 c9, Or.inr ⟨hr, fun I J h => ?_⟩⟩
    rcases hs I J h with ⟨a, _⟩ | ⟨_, I', J', o', h1, h2, h3⟩
    · exact absurd c9 a
    · subst h2; exact ⟨I', J', h1, h3⟩
  · refine ⟨NO, nb, no, nc, P', N', t0 c9, Or.inl ⟨rfl, ⟨rfl, rfl, rfl⟩, fun I J h => ?_⟩⟩
    rcases hs I J h with ⟨_, ⟨Ie, h1, h2⟩, h3⟩ | ⟨a, _⟩
    · exact ⟨⟨Ie, J, h1, h2⟩, h3⟩
    · exact absurd a c9
/-- a call that asks alone: it may answer anything -/
theorem O1.ofq {k nb no nc : Nat} {P P' : MI} {N N' : MJ} {K : MI → MJ → Int64 → MI → MJ → Prop} {b : Bool} {r : Int64} (hs : ∀ I J, IV k nb no nc I J P N → so k nb no nc K r nb no nc P' N' I J) (hq : ∀ I J, IV k nb no nc I J P N → IV (k + 1) nb no nc I J P' N') (t : GT b nb no nc P N nb no nc P' N') : O1 k nb no nc P N K b := by
  by_cases hr : r = NO
  · refine ⟨NO, nb, no, nc, P', N', t, Or.inl ⟨rfl, ⟨rfl, rfl, rfl⟩, fun I J h => ?_⟩⟩
    rcases hs I J h with ⟨_, ⟨Ie, h1, h2⟩, h3⟩ | ⟨_, I', J', o', h1, h2, h3⟩
    · exact ⟨⟨Ie, J, h1, h2⟩, h3⟩
    · subst h2
      rw [hr] at h1
      exact ⟨⟨I', J', h1, h3⟩, hq I J h⟩
  · exact O1.of hs hr (fun _ => t) (fun _ => t)
theorem O1.map {k nb no nc : Nat} {P : MI} {N : MJ} {K K' : MI → MJ → Int64 → MI → MJ → Prop} {b : Bool} (h : O1 k nb no nc P N K b) (f : ∀ I J r I' J', K I J r I' J' → K' I J r I' J') : O1 k nb no nc P N K' b := by
  obtain ⟨r, nb', no', nc', P', N', t, h⟩ := h
  refine ⟨r, nb', no', nc', P', N', t, ?_⟩
  rcases h with ⟨a, b, h⟩ | ⟨a, h⟩
  · refine Or.inl ⟨a, b, fun I J q => ?_⟩
    obtain ⟨⟨Ie, Je, h1, h2⟩, h3⟩ := h I J q
    exact ⟨⟨Ie, Je, f _ _ _ _ _ h1, h2⟩, h3⟩
  · refine Or.inr ⟨a, fun I J q => ?_⟩
    obtain ⟨I', J', h1, h2⟩ := h I J q
    exact ⟨I', J', f _ _ _ _ _ h1, h2⟩
theorem zero_ne : ¬ (0 : Int64) = NO := by decide
theorem zb_ne (x : Int32) : ¬ (if x = 0 then (0 : Int64) else 1) = NO := by
  split <;> decide
theorem q_if {k nb no nc : Nat} {I : MI} {J : MJ} {α : Type} {q : Prop} [Decidable q] {a b : α × MI × MJ} (ha : IV (k + 1) nb no nc I J a.2.1 a.2.2) (hb9 : IV (k + 1) nb no nc I J b.2.1 b.2.2) : IV (k + 1) nb no nc I J (if q then a else b).2.1 (if q then a else b).2.2 := by
  split
  · exact ha
  · exact hb9
theorem q_debt {k nb no nc : Nat} {I : MI} {J : MJ} {P : MI} {N : MJ} (h : IV k nb no nc I J P N) (x y z : Int32) : IV (k + 1) nb no nc I J (ps_debt P N x y z).2.1 (ps_debt P N x y z).2.2 := by
  unfold ps_debt
  exact q_if (h.th 1) (q_if (h.th 0) (h.th 0))
theorem q_sum {k nb no nc : Nat} {I : MI} {J : MJ} {P : MI} {N : MJ} (h : IV k nb no nc I J P N) (x : Int32) : IV (k + 1) nb no nc I J (ps_sum P N x nb no nc).2.1 (ps_sum P N x nb no nc).2.2 := by
  unfold ps_sum
  exact q_if (h.th 1) (h.th 0)
theorem O1_broker {k nb no nc : Nat} {I : MI} {J : MJ} {P : MI} {N : MJ} (h : IV k nb no nc I J P N) (hk9 : k ≤ 150) (x y z : Int32) : O1 k nb no nc P N (kL_broker x y z) true := O1.of (fun I9 J9 h9 => so_broker h9 (by omega)) (int_ne _) (gt_broker P N x y z h.ci.1.2.1.2).1 (gt_broker P N x y z h.ci.1.2.1.2).2
theorem O1_rate {k nb no nc : Nat} {I : MI} {J : MJ} {P : MI} {N : MJ} (h : IV k nb no nc I J P N) (hk9 : k ≤ 150) (x y : Int32) : O1 k nb no nc P N (kL_rate x y) false := O1.of (fun I9 J9 h9 => so_rate h9 (by omega)) (int_ne _) (fun _ => GT.ge (ge_rate P N x y)) (fun _ => GT.ge (ge_rate P N x y))
theorem O1_trust {k nb no nc : Nat} {I : MI} {J : MJ} {P : MI} {N : MJ} (h : IV k nb no nc I J P N) (hk9 : k ≤ 150) (x y z w : Int32) (hw : hw_bo w) : O1 k nb no nc P N (kL_trust x y z w) false := O1.of (fun I9 J9 h9 => so_trust hw h9 (by omega)) (zero_ne) (fun _ => GT.ge (ge_trust P N x y z w)) (fun _ => GT.ge (ge_trust P N x y z w))
theorem O1_breakWord {k nb no nc : Nat} {I : MI} {J : MJ} {P : MI} {N : MJ} (h : IV k nb no nc I J P N) (hk9 : k ≤ 150) (x : Int32) : O1 k nb no nc P N (kL_breakWord x) false := O1.of (fun I9 J9 h9 => so_breakWord h9 (by omega)) (int_ne _) (fun _ => GT.ge (ge_breakWord P N x)) (fun _ => GT.ge (ge_breakWord P N x))
theorem O1_raid {k nb no nc : Nat} {I : MI} {J : MJ} {P : MI} {N : MJ} (h : IV k nb no nc I J P N) (hk9 : k ≤ 150) (x : Int32) : O1 k nb no nc P N (kL_raid x) false := O1.of (fun I9 J9 h9 => so_raid h9 (by omega)) (int_ne _) (fun _ => GT.ge (ge_raid h (by omega) x)) (fun _ => GT.ge (ge_raid h (by omega) x))
theorem O1_order {k nb no nc : Nat} {I : MI} {J : MJ} {P : MI} {N : MJ} (h : IV k nb no nc I J P N) (hk9 : k ≤ 150) (x y z w v : Int32) : O1 k nb no nc P N (kL_order x y z w v) false := O1.of (fun I9 J9 h9 => so_order h9 (by omega)) (int_ne _) (gt_order h (by omega) x y z w v).1 (gt_order h (by omega) x y z w v).2
theorem O1_fetch {k nb no nc : Nat} {I : MI} {J : MJ} {P : MI} {N : MJ} (h : IV k nb no nc I J P N) (hk9 : k ≤ 150) (x y : Int32) : O1 k nb no nc P N (kL_fetch x y) false := O1.of (fun I9 J9 h9 => so_fetch h9 (by omega)) (int_ne _) (fun _ => GT.ge (ge_fetch h x y)) (fun _ => GT.ge (ge_fetch h x y))
theorem O1_pass {k nb no nc : Nat} {I : MI} {J : MJ} {P : MI} {N : MJ} (h : IV k nb no nc I J P N) (hk9 : k ≤ 150) (x : Int32) : O1 k nb no nc P N (kL_pass x) false := O1.of (fun I9 J9 h9 => so_pass h9 (by omega)) (int_ne _) (fun _ => GT.ge (ge_passx h.pv (fun o9 ho9 => wb_P h o9 ho9 0 (Nat.zero_le _)) x)) (fun _ => GT.ge (ge_passx h.pv (fun o9 ho9 => wb_P h o9 ho9 0 (Nat.zero_le _)) x))
theorem O1_pay {k nb no nc : Nat} {I : MI} {J : MJ} {P : MI} {N : MJ} (h : IV k nb no nc I J P N) (hk9 : k ≤ 150) (x y z : Int32) : O1 k nb no nc P N (kL_pay x y z) false := O1.of (fun I9 J9 h9 => so_pay h9 (by omega)) (int_ne _) (fun _ => GT.ge (ge_pay h.pv x y z)) (fun _ => GT.ge (ge_pay h.pv x y z))
theorem O1_deliver {k nb no nc : Nat} {I : MI} {J : MJ} {P : MI} {N : MJ} (h : IV k nb no nc I J P N) (hk9 : k ≤ 150) (x y z : Int32) : O1 k nb no nc P N (kL_deliver x y z) false := O1.of (fun I9 J9 h9 => so_deliver h9 (by omega)) (int_ne _) (fun _ => GT.ge (ge_deliver P N x y z)) (fun _ => GT.ge (ge_deliver P N x y z))
theorem O1_courier {k nb no nc : Nat} {I : MI} {J : MJ} {P : MI} {N : MJ} (h : IV k nb no nc I J P N) (hk9 : k ≤ 150) (x y z w : Int32) : O1 k nb no nc P N (kL_courier x y z w) false := O1.of (fun I9 J9 h9 => so_courier h9 (by omega)) (int_ne _) (gt_courier h.pv (h.2.2.2.1 nc (Nat.le_refl _)) x y z w).1 (gt_courier h.pv (h.2.2.2.1 nc (Nat.le_refl _)) x y z w).2
theorem O1_rob {k nb no nc : Nat} {I : MI} {J : MJ} {P : MI} {N : MJ} (h : IV k nb no nc I J P N) (hk9 : k ≤ 150) (x : Int32) : O1 k nb no nc P N (kL_rob x) false := O1.of (fun I9 J9 h9 => so_rob h9 (by omega)) (int_ne _) (fun _ => GT.ge (ge_rob h.pv x)) (fun _ => GT.ge (ge_rob h.pv x))
theorem O1_law {k nb no nc : Nat} {I : MI} {J : MJ} {P : MI} {N : MJ} (h : IV k nb no nc I J P N) (hk9 : k ≤ 150) (x y : Int32) : O1 k nb no nc P N (kL_lawOf x y) false := O1.of (fun I9 J9 h9 => so_law h9 (by omega)) (int_ne _) (fun _ => GT.ge (ge_law P N x y)) (fun _ => GT.ge (ge_law P N x y))
theorem O1_list {k nb no nc : Nat} {I : MI} {J : MJ} {P : MI} {N : MJ} (h : IV k nb no nc I J P N) (hk9 : k ≤ 150) (x : Int32) : O1 k nb no nc P N (kL_list x) false := O1.of (fun I9 J9 h9 => so_list h9 (by omega)) (zb_ne _) (fun _ => GT.ge (ge_list P N x)) (fun _ => GT.ge (ge_list P N x))
theorem O1_way {k nb no nc : Nat} {I : MI} {J : MJ} {P : MI} {N : MJ} (h : IV k nb no nc I J P N) (hk9 : k ≤ 150) (x y z w : Int32) : O1 k nb no nc P N (kL_way x y z w) false := O1.of (fun I9 J9 h9 => so_way h9 (by omega)) (int_ne _) (fun _ => GT.ge (ge_way P N x y z w)) (fun _ => GT.ge (ge_way P N x y z w))
theorem O1_wayOf {k nb no nc : Nat} {I : MI} {J : MJ} {P : MI} {N : MJ} (h : IV k nb no nc I J P N) (hk9 : k ≤ 150) (x y : Int32) : O1 k nb no nc P N (kL_wayOf x y) false := O1.of (fun I9 J9 h9 => so_wayOf h9 (by omega)) (int_ne _) (fun _ => GT.ge (ge_wayOf P N x y)) (fun _ => GT.ge (ge_wayOf P N x y))
theorem O1_orderOf {k nb no nc : Nat} {I : MI} {J : MJ} {P : MI} {N : MJ} (h : IV k nb no nc I J P N) (hk9 : k ≤ 150) (x y : Int32) : O1 k nb no nc P N (kL_orderOf x y) false := O1.of (fun I9 J9 h9 => so_orderOf h9 (by omega)) (int_ne _) (fun _ => GT.ge (ge_orderOf P N x y)) (fun _ => GT.ge (ge_orderOf P N x y))
theorem O1_debt {k nb no nc : Nat} {I : MI} {J : MJ} {P : MI} {N : MJ} (h : IV k nb no nc I J P N) (hk9 : k ≤ 150) (x y z : Int32) : O1 k nb no nc P N (kL_debt x y z) false := O1.ofq (fun I9 J9 h9 => so_debt h9 (by omega)) (fun I9 J9 h9 => q_debt h9 x y z) (GT.ge (ge_debt P N x y z))
theorem O1_sum {k nb no nc : Nat} {I : MI} {J : MJ} {P : MI} {N : MJ} (h : IV k nb no nc I J P N) (hk9 : k ≤ 150) (x : Int32) : O1 k nb no nc P N (kL_sum x) false := O1.ofq (fun I9 J9 h9 => so_sum h9 (by omega)) (fun I9 J9 h9 => q_sum h9 x) (GT.ge (ge_sum P N x))
def kF (I : MI) (J : MJ) (r : Int64) (I' : MI) (J' : MJ) : Prop := ∃ z : Int32, r = (if z = 0 then 0 else 1) ∧ ∀ (l : Launch) (D : va_G) (b0 : Nat) (P : MI) (N : MJ) (o : Int64), hM l yX5_festival cX5_festival 1 (some .boolean) rX5_festival D b0 [.ref (hw_ad b0 0 0)] I J P N o (some (.int z)) I' J' P N o
theorem O1_festival {k nb no nc : Nat} {I : MI} {J : MJ} {P : MI} {N : MJ} (h : IV k nb no nc I J P N) (hk9 : k ≤ 150) : O1 k nb no nc P N kF false := O1.of (r := if (if P 4 0 = 0 then (1 : Int32) else 0) = 0 then 0 else 1) (nb' := nb) (no' := no) (nc' := nc) (P' := pp_festival P) (N' := N) (fun I9 J9 h9 => by
    have e4 : P 4 0 = I9 4 0 := h9.ints 4 0 (by unfold shd; omega)
    have hz : hw_bo (if I9 4 0 = 0 then 1 else 0) := by
      by_cases z : I9 4 0 = 0
      · rw [if_pos z]; exact Or.inr rfl
      · rw [if_neg z]; exact Or.inl rfl
    refine Or.inr ⟨(u_ne (by decide) : pp_festival P 40 0 = uI P 40 0 0 40 0).trans (if_pos ⟨rfl, rfl⟩), i_festival I9, J9, _, ⟨_, rfl, fun l D b0 P0 N0 o => m_X5_festival h9.ci⟩, by rw [e4], ?_⟩
    have := v_festival h9 hz
    unfold i_festival pp_festival
    rw [e4]
    exact this) (zb_ne _) (fun _ => GT.ge (ge_festival P N)) (fun _ => GT.ge (ge_festival P N))
def kR (I : MI) (J : MJ) (r : Int64) (I' : MI) (J' : MJ) : Prop := ∀ (l : Launch) (D : va_G) (b0 : Nat) (P : MI) (N : MJ) (o : Int64), hM l yX5_ring cX5_ring 6 (some .long) rX5_ring D b0 [.ref (hw_ad b0 0 0)] I J P N o (some (.long r)) I' J' P N o
theorem O1_ring {k nb no nc : Nat} {I : MI} {J : MJ} {P : MI} {N : MJ} (h : IV k nb no nc I J P N) (hk9 : k ≤ 150) : O1 k nb no nc P N kR false := O1.of (r := (ps_ring N nb).1) (nb' := nb) (no' := no) (nc' := nc) (P' := uI P 40 0 0) (N' := (ps_ring N nb).2) (fun I9 J9 h9 => Or.inr ⟨if_pos ⟨rfl, rfl⟩, I9, (sp_ring J9 nb).2, (sp_ring J9 nb).1, fun l D b0 P0 N0 o => m_X5_ring h9.ci.1.1.1 h9.ci.1.1.2, (v_ring h9 (by omega)).1, (v_ring h9 (by omega)).2⟩) (ring_ne h hk9) (fun _ => GT.ge (ge_ring P N)) (fun _ => GT.ge (ge_ring P N))
theorem and_nn (x : Int32) : 0 ≤ (x &&& 2147483647).toInt := by
  show 0 ≤ (x &&& 2147483647).toBitVec.toInt
  rw [Int32.toBitVec_and]
  have e : (2147483647 : Int32).toBitVec.toNat = 2147483647 := by decide
  have h2 : (x.toBitVec &&& (2147483647 : Int32).toBitVec).toNat ≤ 2147483647 := by
    rw [BitVec.toNat_and, e]
    exact Nat.and_le_right
  rw [BitVec.toInt_eq_toNat_of_lt (by omega)]
  exact Int.natCast_nonneg _
theorem low_eq {m n : Nat} (hm : m < 2 ^ 31) (hn0 : 0 < n) (hn : n < 2 ^ 31) : nI m - nI m / nI n * nI n = nI (m % n) := by
  have hd : nI m / nI n = nI (m / n) := by
    apply Int32.toInt_inj.mp
    have h1 : m / n ≤ m := Nat.div_le_self m n
    rw [Int32.toInt_div, nI_toInt hm, nI_toInt hn, nI_toInt (by omega), show ((m : Int).tdiv (n : Int)) = ((m / n : Nat) : Int) from rfl]
    generalize m / n = q at h1
    exact Int.bmod_eq_of_le (by omega) (by omega)
  have e : nI m = nI (m % n) + nI (m / n * n) := by
    rw [nI_add]
    congr 1
    have := Nat.mod_add_div m n
    rw [Nat.mul_comm] at this
    exact this.symm
  rw [hd, pk_mul]
  generalize nI (m / n * n) = y at e
  rw [e]
  exact Int32.add_sub_cancel _ _
theorem low_lt {x : Int32} (n : Nat) (hn0 : 0 < n) (hn : n < 2 ^ 31) : ∃ j : Nat, j < n ∧ sp_low x (nI n) = nI j := by
  have hm : ∃ m : Nat, m < 2 ^ 31 ∧ x &&& 2147483647 = nI m := by
    have h0 : 0 ≤ (x &&& 2147483647).toInt := and_nn x
    have h1 := Int32.toInt_lt (x &&& 2147483647)
    refine ⟨(x &&& 2147483647).toInt.toNat, by omega, ?_⟩
    apply Int32.toInt_inj.mp
    rw [nI_toInt (by omega)]
    omega
  obtain ⟨m, m1, m2⟩ := hm
  refine ⟨m % n, Nat.mod_lt m hn0, ?_⟩
  unfold sp_low
  rw [m2]
  exact low_eq m1 hn0 hn
theorem kL_or {a b : Prop} (h : a ∨ b) : b ∨ a := h.symm
set_option maxHeartbeats 4000000 in
theorem O1_act {k nb no nc : Nat} {I : MI} {J : MJ} {P : MI} {N : MJ} (h : IV k nb no nc I J P N) (hk9 : k ≤ 150) (v : Int32) : ∃ j : Nat, j < 32 ∧ sp_low v 32 = nI j ∧ O1 k nb no nc P N (kA v) (decide (j < 2)) := by
  obtain ⟨j, j1, j2⟩ := low_lt (x := v) 32 (by omega) (by omega)
  have j2 : sp_low v 32 = nI j := j2
  refine ⟨j, j1, j2, ?_⟩
  by_cases hd : sp_low (v >>> ((26 : Int32) &&& 31)) 14 = 0
  · rcases (show j = 0 ∨ j = 1 ∨ j = 2 ∨ j = 3 ∨ j = 4 ∨ j = 5 ∨ j = 6 ∨ j = 7 ∨ j = 8 ∨ j = 9 ∨ j = 10 ∨ j = 11 ∨ j = 12 ∨ j = 13 ∨ j = 14 ∨ j = 15 ∨ j = 16 ∨ j = 17 ∨ j = 18 ∨ j = 19 ∨ j = 20 ∨ j = 21 ∨ j = 22 ∨ j = 23 ∨ j = 24 ∨ j = 25 ∨ j = 26 ∨ j = 27 ∨ j = 28 ∨ j = 29 ∨ j = 30 ∨ j = 31 by omega) with rfl | rfl | rfl | rfl | rfl | rfl | rfl | rfl | rfl | rfl | rfl | rfl | rfl | rfl | rfl | rfl | rfl | rfl | rfl | rfl | rfl | rfl | rfl | rfl | rfl | rfl | rfl | rfl | rfl | rfl | rfl | rfl
    · have hj : tsB (sp_low v 32) 159 620 0 30 #[137, 137, 181, 205, 205, 205, 205, 251, 283, 325, 325, 325, 325, 325, 370, 370, 370, 370, 394, 394, 394, 435, 445, 455, 485, 507, 512, 521, 548, 572, 597] 296 = true := by rw [j2]; decide
      exact (O1_broker h hk9 ((sp_low (v >>> ((14 : Int32) &&& 31)) 10) - 1) (v >>> ((9 : Int32) &&& 31)) (v >>> ((3 : Int32) &&& 31))).map (fun I9 J9 r9 I8 J8 hK => ca_broker_1 hd hj hK)
    · have hj : tsB (sp_low v 32) 159 620 0 30 #[137, 137, 181, 205, 205, 205, 205, 251, 283, 325, 325, 325, 325, 325, 370, 370, 370, 370, 394, 394, 394, 435, 445, 455, 485, 507, 512, 521, 548, 572, 597] 296 = true := by rw [j2]; decide
      exact (O1_broker h hk9 ((sp_low (v >>> ((14 : Int32) &&& 31)) 10) - 1) (v >>> ((9 : Int32) &&& 31)) (v >>> ((3 : Int32) &&& 31))).map (fun I9 J9 r9 I8 J8 hK => ca_broker_1 hd hj hK)
    · have hj : tsB (sp_low v 32) 159 620 0 30 #[137, 137, 181, 205, 205, 205, 205, 251, 283, 325, 325, 325, 325, 325, 370, 370, 370, 370, 394, 394, 394, 435, 445, 455, 485, 507, 512, 521, 548, 572, 597] 340 = true := by rw [j2]; decide
      exact (O1_rate h hk9 ((sp_low (v >>> ((5 : Int32) &&& 31)) 15) - 2) (v >>> ((9 : Int32) &&& 31))).map (fun I9 J9 r9 I8 J8 hK => ca_rate_1 hd hj hK)
    · have hj : tsB (sp_low v 32) 159 620 0 30 #[137, 137, 181, 205, 205, 205, 205, 251, 283, 325, 325, 325, 325, 325, 370, 370, 370, 370, 394, 394, 394, 435, 445, 455, 485, 507, 512, 521, 548, 572, 597] 364 = true := by rw [j2]; decide
      by_cases hb9 : ((v >>> ((20 : Int32) &&& 31)) &&& 1) = 1
      · exact (O1_trust h hk9 ((sp_low (v >>> ((5 : Int32) &&& 31)) 15) - 2) ((sp_low (v >>> ((8 : Int32) &&& 31)) 15) - 2) (v >>> ((9 : Int32) &&& 31)) 1 (Or.inr rfl)).map (fun I9 J9 r9 I8 J8 hK => ca_trust_1_1 hd hj hb9 hK)
      · exact (O1_trust h hk9 ((sp_low (v >>> ((5 : Int32) &&& 31)) 15) - 2) ((sp_low (v >>> ((8 : Int32) &&& 31)) 15) - 2) (v >>> ((9 : Int32) &&& 31)) 0 (Or.inl rfl)).map (fun I9 J9 r9 I8 J8 hK => ca_trust_1_0 hd hj hb9 hK)
    · have hj : tsB (sp_low v 32) 159 620 0 30 #[137, 137, 181, 205, 205, 205, 205, 251, 283, 325, 325, 325, 325, 325, 370, 370, 370, 370, 394, 394, 394, 435, 445, 455, 485, 507, 512, 521, 548, 572, 597] 364 = true := by rw [j2]; decide
      by_cases hb9 : ((v >>> ((20 : Int32) &&& 31)) &&& 1) = 1
      · exact (O1_trust h hk9 ((sp_low (v >>> ((5 : Int32) &&& 31)) 15) - 2) ((sp_low (v >>> ((8 : Int32) &&& 31)) 15) - 2) (v >>> ((9 : Int32) &&& 31)) 1 (Or.inr rfl)).map (fun I9 J9 r9 I8 J8 hK => ca_trust_1_1 hd hj hb9 hK)
      · exact (O1_trust h hk9 ((sp_low (v >>> ((5 : Int32) &&& 31)) 15) - 2) ((sp_low (v >>> ((8 : Int32) &&& 31)) 15) - 2) (v >>> ((9 : Int32) &&& 31)) 0 (Or.inl rfl)).map (fun I9 J9 r9 I8 J8 hK => ca_trust_1_0 hd hj hb9 hK)
    · have hj : tsB (sp_low v 32) 159 620 0 30 #[137, 137, 181, 205, 205, 205, 205, 251, 283, 325, 325, 325, 325, 325, 370, 370, 370, 370, 394, 394, 394, 435, 445, 455, 485, 507, 512, 521, 548, 572, 597] 364 = true := by rw [j2]; decide
      by_cases hb9 : ((v >>> ((20 : Int32) &&& 31)) &&& 1) = 1
      · exact (O1_trust h hk9 ((sp_low (v >>> ((5 : Int32) &&& 31)) 15) - 2) ((sp_low (v >>> ((8 : Int32) &&& 31)) 15) - 2) (v >>> ((9 : Int32) &&& 31)) 1 (Or.inr rfl)).map (fun I9 J9 r9 I8 J8 hK => ca_trust_1_1 hd hj hb9 hK)
      · exact (O1_trust h hk9 ((sp_low (v >>> ((5 : Int32) &&& 31)) 15) - 2) ((sp_low (v >>> ((8 : Int32) &&& 31)) 15) - 2) (v >>> ((9 : Int32) &&& 31)) 0 (Or.inl rfl)).map (fun I9 J9 r9 I8 J8 hK => ca_trust_1_0 hd hj hb9 hK)
    · have hj : tsB (sp_low v 32) 159 620 0 30 #[137, 137, 181, 205, 205, 205, 205, 251, 283, 325, 325, 325, 325, 325, 370, 370, 370, 370, 394, 394, 394, 435, 445, 455, 485, 507, 512, 521, 548, 572, 597] 364 = true := by rw [j2]; decide
      by_cases hb9 : ((v >>> ((20 : Int32) &&& 31)) &&& 1) = 1
      · exact (O1_trust h hk9 ((sp_low (v >>> ((5 : Int32) &&& 31)) 15) - 2) ((sp_low (v >>> ((8 : Int32) &&& 31)) 15) - 2) (v >>> ((9 : Int32) &&& 31)) 1 (Or.inr rfl)).map (fun I9 J9 r9 I8 J8 hK => ca_trust_1_1 hd hj hb9 hK)
      · exact (O1_trust h hk9 ((sp_low (v >>> ((5 : Int32) &&& 31)) 15) - 2) ((sp_low (v >>> ((8 : Int32) &&& 31)) 15) - 2) (v >>> ((9 : Int32) &&& 31)) 0 (Or.inl rfl)).map (fun I9 J9 r9 I8 J8 hK => ca_trust_1_0 hd hj hb9 hK)
    · have hj : tsB (sp_low v 32) 159 620 0 30 #[137, 137, 181, 205, 205, 205, 205, 251, 283, 325, 325, 325, 325, 325, 370, 370, 370, 370, 394, 394, 394, 435, 445, 455, 485, 507, 512, 521, 548, 572, 597] 410 = true := by rw [j2]; decide
      by_cases hb9 : (sp_low (v >>> ((16 : Int32) &&& 31)) 3) = 0
      · exact (O1_breakWord h hk9 ((sp_low (v >>> ((5 : Int32) &&& 31)) 15) - 2)).map (fun I9 J9 r9 I8 J8 hK => ca_breakWord_1 hd hj hb9 hK)
      · exact (O1_festival h hk9).map (fun I9 J9 r9 I8 J8 hK => by
        obtain ⟨z9, rfl, hK⟩ := hK
        exact ca_festival_1 (r := 0) hd hj hb9 hK)
    · have hj : tsB (sp_low v 32) 159 620 0 30 #[137, 137, 181, 205, 205, 205, 205, 251, 283, 325, 325, 325, 325, 325, 370, 370, 370, 370, 394, 394, 394, 435, 445, 455, 485, 507, 512, 521, 548, 572, 597] 442 = true := by rw [j2]; decide
      by_cases hb9 : (sp_low (v >>> ((16 : Int32) &&& 31)) 2) = 0
      · exact (O1_raid h hk9 ((sp_low (v >>> ((5 : Int32) &&& 31)) 15) - 2)).map (fun I9 J9 r9 I8 J8 hK => ca_raid_1 hd hj hb9 hK)
      · exact (O1_list h hk9 (v >>> ((9 : Int32) &&& 31))).map (fun I9 J9 r9 I8 J8 hK => ca_list_1 hd hj hb9 hK)
    · have hj : tsB (sp_low v 32) 159 620 0 30 #[137, 137, 181, 205, 205, 205, 205, 251, 283, 325, 325, 325, 325, 325, 370, 370, 370, 370, 394, 394, 394, 435, 445, 455, 485, 507, 512, 521, 548, 572, 597] 484 = true := by rw [j2]; decide
      exact (O1_order h hk9 ((sp_low (v >>> ((5 : Int32) &&& 31)) 15) - 2) ((sp_low (v >>> ((8 : Int32) &&& 31)) 15) - 2) (v >>> ((9 : Int32) &&& 31)) ((sp_low (v >>> ((14 : Int32) &&& 31)) 10) - 1) (v >>> ((3 : Int32) &&& 31))).map (fun I9 J9 r9 I8 J8 hK => ca_order_1 hd hj hK)
    · have hj : tsB (sp_low v 32) 159 620 0 30 #[137, 137, 181, 205, 205, 205, 205, 251, 283, 325, 325, 325, 325, 325, 370, 370, 370, 370, 394, 394, 394, 435, 445, 455, 485, 507, 512, 521, 548, 572, 597] 484 = true := by rw [j2]; decide
      exact (O1_order h hk9 ((sp_low (v >>> ((5 : Int32) &&& 31)) 15) - 2) ((sp_low (v >>> ((8 : Int32) &&& 31)) 15) - 2) (v >>> ((9 : Int32) &&& 31)) ((sp_low (v >>> ((14 : Int32) &&& 31)) 10) - 1) (v >>> ((3 : Int32) &&& 31))).map (fun I9 J9 r9 I8 J8 hK => ca_order_1 hd hj hK)
    · have hj : tsB (sp_low v 32) 159 620 0 30 #[137, 137, 181, 205, 205, 205, 205, 251, 283, 325, 325, 325, 325, 325, 370, 370, 370, 370, 394, 394, 394, 435, 445, 455, 485, 507, 512, 521, 548, 572, 597] 484 = true := by rw [j2]; decide
      exact (O1_order h hk9 ((sp_low (v >>> ((5 : Int32) &&& 31)) 15) - 2) ((sp_low (v >>> ((8 : Int32) &&& 31)) 15) - 2) (v >>> ((9 : Int32) &&& 31)) ((sp_low (v >>> ((14 : Int32) &&& 31)) 10) - 1) (v >>> ((3 : Int32) &&& 31))).map (fun I9 J9 r9 I8 J8 hK => ca_order_1 hd hj hK)
    · have hj : tsB (sp_low v 32) 159 620 0 30 #[137, 137, 181, 205, 205, 205, 205, 251, 283, 325, 325, 325, 325, 325, 370, 370, 370, 370, 394, 394, 394, 435, 445, 455, 485, 507, 512, 521, 548, 572, 597] 484 = true := by rw [j2]; decide
      exact (O1_order h hk9 ((sp_low (v >>> ((5 : Int32) &&& 31)) 15) - 2) ((sp_low (v >>> ((8 : Int32) &&& 31)) 15) - 2) (v >>> ((9 : Int32) &&& 31)) ((sp_low (v >>> ((14 : Int32) &&& 31)) 10) - 1) (v >>> ((3 : Int32) &&& 31))).map (fun I9 J9 r9 I8 J8 hK => ca_order_1 hd hj hK)
    · have hj : tsB (sp_low v 32) 159 620 0 30 #[137, 137, 181, 205, 205, 205, 205, 251, 283, 325, 325, 325, 325, 325, 370, 370, 370, 370, 394, 394, 394, 435, 445, 455, 485, 507, 512, 521, 548, 572, 597] 484 = true := by rw [j2]; decide
      exact (O1_order h hk9 ((sp_low (v >>> ((5 : Int32) &&& 31)) 15) - 2) ((sp_low (v >>> ((8 : Int32) &&& 31)) 15) - 2) (v >>> ((9 : Int32) &&& 31)) ((sp_low (v >>> ((14 : Int32) &&& 31)) 10) - 1) (v >>> ((3 : Int32) &&& 31))).map (fun I9 J9 r9 I8 J8 hK => ca_order_1 hd hj hK)
    · have hj : tsB (sp_low v 32) 159 620 0 30 #[137, 137, 181, 205, 205, 205, 205, 251, 283, 325, 325, 325, 325, 325, 370, 370, 370, 370, 394, 394, 394, 435, 445, 455, 485, 507, 512, 521, 548, 572, 597] 529 = true := by rw [j2]; decide
      exact (O1_fetch h hk9 ((sp_low (v >>> ((11 : Int32) &&& 31)) 44) - 2) (v >>> ((9 : Int32) &&& 31))).map (fun I9 J9 r9 I8 J8 hK => ca_fetch_1 hd hj hK)
    · have hj : tsB (sp_low v 32) 159 620 0 30 #[137, 137, 181, 205, 205, 205, 205, 251, 283, 325, 325, 325, 325, 325, 370, 370, 370, 370, 394, 394, 394, 435, 445, 455, 485, 507, 512, 521, 548, 572, 597] 529 = true := by rw [j2]; decide
      exact (O1_fetch h hk9 ((sp_low (v >>> ((11 : Int32) &&& 31)) 44) - 2) (v >>> ((9 : Int32) &&& 31))).map (fun I9 J9 r9 I8 J8 hK => ca_fetch_1 hd hj hK)
    · have hj : tsB (sp_low v 32) 159 620 0 30 #[137, 137, 181, 205, 205, 205, 205, 251, 283, 325, 325, 325, 325, 325, 370, 370, 370, 370, 394, 394, 394, 435, 445, 455, 485, 507, 512, 521, 548, 572, 597] 529 = true := by rw [j2]; decide
      exact (O1_fetch h hk9 ((sp_low (v >>> ((11 : Int32) &&& 31)) 44) - 2) (v >>> ((9 : Int32) &&& 31))).map (fun I9 J9 r9 I8 J8 hK => ca_fetch_1 hd hj hK)
    · have hj : tsB (sp_low v 32) 159 620 0 30 #[137, 137, 181, 205, 205, 205, 205, 251, 283, 325, 325, 325, 325, 325, 370, 370, 370, 370, 394, 394, 394, 435, 445, 455, 485, 507, 512, 521, 548, 572, 597] 529 = true := by rw [j2]; decide
      exact (O1_fetch h hk9 ((sp_low (v >>> ((11 : Int32) &&& 31)) 44) - 2) (v >>> ((9 : Int32) &&& 31))).map (fun I9 J9 r9 I8 J8 hK => ca_fetch_1 hd hj hK)
    · have hj : tsB (sp_low v 32) 159 620 0 30 #[137, 137, 181, 205, 205, 205, 205, 251, 283, 325, 325, 325, 325, 325, 370, 370, 370, 370, 394, 394, 394, 435, 445, 455, 485, 507, 512, 521, 548, 572, 597] 553 = true := by rw [j2]; decide
      exact (O1_pass h hk9 (v >>> ((9 : Int32) &&& 31))).map (fun I9 J9 r9 I8 J8 hK => ca_pass_1 hd hj hK)
    · have hj : tsB (sp_low v 32) 159 620 0 30 #[137, 137, 181, 205, 205, 205, 205, 251, 283, 325, 325, 325, 325, 325, 370, 370, 370, 370, 394, 394, 394, 435, 445, 455, 485, 507, 512, 521, 548, 572, 597] 553 = true := by rw [j2]; decide
      exact (O1_pass h hk9 (v >>> ((9 : Int32) &&& 31))).map (fun I9 J9 r9 I8 J8 hK => ca_pass_1 hd hj hK)
    · have hj : tsB (sp_low v 32) 159 620 0 30 #[137, 137, 181, 205, 205, 205, 205, 251, 283, 325, 325, 325, 325, 325, 370, 370, 370, 370, 394, 394, 394, 435, 445, 455, 485, 507, 512, 521, 548, 572, 597] 553 = true := by rw [j2]; decide
      exact (O1_pass h hk9 (v >>> ((9 : Int32) &&& 31))).map (fun I9 J9 r9 I8 J8 hK => ca_pass_1 hd hj hK)
    · have hj : tsB (sp_low v 32) 159 620 0 30 #[137, 137, 181, 205, 205, 205, 205, 251, 283, 325, 325, 325, 325, 325, 370, 370, 370, 370, 394, 394, 394, 435, 445, 455, 485, 507, 512, 521, 548, 572, 597] 594 = true := by rw [j2]; decide
      exact (O1_pay h hk9 ((sp_low (v >>> ((5 : Int32) &&& 31)) 15) - 2) ((sp_low (v >>> ((8 : Int32) &&& 31)) 15) - 2) (v >>> ((9 : Int32) &&& 31))).map (fun I9 J9 r9 I8 J8 hK => ca_pay_1 hd hj hK)
    · have hj : tsB (sp_low v 32) 159 620 0 30 #[137, 137, 181, 205, 205, 205, 205, 251, 283, 325, 325, 325, 325, 325, 370, 370, 370, 370, 394, 394, 394, 435, 445, 455, 485, 507, 512, 521, 548, 572, 597] 604 = true := by rw [j2]; decide
      exact (O1_deliver h hk9 ((sp_low (v >>> ((5 : Int32) &&& 31)) 15) - 2) ((sp_low (v >>> ((8 : Int32) &&& 31)) 15) - 2) (v >>> ((9 : Int32) &&& 31))).map (fun I9 J9 r9 I8 J8 hK => ca_deliver_1 hd hj hK)
    · have hj : tsB (sp_low v 32) 159 620 0 30 #[137, 137, 181, 205, 205, 205, 205, 251, 283, 325, 325, 325, 325, 325, 370, 370, 370, 370, 394, 394, 394, 435, 445, 455, 485, 507, 512, 521, 548, 572, 597] 614 = true := by rw [j2]; decide
      exact (O1_courier h hk9 ((sp_low (v >>> ((5 : Int32) &&& 31)) 15) - 2) ((sp_low (v >>> ((8 : Int32) &&& 31)) 15) - 2) (v >>> ((9 : Int32) &&& 31)) (v >>> ((3 : Int32) &&& 31))).map (fun I9 J9 r9 I8 J8 hK => ca_courier_1 hd hj hK)
    · have hj : tsB (sp_low v 32) 159 620 0 30 #[137, 137, 181, 205, 205, 205, 205, 251, 283, 325, 325, 325, 325, 325, 370, 370, 370, 370, 394, 394, 394, 435, 445, 455, 485, 507, 512, 521, 548, 572, 597] 644 = true := by rw [j2]; decide
      exact (O1_rob h hk9 ((sp_low (v >>> ((11 : Int32) &&& 31)) 44) - 2)).map (fun I9 J9 r9 I8 J8 hK => ca_rob_1 hd hj hK)
    · have hj : tsB (sp_low v 32) 159 620 0 30 #[137, 137, 181, 205, 205, 205, 205, 251, 283, 325, 325, 325, 325, 325, 370, 370, 370, 370, 394, 394, 394, 435, 445, 455, 485, 507, 512, 521, 548, 572, 597] 666 = true := by rw [j2]; decide
      exact (O1_ring h hk9).map (fun I9 J9 r9 I8 J8 hK => ca_ring_1 hd hj hK)
    · have hj : tsB (sp_low v 32) 159 620 0 30 #[137, 137, 181, 205, 205, 205, 205, 251, 283, 325, 325, 325, 325, 325, 370, 370, 370, 370, 394, 394, 394, 435, 445, 455, 485, 507, 512, 521, 548, 572, 597] 671 = true := by rw [j2]; decide
      exact (O1_law h hk9 ((sp_low (v >>> ((14 : Int32) &&& 31)) 10) - 1) (v >>> ((9 : Int32) &&& 31))).map (fun I9 J9 r9 I8 J8 hK => ca_lawOf_1 hd hj hK)
    · have hj : tsB (sp_low v 32) 159 620 0 30 #[137, 137, 181, 205, 205, 205, 205, 251, 283, 325, 325, 325, 325, 325, 370, 370, 370, 370, 394, 394, 394, 435, 445, 455, 485, 507, 512, 521, 548, 572, 597] 680 = true := by rw [j2]; decide
      exact (O1_way h hk9 ((sp_low (v >>> ((5 : Int32) &&& 31)) 15) - 2) ((sp_low (v >>> ((8 : Int32) &&& 31)) 15) - 2) (v >>> ((9 : Int32) &&& 31)) ((sp_low (v >>> ((14 : Int32) &&& 31)) 10) - 1)).map (fun I9 J9 r9 I8 J8 hK => ca_way_1 hd hj hK)
    · have hj : tsB (sp_low v 32) 159 620 0 30 #[137, 137, 181, 205, 205, 205, 205, 251, 283, 325, 325, 325, 325, 325, 370, 370, 370, 370, 394, 394, 394, 435, 445, 455, 485, 507, 512, 521, 548, 572, 597] 707 = true := by rw [j2]; decide
      exact (O1_wayOf h hk9 ((sp_low (v >>> ((11 : Int32) &&& 31)) 44) - 2) ((sp_low (v >>> ((14 : Int32) &&& 31)) 10) - 1)).map (fun I9 J9 r9 I8 J8 hK => ca_wayOf_1 hd hj hK)
    · have hj : tsB (sp_low v 32) 159 620 0 30 #[137, 137, 181, 205, 205, 205, 205, 251, 283, 325, 325, 325, 325, 325, 370, 370, 370, 370, 394, 394, 394, 435, 445, 455, 485, 507, 512, 521, 548, 572, 597] 731 = true := by rw [j2]; decide
      exact (O1_orderOf h hk9 ((sp_low (v >>> ((11 : Int32) &&& 31)) 44) - 2) (v >>> ((9 : Int32) &&& 31))).map (fun I9 J9 r9 I8 J8 hK => ca_orderOf_1 hd hj hK)
    · have hj : tsB (sp_low v 32) 159 620 0 30 #[137, 137, 181, 205, 205, 205, 205, 251, 283, 325, 325, 325, 325, 325, 370, 370, 370, 370, 394, 394, 394, 435, 445, 455, 485, 507, 512, 521, 548, 572, 597] 756 = true := by rw [j2]; decide
      exact (O1_sum h hk9 (v >>> ((9 : Int32) &&& 31))).map (fun I9 J9 r9 I8 J8 hK => ca_sum_1 hd hj hK)
    · have hj : tsB (sp_low v 32) 159 620 0 30 #[137, 137, 181, 205, 205, 205, 205, 251, 283, 325, 325, 325, 325, 325, 370, 370, 370, 370, 394, 394, 394, 435, 445, 455, 485, 507, 512, 521, 548, 572, 597] 779 = true := by rw [j2]; decide
      by_cases hb9 : ((v >>> ((20 : Int32) &&& 31)) &&& 1) = 1
      · exact (O1_debt h hk9 ((sp_low (v >>> ((5 : Int32) &&& 31)) 15) - 2) ((sp_low (v >>> ((8 : Int32) &&& 31)) 15) - 2) 1).map (fun I9 J9 r9 I8 J8 hK => ca_debt_1_1 hd hj hb9 hK)
      · exact (O1_debt h hk9 ((sp_low (v >>> ((5 : Int32) &&& 31)) 15) - 2) ((sp_low (v >>> ((8 : Int32) &&& 31)) 15) - 2) 0).map (fun I9 J9 r9 I8 J8 hK => ca_debt_1_0 hd hj hb9 hK)
  · rcases (show j = 0 ∨ j = 1 ∨ j = 2 ∨ j = 3 ∨ j = 4 ∨ j = 5 ∨ j = 6 ∨ j = 7 ∨ j = 8 ∨ j = 9 ∨ j = 10 ∨ j = 11 ∨ j = 12 ∨ j = 13 ∨ j = 14 ∨ j = 15 ∨ j = 16 ∨ j = 17 ∨ j = 18 ∨ j = 19 ∨ j = 20 ∨ j = 21 ∨ j = 22 ∨ j = 23 ∨ j = 24 ∨ j = 25 ∨ j = 26 ∨ j = 27 ∨ j = 28 ∨ j = 29 ∨ j = 30 ∨ j = 31 by omega) with rfl | rfl | rfl | rfl | rfl | rfl | rfl | rfl | rfl | rfl | rfl | rfl | rfl | rfl | rfl | rfl | rfl | rfl | rfl | rfl | rfl | rfl | rfl | rfl | rfl | rfl | rfl | rfl | rfl | rfl | rfl | rfl
    · have hj : tsB (sp_low v 32) 159 620 0 30 #[137, 137, 181, 205, 205, 205, 205, 251, 283, 325, 325, 325, 325, 325, 370, 370, 370, 370, 394, 394, 394, 435, 445, 455, 485, 507, 512, 521, 548, 572, 597] 296 = true := by rw [j2]; decide
      exact (O1_broker h hk9 (sp_low (v >>> ((14 : Int32) &&& 31)) 3) (sp_low (v >>> ((9 : Int32) &&& 31)) 3000) (sp_low (v >>> ((3 : Int32) &&& 31)) 60)).map (fun I9 J9 r9 I8 J8 hK => ca_broker_0 hd hj hK)
    · have hj : tsB (sp_low v 32) 159 620 0 30 #[137, 137, 181, 205, 205, 205, 205, 251, 283, 325, 325, 325, 325, 325, 370, 370, 370, 370, 394, 394, 394, 435, 445, 455, 485, 507, 512, 521, 548, 572, 597] 296 = true := by rw [j2]; decide
      exact (O1_broker h hk9 (sp_low (v >>> ((14 : Int32) &&& 31)) 3) (sp_low (v >>> ((9 : Int32) &&& 31)) 3000) (sp_low (v >>> ((3 : Int32) &&& 31)) 60)).map (fun I9 J9 r9 I8 J8 hK => ca_broker_0 hd hj hK)
    · have hj : tsB (sp_low v 32) 159 620 0 30 #[137, 137, 181, 205, 205, 205, 205, 251, 283, 325, 325, 325, 325, 325, 370, 370, 370, 370, 394, 394, 394, 435, 445, 455, 485, 507, 512, 521, 548, 572, 597] 340 = true := by rw [j2]; decide
      exact (O1_rate h hk9 (sp_low (v >>> ((5 : Int32) &&& 31)) 5) (sp_low (v >>> ((9 : Int32) &&& 31)) 60)).map (fun I9 J9 r9 I8 J8 hK => ca_rate_0 hd hj hK)
    · have hj : tsB (sp_low v 32) 159 620 0 30 #[137, 137, 181, 205, 205, 205, 205, 251, 283, 325, 325, 325, 325, 325, 370, 370, 370, 370, 394, 394, 394, 435, 445, 455, 485, 507, 512, 521, 548, 572, 597] 364 = true := by rw [j2]; decide
      by_cases hb9 : ((v >>> ((20 : Int32) &&& 31)) &&& 1) = 1
      · exact (O1_trust h hk9 (sp_low (v >>> ((5 : Int32) &&& 31)) 5) (sp_low (v >>> ((8 : Int32) &&& 31)) 5) (500 + (sp_low (v >>> ((9 : Int32) &&& 31)) 3000)) 1 (Or.inr rfl)).map (fun I9 J9 r9 I8 J8 hK => ca_trust_0_1 hd hj hb9 hK)
      · exact (O1_trust h hk9 (sp_low (v >>> ((5 : Int32) &&& 31)) 5) (sp_low (v >>> ((8 : Int32) &&& 31)) 5) (500 + (sp_low (v >>> ((9 : Int32) &&& 31)) 3000)) 0 (Or.inl rfl)).map (fun I9 J9 r9 I8 J8 hK => ca_trust_0_0 hd hj hb9 hK)
    · have hj : tsB (sp_low v 32) 159 620 0 30 #[137, 137, 181, 205, 205, 205, 205, 251, 283, 325, 325, 325, 325, 325, 370, 370, 370, 370, 394, 394, 394, 435, 445, 455, 485, 507, 512, 521, 548, 572, 597] 364 = true := by rw [j2]; decide
      by_cases hb9 : ((v >>> ((20 : Int32) &&& 31)) &&& 1) = 1
      · exact (O1_trust h hk9 (sp_low (v >>> ((5 : Int32) &&& 31)) 5) (sp_low (v >>> ((8 : Int32) &&& 31)) 5) (500 + (sp_low (v >>> ((9 : Int32) &&& 31)) 3000)) 1 (Or.inr rfl)).map (fun I9 J9 r9 I8 J8 hK => ca_trust_0_1 hd hj hb9 hK)
      · exact (O1_trust h hk9 (sp_low (v >>> ((5 : Int32) &&& 31)) 5) (sp_low (v >>> ((8 : Int32) &&& 31)) 5) (500 + (sp_low (v >>> ((9 : Int32) &&& 31)) 3000)) 0 (Or.inl rfl)).map (fun I9 J9 r9 I8 J8 hK => ca_trust_0_0 hd hj hb9 hK)
    · have hj : tsB (sp_low v 32) 159 620 0 30 #[137, 137, 181, 205, 205, 205, 205, 251, 283, 325, 325, 325, 325, 325, 370, 370, 370, 370, 394, 394, 394, 435, 445, 455, 485, 507, 512, 521, 548, 572, 597] 364 = true := by rw [j2]; decide
      by_cases hb9 : ((v >>> ((20 : Int32) &&& 31)) &&& 1) = 1
      · exact (O1_trust h hk9 (sp_low (v >>> ((5 : Int32) &&& 31)) 5) (sp_low (v >>> ((8 : Int32) &&& 31)) 5) (500 + (sp_low (v >>> ((9 : Int32) &&& 31)) 3000)) 1 (Or.inr rfl)).map (fun I9 J9 r9 I8 J8 hK => ca_trust_0_1 hd hj hb9 hK)
      · exact (O1_trust h hk9 (sp_low (v >>> ((5 : Int32) &&& 31)) 5) (sp_low (v >>> ((8 : Int32) &&& 31)) 5) (500 + (sp_low (v >>> ((9 : Int32) &&& 31)) 3000)) 0 (Or.inl rfl)).map (fun I9 J9 r9 I8 J8 hK => ca_trust_0_0 hd hj hb9 hK)
    · have hj : tsB (sp_low v 32) 159 620 0 30 #[137, 137, 181, 205, 205, 205, 205, 251, 283, 325, 325, 325, 325, 325, 370, 370, 370, 370, 394, 394, 394, 435, 445, 455, 485, 507, 512, 521, 548, 572, 597] 364 = true := by rw [j2]; decide
      by_cases hb9 : ((v >>> ((20 : Int32) &&& 31)) &&& 1) = 1
      · exact (O1_trust h hk9 (sp_low (v >>> ((5 : Int32) &&& 31)) 5) (sp_low (v >>> ((8 : Int32) &&& 31)) 5) (500 + (sp_low (v >>> ((9 : Int32) &&& 31)) 3000)) 1 (Or.inr rfl)).map (fun I9 J9 r9 I8 J8 hK => ca_trust_0_1 hd hj hb9 hK)
      · exact (O1_trust h hk9 (sp_low (v >>> ((5 : Int32) &&& 31)) 5) (sp_low (v >>> ((8 : Int32) &&& 31)) 5) (500 + (sp_low (v >>> ((9 : Int32) &&& 31)) 3000)) 0 (Or.inl rfl)).map (fun I9 J9 r9 I8 J8 hK => ca_trust_0_0 hd hj hb9 hK)
    · have hj : tsB (sp_low v 32) 159 620 0 30 #[137, 137, 181, 205, 205, 205, 205, 251, 283, 325, 325, 325, 325, 325, 370, 370, 370, 370, 394, 394, 394, 435, 445, 455, 485, 507, 512, 521, 548, 572, 597] 410 = true := by rw [j2]; decide
      by_cases hb9 : (sp_low (v >>> ((16 : Int32) &&& 31)) 3) = 0
      · exact (O1_breakWord h hk9 (sp_low (v >>> ((5 : Int32) &&& 31)) 5)).map (fun I9 J9 r9 I8 J8 hK => ca_breakWord_0 hd hj hb9 hK)
      · exact (O1_festival h hk9).map (fun I9 J9 r9 I8 J8 hK => by
        obtain ⟨z9, rfl, hK⟩ := hK
        exact ca_festival_0 (r := 0) hd hj hb9 hK)
    · have hj : tsB (sp_low v 32) 159 620 0 30 #[137, 137, 181, 205, 205, 205, 205, 251, 283, 325, 325, 325, 325, 325, 370, 370, 370, 370, 394, 394, 394, 435, 445, 455, 485, 507, 512, 521, 548, 572, 597] 442 = true := by rw [j2]; decide
      by_cases hb9 : (sp_low (v >>> ((16 : Int32) &&& 31)) 2) = 0
      · exact (O1_raid h hk9 (sp_low (v >>> ((5 : Int32) &&& 31)) 5)).map (fun I9 J9 r9 I8 J8 hK => ca_raid_0 hd hj hb9 hK)
      · exact (O1_list h hk9 (sp_low (v >>> ((9 : Int32) &&& 31)) 20)).map (fun I9 J9 r9 I8 J8 hK => ca_list_0 hd hj hb9 hK)
    · have hj : tsB (sp_low v 32) 159 620 0 30 #[137, 137, 181, 205, 205, 205, 205, 251, 283, 325, 325, 325, 325, 325, 370, 370, 370, 370, 394, 394, 394, 435, 445, 455, 485, 507, 512, 521, 548, 572, 597] 484 = true := by rw [j2]; decide
      exact (O1_order h hk9 (sp_low (v >>> ((5 : Int32) &&& 31)) 5) (sp_low (v >>> ((8 : Int32) &&& 31)) 5) (1 + (sp_low (v >>> ((9 : Int32) &&& 31)) 600)) (sp_low (v >>> ((14 : Int32) &&& 31)) 20) (sp_low (v >>> ((3 : Int32) &&& 31)) 2)).map (fun I9 J9 r9 I8 J8 hK => ca_order_0 hd hj hK)
    · have hj : tsB (sp_low v 32) 159 620 0 30 #[137, 137, 181, 205, 205, 205, 205, 251, 283, 325, 325, 325, 325, 325, 370, 370, 370, 370, 394, 394, 394, 435, 445, 455, 485, 507, 512, 521, 548, 572, 597] 484 = true := by rw [j2]; decide
      exact (O1_order h hk9 (sp_low (v >>> ((5 : Int32) &&& 31)) 5) (sp_low (v >>> ((8 : Int32) &&& 31)) 5) (1 + (sp_low (v >>> ((9 : Int32) &&& 31)) 600)) (sp_low (v >>> ((14 : Int32) &&& 31)) 20) (sp_low (v >>> ((3 : Int32) &&& 31)) 2)).map (fun I9 J9 r9 I8 J8 hK => ca_order_0 hd hj hK)
    · have hj : tsB (sp_low v 32) 159 620 0 30 #[137, 137, 181, 205, 205, 205, 205, 251, 283, 325, 325, 325, 325, 325, 370, 370, 370, 370, 394, 394, 394, 435, 445, 455, 485, 507, 512, 521, 548, 572, 597] 484 = true := by rw [j2]; decide
      exact (O1_order h hk9 (sp_low (v >>> ((5 : Int32) &&& 31)) 5) (sp_low (v >>> ((8 : Int32) &&& 31)) 5) (1 + (sp_low (v >>> ((9 : Int32) &&& 31)) 600)) (sp_low (v >>> ((14 : Int32) &&& 31)) 20) (sp_low (v >>> ((3 : Int32) &&& 31)) 2)).map (fun I9 J9 r9 I8 J8 hK => ca_order_0 hd hj hK)
    · have hj : tsB (sp_low v 32) 159 620 0 30 #[137, 137, 181, 205, 205, 205, 205, 251, 283, 325, 325, 325, 325, 325, 370, 370, 370, 370, 394, 394, 394, 435, 445, 455, 485, 507, 512, 521, 548, 572, 597] 484 = true := by rw [j2]; decide
      exact (O1_order h hk9 (sp_low (v >>> ((5 : Int32) &&& 31)) 5) (sp_low (v >>> ((8 : Int32) &&& 31)) 5) (1 + (sp_low (v >>> ((9 : Int32) &&& 31)) 600)) (sp_low (v >>> ((14 : Int32) &&& 31)) 20) (sp_low (v >>> ((3 : Int32) &&& 31)) 2)).map (fun I9 J9 r9 I8 J8 hK => ca_order_0 hd hj hK)
    · have hj : tsB (sp_low v 32) 159 620 0 30 #[137, 137, 181, 205, 205, 205, 205, 251, 283, 325, 325, 325, 325, 325, 370, 370, 370, 370, 394, 394, 394, 435, 445, 455, 485, 507, 512, 521, 548, 572, 597] 484 = true := by rw [j2]; decide
      exact (O1_order h hk9 (sp_low (v >>> ((5 : Int32) &&& 31)) 5) (sp_low (v >>> ((8 : Int32) &&& 31)) 5) (1 + (sp_low (v >>> ((9 : Int32) &&& 31)) 600)) (sp_low (v >>> ((14 : Int32) &&& 31)) 20) (sp_low (v >>> ((3 : Int32) &&& 31)) 2)).map (fun I9 J9 r9 I8 J8 hK => ca_order_0 hd hj hK)
    · have hj : tsB (sp_low v 32) 159 620 0 30 #[137, 137, 181, 205, 205, 205, 205, 251, 283, 325, 325, 325, 325, 325, 370, 370, 370, 370, 394, 394, 394, 435, 445, 455, 485, 507, 512, 521, 548, 572, 597] 529 = true := by rw [j2]; decide
      exact (O1_fetch h hk9 (sp_low (v >>> ((11 : Int32) &&& 31)) 8) (sp_low (v >>> ((9 : Int32) &&& 31)) 2)).map (fun I9 J9 r9 I8 J8 hK => ca_fetch_0 hd hj hK)
    · have hj : tsB (sp_low v 32) 159 620 0 30 #[137, 137, 181, 205, 205, 205, 205, 251, 283, 325, 325, 325, 325, 325, 370, 370, 370, 370, 394, 394, 394, 435, 445, 455, 485, 507, 512, 521, 548, 572, 597] 529 = true := by rw [j2]; decide
      exact (O1_fetch h hk9 (sp_low (v >>> ((11 : Int32) &&& 31)) 8) (sp_low (v >>> ((9 : Int32) &&& 31)) 2)).map (fun I9 J9 r9 I8 J8 hK => ca_fetch_0 hd hj hK)
    · have hj : tsB (sp_low v 32) 159 620 0 30 #[137, 137, 181, 205, 205, 205, 205, 251, 283, 325, 325, 325, 325, 325, 370, 370, 370, 370, 394, 394, 394, 435, 445, 455, 485, 507, 512, 521, 548, 572, 597] 529 = true := by rw [j2]; decide
      exact (O1_fetch h hk9 (sp_low (v >>> ((11 : Int32) &&& 31)) 8) (sp_low (v >>> ((9 : Int32) &&& 31)) 2)).map (fun I9 J9 r9 I8 J8 hK => ca_fetch_0 hd hj hK)
    · have hj : tsB (sp_low v 32) 159 620 0 30 #[137, 137, 181, 205, 205, 205, 205, 251, 283, 325, 325, 325, 325, 325, 370, 370, 370, 370, 394, 394, 394, 435, 445, 455, 485, 507, 512, 521, 548, 572, 597] 529 = true := by rw [j2]; decide
      exact (O1_fetch h hk9 (sp_low (v >>> ((11 : Int32) &&& 31)) 8) (sp_low (v >>> ((9 : Int32) &&& 31)) 2)).map (fun I9 J9 r9 I8 J8 hK => ca_fetch_0 hd hj hK)
    · have hj : tsB (sp_low v 32) 159 620 0 30 #[137, 137, 181, 205, 205, 205, 205, 251, 283, 325, 325, 325, 325, 325, 370, 370, 370, 370, 394, 394, 394, 435, 445, 455, 485, 507, 512, 521, 548, 572, 597] 553 = true := by rw [j2]; decide
      by_cases hb9 : (sp_low (v >>> ((13 : Int32) &&& 31)) 5) = 0
      · exact (O1_pass h hk9 (1 + (sp_low (v >>> ((9 : Int32) &&& 31)) 200))).map (fun I9 J9 r9 I8 J8 hK => ca_pass_0_1 hd hj hb9 hK)
      · exact (O1_pass h hk9 (1 + (sp_low (v >>> ((9 : Int32) &&& 31)) 3))).map (fun I9 J9 r9 I8 J8 hK => ca_pass_0_0 hd hj hb9 hK)
    · have hj : tsB (sp_low v 32) 159 620 0 30 #[137, 137, 181, 205, 205, 205, 205, 251, 283, 325, 325, 325, 325, 325, 370, 370, 370, 370, 394, 394, 394, 435, 445, 455, 485, 507, 512, 521, 548, 572, 597] 553 = true := by rw [j2]; decide
      by_cases hb9 : (sp_low (v >>> ((13 : Int32) &&& 31)) 5) = 0
      · exact (O1_pass h hk9 (1 + (sp_low (v >>> ((9 : Int32) &&& 31)) 200))).map (fun I9 J9 r9 I8 J8 hK => ca_pass_0_1 hd hj hb9 hK)
      · exact (O1_pass h hk9 (1 + (sp_low (v >>> ((9 : Int32) &&& 31)) 3))).map (fun I9 J9 r9 I8 J8 hK => ca_pass_0_0 hd hj hb9 hK)
    · have hj : tsB (sp_low v 32) 159 620 0 30 #[137, 137, 181, 205, 205, 205, 205, 251, 283, 325, 325, 325, 325, 325, 370, 370, 370, 370, 394, 394, 394, 435, 445, 455, 485, 507, 512, 521, 548, 572, 597] 553 = true := by rw [j2]; decide
      by_cases hb9 : (sp_low (v >>> ((13 : Int32) &&& 31)) 5) = 0
      · exact (O1_pass h hk9 (1 + (sp_low (v >>> ((9 : Int32) &&& 31)) 200))).map (fun I9 J9 r9 I8 J8 hK => ca_pass_0_1 hd hj hb9 hK)
      · exact (O1_pass h hk9 (1 + (sp_low (v >>> ((9 : Int32) &&& 31)) 3))).map (fun I9 J9 r9 I8 J8 hK => ca_pass_0_0 hd hj hb9 hK)
    · have hj : tsB (sp_low v 32) 159 620 0 30 #[137, 137, 181, 205, 205, 205, 205, 251, 283, 325, 325, 325, 325, 325, 370, 370, 370, 370, 394, 394, 394, 435, 445, 455, 485, 507, 512, 521, 548, 572, 597] 594 = true := by rw [j2]; decide
      exact (O1_pay h hk9 (sp_low (v >>> ((5 : Int32) &&& 31)) 5) (sp_low (v >>> ((8 : Int32) &&& 31)) 5) (1 + (sp_low (v >>> ((9 : Int32) &&& 31)) 600))).map (fun I9 J9 r9 I8 J8 hK => ca_pay_0 hd hj hK)
    · have hj : tsB (sp_low v 32) 159 620 0 30 #[137, 137, 181, 205, 205, 205, 205, 251, 283, 325, 325, 325, 325, 325, 370, 370, 370, 370, 394, 394, 394, 435, 445, 455, 485, 507, 512, 521, 548, 572, 597] 604 = true := by rw [j2]; decide
      exact (O1_deliver h hk9 (sp_low (v >>> ((5 : Int32) &&& 31)) 5) (sp_low (v >>> ((8 : Int32) &&& 31)) 5) (1 + (sp_low (v >>> ((9 : Int32) &&& 31)) 600))).map (fun I9 J9 r9 I8 J8 hK => ca_deliver_0 hd hj hK)
    · have hj : tsB (sp_low v 32) 159 620 0 30 #[137, 137, 181, 205, 205, 205, 205, 251, 283, 325, 325, 325, 325, 325, 370, 370, 370, 370, 394, 394, 394, 435, 445, 455, 485, 507, 512, 521, 548, 572, 597] 614 = true := by rw [j2]; decide
      exact (O1_courier h hk9 (sp_low (v >>> ((5 : Int32) &&& 31)) 5) (sp_low (v >>> ((8 : Int32) &&& 31)) 5) (1 + (sp_low (v >>> ((9 : Int32) &&& 31)) 600)) (1 + (sp_low (v >>> ((3 : Int32) &&& 31)) 9))).map (fun I9 J9 r9 I8 J8 hK => ca_courier_0 hd hj hK)
    · have hj : tsB (sp_low v 32) 159 620 0 30 #[137, 137, 181, 205, 205, 205, 205, 251, 283, 325, 325, 325, 325, 325, 370, 370, 370, 370, 394, 394, 394, 435, 445, 455, 485, 507, 512, 521, 548, 572, 597] 644 = true := by rw [j2]; decide
      exact (O1_rob h hk9 (sp_low (v >>> ((11 : Int32) &&& 31)) 5)).map (fun I9 J9 r9 I8 J8 hK => ca_rob_0 hd hj hK)
    · have hj : tsB (sp_low v 32) 159 620 0 30 #[137, 137, 181, 205, 205, 205, 205, 251, 283, 325, 325, 325, 325, 325, 370, 370, 370, 370, 394, 394, 394, 435, 445, 455, 485, 507, 512, 521, 548, 572, 597] 666 = true := by rw [j2]; decide
      exact (O1_ring h hk9).map (fun I9 J9 r9 I8 J8 hK => ca_ring_0 hd hj hK)
    · have hj : tsB (sp_low v 32) 159 620 0 30 #[137, 137, 181, 205, 205, 205, 205, 251, 283, 325, 325, 325, 325, 325, 370, 370, 370, 370, 394, 394, 394, 435, 445, 455, 485, 507, 512, 521, 548, 572, 597] 671 = true := by rw [j2]; decide
      exact (O1_law h hk9 (sp_low (v >>> ((14 : Int32) &&& 31)) 3) (1 + (sp_low (v >>> ((9 : Int32) &&& 31)) 600))).map (fun I9 J9 r9 I8 J8 hK => ca_lawOf_0 hd hj hK)
    · have hj : tsB (sp_low v 32) 159 620 0 30 #[137, 137, 181, 205, 205, 205, 205, 251, 283, 325, 325, 325, 325, 325, 370, 370, 370, 370, 394, 394, 394, 435, 445, 455, 485, 507, 512, 521, 548, 572, 597] 680 = true := by rw [j2]; decide
      exact (O1_way h hk9 (sp_low (v >>> ((5 : Int32) &&& 31)) 5) (sp_low (v >>> ((8 : Int32) &&& 31)) 5) (1 + (sp_low (v >>> ((9 : Int32) &&& 31)) 600)) (sp_low (v >>> ((14 : Int32) &&& 31)) 4)).map (fun I9 J9 r9 I8 J8 hK => ca_way_0 hd hj hK)
    · have hj : tsB (sp_low v 32) 159 620 0 30 #[137, 137, 181, 205, 205, 205, 205, 251, 283, 325, 325, 325, 325, 325, 370, 370, 370, 370, 394, 394, 394, 435, 445, 455, 485, 507, 512, 521, 548, 572, 597] 707 = true := by rw [j2]; decide
      exact (O1_wayOf h hk9 (sp_low (v >>> ((11 : Int32) &&& 31)) 8) (sp_low (v >>> ((14 : Int32) &&& 31)) 4)).map (fun I9 J9 r9 I8 J8 hK => ca_wayOf_0 hd hj hK)
    · have hj : tsB (sp_low v 32) 159 620 0 30 #[137, 137, 181, 205, 205, 205, 205, 251, 283, 325, 325, 325, 325, 325, 370, 370, 370, 370, 394, 394, 394, 435, 445, 455, 485, 507, 512, 521, 548, 572, 597] 731 = true := by rw [j2]; decide
      exact (O1_orderOf h hk9 (sp_low (v >>> ((11 : Int32) &&& 31)) 8) (sp_low (v >>> ((9 : Int32) &&& 31)) 6)).map (fun I9 J9 r9 I8 J8 hK => ca_orderOf_0 hd hj hK)
    · have hj : tsB (sp_low v 32) 159 620 0 30 #[137, 137, 181, 205, 205, 205, 205, 251, 283, 325, 325, 325, 325, 325, 370, 370, 370, 370, 394, 394, 394, 435, 445, 455, 485, 507, 512, 521, 548, 572, 597] 756 = true := by rw [j2]; decide
      exact (O1_sum h hk9 (sp_low (v >>> ((9 : Int32) &&& 31)) 8)).map (fun I9 J9 r9 I8 J8 hK => ca_sum_0 hd hj hK)
    · have hj : tsB (sp_low v 32) 159 620 0 30 #[137, 137, 181, 205, 205, 205, 205, 251, 283, 325, 325, 325, 325, 325, 370, 370, 370, 370, 394, 394, 394, 435, 445, 455, 485, 507, 512, 521, 548, 572, 597] 779 = true := by rw [j2]; decide
      by_cases hb9 : ((v >>> ((20 : Int32) &&& 31)) &&& 1) = 1
      · exact (O1_debt h hk9 (sp_low (v >>> ((5 : Int32) &&& 31)) 5) (sp_low (v >>> ((8 : Int32) &&& 31)) 5) 1).map (fun I9 J9 r9 I8 J8 hK => ca_debt_0_1 hd hj hb9 hK)
      · exact (O1_debt h hk9 (sp_low (v >>> ((5 : Int32) &&& 31)) 5) (sp_low (v >>> ((8 : Int32) &&& 31)) 5) 0).map (fun I9 J9 r9 I8 J8 hK => ca_debt_0_0 hd hj hb9 hK)
