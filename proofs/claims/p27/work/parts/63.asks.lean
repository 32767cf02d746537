/-! an inquiry, sums: the same answers -/
theorem bit_one32 : ∀ a : Fin 32, ∀ b : Fin 12, ((1 : Int32) <<< (nI b.val &&& 31)).toBitVec.getLsbD a.val = decide (b.val = a.val) := by decide +kernel
theorem and_bit (s : Int32) {b : Nat} (hb9 : b < 12) : (s &&& ((1 : Int32) <<< (nI b &&& 31)) = 0) ↔ s.toBitVec.getLsbD b = false := by
  rw [← Int32.toBitVec_inj, Int32.toBitVec_and]
  constructor
  · intro z
    have h := congrArg (fun v => BitVec.getLsbD v b) z
    have h1 : ((1 : Int32) <<< (nI b &&& 31)).toBitVec.getLsbD b = true := by
      have := bit_one32 ⟨b, by omega⟩ ⟨b, hb9⟩
      exact this.trans (decide_eq_true rfl)
    have h2 : (s.toBitVec &&& ((1 : Int32) <<< (nI b &&& 31)).toBitVec).getLsbD b = (0 : Int32).toBitVec.getLsbD b := h
    rw [BitVec.getLsbD_and, h1, Bool.and_true] at h2
    rw [h2]
    exact BitVec.getLsbD_zero
  · intro z
    apply BitVec.eq_of_getLsbD_eq
    intro i hi
    rw [BitVec.getLsbD_and]
    have h1 : ((1 : Int32) <<< (nI b &&& 31)).toBitVec.getLsbD i = decide (b = i) := bit_one32 ⟨i, hi⟩ ⟨b, hb9⟩
    rw [h1]
    by_cases c : b = i
    · subst c
      rw [z, Bool.false_and]
      exact (BitVec.getLsbD_zero (w := 32) (i := b)).symm
    · rw [decide_eq_false c, Bool.and_false]
      exact (BitVec.getLsbD_zero (w := 32) (i := i)).symm
theorem bit_01 (x : Int32) (a : Nat) : pf_bit x a = 0 ∨ pf_bit x a = 1 := by
  obtain ⟨j, h1, h2⟩ := pk_andE (x >>> (nI a &&& 31)) (m := 1) 1 (by decide)
  unfold pf_bit
  rw [h2]
  rcases (show j = 0 ∨ j = 1 by omega) with rfl | rfl
  · exact Or.inl rfl
  · exact Or.inr rfl
theorem bit_1 (x : Int32) {a : Nat} (ha : a < 12) : pf_bit x a = 1 ↔ x.toBitVec.getLsbD a = true := by
  have h := bit_get x ha
  rcases bit_01 x a with e | e
  · rw [e]
    refine ⟨fun z => absurd z (by decide), fun z => ?_⟩
    rw [h.mp e] at z
    exact absurd z (by decide)
  · rw [e]
    refine ⟨fun _ => ?_, fun _ => rfl⟩
    cases q : x.toBitVec.getLsbD a with
    | true => rfl
    | false => exact absurd ((h.mpr q).symm.trans e) (by decide)
theorem or_0 (s : Int32) : s ||| 0 = s := Int32.toBitVec_inj.mp (by rw [Int32.toBitVec_or]; exact BitVec.or_zero)
theorem q3_same {J N : MJ} (hj : jr J N) {nb a : Nat} (hnb : nb ≤ 12) (ha : a < nb) (s : Int32) : sf_q2 J nb a s = pq_3 N nb a s := by
  have e2 : ∀ i, N 2 (12 * a + i) = J 2 (12 * a + i) := fun i => (hj _).2.2.symm
  unfold sf_q2 pq_3
  by_cases c : s.toBitVec.getLsbD a = true
  · have hne : ¬ s &&& ((1 : Int32) <<< (nI a &&& 31)) = 0 := fun z => by
      have := (and_bit s (show a < 12 by omega)).mp z
      rw [c] at this; exact absurd this (by decide)
    rw [if_neg hne]
    have key := lp_inv (pq_2 N a) (fun i σ => σ.toBitVec.getLsbD a = true ∧ σ = s ||| lp (sf_nb J a) i 0 0) nb (fun i σ hi ⟨h1, h2⟩ => by
      have hb1 : (σ >>> (nI a &&& 31)) &&& 1 = 1 := (bit_1 σ (show a < 12 by omega)).mpr h1
      have e : pq_2 N a i σ = if lg_cmp (J 2 (12 * a + i)) 0 = 0 then σ ||| 0 else σ ||| ((1 : Int32) <<< (nI i &&& 31)) := by
        unfold pq_2
        rw [if_neg (fun z => z hb1), e2]
      rw [e, lp_last, Nat.zero_add]
      have e3 : sf_nb J a i (lp (sf_nb J a) i 0 0) = if lg_cmp (J 2 (12 * a + i)) 0 = 0 then lp (sf_nb J a) i 0 0 else lp (sf_nb J a) i 0 0 ||| ((1 : Int32) <<< (nI i &&& 31)) := rfl
      rw [e3]
      by_cases d : lg_cmp (J 2 (12 * a + i)) 0 = 0
      · rw [if_pos d, if_pos d, or_0]; exact ⟨h1, h2⟩
      · rw [if_neg d, if_neg d]
        refine ⟨?_, ?_⟩
        · rw [Int32.toBitVec_or, BitVec.getLsbD_or, h1, Bool.true_or]
        · rw [h2]
          apply Int32.toBitVec_inj.mp
          simp only [Int32.toBitVec_or]
          exact BitVec.or_assoc _ _ _) nb 0 s (by omega) ⟨c, (or_0 s).symm⟩
    exact key.2.symm
  · have hz : s &&& ((1 : Int32) <<< (nI a &&& 31)) = 0 := (and_bit s (show a < 12 by omega)).mpr (Bool.eq_false_iff.mpr c)
    rw [if_pos hz]
    have key := lp_inv (pq_2 N a) (fun _ σ => σ = s) nb (fun i σ _ h => by
      subst h
      unfold pq_2
      have hn : ¬ (σ >>> (nI a &&& 31)) &&& 1 = 1 := fun z => c ((bit_1 σ (show a < 12 by omega)).mp z)
      rw [if_pos hn, or_0]) nb 0 s (by omega) rfl
    exact key.symm
theorem lp_eq {σ : Type} {f g : Nat → σ → σ} {hi : Nat} (h : ∀ i s, i < hi → f i s = g i s) (n i : Nat) (s : σ) (hn : i + n = hi) : lp f n i s = lp g n i s := lp_rel f g (fun _ a b => a = b) hi (fun i s t hi' e => by subst e; exact h i s hi') n i s s hn rfl
theorem inq_same {I P : MI} {J N : MJ} (hr : ri I P) (hj : jr J N) {nb : Nat} (hnb : nb ≤ 12) : sp_inq I J nb = ps_inq P N nb := by
  unfold sp_inq ps_inq
  have e1 : lp (sf_q1 I) nb 0 0 = lp (pq_1 P) nb 0 0 := lp_eq (hi := nb) (fun i s _ => by
    unfold sf_q1 pq_1
    rw [hr 9 i (by unfold shd; omega)]
    by_cases c : I 9 i = 0
    · rw [if_pos c, if_pos c, or_0]
    · rw [if_neg c, if_neg c]) nb 0 0 (by omega)
  rw [e1]
  refine lp_eq (hi := nb) (fun _ s _ => ?_) nb 0 _ (by omega)
  unfold sf_q3 pq_4
  exact lp_eq (hi := nb) (fun a s ha => q3_same hj hnb ha s) nb 0 s (by omega)
theorem sum_same {k nb no nc : Nat} {I P : MI} {J N : MJ} (h : IV k nb no nc I J P N) (x : Int32) : r_sum I J x nb no nc = pr_sum P N x nb no nc := by
  obtain ⟨h1, h2, h3, h4, h5⟩ := h
  obtain ⟨⟨r1, r2, r3, r4⟩, hv, hq, ⟨s0, s1, s2, s3⟩, hz⟩ := h1
  replace s0 : N 4 0 = _ := s0
  replace s1 : N 4 1 = _ := s1
  replace s2 : N 4 2 = _ := s2
  replace s3 : N 4 3 = _ := s3
  unfold r_sum pr_sum
  rw [sums_0, sums_1, sums_2, sums_3, s0, s1, s2, s3]
  repeat' split
  · rfl
  · rfl
  · rfl
  · rfl
  · exact hz
  · refine lp_eq (hi := nc) (fun i s hi => ?_) nc 0 0 (by omega)
    unfold sf_so pf_so
    have e41 : P 41 i = if I 26 i = 0 then 1 else 0 := hv i hi
    rw [e41, show P 24 i = I 24 i from r1 24 i (by unfold shd; omega)]
    by_cases c : I 26 i = 0
    · rw [if_pos c, if_pos c, if_neg (by decide), Int64.add_zero]
    · rw [if_neg c, if_neg c, if_pos rfl]
  · refine lp_eq (hi := nb) (fun i s hi => ?_) nb 0 0 (by omega)
    unfold sf_sc pf_sc
    rw [show N 0 i = J 0 i from (r3 i).1.symm]
  · refine lp_eq (hi := no) (fun i s hi => ?_) no 0 0 (by omega)
    unfold sf_si pf_sl
    rw [show P 16 i = I 16 i from r1 16 i (by unfold shd; omega), show P 14 i = I 14 i from r1 14 i (by unfold shd; omega)]
    by_cases c : ¬ I 16 i = 5
    · rw [if_pos c, if_pos c, Int64.add_zero]
    · rw [if_neg c, if_neg c]
/-! what throws: class and model alike -/
theorem ix_cs {x c9 : Int32} {n : Nat} (hc : c9 = nI n) (hn : n ≤ 40) : (sx_ix x c9 = none ∧ ¬ sx_in x 0 (c9 - 1) = 0 ∧ x = nI (tn x) ∧ tn x < n) ∨ (sx_ix x c9 = some eI ∧ sx_in x 0 (c9 - 1) = 0) := by
  unfold sx_ix sx_in
  by_cases c1 : x < 0
  · rw [if_pos c1, if_pos c1]; exact Or.inr ⟨rfl, rfl⟩
  rw [if_neg c1, if_neg c1]
  obtain ⟨j, j1, j2⟩ := nI_of c1
  rcases Nat.eq_zero_or_pos n with q | q
  · subst q
    have e1 : ¬ x < c9 := by rw [hc, j2]; exact nI_nlt (Nat.zero_le _) j1
    have e2 : c9 - 1 < x := by
      rw [hc, j2, Int32.lt_iff_toInt_lt, nI_toInt j1]
      show (-1 : Int) < _
      omega
    rw [if_neg e1, if_pos e2]
    exact Or.inr ⟨rfl, rfl⟩
  · obtain ⟨n', rfl⟩ : ∃ n', n = n' + 1 := ⟨n - 1, by omega⟩
    have e0 : c9 - 1 = nI n' := by rw [hc, nI_pred]
    have et : tn x = j := by rw [j2]; exact nI_clamp j1
    rw [e0, hc]
    by_cases c2 : j < n' + 1
    · have e1 : x < nI (n' + 1) := by rw [j2]; exact nI_lt c2 (by omega)
      have e2 : ¬ nI n' < x := by rw [j2]; exact nI_nlt (by omega) (by omega)
      rw [if_pos e1, if_neg e2]
      exact Or.inl ⟨rfl, by decide, by rw [et]; exact j2, by omega⟩
    · have e1 : ¬ x < nI (n' + 1) := by rw [j2]; exact nI_nlt (by omega) j1
      have e2 : nI n' < x := by rw [j2]; exact nI_lt (by omega) j1
      rw [if_neg e1, if_pos e2]
      exact Or.inr ⟨rfl, rfl⟩
theorem rg_cs (x a b : Int32) : (sx_rg x a b = none ∧ ¬ sx_in x a b = 0) ∨ (sx_rg x a b = some eA ∧ sx_in x a b = 0) := by
  unfold sx_rg sx_in
  by_cases c1 : x < a
  · rw [if_pos c1, if_pos c1]; exact Or.inr ⟨rfl, rfl⟩
  rw [if_neg c1, if_neg c1]
  by_cases c2 : x ≤ b
  · rw [if_pos c2, if_neg (Int32.not_lt.mpr c2)]; exact Or.inl ⟨rfl, by decide⟩
  · rw [if_neg c2, if_pos (Int32.not_le.mp c2)]; exact Or.inr ⟨rfl, rfl⟩
theorem two_cs {I P : MI} {x y : Int32} {n : Nat} (hI : I 0 0 = nI n) (hP : P 0 0 = I 0 0) (hn : n ≤ 12) : (sx_two I x y = none ∧ ¬ sx_br2 P x y = 0 ∧ ¬ x = y ∧ (x = nI (tn x) ∧ tn x < n) ∧ (y = nI (tn y) ∧ tn y < n) ∧ tn x ≠ tn y) ∨ (sx_two I x y = some eI ∧ sx_br2 P x y = 0) ∨ (sx_two I x y = some eA ∧ ¬ sx_br2 P x y = 0 ∧ x = y) := by
  unfold sx_two sx_br2
  rw [hP]
  rcases ix_cs (x := x) hI (by omega) with ⟨a1, a2, a3, a4⟩ | ⟨a1, a2⟩
  · rw [a1, if_neg a2]
    rcases ix_cs (x := y) hI (by omega) with ⟨b1, b2, b3, b4⟩ | ⟨b1, b2⟩
    · rw [b1, if_neg b2]
      by_cases c : x = y
      · rw [if_neg (fun z => z c)]
        exact Or.inr (Or.inr ⟨rfl, by decide, c⟩)
      · rw [if_pos c]
        refine Or.inl ⟨rfl, by decide, c, ⟨a3, a4⟩, ⟨b3, b4⟩, fun z => c (by rw [a3, b3, z])⟩
    · rw [b1, if_pos b2]
      exact Or.inr (Or.inl ⟨rfl, rfl⟩)
  · rw [a1, if_pos a2]
    exact Or.inr (Or.inl ⟨rfl, rfl⟩)
theorem st_no {x : Int32} (h : ¬ x = 0) : sx_st x = none := if_pos h
theorem st_yes {x : Int32} (h : x = 0) : sx_st x = some eS := if_neg (fun z => z h)
theorem pl_cs (x : Int32) : (sx_pl x = none ∧ ¬ x < 0 ∧ x = nI (tn x)) ∨ (sx_pl x = some eI ∧ x < 0) := by
  unfold sx_pl
  by_cases c : 0 ≤ x
  · rw [if_pos c]
    refine Or.inl ⟨rfl, Int32.not_lt.mpr c, ?_⟩
    obtain ⟨j, j1, j2⟩ := nI_of (Int32.not_lt.mpr c)
    rw [j2]
    exact congrArg nI (nI_clamp j1).symm
  · rw [if_neg c]
    exact Or.inr ⟨rfl, Int32.not_le.mp c⟩
