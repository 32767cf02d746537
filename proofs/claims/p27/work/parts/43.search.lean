/-! the model's search, with the model's numbers -/
def mop (P : MI) (mk : Int32) (nb a : Nat) : Prop := a < nb ∧ P 7 a = 0 ∧ pf_bit mk a = 0
def mfe (P : MI) (am : Int32) (a : Nat) : Nat := (am * P 6 a / 1000).toNatClampNeg
def mow (P : MI) (N : MJ) (am : Int32) (a c f : Nat) : Prop := (N 1 (12 * a + c)).toInt + am.toInt + f ≤ (ps_lim P c a).toInt
theorem fee_toInt {P : MI} {am : Int32} {a m r : Nat} (hm : m ≤ 1000000) (ham : am = nI m) (hr : r ≤ 100) (h6 : P 6 a = nI r) : (ps_fee P a am).toInt = mfe P am a ∧ mfe P am a ≤ 100000 := by
  have hmr : m * r ≤ 1000000 * 100 := Nat.mul_le_mul hm hr
  have e1 : mfe P am a = m * r / 1000 := by
    unfold mfe
    rw [ham, h6, pk_mul, show (1000 : Int32) = nI 1000 from rfl, pk_div (by omega) (by omega) (by omega), nI_clamp (by omega)]
  have e2 : ps_fee P a am = lN (m * r) / 1000 := by
    unfold ps_fee
    rw [ham, h6, nI_l (by omega), nI_l (by omega), lN_mul]
  rw [e2, e1, Int64.toInt_div, lN_toInt (by omega), show (1000 : Int64).toInt = ((1000 : Nat) : Int) from by decide, ← Int.ofNat_tdiv]
  generalize m * r = q at hmr
  exact ⟨Int.bmod_eq_of_le (by omega) (by omega), by omega⟩
theorem mc_inst {P : MI} {N : MJ} {am mk : Int32} {nb m : Nat} (hnb : nb ≤ 12) (hrt : hw_rt P) (hm : m ≤ 1000000) (ham : am = nI m) (hbd : bd N 4611686018427387904) : mc P N am mk nb (mop P mk nb) (mfe P am) (mow P N am) := by
  refine ⟨fun a ha => ⟨fun h => h.2, fun h => ⟨ha, h⟩⟩, fun a ha => ?_, fun a h => h.1, fun a c f f' h1 h2 => ?_, fun P' N' a c f hP hN ha hc hf hfc => ?_⟩
  · obtain ⟨r, r1, r2⟩ := hrt a (by omega)
    exact fee_toInt hm ham r1 r2
  · unfold mow at *
    omega
  · have e1 : N' 1 (12 * a + c) = N 1 (12 * a + c) := hN 1 _ (by decide)
    have e2 : ps_lim P' c a = ps_lim P c a := by unfold ps_lim; rw [hP 4 0 (by decide), hP 10 _ (by decide), hP 11 _ (by decide)]
    obtain ⟨b1, b2⟩ := hbd (12 * a + c)
    have hal : am.toInt64.toInt = am.toInt := i32l am
    have ha2 : am.toInt = (m : Int) := by rw [ham]; exact nI_toInt (by omega)
    have s1 : (N' 1 (12 * a + c) + am.toInt64).toInt = (N 1 (12 * a + c)).toInt + am.toInt := by rw [e1, i64add (by omega) (by omega), hal]
    have s2 : (N' 1 (12 * a + c) + am.toInt64 + N' 5 c).toInt = (N 1 (12 * a + c)).toInt + am.toInt + f := by rw [i64add (by omega) (by omega), s1, hfc]
    have hac : nI a = nI c ↔ a = c := nI_eq (by omega) (by omega)
    have hfar : ¬ 0 ≤ lg_cmp (N' 5 c) 1000000000000 := fun z => by
      rw [lg_cmp_ge, Int64.le_iff_toInt_le, far_toInt, hfc] at z
      omega
    have hgt : 0 < lg_cmp (N' 1 (12 * a + c) + am.toInt64 + N' 5 c) (ps_lim P' c a) ↔ ¬ mow P N am a c f := by
      rw [lg_cmp_gt, Int64.lt_iff_toInt_lt, s2, e2]
      unfold mow
      omega
    unfold ps_can
    by_cases c1 : nI a = nI c
    · rw [if_pos c1]
      exact ⟨fun z => absurd rfl z, fun z => absurd (hac.mp c1) z.1⟩
    · rw [if_neg c1, if_neg hfar]
      by_cases c2 : 0 < lg_cmp (N' 1 (12 * a + c) + am.toInt64 + N' 5 c) (ps_lim P' c a)
      · rw [if_pos c2]
        exact ⟨fun z => absurd rfl z, fun z => absurd z.2 (hgt.mp c2)⟩
      · rw [if_neg c2]
        exact ⟨fun _ => ⟨fun z => c1 (hac.mpr z), (by unfold mow; exact Decidable.byContradiction (fun z => c2 (hgt.mpr z)))⟩, fun _ => by decide⟩
/-- all that the model's way is, where there is a best one -/
theorem way_of {P : MI} {N : MJ} {am mk : Int32} {nb t a f n : Nat} {p : Nat → Nat} {op : Nat → Prop} {fe : Nat → Nat} {ow : Nat → Nat → Nat → Prop} (hm : mc P N am mk nb op fe ow) (hnb : nb ≤ 12) (ht : t < nb) (hn : n + 1 ≤ nb) (h : bv op fe ow t a f n) (hw : wp op fe ow t a n p) :
    lg_cmp ((ps_fws P N (nI t) am mk nb).2 5 a) 1000000000000 < 0 ∧ tn ((ps_fws P N (nI t) am mk nb).1 42 a) - 1 = n ∧ ∀ k, k ≤ n → pf_pp (ps_fws P N (nI t) am mk nb).1 (ps_fws P N (nI t) am mk nb).2 a am nb k = p k := by
  obtain ⟨g1, g2⟩ := fws_path hm hnb ht hn h hw
  obtain ⟨ha, fa, b1, b2, b3⟩ := g1 0 (Nat.zero_le _)
  rw [hw.1] at ha b1 b2
  refine ⟨?_, ?_, fun k => ?_⟩
  · rw [lg_cmp_lt, Int64.lt_iff_toInt_lt, far_toInt, b2.1]; omega
  · rw [b2.2]
    show (nI (n - 0 + 1)).toNatClampNeg - 1 = n
    rw [nI_clamp (by omega)]; omega
  · induction k with
    | zero => intro _; exact hw.1.symm
    | succ k ih =>
      intro hk
      show tn (pf_nx _ _ (pf_pp _ _ a am nb k) am nb) = p (k + 1)
      rw [ih (by omega), (g2 k (by omega)).2]
      exact nI_clamp (by have := (g1 (k + 1) hk).1; omega)
theorem po_way_of {P : MI} {N : MJ} {x y z : Int32} {nb f n : Nat} {p : Nat → Nat} {op : Nat → Prop} {fe : Nat → Nat} {ow : Nat → Nat → Nat → Prop} (hm : mc P N z 0 nb op fe ow) (hnb : nb ≤ 12) (hy : y = nI (tn y)) (ht : tn y < nb) (hn1 : 1 ≤ n) (hn : n + 1 ≤ nb) (h : bv op fe ow (tn y) (tn x) f n) (hw : wp op fe ow (tn y) (tn x) n p) :
    po_way P N x y z nb ∧ po_n P N x y z nb = n ∧ ∀ k, k ≤ n → po_p P N x y z nb k = p k := by
  obtain ⟨w1, w2, w3⟩ := way_of hm hnb ht hn h hw
  obtain ⟨g1, g2⟩ := fws_path hm hnb ht hn h hw
  have eW : po_W P N y z nb = ps_fws P N (nI (tn y)) z 0 nb := by unfold po_W; rw [← hy]
  have en : po_n P N x y z nb = n := by unfold po_n; rw [eW]; exact w2
  have ep : ∀ k, k ≤ n → po_p P N x y z nb k = p k := fun k hk => by unfold po_p; rw [eW]; exact w3 k hk
  refine ⟨⟨by rw [eW]; exact w1, by omega, by omega, ?_, fun k hk => ?_⟩, en, ep⟩
  · rw [en, ep n (Nat.le_refl _)]; exact hw.2.1
  · rw [en] at hk
    rw [ep k (by omega), ep (k + 1) (by omega), eW]
    exact ⟨by have := (g1 k (by omega)).1; omega, (g2 k hk).1, (g2 k hk).2⟩
theorem po_far_of {P : MI} {N : MJ} {x y z : Int32} {nb : Nat} {op : Nat → Prop} {fe : Nat → Nat} {ow : Nat → Nat → Nat → Prop} (hm : mc P N z 0 nb op fe ow) (hnb : nb ≤ 12) (hy : y = nI (tn y)) (ht : tn y < nb) (hx : tn x < nb) (h : ∀ n f, ¬ rl op fe ow (tn y) n (tn x) f) : po_far P N x y z nb := by
  have eW : po_W P N y z nb = ps_fws P N (nI (tn y)) z 0 nb := by unfold po_W; rw [← hy]
  unfold po_far
  rw [eW, fws_none hm hnb ht hx h, lg_cmp_ge]
  exact Int64.le_refl _
