/-! the model's search: rounds, and what it finds -/
theorem r2_all {P : MI} {N : MJ} {am mk : Int32} {nb t r i : Nat} {op : Nat → Prop} {fe : Nat → Nat} {ow : Nat → Nat → Nat → Prop} {σ : MI × MJ} (hm : mc P N am mk nb op fe ow) (hnb : nb ≤ 12) (ht : t < nb) (hr : r + nb ≤ 3000) (hi : i < nb) (hs : sm P N σ) (hS : Snd op fe ow t nb r σ) :
    sm P N (pf_r2 (nI t) am mk nb i σ) ∧ Snd op fe ow t nb (r + nb) (pf_r2 (nI t) am mk nb i σ) ∧ (∀ j f n, Le σ j f n → Le (pf_r2 (nI t) am mk nb i σ) j f n) ∧ ∀ c, c < nb → ∀ f n, Le σ c f n → op i → i ≠ t → ow i c f → Le (pf_r2 (nI t) am mk nb i σ) i (f + fe i) (n + 1) :=
  lp_inv (pf_rx (nI t) am mk i) (fun c' τ => sm P N τ ∧ Snd op fe ow t nb (r + c') τ ∧ (∀ j f n, Le σ j f n → Le τ j f n) ∧ ∀ c, c < c' → ∀ f n, Le σ c f n → op i → i ≠ t → ow i c f → Le τ i (f + fe i) (n + 1)) nb (fun c' τ hc ⟨a1, a2, a3, a4⟩ => by
    obtain ⟨b1, b2, b3, b4⟩ := rx_step hm hnb ht (by omega) hi hc a1 a2
    refine ⟨b1, b2, fun j f n h => b3 j f n (a3 j f n h), fun c hc9 f n h1 h2 h3 h4 => ?_⟩
    by_cases q : c = c'
    · subst q; exact b4 f n (a3 _ _ _ h1) h2 h3 h4
    · exact b3 _ _ _ (a4 c (by omega) f n h1 h2 h3 h4)) nb 0 σ (by omega) ⟨hs, hS, fun _ _ _ h => h, fun c hc => absurd hc (Nat.not_lt_zero c)⟩
theorem r3_all {P : MI} {N : MJ} {am mk : Int32} {nb t r q : Nat} {op : Nat → Prop} {fe : Nat → Nat} {ow : Nat → Nat → Nat → Prop} {σ : MI × MJ} (hm : mc P N am mk nb op fe ow) (hnb : nb ≤ 12) (ht : t < nb) (hr : r + nb * nb ≤ 2900) (hs : sm P N σ) (hS : Snd op fe ow t nb r σ) :
    sm P N (pf_r3 (nI t) am mk nb q σ) ∧ Snd op fe ow t nb (r + nb * nb) (pf_r3 (nI t) am mk nb q σ) ∧ (∀ j f n, Le σ j f n → Le (pf_r3 (nI t) am mk nb q σ) j f n) ∧ ∀ i, i < nb → ∀ c, c < nb → ∀ f n, Le σ c f n → op i → i ≠ t → ow i c f → Le (pf_r3 (nI t) am mk nb q σ) i (f + fe i) (n + 1) :=
  lp_inv (pf_r2 (nI t) am mk nb) (fun i' τ => sm P N τ ∧ Snd op fe ow t nb (r + i' * nb) τ ∧ (∀ j f n, Le σ j f n → Le τ j f n) ∧ ∀ i, i < i' → ∀ c, c < nb → ∀ f n, Le σ c f n → op i → i ≠ t → ow i c f → Le τ i (f + fe i) (n + 1)) nb (fun i' τ hi ⟨a1, a2, a3, a4⟩ => by
    have hmul : (i' + 1) * nb ≤ nb * nb := Nat.mul_le_mul_right nb (by omega)
    have hexp : (i' + 1) * nb = i' * nb + nb := Nat.succ_mul i' nb
    obtain ⟨b1, b2, b3, b4⟩ := r2_all hm hnb ht (r := r + i' * nb) (by omega) hi a1 a2
    refine ⟨b1, by rw [hexp, ← Nat.add_assoc]; exact b2, fun j f n h => b3 j f n (a3 j f n h), fun i hi9 c hc f n h1 h2 h3 h4 => ?_⟩
    by_cases q : i = i'
    · subst q; exact b4 c hc f n (a3 _ _ _ h1) h2 h3 h4
    · exact b3 _ _ _ (a4 i (by omega) c hc f n h1 h2 h3 h4)) nb 0 σ (by omega) ⟨hs, by rw [Nat.zero_mul]; exact hS, fun _ _ _ h => h, fun i hi => absurd hi (Nat.not_lt_zero i)⟩
theorem f0_all {P : MI} {N : MJ} {am mk : Int32} {nb t : Nat} {op : Nat → Prop} {fe : Nat → Nat} {ow : Nat → Nat → Nat → Prop} (hm : mc P N am mk nb op fe ow) (hnb : nb ≤ 12) (ht : t < nb) :
    sm P N (lp (pf_f0 (nI t) am mk) nb 0 (P, N)) ∧ Snd op fe ow t nb 0 (lp (pf_f0 (nI t) am mk) nb 0 (P, N)) ∧ (op t → Le (lp (pf_f0 (nI t) am mk) nb 0 (P, N)) t (fe t) 0) := by
  obtain ⟨m1, m2, m3, m4, m5⟩ := hm
  have key := lp_inv (pf_f0 (nI t) am mk) (fun i σ => sm P N σ ∧ ∀ j, j < i → σ.1 42 j = 1 ∧ ((j = t ∧ op t ∧ σ.2 5 j = ps_fee P t am) ∨ (¬ (j = t ∧ op t) ∧ σ.2 5 j = 1000000000000))) nb (fun i σ hi ⟨hs, hv⟩ => by
    have o1 : ∀ g j, ¬ (g = 42 ∧ j = i) → (pf_f0 (nI t) am mk i σ).1 g j = σ.1 g j := fun g j q => if_neg q
    have o2 : ∀ g j, ¬ (g = 5 ∧ j = i) → (pf_f0 (nI t) am mk i σ).2 g j = σ.2 g j := fun g j q => if_neg q
    refine ⟨⟨fun g j hg => (o1 g j (fun z => hg z.1)).trans (hs.1 g j hg), fun g j hg => (o2 g j (fun z => hg z.1)).trans (hs.2 g j hg)⟩, fun j hj => ?_⟩
    by_cases q : j = i
    · subst q
      refine ⟨if_pos ⟨rfl, rfl⟩, ?_⟩
      have eit : nI j = nI t ↔ j = t := nI_eq (by omega) (by omega)
      by_cases c1 : ¬ nI j = nI t
      · rw [f0_a c1]
        exact Or.inr ⟨fun z => c1 (eit.mpr z.1), if_pos ⟨rfl, rfl⟩⟩
      · have c1' := Decidable.not_not.mp c1
        have ejt := eit.mp c1'
        by_cases c2 : ¬ σ.1 7 j = 0
        · rw [f0_b c1' c2]
          exact Or.inr ⟨fun z => c2 ((hs.1 7 j (by decide)).trans (ejt ▸ ((m1 t ht).mp z.2).1)), if_pos ⟨rfl, rfl⟩⟩
        · have c2' := Decidable.not_not.mp c2
          by_cases c3 : ¬ pf_bit mk j = 0
          · rw [f0_c c1' c2' c3]
            exact Or.inr ⟨fun z => c3 (ejt ▸ ((m1 t ht).mp z.2).2), if_pos ⟨rfl, rfl⟩⟩
          · have c3' := Decidable.not_not.mp c3
            rw [f0_d c1' c2' c3']
            refine Or.inl ⟨ejt, ?_, ?_⟩
            · exact (m1 t ht).mpr ⟨ejt ▸ ((hs.1 7 j (by decide)).symm.trans c2'), ejt ▸ c3'⟩
            · refine (show uJ σ.2 5 j (ps_fee σ.1 j am) 5 j = ps_fee σ.1 j am from if_pos ⟨rfl, rfl⟩).trans ?_
              unfold ps_fee
              rw [hs.1 6 j (by decide), ejt]
    · rw [o1 42 j (fun z => q z.2), o2 5 j (fun z => q z.2)]
      exact hv j (by omega)) nb 0 (P, N) (by omega) ⟨⟨fun _ _ _ => rfl, fun _ _ _ => rfl⟩, fun j hj => absurd hj (Nat.not_lt_zero j)⟩
  generalize lp (pf_f0 (nI t) am mk) nb 0 (P, N) = W at key
  obtain ⟨k1, k2⟩ := key
  have hlb : ∀ j, j < nb → W.2 5 j = ps_fee P t am → j = t → lb W j (fe t) 0 := fun j hj h hjt => ⟨by rw [h]; exact (m2 t ht).1, (k2 j hj).1⟩
  refine ⟨k1, fun i hi => ?_, fun hop => ?_⟩
  · rcases (k2 i hi).2 with ⟨a, b, d⟩ | ⟨_, d⟩
    · exact Or.inr ⟨fe t, 0, Nat.le_refl _, hlb i hi d a, a, b, rfl⟩
    · exact Or.inl d
  · rcases (k2 t ht).2 with ⟨a, b, d⟩ | ⟨a, _⟩
    · exact ⟨fe t, 0, hlb t ht d rfl, by have := (m2 t ht).2; omega, by omega, lx.rf _ _⟩
    · exact absurd ⟨rfl, hop⟩ a
/-- what the model's search leaves -/
theorem fws_all {P : MI} {N : MJ} {am mk : Int32} {nb t : Nat} {op : Nat → Prop} {fe : Nat → Nat} {ow : Nat → Nat → Nat → Prop} (hm : mc P N am mk nb op fe ow) (hnb : nb ≤ 12) (ht : t < nb) :
    sm P N (ps_fws P N (nI t) am mk nb) ∧ Snd op fe ow t nb 1728 (ps_fws P N (nI t) am mk nb) ∧ ∀ n, n ≤ nb → ∀ i f, i < nb → rl op fe ow t n i f → Le (ps_fws P N (nI t) am mk nb) i f n := by
  obtain ⟨a1, a2, a3⟩ := f0_all hm hnb ht
  have hb2 : nb * nb ≤ 144 := Nat.le_trans (Nat.mul_le_mul hnb hnb) (by omega)
  have key := lp_inv (pf_r3 (nI t) am mk nb) (fun k τ => sm P N τ ∧ Snd op fe ow t nb (k * 144) τ ∧ ∀ n, n ≤ k → ∀ i f, i < nb → rl op fe ow t n i f → Le τ i f n) nb (fun k τ hk ⟨b1, b2, b3⟩ => by
    obtain ⟨d1, d2, d3, d4⟩ := r3_all (q := k) hm hnb ht (r := k * 144) (by omega) b1 b2
    refine ⟨d1, fun i hi => (d2 i hi).imp id (fun ⟨f, n, x, y⟩ => ⟨f, n, by omega, y⟩), fun n hn i f hi hr => ?_⟩
    rcases Nat.lt_or_ge k n with q | q
    · obtain ⟨n', rfl⟩ : ∃ n', n = n' + 1 := ⟨n - 1, by omega⟩
      obtain ⟨e1, e2, c, f', e3, e4, e5⟩ := hr
      have hc : c < nb := hm.2.2.1 c (rl_op e3)
      rw [e5]
      exact d4 i hi c hc f' n' (b3 n' (by omega) c f' hc e3) e2 e1 e4
    · exact d3 i f n (b3 n q i f hi hr)) nb 0 (lp (pf_f0 (nI t) am mk) nb 0 (P, N)) (by omega) ⟨a1, a2, fun n hn i f hi hr => by
      obtain rfl : n = 0 := by omega
      obtain ⟨rfl, e2, rfl⟩ := hr
      exact a3 e2⟩
  exact ⟨key.1, fun i hi => (key.2.1 i hi).imp id (fun ⟨f, n, x, y⟩ => ⟨f, n, by omega, y⟩), key.2.2⟩
/-- none, where there is none -/
theorem fws_none {P : MI} {N : MJ} {am mk : Int32} {nb t a : Nat} {op : Nat → Prop} {fe : Nat → Nat} {ow : Nat → Nat → Nat → Prop} (hm : mc P N am mk nb op fe ow) (hnb : nb ≤ 12) (ht : t < nb) (ha : a < nb) (h : ∀ n f, ¬ rl op fe ow t n a f) : (ps_fws P N (nI t) am mk nb).2 5 a = 1000000000000 :=
  ((fws_all hm hnb ht).2.1 a ha).resolve_right (fun ⟨f, n, _, _, hr⟩ => h n f hr)
/-- the best, where there is one -/
theorem fws_best {P : MI} {N : MJ} {am mk : Int32} {nb t a f n : Nat} {op : Nat → Prop} {fe : Nat → Nat} {ow : Nat → Nat → Nat → Prop} (hm : mc P N am mk nb op fe ow) (hnb : nb ≤ 12) (ht : t < nb) (ha : a < nb) (hn : n ≤ nb) (h : bv op fe ow t a f n) : lb (ps_fws P N (nI t) am mk nb) a f n ∧ f ≤ 500000000 := by
  obtain ⟨k1, k2, k3⟩ := fws_all hm hnb ht
  obtain ⟨f', n', l1, l2, l3, l4⟩ := k3 n hn a f ha h.1
  rcases k2 a ha with q | ⟨f2, n2, q1, q2, q3⟩
  · have := l1.1
    rw [q, far_toInt] at this
    omega
  · have e1 : f' = f2 := by have := l1.1.symm.trans q2.1; omega
    have e2 : n' = n2 := by
      have := (nI_eq (a := n' + 1) (b := n2 + 1) (by omega) (by omega)).mp (l1.2.symm.trans q2.2)
      omega
    subst e1 e2
    obtain ⟨e3, e4⟩ := (h.2 _ _ q3).as l4
    subst e3 e4
    exact ⟨l1, l2⟩
/-- the lowest one that fits -/
def nxq (P : MI) (N : MJ) (a : Nat) (am : Int32) (d : Nat) : Prop := ¬ ps_can P N a d am = 0 ∧ lg_cmp (ps_fee P a am + N 5 d) (N 5 a) = 0 ∧ P 42 d + 1 = P 42 a
theorem nk_hit {P : MI} {N : MJ} {a nb k : Nat} {am r : Int32} (h : nxq P N a am (nb - 1 - k)) : pf_nk P N a am nb k r = nI (nb - k) - 1 := (if_neg h.1).trans ((if_neg (fun z => z h.2.1)).trans (if_neg (fun z => z h.2.2)))
theorem nk_miss {P : MI} {N : MJ} {a nb k : Nat} {am r : Int32} (h : ¬ nxq P N a am (nb - 1 - k)) : pf_nk P N a am nb k r = r := by
  unfold pf_nk
  by_cases c1 : ps_can P N a (nb - 1 - k) am = 0
  · rw [if_pos c1]
  · rw [if_neg c1]
    by_cases c2 : ¬ lg_cmp (ps_fee P a am + N 5 (nb - 1 - k)) (N 5 a) = 0
    · rw [if_pos c2]
    · rw [if_neg c2, if_pos]
      exact fun z => h ⟨c1, Decidable.not_not.mp c2, z⟩
theorem nx_low {P : MI} {N : MJ} {a nb d : Nat} {am : Int32} (hd : d < nb) (h1 : nxq P N a am d) (h2 : ∀ j, j < d → ¬ nxq P N a am j) : pf_nx P N a am nb = nI d := by
  have key := lp_inv (pf_nk P N a am nb) (fun k r => nb - k ≤ d → r = nI d) nb (fun k r hk hr hh => by
    rcases Nat.lt_trichotomy (nb - 1 - k) d with q | q | q
    · rw [nk_miss (h2 _ q)]; exact hr (by omega)
    · rw [nk_hit (by rw [q]; exact h1), dn_at hk, q]
    · omega) nb 0 (-1) (by omega) (fun hh => by omega)
  exact key (by omega)
/-- the model goes the best way, the lowest first -/
theorem fws_path {P : MI} {N : MJ} {am mk : Int32} {nb t a f n : Nat} {p : Nat → Nat} {op : Nat → Prop} {fe : Nat → Nat} {ow : Nat → Nat → Nat → Prop} (hm : mc P N am mk nb op fe ow) (hnb : nb ≤ 12) (ht : t < nb) (hn : n + 1 ≤ nb) (h : bv op fe ow t a f n) (hw : wp op fe ow t a n p) :
    (∀ k, k ≤ n → p k < nb ∧ ∃ fk, bv op fe ow t (p k) fk (n - k) ∧ lb (ps_fws P N (nI t) am mk nb) (p k) fk (n - k) ∧ fk ≤ 500000000) ∧ ∀ k, k < n → p k ≠ t ∧ pf_nx (ps_fws P N (nI t) am mk nb).1 (ps_fws P N (nI t) am mk nb).2 (p k) am nb = nI (p (k + 1)) := by
  have hp : ∀ k, k ≤ n → p k < nb ∧ ∃ fk, bv op fe ow t (p k) fk (n - k) ∧ lb (ps_fws P N (nI t) am mk nb) (p k) fk (n - k) ∧ fk ≤ 500000000 := fun k hk => by
    obtain ⟨_, fk, hb⟩ := hw.2.2.1 k hk
    have hlt : p k < nb := hm.2.2.1 _ (rl_op hb.1)
    obtain ⟨l1, l2⟩ := fws_best hm hnb ht hlt (by omega) hb
    exact ⟨hlt, fk, hb, l1, l2⟩
  refine ⟨hp, fun k hk => ?_⟩
  obtain ⟨k1, k2, k3⟩ := fws_all hm hnb ht
  obtain ⟨ha, fa, hba, la, lfa⟩ := hp k (by omega)
  have hnk : n - k = (n - (k + 1)) + 1 := by omega
  have hpt : p k ≠ t := fun z => by
    have := hba.1
    rw [hnk] at this
    exact this.1 z
  refine ⟨hpt, ?_⟩
  generalize hW : ps_fws P N (nI t) am mk nb = W at *
  obtain ⟨m1, m2, m3, m4, m5⟩ := id hm
  have efee : ps_fee W.1 (p k) am = ps_fee P (p k) am := by unfold ps_fee; rw [k1.1 6 _ (by decide)]
  -- what fits is a next one
  have toNx : ∀ d, d < nb → nxq W.1 W.2 (p k) am d → nx op fe ow t (p k) d := fun d hd hq => by
    obtain ⟨q1, q2, q3⟩ := hq
    have hfar : ¬ W.2 5 d = 1000000000000 := fun z => q1 (by
      unfold ps_can
      by_cases e : nI (p k) = nI d
      · rw [if_pos e]
      · rw [if_neg e, if_pos]
        rw [lg_cmp_ge, z]; exact Int64.le_refl _)
    obtain ⟨fd, nd, d1, d2, d3⟩ := (k2 d hd).resolve_left hfar
    have dfd := rl_fee (fun a ha => (m2 a (m3 a ha)).2) nd d fd d3
    have hfd : fd ≤ 172900000 := Nat.le_trans dfd (by omega)
    have how := ((m5 W.1 W.2 (p k) d fd k1.1 k1.2 ha hd (by omega) d2.1).mp q1).2
    have hfi := m2 (p k) ha
    rw [lg_cmp_eq, ← Int64.toInt_inj, i64add (by rw [efee, hfi.1, d2.1]; omega) (by rw [efee, hfi.1, d2.1]; omega), efee, hfi.1, d2.1, la.1] at q2
    rw [d2.2, la.2, nI_1] at q3
    have e3 := (nI_eq (by omega) (by omega)).mp q3
    have e4 : nd = n - (k + 1) := by omega
    have e5 : fd + fe (p k) = fa := by omega
    refine ⟨fa, fd, nd, by rw [e4, ← hnk]; exact hba, ⟨d3, fun f' n' hr => ?_⟩, e5, how⟩
    -- nothing is better there
    rcases (show lx fd nd f' n' ∨ (f' < fd ∨ (f' = fd ∧ n' < nd)) by unfold lx; omega) with z | z
    · exact z
    · exfalso
      have := hba.2 (f' + fe (p k)) (n' + 1) ⟨hpt, rl_op hba.1, d, f', hr, m4 _ _ _ _ (by omega) how, rfl⟩
      unfold lx at this
      omega
  have fromNx : ∀ d, nx op fe ow t (p k) d → d < nb ∧ nxq W.1 W.2 (p k) am d := fun d hd => by
    obtain ⟨f1, f2, n1, b1, b2, b3, b4⟩ := hd
    obtain ⟨e1, e2⟩ := b1.one hba
    have hdn : d < nb := m3 _ (rl_op b2.1)
    obtain ⟨l1, l2⟩ := fws_best hm hnb ht hdn (by omega) b2
    rw [hW] at l1
    have hpd : p k ≠ d := fun z => by
      rw [z] at b1
      have := (b1.one b2).2
      omega
    refine ⟨hdn, (m5 W.1 W.2 (p k) d f2 k1.1 k1.2 ha hdn l2 l1.1).mpr ⟨hpd, b4⟩, ?_, ?_⟩
    · have hfi := m2 (p k) ha
      rw [lg_cmp_eq, ← Int64.toInt_inj, i64add (by rw [efee, hfi.1, l1.1]; omega) (by rw [efee, hfi.1, l1.1]; omega), efee, hfi.1, l1.1, la.1]
      omega
    · rw [l1.2, la.2, nI_1]
      exact congrArg nI (by omega)
  have hlo := hw.2.2.2 k hk
  obtain ⟨z1, z2⟩ := fromNx _ hlo.1
  exact nx_low z1 z2 (fun j hj hq => hlo.2 j hj (toNx j (by omega) hq))
