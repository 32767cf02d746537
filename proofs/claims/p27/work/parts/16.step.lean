/-- what one round does to the place a -/
theorem rf_place {I : MI} {J : MJ} {op : Nat → Prop} {fe : Nat → Nat} {ow : Nat → Nat → Nat → Prop} (hd : dc I J op fe ow) {a c : Nat} (ha : a < 12) (hc : c < 12) (hfe : fe a ≤ 100000) {f n : Nat} (hf : I 34 c = nI f) (hn : I 35 c = nI (n + 1)) (hfb : f ≤ 1900000) (hnb : n ≤ 20)
    (hr : ¬ I 32 a = 0 → I 34 a = nI (dF I a) ∧ I 35 a = nI (dN I a + 1) ∧ dN I a ≤ 20 ∧ dF I a ≤ 2000000) :
    ((∀ g, sf_rf J c a I g a = I g a) ∧ (op a → I 33 a = 0 → ow a c f → ¬ I 32 a = 0 ∧ lx (dF I a) (dN I a) (f + fe a) (n + 1))) ∨
    (op a ∧ I 33 a = 0 ∧ ow a c f ∧ (¬ I 32 a = 0 → lx (f + fe a) (n + 1) (dF I a) (dN I a)) ∧ (∀ g, sf_rf J c a I g a = uI (uI (uI I 32 a 1) 34 a (nI (f + fe a))) 35 a (nI (n + 2)) g a)) := by
  have hfee : I 34 c + sp_fee I a = nI (f + fe a) := by
    unfold sp_fee
    rw [hd.2.1 a ha, hf, nI_add]
  have hcnt : I 35 c + 1 = nI (n + 2) := by rw [hn, nI_1]
  have how := hd.owe ha hc (by omega) hf
  by_cases c1 : I 31 a = 0
  · refine Or.inl ⟨fun g => by unfold sf_rf; rw [if_pos c1], fun h => absurd ((hd.1 a ha).mpr h) (fun z => z c1)⟩
  · by_cases c2 : ¬ I 33 a = 0
    · exact Or.inl ⟨fun g => by unfold sf_rf; rw [if_neg c1, if_pos c2], fun _ h => absurd h c2⟩
    · by_cases c3 : sp_owe I J a c = 0
      · exact Or.inl ⟨fun g => by unfold sf_rf; rw [if_neg c1, if_neg c2, if_pos c3], fun _ _ h => absurd (how.mpr h) (fun z => z c3)⟩
      · have hop := (hd.1 a ha).mp c1
        have h33 := Classical.not_not.mp c2
        have how3 := how.mp c3
        by_cases c4 : I 32 a = 0
        · refine Or.inr ⟨hop, h33, how3, fun z => absurd c4 z, fun g => ?_⟩
          unfold sf_rf
          rw [if_neg c1, if_neg c2, if_neg c3, if_pos c4, hfee, hcnt]
        · obtain ⟨g1, g2, g3, g4⟩ := hr c4
          have hb5 := sp_bet_2 (f' := f + fe a) (n' := n + 2) g1 g2 (by omega) (by omega) (by omega) (by omega)
          by_cases c5 : sp_bet I (I 34 c + sp_fee I a) (I 35 c + 1) a = 0
          · refine Or.inl ⟨fun g => by unfold sf_rf; rw [if_neg c1, if_neg c2, if_neg c3, if_neg c4, if_pos c5], fun _ _ _ => ⟨c4, ?_⟩⟩
            rw [hfee, hcnt] at c5
            have := hb5.mp c5
            unfold lx at *
            omega
          · refine Or.inr ⟨hop, h33, how3, fun _ => ?_, fun g => ?_⟩
            · rw [hfee, hcnt] at c5
              have : ¬ lx (dF I a) (dN I a + 1) (f + fe a) (n + 2) := fun z => c5 (hb5.mpr z)
              unfold lx at *
              omega
            · unfold sf_rf
              rw [if_neg c1, if_neg c2, if_neg c3, if_neg c4, if_neg c5, hfee, hcnt]
theorem dv_done {I : MI} {J : MJ} {op : Nat → Prop} {fe : Nat → Nat} {ow : Nat → Nat → Nat → Prop} {t k : Nat} (h : dv I J op fe ow t k) (hall : ∀ a, a < 12 → ¬ I 32 a = 0 → ¬ I 33 a = 0) : dv I J op fe ow t (k + 1) := by
  obtain ⟨h0, h1, h2, h3, h4, h5, h6, h7, h8⟩ := h
  refine ⟨h0, fun a ha hr => ?_, h2, h3, h4, Or.inr hall, h6, h7, h8⟩
  obtain ⟨a1, a2, a3, a4, a5, a6⟩ := h1 a ha hr
  exact ⟨a1, a2, a3, a4, by omega, a6⟩
set_option maxHeartbeats 4000000 in
theorem dv_step {I : MI} {J : MJ} {op : Nat → Prop} {fe : Nat → Nat} {ow : Nat → Nat → Nat → Prop} {t k : Nat} (h : dv I J op fe ow t k) (hk : k < 12) : dv (sp_rfb I J) J op fe ow t (k + 1) := by
  have hI := h
  obtain ⟨h0, h1, h2, h3, h4, h5, h6, h7, h8⟩ := h
  obtain ⟨hd, ht, hot, hop12, hfe⟩ := h0
  have hR : ∀ a, a < 12 → ¬ I 32 a = 0 → I 34 a = nI (dF I a) ∧ I 35 a = nI (dN I a + 1) ∧ dN I a ≤ 20 ∧ dF I a ≤ 2000000 := fun a ha hr => by
    obtain ⟨a1, a2, a3, a4, a5, a6⟩ := h1 a ha hr
    exact ⟨a3, a4, by omega, by omega⟩
  rcases sp_bu_spec I hR with ⟨b1, b2⟩ | ⟨c, hc, b1, b2, b3, b4⟩
  · rw [show sp_rfb I J = I from if_pos b1]
    exact dv_done hI b2
  · have e0 : sp_rfb I J = lp (sf_rf J c) 12 0 (uI I 33 c 1) := by
      unfold sp_rfb
      rw [if_neg (by rw [b1]; exact nI_m1 (by omega)), b1, nI_clamp (by omega)]
    obtain ⟨c1, c2, c3, c4, c5, c6⟩ := h1 c hc b2
    -- the store with c settled
    have hI1 : ∀ g j, ¬ (g = 33 ∧ j = c) → uI I 33 c 1 g j = I g j := fun g j q => by unfold uI; rw [if_neg q]
    have hS1 : uI I 33 c 1 33 c = 1 := by simp [uI]
    have hd1 : dc (uI I 33 c 1) J op fe ow := hd.congr (fun g j hg => hI1 g j (by omega))
    have eF : ∀ a, dF (uI I 33 c 1) a = dF I a := fun a => by unfold dF; rw [hI1 34 a (by omega)]
    have eN : ∀ a, dN (uI I 33 c 1) a = dN I a := fun a => by unfold dN; rw [hI1 35 a (by omega)]
    have hall := rf_all (J := J) (c := c) (I := uI I 33 c 1) (by rw [hS1]; decide)
    rw [← e0] at hall
    -- place by place
    have hpl := fun a (ha : a < 12) => rf_place (I := uI I 33 c 1) hd1 ha hc (hfe a ha) (f := dF I c) (n := dN I c) (by rw [hI1 34 c (by omega)]; exact c3) (by rw [hI1 35 c (by omega)]; exact c4) (by omega) (by omega) (fun hr => by
      rw [hI1 32 a (by omega)] at hr
      rw [hI1 34 a (by omega), hI1 35 a (by omega), eF, eN]
      exact hR a ha hr)
    generalize hI2 : sp_rfb I J = I2 at hall ⊢
    have hoth : ∀ g j, ¬ (g = 32 ∨ g = 34 ∨ g = 35) → ¬ (g = 33 ∧ j = c) → I2 g j = I g j := fun g j q1 q2 => by
      rw [hall g j, if_neg (fun z => q1 z.1)]
      exact hI1 g j q2
    have hS2 : ∀ a, I2 33 a = if a = c then 1 else I 33 a := fun a => by
      rw [hall 33 a, if_neg (by omega)]
      unfold uI
      by_cases e : a = c
      · simp [e]
      · simp [e]
    have hat : ∀ a g, a < 12 → (g = 32 ∨ g = 34 ∨ g = 35) → I2 g a = sf_rf J c a (uI I 33 c 1) g a := fun a g ha hg => by rw [hall g a, if_pos ⟨hg, ha⟩]
    -- either a place stays as it was, or it is reached by c
    have hch : ∀ a, a < 12 → ((I2 32 a = I 32 a ∧ dF I2 a = dF I a ∧ dN I2 a = dN I a ∧ I2 34 a = I 34 a ∧ I2 35 a = I 35 a) ∧ (op a → a ≠ c → I 33 a = 0 → ow a c (dF I c) → ¬ I 32 a = 0 ∧ lx (dF I a) (dN I a) (dF I c + fe a) (dN I c + 1))) ∨
        (a ≠ c ∧ op a ∧ I 33 a = 0 ∧ ow a c (dF I c) ∧ (¬ I 32 a = 0 → lx (dF I c + fe a) (dN I c + 1) (dF I a) (dN I a)) ∧ I2 32 a = 1 ∧ I2 34 a = nI (dF I c + fe a) ∧ I2 35 a = nI (dN I c + 2) ∧ dF I2 a = dF I c + fe a ∧ dN I2 a = dN I c + 1) := by
      intro a ha
      rcases hpl a ha with ⟨p1, p2⟩ | ⟨p1, p2, p3, p4, p5⟩
      · left
        have q1 : ∀ g, (g = 32 ∨ g = 34 ∨ g = 35) → I2 g a = I g a := fun g hg => by
          rw [hat a g ha hg, p1 g]
          exact hI1 g a (by omega)
        refine ⟨⟨q1 32 (by omega), by unfold dF; rw [q1 34 (by omega)], by unfold dN; rw [q1 35 (by omega)], q1 34 (by omega), q1 35 (by omega)⟩, fun z1 z2 z3 z4 => ?_⟩
        have := p2 z1 (by rw [hI1 33 a (by omega)]; exact z3) z4
        rw [hI1 32 a (by omega), eF, eN] at this
        exact this
      · right
        have hac : a ≠ c := fun z => by
          subst z
          rw [hS1] at p2
          exact absurd p2 (by decide)
        rw [hI1 33 a (by omega)] at p2
        have q1 : I2 32 a = 1 := by rw [hat a 32 ha (by omega), p5 32]; simp [uI]
        have q2 : I2 34 a = nI (dF I c + fe a) := by rw [hat a 34 ha (by omega), p5 34]; simp [uI]
        have q3 : I2 35 a = nI (dN I c + 2) := by rw [hat a 35 ha (by omega), p5 35]; simp [uI]
        have hfa := hfe a ha
        refine ⟨hac, p1, p2, p3, fun z => ?_, q1, q2, q3, by unfold dF at *; rw [q2, nI_clamp (by omega)], by unfold dN at *; rw [q3, nI_clamp (by omega)]; omega⟩
        have := p4 (by rw [hI1 32 a (by omega)]; exact z)
        rw [eF, eN] at this
        exact this
    have hc2 : I2 32 c = I 32 c ∧ dF I2 c = dF I c ∧ dN I2 c = dN I c := by
      rcases hch c hc with ⟨q, -⟩ | ⟨q, -⟩
      · exact ⟨q.1, q.2.1, q.2.2.1⟩
      · exact absurd rfl q
    have hst : ∀ a, a < 12 → ¬ I 33 a = 0 → I2 32 a = I 32 a ∧ dF I2 a = dF I a ∧ dN I2 a = dN I a := fun a ha hs => by
      rcases hch a ha with ⟨q, -⟩ | ⟨-, -, q, -⟩
      · exact ⟨q.1, q.2.1, q.2.2.1⟩
      · exact absurd q hs
    have hS2n : ∀ a, ¬ I2 33 a = 0 → a = c ∨ ¬ I 33 a = 0 := fun a hs => by
      rw [hS2 a] at hs
      by_cases e : a = c
      · exact Or.inl e
      · rw [if_neg e] at hs; exact Or.inr hs
    have hS2o : ∀ a, I2 33 a = 0 → a ≠ c ∧ I 33 a = 0 := fun a hs => by
      rw [hS2 a] at hs
      by_cases e : a = c
      · rw [if_pos e] at hs; exact absurd hs (by decide)
      · rw [if_neg e] at hs; exact ⟨e, hs⟩
    have hS2i : ∀ a, (a = c ∨ ¬ I 33 a = 0) → ¬ I2 33 a = 0 := fun a hs => by
      rw [hS2 a]
      by_cases e : a = c
      · rw [if_pos e]; decide
      · rw [if_neg e]; exact hs.resolve_left e
    -- t isn't reached anew
    have htc : ¬ I 33 t = 0 ∨ c = t := by
      rcases h8 with q | q
      · exact Or.inl q
      · exact Or.inr (q c hc b2)
    have hto : ∀ a, a < 12 → a ≠ c → I 33 a = 0 → a ≠ t := fun a ha h9 h10 z => by
      subst z
      rcases htc with q | q
      · exact q h10
      · exact h9 q.symm
    refine ⟨⟨hd.congr (fun g j hg => hoth g j (by omega) (by omega)), ht, hot, hop12, hfe⟩, ?_, ?_, ?_, ?_, ?_, ?_, ?_, ?_⟩
    · intro a ha hr
      rcases hch a ha with ⟨⟨q1, q2, q3, q4, q5⟩, -⟩ | ⟨q0, q1, q2, q3, q4, q5, q6, q7, q8, q9⟩
      · rw [q1] at hr
        obtain ⟨a1, a2, a3, a4, a5, a6⟩ := h1 a ha hr
        rw [q2, q3, q4, q5]
        exact ⟨a1, a2, a3, a4, by omega, a6⟩
      · have hfa := hfe a ha
        rw [q8, q9, q6, q7]
        refine ⟨q1, ⟨hto a ha q0 q2, q1, c, dF I c, c2, q3, rfl⟩, rfl, rfl, by omega, by omega⟩
    · intro a ha hs
      rcases hS2n a hs with rfl | q
      · rw [hc2.1]; exact b2
      · rw [(hst a ha q).1]; exact h2 a ha q
    · intro c' a hc' ha hs hr hs0
      obtain ⟨ac, as0⟩ := hS2o a hs0
      have hcl : lx (dF I2 c') (dN I2 c') (dF I c) (dN I c) := by
        rcases hS2n c' hs with rfl | q
        · rw [hc2.2.1, hc2.2.2]; exact lx.rf _ _
        · rw [(hst c' hc' q).2.1, (hst c' hc' q).2.2]
          exact h3 c' c hc' hc q b2 b3
      rcases hch a ha with ⟨⟨q1, q2, q3, q4, q5⟩, -⟩ | ⟨q0, q1, q2, q3, q4, q5, q6, q7, q8, q9⟩
      · rw [q1] at hr
        rw [q2, q3]
        exact hcl.tr (b4 a ha hr as0)
      · rw [q8, q9]
        exact hcl.tr (lx.up _ _ _)
    · intro c' a hc' ha hs ho hat2 how
      rcases hS2n c' hs with rfl | q
      · rw [hc2.2.1] at how ⊢
        rw [hc2.2.2]
        by_cases hac : a = c'
        · subst hac
          rw [hc2.1, hc2.2.1, hc2.2.2]
          exact ⟨b2, lx.up _ _ _⟩
        · by_cases as0 : I 33 a = 0
          · rcases hch a ha with ⟨⟨q1, q2, q3, q4, q5⟩, q6⟩ | ⟨q0, q1, q2, q3, q4, q5, q6, q7, q8, q9⟩
            · rw [q1, q2, q3]; exact q6 ho hac as0 how
            · rw [q5, q8, q9]; exact ⟨by decide, lx.rf _ _⟩
          · obtain ⟨e1, e2, e3⟩ := hst a ha as0
            rw [e1, e2, e3]
            exact ⟨h2 a ha as0, (h3 a c' ha hc' as0 b2 b3).tr (lx.up _ _ _)⟩
      · obtain ⟨e1, e2, e3⟩ := hst c' hc' q
        rw [e2] at how ⊢
        rw [e3]
        obtain ⟨r1, r2⟩ := h4 c' a hc' ha q ho hat2 how
        rcases hch a ha with ⟨⟨q1, q2, q3, q4, q5⟩, q6⟩ | ⟨q0, q1, q2, q3, q4, q5, q6, q7, q8, q9⟩
        · rw [q1, q2, q3]; exact ⟨r1, r2⟩
        · rw [q5, q8, q9]; exact ⟨by decide, (q4 r1).tr r2⟩
    · rcases h5 with ⟨g, g1, g2⟩ | q
      · left
        refine ⟨fun i => if i = k then c else g i, fun i hi => ?_, fun i j hi hj e => ?_⟩
        · by_cases e : i = k
          · simp only [e, if_true]; exact ⟨hc, hS2i c (Or.inl rfl)⟩
          · simp only [e, if_false]; exact ⟨(g1 i (by omega)).1, hS2i _ (Or.inr (g1 i (by omega)).2)⟩
        · by_cases e1 : i = k <;> by_cases e2 : j = k
          · omega
          · simp only [e1, e2, if_true, if_false] at e
            exact absurd b3 (e ▸ (g1 j (by omega)).2)
          · simp only [e1, e2, if_true, if_false] at e
            exact absurd b3 (e ▸ (g1 i (by omega)).2)
          · simp only [e1, e2, if_false] at e
            exact g2 i j (by omega) (by omega) e
      · exact absurd b3 (q c hc b2)
    · by_cases e : t = c
      · rw [e, hc2.1, hc2.2.1, hc2.2.2, ← e]; exact h6
      · rcases htc with q | q
        · obtain ⟨e1, e2, e3⟩ := hst t ht q
          rw [e1, e2, e3]; exact h6
        · exact absurd q.symm e
    · intro a ha hr hat2
      have keep : ∀ c', c' < 12 → ¬ I 33 c' = 0 → ¬ I2 33 c' = 0 ∧ dF I2 c' = dF I c' ∧ dN I2 c' = dN I c' := fun c' hc' q => ⟨hS2i c' (Or.inr q), (hst c' hc' q).2.1, (hst c' hc' q).2.2⟩
      rcases hch a ha with ⟨⟨q1, q2, q3, q4, q5⟩, -⟩ | ⟨q0, q1, q2, q3, q4, q5, q6, q7, q8, q9⟩
      · rw [q1] at hr
        obtain ⟨c', r1, r2, r3, r4, r5⟩ := h7 a ha hr hat2
        obtain ⟨s1, s2, s3⟩ := keep c' r1 r2
        exact ⟨c', r1, s1, by rw [s3, q3]; exact r3, by rw [s2, q2]; exact r4, by rw [s2]; exact r5⟩
      · exact ⟨c, hc, hS2i c (Or.inl rfl), by rw [hc2.2.2, q9], by rw [hc2.2.1, q8], by rw [hc2.2.1]; exact q3⟩
    · left
      rcases htc with q | q
      · exact hS2i t (Or.inr q)
      · exact hS2i t (Or.inl q.symm)
