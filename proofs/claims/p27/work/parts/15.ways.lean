/-! WAYS: what the class's search finds: the least fees, of these the fewest brokers. rl n a f: a way of n + 1 brokers from a to t, with the fees f. -/
def rl (op : Nat → Prop) (fe : Nat → Nat) (ow : Nat → Nat → Nat → Prop) (t : Nat) : Nat → Nat → Nat → Prop
  | 0, a, f => a = t ∧ op t ∧ f = fe t
  | n + 1, a, f => a ≠ t ∧ op a ∧ ∃ c f' : Nat, rl op fe ow t n c f' ∧ ow a c f' ∧ f = f' + fe a
def lx (f n f' n' : Nat) : Prop := f < f' ∨ (f = f' ∧ n ≤ n')
theorem lx.tr {a b c d e g : Nat} (h : lx a b c d) (h' : lx c d e g) : lx a b e g := by
  unfold lx at *
  omega
theorem lx.rf (a b : Nat) : lx a b a b := Or.inr ⟨rfl, Nat.le_refl _⟩
theorem lx.as {a b c d : Nat} (h : lx a b c d) (h' : lx c d a b) : a = c ∧ b = d := by
  unfold lx at *
  omega
theorem lx.ad {a b c d : Nat} (h : lx a b c d) (x : Nat) : lx (a + x) (b + 1) (c + x) (d + 1) := by
  unfold lx at *
  omega
theorem lx.up (a b x : Nat) : lx a b (a + x) (b + 1) := by
  unfold lx
  omega
/-- the pigeons -/
theorem pig : ∀ (N m : Nat) (g : Nat → Nat), (∀ i, i < m → g i < N) → (∀ i j, i < m → j < m → g i = g j → i = j) → m ≤ N := by
  intro N
  induction N with
  | zero =>
    intro m g h _
    rcases Nat.eq_zero_or_pos m with z | z
    · omega
    · exact absurd (h 0 z) (by omega)
  | succ N ih =>
    intro m g h hi
    rcases Nat.eq_zero_or_pos m with z | z
    · omega
    by_cases hx : ∃ i, i < m ∧ g i = N
    · obtain ⟨i0, h0, e0⟩ := hx
      have := ih (m - 1) (fun i => if i = i0 then g (m - 1) else g i) (fun i hi9 => by
        by_cases e : i = i0
        · simp only [e, if_true]
          have h1 := h (m - 1) (by omega)
          have h2 : g (m - 1) ≠ N := fun q => by
            have := hi (m - 1) i0 (by omega) h0 (q.trans e0.symm)
            omega
          omega
        · simp only [e, if_false]
          have h1 := h i (by omega)
          have h2 : g i ≠ N := fun q => e (hi i i0 (by omega) h0 (q.trans e0.symm))
          omega) (fun i j hi9 hj9 e => by
        by_cases e1 : i = i0 <;> by_cases e2 : j = i0
        · omega
        · simp only [e1, e2, if_true, if_false] at e
          have := hi (m - 1) j (by omega) (by omega) e
          omega
        · simp only [e1, e2, if_true, if_false] at e
          have := hi i (m - 1) (by omega) (by omega) e
          omega
        · simp only [e1, e2, if_false] at e
          exact hi i j (by omega) (by omega) e)
      omega
    · have := ih m g (fun i hi9 => by
        have h1 := h i hi9
        have h2 : g i ≠ N := fun q => hx ⟨i, hi9, q⟩
        omega) hi
      omega
def dF (I : MI) (a : Nat) : Nat := (I 34 a).toNatClampNeg
def dN (I : MI) (a : Nat) : Nat := (I 35 a).toNatClampNeg - 1
/-- what stays while a way is looked for: who is open, the fees, who may come to owe whom -/
def dc (I : MI) (J : MJ) (op : Nat → Prop) (fe : Nat → Nat) (ow : Nat → Nat → Nat → Prop) : Prop :=
  (∀ a, a < 12 → (¬ I 31 a = 0 ↔ op a)) ∧ (∀ a, a < 12 → I 38 0 * I 6 a / 1000 = nI (fe a)) ∧ (∀ a c f : Nat, a < 12 → c < 12 → f ≤ 2000000 → (J 1 (12 * a + c) + (I 38 0).toInt64 + (nI f).toInt64 ≤ (sp_lim I c a (I 39 0)).toInt64 ↔ ow a c f))
theorem dc.congr {I I' : MI} {J : MJ} {op : Nat → Prop} {fe : Nat → Nat} {ow : Nat → Nat → Nat → Prop} (h : dc I J op fe ow) (h1 : ∀ g j, (g = 31 ∨ g = 38 ∨ g = 6 ∨ g = 39 ∨ g = 10 ∨ g = 11) → I' g j = I g j) : dc I' J op fe ow := by
  obtain ⟨a1, a2, a3⟩ := h
  refine ⟨fun a ha => by rw [h1 31 a (by omega)]; exact a1 a ha, fun a ha => by rw [h1 38 0 (by omega), h1 6 a (by omega)]; exact a2 a ha, fun a c f ha hc hf => ?_⟩
  have e : sp_lim I' c a (I' 39 0) = sp_lim I c a (I 39 0) := by
    unfold sp_lim
    rw [h1 39 0 (by omega), h1 10 _ (by omega), h1 11 _ (by omega)]
  rw [e, h1 38 0 (by omega)]
  exact a3 a c f ha hc hf
theorem dc.owe {I : MI} {J : MJ} {op : Nat → Prop} {fe : Nat → Nat} {ow : Nat → Nat → Nat → Prop} (h : dc I J op fe ow) {a c f : Nat} (ha : a < 12) (hc : c < 12) (hf : f ≤ 2000000) (e : I 34 c = nI f) : (¬ sp_owe I J a c = 0) ↔ ow a c f := by
  rw [← h.2.2 a c f ha hc hf]
  unfold sp_owe
  rw [e]
  unfold hb
  split
  · rename_i q; exact ⟨fun _ => q, fun _ => by decide⟩
  · rename_i q; exact ⟨fun z => absurd rfl z, fun z => absurd z q⟩
/-- the search behind k rounds -/
def dv (I : MI) (J : MJ) (op : Nat → Prop) (fe : Nat → Nat) (ow : Nat → Nat → Nat → Prop) (t k : Nat) : Prop :=
  (dc I J op fe ow ∧ t < 12 ∧ op t ∧ (∀ a, op a → a < 12) ∧ ∀ a, a < 12 → fe a ≤ 100000) ∧
  (∀ a, a < 12 → ¬ I 32 a = 0 → op a ∧ rl op fe ow t (dN I a) a (dF I a) ∧ I 34 a = nI (dF I a) ∧ I 35 a = nI (dN I a + 1) ∧ dN I a ≤ k ∧ dF I a ≤ 100000 * (dN I a + 1)) ∧
  (∀ a, a < 12 → ¬ I 33 a = 0 → ¬ I 32 a = 0) ∧
  (∀ c a, c < 12 → a < 12 → ¬ I 33 c = 0 → ¬ I 32 a = 0 → I 33 a = 0 → lx (dF I c) (dN I c) (dF I a) (dN I a)) ∧
  (∀ c a, c < 12 → a < 12 → ¬ I 33 c = 0 → op a → a ≠ t → ow a c (dF I c) → ¬ I 32 a = 0 ∧ lx (dF I a) (dN I a) (dF I c + fe a) (dN I c + 1)) ∧
  ((∃ g : Nat → Nat, (∀ i, i < k → g i < 12 ∧ ¬ I 33 (g i) = 0) ∧ ∀ i j, i < k → j < k → g i = g j → i = j) ∨ ∀ a, a < 12 → ¬ I 32 a = 0 → ¬ I 33 a = 0) ∧
  (¬ I 32 t = 0 ∧ dN I t = 0 ∧ dF I t = fe t) ∧
  (∀ a, a < 12 → ¬ I 32 a = 0 → a ≠ t → ∃ c, c < 12 ∧ ¬ I 33 c = 0 ∧ dN I c + 1 = dN I a ∧ dF I c + fe a = dF I a ∧ ow a c (dF I c)) ∧
  (¬ I 33 t = 0 ∨ ∀ a, a < 12 → ¬ I 32 a = 0 → a = t)
/-- who is the best one that isn't settled -/
theorem sp_bet_1 {I : MI} {a c : Nat} {f n : Nat} (h1 : I 34 c = nI f) (h2 : I 35 c = nI n) {f' n' : Nat} (h3 : I 34 a = nI f') (h4 : I 35 a = nI n') (b1 : f < 2 ^ 31) (b2 : n < 2 ^ 31) (b3 : f' < 2 ^ 31) (b4 : n' < 2 ^ 31) : (sp_bet I (I 34 a) (I 35 a) c = 0 ↔ lx f n f' n') := by
  unfold sp_bet lx
  rw [h1, h2, h3, h4]
  simp only [nI_ltI b3 b1, nI_eq b3 b1, nI_leI b2 b4]
  split
  · exact ⟨fun z => absurd z (by decide), fun z => by omega⟩
  · split
    · exact ⟨fun _ => by omega, fun _ => rfl⟩
    · split
      · exact ⟨fun _ => by omega, fun _ => rfl⟩
      · exact ⟨fun z => absurd z (by decide), fun z => by omega⟩
theorem sp_bet_2 {I : MI} {c : Nat} {f n : Nat} (h1 : I 34 c = nI f) (h2 : I 35 c = nI n) {f' n' : Nat} (b1 : f < 2 ^ 31) (b2 : n < 2 ^ 31) (b3 : f' < 2 ^ 31) (b4 : n' < 2 ^ 31) : (sp_bet I (nI f') (nI n') c = 0 ↔ lx f n f' n') := by
  unfold sp_bet lx
  rw [h1, h2]
  simp only [nI_ltI b3 b1, nI_eq b3 b1, nI_leI b2 b4]
  split
  · exact ⟨fun z => absurd z (by decide), fun z => by omega⟩
  · split
    · exact ⟨fun _ => by omega, fun _ => rfl⟩
    · split
      · exact ⟨fun _ => by omega, fun _ => rfl⟩
      · exact ⟨fun z => absurd z (by decide), fun z => by omega⟩
theorem nI_m1 {n : Nat} (h : n < 2 ^ 31) : ¬ nI n = -1 := fun z => by
  have := nI_pos h
  rw [z] at this
  exact this (by decide)
theorem sp_bu_spec (I : MI) (h : ∀ a, a < 12 → ¬ I 32 a = 0 → I 34 a = nI (dF I a) ∧ I 35 a = nI (dN I a + 1) ∧ dN I a ≤ 20 ∧ dF I a ≤ 2000000) :
    (sp_bu I = -1 ∧ ∀ a, a < 12 → ¬ I 32 a = 0 → ¬ I 33 a = 0) ∨ ∃ c, c < 12 ∧ sp_bu I = nI c ∧ ¬ I 32 c = 0 ∧ I 33 c = 0 ∧ ∀ a, a < 12 → ¬ I 32 a = 0 → I 33 a = 0 → lx (dF I c) (dN I c) (dF I a) (dN I a) := by
  have key := lp_inv (sf_bu I) (fun i b => (b = -1 ∧ ∀ a, a < i → ¬ I 32 a = 0 → ¬ I 33 a = 0) ∨ ∃ c, c < i ∧ b = nI c ∧ ¬ I 32 c = 0 ∧ I 33 c = 0 ∧ ∀ a, a < i → ¬ I 32 a = 0 → I 33 a = 0 → lx (dF I c) (dN I c) (dF I a) (dN I a)) 12 ?_ 12 0 (-1) rfl (Or.inl ⟨rfl, fun a ha => by omega⟩)
  · exact key
  · intro i b hi hb9
    have hlt : ∀ a, a < i + 1 → a < i ∨ a = i := fun a ha => by omega
    unfold sf_bu
    by_cases c1 : I 32 i = 0
    · rw [if_pos c1]
      rcases hb9 with ⟨h1, h2⟩ | ⟨c, h1, h2, h3, h4, h5⟩
      · refine Or.inl ⟨h1, fun a ha hr => ?_⟩
        rcases hlt a ha with q | rfl
        · exact h2 a q hr
        · exact absurd c1 hr
      · refine Or.inr ⟨c, by omega, h2, h3, h4, fun a ha hr hs => ?_⟩
        rcases hlt a ha with q | rfl
        · exact h5 a q hr hs
        · exact absurd c1 hr
    · rw [if_neg c1]
      by_cases c2 : ¬ I 33 i = 0
      · rw [if_pos c2]
        rcases hb9 with ⟨h1, h2⟩ | ⟨c, h1, h2, h3, h4, h5⟩
        · refine Or.inl ⟨h1, fun a ha hr => ?_⟩
          rcases hlt a ha with q | rfl
          · exact h2 a q hr
          · exact c2
        · refine Or.inr ⟨c, by omega, h2, h3, h4, fun a ha hr hs => ?_⟩
          rcases hlt a ha with q | rfl
          · exact h5 a q hr hs
          · exact absurd hs c2
      · rw [if_neg c2]
        have c2' : I 33 i = 0 := Classical.not_not.mp c2
        obtain ⟨g1, g2, g3, g4⟩ := h i hi c1
        rcases hb9 with ⟨h1, h2⟩ | ⟨c, h1, h2, h3, h4, h5⟩
        · rw [if_pos h1]
          refine Or.inr ⟨i, by omega, rfl, c1, c2', fun a ha hr hs => ?_⟩
          rcases hlt a ha with q | rfl
          · exact absurd hs (h2 a q hr)
          · exact lx.rf _ _
        · rw [if_neg (by rw [h2]; exact nI_m1 (by omega))]
          obtain ⟨k1, k2, k3, k4⟩ := h c (by omega) h3
          have hc : b.toNatClampNeg = c := by rw [h2, nI_clamp (by omega)]
          rw [hc]
          have hbt := sp_bet_1 k1 k2 g1 g2 (by omega) (by omega) (by omega) (by omega)
          by_cases c3 : sp_bet I (I 34 i) (I 35 i) c = 0
          · rw [if_pos c3]
            have hl := hbt.mp c3
            have hl2 : lx (dF I c) (dN I c) (dF I i) (dN I i) := by unfold lx at *; omega
            refine Or.inr ⟨c, by omega, h2, h3, h4, fun a ha hr hs => ?_⟩
            rcases hlt a ha with q | rfl
            · exact h5 a q hr hs
            · exact hl2
          · rw [if_neg c3]
            have hl : ¬ lx (dF I c) (dN I c + 1) (dF I i) (dN I i + 1) := fun z => c3 (hbt.mpr z)
            have hl2 : lx (dF I i) (dN I i) (dF I c) (dN I c) := by unfold lx at *; omega
            refine Or.inr ⟨i, by omega, rfl, c1, c2', fun a ha hr hs => ?_⟩
            rcases hlt a ha with q | rfl
            · exact hl2.tr (h5 a q hr hs)
            · exact lx.rf _ _
/-- one round's loop, place by place -/
theorem sf_rf_other {J : MJ} {c i : Nat} {I : MI} {g j : Nat} (h : ¬ ((g = 32 ∨ g = 34 ∨ g = 35) ∧ j = i)) : sf_rf J c i I g j = I g j := by
  unfold sf_rf
  repeat' split
  all_goals first | rfl | (simp only [uI]; repeat' split) <;> first | rfl | omega
theorem sf_rf_at {J : MJ} {c i : Nat} {I I' : MI} (hci : c ≠ i) (h : ∀ g j, (¬ (g = 32 ∨ g = 34 ∨ g = 35) ∨ j = i ∨ j = c) → I' g j = I g j) (g : Nat) : sf_rf J c i I' g i = sf_rf J c i I g i := by
  have e1 : sp_owe I' J i c = sp_owe I J i c := by
    unfold sp_owe sp_lim
    rw [h 38 0 (by omega), h 34 c (by omega), h 39 0 (by omega), h 10 _ (by omega), h 11 _ (by omega)]
  have e2 : sp_fee I' i = sp_fee I i := by
    unfold sp_fee
    rw [h 38 0 (by omega), h 6 i (by omega)]
  have e3 : ∀ x y, sp_bet I' x y i = sp_bet I x y i := fun x y => by
    unfold sp_bet
    rw [h 34 i (by omega), h 35 i (by omega)]
  have eg : I' g i = I g i := h g i (by omega)
  unfold sf_rf
  rw [e1, e2, e3, h 31 i (by omega), h 33 i (by omega), h 32 i (by omega), h 34 c (by omega), h 35 c (by omega)]
  repeat' split
  all_goals first | exact eg | (simp only [uI]; repeat' split) <;> first | rfl | exact eg
theorem rf_all {J : MJ} {c : Nat} {I : MI} (hS : ¬ I 33 c = 0) : ∀ g j, lp (sf_rf J c) 12 0 I g j = if (g = 32 ∨ g = 34 ∨ g = 35) ∧ j < 12 then sf_rf J c j I g j else I g j := by
  have hself : ∀ I' : MI, ¬ I' 33 c = 0 → sf_rf J c c I' = I' := by
    intro I' h'
    unfold sf_rf
    by_cases c1 : I' 31 c = 0
    · rw [if_pos c1]
    · rw [if_neg c1, if_pos h']
  have key := lp_inv (sf_rf J c) (fun i I' => ∀ g j, I' g j = if (g = 32 ∨ g = 34 ∨ g = 35) ∧ j < i then sf_rf J c j I g j else I g j) 12 ?_ 12 0 I rfl (fun g j => by rw [if_neg (by omega)])
  · exact key
  · intro i I' hi hI g j
    have h33 : ¬ I' 33 c = 0 := by rw [hI 33 c, if_neg (by omega)]; exact hS
    by_cases e : (g = 32 ∨ g = 34 ∨ g = 35) ∧ j = i
    · obtain ⟨e1, rfl⟩ := e
      rw [if_pos ⟨e1, by omega⟩]
      by_cases hc : c = j
      · subst hc
        rw [hself I' h33, hself I hS, hI g c, if_neg (by omega)]
      · refine sf_rf_at hc (fun g' j' hg => ?_) g
        rw [hI g' j']
        by_cases q : (g' = 32 ∨ g' = 34 ∨ g' = 35) ∧ j' < j
        · rw [if_pos q]
          rcases hg with z | z | z
          · exact absurd q.1 z
          · omega
          · subst z
            rw [hself I hS]
        · rw [if_neg q]
    · rw [sf_rf_other e, hI g j]
      by_cases q : (g = 32 ∨ g = 34 ∨ g = 35) ∧ j < i
      · rw [if_pos q, if_pos ⟨q.1, by omega⟩]
      · rw [if_neg q, if_neg (fun z => by
          rcases Nat.lt_or_ge j i with y | y
          · exact q ⟨z.1, y⟩
          · exact e ⟨z.1, by omega⟩)]
