/-! the model's search: round by round -/
def sm (P : MI) (N : MJ) (σ : MI × MJ) : Prop := (∀ g j, g ≠ 42 → σ.1 g j = P g j) ∧ ∀ g j, g ≠ 5 → σ.2 g j = N g j
def lb (σ : MI × MJ) (i f n : Nat) : Prop := (σ.2 5 i).toInt = f ∧ σ.1 42 i = nI (n + 1)
def Le (σ : MI × MJ) (i f n : Nat) : Prop := ∃ f' n' : Nat, lb σ i f' n' ∧ f' ≤ 500000000 ∧ n' ≤ 5000 ∧ lx f' n' f n
/-- what the numbers mean -/
def mc (P : MI) (N : MJ) (am mk : Int32) (nb : Nat) (op : Nat → Prop) (fe : Nat → Nat) (ow : Nat → Nat → Nat → Prop) : Prop :=
  (∀ a, a < nb → (op a ↔ P 7 a = 0 ∧ pf_bit mk a = 0)) ∧ (∀ a, a < nb → (ps_fee P a am).toInt = fe a ∧ fe a ≤ 100000) ∧ (∀ a, op a → a < nb) ∧ (∀ a c f f', f' ≤ f → ow a c f → ow a c f') ∧
  ∀ (P' : MI) (N' : MJ) (a c f : Nat), (∀ g j, g ≠ 42 → P' g j = P g j) → (∀ g j, g ≠ 5 → N' g j = N g j) → a < nb → c < nb → f ≤ 500000000 → (N' 5 c).toInt = f → (¬ ps_can P' N' a c am = 0 ↔ a ≠ c ∧ ow a c f)
def Snd (op : Nat → Prop) (fe : Nat → Nat) (ow : Nat → Nat → Nat → Prop) (t nb r : Nat) (σ : MI × MJ) : Prop := ∀ i, i < nb → σ.2 5 i = 1000000000000 ∨ ∃ f n : Nat, n ≤ r ∧ lb σ i f n ∧ rl op fe ow t n i f
theorem rl_fee {op : Nat → Prop} {fe : Nat → Nat} {ow : Nat → Nat → Nat → Prop} {t : Nat} (h : ∀ a, op a → fe a ≤ 100000) : ∀ (n a f : Nat), rl op fe ow t n a f → f ≤ (n + 1) * 100000
  | 0, a, f, hr => by
    have := h t hr.2.1
    rw [hr.2.2]; omega
  | n + 1, a, f, hr => by
    obtain ⟨_, h1, c, f', h2, _, h3⟩ := hr
    have := rl_fee h n c f' h2
    have := h a h1
    omega
theorem Le.up {σ : MI × MJ} {i f n f' n' : Nat} (h : Le σ i f n) (h' : lx f n f' n') : Le σ i f' n' := by
  obtain ⟨a, b, h1, h2, h3, h4⟩ := h
  exact ⟨a, b, h1, h2, h3, h4.tr h'⟩
theorem far_toInt : (1000000000000 : Int64).toInt = 1000000000000 := by decide
theorem rx_step {P : MI} {N : MJ} {am mk : Int32} {nb t r i c : Nat} {op : Nat → Prop} {fe : Nat → Nat} {ow : Nat → Nat → Nat → Prop} {σ : MI × MJ} (hm : mc P N am mk nb op fe ow) (hnb : nb ≤ 12) (ht : t < nb) (hr : r ≤ 3000) (hi : i < nb) (hc : c < nb) (hs : sm P N σ) (hS : Snd op fe ow t nb r σ) :
    sm P N (pf_rx (nI t) am mk i c σ) ∧ Snd op fe ow t nb (r + 1) (pf_rx (nI t) am mk i c σ) ∧ (∀ j f n, Le σ j f n → Le (pf_rx (nI t) am mk i c σ) j f n) ∧ (∀ f n, Le σ c f n → op i → i ≠ t → ow i c f → Le (pf_rx (nI t) am mk i c σ) i (f + fe i) (n + 1)) := by
  obtain ⟨m1, m2, m3, m4, m5⟩ := hm
  have hfe : ∀ a, op a → fe a ≤ 100000 := fun a ha => (m2 a (m3 a ha)).2
  have hS1 : Snd op fe ow t nb (r + 1) σ := fun j hj => (hS j hj).imp id (fun ⟨f, n, a, b⟩ => ⟨f, n, by omega, b⟩)
  have keep : (∀ f n, Le σ c f n → op i → i ≠ t → ow i c f → Le σ i (f + fe i) (n + 1)) → sm P N σ ∧ Snd op fe ow t nb (r + 1) σ ∧ (∀ j f n, Le σ j f n → Le σ j f n) ∧ (∀ f n, Le σ c f n → op i → i ≠ t → ow i c f → Le σ i (f + fe i) (n + 1)) := fun h => ⟨hs, hS1, fun _ _ _ z => z, h⟩
  have eit : nI i = nI t ↔ i = t := nI_eq (by omega) (by omega)
  by_cases c1 : nI i = nI t
  · rw [show pf_rx (nI t) am mk i c σ = σ from if_pos c1]
    exact keep (fun f n _ _ h _ => absurd (eit.mp c1) h)
  have hit : i ≠ t := fun z => c1 (eit.mpr z)
  by_cases c2 : ¬ σ.1 7 i = 0
  · rw [show pf_rx (nI t) am mk i c σ = σ from (if_neg c1).trans (if_pos c2)]
    exact keep (fun f n _ h _ _ => absurd ((hs.1 7 i (by decide)).trans ((m1 i hi).mp h).1) c2)
  by_cases c3 : ¬ pf_bit mk i = 0
  · rw [show pf_rx (nI t) am mk i c σ = σ from (if_neg c1).trans ((if_neg c2).trans (if_pos c3))]
    exact keep (fun f n _ h _ _ => absurd ((m1 i hi).mp h).2 c3)
  have hop : op i := (m1 i hi).mpr ⟨(hs.1 7 i (by decide)).symm.trans (Decidable.not_not.mp c2), Decidable.not_not.mp c3⟩
  by_cases c4 : ps_can σ.1 σ.2 i c am = 0
  · rw [show pf_rx (nI t) am mk i c σ = σ from (if_neg c1).trans ((if_neg c2).trans ((if_neg c3).trans (if_pos c4)))]
    refine keep (fun f n hl _ _ hw => ?_)
    obtain ⟨f', n', l1, l2, l3, l4⟩ := id hl
    have hff : f' ≤ f := by unfold lx at l4; omega
    by_cases e : i = c
    · subst e
      exact hl.up (lx.up f n (fe i))
    · exact absurd c4 ((m5 σ.1 σ.2 i c f' hs.1 hs.2 hi hc l2 l1.1).mpr ⟨e, m4 _ _ _ _ hff hw⟩)
  -- who may come to owe
  have hfar : ¬ σ.2 5 c = 1000000000000 := fun z => c4 (by
    unfold ps_can
    by_cases e : nI i = nI c
    · rw [if_pos e]
    · rw [if_neg e, if_pos]
      rw [lg_cmp_ge, z]; exact Int64.le_refl _)
  obtain ⟨fc, nc, d1, d2, d3⟩ := (hS c hc).resolve_left hfar
  have dfc := rl_fee hfe nc c fc d3
  have hfc : fc ≤ 300200000 := Nat.le_trans dfc (by omega)
  have how := ((m5 σ.1 σ.2 i c fc hs.1 hs.2 hi hc (by omega) d2.1).mp c4).2
  have efee : ps_fee σ.1 i am = ps_fee P i am := by unfold ps_fee; rw [hs.1 6 i (by decide)]
  have hfi := m2 i hi
  have esum : (ps_fee σ.1 i am + σ.2 5 c).toInt = ((fc + fe i : Nat) : Int) := by
    rw [i64add (by rw [efee, hfi.1, d2.1]; omega) (by rw [efee, hfi.1, d2.1]; omega), efee, hfi.1, d2.1]
    omega
  have elen : σ.1 42 c + 1 = nI (nc + 1 + 1) := by rw [d2.2, nI_1]
  -- the step taken
  have ups : (∀ f n, lb σ i f n → f ≤ 500000000 → n ≤ 5000 → lx (fc + fe i) (nc + 1) f n) → pf_rx (nI t) am mk i c σ = pf_up am i c σ → sm P N (pf_rx (nI t) am mk i c σ) ∧ Snd op fe ow t nb (r + 1) (pf_rx (nI t) am mk i c σ) ∧ (∀ j f n, Le σ j f n → Le (pf_rx (nI t) am mk i c σ) j f n) ∧ (∀ f n, Le σ c f n → op i → i ≠ t → ow i c f → Le (pf_rx (nI t) am mk i c σ) i (f + fe i) (n + 1)) := fun hb e => by
    rw [e]
    have li : lb (pf_up am i c σ) i (fc + fe i) (nc + 1) := by
      refine ⟨?_, ?_⟩
      · rw [show (pf_up am i c σ).2 5 i = ps_fee σ.1 i am + σ.2 5 c from if_pos ⟨rfl, rfl⟩]; exact esum
      · rw [show (pf_up am i c σ).1 42 i = σ.1 42 c + 1 from if_pos ⟨rfl, rfl⟩]; exact elen
    have lo : ∀ j, j ≠ i → (pf_up am i c σ).2 5 j = σ.2 5 j ∧ (pf_up am i c σ).1 42 j = σ.1 42 j := fun j hj => ⟨if_neg (fun z => hj z.2), if_neg (fun z => hj z.2)⟩
    have hbig : fc + fe i ≤ 500000000 := by omega
    refine ⟨⟨fun g j hg => (if_neg (fun z => hg z.1)).trans (hs.1 g j hg), fun g j hg => (if_neg (fun z => hg z.1)).trans (hs.2 g j hg)⟩, fun j hj => ?_, fun j f n hl => ?_, fun f n hl _ _ _ => ?_⟩
    · by_cases q : j = i
      · subst q
        exact Or.inr ⟨fc + fe j, nc + 1, by omega, li, hit, hop, c, fc, d3, how, rfl⟩
      · rw [(lo j q).1]
        refine (hS1 j hj).imp id (fun ⟨f, n, a, b, d⟩ => ⟨f, n, a, ⟨by rw [(lo j q).1]; exact b.1, by rw [(lo j q).2]; exact b.2⟩, d⟩)
    · obtain ⟨f', n', a, b, d, g⟩ := hl
      by_cases q : j = i
      · subst q
        exact ⟨_, _, li, hbig, by omega, (hb f' n' a b d).tr g⟩
      · exact ⟨f', n', ⟨by rw [(lo j q).1]; exact a.1, by rw [(lo j q).2]; exact a.2⟩, b, d, g⟩
    · obtain ⟨f', n', a, b, d, g⟩ := hl
      have e1 : f' = fc := by have := a.1.symm.trans d2.1; omega
      have e2 : n' = nc := by
        have := (nI_eq (a := n' + 1) (b := nc + 1) (by omega) (by omega)).mp (a.2.symm.trans d2.2)
        omega
      subst e1 e2
      exact ⟨_, _, li, hbig, by omega, g.ad (fe i)⟩
  have kps : (∀ f n, Le σ c f n → Le σ i (f + fe i) (n + 1)) → pf_rx (nI t) am mk i c σ = σ → sm P N (pf_rx (nI t) am mk i c σ) ∧ Snd op fe ow t nb (r + 1) (pf_rx (nI t) am mk i c σ) ∧ (∀ j f n, Le σ j f n → Le (pf_rx (nI t) am mk i c σ) j f n) ∧ (∀ f n, Le σ c f n → op i → i ≠ t → ow i c f → Le (pf_rx (nI t) am mk i c σ) i (f + fe i) (n + 1)) := fun hb e => by
    rw [e]
    exact keep (fun f n hl _ _ _ => hb f n hl)
  have lec : ∀ f n, Le σ c f n → lx fc nc f n := fun f n hl => by
    obtain ⟨f', n', a, b, d, g⟩ := hl
    have e1 : f' = fc := by have := a.1.symm.trans d2.1; omega
    have e2 : n' = nc := by
      have := (nI_eq (a := n' + 1) (b := nc + 1) (by omega) (by omega)).mp (a.2.symm.trans d2.2)
      omega
    subst e1 e2
    exact g
  have hlt9 : (lg_cmp (ps_fee σ.1 i am + σ.2 5 c) (σ.2 5 i) < 0) ↔ ((fc + fe i : Nat) : Int) < (σ.2 5 i).toInt := by rw [lg_cmp_lt, Int64.lt_iff_toInt_lt, esum]
  have heq9 : (lg_cmp (ps_fee σ.1 i am + σ.2 5 c) (σ.2 5 i) = 0) ↔ ((fc + fe i : Nat) : Int) = (σ.2 5 i).toInt := by rw [lg_cmp_eq, ← Int64.toInt_inj, esum]
  have base : ∀ X : MI × MJ, (if lg_cmp (ps_fee σ.1 i am + σ.2 5 c) (σ.2 5 i) < 0 then pf_up am i c σ else if ¬ lg_cmp (ps_fee σ.1 i am + σ.2 5 c) (σ.2 5 i) = 0 then σ else if σ.1 42 i ≤ σ.1 42 c + 1 then σ else pf_up am i c σ) = X → pf_rx (nI t) am mk i c σ = X := fun X hX => ((if_neg c1).trans ((if_neg c2).trans ((if_neg c3).trans (if_neg c4)))).trans hX
  by_cases k1 : lg_cmp (ps_fee σ.1 i am + σ.2 5 c) (σ.2 5 i) < 0
  · refine ups (fun f n hl _ _ => ?_) (base _ (if_pos k1))
    have := hlt9.mp k1
    rw [hl.1] at this
    exact Or.inl (by omega)
  · have nfar : ¬ σ.2 5 i = 1000000000000 := fun z => k1 (hlt9.mpr (by rw [z, far_toInt]; omega))
    obtain ⟨fi, ni, q1, q2, q3⟩ := (hS i hi).resolve_left nfar
    have dfi := rl_fee hfe ni i fi q3
    have hfi9 : fi ≤ 300200000 := Nat.le_trans dfi (by omega)
    have g1 : ¬ ((fc + fe i : Nat) : Int) < (fi : Int) := fun z => k1 (hlt9.mpr (by rw [q2.1]; exact z))
    by_cases k2 : ¬ lg_cmp (ps_fee σ.1 i am + σ.2 5 c) (σ.2 5 i) = 0
    · refine kps (fun f n hl => ?_) (base _ ((if_neg k1).trans (if_pos k2)))
      have g2 : ¬ ((fc + fe i : Nat) : Int) = (fi : Int) := fun z => k2 (heq9.mpr (by rw [q2.1]; exact z))
      exact ⟨fi, ni, q2, by omega, by omega, (show lx fi ni (fc + fe i) (nc + 1) from Or.inl (by omega)).tr ((lec f n hl).ad (fe i))⟩
    · have g2 := heq9.mp (Decidable.not_not.mp k2)
      rw [q2.1] at g2
      by_cases k3 : σ.1 42 i ≤ σ.1 42 c + 1
      · refine kps (fun f n hl => ?_) (base _ ((if_neg k1).trans ((if_neg k2).trans (if_pos k3))))
        rw [q2.2, elen] at k3
        have g3 := (nI_leI (by omega) (by omega)).mp k3
        exact ⟨fi, ni, q2, by omega, by omega, (show lx fi ni (fc + fe i) (nc + 1) from Or.inr ⟨by omega, by omega⟩).tr ((lec f n hl).ad (fe i))⟩
      · refine ups (fun f n hl hb1 hb2 => ?_) (base _ ((if_neg k1).trans ((if_neg k2).trans (if_neg k3))))
        have e1 : f = fi := by have := hl.1.symm.trans q2.1; omega
        have e2 : n = ni := by
          have := (nI_eq (a := n + 1) (b := ni + 1) (by omega) (by omega)).mp (hl.2.symm.trans q2.2)
          omega
        rw [q2.2, elen] at k3
        have g3 : ¬ ni + 1 ≤ nc + 1 + 1 := fun z => k3 ((nI_leI (by omega) (by omega)).mpr z)
        exact Or.inr ⟨by omega, by omega⟩
