/-! looking anew for the rest of an order's way -/
/-- the brokers of o's way are different -/
def hw_df (I : MI) (o : Nat) : Prop := ∀ j k, j < k → k ≤ hw_ln I o → I 20 (12 * o + j) ≠ I 20 (12 * o + k)
/-- o's amount -/
def hw_am (I : MI) (o : Nat) : Prop := ∃ m : Nat, m ≤ 1000000 ∧ I 12 o = nI m
def hw_owd (I : MI) (no : Nat) : Prop := ∀ o, o < no → hw_df I o ∧ hw_am I o
theorem hw_df.congr {I I' : MI} {o : Nat} (h : hw_df I o) (hl : hw_ln I o < 12) (h2 : I' 19 o = I 19 o) (h3 : ∀ k, k < 12 → I' 20 (12 * o + k) = I 20 (12 * o + k)) : hw_df I' o := by
  intro j k hj hk
  have e : hw_ln I' o = hw_ln I o := by unfold hw_ln; rw [h2]
  rw [e] at hk
  rw [h3 j (by omega), h3 k (by omega)]
  exact h j k hj hk
theorem hw_am.congr {I I' : MI} {o : Nat} (h : hw_am I o) (h2 : I' 12 o = I 12 o) : hw_am I' o := by
  obtain ⟨m, a, b⟩ := h
  exact ⟨m, a, h2.trans b⟩
theorem hw_rt.congr {I I' : MI} (h : hw_rt I) (h2 : ∀ i, I' 6 i = I 6 i) : hw_rt I' := fun i hi => by rw [h2 i]; exact h i hi
def sf_lv (o k : Nat) (I : MI) : MI := uI I 31 (I 20 (12 * o + k)).toNatClampNeg 0
theorem sf_lv_ne {o k : Nat} {I : MI} {g : Nat} (h : g ≠ 31) (j : Nat) : sf_lv o k I g j = I g j := by simp [sf_lv, uI, h]
def sp_lkI (I : MI) (o : Nat) : MI := lp (sf_lv o) (hw_pl I o) 0 (sp_start I (I 0 0) (I 12 o) (I 4 0))
def sp_lkJ (I : MI) (J : MJ) (o : Nat) : MJ := lp (sf_tb I o) (hw_ln I o - hw_pl I o) (hw_pl I o) J
def hw_at (I : MI) (o k : Nat) : Nat := (I 20 (12 * o + k)).toNatClampNeg
def sp_lkr (I : MI) (J : MJ) (o : Nat) : Int32 × MI := sp_find (sp_lkI I o) (sp_lkJ I J o) (hw_at I o (hw_pl I o)) (hw_at I o (hw_ln I o))
def sp_fbf (K : MI) : Int32 := if 1 < (K 37 0).toNatClampNeg then K 34 (K 36 1).toNatClampNeg else 0
def sp_bk (K : MI) (J : MJ) (o q : Nat) : MI × MJ := (sp_ef K o, lp (sf_tb K o) q 0 J)
def sp_fw2 (K : MI) (J : MJ) (o q m : Nat) : MI × MJ := (sp_take K o q m, lp (sf_la (sp_take K o q m) o) (q + (m - 1) - q) q J)
def sp_lk (I : MI) (J : MJ) (o : Nat) : MI × MJ :=
  if (sp_lkr I J o).1 = 0 then sp_bk (sp_lkr I J o).2 (sp_lkJ I J o) o (hw_pl I o)
  else if I 21 (12 * o + hw_pl I o) - I 12 o < sp_fbf (sp_lkr I J o).2 then sp_bk (sp_lkr I J o).2 (sp_lkJ I J o) o (hw_pl I o)
  else sp_fw2 (sp_lkr I J o).2 (sp_lkJ I J o) o (hw_pl I o) (((sp_lkr I J o).2 37 0).toNatClampNeg)
theorem lv_oth {o : Nat} {K : MI} {g : Nat} (h : g ≠ 31) (n : Nat) (j : Nat) : lp (sf_lv o) n 0 K g j = K g j := lp_inv (sf_lv o) (fun _ σ => σ g j = K g j) n (fun i σ _ hs => (sf_lv_ne h j).trans hs) n 0 K (by omega) rfl
theorem lkI_oth {I : MI} {o g : Nat} (h : g ≠ 31) (h1 : g ≠ 38) (h2 : g ≠ 39) (j : Nat) : sp_lkI I o g j = I g j := by
  unfold sp_lkI
  rw [lv_oth h, sp_start_oth h h1 h2]
theorem lv_31 {o : Nat} {K : MI} {a : Nat} (n : Nat) : lp (sf_lv o) n 0 K 31 a = if ∃ k, k < n ∧ (K 20 (12 * o + k)).toNatClampNeg = a then 0 else K 31 a := by
  have key := lp_inv (sf_lv o) (fun i σ => (∀ j, σ 20 j = K 20 j) ∧ σ 31 a = if ∃ k, k < i ∧ (K 20 (12 * o + k)).toNatClampNeg = a then 0 else K 31 a) n (fun i σ hi hs => ⟨fun j => (sf_lv_ne (by decide) j).trans (hs.1 j), by
    by_cases e : (K 20 (12 * o + i)).toNatClampNeg = a
    · rw [if_pos ⟨i, by omega, e⟩]
      unfold sf_lv
      rw [hs.1, e]
      simp [uI]
    · have h1 : sf_lv o i σ 31 a = σ 31 a := by
        unfold sf_lv
        rw [hs.1]
        simp [uI, Ne.symm e]
      rw [h1, hs.2]
      by_cases c : ∃ k, k < i ∧ (K 20 (12 * o + k)).toNatClampNeg = a
      · obtain ⟨k, c1, c2⟩ := c
        rw [if_pos ⟨k, c1, c2⟩, if_pos ⟨k, by omega, c2⟩]
      · rw [if_neg c, if_neg]
        intro ⟨k, c1, c2⟩
        rcases Nat.lt_or_ge k i with z | z
        · exact c ⟨k, z, c2⟩
        · have : k = i := by omega
          subst this; exact e c2⟩) n 0 K (by omega) ⟨fun _ => rfl, by rw [if_neg (fun ⟨k, h, _⟩ => absurd h (Nat.not_lt_zero k))]⟩
  exact key.2
/-- what looking finds: no way, or one whose brokers are not those that the message has passed -/
theorem lk_spec {I : MI} {J : MJ} {o nb : Nat} (hbc : I 0 0 = nI nb) (hnb : nb ≤ 12) (hor : hw_or I o) (hds : hw_df I o) (ham : hw_am I o) (hrt : hw_rt I) (hb9 : bd (sp_lkJ I J o) 4611686018427387904) :
    (∀ g j, ¬ (31 ≤ g ∧ g ≤ 39) → (sp_lkr I J o).2 g j = I g j) ∧
    ((sp_lkr I J o).1 = 0 ∨ ((sp_lkr I J o).1 = 1 ∧ ∃ (n : Nat) (p : Nat → Nat), hw_pl I o + n < 12 ∧ (sp_lkr I J o).2 37 0 = nI (n + 1) ∧ p 0 = hw_at I o (hw_pl I o) ∧ p n = hw_at I o (hw_ln I o) ∧ (∀ k, k ≤ n → p k < 12 ∧ (sp_lkr I J o).2 36 k = nI (p k) ∧ (∀ j, j < hw_pl I o → hw_at I o j ≠ p k) ∧ (∀ j, j < k → p j ≠ p k) ∧ ∃ f : Nat, f ≤ 1300000 ∧ (sp_lkr I J o).2 34 (p k) = nI f))) := by
  obtain ⟨hwy, h1, hpl, hle⟩ := hor
  have e38 : sp_lkI I o 38 0 = I 12 o := (lv_oth (by decide) _ _).trans sp_start_38.1
  have hoth : ∀ g j, ¬ (31 ≤ g ∧ g ≤ 39) → (sp_lkr I J o).2 g j = I g j := fun g j hg => (sp_find_oth (by omega)).trans (lkI_oth (by omega) (by omega) (by omega) j)
  refine ⟨hoth, ?_⟩
  have hat : ∀ k, k ≤ hw_ln I o → hw_at I o k < 12 := fun k hk => (hwy.2.2 k hk).b
  obtain ⟨hd, hop, hfe, hm⟩ := dc_inst (I := sp_lkI I o) (J := sp_lkJ I J o) (hrt.congr (fun i => lkI_oth (by decide) (by decide) (by decide) i)) (by rw [e38]; exact ham) hb9
  have hfs := find_spec hd hop hfe hm (hat _ hle) (hat _ (Nat.le_refl _))
  rcases hfs.2 with ⟨a, _⟩ | ⟨a, n, f, p, b1, b2, b3, b4, b5, b6, b7⟩
  · exact Or.inl a
  have hpp : ∀ k, k ≤ n → p k < 12 ∧ (∀ j, j < hw_pl I o → hw_at I o j ≠ p k) ∧ (∀ j, j < k → p j ≠ p k) := fun k hk => by
    obtain ⟨c1, fk, c2⟩ := b4.2.2.1 k hk
    refine ⟨c1, fun j hj e => ?_, fun j hj e => ?_⟩
    · have := (rl_op c2.1).2
      apply this
      unfold sp_lkI
      rw [lv_31, if_pos]
      exact ⟨j, hj, by rw [sp_start_oth (by decide) (by decide) (by decide)]; exact e⟩
    · obtain ⟨_, fj, d2⟩ := b4.2.2.1 j (by omega)
      rw [e] at d2
      have := (c2.one d2).2
      omega
  refine Or.inr ⟨a, n, p, ?_, b5, b4.1, b4.2.1, ?_⟩
  rotate_left
  · exact fun k hk => ⟨(hpp k hk).1, b6 k hk, (hpp k hk).2.1, (hpp k hk).2.2, by obtain ⟨fk, _, d2, d3⟩ := b7 k hk; exact ⟨fk, d3, d2⟩⟩
  · have := pig 12 (hw_pl I o + (n + 1)) (fun i => if i < hw_pl I o then hw_at I o i else p (i - hw_pl I o)) (fun i hi => by
      by_cases c : i < hw_pl I o
      · simp only [c, if_true]; exact hat i (by omega)
      · simp only [c, if_false]; exact (hpp _ (by omega)).1) (fun i j hi hj e => by
      have dsn : ∀ a b, a < b → b < hw_pl I o → hw_at I o a ≠ hw_at I o b := fun a b hab hb e => hds a b hab (by omega) (by
        rw [(hwy.2.2 a (by omega)).x, (hwy.2.2 b (by omega)).x]
        exact congrArg nI e)
      by_cases c : i < hw_pl I o
      · by_cases c' : j < hw_pl I o
        · simp only [c, c', if_true] at e
          rcases Nat.lt_trichotomy i j with z | z | z
          · exact absurd e (dsn i j z c')
          · exact z
          · exact absurd e.symm (dsn j i z c)
        · simp only [c, c', if_true, if_false] at e
          exact absurd e ((hpp _ (by omega)).2.1 i c)
      · by_cases c' : j < hw_pl I o
        · simp only [c, c', if_true, if_false] at e
          exact absurd e.symm ((hpp _ (by omega)).2.1 j c')
        · simp only [c, c', if_false] at e
          rcases Nat.lt_trichotomy i j with z | z | z
          · exact absurd e ((hpp (j - hw_pl I o) (by omega)).2.2 _ (by omega))
          · exact z
          · exact absurd e.symm ((hpp (i - hw_pl I o) (by omega)).2.2 _ (by omega)))
    omega
/-- what takeWay writes -/
theorem take_ne {I : MI} {i q n g : Nat} (h1 : g ≠ 19) (h2 : g ≠ 20) (h3 : g ≠ 21) (j : Nat) : sp_take I i q n g j = I g j := by
  have := lp_inv (sf_take i q) (fun _ σ => σ g j = I g j) n (fun k σ _ hs => (sf_take_ne h2 h3 j).trans hs) n 0 I (by omega) rfl
  simp only [sp_take, uI, h1, false_and, if_false]
  exact this
theorem take_oth {I : MI} {i q n g j : Nat} (h1 : ¬ (g = 19 ∧ j = i)) (h2 : ¬ ((g = 20 ∨ g = 21) ∧ 12 * i + q ≤ j ∧ j < 12 * i + q + n)) : sp_take I i q n g j = I g j := by
  have := lp_inv (sf_take i q) (fun _ σ => σ g j = I g j) n (fun k σ hk hs => by
    have e : sf_take i q k σ g j = σ g j := by
      unfold sf_take
      simp only [uI]
      rw [if_neg (by omega), if_neg (by omega)]
    exact e.trans hs) n 0 I (by omega) rfl
  simp only [sp_take, uI, h1, if_false]
  exact this
theorem take_19 (I : MI) (i q n : Nat) : sp_take I i q n 19 i = nI (q + n) := by simp [sp_take, uI]
/-- the entries that takeWay writes -/
theorem take_at {I : MI} {i q n k : Nat} (hn : I 37 0 = nI n) (hn2 : n < 2 ^ 30) (hk : k < n) : sp_take I i q n 20 (12 * i + (q + k)) = I 36 k ∧ sp_take I i q n 21 (12 * i + (q + k)) = if k + 1 = n then 0 else I 12 i + I 34 (I 36 (k + 1)).toNatClampNeg := by
  have key := lp_inv (sf_take i q) (fun j σ => (∀ g j, g ≠ 20 → g ≠ 21 → σ g j = I g j) ∧ ∀ k, k < j → σ 20 (12 * i + (q + k)) = I 36 k ∧ σ 21 (12 * i + (q + k)) = if k + 1 = n then 0 else I 12 i + I 34 (I 36 (k + 1)).toNatClampNeg) n (fun j σ hj hs => by
    refine ⟨fun g j h1 h2 => (sf_take_ne h1 h2 j).trans (hs.1 g j h1 h2), fun k hk => ?_⟩
    by_cases e : k = j
    · subst e
      have e1 : (nI n ≤ nI k + 1) ↔ k + 1 = n := by
        rw [nI_1]
        constructor
        · intro h
          have := (nI_leI (by omega) (by omega)).mp h
          omega
        · intro h; exact (nI_leI (by omega) (by omega)).mpr (by omega)
      have hτ : ∀ g j, g ≠ 20 → g ≠ 21 → uI σ 20 (12 * i + (q + k)) (σ 36 k) g j = I g j := fun g j h1 h2 => by
        have : uI σ 20 (12 * i + (q + k)) (σ 36 k) g j = σ g j := by simp [uI, h1]
        exact this.trans (hs.1 g j h1 h2)
      constructor
      · have : sf_take i q k σ 20 (12 * i + (q + k)) = σ 36 k := by simp [sf_take, uI]
        exact this.trans (hs.1 36 k (by decide) (by decide))
      · have : sf_take i q k σ 21 (12 * i + (q + k)) = (if uI σ 20 (12 * i + (q + k)) (σ 36 k) 37 0 ≤ nI k + 1 then 0 else uI σ 20 (12 * i + (q + k)) (σ 36 k) 12 i + uI σ 20 (12 * i + (q + k)) (σ 36 k) 34 ((uI σ 20 (12 * i + (q + k)) (σ 36 k) 36 (k + 1)).toNatClampNeg)) := by
          show uI _ 21 _ _ 21 _ = _
          rw [show ∀ (X : MI) (v : Int32), uI X 21 (12 * i + (q + k)) v 21 (12 * i + (q + k)) = v from fun X v => if_pos ⟨rfl, rfl⟩]
        rw [this, hτ 37 0 (by decide) (by decide), hτ 12 i (by decide) (by decide), hτ 36 (k + 1) (by decide) (by decide), hτ 34 _ (by decide) (by decide), hn]
        by_cases e2 : k + 1 = n
        · rw [if_pos (e1.mpr e2), if_pos e2]
        · rw [if_neg (fun z => e2 (e1.mp z)), if_neg e2]
    · have e20 : sf_take i q j σ 20 (12 * i + (q + k)) = σ 20 (12 * i + (q + k)) := by
        unfold sf_take
        simp only [uI]
        rw [if_neg (by omega), if_neg (by omega)]
      have e21 : sf_take i q j σ 21 (12 * i + (q + k)) = σ 21 (12 * i + (q + k)) := by
        unfold sf_take
        simp only [uI]
        rw [if_neg (by omega), if_neg (by omega)]
      rw [e20, e21]
      exact hs.2 k (by omega)) n 0 I (by omega) ⟨fun _ _ _ _ => rfl, fun k hk => absurd hk (Nat.not_lt_zero k)⟩
  have := key.2 k hk
  simpa [sp_take, uI] using this
theorem sp_lk_a {I : MI} {J : MJ} {o : Nat} (h : (sp_lkr I J o).1 = 0) : sp_lk I J o = sp_bk (sp_lkr I J o).2 (sp_lkJ I J o) o (hw_pl I o) := if_pos h
theorem sp_lk_b {I : MI} {J : MJ} {o : Nat} (h : ¬ (sp_lkr I J o).1 = 0) (h2 : I 21 (12 * o + hw_pl I o) - I 12 o < sp_fbf (sp_lkr I J o).2) : sp_lk I J o = sp_bk (sp_lkr I J o).2 (sp_lkJ I J o) o (hw_pl I o) := by unfold sp_lk; rw [if_neg h, if_pos h2]
theorem sp_lk_c {I : MI} {J : MJ} {o : Nat} (h : ¬ (sp_lkr I J o).1 = 0) (h2 : ¬ I 21 (12 * o + hw_pl I o) - I 12 o < sp_fbf (sp_lkr I J o).2) : sp_lk I J o = sp_fw2 (sp_lkr I J o).2 (sp_lkJ I J o) o (hw_pl I o) (((sp_lkr I J o).2 37 0).toNatClampNeg) := by unfold sp_lk; rw [if_neg h, if_neg h2]
/-- the new way is a way -/
theorem lk_new {I : MI} {J : MJ} {o nb : Nat} (hbc : I 0 0 = nI nb) (hnb : nb ≤ 12) (hor : hw_or I o) (hds : hw_df I o) (ham : hw_am I o) (hrt : hw_rt I) (hb9 : bd (sp_lkJ I J o) 4611686018427387904) (h1 : ¬ (sp_lkr I J o).1 = 0) :
    ∃ m : Nat, (sp_lkr I J o).2 37 0 = nI m ∧ 1 ≤ m ∧ hw_pl I o + m ≤ 12 ∧ (∀ k, k < m → ∃ b, b < 12 ∧ (sp_lkr I J o).2 36 k = nI b) ∧ hw_wy (sp_take (sp_lkr I J o).2 o (hw_pl I o) m) o (hw_pl I o + (m - 1)) ∧ sp_take (sp_lkr I J o).2 o (hw_pl I o) m 17 o = nI (hw_pl I o) ∧ hw_or (sp_take (sp_lkr I J o).2 o (hw_pl I o) m) o ∧ hw_df (sp_take (sp_lkr I J o).2 o (hw_pl I o) m) o := by
  obtain ⟨hoth, hr⟩ := lk_spec hbc hnb hor hds ham hrt hb9
  rcases hr with hr | ⟨_, n, p, a1, a2, a3, a4, a5⟩
  · exact absurd hr h1
  generalize (sp_lkr I J o).2 = K at hoth a2 a5 ⊢
  obtain ⟨hwy, b1, hpl, hle⟩ := hor
  have t19 : sp_take K o (hw_pl I o) (n + 1) 19 o = nI (hw_pl I o + n + 1) := take_19 K o (hw_pl I o) (n + 1)
  have t17 : sp_take K o (hw_pl I o) (n + 1) 17 o = nI (hw_pl I o) := by rw [take_ne (by decide) (by decide) (by decide), hoth _ _ (by decide)]; exact hpl
  have tlo : ∀ j, j < hw_pl I o → sp_take K o (hw_pl I o) (n + 1) 20 (12 * o + j) = nI (hw_at I o j) := fun j hj => by
    rw [take_oth (by omega) (by omega), hoth _ _ (by decide)]
    exact (hwy.2.2 j (by omega)).x
  have thi : ∀ k, k ≤ n → sp_take K o (hw_pl I o) (n + 1) 20 (12 * o + (hw_pl I o + k)) = nI (p k) := fun k hk => by
    rw [(take_at a2 (by omega) (by omega)).1]; exact (a5 k hk).2.1
  have hat : ∀ k, k ≤ hw_ln I o → hw_at I o k < 12 := fun k hk => (hwy.2.2 k hk).b
  have tok : ∀ j, j ≤ hw_pl I o + n → ∃ b : Nat, b < 12 ∧ sp_take K o (hw_pl I o) (n + 1) 20 (12 * o + j) = nI b := fun j hj => by
    rcases Nat.lt_or_ge j (hw_pl I o) with z | z
    · exact ⟨_, hat j (by omega), tlo j z⟩
    · have := thi (j - hw_pl I o) (by omega)
      rw [show hw_pl I o + (j - hw_pl I o) = j by omega] at this
      exact ⟨_, (a5 _ (by omega)).1, this⟩
  have eln : hw_ln (sp_take K o (hw_pl I o) (n + 1)) o = hw_pl I o + n := by
    unfold hw_ln; rw [t19, nI_clamp (by omega)]; omega
  have epl : hw_pl (sp_take K o (hw_pl I o) (n + 1)) o = hw_pl I o := by
    show (sp_take K o (hw_pl I o) (n + 1) 17 o).toNatClampNeg = _
    rw [t17, nI_clamp (by omega)]
  have hn1 : 1 ≤ hw_pl I o + n := by
    rcases Nat.eq_zero_or_pos (hw_pl I o) with z | z
    · rcases Nat.eq_zero_or_pos n with y | y
      · subst y
        exfalso
        have e : hw_at I o (hw_pl I o) = hw_at I o (hw_ln I o) := a3.symm.trans a4
        rw [z] at e
        exact hds 0 (hw_ln I o) b1 (Nat.le_refl _) (by rw [(hwy.2.2 0 (by omega)).x, (hwy.2.2 _ (Nat.le_refl _)).x]; exact congrArg nI e)
      · omega
    · omega
  have W : hw_wy (sp_take K o (hw_pl I o) (n + 1)) o (hw_pl I o + n) := ⟨by omega, t19, tok⟩
  refine ⟨n + 1, a2, by omega, by omega, fun k hk => ⟨p k, (a5 k (by omega)).1, (a5 k (by omega)).2.1⟩, W, t17, ⟨by rw [eln]; exact W, by rw [eln]; exact hn1, by rw [epl]; exact t17, by rw [epl, eln]; omega⟩, fun j k hj hk => ?_⟩
  rw [eln] at hk
  intro e
  have inj : ∀ a b : Nat, a < 12 → b < 12 → nI a = nI b → a = b := fun a b ha hb h => (nI_eq (by omega) (by omega)).mp h
  rcases Nat.lt_or_ge k (hw_pl I o) with z | z
  · rw [tlo j (by omega), tlo k z] at e
    exact hds j k hj (by omega) (by rw [(hwy.2.2 j (by omega)).x, (hwy.2.2 k (by omega)).x]; exact e)
  · have tk := thi (k - hw_pl I o) (by omega)
    rw [show hw_pl I o + (k - hw_pl I o) = k by omega] at tk
    rcases Nat.lt_or_ge j (hw_pl I o) with y | y
    · rw [tlo j y, tk] at e
      exact (a5 (k - hw_pl I o) (by omega)).2.2.1 j y (inj _ _ (hat j (by omega)) (a5 _ (by omega)).1 e)
    · have tj := thi (j - hw_pl I o) (by omega)
      rw [show hw_pl I o + (j - hw_pl I o) = j by omega] at tj
      rw [tj, tk] at e
      exact (a5 (k - hw_pl I o) (by omega)).2.2.2.1 (j - hw_pl I o) (by omega) (inj _ _ (a5 _ (by omega)).1 (a5 _ (by omega)).1 e)
