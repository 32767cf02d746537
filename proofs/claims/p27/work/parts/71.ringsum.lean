/-! what rings clear stays small -/
def PS (f : Nat → Int) : Nat → Int
  | 0 => 0
  | n + 1 => PS f n + f n
theorem PS_le {f g : Nat → Int} {v : Int} {i : Nat} (hg : ∀ j, g j ≤ f j) (hi : g i + v ≤ f i) (n : Nat) : PS g n ≤ PS f n ∧ (i < n → PS g n + v ≤ PS f n) := by
  induction n with
  | zero => exact ⟨Int.le_refl _, fun z => absurd z (Nat.not_lt_zero i)⟩
  | succ n ih =>
    have h1 := hg n
    refine ⟨?_, fun hn => ?_⟩
    · show PS g n + g n ≤ PS f n + f n
      omega
    · show PS g n + g n + v ≤ PS f n + f n
      by_cases e : i = n
      · subst e; omega
      · have := ih.2 (by omega); omega
theorem PS_bd {f : Nat → Int} {B : Int} (h : ∀ j, f j ≤ B) (n : Nat) : PS f n ≤ n * B := by
  induction n with
  | zero => show (0 : Int) ≤ ((0 : Nat) : Int) * B; omega
  | succ n ih =>
    have h1 := h n
    show PS f n + f n ≤ ((n + 1 : Nat) : Int) * B
    have e : ((n + 1 : Nat) : Int) * B = n * B + B := by
      rw [Int.natCast_add, Int.add_mul]
      show (n : Int) * B + 1 * B = n * B + B
      rw [Int.one_mul]
    omega
theorem PS_nn {f : Nat → Int} (h : ∀ j, 0 ≤ f j) (n : Nat) : 0 ≤ PS f n := by
  induction n with
  | zero => exact Int.le_refl _
  | succ n ih =>
    have h1 := h n
    show 0 ≤ PS f n + f n
    omega
def ph (J : MJ) (j : Nat) : Int := max 0 (J 1 j).toInt
theorem known_ph {J : MJ} {B : Int} {a b : Nat} {v : Int64} (hs : sk J) (h : bd J B) (hB : B < 9223372036854775807) (ha : a < 12) (hb9 : b < 12) (hab : a ≠ b) (hv : 0 < v.toInt) (hle : v.toInt ≤ (J 1 (12 * a + b)).toInt) : PS (ph (sp_known J a b (-v))) 144 + v.toInt ≤ PS (ph J) 144 := by
  have hw : ∀ j, sp_known J a b (-v) 1 j = sp_change J a b (-v) 1 j := fun j => by
    show sp_write (sp_write (sp_change J a b (-v)) a b (-v)) b a (- -v) 1 j = _
    have e : ∀ (X : MJ) c d (u : Int64), sp_write X c d u 1 j = X 1 j := fun X c d u => by unfold sp_write; exact uJ_at' _ _ _ _ (fun z => absurd z.1 (by decide))
    rw [e, e]
  have p := h (12 * a + b)
  have hvl := Int64.toInt_lt v
  have hn : (-v).toInt = -v.toInt := by
    rw [Int64.toInt_neg]
    exact Int.bmod_eq_of_le (by omega) (by omega)
  have q := hs a b ha hb9
  have hjl := Int64.toInt_lt (J 1 (12 * a + b))
  have hq : (J 1 (12 * b + a)).toInt = -(J 1 (12 * a + b)).toInt := by
    rw [q, Int64.toInt_neg]
    exact Int.bmod_eq_of_le (by omega) (by omega)
  have eab : ph (sp_known J a b (-v)) (12 * a + b) + v.toInt ≤ ph J (12 * a + b) := by
    unfold ph
    rw [hw, sp_change_at, if_neg (fun z => hab (by omega)), if_pos ⟨rfl, rfl⟩, i64add (by rw [hn]; omega) (by rw [hn]; omega), hn]
    omega
  refine (PS_le (fun j => ?_) eab 144).2 (by omega)
  by_cases c2 : j = 12 * a + b
  · subst c2; omega
  · unfold ph
    rw [hw, sp_change_at]
    by_cases c1 : (1 : Nat) = 1 ∧ j = 12 * b + a
    · rw [if_pos c1, uJ_at, if_neg (fun z => hab (by omega)), i64sub (by rw [hn, hq]; omega) (by rw [hn, hq]; omega), hn, hq]
      omega
    · rw [if_neg c1, if_neg (fun z => c2 z.2)]
      omega
theorem cr_ph {J : MJ} {B : Int} {a b d : Nat} (hs : sk J) (h : bd J B) (hB : B < 9223372036854775807) (ha : a < 12) (hb9 : b < 12) (hd : d < 12) (hab : a ≠ b) (hbd : b ≠ d) (hda : d ≠ a) : 0 ≤ (sp_cr J a b d).1.toInt ∧ 3 * (sp_cr J a b d).1.toInt + PS (ph (sp_cr J a b d).2) 144 ≤ PS (ph J) 144 := by
  unfold sp_cr
  by_cases c : 0 < lg_cmp (sp_le J a b d) 0
  · rw [if_pos c]
    have hv : 0 < (sp_le J a b d).toInt := by
      have := (lg_cmp_gt _ _).mp c
      rw [Int64.lt_iff_toInt_lt] at this
      exact this
    have m1 := min_toInt (J 1 (12 * a + b)) (sp_min (J 1 (12 * b + d)) (J 1 (12 * d + a)))
    have m2 := min_toInt (J 1 (12 * b + d)) (J 1 (12 * d + a))
    have e1 : (sp_le J a b d).toInt = min (J 1 (12 * a + b)).toInt (sp_min (J 1 (12 * b + d)) (J 1 (12 * d + a))).toInt := m1
    generalize sp_le J a b d = v at hv e1
    obtain ⟨b1, o1⟩ := known_neg (v := v) hs h hB ha hb9 hab hv (by omega)
    have p1 := known_ph (v := v) hs h hB ha hb9 hab hv (by omega)
    have j1 := jk_known J (-v) ha hb9
    obtain ⟨b2, o2⟩ := known_neg (v := v) (j1.2.2 hs) b1 hB hb9 hd hbd hv (by rw [o1 _ (by omega) (by omega)]; omega)
    have p2 := known_ph (v := v) (j1.2.2 hs) b1 hB hb9 hd hbd hv (by rw [o1 _ (by omega) (by omega)]; omega)
    have j2 := j1.tr (jk_known (sp_known J a b (-v)) (-v) hb9 hd)
    have p3 := known_ph (v := v) (j2.2.2 hs) b2 hB hd ha hda hv (by rw [o2 _ (by omega) (by omega), o1 _ (by omega) (by omega)]; omega)
    refine ⟨?_, ?_⟩
    · show 0 ≤ v.toInt
      omega
    · show 3 * v.toInt + PS (ph (sp_known (sp_known (sp_known J a b (-v)) b d (-v)) d a (-v))) 144 ≤ PS (ph J) 144
      omega
  · rw [if_neg c]
    refine ⟨Int.le_refl _, ?_⟩
    show 3 * (0 : Int64).toInt + PS (ph J) 144 ≤ PS (ph J) 144
    have : (0 : Int64).toInt = 0 := rfl
    omega
theorem ring_small {J : MJ} {B : Int} {nb : Nat} (hs : sk J) (h : bd J B) (h0 : 0 ≤ B) (hB : B ≤ 150000000000000000) (hnb : nb ≤ 12) : 0 ≤ (sp_ring J nb).1.toInt := by
  have hphi : PS (ph J) 144 ≤ 144 * 150000000000000000 := by
    have := PS_bd (f := ph J) (B := 150000000000000000) (fun j => by
      have := h j
      unfold ph
      omega) 144
    omega
  have hnn : ∀ X : MJ, 0 ≤ PS (ph X) 144 := fun X => PS_nn (fun j => by unfold ph; omega) 144
  let Q : Int64 × MJ → Prop := fun σ => (bd σ.2 B ∧ jk J σ.2) ∧ 0 ≤ σ.1.toInt ∧ 3 * σ.1.toInt + PS (ph σ.2) 144 ≤ PS (ph J) 144
  have s1 : ∀ a b i (σ : Int64 × MJ), a < nb → b < nb → i < nb → Q σ → Q (sf_r1 a b i σ) := fun a b i σ ha hb9 hi hq => by
    unfold sf_r1
    by_cases c1 : nI a = nI b
    · rw [if_pos c1]; exact hq
    rw [if_neg c1]
    by_cases c2 : nI b = nI i
    · rw [if_pos c2]; exact hq
    rw [if_neg c2]
    by_cases c3 : nI i = nI a
    · rw [if_pos c3]; exact hq
    rw [if_neg c3]
    obtain ⟨⟨q1, q2⟩, q3, q4⟩ := hq
    obtain ⟨u1, u2⟩ := cr_bd (a := a) (b := b) (d := i) (q2.2.2 hs) q1 (by omega) (by omega) (by omega) (by omega) (fun z => c1 (congrArg nI z)) (fun z => c2 (congrArg nI z)) (fun z => c3 (congrArg nI z))
    obtain ⟨p1, p2⟩ := cr_ph (a := a) (b := b) (d := i) (q2.2.2 hs) q1 (by omega) (by omega) (by omega) (by omega) (fun z => c1 (congrArg nI z)) (fun z => c2 (congrArg nI z)) (fun z => c3 (congrArg nI z))
    have n1 := hnn (sp_cr σ.2 a b i).2
    have n2 := hnn σ.2
    have e : (σ.1 + (sp_cr σ.2 a b i).1).toInt = σ.1.toInt + (sp_cr σ.2 a b i).1.toInt := i64add (by omega) (by omega)
    refine ⟨⟨u1, q2.tr u2⟩, ?_, ?_⟩
    · show 0 ≤ (σ.1 + (sp_cr σ.2 a b i).1).toInt
      omega
    · show 3 * (σ.1 + (sp_cr σ.2 a b i).1).toInt + PS (ph (sp_cr σ.2 a b i).2) 144 ≤ PS (ph J) 144
      omega
  have key : Q (sp_ring J nb) := lp_inv (sf_r3 nb) (fun _ σ => Q σ) nb (fun a σ ha hq => lp_inv (sf_r2 nb a) (fun _ σ => Q σ) nb (fun b σ hb9 hq => lp_inv (sf_r1 a b) (fun _ σ => Q σ) nb (fun i σ hi hq => s1 a b i σ ha hb9 hi hq) nb 0 σ (by omega) hq) nb 0 σ (by omega) hq) nb 0 (0, J) (by omega) ⟨⟨h, jk_rf J⟩, Int.le_refl _, by
    show 3 * (0 : Int64).toInt + PS (ph J) 144 ≤ PS (ph J) 144
    have : (0 : Int64).toInt = 0 := rfl
    omega⟩
  exact key.2.1
theorem NO_toInt : NO.toInt = -9000000000000000 := by decide +kernel
theorem ring_ne {k nb no nc : Nat} {I P : MI} {J N : MJ} (h : IV k nb no nc I J P N) (hk9 : k ≤ 150) : ¬ (ps_ring N nb).1 = NO := by
  rw [← (v_ring h (by omega)).1]
  have := ring_small (nb := nb) h.2.1.2.2.2.2.2.2.1 h.ci.2.2.2 (by omega) (by omega) h.ci.1.1.2
  intro z
  rw [z, NO_toInt] at this
  omega
theorem int_ne (x : Int32) : ¬ x.toInt64 = NO := by
  intro z
  have e := congrArg Int64.toInt z
  rw [i32l, NO_toInt] at e
  have := Int32.le_toInt x
  omega
