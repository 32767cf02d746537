/-! bounds: no debt grows past what a long holds -/
theorem i64add {a b : Int64} (h1 : -9223372036854775808 ≤ a.toInt + b.toInt) (h2 : a.toInt + b.toInt < 9223372036854775808) : (a + b).toInt = a.toInt + b.toInt := by
  rw [Int64.toInt_add]
  exact Int.bmod_eq_of_le (by omega) (by omega)
theorem i64sub {a b : Int64} (h1 : -9223372036854775808 ≤ a.toInt - b.toInt) (h2 : a.toInt - b.toInt < 9223372036854775808) : (a - b).toInt = a.toInt - b.toInt := by
  rw [Int64.toInt_sub]
  exact Int.bmod_eq_of_le (by omega) (by omega)
theorem i32l (x : Int32) : x.toInt64.toInt = x.toInt := Int32.toInt_toInt64 x
theorem i32b (x : Int32) : -2147483648 ≤ x.toInt ∧ x.toInt < 2147483648 := ⟨Int32.le_toInt x, Int32.toInt_lt x⟩
/-- all debts lie between -B and B -/
def bd (J : MJ) (B : Int) : Prop := ∀ j, -B ≤ (J 1 j).toInt ∧ (J 1 j).toInt ≤ B
theorem bd.mono {J : MJ} {B B' : Int} (h : bd J B) (hB : B ≤ B') : bd J B' := fun j => ⟨by have := (h j).1; omega, by have := (h j).2; omega⟩
theorem sp_change_at (J : MJ) (a b : Nat) (x : Int64) (g j : Nat) : sp_change J a b x g j = if g = 1 ∧ j = 12 * b + a then uJ J 1 (12 * a + b) (J 1 (12 * a + b) + x) 1 (12 * b + a) - x else if g = 1 ∧ j = 12 * a + b then J 1 (12 * a + b) + x else J g j := rfl
theorem bd.change {J : MJ} {B X : Int} (h : bd J B) {a b : Nat} {x : Int64} (h1 : -X ≤ x.toInt) (h2 : x.toInt ≤ X) (hB : B + X < 9223372036854775808) : bd (sp_change J a b x) (B + X) := by
  intro j
  obtain ⟨p1, p2⟩ := h (12 * a + b)
  obtain ⟨q1, q2⟩ := h (12 * b + a)
  obtain ⟨r1, r2⟩ := h j
  have e1 : (J 1 (12 * a + b) + x).toInt = (J 1 (12 * a + b)).toInt + x.toInt := i64add (by omega) (by omega)
  rw [sp_change_at]
  by_cases c1 : (1 : Nat) = 1 ∧ j = 12 * b + a
  · rw [if_pos c1]
    by_cases e : a = b
    · subst e
      have e2 : uJ J 1 (12 * a + a) (J 1 (12 * a + a) + x) 1 (12 * a + a) = J 1 (12 * a + a) + x := by simp [uJ]
      rw [e2, i64sub (by rw [e1]; omega) (by rw [e1]; omega), e1]
      omega
    · have e2 : uJ J 1 (12 * a + b) (J 1 (12 * a + b) + x) 1 (12 * b + a) = J 1 (12 * b + a) := by
        have : ¬ 12 * b + a = 12 * a + b := by omega
        simp [uJ, this]
      rw [e2, i64sub (by omega) (by omega)]
      omega
  · rw [if_neg c1]
    by_cases c2 : (1 : Nat) = 1 ∧ j = 12 * a + b
    · rw [if_pos c2, e1]; omega
    · rw [if_neg c2]; omega
theorem bd.write {J : MJ} {B : Int} (h : bd J B) (a b : Nat) (x : Int64) : bd (sp_write J a b x) B := fun j => by
  have : sp_write J a b x 1 j = J 1 j := by simp [sp_write, uJ]
  rw [this]; exact h j
theorem bd.known {J : MJ} {B X : Int} (h : bd J B) {a b : Nat} {x : Int64} (h1 : -X ≤ x.toInt) (h2 : x.toInt ≤ X) (hB : B + X < 9223372036854775808) : bd (sp_known J a b x) (B + X) := ((h.change h1 h2 hB).write a b x).write b a (-x)
theorem bd.u0 {J : MJ} {B : Int} (h : bd J B) (j : Nat) (x : Int64) : bd (uJ J 0 j x) B := fun k => by
  have : uJ J 0 j x 1 k = J 1 k := by simp [uJ]
  rw [this]; exact h k
theorem bd.la {I : MI} {i k : Nat} {J : MJ} {B : Int} (h : bd J B) (hB : B + 2147483648 < 9223372036854775808) : bd (sf_la I i k J) (B + 2147483648) := by
  have := i32b (I 21 (12 * i + k))
  exact (h.change (by rw [i32l]; omega) (by rw [i32l]; omega) hB).write _ _ _
theorem bd.tb {I : MI} {i k : Nat} {J : MJ} {B : Int} (h : bd J B) (hB : B + 2147483648 < 9223372036854775808) : bd (sf_tb I i k J) (B + 2147483648) := by
  have := i32b (-I 21 (12 * i + k))
  unfold sf_tb
  split
  · exact (h.change (by rw [i32l]; omega) (by rw [i32l]; omega) hB).write _ _ _
  · exact ((h.change (by rw [i32l]; omega) (by rw [i32l]; omega) hB).write _ _ _).write _ _ _
theorem bd.lp {f : Nat → MJ → MJ} (hf : ∀ k J B, bd J B → B + 2147483648 < 9223372036854775808 → bd (f k J) (B + 2147483648)) : ∀ (n i : Nat) (J : MJ) (B : Int), bd J B → B + n * 2147483648 < 9223372036854775808 → bd (lp f n i J) (B + n * 2147483648) := by
  intro n
  induction n with
  | zero => intro i J B h _; exact h.mono (by omega)
  | succ n ih =>
    intro i J B h hB
    have h1 := hf i J B h (by omega)
    exact (ih (i + 1) (f i J) (B + 2147483648) h1 (by omega)).mono (by omega)
/-- who is open, the fees, who may come to owe: read off the class's numbers -/
def cop (I : MI) (a : Nat) : Prop := a < 12 ∧ ¬ I 31 a = 0
def cfe (I : MI) (a : Nat) : Nat := (I 38 0 * I 6 a / 1000).toNatClampNeg
def cow (I : MI) (J : MJ) (a c f : Nat) : Prop := (J 1 (12 * a + c)).toInt + (I 38 0).toInt + f ≤ (sp_lim I c a (I 39 0)).toInt
def hw_rt (I : MI) : Prop := ∀ i, i < 12 → ∃ r : Nat, r ≤ 100 ∧ I 6 i = nI r
theorem cfe_ok {I : MI} {a m : Nat} (hm : m ≤ 1000000) (h38 : I 38 0 = nI m) (hr : ∃ r : Nat, r ≤ 100 ∧ I 6 a = nI r) : I 38 0 * I 6 a / 1000 = nI (cfe I a) ∧ cfe I a ≤ 100000 := by
  obtain ⟨r, r1, r2⟩ := hr
  have hmr : m * r ≤ 1000000 * 100 := Nat.mul_le_mul hm r1
  have e : I 38 0 * I 6 a / 1000 = nI (m * r / 1000) := by
    rw [h38, r2, pk_mul, show (1000 : Int32) = nI 1000 from rfl, pk_div (by omega) (by omega) (by omega)]
  have hq : m * r / 1000 ≤ 100000 := by omega
  have e2 : cfe I a = m * r / 1000 := by
    unfold cfe
    rw [e, nI_clamp (by omega)]
  exact ⟨by rw [e2]; exact e, by omega⟩
theorem dc_inst {I : MI} {J : MJ} (hrt : hw_rt I) (ham : ∃ m : Nat, m ≤ 1000000 ∧ I 38 0 = nI m) (hb9 : bd J 4611686018427387904) : dc I J (cop I) (cfe I) (cow I J) ∧ (∀ a, cop I a → a < 12) ∧ (∀ a, a < 12 → cfe I a ≤ 100000) ∧ ∀ a c f f', f' ≤ f → cow I J a c f → cow I J a c f' := by
  obtain ⟨m, m1, m2⟩ := ham
  refine ⟨⟨fun a ha => ⟨fun h => ⟨ha, h⟩, fun h => h.2⟩, fun a ha => (cfe_ok m1 m2 (hrt a ha)).1, fun a c f ha hc hf => ?_⟩, fun a h => h.1, fun a ha => (cfe_ok m1 m2 (hrt a ha)).2, fun a c f f' h1 h2 => ?_⟩
  · obtain ⟨p1, p2⟩ := hb9 (12 * a + c)
    have e1 : (I 38 0).toInt64.toInt = (I 38 0).toInt := i32l _
    have e2 : (nI f).toInt64.toInt = (f : Int) := by rw [i32l, nI_toInt (by omega)]
    have e3 := i32b (I 38 0)
    have e4 : (J 1 (12 * a + c) + (I 38 0).toInt64).toInt = (J 1 (12 * a + c)).toInt + (I 38 0).toInt := by
      rw [i64add (by rw [e1]; omega) (by rw [e1]; omega), e1]
    have e5 : (J 1 (12 * a + c) + (I 38 0).toInt64 + (nI f).toInt64).toInt = (J 1 (12 * a + c)).toInt + (I 38 0).toInt + f := by
      rw [i64add (by rw [e4, e2]; omega) (by rw [e4, e2]; omega), e4, e2]
    rw [Int64.le_iff_toInt_le, e5, i32l]
    exact Iff.rfl
  · unfold cow at *
    omega
theorem sp_fl_oth (J : MJ) (y : Int32) : ∀ (n i : Nat) (x : Int32) (I : MI) (g j : Nat), g ≠ 36 → g ≠ 37 → sp_fl J y n i x I g j = I g j := by
  intro n
  induction n with
  | zero => intro i x I g j _ _; rfl
  | succ n ih =>
    intro i x I g j h1 h2
    unfold sp_fl
    split
    · rfl
    · rw [ih _ _ _ g j h1 h2]
      simp [uI, h1, h2]
theorem sp_find_oth {I : MI} {J : MJ} {a b g j : Nat} (h : ¬ (32 ≤ g ∧ g ≤ 37)) : (sp_find I J a b).2 g j = I g j := by
  have h0 : uI I 37 0 0 g j = I g j := by
    have : g ≠ 37 := by omega
    simp [uI, this]
  have h1 : lp (fun _ I => sp_rfb I J) 12 0 (sp_sat (uI I 37 0 0) b) g j = I g j := by rw [rfb12_oth h, sat_other (by omega), h0]
  unfold sp_find
  generalize lp (fun _ I => sp_rfb I J) 12 0 (sp_sat (uI I 37 0 0) b) = K at h1 ⊢
  by_cases c1 : uI I 37 0 0 31 a = 0
  · rw [if_pos c1]; exact h0
  · rw [if_neg c1]
    by_cases c2 : uI I 37 0 0 31 b = 0
    · rw [if_pos c2]; exact h0
    · rw [if_neg c2]
      by_cases c3 : K 32 a = 0
      · rw [if_pos c3]; exact h1
      · rw [if_neg c3]
        exact (sp_fl_oth J _ _ _ _ _ g j (by omega) (by omega)).trans h1
theorem sf_start_oth {x : Int32} {i : Nat} {I : MI} {g j : Nat} (h : g ≠ 31) : sf_start x i I g j = I g j := by simp [sf_start, uI, h]
theorem sp_start_oth {I : MI} {x am fe : Int32} {g j : Nat} (h : g ≠ 31) (h1 : g ≠ 38) (h2 : g ≠ 39) : sp_start I x am fe g j = I g j := by
  unfold sp_start
  rw [lp_inv (sf_start x) (fun _ σ => σ g j = uI (uI I 38 0 am) 39 0 fe g j) 12 (fun i σ _ hs => (sf_start_oth h).trans hs) 12 0 _ rfl rfl]
  simp [uI, h1, h2]
theorem sp_start_38 {I : MI} {x am fe : Int32} : sp_start I x am fe 38 0 = am ∧ sp_start I x am fe 39 0 = fe := by
  unfold sp_start
  refine ⟨?_, ?_⟩
  · rw [lp_inv (sf_start x) (fun _ σ => σ 38 0 = uI (uI I 38 0 am) 39 0 fe 38 0) 12 (fun i σ _ hs => (sf_start_oth (by decide)).trans hs) 12 0 _ rfl rfl]
    simp [uI]
  · rw [lp_inv (sf_start x) (fun _ σ => σ 39 0 = uI (uI I 38 0 am) 39 0 fe 39 0) 12 (fun i σ _ hs => (sf_start_oth (by decide)).trans hs) 12 0 _ rfl rfl]
    simp [uI]
/-- who is open behind start: who is there, and good -/
theorem sp_start_31 {I : MI} {nb a : Nat} {am fe : Int32} (hnb : nb ≤ 12) (ha : a < 12) : (¬ sp_start I (nI nb) am fe 31 a = 0) ↔ (a < nb ∧ I 7 a = 0) := by
  have key := lp_inv (sf_start (nI nb)) (fun i σ => (∀ j, σ 7 j = I 7 j) ∧ ∀ j, j < i → σ 31 j = if nI nb ≤ nI j then 0 else if hb (I 7 j = 0) = 0 then 0 else 1) 12 (fun i σ hi hs => ⟨fun j => (sf_start_oth (by decide)).trans (hs.1 j), fun j hj => by
    unfold sf_start uI
    by_cases e : j = i
    · subst e
      rw [if_pos ⟨rfl, rfl⟩, hs.1 j]
    · rw [if_neg (by omega)]; exact hs.2 j (by omega)⟩) 12 0 (uI (uI I 38 0 am) 39 0 fe) rfl ⟨fun j => by simp [uI], fun j hj => by omega⟩
  have e : sp_start I (nI nb) am fe 31 a = if nI nb ≤ nI a then 0 else if hb (I 7 a = 0) = 0 then 0 else 1 := key.2 a ha
  rw [e]
  by_cases c1 : nb ≤ a
  · rw [if_pos (nI_le c1 (by omega))]
    exact ⟨fun z => absurd rfl z, fun z => by omega⟩
  · rw [if_neg (nI_ge (by omega) (by omega))]
    by_cases c2 : I 7 a = 0
    · rw [hb_t c2]
      exact ⟨fun _ => ⟨by omega, c2⟩, fun _ => by decide⟩
    · rw [hb_f c2]
      exact ⟨fun z => absurd rfl z, fun z => absurd z.2 c2⟩
