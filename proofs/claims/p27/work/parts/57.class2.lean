/-! what the class alone keeps: debts both ways, cash -/
def sk (J : MJ) : Prop := ∀ a b, a < 12 → b < 12 → J 1 (12 * b + a) = -J 1 (12 * a + b)
theorem sk_change {J : MJ} {a b : Nat} {x : Int64} (h : sk J) (ha : a < 12) (hb9 : b < 12) : sk (sp_change J a b x) := by
  intro c d hc hd
  by_cases e : a = b
  · subst e
    have key : ∀ j, sp_change J a a x 1 j = J 1 j := fun j => by
      rw [sp_change_at]
      by_cases q : (1 : Nat) = 1 ∧ j = 12 * a + a
      · rw [if_pos q, uJ_at, if_pos ⟨rfl, rfl⟩, Int64.add_sub_cancel, q.2]
      · rw [if_neg q, if_neg q]
    rw [key, key]
    exact h c d hc hd
  · have at1 : sp_change J a b x 1 (12 * b + a) = J 1 (12 * b + a) - x := by rw [sp_change_at, if_pos ⟨rfl, rfl⟩, uJ_at, if_neg (fun z => e (by omega))]
    have at2 : sp_change J a b x 1 (12 * a + b) = J 1 (12 * a + b) + x := by rw [sp_change_at, if_neg (fun z => e (by omega)), if_pos ⟨rfl, rfl⟩]
    have at3 : ∀ j, j ≠ 12 * b + a → j ≠ 12 * a + b → sp_change J a b x 1 j = J 1 j := fun j h1 h2 => by rw [sp_change_at, if_neg (fun z => h1 z.2), if_neg (fun z => h2 z.2)]
    have hab := h a b ha hb9
    by_cases q1 : c = a ∧ d = b
    · rw [q1.1, q1.2, at1, at2, hab, Int64.neg_add]
    · by_cases q2 : c = b ∧ d = a
      · rw [q2.1, q2.2, at1, at2, hab, Int64.neg_sub, Int64.sub_neg, Int64.add_comm]
      · rw [at3 _ (by omega) (by omega), at3 _ (by omega) (by omega)]
        exact h c d hc hd
def jk (J J' : MJ) : Prop := (∀ j, J' 0 j = J 0 j) ∧ (∀ j, J' 3 j = J 3 j) ∧ (sk J → sk J')
theorem jk_rf (J : MJ) : jk J J := ⟨fun _ => rfl, fun _ => rfl, id⟩
theorem jk.tr {J J' J'' : MJ} (h : jk J J') (h' : jk J' J'') : jk J J'' := ⟨fun j => (h'.1 j).trans (h.1 j), fun j => (h'.2.1 j).trans (h.2.1 j), fun z => h'.2.2 (h.2.2 z)⟩
theorem jk_change (J : MJ) {a b : Nat} (x : Int64) (ha : a < 12) (hb9 : b < 12) : jk J (sp_change J a b x) := by
  refine ⟨fun j => ?_, fun j => ?_, fun h => sk_change h ha hb9⟩
  · rw [sp_change_at, if_neg (fun z => absurd z.1 (by decide)), if_neg (fun z => absurd z.1 (by decide))]
  · rw [sp_change_at, if_neg (fun z => absurd z.1 (by decide)), if_neg (fun z => absurd z.1 (by decide))]
theorem jk_write (J : MJ) (a b : Nat) (x : Int64) : jk J (sp_write J a b x) := by
  have e : ∀ g j, g ≠ 2 → sp_write J a b x g j = J g j := fun g j hg => if_neg (fun z => hg z.1)
  exact ⟨fun j => e 0 j (by decide), fun j => e 3 j (by decide), fun h c d hc hd => by rw [e 1 _ (by decide), e 1 _ (by decide)]; exact h c d hc hd⟩
theorem jk_known (J : MJ) {a b : Nat} (x : Int64) (ha : a < 12) (hb9 : b < 12) : jk J (sp_known J a b x) := ((jk_change J x ha hb9).tr (jk_write _ a b x)).tr (jk_write _ b a (-x))
theorem jk_lp {f : Nat → MJ → MJ} (hi : Nat) (hf : ∀ k J, k < hi → jk J (f k J)) : ∀ n i J, i + n = hi → jk J (lp f n i J) := fun n i J h => lp_inv f (fun _ σ => jk J σ) hi (fun k σ hk hs => hs.tr (hf k σ hk)) n i J h (jk_rf J)
theorem jk_tb {I : MI} {i k : Nat} (J : MJ) (h1 : hw_ok (I 20 (12 * i + k))) (h2 : hw_ok (I 20 (12 * i + (k + 1)))) : jk J (sf_tb I i k J) := by
  unfold sf_tb
  split
  · exact (jk_change J _ h1.b h2.b).tr (jk_write _ _ _ _)
  · exact ((jk_change J _ h1.b h2.b).tr (jk_write _ _ _ _)).tr (jk_write _ _ _ _)
theorem jk_la {I : MI} {i k : Nat} (J : MJ) (h1 : hw_ok (I 20 (12 * i + k))) (h2 : hw_ok (I 20 (12 * i + (k + 1)))) : jk J (sf_la I i k J) := (jk_change J _ h1.b h2.b).tr (jk_write _ _ _ _)
theorem jk_tbs {I : MI} {i n q ln : Nat} (J : MJ) (h : ∀ k, k ≤ ln → hw_ok (I 20 (12 * i + k))) (hq : q + n ≤ ln) : jk J (lp (sf_tb I i) n q J) := jk_lp (q + n) (fun k J hk => jk_tb J (h k (by omega)) (h (k + 1) (by omega))) n q J rfl
theorem jk_las {I : MI} {i n q ln : Nat} (J : MJ) (h : ∀ k, k ≤ ln → hw_ok (I 20 (12 * i + k))) (hq : q + n ≤ ln) : jk J (lp (sf_la I i) n q J) := jk_lp (q + n) (fun k J hk => jk_la J (h k (by omega)) (h (k + 1) (by omega))) n q J rfl
theorem jk_lk {I : MI} {J : MJ} {nb no nc i : Nat} {B : Int} (hc : hw_ci I J nb no nc B) (hi : i < no) (hB : B + 51539607552 ≤ 4611686018427387904) : jk J (sp_lk I J i).2 := by
  obtain ⟨kp, kc, kb⟩ := lk_pres hc hi hB
  have hor := hc.1.2.2.2.2.2.1 i hi
  have hnb := hc.1.1.2
  have hle := hor.2.2.2
  obtain ⟨hoth, _⟩ := lk_spec hc.1.1.1 hnb hor (hc.2.1 i hi).1 (hc.2.1 i hi).2 hc.2.2.1 kb
  have j1 : jk J (sp_lkJ I J i) := jk_tbs J hor.1.2.2 (by omega)
  have jb : jk J (sp_bk (sp_lkr I J i).2 (sp_lkJ I J i) i (hw_pl I i)).2 := j1.tr (jk_tbs (ln := hw_ln I i) _ (fun k hk => by rw [hoth 20 _ (by decide)]; exact hor.1.2.2 k hk) (by omega))
  by_cases c1 : (sp_lkr I J i).1 = 0
  · rw [sp_lk_a c1]; exact jb
  · by_cases c2 : I 21 (12 * i + hw_pl I i) - I 12 i < sp_fbf (sp_lkr I J i).2
    · rw [sp_lk_b c1 c2]; exact jb
    · obtain ⟨m, f1, f2, f3, f4, f5, f6, f7, f8⟩ := lk_new hc.1.1.1 hnb hor (hc.2.1 i hi).1 (hc.2.1 i hi).2 hc.2.2.1 kb c1
      have em : ((sp_lkr I J i).2 37 0).toNatClampNeg = m := by rw [f1, nI_clamp (by omega)]
      rw [sp_lk_c c1 c2, em]
      exact j1.tr (jk_las (ln := hw_pl I i + (m - 1)) _ f5.2.2 (by omega))
theorem jk_av {x : Int32} {nb no nc : Nat} {I : MI} {J : MJ} {B : Int} (h : hw_ci I J nb no nc B) (hB : B + 2061584302080 ≤ 4611686018427387904) : jk J (sp_av I J x no).2 := by
  have hno := h.1.2.1.2
  have key := lp_inv (sf_av x) (fun i σ => hw_ci σ.1 σ.2 nb no nc (B + i * 51539607552) ∧ jk J σ.2) no (fun i σ hi hs => by
    obtain ⟨a, b⟩ := av_step (x := x) hs.1 hi (by omega)
    refine ⟨⟨b.1, b.2.1, b.2.2.1, b.2.2.2.mono (by omega)⟩, ?_⟩
    unfold sf_av
    by_cases c1 : ¬ σ.1 16 i = 0
    · rw [if_pos c1]; exact hs.2
    · rw [if_neg c1]
      by_cases c2 : hb (hw_sp σ.1 i x = true) = 0
      · rw [if_pos c2]; exact hs.2
      · rw [if_neg c2]; exact hs.2.tr (jk_lk hs.1 hi (by omega))) no 0 (I, J) (by omega) ⟨⟨h.1, h.2.1, h.2.2.1, h.2.2.2.mono (by omega)⟩, jk_rf J⟩
  exact key.2
theorem jk_lo {x : Int32} {I : MI} {J : MJ} {no : Nat} (hos : hw_os I no) : jk J (sp_lo I J x no).2.1 := by
  have key := lp_inv (sf_lo x) (fun _ σ => (∀ g j, g ≠ 16 → σ.1 g j = I g j) ∧ jk J σ.2.1) no (fun i σ hi hs => by
    refine ⟨fun g j hg => (sf_lo_ne hg j).trans (hs.1 g j hg), ?_⟩
    have hor : hw_or σ.1 i := (hos i hi).congr (hs.1 17 _ (by decide)) (hs.1 19 _ (by decide)) (fun k _ => hs.1 20 _ (by decide))
    unfold sf_lo
    repeat' split
    all_goals first | exact hs.2 | exact hs.2.tr (jk_tbs (ln := hw_ln σ.1 i) _ hor.1.2.2 (by omega))) no 0 (I, J, 0) (by omega) ⟨fun _ _ _ => rfl, jk_rf J⟩
  exact key.2
/-- couriers that are no more on the road -/
def ar (I : MI) : Nat → Nat
  | 0 => 0
  | n + 1 => ar I n + (if I 26 n = 0 then 1 else 0)
theorem ar_le (I : MI) : ∀ n, ar I n ≤ n := by
  intro n
  induction n with
  | zero => exact Nat.le_refl 0
  | succ n ih =>
    show ar I n + (if I 26 n = 0 then 1 else 0) ≤ n + 1
    split <;> omega
theorem ar_congr {I I' : MI} : ∀ n, (∀ c, c < n → I' 26 c = I 26 c) → ar I' n = ar I n := by
  intro n
  induction n with
  | zero => intro _; rfl
  | succ n ih =>
    intro h
    show ar I' n + (if I' 26 n = 0 then 1 else 0) = ar I n + (if I 26 n = 0 then 1 else 0)
    rw [ih (fun c hc => h c (by omega)), h n (by omega)]
theorem ar_more {I I' : MI} {x : Nat} : ∀ n, x < n → (∀ c, c ≠ x → I' 26 c = I 26 c) → ¬ I 26 x = 0 → I' 26 x = 0 → ar I' n = ar I n + 1 := by
  intro n
  induction n with
  | zero => intro h; omega
  | succ n ih =>
    intro h1 h2 h3 h4
    show ar I' n + (if I' 26 n = 0 then 1 else 0) = ar I n + (if I 26 n = 0 then 1 else 0) + 1
    by_cases e : n = x
    · subst e
      rw [if_pos h4, if_neg h3, ar_congr n (fun c hc => h2 c (by omega))]
    · rw [h2 n e, ih (by omega) h2 h3 h4]
      omega
def hw_cb (I : MI) (J : MJ) (nc k : Nat) : Prop := ∀ j, 0 ≤ (J 0 j).toInt ∧ (J 0 j).toInt ≤ 3000000 * (k : Int) + 1000000 * (ar I nc : Int)
def hw_gv (I : MI) (no : Nat) : Prop := ∀ o, o < no → ∃ g : Nat, g ≤ 2300000 ∧ I 14 o = nI g
def hw_cm (I : MI) (nc : Nat) : Prop := ∀ c, c < nc → (∃ m : Nat, m ≤ 1000000 ∧ I 24 c = nI m) ∧ (¬ I 26 c = 0 → I 27 c = 0)
/-- what the class alone keeps, k calls made -/
def CK (k nb no nc : Nat) (B : Int) (σ : MI × MJ) : Prop := hw_ci σ.1 σ.2 nb no nc B ∧ hw_lm σ.1 ∧ hw_wb σ.1 no nb ∧ hw_fr σ.1 no nc ∧ hw_gv σ.1 no ∧ hw_cm σ.1 nc ∧ sk σ.2 ∧ hw_cb σ.1 σ.2 nc k
def ckf (g : Nat) : Prop := g ≤ 2 ∨ (4 ≤ g ∧ g ≤ 6) ∨ g = 10 ∨ g = 12 ∨ g = 14 ∨ (17 ≤ g ∧ g ≤ 20) ∨ (22 ≤ g ∧ g ≤ 24) ∨ g = 26 ∨ g = 27
theorem CK.congr {k nb no nc : Nat} {B B' : Int} {I I' : MI} {J J' : MJ} (h : CK k nb no nc B (I, J)) (h1 : ∀ g j, ckf g → I' g j = I g j) (h2 : bd J' B') (h3 : sk J') (h4 : ∀ j, J' 0 j = J 0 j) : CK k nb no nc B' (I', J') := by
  obtain ⟨a1, a2, a3, a4, a5, a6, a7, a8⟩ := h
  have e : ∀ g j, ckf g → I' g j = I g j := h1
  refine ⟨a1.congr (fun g j hg => e g j (by unfold ckf; omega)) h2, fun j => ?_, a3.congr a1.1.2.2.2.2.2.1 (fun o ho => ⟨e 19 o (by unfold ckf; omega), fun k _ => e 20 _ (by unfold ckf; omega)⟩), ⟨fun o h1 h2 => ?_, fun c h1 h2 => ?_⟩, fun o ho => ?_, fun c hc => ?_, h3, fun j => ?_⟩
  · show ∃ m : Nat, m ≤ 1000000 ∧ I' 10 j = nI m
    rw [e 10 j (by unfold ckf; omega)]; exact a2 j
  · show I' 17 o = 0 ∧ I' 18 o = 0
    rw [e 17 o (by unfold ckf; omega), e 18 o (by unfold ckf; omega)]; exact a4.1 o h1 h2
  · show I' 27 c = 0 ∧ I' 26 c = 0
    rw [e 27 c (by unfold ckf; omega), e 26 c (by unfold ckf; omega)]; exact a4.2 c h1 h2
  · show ∃ g : Nat, g ≤ 2300000 ∧ I' 14 o = nI g
    rw [e 14 o (by unfold ckf; omega)]; exact a5 o ho
  · show (∃ m : Nat, m ≤ 1000000 ∧ I' 24 c = nI m) ∧ (¬ I' 26 c = 0 → I' 27 c = 0)
    rw [e 24 c (by unfold ckf; omega), e 26 c (by unfold ckf; omega), e 27 c (by unfold ckf; omega)]; exact a6 c hc
  · show 0 ≤ (J' 0 j).toInt ∧ (J' 0 j).toInt ≤ 3000000 * (k : Int) + 1000000 * (ar I' nc : Int)
    rw [h4, ar_congr nc (fun c _ => e 26 c (by unfold ckf; omega))]
    exact a8 j
/-- a change of debts alone -/
theorem CK_jk {k nb no nc : Nat} {B B' : Int} {I I' : MI} {J J' : MJ} (h : CK k nb no nc B (I, J)) (h1 : ∀ g j, ckf g → I' g j = I g j) (h2 : bd J' B') (h3 : jk J J') : CK k nb no nc B' (I', J') := h.congr h1 h2 (h3.2.2 h.2.2.2.2.2.2.1) h3.1
/-! an hour in the class -/
theorem mm_CK {k nb no nc i : Nat} {B : Int} {σ : MI × MJ} (hi : i < no) (h : CK k nb no nc B σ) : CK k nb no nc B (sf_mm i σ) := by
  obtain ⟨a1, a2, a3, a4, a5, a6, a7, a8⟩ := id h
  have o1 : ∀ g j, g ≠ 16 → g ≠ 17 → (sf_mm i σ).1 g j = σ.1 g j := fun g j h1 h2 => sf_mm_ne h1 h2 j
  have o2 : ∀ o, o ≠ i → (sf_mm i σ).1 17 o = σ.1 17 o := fun o ho => by
    unfold sf_mm
    by_cases c1 : ¬ σ.1 16 i = 0
    · rw [if_pos c1]
    rw [if_neg c1]
    by_cases c2 : σ.1 19 i ≤ σ.1 17 i + 1
    · rw [if_pos c2]
    rw [if_neg c2]
    by_cases c3 : ¬ uI σ.1 17 i (σ.1 17 i + 1) 17 i + 1 = uI σ.1 17 i (σ.1 17 i + 1) 19 i
    · rw [if_pos c3]; exact if_neg (fun z => ho z.2)
    rw [if_neg c3]
    have e1 : uI (uI σ.1 17 i (σ.1 17 i + 1)) 16 i 1 17 o = uI σ.1 17 i (σ.1 17 i + 1) 17 o := if_neg (fun z => absurd z.1 (by decide))
    exact e1.trans (if_neg (fun z => ho z.2))
  have j1 : jk σ.2 (sf_mm i σ).2 ∧ bd (sf_mm i σ).2 B := by
    unfold sf_mm
    repeat' split
    all_goals first | exact ⟨jk_rf _, a1.2.2.2⟩ | exact ⟨jk_write _ _ _ _, a1.2.2.2.write _ _ _⟩
  refine ⟨⟨a1.1.congr (fun g j hg => o1 g j (by omega) (by omega)) (sf_mm_os hi a1.1.2.2.2.2.2.1), a1.2.1.congr a1.1.2.2.2.2.2.1 (fun g j hg => o1 g j (by omega) (by omega)), a1.2.2.1.congr (fun j => o1 6 j (by decide) (by decide)), j1.2⟩, fun j => ?_, a3.congr a1.1.2.2.2.2.2.1 (fun o _ => ⟨o1 19 o (by decide) (by decide), fun k _ => o1 20 _ (by decide) (by decide)⟩), ⟨fun o h1 h2 => ?_, fun c h1 h2 => ?_⟩, fun o ho => ?_, fun c hc => ?_, j1.1.2.2 a7, fun j => ?_⟩
  · rw [o1 10 j (by decide) (by decide)]; exact a2 j
  · rw [o2 o (by omega), o1 18 o (by decide) (by decide)]; exact a4.1 o h1 h2
  · rw [o1 27 c (by decide) (by decide), o1 26 c (by decide) (by decide)]; exact a4.2 c h1 h2
  · rw [o1 14 o (by decide) (by decide)]; exact a5 o ho
  · rw [o1 24 c (by decide) (by decide), o1 26 c (by decide) (by decide), o1 27 c (by decide) (by decide)]; exact a6 c hc
  · rw [j1.1.1, ar_congr nc (fun c _ => o1 26 c (by decide) (by decide))]
    exact a8 j
theorem sb_CK {k nb no nc i : Nat} {B : Int} {σ : MI × MJ} (hi : i < no) (hB : B + 25769803776 < 9223372036854775808) (h : CK k nb no nc B σ) : CK k nb no nc (B + 25769803776) (sf_sb i σ) := by
  have a1 := h.1
  have hor := a1.1.2.2.2.2.2.1 i hi
  have hn := hor.1.1
  have j1 : jk σ.2 (sf_sb i σ).2 ∧ bd (sf_sb i σ).2 (B + 25769803776) := by
    unfold sf_sb
    repeat' split
    · exact ⟨jk_rf _, a1.2.2.2.mono (by omega)⟩
    · exact ⟨jk_rf _, a1.2.2.2.mono (by omega)⟩
    · exact ⟨jk_tbs (ln := hw_ln σ.1 i) _ hor.1.2.2 (by omega), (bd.lp (fun k J B hb h => hb.tb h) (hw_ln σ.1 i) 0 _ _ a1.2.2.2 (by omega)).mono (by omega)⟩
  exact CK_jk (I := σ.1) (J := σ.2) h (fun g j hg => sf_sb_ne (by unfold ckf at hg; omega) j) j1.2 j1.1
theorem gb_CK {k nb no nc i : Nat} {B : Int} {σ : MI × MJ} (hi : i < no) (h : CK k nb no nc B σ) : CK k nb no nc B (sf_gb i σ) := by
  obtain ⟨a1, a2, a3, a4, a5, a6, a7, a8⟩ := id h
  obtain ⟨g, g1, g2⟩ := a5 i hi
  have o1 : ∀ g j, g ≠ 16 → (sf_gb i σ).1 g j = σ.1 g j := fun g j h1 => sf_gb_ne h1 j
  have j1 : (∀ g j, g ≠ 0 → (sf_gb i σ).2 g j = σ.2 g j) ∧ ∀ j, 0 ≤ ((sf_gb i σ).2 0 j).toInt ∧ ((sf_gb i σ).2 0 j).toInt ≤ (σ.2 0 j).toInt := by
    unfold sf_gb
    by_cases c1 : ¬ σ.1 16 i = 3
    · rw [if_pos c1]; exact ⟨fun _ _ _ => rfl, fun j => ⟨(a8 j).1, Int.le_refl _⟩⟩
    rw [if_neg c1]
    by_cases c2 : hb (σ.1 7 (σ.1 20 (12 * i + 0)).toNatClampNeg = 0) = 0
    · rw [if_pos c2]; exact ⟨fun _ _ _ => rfl, fun j => ⟨(a8 j).1, Int.le_refl _⟩⟩
    rw [if_neg c2]
    by_cases c3 : lg_cmp (σ.2 0 (σ.1 20 (12 * i + 0)).toNatClampNeg) (σ.1 14 i).toInt64 < 0
    · rw [if_pos c3]; exact ⟨fun _ _ _ => rfl, fun j => ⟨(a8 j).1, Int.le_refl _⟩⟩
    rw [if_neg c3]
    refine ⟨fun g j hg => if_neg (fun z => hg z.1), fun j => ?_⟩
    have hge : (g : Int) ≤ (σ.2 0 (σ.1 20 (12 * i + 0)).toNatClampNeg).toInt := by
      have := Int64.not_lt.mp (fun z => c3 ((lg_cmp_lt _ _).mpr z))
      rw [Int64.le_iff_toInt_le, i32l, g2, nI_toInt (by omega)] at this
      exact this
    show 0 ≤ (uJ σ.2 0 (σ.1 20 (12 * i + 0)).toNatClampNeg (σ.2 0 (σ.1 20 (12 * i + 0)).toNatClampNeg - (σ.1 14 i).toInt64) 0 j).toInt ∧ (uJ σ.2 0 (σ.1 20 (12 * i + 0)).toNatClampNeg (σ.2 0 (σ.1 20 (12 * i + 0)).toNatClampNeg - (σ.1 14 i).toInt64) 0 j).toInt ≤ (σ.2 0 j).toInt
    rw [uJ_at]
    have hb1 := a8 (σ.1 20 (12 * i + 0)).toNatClampNeg
    have hl : (σ.1 14 i).toInt64.toInt = g := by rw [i32l, g2, nI_toInt (by omega)]
    by_cases c : (0 : Nat) = 0 ∧ j = (σ.1 20 (12 * i + 0)).toNatClampNeg
    · have hlt := Int64.toInt_lt (σ.2 0 (σ.1 20 (12 * i + 0)).toNatClampNeg)
      rw [if_pos c, i64sub (by rw [hl]; omega) (by rw [hl]; omega), hl, c.2]
      omega
    · rw [if_neg c]
      exact ⟨(a8 j).1, Int.le_refl _⟩
  have e : ∀ g j, ckf g → (sf_gb i σ).1 g j = σ.1 g j := fun g j hg => o1 g j (by unfold ckf at hg; omega)
  have c0 : CK k nb no nc B ((sf_gb i σ).1, σ.2) := CK.congr (I := σ.1) (J := σ.2) h e a1.2.2.2 a7 (fun _ => rfl)
  obtain ⟨d1, d2, d3, d4, d5, d6, d7, d8⟩ := c0
  refine ⟨⟨d1.1, d1.2.1, d1.2.2.1, fun j => by rw [j1.1 1 j (by decide)]; exact d1.2.2.2 j⟩, d2, d3, d4, d5, d6, fun a b ha hb9 => by rw [j1.1 1 _ (by decide), j1.1 1 _ (by decide)]; exact a7 a b ha hb9, fun j => ?_⟩
  have := j1.2 j
  have h2 := d8 j
  exact ⟨this.1, Int.le_trans this.2 h2.2⟩
theorem rc_CK {k nb no nc i : Nat} {B : Int} {σ : MI × MJ} (hi : i < nc) (hB : B + 2147483648 < 9223372036854775808) (hk : k ≤ 600) (h : CK k nb no nc B σ) : CK k nb no nc (B + 2147483648) (sf_rc i σ) := by
  obtain ⟨a1, a2, a3, a4, a5, a6, a7, a8⟩ := id h
  obtain ⟨m, m1, m2⟩ := (a6 i hi).1
  obtain ⟨k1, k2⟩ := a1.1.2.2.2.2.2.2 i hi
  by_cases c1 : σ.1 26 i = 0
  · rw [show sf_rc i σ = σ from if_pos c1]
    exact CK.congr (I := σ.1) (J := σ.2) h (fun _ _ _ => rfl) (a1.2.2.2.mono (by omega)) a7 (fun _ => rfl)
  by_cases c2 : σ.1 3 0 < σ.1 25 i
  · rw [show sf_rc i σ = σ from (if_neg c1).trans (if_pos c2)]
    exact CK.congr (I := σ.1) (J := σ.2) h (fun _ _ _ => rfl) (a1.2.2.2.mono (by omega)) a7 (fun _ => rfl)
  have es : sf_rc i σ = (uI σ.1 26 i 0, sp_known (uJ σ.2 0 (σ.1 23 i).toNatClampNeg (σ.2 0 (σ.1 23 i).toNatClampNeg + (σ.1 24 i).toInt64)) (σ.1 22 i).toNatClampNeg (σ.1 23 i).toNatClampNeg (-σ.1 24 i).toInt64) := (if_neg c1).trans (if_neg c2)
  rw [es]
  have hl : (σ.1 24 i).toInt64.toInt = m := by rw [i32l, m2, nI_toInt (by omega)]
  generalize hJ : uJ σ.2 0 (σ.1 23 i).toNatClampNeg (σ.2 0 (σ.1 23 i).toNatClampNeg + (σ.1 24 i).toInt64) = J1
  have hJ1 : ∀ g j, g ≠ 0 → J1 g j = σ.2 g j := fun g j hg => by rw [← hJ]; exact if_neg (fun z => hg z.1)
  have sk1 : sk J1 := fun a b ha hb9 => by rw [hJ1 1 _ (by decide), hJ1 1 _ (by decide)]; exact a7 a b ha hb9
  have bd1 : bd J1 B := fun j => by rw [hJ1 1 j (by decide)]; exact a1.2.2.2 j
  have jk1 := jk_known J1 (-σ.1 24 i).toInt64 k1.b k2.b
  have ib := i32b (-σ.1 24 i)
  have bd2 : bd (sp_known J1 (σ.1 22 i).toNatClampNeg (σ.1 23 i).toNatClampNeg (-σ.1 24 i).toInt64) (B + 2147483648) := bd1.known (by rw [i32l]; omega) (by rw [i32l]; omega) hB
  have u : ∀ g j, g ≠ 26 → uI σ.1 26 i 0 g j = σ.1 g j := fun g j hg => if_neg (fun z => hg z.1)
  have ea : ar (uI σ.1 26 i 0) nc = ar σ.1 nc + 1 := ar_more nc hi (fun c hc => if_neg (fun z => hc z.2)) c1 (if_pos ⟨rfl, rfl⟩)
  refine ⟨a1.congr (fun g j hg => u g j (by omega)) bd2, fun j => a2 j, a3.congr a1.1.2.2.2.2.2.1 (fun o _ => ⟨u 19 o (by decide), fun k _ => u 20 _ (by decide)⟩), ⟨a4.1, fun c h1 h2 => ?_⟩, a5, fun c hc => ⟨(a6 c hc).1, fun z => ?_⟩, jk1.2.2 sk1, fun j => ?_⟩
  · show uI σ.1 26 i 0 27 c = 0 ∧ uI σ.1 26 i 0 26 c = 0
    rw [u 27 c (by decide), uI_at, if_neg (fun z => by omega)]
    exact a4.2 c h1 h2
  · show uI σ.1 26 i 0 27 c = 0
    rw [u 27 c (by decide)]
    by_cases q : c = i
    · exact absurd (if_pos ⟨rfl, q⟩) z
    · exact (a6 c hc).2 (fun y => z ((if_neg (fun w => q w.2)).trans y))
  · have hj := a8 j
    have hle := ar_le σ.1 nc
    have hnc := a1.1.2.2.1.2
    have e0 : (sp_known J1 (σ.1 22 i).toNatClampNeg (σ.1 23 i).toNatClampNeg (-σ.1 24 i).toInt64 0 j) = J1 0 j := jk1.1 j
    show 0 ≤ (sp_known J1 (σ.1 22 i).toNatClampNeg (σ.1 23 i).toNatClampNeg (-σ.1 24 i).toInt64 0 j).toInt ∧ (sp_known J1 (σ.1 22 i).toNatClampNeg (σ.1 23 i).toNatClampNeg (-σ.1 24 i).toInt64 0 j).toInt ≤ 3000000 * (k : Int) + 1000000 * (ar (uI σ.1 26 i 0) nc : Int)
    rw [e0, ea, ← hJ, uJ_at]
    by_cases c : (0 : Nat) = 0 ∧ j = (σ.1 23 i).toNatClampNeg
    · rw [if_pos c, ← c.2, i64add (by rw [hl]; omega) (by rw [hl]; omega), hl]
      omega
    · rw [if_neg c]
      omega
theorem hour_CK {k nb no nc : Nat} {B : Int} {I : MI} {J : MJ} (h : CK k nb no nc B (I, J)) (hk : k ≤ 600) (hB : B + 1116691496960 ≤ 4611686018427387904) : CK k nb no nc (B + 1116691496960) (sp_ph I J nb no nc) := by
  have hno := h.1.1.2.1.2
  have hnc := h.1.1.2.2.1.2
  have c1 : CK k nb no nc B (sp_er (uI I 3 0 (I 3 0 + 1)) nb, J) := h.congr (fun g j hg => (sp_er_ne (by unfold ckf at hg; omega) j).trans (if_neg (fun z => by unfold ckf at hg; omega))) h.1.2.2.2 h.2.2.2.2.2.2.1 (fun _ => rfl)
  have c2 := lp_inv sf_mm (fun _ σ => CK k nb no nc B σ) no (fun i _ hi h => mm_CK hi h) no 0 _ (by omega) c1
  have c3 := lp_inv sf_sb (fun i σ => CK k nb no nc (B + i * 25769803776) σ) no (fun i σ hi h => by
    have := sb_CK hi (by omega) h
    exact CK.congr (I := (sf_sb i σ).1) (J := (sf_sb i σ).2) this (fun _ _ _ => rfl) (this.1.2.2.2.mono (by omega)) this.2.2.2.2.2.2.1 (fun _ => rfl)) no 0 _ (by omega) (CK.congr (I := (lp sf_mm no 0 (sp_er (uI I 3 0 (I 3 0 + 1)) nb, J)).1) (J := (lp sf_mm no 0 (sp_er (uI I 3 0 (I 3 0 + 1)) nb, J)).2) c2 (fun _ _ _ => rfl) (c2.1.2.2.2.mono (by omega)) c2.2.2.2.2.2.2.1 (fun _ => rfl))
  have c4 := lp_inv sf_gb (fun _ σ => CK k nb no nc (B + no * 25769803776) σ) no (fun i _ hi h => gb_CK hi h) no 0 _ (by omega) c3
  have c5 := lp_inv sf_rc (fun i σ => CK k nb no nc (B + no * 25769803776 + i * 2147483648) σ) nc (fun i σ hi h => by
    have := rc_CK hi (by omega) hk h
    exact CK.congr (I := (sf_rc i σ).1) (J := (sf_rc i σ).2) this (fun _ _ _ => rfl) (this.1.2.2.2.mono (by omega)) this.2.2.2.2.2.2.1 (fun _ => rfl)) nc 0 _ (by omega) (CK.congr (I := (lp sf_gb no 0 (lp sf_sb no 0 (lp sf_mm no 0 (sp_er (uI I 3 0 (I 3 0 + 1)) nb, J)))).1) (J := (lp sf_gb no 0 (lp sf_sb no 0 (lp sf_mm no 0 (sp_er (uI I 3 0 (I 3 0 + 1)) nb, J)))).2) c4 (fun _ _ _ => rfl) (c4.1.2.2.2.mono (by omega)) c4.2.2.2.2.2.2.1 (fun _ => rfl))
  exact CK.congr (I := (sp_ph I J nb no nc).1) (J := (sp_ph I J nb no nc).2) c5 (fun _ _ _ => rfl) (c5.1.2.2.2.mono (by omega)) c5.2.2.2.2.2.2.1 (fun _ => rfl)
