/-! what looking anew keeps, and avoiding -/
def hw_ci (I : MI) (J : MJ) (nb no nc : Nat) (B : Int) : Prop := hw_iv I nb no nc ∧ hw_owd I no ∧ hw_rt I ∧ bd J B
/-- what looking anew leaves -/
theorem lk_pres {I : MI} {J : MJ} {nb no nc i : Nat} {B : Int} (h : hw_ci I J nb no nc B) (hi : i < no) (hB : B + 51539607552 ≤ 4611686018427387904) :
    (∀ g j, ¬ (31 ≤ g ∧ g ≤ 39) → g ≠ 16 → g ≠ 19 → g ≠ 20 → g ≠ 21 → (sp_lk I J i).1 g j = I g j) ∧ hw_ci (sp_lk I J i).1 (sp_lk I J i).2 nb no nc (B + 51539607552) ∧ bd (sp_lkJ I J i) 4611686018427387904 := by
  obtain ⟨h1, h2, h3, h4⟩ := id h
  have hor := h1.2.2.2.2.2.1 i hi
  obtain ⟨hwy, a1, hpl, hle⟩ := id hor
  have hwy1 := hwy.1
  have ebd : bd (sp_lkJ I J i) (B + 25769803776) := (bd.lp (fun k J B hb h => hb.tb h) (hw_ln I i - hw_pl I i) (hw_pl I i) J B h4 (by omega)).mono (by omega)
  have ebd2 : bd (sp_lkJ I J i) 4611686018427387904 := ebd.mono (by omega)
  obtain ⟨hoth, _⟩ := lk_spec h1.1.1 h1.1.2 hor (h2 i hi).1 (h2 i hi).2 h3 ebd2
  have hbk : ∀ K : MI, (∀ g j, ¬ (31 ≤ g ∧ g ≤ 39) → K g j = I g j) → (∀ g j, ¬ (31 ≤ g ∧ g ≤ 39) → g ≠ 16 → g ≠ 19 → g ≠ 20 → g ≠ 21 → (sp_bk K (sp_lkJ I J i) i (hw_pl I i)).1 g j = I g j) ∧ hw_ci (sp_bk K (sp_lkJ I J i) i (hw_pl I i)).1 (sp_bk K (sp_lkJ I J i) i (hw_pl I i)).2 nb no nc (B + 51539607552) := fun K hK => by
    have e : ∀ g j, ¬ (31 ≤ g ∧ g ≤ 39) → g ≠ 16 → (sp_bk K (sp_lkJ I J i) i (hw_pl I i)).1 g j = I g j := fun g j q1 q2 => (sp_ef_ne q2 j).trans (hK g j q1)
    refine ⟨fun g j q1 q2 _ _ _ => e g j q1 q2, h1.congr2 (fun g j hg => e g j (by omega) (by omega)), fun o ho => ⟨(h2 o ho).1.congr (h1.2.2.2.2.2.1 o ho).1.1 (e _ _ (by omega) (by omega)) (fun k _ => e _ _ (by omega) (by omega)), (h2 o ho).2.congr (e _ _ (by omega) (by omega))⟩, h3.congr (fun i => e _ _ (by omega) (by omega)), ?_⟩
    exact (bd.lp (fun k J B hb h => hb.tb h) (hw_pl I i) 0 _ _ ebd (by omega)).mono (by omega)
  by_cases c1 : (sp_lkr I J i).1 = 0
  · rw [sp_lk_a c1]
    exact ⟨(hbk _ hoth).1, (hbk _ hoth).2, ebd2⟩
  · by_cases c2 : I 21 (12 * i + hw_pl I i) - I 12 i < sp_fbf (sp_lkr I J i).2
    · rw [sp_lk_b c1 c2]
      exact ⟨(hbk _ hoth).1, (hbk _ hoth).2, ebd2⟩
    · obtain ⟨m, f1, f2, f3, f4, f5, f6, f7, f8⟩ := lk_new h1.1.1 h1.1.2 hor (h2 i hi).1 (h2 i hi).2 h3 ebd2 c1
      have em : ((sp_lkr I J i).2 37 0).toNatClampNeg = m := by rw [f1, nI_clamp (by omega)]
      rw [sp_lk_c c1 c2, em]
      generalize (sp_lkr I J i).2 = K at hoth f1 f4 f5 f6 f7 f8
      have e : ∀ g j, ¬ (31 ≤ g ∧ g ≤ 39) → g ≠ 19 → g ≠ 20 → g ≠ 21 → sp_take K i (hw_pl I i) m g j = I g j := fun g j q1 q2 q3 q4 => (take_ne q2 q3 q4 j).trans (hoth g j q1)
      have eo : ∀ g o k, (g = 19 ∧ k = 0 ∨ g = 20 ∧ k < 12) → o ≠ i → sp_take K i (hw_pl I i) m g (if g = 19 then o else 12 * o + k) = I g (if g = 19 then o else 12 * o + k) := fun g o k hg ho => by
        refine (take_oth ?_ ?_).trans (hoth _ _ (by omega))
        · rcases hg with ⟨z, _⟩ | ⟨z, _⟩ <;> subst z <;> simp [ho]
        · rcases hg with ⟨z, _⟩ | ⟨z, _⟩ <;> subst z
          · simp
          · simp only [show ¬ (20 : Nat) = 19 by decide, if_false]; omega
      have e19 : ∀ o, o ≠ i → sp_take K i (hw_pl I i) m 19 o = I 19 o := fun o ho => eo 19 o 0 (by omega) ho
      have e20 : ∀ o k, k < 12 → o ≠ i → sp_take K i (hw_pl I i) m 20 (12 * o + k) = I 20 (12 * o + k) := fun o k hk ho => eo 20 o k (by omega) ho
      have hos : hw_os (sp_take K i (hw_pl I i) m) no := fun o ho => by
        by_cases c : o = i
        · subst c; exact f7
        · exact (h1.2.2.2.2.2.1 o ho).congr (e _ _ (by omega) (by omega) (by omega) (by omega)) (e19 o c) (fun k hk => e20 o k hk c)
      simp only [sp_fw2]
      refine ⟨fun g j q1 _ q2 q3 q4 => e g j q1 q2 q3 q4, ⟨h1.congr (fun g j hg => e g j (by omega) (by omega) (by omega) (by omega)) hos, fun o ho => ⟨?_, (h2 o ho).2.congr (e _ _ (by omega) (by omega) (by omega) (by omega))⟩, h3.congr (fun i => e _ _ (by omega) (by omega) (by omega) (by omega)), ?_⟩, ebd2⟩
      · by_cases c : o = i
        · subst c; exact f8
        · exact (h2 o ho).1.congr (h1.2.2.2.2.2.1 o ho).1.1 (e19 o c) (fun k hk => e20 o k hk c)
      · exact (bd.lp (fun k J B hb h => hb.la h) (hw_pl I i + (m - 1) - hw_pl I i) (hw_pl I i) _ _ ebd (by omega)).mono (by omega)
def hw_sp (I : MI) (o : Nat) (x : Int32) : Bool := an (fun k => decide (I 20 (12 * o + k) = x)) (hw_ln I o + 1 - (hw_pl I o + 1)) (hw_pl I o + 1)
def sf_av (x : Int32) (i : Nat) (σ : MI × MJ) : MI × MJ := if ¬ σ.1 16 i = 0 then σ else if hb (hw_sp σ.1 i x = true) = 0 then σ else sp_lk σ.1 σ.2 i
def sp_av (I : MI) (J : MJ) (x : Int32) (no : Nat) : MI × MJ := lp (sf_av x) no 0 (I, J)
theorem av_step {x : Int32} {nb no nc i : Nat} {σ : MI × MJ} {B : Int} (h : hw_ci σ.1 σ.2 nb no nc B) (hi : i < no) (hB : B + 51539607552 ≤ 4611686018427387904) :
    (∀ g j, ¬ (31 ≤ g ∧ g ≤ 39) → g ≠ 16 → g ≠ 19 → g ≠ 20 → g ≠ 21 → (sf_av x i σ).1 g j = σ.1 g j) ∧ hw_ci (sf_av x i σ).1 (sf_av x i σ).2 nb no nc (B + 51539607552) := by
  have h9 : hw_ci σ.1 σ.2 nb no nc (B + 51539607552) := ⟨h.1, h.2.1, h.2.2.1, h.2.2.2.mono (by omega)⟩
  unfold sf_av
  by_cases c1 : ¬ σ.1 16 i = 0
  · rw [if_pos c1]; exact ⟨fun _ _ _ _ _ _ _ => rfl, h9⟩
  · rw [if_neg c1]
    by_cases c2 : hb (hw_sp σ.1 i x = true) = 0
    · rw [if_pos c2]; exact ⟨fun _ _ _ _ _ _ _ => rfl, h9⟩
    · rw [if_neg c2]
      have := lk_pres h hi hB
      exact ⟨this.1, this.2.1⟩
theorem av_all {x : Int32} {nb no nc : Nat} {I : MI} {J : MJ} {B : Int} (h : hw_ci I J nb no nc B) (hB : B + 2061584302080 ≤ 4611686018427387904) :
    (∀ g j, ¬ (31 ≤ g ∧ g ≤ 39) → g ≠ 16 → g ≠ 19 → g ≠ 20 → g ≠ 21 → (sp_av I J x no).1 g j = I g j) ∧ hw_ci (sp_av I J x no).1 (sp_av I J x no).2 nb no nc (B + 2061584302080) := by
  have hno := h.1.2.1.2
  have key := lp_inv (sf_av x) (fun i σ => (∀ g j, ¬ (31 ≤ g ∧ g ≤ 39) → g ≠ 16 → g ≠ 19 → g ≠ 20 → g ≠ 21 → σ.1 g j = I g j) ∧ hw_ci σ.1 σ.2 nb no nc (B + i * 51539607552)) no (fun i σ hi hs => by
    obtain ⟨a, b⟩ := av_step (x := x) hs.2 hi (by omega)
    exact ⟨fun g j q1 q2 q3 q4 q5 => (a g j q1 q2 q3 q4 q5).trans (hs.1 g j q1 q2 q3 q4 q5), b.1, b.2.1, b.2.2.1, b.2.2.2.mono (by omega)⟩) no 0 (I, J) (by omega) ⟨fun _ _ _ _ _ _ _ => rfl, h.1, h.2.1, h.2.2.1, h.2.2.2.mono (by omega)⟩
  exact ⟨key.1, key.2.1, key.2.2.1, key.2.2.2.1, key.2.2.2.2.mono (by omega)⟩
