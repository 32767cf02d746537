/-! an hour on both sides: all of it -/
def RH (nb no nc : Nat) (σ τ : MI × MJ) : Prop := rh nb no nc σ τ ∧ rv nc σ.1 τ.1 ∧ hh σ.1 no ∧ SU σ.1 τ.2 no nc ∧ σ.2 3 0 = τ.2 4 4
theorem stn {I I' : MI} {o : Nat} (h : I' 16 o = I 16 o) : (I' 16 o = 2 ↔ I 16 o = 2) ∧ (I' 16 o = 4 ↔ I 16 o = 4) := by rw [h]; exact ⟨Iff.rfl, Iff.rfl⟩
theorem stx {I I' : MI} {o : Nat} {a b : Int32} (h : I 16 o = a) (h' : I' 16 o = b) (h2 : a ≠ 2 ∧ a ≠ 4 ∧ b ≠ 2 ∧ b ≠ 4) : (I' 16 o = 2 ↔ I 16 o = 2) ∧ (I' 16 o = 4 ↔ I 16 o = 4) := by
  rw [h, h']
  exact ⟨⟨fun z => absurd z h2.2.2.1, fun z => absurd z h2.1⟩, ⟨fun z => absurd z h2.2.2.2, fun z => absurd z h2.2.1⟩⟩
theorem owe_4 (N : MJ) (g a b : Nat) (x : Int64) (j : Nat) (hg : g ≠ 4) : pf_owe N g a b x 4 j = N 4 j := if_neg (fun z => hg z.1.symm)
theorem on_4 (P : MI) (N : MJ) (i k : Nat) (z : Int32) (j : Nat) : ps_on P N i k z 4 j = N 4 j := by
  unfold ps_on
  split
  · rw [owe_4 _ _ _ _ _ _ (by decide), owe_4 _ _ _ _ _ _ (by decide), owe_4 _ _ _ _ _ _ (by decide)]
  · rw [owe_4 _ _ _ _ _ _ (by decide), owe_4 _ _ _ _ _ _ (by decide), owe_4 _ _ _ _ _ _ (by decide), owe_4 _ _ _ _ _ _ (by decide)]
theorem tbs_4 (P : MI) (i : Nat) (j n q : Nat) (N : MJ) : lp (pf_tb P i) n q N 4 j = N 4 j := lp_inv (pf_tb P i) (fun _ σ => σ 4 j = N 4 j) (q + n) (fun k σ _ hs => (on_4 P σ i k (-1) j).trans hs) n q N rfl rfl
theorem both_4 (N : MJ) (a b : Nat) (x : Int64) (j : Nat) : ps_both N a b x 4 j = N 4 j := by
  unfold ps_both
  rw [owe_4 _ _ _ _ _ _ (by decide), owe_4 _ _ _ _ _ _ (by decide), owe_4 _ _ _ _ _ _ (by decide), owe_4 _ _ _ _ _ _ (by decide)]
theorem change_3 (J : MJ) (a b : Nat) (x : Int64) : sp_change J a b x 3 0 = J 3 0 := by
  rw [sp_change_at, if_neg (fun z => absurd z.1 (by decide)), if_neg (fun z => absurd z.1 (by decide))]
theorem write_3 (J : MJ) (a b : Nat) (x : Int64) : sp_write J a b x 3 0 = J 3 0 := by simp [sp_write, uJ]
theorem tb_3 (I : MI) (i k : Nat) (J : MJ) : sf_tb I i k J 3 0 = J 3 0 := by
  unfold sf_tb
  split
  · rw [write_3, change_3]
  · rw [write_3, write_3, change_3]
theorem tbs_3 (I : MI) (i n q : Nat) (J : MJ) : lp (sf_tb I i) n q J 3 0 = J 3 0 := lp_inv (sf_tb I i) (fun _ σ => σ 3 0 = J 3 0) (q + n) (fun k σ _ hs => (tb_3 I i k σ).trans hs) n q J rfl rfl
theorem mm_RH {nb no nc i : Nat} {σ τ : MI × MJ} (hi : i < no) (h : RH nb no nc σ τ) : RH nb no nc (sf_mm i σ) (pn_b i τ) := by
  obtain ⟨h1, h2, h3, h4, h5⟩ := h
  have hm := mm_same hi h1
  have hst : ∀ o, (sf_mm i σ).1 16 o = σ.1 16 o ∨ (σ.1 16 o = 0 ∧ (sf_mm i σ).1 16 o = 1) := fun o => by
    unfold sf_mm
    by_cases c1 : ¬ σ.1 16 i = 0
    · rw [if_pos c1]; exact Or.inl rfl
    rw [if_neg c1]
    by_cases c2 : σ.1 19 i ≤ σ.1 17 i + 1
    · rw [if_pos c2]; exact Or.inl rfl
    rw [if_neg c2]
    by_cases c3 : ¬ uI σ.1 17 i (σ.1 17 i + 1) 17 i + 1 = uI σ.1 17 i (σ.1 17 i + 1) 19 i
    · rw [if_pos c3]; exact Or.inl rfl
    rw [if_neg c3]
    by_cases e : o = i
    · exact Or.inr ⟨by rw [e]; exact Decidable.not_not.mp c1, if_pos ⟨rfl, e⟩⟩
    · exact Or.inl (if_neg (fun z => e z.2))
  have hJ : (sf_mm i σ).2 3 0 = σ.2 3 0 := by
    unfold sf_mm
    repeat' split
    all_goals first | rfl | exact write_3 _ _ _ _
  have hN : ∀ j, (pn_b i τ).2 4 j = τ.2 4 j := fun j => by
    unfold pn_b
    split
    · rfl
    · exact owe_4 τ.2 2 (tn (τ.1 20 (12 * i + (hw_pl τ.1 i + 1)))) (tn (τ.1 20 (12 * i + hw_pl τ.1 i))) (-τ.1 21 (12 * i + hw_pl τ.1 i)).toInt64 j (by decide)
  refine ⟨hm, fun c hc => ?_, h3.congr (fun g j hg => sf_mm_ne (by omega) (by omega) j) (fun o ho => ?_), h4.congr (fun o ho => ⟨sf_mm_ne (by decide) (by decide) _, sf_mm_ne (by decide) (by decide) _, ?_⟩) (fun c hc => ⟨sf_mm_ne (by decide) (by decide) _, sf_mm_ne (by decide) (by decide) _⟩) hN, by rw [hJ, hN]; exact h5⟩
  · rw [nb_oth (by decide) (by decide), sf_mm_ne (by decide) (by decide)]; exact h2 c hc
  · rcases hst o with e | ⟨_, e⟩
    · rw [e]; exact h3.2 o ho
    · exact ⟨1, by omega, e⟩
  · rcases hst o with e | ⟨e0, e⟩
    · exact stn e
    · exact stx e0 e (by decide)
theorem sb_RH {nb no nc i : Nat} {σ τ : MI × MJ} (hi : i < no) (h : RH nb no nc σ τ) : RH nb no nc (sf_sb i σ) (pn_c i τ) := by
  obtain ⟨h1, h2, h3, h4, h5⟩ := h
  have hm := sb_same hi h1 h3
  have hst : ∀ o, (sf_sb i σ).1 16 o = σ.1 16 o ∨ ((σ.1 16 o = 0 ∨ σ.1 16 o = 1) ∧ ((sf_sb i σ).1 16 o = 3 ∨ (sf_sb i σ).1 16 o = 5)) := fun o => by
    unfold sf_sb
    by_cases c1 : hb (σ.1 16 i = 0 ∨ σ.1 16 i = 1) = 0
    · rw [if_pos c1]; exact Or.inl rfl
    rw [if_neg c1]
    by_cases c2 : σ.1 3 0 < σ.1 15 i + 240
    · rw [if_pos c2]; exact Or.inl rfl
    rw [if_neg c2]
    by_cases e : o = i
    · subst e
      refine Or.inr ⟨?_, ?_⟩
      · by_cases q : σ.1 16 o = 0 ∨ σ.1 16 o = 1
        · exact q
        · exact absurd (hb_f q) c1
      · show sp_ef σ.1 o 16 o = 3 ∨ sp_ef σ.1 o 16 o = 5
        have e : sp_ef σ.1 o 16 o = (if ¬ σ.1 7 (σ.1 20 (12 * o + 0)).toNatClampNeg = 2 then 3 else 5) := if_pos ⟨rfl, rfl⟩
        rw [e]
        split
        · exact Or.inl rfl
        · exact Or.inr rfl
    · exact Or.inl (if_neg (fun z => e z.2))
  have hJ : (sf_sb i σ).2 3 0 = σ.2 3 0 := by
    unfold sf_sb
    repeat' split
    all_goals first | rfl | exact tbs_3 _ _ _ _ _
  have hN : ∀ j, (pn_c i τ).2 4 j = τ.2 4 j := fun j => by
    unfold pn_c
    repeat' split
    all_goals first | rfl | exact tbs_4 _ _ _ _ _ _
  refine ⟨hm, fun c hc => ?_, h3.congr (fun g j hg => sf_sb_ne (by omega) j) (fun o ho => ?_), h4.congr (fun o ho => ⟨sf_sb_ne (by decide) _, sf_sb_ne (by decide) _, ?_⟩) (fun c hc => ⟨sf_sb_ne (by decide) _, sf_sb_ne (by decide) _⟩) hN, by rw [hJ, hN]; exact h5⟩
  · rw [nc_oth (by decide), sf_sb_ne (by decide)]; exact h2 c hc
  · rcases hst o with e | ⟨_, e | e⟩
    · rw [e]; exact h3.2 o ho
    · exact ⟨3, by omega, e⟩
    · exact ⟨5, by omega, e⟩
  · rcases hst o with e | ⟨e0 | e0, e | e⟩
    · exact stn e
    · exact stx e0 e (by decide)
    · exact stx e0 e (by decide)
    · exact stx e0 e (by decide)
    · exact stx e0 e (by decide)
theorem rc_RH {nb no nc i : Nat} {σ τ : MI × MJ} (hi : i < nc) (h : RH nb no nc σ τ) : RH nb no nc (sf_rc i σ) (pf_ca i τ) := by
  obtain ⟨h1, h2, h3, h4, h5⟩ := h
  obtain ⟨a1, a2⟩ := rc_same hi h1 h2
  have hJ : (sf_rc i σ).2 3 0 = σ.2 3 0 := by
    unfold sf_rc
    repeat' split
    all_goals first | rfl | (refine (write_3 _ _ _ _).trans ((write_3 _ _ _ _).trans ((change_3 _ _ _ _).trans ?_)); exact if_neg (fun z => absurd z.1 (by decide)))
  have hN : ∀ j, (pf_ca i τ).2 4 j = τ.2 4 j := fun j => by
    unfold pf_ca
    repeat' split
    all_goals first | rfl | (refine (both_4 _ _ _ _ _).trans ?_; exact if_neg (fun z => absurd z.1 (by decide)))
  refine ⟨a1, a2, h3.congr (fun g j hg => sf_rc_ne (by omega) j) (fun o ho => by rw [sf_rc_ne (by decide)]; exact h3.2 o ho), h4.congr (fun o ho => ⟨sf_rc_ne (by decide) _, sf_rc_ne (by decide) _, stn (sf_rc_ne (by decide) _)⟩) (fun c hc => ⟨sf_rc_ne (by decide) _, sf_rc_ne (by decide) _⟩) hN, by rw [hJ, hN]; exact h5⟩
