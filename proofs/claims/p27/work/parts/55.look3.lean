/-! looking anew, on both sides: the way back, the way that is laid -/
theorem fws_N {P : MI} {N : MJ} {x am mk : Int32} {nb g j : Nat} (h : g ≠ 5) : (ps_fws P N x am mk nb).2 g j = N g j := by
  have e0 : ∀ i (σ : MI × MJ), (pf_f0 x am mk i σ).2 g j = σ.2 g j := fun i σ => if_neg (fun z => h z.1)
  have e1 : ∀ i c (σ : MI × MJ), (pf_rx x am mk i c σ).2 g j = σ.2 g j := fun i c σ => by
    unfold pf_rx pf_up
    repeat' split
    all_goals first | rfl | exact if_neg (fun z => h z.1)
  unfold ps_fws
  refine lp_inv (pf_r3 x am mk nb) (fun _ τ => τ.2 g j = N g j) nb (fun _ τ _ hs => ?_) nb 0 _ (by omega) (lp_inv (pf_f0 x am mk) (fun _ τ => τ.2 g j = N g j) nb (fun i τ _ hs => (e0 i τ).trans hs) nb 0 _ (by omega) rfl)
  refine lp_inv (pf_r2 x am mk nb) (fun _ τ => τ.2 g j = N g j) nb (fun a τ _ hs => ?_) nb 0 _ (by omega) hs
  exact lp_inv (pf_rx x am mk a) (fun _ τ => τ.2 g j = N g j) nb (fun c τ _ hs => (e1 a c τ).trans hs) nb 0 _ (by omega) hs
theorem bk_ints (P : MI) (N : MJ) (i q : Nat) : (∀ g j, (pg_bk P N i q).1 g j = sp_ef P i g j) ∧ (pg_bk P N i q).2 = lp (pf_tb P i) q 0 N := by
  refine ⟨fun g j => ?_, ?_⟩
  · show uI (sp_ef (uI P 19 i (nI (q + 1))) i) 19 i (P 19 i) g j = _
    rw [uI_at]
    by_cases c : g = 19 ∧ j = i
    · rw [if_pos c, c.1, c.2]
      exact (sp_ef_ne (by decide) i).symm
    · rw [if_neg c]
      unfold sp_ef
      by_cases d : g = 16 ∧ j = i
      · exact (if_pos d).trans (if_pos d).symm
      · exact (if_neg d).trans ((if_neg c).trans (if_neg d).symm)
  · show lp (pf_tb (uI P 19 i (nI (q + 1))) i) (q - 0) 0 N = _
    rw [Nat.sub_zero]
    exact lp_fun (fun k s => rfl) q 0 N
/-- the brokers of the ways are there -/
def hw_wb (I : MI) (no nb : Nat) : Prop := ∀ o, o < no → ∀ k, k ≤ hw_ln I o → hw_at I o k < nb
theorem hw_wb.congr {I I' : MI} {no nb : Nat} (h : hw_wb I no nb) (hos : hw_os I no) (h1 : ∀ o, o < no → I' 19 o = I 19 o ∧ ∀ k, k < 12 → I' 20 (12 * o + k) = I 20 (12 * o + k)) : hw_wb I' no nb := fun o ho k hk => by
  obtain ⟨a, b⟩ := h1 o ho
  have e : hw_ln I' o = hw_ln I o := by unfold hw_ln; rw [a]
  rw [e] at hk
  have := (hos o ho).1.1
  unfold hw_at
  rw [b k (by omega)]
  exact h o ho k hk
theorem bk_RH {I P K Q : MI} {J N J' N' : MJ} {nb no nc i q : Nat} (h : RH nb no nc (I, J) (P, N)) (hi : i < no) (h0 : I 16 i ≠ 2 ∧ I 16 i ≠ 4) (hK : ∀ g j, ¬ (31 ≤ g ∧ g ≤ 39) → K g j = I g j) (hQ : ∀ g j, g ≠ 42 → g ≠ 43 → Q g j = P g j) (hj : jr J' N') (h4 : ∀ j, N' 4 j = N 4 j) (h3 : J' 3 0 = J 3 0) (hq : q ≤ hw_ln I i) : RH nb no nc (sp_bk K J' i q) (pg_bk Q N' i q) := by
  obtain ⟨⟨r1, r2, r3, r4⟩, hv, hh1, hs, hz⟩ := h
  have rK : ri K Q := fun g j hg => by
    rw [hQ g j (by unfold shd at hg; omega) (by unfold shd at hg; omega), hK g j (by unfold shd at hg; omega)]
    exact r1 g j hg
  have sK : rs K Q no := r2.congr (fun j => hK 19 j (by decide)) (fun j => hK 21 j (by decide)) (fun j => hQ 21 j (by decide) (by decide))
  obtain ⟨b1, b2⟩ := bk_ints Q N' i q
  have eK : ∀ g j, g ≠ 16 → ¬ (31 ≤ g ∧ g ≤ 39) → sp_ef K i g j = I g j := fun g j h1 h2 => (sp_ef_ne h1 j).trans (hK g j h2)
  have eQ : ∀ g j, g ≠ 16 → g ≠ 42 → g ≠ 43 → (pg_bk Q N' i q).1 g j = P g j := fun g j h1 h2 h3 => (b1 g j).trans ((sp_ef_ne h1 j).trans (hQ g j h2 h3))
  have e16 : ∀ o, o ≠ i → sp_ef K i 16 o = I 16 o := fun o ho => (if_neg (fun z => ho z.2)).trans (hK 16 o (by decide))
  have x16 : sp_ef K i 16 i = 3 ∨ sp_ef K i 16 i = 5 := by
    have e : sp_ef K i 16 i = (if ¬ K 7 (K 20 (12 * i + 0)).toNatClampNeg = 2 then 3 else 5) := if_pos ⟨rfl, rfl⟩
    rw [e]
    split
    · exact Or.inl rfl
    · exact Or.inr rfl
  have eln : hw_ln K i = hw_ln I i := by unfold hw_ln; rw [hK 19 i (by decide)]
  refine ⟨⟨fun g j hg => (b1 g j).trans (ef_same rK g j hg), sK.congr (I' := sp_ef K i) (fun j => sp_ef_ne (g := 19) (by decide) j) (fun j => sp_ef_ne (g := 21) (by decide) j) (fun j => (b1 21 j).trans (sp_ef_ne (g := 21) (by decide) j)), ?_, ?_⟩, fun c hc => ?_, hh1.congr (fun g j hg => eK g j (by omega) (by omega)) (fun o ho => ?_), hs.congr (fun o ho => ⟨eK 12 o (by decide) (by decide), eK 14 o (by decide) (by decide), ?_⟩) (fun c hc => ⟨eK 24 c (by decide) (by decide), eK 27 c (by decide) (by decide)⟩) (fun j => ?_), ?_⟩
  · show jr (lp (sf_tb K i) q 0 J') (pg_bk Q N' i q).2
    rw [b2]
    exact tbs_same rK sK hi (by omega) hj
  · refine (r4.congr (P' := Q) (fun g j hg => hQ g j (by omega) (by omega))).how (i := i) (fun g j hg => ?_) ?_
    · rw [b1]
      by_cases c : g = 16
      · subst c; exact if_neg (fun z => by omega)
      · exact sp_ef_ne c j
    · rw [b1]; exact ef_nz Q i
  · show (pg_bk Q N' i q).1 41 c = if sp_ef K i 26 c = 0 then 1 else 0
    rw [eQ 41 c (by decide) (by decide) (by decide), eK 26 c (by decide) (by decide)]
    exact hv c hc
  · by_cases c : o = i
    · subst c
      rcases x16 with e | e
      · exact ⟨3, by omega, e⟩
      · exact ⟨5, by omega, e⟩
    · obtain ⟨s, s1, s2⟩ := hh1.2 o ho
      exact ⟨s, s1, (e16 o c).trans s2⟩
  · by_cases c : o = i
    · subst c
      rcases x16 with e | e
      · exact stx rfl e ⟨h0.1, h0.2, by decide, by decide⟩
      · exact stx rfl e ⟨h0.1, h0.2, by decide, by decide⟩
    · exact stn (e16 o c)
  · show (pg_bk Q N' i q).2 4 j = N 4 j
    rw [b2, tbs_4]
    exact h4 j
  · show lp (sf_tb K i) q 0 J' 3 0 = (pg_bk Q N' i q).2 4 4
    rw [b2, tbs_4, tbs_3, h3, h4]
    exact hz
theorem la_3 (I : MI) (i k : Nat) (J : MJ) : sf_la I i k J 3 0 = J 3 0 := by
  unfold sf_la
  rw [write_3, change_3]
theorem las_3 (I : MI) (i n q : Nat) (J : MJ) : lp (sf_la I i) n q J 3 0 = J 3 0 := lp_inv (sf_la I i) (fun _ σ => σ 3 0 = J 3 0) (q + n) (fun k σ _ hs => (la_3 I i k σ).trans hs) n q J rfl rfl
theorem lay_RH {I P K Q : MI} {J N J' N' : MJ} {nb no nc i n m : Nat} {p : Nat → Nat} (h : RH nb no nc (I, J) (P, N)) (hos : hw_os I no) (hos2 : hw_os (sp_take K i (hw_pl I i) (n + 1)) no) (hi : i < no) (hK : ∀ g j, ¬ (31 ≤ g ∧ g ≤ 39) → K g j = I g j) (hQ : ∀ g j, g ≠ 42 → g ≠ 43 → Q g j = P g j) (hj : jr J' N') (h4 : ∀ j, N' 4 j = N 4 j) (h3 : J' 3 0 = J 3 0)
    (h37 : K 37 0 = nI (n + 1)) (hn1 : 1 ≤ n) (hqn : hw_pl I i + n < 12) (h12 : I 12 i = nI m) (hm : m ≤ 1000000)
    (hp : ∀ k, k ≤ n → p k < 12 ∧ K 36 k = nI (p k) ∧ Q 43 k = nI (p k) ∧ ∃ f : Nat, f ≤ 1300000 ∧ K 34 (p k) = nI f ∧ (N' 5 (p k)).toInt = f) :
    RH nb no nc (sp_take K i (hw_pl I i) (n + 1), lp (sf_la (sp_take K i (hw_pl I i) (n + 1)) i) n (hw_pl I i) J') (ps_lay Q N' i (hw_pl I i) n) := by
  obtain ⟨⟨r1, r2, r3, r4⟩, hv, hh1, hs, hz⟩ := h
  have rK : ri K Q := fun g j hg => by
    rw [hQ g j (by unfold shd at hg; omega) (by unfold shd at hg; omega), hK g j (by unfold shd at hg; omega)]
    exact r1 g j hg
  have hor := hos i hi
  have hpl := hor.2.2.1
  have hle := hor.2.2.2
  obtain ⟨a1, a2, a3, a4, a5⟩ := lay_same rK hj h37 hqn ((hK 12 i (by decide)).trans h12) hm ((hK 17 i (by decide)).trans hpl) hp
  generalize hT : sp_take K i (hw_pl I i) (n + 1) = T at a1 a2 a4 hos2 ⊢
  generalize ps_lay Q N' i (hw_pl I i) n = L at a1 a2 a3 a4 a5 ⊢
  have eT : ∀ g j, g ≠ 19 → g ≠ 20 → g ≠ 21 → ¬ (31 ≤ g ∧ g ≤ 39) → T g j = I g j := fun g j h1 h2 h3 h4 => by
    rw [← hT]; exact (take_ne h1 h2 h3 j).trans (hK g j h4)
  have eL : ∀ g j, g ≠ 19 → g ≠ 20 → g ≠ 21 → g ≠ 42 → g ≠ 43 → L.1 g j = P g j := fun g j h1 h2 h3 h4 h5 => (a3 g j (fun z => h1 z.1) (fun z => by omega)).trans (hQ g j h4 h5)
  have t19 : T 19 i = nI (hw_pl I i + (n + 1)) := by rw [← hT]; exact take_19 K i _ (n + 1)
  have tln : hw_ln T i = hw_pl I i + n := by unfold hw_ln; rw [t19, nI_clamp (by omega)]; omega
  have to : ∀ g j, (g = 19 ∨ g = 20 ∨ g = 21) → ¬ (g = 19 ∧ j = i) → ¬ ((g = 20 ∨ g = 21) ∧ 12 * i + hw_pl I i ≤ j ∧ j < 12 * i + (hw_pl I i + (n + 1))) → T g j = I g j ∧ L.1 g j = P g j := fun g j h0 h1 h2 => by
    refine ⟨?_, (a3 g j h1 h2).trans (hQ g j (by omega) (by omega))⟩
    rw [← hT]
    exact (take_oth h1 (fun z => h2 ⟨z.1, z.2.1, by omega⟩)).trans (hK g j (by omega))
  have hno : ∀ o, o ≠ i → hw_ln T o = hw_ln I o := fun o ho => by unfold hw_ln; rw [(to 19 o (by omega) (fun z => ho z.2) (fun z => by omega)).1]
  have epl : ∀ o, hw_pl L.1 o = hw_pl I o := fun o => by
    unfold hw_pl
    rw [eL 17 o (by decide) (by decide) (by decide) (by decide) (by decide)]
    exact congrArg Int32.toNatClampNeg (r1 17 o (by unfold shd; omega))
  have eln : ∀ o, hw_ln L.1 o = hw_ln T o := fun o => by unfold hw_ln; rw [a1 19 o (by unfold shd; omega)]
  refine ⟨⟨a1, fun o ho k hk => ?_, a4, ?_⟩, fun c hc => ?_, hh1.congr (fun g j hg => eT g j (by omega) (by omega) (by omega) (by omega)) (fun o ho => ?_), hs.congr (fun o ho => ⟨eT 12 o (by decide) (by decide) (by decide) (by decide), eT 14 o (by decide) (by decide) (by decide) (by decide), stn (eT 16 o (by decide) (by decide) (by decide) (by decide))⟩) (fun c hc => ⟨eT 24 c (by decide) (by decide) (by decide) (by decide), eT 27 c (by decide) (by decide) (by decide) (by decide)⟩) (fun j => ?_), ?_⟩
  · show L.1 21 (12 * o + k) = T 21 (12 * o + k) ∧ ∃ m : Nat, m ≤ 2300000 ∧ T 21 (12 * o + k) = nI m
    have hk9 : k < hw_ln T o := hk
    by_cases c : o = i
    · subst c
      rw [tln] at hk9
      rcases Nat.lt_or_ge k (hw_pl I o) with z | z
      · obtain ⟨b1, b2⟩ := to 21 (12 * o + k) (by omega) (fun z => absurd z.1 (by decide)) (fun z => by omega)
        rw [b1, b2]
        exact r2 o hi k (by show k < hw_ln I o; omega)
      · have := a2 (k - hw_pl I o) (by omega)
        rw [show hw_pl I o + (k - hw_pl I o) = k by omega] at this
        exact this
    · have h11 := (hos o ho).1.1
      rw [hno o c] at hk9
      obtain ⟨b1, b2⟩ := to 21 (12 * o + k) (by omega) (fun z => absurd z.1 (by decide)) (fun z => by omega)
      rw [b1, b2]
      exact r2 o ho k hk9
  · obtain ⟨p1, p2, p3, p4, p5, p6⟩ := r4
    have e0 : ∀ g j, (g = 0 ∨ g = 1 ∨ g = 2 ∨ g = 16 ∨ g = 22 ∨ g = 23) → L.1 g j = P g j := fun g j hg => eL g j (by omega) (by omega) (by omega) (by omega) (by omega)
    refine ⟨⟨(e0 0 0 (by omega)).trans p1.1, p1.2⟩, ⟨(e0 1 0 (by omega)).trans p2.1, p2.2⟩, ⟨(e0 2 0 (by omega)).trans p3.1, p3.2⟩, hos2.congr (fun g j hg => a1 g j (by unfold shd; omega)), p5.congr (fun g j hg => e0 g j (by omega)), fun o ho hg => ?_⟩
    have hlt := p6 o ho ((e0 16 o (by omega)).symm.trans hg)
    rw [epl, eln]
    by_cases c : o = i
    · subst c; rw [tln]; omega
    · rw [hno o c, ← pl_eq r1 o, ← ln_eq r1 o]
      exact hlt
  · show L.1 41 c = if T 26 c = 0 then 1 else 0
    rw [eL 41 c (by decide) (by decide) (by decide) (by decide) (by decide), eT 26 c (by decide) (by decide) (by decide) (by decide)]
    exact hv c hc
  · obtain ⟨s, s1, s2⟩ := hh1.2 o ho
    exact ⟨s, s1, (eT 16 o (by decide) (by decide) (by decide) (by decide)).trans s2⟩
  · show L.2 4 j = N 4 j
    rw [a5]; exact h4 j
  · show lp (sf_la T i) n (hw_pl I i) J' 3 0 = L.2 4 4
    rw [a5, las_3, h3, h4]
    exact hz
