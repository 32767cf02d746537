/-! the ghost: money that is kept, orders that are here, whom couriers go to -/
def SM (f : Nat → Int64) (n : Nat) : Int64 := lp (fun i s => s + f i) n 0 0
theorem SM_s (f : Nat → Int64) (n : Nat) : SM f (n + 1) = SM f n + f n := by
  unfold SM
  rw [lp_last]
  show lp (fun i s => s + f i) n 0 0 + f (0 + n) = _
  rw [Nat.zero_add]
theorem SM_congr {f g : Nat → Int64} (n : Nat) (h : ∀ i, i < n → f i = g i) : SM f n = SM g n := by
  induction n with
  | zero => rfl
  | succ n ih => rw [SM_s, SM_s, ih (fun i hi => h i (by omega)), h n (by omega)]
theorem SM_u {f g : Nat → Int64} {i : Nat} (n : Nat) (hi : i < n) (h : ∀ j, j ≠ i → g j = f j) : SM g n = SM f n - f i + g i := by
  induction n with
  | zero => omega
  | succ n ih =>
    rw [SM_s, SM_s]
    by_cases e : i = n
    · subst e
      rw [SM_congr i (fun j hj => h j (by omega))]
      grind
    · rw [ih (by omega), h n (fun z => e z.symm)]
      grind
def oR (P : MI) (c : Nat) : Int64 := if P 41 c = 0 then (P 24 c).toInt64 else 0
theorem oR_c {P P' : MI} {c : Nat} (h41 : P' 41 c = P 41 c) (h24 : P' 24 c = P 24 c) : oR P' c = oR P c := by unfold oR; rw [h41, h24]
theorem sO_eq (P : MI) (nc : Nat) : lp (pf_so P) nc 0 0 = SM (oR P) nc := lp_fun (fun k s => by unfold pf_so oR; split <;> rfl) nc 0 0
theorem sC_eq (N : MJ) (nb : Nat) : lp (pf_sc N) nb 0 0 = SM (N 0) nb := rfl
/-- the cash that was told with brokers, by what came and went -/
def gm (nb nc : Nat) (P : MI) (N : MJ) : Int64 := SM (N 0) nb - N 4 0 + N 4 1 + N 4 2 + N 4 3 + N 4 4 + SM (oR P) nc
def GI (nb no nc : Nat) (P : MI) : Prop := (∀ o, o < no → P 16 o = 1 → hw_pl P o = hw_ln P o) ∧ (∀ c, c < nc → tn (P 23 c) < nb) ∧ ∀ o, o < no → P 12 o ≤ P 14 o
def GE (nb no nc : Nat) (σ τ : MI × MJ) : Prop := GI nb no nc σ.1 → (GI nb no nc τ.1 ∧ gm nb nc τ.1 τ.2 = gm nb nc σ.1 σ.2)
theorem GE.rf (nb no nc : Nat) (σ : MI × MJ) : GE nb no nc σ σ := fun h => ⟨h, rfl⟩
theorem GE.tr {nb no nc : Nat} {σ τ υ : MI × MJ} (h : GE nb no nc σ τ) (h' : GE nb no nc τ υ) : GE nb no nc σ υ := fun g => ⟨(h' (h g).1).1, ((h' (h g).1).2).trans (h g).2⟩
def kN (N N' : MJ) : Prop := ∀ g j, (g = 0 ∨ g = 4) → N' g j = N g j
theorem kN.rf (N : MJ) : kN N N := fun _ _ _ => rfl
theorem kN.tr {N N' N'' : MJ} (h : kN N N') (h' : kN N' N'') : kN N N'' := fun g j hg => (h' g j hg).trans (h g j hg)
theorem u_ne {P : MI} {g n g' j : Nat} {v : Int32} (h : g' ≠ g) : uI P g n v g' j = P g' j := if_neg (fun z => h z.1)
theorem GE.of {nb no nc : Nat} {σ τ : MI × MJ} (h16 : ∀ o, o < no → τ.1 16 o = 1 → σ.1 16 o = 1 ∧ τ.1 17 o = σ.1 17 o ∧ τ.1 19 o = σ.1 19 o) (h23 : ∀ g j, (g = 12 ∨ g = 14 ∨ g = 23 ∨ g = 24 ∨ g = 41) → τ.1 g j = σ.1 g j) (hN : kN σ.2 τ.2) : GE nb no nc σ τ := fun h => ⟨⟨fun o ho h1 => by
  obtain ⟨a, b, d⟩ := h16 o ho h1
  have e1 : hw_pl τ.1 o = hw_pl σ.1 o := by unfold hw_pl; rw [b]
  have e2 : hw_ln τ.1 o = hw_ln σ.1 o := by unfold hw_ln; rw [d]
  rw [e1, e2]
  exact h.1 o ho a, fun q hq => by rw [h23 23 q (by omega)]; exact h.2.1 q hq, fun o ho => by rw [h23 12 o (by omega), h23 14 o (by omega)]; exact h.2.2 o ho⟩, by
  have e1 : SM (τ.2 0) nb = SM (σ.2 0) nb := SM_congr nb (fun i _ => hN 0 i (by omega))
  have e2 : SM (oR τ.1) nc = SM (oR σ.1) nc := SM_congr nc (fun i _ => by unfold oR; rw [h23 41 i (by omega), h23 24 i (by omega)])
  unfold gm
  rw [e1, e2, hN 4 0 (by omega), hN 4 1 (by omega), hN 4 2 (by omega), hN 4 3 (by omega), hN 4 4 (by omega)]⟩
theorem GE.same {nb no nc : Nat} {σ τ : MI × MJ} (hP : ∀ g j, (g = 12 ∨ g = 14 ∨ g = 16 ∨ g = 17 ∨ g = 19 ∨ g = 23 ∨ g = 24 ∨ g = 41) → τ.1 g j = σ.1 g j) (hN : kN σ.2 τ.2) : GE nb no nc σ τ := GE.of (fun o _ h1 => ⟨by rw [← hP 16 o (by omega)]; exact h1, hP 17 o (by omega), hP 19 o (by omega)⟩) (fun g j hg => hP g j (by omega)) hN
theorem ge_th {nb no nc : Nat} (P : MI) (N : MJ) (v : Int32) : GE nb no nc (P, N) (uI P 40 0 v, N) := GE.same (fun g j hg => u_ne (by omega)) (kN.rf N)
/-! debts alone -/
theorem kN_owe {N : MJ} {g a b : Nat} {x : Int64} (hg : g = 1 ∨ g = 2) : kN N (pf_owe N g a b x) := fun g' j h => if_neg (by omega)
theorem kN_on (P : MI) (N : MJ) (i k : Nat) (z : Int32) : kN N (ps_on P N i k z) := by
  unfold ps_on
  dsimp only
  split
  · exact ((kN_owe (Or.inl rfl)).tr (kN_owe (Or.inl rfl))).tr (kN_owe (Or.inr rfl))
  · exact (((kN_owe (Or.inl rfl)).tr (kN_owe (Or.inl rfl))).tr (kN_owe (Or.inr rfl))).tr (kN_owe (Or.inr rfl))
theorem kN_tb (P : MI) (N : MJ) (i n q : Nat) : kN N (lp (pf_tb P i) n q N) := lp_inv (pf_tb P i) (fun _ σ => kN N σ) (q + n) (fun k σ _ hs => hs.tr (kN_on P σ i k (-1))) n q N rfl (kN.rf N)
theorem kN_both (N : MJ) (a b : Nat) (x : Int64) : kN N (ps_both N a b x) := (((kN_owe (Or.inl rfl)).tr (kN_owe (Or.inl rfl))).tr (kN_owe (Or.inr rfl))).tr (kN_owe (Or.inr rfl))
theorem kN_lay (P : MI) (N : MJ) (i q w : Nat) : kN N (ps_lay P N i q w).2 := lp_inv (pf_l2 i q) (fun _ σ => kN N σ.2) w (fun k σ _ hs => hs.tr (kN_on _ _ i (q + k) 1)) w 0 (lp (pf_l1 i q) (w + 1) 0 (uI P 19 i (nI (q + (w + 1)))), N) (by omega) (kN.rf N)
theorem kN_fws (P : MI) (N : MJ) (x am mk : Int32) (nb : Nat) : kN N (ps_fws P N x am mk nb).2 := fun g j hg => fws_N (by omega)
theorem kN_clr (N : MJ) (a b d : Nat) : kN N (ps_clr N a b d).2 := by
  have e : ∀ x : Int64, kN N (pc_fin N a b d x).2 := fun x => by
    unfold pc_fin
    split
    · exact ((kN_both N a b (-x)).tr (kN_both _ b d (-x))).tr (kN_both _ d a (-x))
    · exact kN.rf N
  unfold ps_clr
  repeat' split
  all_goals exact e _
theorem kN_ring (N : MJ) (nb : Nat) : kN N (ps_ring N nb).2 := by
  refine lp_inv (pf_r3' nb) (fun _ σ => kN N σ.2) nb (fun a σ _ hs => ?_) nb 0 (0, N) (by omega) (kN.rf N)
  refine lp_inv (pf_r2' nb a) (fun _ σ => kN N σ.2) nb (fun b σ _ hs => ?_) nb 0 σ (by omega) hs
  refine lp_inv (pf_r1 a b) (fun _ σ => kN N σ.2) nb (fun d σ _ hs => ?_) nb 0 σ (by omega) hs
  unfold pf_r1
  repeat' split
  · exact hs
  · exact hs
  · exact hs
  · exact hs.tr (kN_clr σ.2 a b d)
/-! an order's state becomes one that is not HERE -/
theorem ef_n1 (P : MI) (i : Nat) : ¬ sp_ef P i 16 i = 1 := by
  have : sp_ef P i 16 i = (if ¬ P 7 (P 20 (12 * i + 0)).toNatClampNeg = 2 then 3 else 5) := if_pos ⟨rfl, rfl⟩
  rw [this]
  split <;> decide
theorem ef_oth {P : MI} {i g j : Nat} (h : ¬ (g = 16 ∧ j = i)) : sp_ef P i g j = P g j := if_neg h
theorem ge_ef {nb no nc : Nat} (P : MI) (N N' : MJ) (i : Nat) (hN : kN N N') : GE nb no nc (P, N) (sp_ef P i, N') := GE.of (fun o ho h1 => by
  have h1' : sp_ef P i 16 o = 1 := h1
  by_cases e : o = i
  · subst e; exact absurd h1' (ef_n1 P o)
  · rw [ef_oth (by omega)] at h1'
    exact ⟨h1', (ef_oth (by omega) : sp_ef P i 17 o = P 17 o), (ef_oth (by omega) : sp_ef P i 19 o = P 19 o)⟩) (fun g j hg => (ef_oth (by omega) : sp_ef P i g j = P g j)) hN
theorem ge_16 {nb no nc : Nat} (P : MI) (N N' : MJ) (i : Nat) (v : Int32) (hv : ¬ v = 1) (hN : kN N N') : GE nb no nc (P, N) (uI P 16 i v, N') := GE.of (fun o ho h1 => by
  have h1' : uI P 16 i v 16 o = 1 := h1
  by_cases e : o = i
  · subst e
    rw [uI_at, if_pos ⟨rfl, rfl⟩] at h1'
    exact absurd h1' hv
  · rw [uI_at, if_neg (by omega)] at h1'
    exact ⟨h1', (u_ne (by omega) : uI P 16 i v 17 o = P 17 o), (u_ne (by omega) : uI P 16 i v 19 o = P 19 o)⟩) (fun g j hg => (u_ne (by omega) : uI P 16 i v g j = P g j)) hN
/-! going elsewhere -/
theorem lay_19 {P : MI} {N : MJ} {i q w j : Nat} (h : j ≠ i) : (ps_lay P N i q w).1 19 j = P 19 j := by
  have e := lp_inv (pf_l2 i q) (fun _ σ => σ.1 19 j = lp (pf_l1 i q) (w + 1) 0 (uI P 19 i (nI (q + (w + 1)))) 19 j) w (fun k σ _ hs => (show (pf_l2 i q k σ).1 19 j = σ.1 19 j from by
    unfold pf_l2
    dsimp only
    exact u_ne (by decide)).trans hs) w 0 (lp (pf_l1 i q) (w + 1) 0 (uI P 19 i (nI (q + (w + 1)))), N) (by omega) rfl
  refine e.trans ((l1_oth (w + 1) (by omega)).trans ?_)
  rw [uI_at, if_neg (by omega)]
theorem ge_bk {nb no nc : Nat} (P : MI) (N : MJ) (i q : Nat) : GE nb no nc (P, N) (pg_bk P N i q) := by
  obtain ⟨b1, b2⟩ := bk_ints P N i q
  refine GE.of (fun o ho h1 => ?_) (fun g j hg => (b1 g j).trans (ef_oth (by omega))) (by rw [b2]; exact kN_tb P N i q 0)
  rw [b1] at h1
  by_cases e : o = i
  · subst e; exact absurd h1 (ef_n1 P o)
  · rw [ef_oth (by omega)] at h1
    exact ⟨h1, (b1 17 o).trans (ef_oth (by omega)), (b1 19 o).trans (ef_oth (by omega))⟩
theorem ge_lay {nb no nc : Nat} (P : MI) (N : MJ) (i q w : Nat) (h0 : P 16 i = 0) : GE nb no nc (P, N) (ps_lay P N i q w) := by
  have o : ∀ g j, g ≠ 19 → g ≠ 20 → g ≠ 21 → (ps_lay P N i q w).1 g j = P g j := fun g j a b d => lay_oth a b d
  refine GE.of (fun o' ho h1 => ?_) (fun g j hg => o g j (by omega) (by omega) (by omega)) (kN_lay P N i q w)
  rw [o 16 o' (by decide) (by decide) (by decide)] at h1
  by_cases e : o' = i
  · subst e
    exact absurd (h1.symm.trans h0) (by decide)
  · exact ⟨h1, o 17 o' (by decide) (by decide) (by decide), lay_19 e⟩
theorem ge_go {nb no nc : Nat} (P : MI) (N : MJ) (i : Nat) (h0 : P 16 i = 0) : GE nb no nc (P, N) (pg_go P N i nb) := by
  have eN : kN N (pg_W P N i nb).2 := (kN_tb P N i _ _).tr (kN_fws _ _ _ _ _ _)
  have gW : GE nb no nc (P, N) ((pg_W P N i nb).1, (pg_W P N i nb).2) := GE.same (fun g j hg => fws_oth (by omega)) eN
  have gK : GE nb no nc (P, N) (pg_K P N i nb, (pg_W P N i nb).2) := GE.same (fun g j hg => pg_K_oth (by omega) (by omega)) eN
  unfold pg_go
  split
  · exact gW.tr (ge_bk _ _ _ _)
  · split
    · exact gK.tr (ge_bk _ _ _ _)
    · exact gK.tr (ge_lay _ _ _ _ _ ((pg_K_oth (by decide) (by decide)).trans h0))
theorem ge_ff {nb no nc : Nat} (P : MI) (N : MJ) (x : Int32) : GE nb no nc (P, N) (ps_ff P N x nb no) := lp_inv (pf_ff x nb) (fun _ σ => GE nb no nc (P, N) σ) no (fun i σ _ hs => by
  refine hs.tr ?_
  by_cases c1 : ¬ σ.1 16 i = 0
  · rw [ff_a c1]; exact GE.rf _ _ _ _
  · have c0 := Decidable.not_not.mp c1
    by_cases c2 : lp (pf_po σ.1 i x) (hw_ln σ.1 i + 1) 0 (-1) ≤ σ.1 17 i
    · rw [ff_b c0 c2]; exact GE.rf _ _ _ _
    · rw [ff_c c0 c2]; exact ge_go σ.1 σ.2 i c0) no 0 (P, N) (by omega) (GE.rf _ _ _ _)
theorem ge_bw {nb no nc : Nat} (P : MI) (N : MJ) (x : Int32) : GE nb no nc (P, N) ((pl_bw P N x no).1, (pl_bw P N x no).2.1) := by
  have h0 : GE nb no nc (P, N) (uI (uI P 40 0 0) 7 (tn x) 2, N) := GE.same (fun g j hg => (u_ne (by omega)).trans (u_ne (by omega))) (kN.rf N)
  refine h0.tr ?_
  exact lp_inv (pf_bw x) (fun _ σ => GE nb no nc (uI (uI P 40 0 0) 7 (tn x) 2, N) (σ.1, σ.2.1)) no (fun i σ _ hs => by
    refine hs.tr ?_
    unfold pf_bw
    repeat' split
    · exact GE.rf _ _ _ _
    · exact ge_16 σ.1 σ.2.1 _ i 5 (by decide) (kN_tb _ _ _ _ _)
    · exact GE.rf _ _ _ _
    · exact ge_16 σ.1 σ.2.1 _ i 5 (by decide) (kN.rf _)) no 0 (uI (uI P 40 0 0) 7 (tn x) 2, N, 0) (by omega) (GE.rf _ _ _ _)
/-! an hour -/
theorem ge_mv {nb no nc i : Nat} {σ : MI × MJ} (h : pv_iv σ.1 nb no nc) (hi : i < no) : GE nb no nc σ (pn_b i σ) := by
  unfold pn_b
  by_cases c1 : ¬ σ.1 16 i = 0
  · rw [if_pos c1]; exact GE.rf _ _ _ _
  · rw [if_neg c1]
    have hor := h.2.2.2.1 i hi
    have hn12 := hor.1.1
    have e17 : σ.1 17 i + 1 = nI (hw_pl σ.1 i + 1) := by rw [← nI_1, ← hor.2.2.1]
    have hpl := hor.2.2.2
    have o1 : ∀ g j, g ≠ 16 → g ≠ 17 → (ps_mv σ.1 σ.2 i (hw_pl σ.1 i) (hw_ln σ.1 i)).1 g j = σ.1 g j := fun g j q1 q2 => (u_ne q1).trans (u_ne q2)
    have o2 : ∀ g j, j ≠ i → (ps_mv σ.1 σ.2 i (hw_pl σ.1 i) (hw_ln σ.1 i)).1 g j = σ.1 g j := fun g j q => (if_neg (fun z => q z.2)).trans (if_neg (fun z => q z.2))
    have t17 : (ps_mv σ.1 σ.2 i (hw_pl σ.1 i) (hw_ln σ.1 i)).1 17 i = nI (hw_pl σ.1 i + 1) := by
      have : (ps_mv σ.1 σ.2 i (hw_pl σ.1 i) (hw_ln σ.1 i)).1 17 i = σ.1 17 i + 1 := by
        unfold ps_mv
        dsimp only
        rw [uI_at, if_neg (by omega), uI_at, if_pos ⟨rfl, rfl⟩]
      rw [this, e17]
    have t16 : (ps_mv σ.1 σ.2 i (hw_pl σ.1 i) (hw_ln σ.1 i)).1 16 i = (if ¬ σ.1 17 i + 1 = nI (hw_ln σ.1 i) then 0 else 1) := if_pos ⟨rfl, rfl⟩
    have hN : kN σ.2 (ps_mv σ.1 σ.2 i (hw_pl σ.1 i) (hw_ln σ.1 i)).2 := kN_owe (Or.inr rfl)
    intro hg
    have eN : SM ((ps_mv σ.1 σ.2 i (hw_pl σ.1 i) (hw_ln σ.1 i)).2 0) nb = SM (σ.2 0) nb := SM_congr nb (fun j _ => hN 0 j (by omega))
    have eR : SM (oR (ps_mv σ.1 σ.2 i (hw_pl σ.1 i) (hw_ln σ.1 i)).1) nc = SM (oR σ.1) nc := SM_congr nc (fun j _ => by unfold oR; rw [o1 41 j (by decide) (by decide), o1 24 j (by decide) (by decide)])
    refine ⟨⟨fun o ho h1 => ?_, fun q hq => ?_, fun o ho => by rw [o1 12 o (by decide) (by decide), o1 14 o (by decide) (by decide)]; exact hg.2.2 o ho⟩, ?_⟩
    · by_cases e : o = i
      · subst e
        rw [t16, e17] at h1
        by_cases q : nI (hw_pl σ.1 o + 1) = nI (hw_ln σ.1 o)
        · have e9 := (nI_eq (by omega) (by omega)).mp q
          have e8 : hw_pl (ps_mv σ.1 σ.2 o (hw_pl σ.1 o) (hw_ln σ.1 o)).1 o = hw_pl σ.1 o + 1 := by
            show ((ps_mv σ.1 σ.2 o (hw_pl σ.1 o) (hw_ln σ.1 o)).1 17 o).toNatClampNeg = _
            rw [t17]
            exact nI_clamp (by omega)
          have e7 : hw_ln (ps_mv σ.1 σ.2 o (hw_pl σ.1 o) (hw_ln σ.1 o)).1 o = hw_ln σ.1 o := by
            show ((ps_mv σ.1 σ.2 o (hw_pl σ.1 o) (hw_ln σ.1 o)).1 19 o).toNatClampNeg - 1 = (σ.1 19 o).toNatClampNeg - 1
            rw [o1 19 o (by decide) (by decide)]
          rw [e8, e7]; exact e9
        · rw [if_pos q] at h1; exact absurd h1 (by decide)
      · have e8 : hw_pl (ps_mv σ.1 σ.2 i (hw_pl σ.1 i) (hw_ln σ.1 i)).1 o = hw_pl σ.1 o := by
          show ((ps_mv σ.1 σ.2 i (hw_pl σ.1 i) (hw_ln σ.1 i)).1 17 o).toNatClampNeg = (σ.1 17 o).toNatClampNeg
          rw [o2 17 o e]
        have e7 : hw_ln (ps_mv σ.1 σ.2 i (hw_pl σ.1 i) (hw_ln σ.1 i)).1 o = hw_ln σ.1 o := by
          show ((ps_mv σ.1 σ.2 i (hw_pl σ.1 i) (hw_ln σ.1 i)).1 19 o).toNatClampNeg - 1 = (σ.1 19 o).toNatClampNeg - 1
          rw [o2 19 o e]
        rw [e8, e7]
        exact hg.1 o ho (by rw [← o2 16 o e]; exact h1)
    · rw [o1 23 q (by decide) (by decide)]; exact hg.2.1 q hq
    · unfold gm
      rw [eN, eR, hN 4 0 (by omega), hN 4 1 (by omega), hN 4 2 (by omega), hN 4 3 (by omega), hN 4 4 (by omega)]
theorem ge_old {nb no nc i : Nat} {σ : MI × MJ} : GE nb no nc σ (pn_c i σ) := by
  unfold pn_c
  split
  · exact GE.rf _ _ _ _
  · split
    · exact GE.rf _ _ _ _
    · exact ge_ef σ.1 σ.2 _ i (kN_tb _ _ _ _ _)
theorem ge_back {nb no nc i : Nat} {σ : MI × MJ} (hb9 : tn (σ.1 20 (12 * i + 0)) < nb) : GE nb no nc σ (pn_d i σ) := by
  unfold pn_d
  repeat' split
  · exact GE.rf _ _ _ _
  · exact GE.rf _ _ _ _
  · exact GE.rf _ _ _ _
  · generalize hN : uJ (uJ σ.2 0 (tn (σ.1 20 (12 * i + 0))) (σ.2 0 (tn (σ.1 20 (12 * i + 0))) - (σ.1 14 i).toInt64)) 4 2 (σ.2 4 2 + (σ.1 14 i).toInt64) = N'
    generalize tn (σ.1 20 (12 * i + 0)) = b at hb9 hN
    have a0 : ∀ j, j ≠ b → N' 0 j = σ.2 0 j := fun j hj => by rw [← hN, uJ_at, if_neg (by omega), uJ_at, if_neg (by omega)]
    have ab : N' 0 b = σ.2 0 b - (σ.1 14 i).toInt64 := by rw [← hN, uJ_at, if_neg (by omega), uJ_at, if_pos ⟨rfl, rfl⟩]
    have a4 : ∀ j, j ≠ 2 → N' 4 j = σ.2 4 j := fun j hj => by rw [← hN, uJ_at, if_neg (by omega), uJ_at, if_neg (by omega)]
    have a2 : N' 4 2 = σ.2 4 2 + (σ.1 14 i).toInt64 := by rw [← hN, uJ_at, if_pos ⟨rfl, rfl⟩]
    intro hg
    refine ⟨(ge_16 σ.1 σ.2 σ.2 i 4 (by decide) (kN.rf _) hg).1, ?_⟩
    have eS := SM_u (f := σ.2 0) (g := N' 0) nb hb9 a0
    have eR : SM (oR (uI σ.1 16 i 4)) nc = SM (oR σ.1) nc := SM_congr nc (fun j _ => by unfold oR; rw [u_ne (by decide), u_ne (by decide)])
    show SM (N' 0) nb - N' 4 0 + N' 4 1 + N' 4 2 + N' 4 3 + N' 4 4 + SM (oR (uI σ.1 16 i 4)) nc = gm nb nc σ.1 σ.2
    unfold gm
    rw [eS, eR, a2, ab, a4 0 (by decide), a4 1 (by decide), a4 3 (by decide), a4 4 (by decide)]
    grind
theorem ge_come {nb no nc i : Nat} {σ : MI × MJ} (hi : i < nc) : GE nb no nc σ (pf_ca i σ) := by
  unfold pf_ca
  by_cases c1 : ¬ σ.1 41 i = 0
  · rw [if_pos c1]; exact GE.rf _ _ _ _
  · rw [if_neg c1]
    by_cases c2 : σ.1 3 0 < σ.1 25 i
    · rw [if_pos c2]; exact GE.rf _ _ _ _
    · rw [if_neg c2]
      intro hg
      have hb9 := hg.2.1 i hi
      have hk := (((kN_owe (N := uJ σ.2 0 (tn (σ.1 23 i)) (σ.2 0 (tn (σ.1 23 i)) + (σ.1 24 i).toInt64)) (g := 1) (a := tn (σ.1 22 i)) (b := tn (σ.1 23 i)) (x := (-σ.1 24 i).toInt64) (Or.inl rfl)).tr (kN_owe (g := 1) (a := tn (σ.1 23 i)) (b := tn (σ.1 22 i)) (x := -(-σ.1 24 i).toInt64) (Or.inl rfl))).tr (kN_owe (g := 2) (a := tn (σ.1 22 i)) (b := tn (σ.1 23 i)) (x := (-σ.1 24 i).toInt64) (Or.inr rfl))).tr (kN_owe (g := 2) (a := tn (σ.1 23 i)) (b := tn (σ.1 22 i)) (x := -(-σ.1 24 i).toInt64) (Or.inr rfl))
      generalize pf_owe (pf_owe (pf_owe (pf_owe (uJ σ.2 0 (tn (σ.1 23 i)) (σ.2 0 (tn (σ.1 23 i)) + (σ.1 24 i).toInt64)) 1 (tn (σ.1 22 i)) (tn (σ.1 23 i)) (-σ.1 24 i).toInt64) 1 (tn (σ.1 23 i)) (tn (σ.1 22 i)) (-(-σ.1 24 i).toInt64)) 2 (tn (σ.1 22 i)) (tn (σ.1 23 i)) (-σ.1 24 i).toInt64) 2 (tn (σ.1 23 i)) (tn (σ.1 22 i)) (-(-σ.1 24 i).toInt64) = N' at hk
      generalize tn (σ.1 23 i) = b at hb9 hk
      have a0 : ∀ j, j ≠ b → N' 0 j = σ.2 0 j := fun j hj => by rw [hk 0 j (by omega), uJ_at, if_neg (by omega)]
      have ab : N' 0 b = σ.2 0 b + (σ.1 24 i).toInt64 := by rw [hk 0 b (by omega), uJ_at, if_pos ⟨rfl, rfl⟩]
      have a4 : ∀ j, N' 4 j = σ.2 4 j := fun j => by rw [hk 4 j (by omega), uJ_at, if_neg (by omega)]
      refine ⟨⟨fun o ho h1 => ?_, fun q hq => ?_, fun o ho => hg.2.2 o ho⟩, ?_⟩
      · have e1 : uI σ.1 41 i 1 16 o = σ.1 16 o := u_ne (by decide)
        have h1' : uI σ.1 41 i 1 16 o = 1 := h1
        have := hg.1 o ho (e1.symm.trans h1')
        exact this
      · have e1 : uI σ.1 41 i 1 23 q = σ.1 23 q := u_ne (by decide)
        show tn (uI σ.1 41 i 1 23 q) < nb
        rw [e1]; exact hg.2.1 q hq
      · have eS := SM_u (f := σ.2 0) (g := N' 0) nb hb9 a0
        have eR := SM_u (f := oR σ.1) (g := oR (uI σ.1 41 i 1)) nc hi (fun j hj => oR_c (if_neg (by omega)) (u_ne (by decide)))
        have r1 : oR σ.1 i = (σ.1 24 i).toInt64 := if_pos (Decidable.not_not.mp c1)
        have r2 : oR (uI σ.1 41 i 1) i = 0 := if_neg (by rw [uI_at, if_pos ⟨rfl, rfl⟩]; decide)
        show SM (N' 0) nb - N' 4 0 + N' 4 1 + N' 4 2 + N' 4 3 + N' 4 4 + SM (oR (uI σ.1 41 i 1)) nc = gm nb nc σ.1 σ.2
        unfold gm
        rw [eS, eR, r1, r2, ab, a4 0, a4 1, a4 2, a4 3, a4 4]
        grind
theorem nb_20 {i : Nat} {σ : MI × MJ} {j : Nat} : (pn_b i σ).1 20 j = σ.1 20 j := nb_oth (by decide) (by decide)
theorem ge_nh {nb no nc : Nat} {P : MI} {N : MJ} (h : pv_iv P nb no nc) (hw : ∀ o, o < no → tn (P 20 (12 * o + 0)) < nb) : GE nb no nc (P, N) (ps_nh P N nb no nc) ∧ ∀ j, (ps_nh P N nb no nc).1 20 j = P 20 j := by
  have g1 : GE nb no nc (P, N) (pn_1 P nb, N) := GE.same (fun g j hg => n1_oth (by omega) (by omega)) (kN.rf N)
  have e1 : ∀ j, pn_1 P nb 20 j = P 20 j := fun j => n1_oth (by decide) (by decide)
  have s2 := lp_inv pn_b (fun _ σ => pv_iv σ.1 nb no nc ∧ GE nb no nc (P, N) σ ∧ ∀ j, σ.1 20 j = P 20 j) no (fun i σ hi hs => ⟨nb_iv hs.1 hi, hs.2.1.tr (ge_mv hs.1 hi), fun j => nb_20.trans (hs.2.2 j)⟩) no 0 (pn_1 P nb, N) (by omega) ⟨n1_iv h, g1, e1⟩
  have s3 := lp_inv pn_c (fun _ σ => GE nb no nc (P, N) σ ∧ ∀ j, σ.1 20 j = P 20 j) no (fun i σ hi hs => ⟨hs.1.tr ge_old, fun j => (nc_oth (by decide)).trans (hs.2 j)⟩) no 0 (pn_2 P N nb no) (by omega) ⟨s2.2.1, s2.2.2⟩
  have s4 := lp_inv pn_d (fun _ σ => GE nb no nc (P, N) σ ∧ ∀ j, σ.1 20 j = P 20 j) no (fun i σ hi hs => ⟨hs.1.tr (ge_back (by rw [hs.2]; exact hw i hi)), fun j => (nd_oth (by decide)).trans (hs.2 j)⟩) no 0 (pn_3 P N nb no) (by omega) s3
  exact lp_inv pf_ca (fun _ σ => GE nb no nc (P, N) σ ∧ ∀ j, σ.1 20 j = P 20 j) nc (fun i σ hi hs => ⟨hs.1.tr (ge_come hi), fun j => (ca_oth (by decide)).trans (hs.2 j)⟩) nc 0 (pn_4 P N nb no) (by omega) s4
theorem ge_pass {nb no nc : Nat} {P : MI} {N : MJ} (h : pv_iv P nb no nc) (hw : ∀ o, o < no → tn (P 20 (12 * o + 0)) < nb) (x : Int32) : GE nb no nc (P, N) (pl_pass P N x nb no nc) := by
  have key := lp_inv (pf_ps nb no nc) (fun _ σ => pv_iv σ.1 nb no nc ∧ GE nb no nc (P, N) σ ∧ ∀ j, σ.1 20 j = P 20 j) (tn x) (fun i σ _ hs => by
    obtain ⟨a, b⟩ := ge_nh (N := σ.2) hs.1 (fun o ho => by rw [hs.2.2]; exact hw o ho)
    exact ⟨nh_iv hs.1, hs.2.1.tr a, fun j => (b j).trans (hs.2.2 j)⟩) (tn x) 0 (uI P 40 0 0, N) (by omega) ⟨h.congr (fun g j hg => u_ne (by omega)), ge_th P N 0, fun j => (u_ne (by decide) : uI P 40 0 0 20 j = P 20 j)⟩
  exact key.2.1
