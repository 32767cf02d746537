/-! the ghost: each call -/
def GT (b : Bool) (nb no nc : Nat) (P : MI) (N : MJ) (nb' no' nc' : Nat) (P' : MI) (N' : MJ) : Prop := GI nb no nc P → GI nb' no' nc' P' ∧ gm nb' nc' P' N' = (if b = true then gm nb nc P N + (SM (N' 0) nb' - SM (N 0) nb) else gm nb nc P N)
theorem GT.ge {nb no nc : Nat} {P P' : MI} {N N' : MJ} (h : GE nb no nc (P, N) (P', N')) : GT false nb no nc P N nb no nc P' N' := fun g => ⟨(h g).1, (h g).2⟩
theorem GT.gb {nb no nc : Nat} {P P' : MI} {N N' : MJ} (b : Bool) (h : GE nb no nc (P, N) (P', N')) (h0 : ∀ j, N' 0 j = N 0 j) : GT b nb no nc P N nb no nc P' N' := fun g => ⟨(h g).1, by
  have e : SM (N' 0) nb = SM (N 0) nb := SM_congr nb (fun j _ => h0 j)
  have e2 : gm nb nc P' N' = gm nb nc P N := (h g).2
  cases b
  · exact e2
  · show gm nb nc P' N' = gm nb nc P N + (SM (N' 0) nb - SM (N 0) nb)
    rw [e, e2]
    grind⟩
theorem ge_if {nb no nc : Nat} {σ : MI × MJ} {α : Type} {q : Prop} [Decidable q] {a b : α × MI × MJ} (ha : q → GE nb no nc σ (a.2.1, a.2.2)) (hb9 : ¬ q → GE nb no nc σ (b.2.1, b.2.2)) : GE nb no nc σ ((if q then a else b).2.1, (if q then a else b).2.2) := by
  by_cases h : q
  · rw [if_pos h]; exact ha h
  · rw [if_neg h]; exact hb9 h
theorem ge_u {nb no nc : Nat} {P : MI} {N : MJ} {g j : Nat} {v : Int32} (hg : ¬ (g = 12 ∨ g = 14 ∨ g = 16 ∨ g = 17 ∨ g = 19 ∨ g = 23 ∨ g = 24 ∨ g = 41)) : GE nb no nc (P, N) (uI P g j v, N) := GE.same (fun g' j' h => u_ne (by omega)) (kN.rf N)
theorem wb_P {k nb no nc : Nat} {I P : MI} {J N : MJ} (h : IV k nb no nc I J P N) : ∀ o, o < no → ∀ k, k ≤ hw_ln P o → tn (P 20 (12 * o + k)) < nb := fun o ho k' hk' => by
  have e : hw_ln P o = hw_ln I o := ln_eq h.ints o
  rw [e] at hk'
  rw [h.ints 20 _ (by unfold shd; omega)]
  exact h.2.1.2.2.1 o ho k' hk'
theorem cash_fit {k nb no nc : Nat} {I P : MI} {J N : MJ} (h : IV k nb no nc I J P N) (hk9 : k ≤ 600) (j : Nat) : (N 0 j).toInt32.toInt64 = N 0 j := by
  have e0 := (h.debts j).1
  have hx0 : 0 ≤ (J 0 j).toInt ∧ (J 0 j).toInt ≤ 3000000 * (k : Int) + 1000000 * (ar I nc : Int) := h.2.1.2.2.2.2.2.2.2 j
  have hle := ar_le I nc
  have hnc := h.ci.1.2.2.1.2
  rw [← e0]
  exact cast_cash hx0.1 (by omega)
theorem ge_rate {nb no nc : Nat} (P : MI) (N : MJ) (x y : Int32) : GE nb no nc (P, N) ((ps_rate P N x y).2.1, (ps_rate P N x y).2.2) := by
  unfold ps_rate
  exact ge_if (fun _ => ge_th P N 1) (fun _ => ge_if (fun _ => ge_th P N 2) (fun _ => (ge_th P N 0).tr (ge_u (by omega))))
theorem ge_trust {nb no nc : Nat} (P : MI) (N : MJ) (x y z w : Int32) : GE nb no nc (P, N) ((ps_trust P N x y z w).1, (ps_trust P N x y z w).2) := by
  unfold ps_trust
  repeat' split
  · exact ge_th P N 1
  · exact ge_th P N 2
  · exact ge_th P N 2
  · exact ((ge_th P N 0).tr (ge_u (by omega))).tr (ge_u (by omega))
theorem ge_law {nb no nc : Nat} (P : MI) (N : MJ) (x y : Int32) : GE nb no nc (P, N) ((ps_law P N x y).2.1, (ps_law P N x y).2.2) := by
  unfold ps_law
  exact ge_if (fun _ => ge_th P N 1) (fun _ => ge_if (fun _ => ge_th P N 2) (fun _ => (ge_th P N 0).tr (ge_u (by omega))))
theorem ge_list {nb no nc : Nat} (P : MI) (N : MJ) (x : Int32) : GE nb no nc (P, N) ((ps_list P N x).2.1, (ps_list P N x).2.2) := by
  unfold ps_list
  exact ge_if (fun _ => ge_th P N 1) (fun _ => ge_if (fun _ => (ge_th P N 0).tr (ge_u (by omega))) (fun _ => (ge_th P N 0).tr (ge_u (by omega))))
theorem ge_festival {nb no nc : Nat} (P : MI) (N : MJ) : GE nb no nc (P, N) (pp_festival P, N) := (ge_th P N 0).tr (ge_u (by omega))
theorem ge_debt {nb no nc : Nat} (P : MI) (N : MJ) (x y w : Int32) : GE nb no nc (P, N) ((ps_debt P N x y w).2.1, (ps_debt P N x y w).2.2) := by
  unfold ps_debt
  exact ge_if (fun _ => ge_th P N 1) (fun _ => ge_if (fun _ => ge_th P N 0) (fun _ => ge_th P N 0))
theorem ge_wayOf {nb no nc : Nat} (P : MI) (N : MJ) (x y : Int32) : GE nb no nc (P, N) ((ps_wayOf P N x y).2.1, (ps_wayOf P N x y).2.2) := by
  unfold ps_wayOf
  exact ge_if (fun _ => ge_th P N 1) (fun _ => ge_if (fun _ => ge_th P N 1) (fun _ => ge_if (fun _ => ge_th P N 0) (fun _ => ge_th P N 0)))
theorem ge_orderOf {nb no nc : Nat} (P : MI) (N : MJ) (x y : Int32) : GE nb no nc (P, N) ((ps_orderOf P N x y).2.1, (ps_orderOf P N x y).2.2) := by
  unfold ps_orderOf
  exact ge_if (fun _ => ge_th P N 1) (fun _ => ge_if (fun _ => ge_th P N 2) (fun _ => ge_th P N 0))
theorem ge_sum {nb no nc : Nat} (P : MI) (N : MJ) (x : Int32) : GE nb no nc (P, N) ((ps_sum P N x nb no nc).2.1, (ps_sum P N x nb no nc).2.2) := by
  unfold ps_sum
  exact ge_if (fun _ => ge_th P N 1) (fun _ => ge_th P N 0)
theorem ge_way {nb no nc : Nat} (P : MI) (N : MJ) (x y z w : Int32) : GE nb no nc (P, N) ((ps_way P N x y z w nb).2.1, (ps_way P N x y z w nb).2.2) := by
  have gW : GE nb no nc (P, N) ((po_W (uI P 40 0 0) N y z nb).1, (po_W (uI P 40 0 0) N y z nb).2) := (ge_th P N 0).tr (GE.same (fun g j hg => fws_oth (by omega)) (kN_fws _ _ _ _ _ _))
  have gK : GE nb no nc (P, N) (po_K (uI P 40 0 0) N x y z nb, (po_W (uI P 40 0 0) N y z nb).2) := (ge_th P N 0).tr (GE.same (fun g j hg => po_K_oth (by omega) (by omega)) (kN_fws _ _ _ _ _ _))
  unfold ps_way
  exact ge_if (fun _ => ge_th P N 1) (fun _ => ge_if (fun _ => ge_th P N 1) (fun _ => ge_if (fun _ => ge_th P N 2) (fun _ => ge_if (fun _ => ge_th P N 2) (fun _ => ge_if (fun _ => gW) (fun _ => ge_if (fun _ => gK) (fun _ => gK))))))
theorem ge_breakWord {nb no nc : Nat} (P : MI) (N : MJ) (x : Int32) : GE nb no nc (P, N) ((ps_breakWord P N x nb no).2.1, (ps_breakWord P N x nb no).2.2) := by
  unfold ps_breakWord
  exact ge_if (fun _ => ge_th P N 1) (fun _ => ge_if (fun _ => ge_th P N 2) (fun _ => (ge_bw P N x).tr (ge_ff _ _ x)))
theorem ge_deliver {nb no nc : Nat} (P : MI) (N : MJ) (x y z : Int32) : GE nb no nc (P, N) ((ps_deliver P N x y z).2.1, (ps_deliver P N x y z).2.2) := by
  unfold ps_deliver
  exact ge_if (fun _ => ge_th P N 1) (fun _ => ge_if (fun _ => ge_th P N 2) (fun _ => ge_if (fun _ => ge_th P N 2) (fun _ => ge_if (fun _ => ge_th P N 3) (fun _ => ge_if (fun _ => ge_th P N 3) (fun _ => ge_if (fun _ => ge_th P N 3) (fun _ => GE.same (fun g j hg => u_ne (by omega)) (kN_both N _ _ _)))))))
theorem ge_ring {nb no nc : Nat} (P : MI) (N : MJ) : GE nb no nc (P, N) (uI P 40 0 0, (ps_ring N nb).2) := GE.same (fun g j hg => u_ne (by omega)) (kN_ring N nb)
theorem ge_passx {nb no nc : Nat} {P : MI} {N : MJ} (h : pv_iv P nb no nc) (hw : ∀ o, o < no → tn (P 20 (12 * o + 0)) < nb) (x : Int32) : GE nb no nc (P, N) ((ps_pass P N x nb no nc).2.1, (ps_pass P N x nb no nc).2.2) := by
  unfold ps_pass
  exact ge_if (fun _ => ge_th P N 1) (fun _ => ge_pass h hw x)
/-- cash of one broker and one sum change by the same -/
theorem ge_cash {nb no nc : Nat} {P P' : MI} {N N' : MJ} {b : Nat} (hb9 : b < nb) (hP : ∀ g j, (g = 12 ∨ g = 14 ∨ g = 16 ∨ g = 17 ∨ g = 19 ∨ g = 23 ∨ g = 24 ∨ g = 41) → P' g j = P g j) (h0 : ∀ j, j ≠ b → N' 0 j = N 0 j) (hs : N' 0 b - N' 4 0 + N' 4 1 + N' 4 2 + N' 4 3 + N' 4 4 = N 0 b - N 4 0 + N 4 1 + N 4 2 + N 4 3 + N 4 4) : GE nb no nc (P, N) (P', N') := by
  intro hg
  refine ⟨(GE.same (σ := (P, N)) (τ := (P', N)) hP (kN.rf N) hg).1, ?_⟩
  have eS := SM_u (f := N 0) (g := N' 0) nb hb9 h0
  have eR : SM (oR P') nc = SM (oR P) nc := SM_congr nc (fun j _ => by unfold oR; rw [hP 41 j (by omega), hP 24 j (by omega)])
  show gm nb nc P' N' = gm nb nc P N
  unfold gm
  rw [eS, eR]
  grind
theorem ge_raid {k nb no nc : Nat} {I P : MI} {J N : MJ} (h : IV k nb no nc I J P N) (hk9 : k ≤ 600) (x : Int32) : GE nb no nc (P, N) ((ps_raid P N x nb no).2.1, (ps_raid P N x nb no).2.2) := by
  have hpv := h.pv
  unfold ps_raid
  refine ge_if (fun _ => ge_th P N 1) (fun c1 => ge_if (fun _ => ge_th P N 2) (fun _ => ?_))
  have hx := (in_n hpv.1.1 (by have := hpv.1.2; omega) c1).2
  refine GE.tr ?_ (ge_ff (pp_raid P x) (pj_raid N x) x)
  have ec := cash_fit h hk9 (tn x)
  refine ge_cash hx (fun g j hg => ((u_ne (by omega)).trans ((u_ne (by omega)).trans ((u_ne (by omega)).trans (u_ne (by omega)))))) (fun j hj => ?_) ?_
  · show uJ (uJ N 0 (tn x) 0) 4 4 (N 4 4 + (N 0 (tn x)).toInt32.toInt64) 0 j = N 0 j
    rw [uJ_at, if_neg (by omega), uJ_at, if_neg (by omega)]
  · have a0 : pj_raid N x 0 (tn x) = 0 := by
      show uJ (uJ N 0 (tn x) 0) 4 4 (N 4 4 + (N 0 (tn x)).toInt32.toInt64) 0 (tn x) = 0
      rw [uJ_at, if_neg (by omega), uJ_at, if_pos ⟨rfl, rfl⟩]
    have a4 : ∀ j, j ≠ 4 → pj_raid N x 4 j = N 4 j := fun j hj => by
      show uJ (uJ N 0 (tn x) 0) 4 4 (N 4 4 + (N 0 (tn x)).toInt32.toInt64) 4 j = N 4 j
      rw [uJ_at, if_neg (by omega), uJ_at, if_neg (by omega)]
    have a44 : pj_raid N x 4 4 = N 4 4 + N 0 (tn x) := by
      show uJ (uJ N 0 (tn x) 0) 4 4 (N 4 4 + (N 0 (tn x)).toInt32.toInt64) 4 4 = _
      rw [uJ_at, if_pos ⟨rfl, rfl⟩, ec]
    rw [a0, a44, a4 0 (by decide), a4 1 (by decide), a4 2 (by decide), a4 3 (by decide)]
    grind
theorem ge_fetch {k nb no nc : Nat} {I P : MI} {J N : MJ} (h : IV k nb no nc I J P N) (x y : Int32) : GE nb no nc (P, N) ((ps_fetch P N x y).2.1, (ps_fetch P N x y).2.2) := by
  have hpv := h.pv
  have gf : GE nb no nc (P, N) (pp_fetch P x, N) := (ge_th P N 0).tr (ge_u (by omega))
  unfold ps_fetch
  refine ge_if (fun _ => ge_th P N 1) (fun c1 => ge_if (fun _ => ge_th P N 2) (fun _ => ge_if (fun _ => ge_th P N 3) (fun _ => ge_if (fun _ => ge_th P N 3) (fun _ => ge_if (fun _ => ge_th P N 3) (fun _ => ge_if (fun _ => ?_) (fun _ => ge_if (fun _ => gf) (fun _ => gf.tr (ge_ef _ _ _ _ (kN_tb _ _ _ _ _)))))))))
  have hx := (in_n hpv.2.1.1 (by have := hpv.2.1.2; omega) c1).2
  have hb9 := wb_P h (tn x) hx (hw_ln P (tn x)) (Nat.le_refl _)
  show GE nb no nc (P, N) (uI (uI P 40 0 0) 16 (tn x) 2, uJ (uJ N 0 (tn (P 20 (12 * tn x + hw_ln P (tn x)))) (N 0 (tn (P 20 (12 * tn x + hw_ln P (tn x)))) - (P 12 (tn x)).toInt64)) 4 1 (N 4 1 + (P 12 (tn x)).toInt64))
  refine ((ge_th P N 0).tr (ge_16 _ _ N (tn x) 2 (by decide) (kN.rf N))).tr ?_
  generalize tn (P 20 (12 * tn x + hw_ln P (tn x))) = b at hb9
  generalize hN : uJ (uJ N 0 b (N 0 b - (P 12 (tn x)).toInt64)) 4 1 (N 4 1 + (P 12 (tn x)).toInt64) = N'
  have a00 : ∀ j, j ≠ b → N' 0 j = N 0 j := fun j hj => by rw [← hN, uJ_at, if_neg (by omega), uJ_at, if_neg (by omega)]
  have a0 : N' 0 b = N 0 b - (P 12 (tn x)).toInt64 := by rw [← hN, uJ_at, if_neg (by omega), uJ_at, if_pos ⟨rfl, rfl⟩]
  have a1 : N' 4 1 = N 4 1 + (P 12 (tn x)).toInt64 := by rw [← hN, uJ_at, if_pos ⟨rfl, rfl⟩]
  have a4 : ∀ j, j ≠ 1 → N' 4 j = N 4 j := fun j hj => by rw [← hN, uJ_at, if_neg (by omega), uJ_at, if_neg (by omega)]
  refine ge_cash hb9 (fun _ _ _ => rfl) a00 ?_
  rw [a0, a1, a4 0 (by decide), a4 2 (by decide), a4 3 (by decide), a4 4 (by decide)]
  grind
theorem ge_pay {nb no nc : Nat} {P : MI} {N : MJ} (hpv : pv_iv P nb no nc) (x y z : Int32) : GE nb no nc (P, N) ((ps_pay P N x y z).2.1, (ps_pay P N x y z).2.2) := by
  unfold ps_pay
  refine ge_if (fun _ => ge_th P N 1) (fun c1 => ge_if (fun _ => ge_th P N 2) (fun c2 => ge_if (fun _ => ge_th P N 2) (fun _ => ge_if (fun _ => ge_th P N 3) (fun _ => ge_if (fun _ => ge_th P N 3) (fun _ => ge_if (fun _ => ge_th P N 3) (fun _ => ge_if (fun _ => ge_th P N 3) (fun _ => ?_)))))))
  obtain ⟨⟨x1, x2⟩, y1, y2⟩ := br2_n hpv.1.1 (by have := hpv.1.2; omega) c1
  have hne : tn x ≠ tn y := fun z9 => c2 (by rw [x1, y1, z9])
  show GE nb no nc (P, N) (uI P 40 0 0, pj_pay N x y z)
  unfold pj_pay
  generalize tn x = a at x2 hne
  generalize tn y = b at y2 hne
  have hk := kN_both (uJ (uJ N 0 a (N 0 a - z.toInt64)) 0 b (uJ N 0 a (N 0 a - z.toInt64) 0 b + z.toInt64)) a b (-z).toInt64
  generalize ps_both (uJ (uJ N 0 a (N 0 a - z.toInt64)) 0 b (uJ N 0 a (N 0 a - z.toInt64) 0 b + z.toInt64)) a b (-z).toInt64 = N' at hk
  have m0 : ∀ j, j ≠ a → uJ N 0 a (N 0 a - z.toInt64) 0 j = N 0 j := fun j hj => by rw [uJ_at, if_neg (by omega)]
  have ma : uJ N 0 a (N 0 a - z.toInt64) 0 a = N 0 a - z.toInt64 := if_pos ⟨rfl, rfl⟩
  have n0 : ∀ j, j ≠ b → N' 0 j = uJ N 0 a (N 0 a - z.toInt64) 0 j := fun j hj => by rw [hk 0 j (by omega), uJ_at, if_neg (by omega)]
  have nb9 : N' 0 b = N 0 b + z.toInt64 := by rw [hk 0 b (by omega), uJ_at, if_pos ⟨rfl, rfl⟩, m0 b (Ne.symm hne)]
  have n4 : ∀ j, N' 4 j = N 4 j := fun j => by rw [hk 4 j (by omega), uJ_at, if_neg (by omega), uJ_at, if_neg (by omega)]
  intro hg
  refine ⟨(ge_th P N 0 hg).1, ?_⟩
  have e1 := SM_u (f := N 0) (g := uJ N 0 a (N 0 a - z.toInt64) 0) nb x2 m0
  have e2 := SM_u (f := uJ N 0 a (N 0 a - z.toInt64) 0) (g := N' 0) nb y2 n0
  have eR : SM (oR (uI P 40 0 0)) nc = SM (oR P) nc := SM_congr nc (fun j _ => oR_c (u_ne (by decide)) (u_ne (by decide)))
  rw [ma] at e1
  rw [e1, m0 b (Ne.symm hne), nb9] at e2
  show gm nb nc (uI P 40 0 0) N' = gm nb nc P N
  unfold gm
  rw [e2, eR, n4 0, n4 1, n4 2, n4 3, n4 4]
  grind
theorem ge_rob {nb no nc : Nat} {P : MI} {N : MJ} (hpv : pv_iv P nb no nc) (x : Int32) : GE nb no nc (P, N) ((ps_rob P N x).2.1, (ps_rob P N x).2.2) := by
  unfold ps_rob
  refine ge_if (fun _ => ge_th P N 1) (fun c1 => ge_if (fun _ => ge_th P N 2) (fun c2 => ?_))
  have hx := (in_n hpv.2.2.1.1 (by have := hpv.2.2.1.2; omega) c1).2
  have c0 := Decidable.not_not.mp c2
  show GE nb no nc (P, N) (uI (uI P 40 0 0) 41 (tn x) 1, uJ N 4 3 (N 4 3 + (P 24 (tn x)).toInt64))
  generalize tn x = a at hx c0
  intro hg
  refine ⟨⟨fun o ho h1 => ?_, fun q hq => ?_, fun o ho => hg.2.2 o ho⟩, ?_⟩
  · have h1' : uI (uI P 40 0 0) 41 a 1 16 o = 1 := h1
    rw [u_ne (by decide), u_ne (by decide)] at h1'
    exact hg.1 o ho h1'
  · show tn (uI (uI P 40 0 0) 41 a 1 23 q) < nb
    rw [u_ne (by decide), u_ne (by decide)]
    exact hg.2.1 q hq
  · have eR := SM_u (f := oR P) (g := oR (uI (uI P 40 0 0) 41 a 1)) nc hx (fun j hj => oR_c ((if_neg (by omega)).trans (u_ne (by decide))) ((u_ne (by decide)).trans (u_ne (by decide))))
    have r1 : oR P a = (P 24 a).toInt64 := if_pos c0
    have r2 : oR (uI (uI P 40 0 0) 41 a 1) a = 0 := if_neg (by rw [uI_at, if_pos ⟨rfl, rfl⟩]; decide)
    have a4 : ∀ g j, ¬ (g = 4 ∧ j = 3) → uJ N 4 3 (N 4 3 + (P 24 a).toInt64) g j = N g j := fun g j hgj => if_neg hgj
    have a3 : uJ N 4 3 (N 4 3 + (P 24 a).toInt64) 4 3 = N 4 3 + (P 24 a).toInt64 := if_pos ⟨rfl, rfl⟩
    have eS : SM (uJ N 4 3 (N 4 3 + (P 24 a).toInt64) 0) nb = SM (N 0) nb := SM_congr nb (fun j _ => a4 0 j (by omega))
    show gm nb nc (uI (uI P 40 0 0) 41 a 1) (uJ N 4 3 (N 4 3 + (P 24 a).toInt64)) = gm nb nc P N
    unfold gm
    rw [eR, eS, r1, r2, a3, a4 4 0 (by omega), a4 4 1 (by omega), a4 4 2 (by omega), a4 4 4 (by omega)]
    grind
/-! calls that count one more: both ends -/
theorem gt_broker {nb no nc : Nat} (P : MI) (N : MJ) (x y z : Int32) (hno : no ≤ 40) : (¬ (ps_broker P N x y z nb).2.1 40 0 = 0 → GT true nb no nc P N nb no nc (ps_broker P N x y z nb).2.1 (ps_broker P N x y z nb).2.2) ∧ ((ps_broker P N x y z nb).2.1 40 0 = 0 → GT true nb no nc P N (nb + 1) no nc (ps_broker P N x y z nb).2.1 (ps_broker P N x y z nb).2.2) := by
  have bad : ∀ v : Int32, ¬ v = 0 → (¬ uI P 40 0 v 40 0 = 0 → GT true nb no nc P N nb no nc (uI P 40 0 v) N) ∧ (uI P 40 0 v 40 0 = 0 → GT true nb no nc P N (nb + 1) no nc (uI P 40 0 v) N) := fun v hv => ⟨fun _ => GT.gb true (ge_th P N v) (fun _ => rfl), fun z9 => absurd z9 (ne40 (P := P) (v := v) hv)⟩
  unfold ps_broker
  by_cases c1 : sx_in x 0 7 = 0
  · rw [if_pos c1]; exact bad 1 (by decide)
  · rw [if_neg c1]
    by_cases c2 : sx_in y 0 1000000 = 0
    · rw [if_pos c2]; exact bad 2 (by decide)
    · rw [if_neg c2]
      by_cases c3 : sx_in z 0 100 = 0
      · rw [if_pos c3]; exact bad 2 (by decide)
      · rw [if_neg c3]
        by_cases c4 : P 0 0 = 12
        · rw [if_pos c4]; exact bad 3 (by decide)
        · rw [if_neg c4]
          have o : ∀ g j, g ≠ 0 → g ≠ 5 → g ≠ 6 → g ≠ 40 → uI (uI (uI (uI P 40 0 0) 5 nb x) 6 nb z) 0 0 (P 0 0 + 1) g j = P g j := fun g j h0 h5 h6 h40 => (u_ne h0).trans ((u_ne h6).trans ((u_ne h5).trans (u_ne h40)))
          refine ⟨fun z9 => absurd (show uI (uI (uI (uI P 40 0 0) 5 nb x) 6 nb z) 0 0 (P 0 0 + 1) 40 0 = 0 from (u_ne (by decide)).trans ((u_ne (by decide)).trans ((u_ne (by decide)).trans (if_pos ⟨rfl, rfl⟩)))) z9, fun _ hg => ?_⟩
          show GI (nb + 1) no nc (uI (uI (uI (uI P 40 0 0) 5 nb x) 6 nb z) 0 0 (P 0 0 + 1)) ∧ gm (nb + 1) nc (uI (uI (uI (uI P 40 0 0) 5 nb x) 6 nb z) 0 0 (P 0 0 + 1)) (uJ N 0 nb y.toInt64) = gm nb nc P N + (SM (uJ N 0 nb y.toInt64 0) (nb + 1) - SM (N 0) nb)
          generalize uI (uI (uI (uI P 40 0 0) 5 nb x) 6 nb z) 0 0 (P 0 0 + 1) = P' at o
          refine ⟨⟨fun o' ho h1 => ?_, fun q hq => ?_, fun o' ho => by rw [o 12 o' (by decide) (by decide) (by decide) (by decide), o 14 o' (by decide) (by decide) (by decide) (by decide)]; exact hg.2.2 o' ho⟩, ?_⟩
          · have e1 : hw_pl P' o' = hw_pl P o' := by unfold hw_pl; rw [o 17 o' (by decide) (by decide) (by decide) (by decide)]
            have e2 : hw_ln P' o' = hw_ln P o' := by unfold hw_ln; rw [o 19 o' (by decide) (by decide) (by decide) (by decide)]
            rw [e1, e2]
            exact hg.1 o' ho (by rw [← o 16 o' (by decide) (by decide) (by decide) (by decide)]; exact h1)
          · rw [o 23 q (by decide) (by decide) (by decide) (by decide)]
            exact Nat.lt_succ_of_lt (hg.2.1 q hq)
          · have eR : SM (oR P') nc = SM (oR P) nc := SM_congr nc (fun j _ => by unfold oR; rw [o 41 j (by decide) (by decide) (by decide) (by decide), o 24 j (by decide) (by decide) (by decide) (by decide)])
            have a4 : ∀ j, uJ N 0 nb y.toInt64 4 j = N 4 j := fun j => if_neg (by omega)
            unfold gm
            rw [eR, a4 0, a4 1, a4 2, a4 3, a4 4]
            grind
theorem gt_courier {nb no nc : Nat} {P : MI} {N : MJ} (hpv : pv_iv P nb no nc) (h41 : P 41 nc = 0) (x y z w : Int32) : (¬ (ps_courier P N x y z w nc).2.1 40 0 = 0 → GT false nb no nc P N nb no nc (ps_courier P N x y z w nc).2.1 (ps_courier P N x y z w nc).2.2) ∧ ((ps_courier P N x y z w nc).2.1 40 0 = 0 → GT false nb no nc P N nb no (nc + 1) (ps_courier P N x y z w nc).2.1 (ps_courier P N x y z w nc).2.2) := by
  have bad : ∀ v : Int32, ¬ v = 0 → (¬ uI P 40 0 v 40 0 = 0 → GT false nb no nc P N nb no nc (uI P 40 0 v) N) ∧ (uI P 40 0 v 40 0 = 0 → GT false nb no nc P N nb no (nc + 1) (uI P 40 0 v) N) := fun v hv => ⟨fun _ => GT.ge (ge_th P N v), fun z9 => absurd z9 (ne40 (P := P) (v := v) hv)⟩
  unfold ps_courier
  by_cases c1 : sx_br2 P x y = 0
  · rw [if_pos c1]; exact bad 1 (by decide)
  · rw [if_neg c1]
    by_cases c2 : x = y
    · rw [if_pos c2]; exact bad 2 (by decide)
    · rw [if_neg c2]
      by_cases c3 : sx_in z 1 1000000 = 0
      · rw [if_pos c3]; exact bad 2 (by decide)
      · rw [if_neg c3]
        by_cases c4 : sx_in w 1 500 = 0
        · rw [if_pos c4]; exact bad 2 (by decide)
        · rw [if_neg c4]
          by_cases c5 : 40 ≤ P 2 0
          · rw [if_pos c5]; exact bad 3 (by decide)
          · rw [if_neg c5]
            by_cases c6 : ¬ P 7 (tn x) = 0
            · rw [if_pos c6]; exact bad 3 (by decide)
            · rw [if_neg c6]
              by_cases c7 : lg_cmp (N 0 (tn x)) z.toInt64 < 0
              · rw [if_pos c7]; exact bad 3 (by decide)
              · rw [if_neg c7]
                obtain ⟨⟨x1, x2⟩, y1, y2⟩ := br2_n hpv.1.1 (by have := hpv.1.2; omega) c1
                have o : ∀ g j, ¬ ((g = 22 ∨ g = 23 ∨ g = 24 ∨ g = 25) ∧ j = nc) → g ≠ 2 → g ≠ 40 → uI (uI (uI (uI (uI (uI P 40 0 0) 24 nc z) 22 nc x) 23 nc y) 25 nc (P 3 0 + w)) 2 0 (P 2 0 + 1) g j = P g j := fun g j h1 h2 h3 => by
                  rw [uI_at, if_neg (by omega), uI_at, if_neg (by omega), uI_at, if_neg (by omega), uI_at, if_neg (by omega), uI_at, if_neg (by omega), uI_at, if_neg (by omega)]
                have o24 : uI (uI (uI (uI (uI (uI P 40 0 0) 24 nc z) 22 nc x) 23 nc y) 25 nc (P 3 0 + w)) 2 0 (P 2 0 + 1) 24 nc = z := by
                  rw [uI_at, if_neg (by omega), uI_at, if_neg (by omega), uI_at, if_neg (by omega), uI_at, if_neg (by omega), uI_at, if_pos ⟨rfl, rfl⟩]
                have o23 : uI (uI (uI (uI (uI (uI P 40 0 0) 24 nc z) 22 nc x) 23 nc y) 25 nc (P 3 0 + w)) 2 0 (P 2 0 + 1) 23 nc = y := by
                  rw [uI_at, if_neg (by omega), uI_at, if_neg (by omega), uI_at, if_pos ⟨rfl, rfl⟩]
                have o40 : uI (uI (uI (uI (uI (uI P 40 0 0) 24 nc z) 22 nc x) 23 nc y) 25 nc (P 3 0 + w)) 2 0 (P 2 0 + 1) 40 0 = 0 := by
                  rw [uI_at, if_neg (by omega), uI_at, if_neg (by omega), uI_at, if_neg (by omega), uI_at, if_neg (by omega), uI_at, if_neg (by omega), uI_at, if_pos ⟨rfl, rfl⟩]
                refine ⟨fun z9 => absurd o40 z9, fun _ hg => ?_⟩
                show GI nb no (nc + 1) (uI (uI (uI (uI (uI (uI P 40 0 0) 24 nc z) 22 nc x) 23 nc y) 25 nc (P 3 0 + w)) 2 0 (P 2 0 + 1)) ∧ gm nb (nc + 1) (uI (uI (uI (uI (uI (uI P 40 0 0) 24 nc z) 22 nc x) 23 nc y) 25 nc (P 3 0 + w)) 2 0 (P 2 0 + 1)) (uJ N 0 (tn x) (N 0 (tn x) - z.toInt64)) = gm nb nc P N
                generalize uI (uI (uI (uI (uI (uI P 40 0 0) 24 nc z) 22 nc x) 23 nc y) 25 nc (P 3 0 + w)) 2 0 (P 2 0 + 1) = P' at o o24 o23
                generalize tn x = a at x2
                refine ⟨⟨fun o' ho h1 => ?_, fun q hq => ?_, fun o' ho => by rw [o 12 o' (by omega) (by decide) (by decide), o 14 o' (by omega) (by decide) (by decide)]; exact hg.2.2 o' ho⟩, ?_⟩
                · have e1 : hw_pl P' o' = hw_pl P o' := by unfold hw_pl; rw [o 17 o' (by omega) (by decide) (by decide)]
                  have e2 : hw_ln P' o' = hw_ln P o' := by unfold hw_ln; rw [o 19 o' (by omega) (by decide) (by decide)]
                  rw [e1, e2]
                  exact hg.1 o' ho (by rw [← o 16 o' (by omega) (by decide) (by decide)]; exact h1)
                · by_cases e : q = nc
                  · rw [e, o23]; exact y2
                  · rw [o 23 q (by omega) (by decide) (by decide)]
                    exact hg.2.1 q (by omega)
                · have eR : SM (oR P') nc = SM (oR P) nc := SM_congr nc (fun j hj => by unfold oR; rw [o 41 j (by omega) (by decide) (by decide), o 24 j (by omega) (by decide) (by decide)])
                  have eR2 : oR P' nc = z.toInt64 := by
                    unfold oR
                    rw [o 41 nc (by omega) (by decide) (by decide), h41, if_pos rfl, o24]
                  have a4 : ∀ j, uJ N 0 a (N 0 a - z.toInt64) 4 j = N 4 j := fun j => if_neg (by omega)
                  have eS := SM_u (f := N 0) (g := uJ N 0 a (N 0 a - z.toInt64) 0) nb x2 (fun j hj => if_neg (by omega))
                  have ea : uJ N 0 a (N 0 a - z.toInt64) 0 a = N 0 a - z.toInt64 := if_pos ⟨rfl, rfl⟩
                  unfold gm
                  rw [SM_s, eR, eR2, eS, ea, a4 0, a4 1, a4 2, a4 3, a4 4]
                  grind
theorem order_given {k nb no nc : Nat} {I P : MI} {J N : MJ} {x y z : Int32} (h : IV k nb no nc I J P N) (hk9 : k ≤ 600) (hxb : tn x < nb) (hy : y = nI (tn y)) (hyb : tn y < nb) (hxy : tn x ≠ tn y) (hz : ¬ sx_in z 1 1000000 = 0) (hw : ¬ 0 ≤ lg_cmp ((po_W P N y z nb).2 5 (tn x)) 1000000000000) : z ≤ po_g (po_W P N y z nb) x z := by
  obtain ⟨b1, b3⟩ := in_1 (n := 1000000) (by decide) (by omega) hz
  have hbd : bd J 4611686018427387904 := h.ci.2.2.2.mono (by omega)
  have hnb := h.ci.1.1.2
  generalize tn z = m at b1 b3
  subst b1
  have ow := order_ways (x := x) (y := y) (z := m) h.ints h.2.1.2.1 h.debts h.ci.1.1.1 hnb h.ci.2.2.1 hbd hxb hy hyb hxy b3
  rcases ow with ⟨_, q⟩ | ⟨_, w2, n, p, n1, n2, n3, n4, n5⟩
  · exact absurd q hw
  obtain ⟨_, e0, _, g0, q1, _, q3⟩ := n5 0 (Nat.zero_le _)
  have f0 : p 0 = tn x := e0.symm
  rw [f0] at q3
  have e5 : (po_W P N y (nI m) nb).2 5 (tn x) = lN g0 := Int64.toInt_inj.mp (q3.trans (lN_toInt (by omega)).symm)
  unfold po_g
  rw [e5, nI_l (by omega), lN_add, lN_i]
  exact nI_le (by omega) (by omega)
theorem gt_order {k nb no nc : Nat} {I P : MI} {J N : MJ} (h : IV k nb no nc I J P N) (hk9 : k ≤ 600) (x y z w v : Int32) : (¬ (ps_order P N x y z w v nb no).2.1 40 0 = 0 → GT false nb no nc P N nb no nc (ps_order P N x y z w v nb no).2.1 (ps_order P N x y z w v nb no).2.2) ∧ ((ps_order P N x y z w v nb no).2.1 40 0 = 0 → GT false nb no nc P N nb (no + 1) nc (ps_order P N x y z w v nb no).2.1 (ps_order P N x y z w v nb no).2.2) := by
  have bad : ∀ v : Int32, ¬ v = 0 → (¬ uI P 40 0 v 40 0 = 0 → GT false nb no nc P N nb no nc (uI P 40 0 v) N) ∧ (uI P 40 0 v 40 0 = 0 → GT false nb no nc P N nb (no + 1) nc (uI P 40 0 v) N) := fun v hv => ⟨fun _ => GT.ge (ge_th P N v), fun z9 => absurd z9 (ne40 (P := P) (v := v) hv)⟩
  unfold ps_order
  by_cases c1 : sx_br2 P x y = 0
  · rw [if_pos c1]; exact bad 1 (by decide)
  rw [if_neg c1]
  by_cases c2 : sx_in w 0 19 = 0
  · rw [if_pos c2]; exact bad 1 (by decide)
  rw [if_neg c2]
  by_cases c3 : x = y
  · rw [if_pos c3]; exact bad 2 (by decide)
  rw [if_neg c3]
  by_cases c4 : sx_in z 1 1000000 = 0
  · rw [if_pos c4]; exact bad 2 (by decide)
  rw [if_neg c4]
  by_cases c5 : sx_in v 0 9999 = 0
  · rw [if_pos c5]; exact bad 2 (by decide)
  rw [if_neg c5]
  by_cases c6 : 40 ≤ P 1 0
  · rw [if_pos c6]; exact bad 3 (by decide)
  rw [if_neg c6]
  by_cases c7 : ¬ P 30 (tn w) = 0
  · rw [if_pos c7]; exact bad 3 (by decide)
  rw [if_neg c7]
  by_cases c8 : 0 ≤ lg_cmp ((po_W P N y z nb).2 5 (tn x)) 1000000000000
  · rw [if_pos c8]
    have gW : GE nb no nc (P, N) ((po_W P N y z nb).1, (po_W P N y z nb).2) := GE.same (fun g j hg => fws_oth (by omega)) (kN_fws _ _ _ _ _ _)
    exact ⟨fun _ => GT.ge (gW.tr (ge_th _ _ 3)), fun z9 => absurd z9 (ne40 (P := (po_W P N y z nb).1) (v := 3) (by decide))⟩
  rw [if_neg c8]
  have hpv := h.pv
  obtain ⟨⟨x1, x2⟩, y1, y2⟩ := br2_n hpv.1.1 (by have := hpv.1.2; omega) c1
  have hgv := order_given h hk9 x2 y1 y2 (fun z9 => c3 (by rw [x1, y1, z9])) c4 c8
  have kW : kN N (po_W P N y z nb).2 := kN_fws _ _ _ _ _ _
  have oK : ∀ g j, g ≠ 43 → g ≠ 42 → po_K P N x y z nb g j = P g j := fun g j a b => po_K_oth a b
  have oP : ∀ g j, g ≠ 40 → g ≠ 1 → ¬ ((g = 12 ∨ g = 13 ∨ g = 14 ∨ g = 15 ∨ g = 16) ∧ j = no) → po_P (po_K P N x y z nb) (po_W P N y z nb) x z v no g j = po_K P N x y z nb g j := fun g j h1 h2 h3 => by
    unfold po_P
    rw [uI_at, if_neg (by omega), uI_at, if_neg (by omega), uI_at, if_neg (by omega), uI_at, if_neg (by omega), uI_at, if_neg (by omega), uI_at, if_neg (by omega), uI_at, if_neg (by omega)]
  have o16 : po_P (po_K P N x y z nb) (po_W P N y z nb) x z v no 16 no = 0 := by
    unfold po_P
    rw [uI_at, if_neg (by omega), uI_at, if_neg (by omega), uI_at, if_neg (by omega), uI_at, if_neg (by omega), uI_at, if_pos ⟨rfl, rfl⟩]
  have o40 : po_P (po_K P N x y z nb) (po_W P N y z nb) x z v no 40 0 = 0 := by
    unfold po_P
    rw [uI_at, if_neg (by omega), uI_at, if_neg (by omega), uI_at, if_neg (by omega), uI_at, if_neg (by omega), uI_at, if_neg (by omega), uI_at, if_neg (by omega), uI_at, if_pos ⟨rfl, rfl⟩]
  have oL : ∀ g j, g ≠ 19 → g ≠ 20 → g ≠ 21 → (po_L P N x y z v nb no).1 g j = po_P (po_K P N x y z nb) (po_W P N y z nb) x z v no g j := fun g j a b d => lay_oth a b d
  have oL19 : ∀ j, j ≠ no → (po_L P N x y z v nb no).1 19 j = P 19 j := fun j hj => (lay_19 hj).trans ((oP 19 j (by decide) (by decide) (by omega)).trans (oK 19 j (by decide) (by decide)))
  have kL : kN (po_N (po_P (po_K P N x y z nb) (po_W P N y z nb) x z v no) (po_W P N y z nb) x no) (po_L P N x y z v nb no).2 := kN_lay _ _ _ _ _
  have oT : ∀ g j t, g ≠ 29 → po_tell (po_L P N x y z v nb no).1 z t g j = (po_L P N x y z v nb no).1 g j := fun g j t h => u_ne h
  have all : ∀ g j, g ≠ 19 → g ≠ 20 → g ≠ 21 → g ≠ 29 → g ≠ 40 → g ≠ 1 → g ≠ 42 → g ≠ 43 → ¬ ((g = 12 ∨ g = 13 ∨ g = 14 ∨ g = 15 ∨ g = 16) ∧ j = no) → ∀ t, po_tell (po_L P N x y z v nb no).1 z t g j = P g j := fun g j h19 h20 h21 h29 h40 h1 h42 h43 hn t => (oT g j t h29).trans ((oL g j h19 h20 h21).trans ((oP g j h40 h1 hn).trans (oK g j h43 h42)))
  refine ⟨fun z9 => absurd (show po_tell (po_L P N x y z v nb no).1 z (tn ((po_L P N x y z v nb no).1 5 (tn x))) 40 0 = 0 from (oT 40 0 _ (by decide)).trans ((oL 40 0 (by decide) (by decide) (by decide)).trans o40)) z9, fun _ hg => ?_⟩
  show GI nb (no + 1) nc (po_tell (po_L P N x y z v nb no).1 z (tn ((po_L P N x y z v nb no).1 5 (tn x)))) ∧ gm nb nc (po_tell (po_L P N x y z v nb no).1 z (tn ((po_L P N x y z v nb no).1 5 (tn x)))) (po_L P N x y z v nb no).2 = gm nb nc P N
  generalize tn ((po_L P N x y z v nb no).1 5 (tn x)) = t
  have o12 : po_P (po_K P N x y z nb) (po_W P N y z nb) x z v no 12 no = z := by
    unfold po_P
    rw [uI_at, if_neg (by omega), uI_at, if_neg (by omega), uI_at, if_neg (by omega), uI_at, if_pos ⟨rfl, rfl⟩]
  have o14 : po_P (po_K P N x y z nb) (po_W P N y z nb) x z v no 14 no = po_g (po_W P N y z nb) x z := by
    unfold po_P
    rw [uI_at, if_neg (by omega), uI_at, if_neg (by omega), uI_at, if_pos ⟨rfl, rfl⟩]
  refine ⟨⟨fun o' ho h1 => ?_, fun q hq => ?_, fun o' ho => ?_⟩, ?_⟩
  rotate_left 2
  · by_cases e : o' = no
    · subst e
      rw [oT 12 o' t (by decide), oL 12 o' (by decide) (by decide) (by decide), o12, oT 14 o' t (by decide), oL 14 o' (by decide) (by decide) (by decide), o14]
      exact hgv
    · rw [all 12 o' (by decide) (by decide) (by decide) (by decide) (by decide) (by decide) (by decide) (by decide) (by omega) t, all 14 o' (by decide) (by decide) (by decide) (by decide) (by decide) (by decide) (by decide) (by decide) (by omega) t]
      exact hg.2.2 o' (by omega)
  rotate_left 1
  · by_cases e : o' = no
    · subst e
      rw [oT 16 o' t (by decide), oL 16 o' (by decide) (by decide) (by decide), o16] at h1
      exact absurd h1 (by decide)
    · have e1 : hw_pl (po_tell (po_L P N x y z v nb no).1 z t) o' = hw_pl P o' := by
        unfold hw_pl
        rw [all 17 o' (by decide) (by decide) (by decide) (by decide) (by decide) (by decide) (by decide) (by decide) (by omega) t]
      have e2 : hw_ln (po_tell (po_L P N x y z v nb no).1 z t) o' = hw_ln P o' := by
        unfold hw_ln
        rw [oT 19 o' t (by decide), oL19 o' e]
      rw [e1, e2]
      exact hg.1 o' (by omega) (by rw [← all 16 o' (by decide) (by decide) (by decide) (by decide) (by decide) (by decide) (by decide) (by decide) (by omega) t]; exact h1)
  · rw [all 23 q (by decide) (by decide) (by decide) (by decide) (by decide) (by decide) (by decide) (by decide) (by omega) t]
    exact hg.2.1 q hq
  · have eR : SM (oR (po_tell (po_L P N x y z v nb no).1 z t)) nc = SM (oR P) nc := SM_congr nc (fun j hj => by unfold oR; rw [all 41 j (by decide) (by decide) (by decide) (by decide) (by decide) (by decide) (by decide) (by decide) (by omega) t, all 24 j (by decide) (by decide) (by decide) (by decide) (by decide) (by decide) (by decide) (by decide) (by omega) t])
    generalize hv9 : (po_P (po_K P N x y z nb) (po_W P N y z nb) x z v no 14 no).toInt64 = u
    have eN : ∀ g j, po_N (po_P (po_K P N x y z nb) (po_W P N y z nb) x z v no) (po_W P N y z nb) x no g j = (if g = 4 ∧ j = 0 then (po_W P N y z nb).2 4 0 + u else if g = 0 ∧ j = tn x then (po_W P N y z nb).2 0 (tn x) + u else (po_W P N y z nb).2 g j) := fun g j => by
      unfold po_N
      rw [hv9, uJ_at, uJ_at]
    have l0 : ∀ j, j ≠ tn x → (po_L P N x y z v nb no).2 0 j = N 0 j := fun j hj => by rw [kL 0 j (by omega), eN, if_neg (by omega), if_neg (by omega), kW 0 j (by omega)]
    have lx : (po_L P N x y z v nb no).2 0 (tn x) = N 0 (tn x) + u := by rw [kL 0 _ (by omega), eN, if_neg (by omega), if_pos ⟨rfl, rfl⟩, kW 0 _ (by omega)]
    have l40 : (po_L P N x y z v nb no).2 4 0 = N 4 0 + u := by rw [kL 4 0 (by omega), eN, if_pos ⟨rfl, rfl⟩, kW 4 0 (by omega)]
    have l4 : ∀ j, j ≠ 0 → (po_L P N x y z v nb no).2 4 j = N 4 j := fun j hj => by rw [kL 4 j (by omega), eN, if_neg (by omega), if_neg (by omega), kW 4 j (by omega)]
    have eS := SM_u (f := N 0) (g := (po_L P N x y z v nb no).2 0) nb x2 l0
    unfold gm
    rw [eR, eS, lx, l40, l4 1 (by decide), l4 2 (by decide), l4 3 (by decide), l4 4 (by decide)]
    grind
