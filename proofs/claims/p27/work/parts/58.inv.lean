/-! the whole relation, behind k calls -/
theorem RH.congr {nb no nc : Nat} {I I' P P' : MI} {J J' N N' : MJ} (h : RH nb no nc (I, J) (P, N)) (hI : ∀ g j, ¬ (31 ≤ g ∧ g ≤ 39) → I' g j = I g j) (hJ : ∀ g j, J' g j = J g j) (hP : ∀ g j, g ≠ 40 → g ≠ 42 → g ≠ 43 → P' g j = P g j) (hN : ∀ g j, g ≠ 5 → N' g j = N g j) : RH nb no nc (I', J') (P', N') := by
  obtain ⟨⟨r1, r2, r3, r4⟩, hv, hq, hs, hz⟩ := h
  refine ⟨⟨fun g j hg => ?_, r2.congr (fun j => hI 19 j (by decide)) (fun j => hI 21 j (by decide)) (fun j => hP 21 j (by decide) (by decide) (by decide)), fun j => ?_, r4.congr (fun g j hg => hP g j (by omega) (by omega) (by omega))⟩, fun c hc => ?_, hq.congr (fun g j hg => hI g j (by omega)) (fun o ho => ?_), hs.congr (fun o ho => ⟨hI 12 o (by decide), hI 14 o (by decide), stn (hI 16 o (by decide))⟩) (fun c hc => ⟨hI 24 c (by decide), hI 27 c (by decide)⟩) (fun j => hN 4 j (by decide)), ?_⟩
  · show P' g j = I' g j
    rw [hP g j (by unfold shd at hg; omega) (by unfold shd at hg; omega) (by unfold shd at hg; omega), hI g j (by unfold shd at hg; omega)]
    exact r1 g j hg
  · show J' 0 j = N' 0 j ∧ J' 1 j = N' 1 j ∧ J' 2 j = N' 2 j
    rw [hJ, hJ, hJ, hN 0 j (by decide), hN 1 j (by decide), hN 2 j (by decide)]
    exact r3 j
  · show P' 41 c = if I' 26 c = 0 then 1 else 0
    rw [hP 41 c (by decide) (by decide) (by decide), hI 26 c (by decide)]
    exact hv c hc
  · show ∃ s : Nat, s ≤ 5 ∧ I' 16 o = nI s
    rw [hI 16 o (by decide)]; exact hq.2 o ho
  · show J' 3 0 = N' 4 4
    rw [hJ, hN 4 4 (by decide)]
    exact hz
/-- both sides write the same number into a field that the relation doesn't look into -/
def fre (g : Nat) : Prop := (4 ≤ g ∧ g ≤ 11) ∨ g = 13 ∨ g = 18 ∨ (28 ≤ g ∧ g ≤ 30)
theorem RH.set {nb no nc : Nat} {I P : MI} {J N : MJ} (h : RH nb no nc (I, J) (P, N)) (g j : Nat) (v : Int32) (hg : fre g) : RH nb no nc (uI I g j v, J) (uI P g j v, N) := by
  obtain ⟨⟨r1, r2, r3, r4⟩, hv, hq, hs, hz⟩ := h
  have o : ∀ (X : MI) g' j', ¬ fre g' → uI X g j v g' j' = X g' j' := fun X g' j' h' => by rw [uI_at, if_neg (fun z => h' (by rw [z.1]; exact hg))]
  refine ⟨⟨ri.u r1 g j v, r2.congr (fun j => o I 19 j (by unfold fre; omega)) (fun j => o I 21 j (by unfold fre; omega)) (fun j => o P 21 j (by unfold fre; omega)), r3, r4.congr (fun g' j' hg' => o P g' j' (by unfold fre; omega))⟩, fun c hc => ?_, hq.congr (fun g' j' hg' => o I g' j' (by unfold fre; omega)) (fun o' ho => ?_), hs.congr (fun o' ho => ⟨o I 12 o' (by unfold fre; omega), o I 14 o' (by unfold fre; omega), stn (o I 16 o' (by unfold fre; omega))⟩) (fun c hc => ⟨o I 24 c (by unfold fre; omega), o I 27 c (by unfold fre; omega)⟩) (fun _ => rfl), hz⟩
  · show uI P g j v 41 c = if uI I g j v 26 c = 0 then 1 else 0
    rw [o P 41 c (by unfold fre; omega), o I 26 c (by unfold fre; omega)]
    exact hv c hc
  · show ∃ s : Nat, s ≤ 5 ∧ uI I g j v 16 o' = nI s
    rw [o I 16 o' (by unfold fre; omega)]; exact hq.2 o' ho
/-- both sides change debts and cash alike -/
theorem RH.cash {nb no nc : Nat} {I P : MI} {J N J' N' : MJ} (h : RH nb no nc (I, J) (P, N)) (hj : jr J' N') (h3 : J' 3 0 = J 3 0) (h4 : ∀ j, N' 4 j = N 4 j) : RH nb no nc (I, J') (P, N') := by
  obtain ⟨⟨r1, r2, r3, r4⟩, hv, hq, hs, hz⟩ := h
  refine ⟨⟨r1, r2, hj, r4⟩, hv, hq, hs.congr (fun o ho => ⟨rfl, rfl, Iff.rfl, Iff.rfl⟩) (fun c hc => ⟨rfl, rfl⟩) h4, ?_⟩
  show J' 3 0 = N' 4 4
  rw [h3, h4]; exact hz
theorem hw_cb.int {I I' : MI} {J : MJ} {nc k : Nat} (h : hw_cb I J nc k) (e : ∀ c, I' 26 c = I 26 c) : hw_cb I' J nc k := fun j => by
  rw [ar_congr nc (fun c _ => e c)]
  exact h j
/-- false codes of what is still open -/
def hw_fc (I : MI) (no : Nat) : Prop := ∀ o, o < no → (I 16 o = 0 ∨ I 16 o = 1) → ∃ f : Nat, f ≤ 2 ∧ I 18 o = nI f
def fcr (no : Nat) (I I' : MI) : Prop := ∀ o, o < no → (I' 16 o = 0 ∨ I' 16 o = 1) → (I 16 o = 0 ∨ I 16 o = 1) ∧ I' 18 o = I 18 o
theorem hw_fc.mv {I I' : MI} {no : Nat} (h : hw_fc I no) (r : fcr no I I') : hw_fc I' no := fun o ho hs => by
  obtain ⟨a, b⟩ := r o ho hs
  rw [b]
  exact h o ho a
theorem fcr.same {I I' : MI} {no : Nat} (h : ∀ g j, (g = 16 ∨ g = 18) → I' g j = I g j) : fcr no I I' := fun o _ hs => ⟨by rw [← h 16 o (by omega)]; exact hs, h 18 o (by omega)⟩
theorem fcr.tr {I I' I'' : MI} {no : Nat} (h : fcr no I I') (h' : fcr no I' I'') : fcr no I I'' := fun o ho hs => by
  obtain ⟨a, b⟩ := h' o ho hs
  obtain ⟨c, d⟩ := h o ho a
  exact ⟨c, b.trans d⟩
theorem fcr.rf (no : Nat) (I : MI) : fcr no I I := fcr.same (fun _ _ _ => rfl)
/-- one order's state becomes v, neither on its way nor here, or here, where it was on its way -/
theorem fcr.st {I I' : MI} {no i : Nat} (h18 : ∀ o, I' 18 o = I 18 o) (h16 : ∀ o, o ≠ i → I' 16 o = I 16 o) (hi : (I' 16 i = 0 ∨ I' 16 i = 1) → (I 16 i = 0 ∨ I 16 i = 1)) : fcr no I I' := fun o _ hs => ⟨by
  by_cases c : o = i
  · subst c; exact hi hs
  · rw [← h16 o c]; exact hs, h18 o⟩
def IV (k nb no nc : Nat) (I : MI) (J : MJ) (P : MI) (N : MJ) : Prop := RH nb no nc (I, J) (P, N) ∧ CK k nb no nc ((k : Int) * 1000000000000000) (I, J) ∧ (∃ t : Nat, t ≤ 500 * k ∧ I 3 0 = nI t) ∧ (∀ c, nc ≤ c → P 41 c = 0) ∧ hw_fc I no
theorem CK.up {k k' nb no nc : Nat} {B B' : Int} {σ : MI × MJ} (h : CK k nb no nc B σ) (hk : k ≤ k') (hB : B ≤ B') : CK k' nb no nc B' σ := by
  obtain ⟨a1, a2, a3, a4, a5, a6, a7, a8⟩ := h
  exact ⟨⟨a1.1, a1.2.1, a1.2.2.1, a1.2.2.2.mono hB⟩, a2, a3, a4, a5, a6, a7, fun j => by have := a8 j; omega⟩
theorem IV.congr {k nb no nc : Nat} {I I' P P' : MI} {J N N' : MJ} (h : IV k nb no nc I J P N) (hI : ∀ g j, ¬ (31 ≤ g ∧ g ≤ 39) → I' g j = I g j) (hP : ∀ g j, g ≠ 40 → g ≠ 42 → g ≠ 43 → P' g j = P g j) (hN : ∀ g j, g ≠ 5 → N' g j = N g j) : IV (k + 1) nb no nc I' J P' N' := by
  obtain ⟨h1, h2, ⟨t, t1, t2⟩, h4, h5⟩ := h
  exact ⟨h1.congr hI (fun _ _ => rfl) hP hN, (h2.congr (fun g j hg => hI g j (by unfold ckf at hg; omega)) h2.1.2.2.2 h2.2.2.2.2.2.2.1 (fun _ => rfl)).up (Nat.le_succ k) (by omega), ⟨t, by omega, (hI 3 0 (by decide)).trans t2⟩, fun c hc => (hP 41 c (by decide) (by decide) (by decide)).trans (h4 c hc), h5.mv (fcr.same (fun g j hg => hI g j (by omega)))⟩
/-- a call that throws, or asks alone -/
theorem IV.th {k nb no nc : Nat} {I P : MI} {J N : MJ} (h : IV k nb no nc I J P N) (v : Int32) : IV (k + 1) nb no nc I J (uI P 40 0 v) N := h.congr (fun _ _ _ => rfl) (fun g j hg _ _ => if_neg (fun z => hg z.1)) (fun _ _ _ => rfl)
/-- as th, but the number of calls stands -/
theorem IV.th0 {k nb no nc : Nat} {I P : MI} {J N : MJ} (h : IV k nb no nc I J P N) (v : Int32) : IV k nb no nc I J (uI P 40 0 v) N := by
  obtain ⟨h1, h2, h3, h4, h5⟩ := h
  exact ⟨h1.congr (fun _ _ _ => rfl) (fun _ _ => rfl) (fun g j hg _ _ => if_neg (fun z => hg z.1)) (fun _ _ _ => rfl), h2, h3, fun c hc => (if_neg (fun z => absurd z.1 (by decide))).trans (h4 c hc), h5⟩
theorem IV.ci {k nb no nc : Nat} {I P : MI} {J N : MJ} (h : IV k nb no nc I J P N) : hw_ci I J nb no nc ((k : Int) * 1000000000000000) := h.2.1.1
theorem IV.pv {k nb no nc : Nat} {I P : MI} {J N : MJ} (h : IV k nb no nc I J P N) : pv_iv P nb no nc := h.1.1.2.2.2
theorem IV.ints {k nb no nc : Nat} {I P : MI} {J N : MJ} (h : IV k nb no nc I J P N) : ri I P := h.1.1.1
theorem IV.debts {k nb no nc : Nat} {I P : MI} {J N : MJ} (h : IV k nb no nc I J P N) : jr J N := h.1.1.2.2.1
/-- a field that nothing else looks into -/
theorem IV.set {k nb no nc : Nat} {I P : MI} {J N : MJ} (h : IV k nb no nc I J P N) (g j : Nat) (v : Int32) (hg : fre g) (hc : ¬ ckf g) (e40 : Int32) : IV (k + 1) nb no nc (uI I g j v) J (uI (uI P 40 0 e40) g j v) N := by
  obtain ⟨h1, h2, ⟨t, t1, t2⟩, h4, h5⟩ := h.th0 e40
  have o : ∀ (X : MI) g' j', g' ≠ g → uI X g j v g' j' = X g' j' := fun X g' j' h' => by rw [uI_at, if_neg (fun z => h' z.1)]
  refine ⟨h1.set g j v hg, (h2.congr (fun g' j' hg' => o I g' j' (fun z => hc (z ▸ hg'))) h2.1.2.2.2 h2.2.2.2.2.2.2.1 (fun _ => rfl)).up (Nat.le_succ k) (by omega), ⟨t, by omega, (o I 3 0 (by unfold fre at hg; omega)).trans t2⟩, fun c hc => (o _ 41 c (by unfold fre at hg; omega)).trans (h4 c hc), h5.mv (fcr.same (fun g' j' hg' => o I g' j' (by unfold fre at hg; unfold ckf at hc; omega)))⟩
/-! setting a rate, a trust, a festival -/
theorem v_rate {k nb no nc : Nat} {I P : MI} {J N : MJ} (h : IV k nb no nc I J P N) {y : Int32} (j : Nat) {b : Nat} (hy : y = nI b) (hb9 : b ≤ 100) : IV (k + 1) nb no nc (uI I 6 j y) J (uI (uI P 40 0 0) 6 j y) N := by
  obtain ⟨h1, h2, ⟨t, t1, t2⟩, h4, h5⟩ := h.th0 0
  obtain ⟨a1, a2, a3, a4, a5, a6, a7, a8⟩ := CK.up h2 (Nat.le_succ k) (B' := ((k + 1 : Nat) : Int) * 1000000000000000) (by omega)
  have o : ∀ (X : MI) g' j', g' ≠ 6 → uI X 6 j y g' j' = X g' j' := fun X g' j' h' => if_neg (fun z => h' z.1)
  refine ⟨h1.set 6 j y (by unfold fre; omega), ⟨⟨a1.1.congr2 (fun g j hg => o I g j (by omega)), a1.2.1, fun i hi => ?_, a1.2.2.2⟩, a2, a3, a4, a5, a6, a7, a8.int (fun c => o I 26 c (by decide))⟩, ⟨t, by omega, t2⟩, h4, h5⟩
  show ∃ r : Nat, r ≤ 100 ∧ uI I 6 j y 6 i = nI r
  rw [uI_at]
  by_cases c : (6 : Nat) = 6 ∧ i = j
  · rw [if_pos c]; exact ⟨b, hb9, hy⟩
  · rw [if_neg c]; exact a1.2.2.1 i hi
theorem v_trust {k nb no nc : Nat} {I P : MI} {J N : MJ} (h : IV k nb no nc I J P N) {z : Int32} (w : Int32) (j : Nat) {m : Nat} (hz : z = nI m) (hm : m ≤ 1000000) : IV (k + 1) nb no nc (uI (uI I 10 j z) 11 j w) J (uI (uI (uI P 40 0 0) 10 j z) 11 j w) N := by
  obtain ⟨h1, h2, ⟨t, t1, t2⟩, h4, h5⟩ := h.th0 0
  obtain ⟨a1, a2, a3, a4, a5, a6, a7, a8⟩ := CK.up h2 (Nat.le_succ k) (B' := ((k + 1 : Nat) : Int) * 1000000000000000) (by omega)
  have o : ∀ (X : MI) g' j', g' ≠ 10 → g' ≠ 11 → uI (uI X 10 j z) 11 j w g' j' = X g' j' := fun X g' j' h' h'' => by rw [uI_at, if_neg (fun z => h'' z.1), uI_at, if_neg (fun z => h' z.1)]
  refine ⟨(h1.set 10 j z (by unfold fre; omega)).set 11 j w (by unfold fre; omega), ⟨⟨a1.1.congr2 (fun g j hg => o I g j (by omega) (by omega)), a1.2.1, a1.2.2.1, a1.2.2.2⟩, fun i => ?_, a3, a4, a5, a6, a7, a8.int (fun c => o I 26 c (by decide) (by decide))⟩, ⟨t, by omega, t2⟩, h4, h5⟩
  show ∃ r : Nat, r ≤ 1000000 ∧ uI (uI I 10 j z) 11 j w 10 i = nI r
  rw [uI_at, if_neg (fun z => absurd z.1 (by decide)), uI_at]
  by_cases c : (10 : Nat) = 10 ∧ i = j
  · rw [if_pos c]; exact ⟨m, hm, hz⟩
  · rw [if_neg c]; exact a2 i
theorem v_festival {k nb no nc : Nat} {I P : MI} {J N : MJ} (h : IV k nb no nc I J P N) {z : Int32} (hz : hw_bo z) : IV (k + 1) nb no nc (uI I 4 0 z) J (uI (uI P 40 0 0) 4 0 z) N := by
  obtain ⟨h1, h2, ⟨t, t1, t2⟩, h4, h5⟩ := h.th0 0
  obtain ⟨a1, a2, a3, a4, a5, a6, a7, a8⟩ := CK.up h2 (Nat.le_succ k) (B' := ((k + 1 : Nat) : Int) * 1000000000000000) (by omega)
  obtain ⟨q1, q2, q3, q4, q5, q6, q7⟩ := a1.1
  exact ⟨h1.set 4 0 z (by unfold fre; omega), ⟨⟨⟨q1, q2, q3, (show hw_bo (uI I 4 0 z 4 0) from (show uI I 4 0 z 4 0 = z from if_pos ⟨rfl, rfl⟩) ▸ hz), q5, q6, q7⟩, a1.2.1, a1.2.2.1, a1.2.2.2⟩, a2, a3, a4, a5, a6, a7, a8.int (fun c => rfl)⟩, ⟨t, by omega, t2⟩, h4, h5⟩
theorem v_broker {k nb no nc : Nat} {I P : MI} {J N : MJ} (h : IV k nb no nc I J P N) {x y z : Int32} {t0 c0 r0 : Nat} (hx : x = nI t0) (ht0 : t0 < 8) (hy : y = nI c0) (hc0 : c0 ≤ 1000000) (hz : z = nI r0) (hr0 : r0 ≤ 100) (hnb : nb < 12) : IV (k + 1) (nb + 1) no nc (i_broker I x z nb) (uJ J 0 nb y.toInt64) (uI (uI (uI (uI P 40 0 0) 5 nb x) 6 nb z) 0 0 (P 0 0 + 1)) (uJ N 0 nb y.toInt64) := by
  have hri0 := h.ints 0 0 (by unfold shd; omega)
  obtain ⟨h1, h2, ⟨t, t1, t2⟩, h4, h5⟩ := h.th0 0
  obtain ⟨a1, a2, a3, a4, a5, a6, a7, a8⟩ := CK.up h2 (Nat.le_succ k) (B' := ((k + 1 : Nat) : Int) * 1000000000000000) (by omega)
  obtain ⟨⟨r1, r2, r3, r4⟩, hv, hq, hs, hzz⟩ := h1
  obtain ⟨q1, q2, q3, q4, q5, q6, q7⟩ := a1.1
  have o : ∀ (X : MI) (u : Int32) g' j', g' ≠ 0 → g' ≠ 5 → g' ≠ 6 → uI (uI (uI X 5 nb x) 6 nb z) 0 0 u g' j' = X g' j' := fun X u g' j' h1 h2 h3 => by rw [uI_at, if_neg (fun z => h1 z.1), uI_at, if_neg (fun z => h3 z.1), uI_at, if_neg (fun z => h2 z.1)]
  have o0 : ∀ (X : MI) (u : Int32), uI (uI (uI X 5 nb x) 6 nb z) 0 0 u 0 0 = u := fun X u => if_pos ⟨rfl, rfl⟩
  have q1' : I 0 0 = nI nb := q1.1
  have e0 : I 0 0 + 1 = nI (nb + 1) := by rw [q1', nI_1]
  have hJ0 : ∀ (X : MJ) g j, g ≠ 0 → uJ X 0 nb y.toInt64 g j = X g j := fun X g j hg => if_neg (fun z => hg z.1)
  have oI : ∀ g' j', g' ≠ 0 → g' ≠ 5 → g' ≠ 6 → i_broker I x z nb g' j' = I g' j' := fun g' j' h1 h2 h3 => o I (I 0 0 + 1) g' j' h1 h2 h3
  have oP : ∀ g' j', g' ≠ 0 → g' ≠ 5 → g' ≠ 6 → uI (uI (uI (uI P 40 0 0) 5 nb x) 6 nb z) 0 0 (P 0 0 + 1) g' j' = uI P 40 0 0 g' j' := fun g' j' h1 h2 h3 => o _ (P 0 0 + 1) g' j' h1 h2 h3
  have R : ri (i_broker I x z nb) (uI (uI (uI (uI P 40 0 0) 5 nb x) 6 nb z) 0 0 (P 0 0 + 1)) := by
    rw [hri0]
    exact ((ri.u r1 5 nb x).u 6 nb z).u 0 0 (I 0 0 + 1)
  refine ⟨⟨⟨R, r2.congr (fun j => oI 19 j (by decide) (by decide) (by decide)) (fun j => oI 21 j (by decide) (by decide) (by decide)) (fun j => oP 21 j (by decide) (by decide) (by decide)), r3.u 0 nb y.toInt64, ?_⟩, fun c hc => hv c hc, hq.congr (fun g' j' hg' => oI g' j' (by omega) (by omega) (by omega)) (fun o' ho => ?_), hs.congr (fun o' ho => ⟨oI 12 o' (by decide) (by decide) (by decide), oI 14 o' (by decide) (by decide) (by decide), stn (oI 16 o' (by decide) (by decide) (by decide))⟩) (fun c hc => ⟨oI 24 c (by decide) (by decide) (by decide), oI 27 c (by decide) (by decide) (by decide)⟩) (fun j => hJ0 N 4 j (by decide)), ?_⟩, ⟨⟨⟨⟨?_, by omega⟩, ⟨q2.1, q2.2⟩, ⟨q3.1, q3.2⟩, q4, fun i hi => ?_, q6.congr (fun g j hg => oI g j (by omega) (by omega) (by omega)), q7.congr (fun g j hg => oI g j (by omega) (by omega) (by omega))⟩, a1.2.1, fun i hi => ?_, fun j => ?_⟩, a2, fun o' ho k' hk' => ?_, a4, a5, a6, fun a b ha hb9 => ?_, fun j => ?_⟩, ⟨t, by omega, t2⟩, h4, h5⟩
  · obtain ⟨p1, p2, p3, p4, p5, p6⟩ := r4
    refine ⟨⟨?_, by omega⟩, ⟨p2.1, p2.2⟩, ⟨p3.1, p3.2⟩, p4.congr (fun g j hg => oP g j (by omega) (by omega) (by omega)), p5.congr (fun g j hg => oP g j (by omega) (by omega) (by omega)), p6⟩
    exact (show P 0 0 + 1 = nI (nb + 1) by rw [hri0]; exact e0)
  · show ∃ s : Nat, s ≤ 5 ∧ i_broker I x z nb 16 o' = nI s
    exact hq.2 o' ho
  · exact hzz
  · exact e0
  · show ∃ t : Nat, t < 8 ∧ uI (uI (uI I 5 nb x) 6 nb z) 0 0 (I 0 0 + 1) 5 i = nI t
    rw [uI_at, if_neg (fun z => absurd z.1 (by decide)), uI_at, if_neg (fun z => absurd z.1 (by decide)), uI_at]
    by_cases c : (5 : Nat) = 5 ∧ i = nb
    · rw [if_pos c]; exact ⟨t0, ht0, hx⟩
    · rw [if_neg c]; exact q5 i hi
  · show ∃ r : Nat, r ≤ 100 ∧ uI (uI (uI I 5 nb x) 6 nb z) 0 0 (I 0 0 + 1) 6 i = nI r
    rw [uI_at, if_neg (fun z => absurd z.1 (by decide)), uI_at]
    by_cases c : (6 : Nat) = 6 ∧ i = nb
    · rw [if_pos c]; exact ⟨r0, hr0, hz⟩
    · rw [if_neg c, uI_at, if_neg (fun z => absurd z.1 (by decide))]; exact a1.2.2.1 i hi
  · exact a1.2.2.2 j
  · exact Nat.lt_succ_of_lt (a3 o' ho k' hk')
  · exact a7 a b ha hb9
  · show 0 ≤ (uJ J 0 nb y.toInt64 0 j).toInt ∧ (uJ J 0 nb y.toInt64 0 j).toInt ≤ 3000000 * ((k + 1 : Nat) : Int) + 1000000 * (ar (i_broker I x z nb) nc : Int)
    rw [uJ_at, ar_congr nc (fun c _ => oI 26 c (by decide) (by decide) (by decide))]
    by_cases c : (0 : Nat) = 0 ∧ j = nb
    · rw [if_pos c, i32l, hy, nI_toInt (by omega)]
      omega
    · rw [if_neg c]; exact a8 j
