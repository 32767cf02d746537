/-! one hall by itself: what brokers are worth, what senders gave, what came and went -/
theorem SM_cut {f : Nat → Int64} {m : Nat} (n : Nat) (h : m ≤ n) (hz : ∀ i, m ≤ i → f i = 0) : SM f n = SM f m := by
  induction n with
  | zero =>
    have : m = 0 := by omega
    subst this; rfl
  | succ n ih =>
    by_cases e : m = n + 1
    · subst e; rfl
    · rw [SM_s, ih (by omega), hz n (by omega)]
      grind
theorem SM_add (f g : Nat → Int64) (n : Nat) : SM (fun i => f i + g i) n = SM f n + SM g n := by
  induction n with
  | zero => rfl
  | succ n ih => rw [SM_s, SM_s, SM_s, ih]; grind
theorem SM_sub (f g : Nat → Int64) (n : Nat) : SM (fun i => f i - g i) n = SM f n - SM g n := by
  induction n with
  | zero => show (0 : Int64) = 0 - 0; decide
  | succ n ih => rw [SM_s, SM_s, SM_s, ih]; grind
theorem SM_neg (f : Nat → Int64) (n : Nat) : SM (fun i => -f i) n = -SM f n := by
  induction n with
  | zero => show (0 : Int64) = -0; decide
  | succ n ih => rw [SM_s, SM_s, ih]; grind
/-- what is owed both ways is nothing together -/
theorem SM_skew {F : Nat → Nat → Int64} (n : Nat) (hs : ∀ a b, a < n → b < n → F b a = -F a b) (hd : ∀ a, a < n → F a a = 0) : SM (fun a => SM (F a) n) n = 0 := by
  induction n with
  | zero => rfl
  | succ n ih =>
    have e1 : SM (fun a => SM (F a) (n + 1)) n = SM (fun a => SM (F a) n + F a n) n := SM_congr n (fun a _ => SM_s (F a) n)
    have e2 : SM (F n) n = SM (fun a => -F a n) n := SM_congr n (fun b hb9 => hs b n (by omega) (by omega))
    rw [SM_s, e1, SM_add, SM_s, ih (fun a b ha hb9 => hs a b (by omega) (by omega)) (fun a ha => hd a (by omega)), e2, SM_neg, hd n (by omega)]
    grind
def wv (J : MJ) (nb a : Nat) : Int64 := if a < nb then lp (sf_wo J a) nb 0 (J 0 a) else 0
def gv (I : MI) (no k : Nat) : Int64 := if k < no then (I 14 k).toInt64 else 0
theorem wo_eq (J : MJ) (a : Nat) (n : Nat) (s : Int64) : lp (sf_wo J a) n 0 s = s - SM (fun b => J 1 (12 * a + b)) n := by
  induction n with
  | zero =>
    show s = s - 0
    grind
  | succ n ih =>
    rw [lp_last, ih, SM_s]
    show s - SM (fun b => J 1 (12 * a + b)) n - J 1 (12 * a + (0 + n)) = _
    rw [Nat.zero_add]
    grind
theorem sk_zero {J : MJ} {B : Int} (hs : sk J) (hb9 : bd J B) (hB : B < 4611686018427387904) {a : Nat} (ha : a < 12) : J 1 (12 * a + a) = 0 := by
  have h1 := hs a a ha ha
  have h2 := hb9 (12 * a + a)
  generalize J 1 (12 * a + a) = x at h1 h2
  have e : (-x).toInt = -x.toInt := by
    rw [Int64.toInt_neg]
    exact Int.bmod_eq_of_le (by omega) (by omega)
  have e2 := congrArg Int64.toInt h1
  rw [e] at e2
  apply Int64.toInt_inj.mp
  show x.toInt = 0
  omega
theorem worth_eq {J : MJ} {B : Int} {nb : Nat} (hs : sk J) (hb9 : bd J B) (hB : B < 4611686018427387904) (hnb : nb ≤ 12) : SM (wv J nb) 12 = SM (J 0) nb := by
  have e1 : SM (wv J nb) 12 = SM (wv J nb) nb := SM_cut 12 hnb (fun i hi => if_neg (by omega))
  have e2 : SM (wv J nb) nb = SM (fun a => J 0 a - SM (fun b => J 1 (12 * a + b)) nb) nb := SM_congr nb (fun a ha => by
    unfold wv
    rw [if_pos ha, wo_eq])
  have e3 := SM_skew (F := fun a b => J 1 (12 * a + b)) nb (fun a b ha hb9 => hs a b (by omega) (by omega)) (fun a ha => sk_zero hs hb9 hB (by omega))
  rw [e1, e2, SM_sub, e3]
  grind
theorem gave_eq (I : MI) {no : Nat} (hno : no ≤ 40) : SM (gv I no) 40 = lp (sf_sg I) no 0 0 := by
  have e1 : SM (gv I no) 40 = SM (gv I no) no := SM_cut 40 hno (fun i hi => if_neg (by omega))
  have e2 : SM (gv I no) no = SM (fun k => (I 14 k).toInt64) no := SM_congr no (fun a ha => if_pos ha)
  rw [e1, e2]
  rfl
theorem money_eq {k nb no nc : Nat} {I P : MI} {J N : MJ} (h : IV k nb no nc I J P N) : r_sum I J 6 nb no nc = gm nb nc P N + r_sum I J 0 nb no nc - r_sum I J 1 nb no nc - r_sum I J 2 nb no nc - r_sum I J 3 nb no nc - r_sum I J 4 nb no nc - r_sum I J 5 nb no nc := by
  rw [sum_same h, sum_same h, sum_same h, sum_same h, sum_same h, sum_same h, sum_same h]
  have p6 : pr_sum P N 6 nb no nc = SM (N 0) nb := rfl
  have p5 : pr_sum P N 5 nb no nc = SM (oR P) nc := sO_eq P nc
  have p0 : pr_sum P N 0 nb no nc = N 4 0 := rfl
  have p1 : pr_sum P N 1 nb no nc = N 4 1 := rfl
  have p2 : pr_sum P N 2 nb no nc = N 4 2 := rfl
  have p3 : pr_sum P N 3 nb no nc = N 4 3 := rfl
  have p4 : pr_sum P N 4 nb no nc = N 4 4 := rfl
  rw [p6, p5, p0, p1, p2, p3, p4]
  unfold gm
  grind
/-! what is asked of the hall itself, where it doesn't throw -/
theorem d_sum {l : Launch} {D : va_G} {b0 k nb no nc : Nat} {I P X : MI} {J N Y : MJ} {o : Int64} (hlt : l.stackTraces = false) (h : IV k nb no nc I J P N) {x : Int32} {r : Int64} (he : e_sum x = none) (hv : r_sum I J x nb no nc = r) : hX l yX5_sum wX5_sum rX5_sum D b0 [.ref (hw_ad b0 0 0), .int x] I J X Y o none (some (.long r)) I J X Y o := by
  rw [← he, ← hv]; exact m_X5_sum hlt h.ci
theorem d_brokerOf {l : Launch} {D : va_G} {b0 k nb no nc : Nat} {I P X : MI} {J N Y : MJ} {o : Int64} (hlt : l.stackTraces = false) (h : IV k nb no nc I J P N) {x y : Int32} {r : Int64} (he : e_brokerOf I x y = none) (hv : r_brokerOf I J x y nb = r) : hX l yX5_brokerOf wX5_brokerOf rX5_brokerOf D b0 [.ref (hw_ad b0 0 0), .int x, .int y] I J X Y o none (some (.long r)) I J X Y o := by
  rw [← he, ← hv]; exact m_X5_brokerOf hlt h.ci
theorem d_debt {l : Launch} {D : va_G} {b0 k nb no nc : Nat} {I P X : MI} {J N Y : MJ} {o : Int64} (hlt : l.stackTraces = false) (h : IV k nb no nc I J P N) {x y z : Int32} {r : Int64} (he : e_debt I x y = none) (hv : r_debt J x y z = r) : hX l yX5_debt wX5_debt rX5_debt D b0 [.ref (hw_ad b0 0 0), .int x, .int y, .int z] I J X Y o none (some (.long r)) I J X Y o := by
  rw [← he, ← hv]; exact m_X5_debt hlt h.ci
theorem d_agree {l : Launch} {D : va_G} {b0 k nb no nc : Nat} {I P X : MI} {J N Y : MJ} {o : Int64} (hlt : l.stackTraces = false) (h : IV k nb no nc I J P N) {x y : Int32} {r : Int32} (he : e_debt I x y = none) (hv : r_agree J x y = r) : hX l yX5_agree wX5_agree rX5_agree D b0 [.ref (hw_ad b0 0 0), .int x, .int y] I J X Y o none (some (.int r)) I J X Y o := by
  rw [← he, ← hv]; exact m_X5_agree hlt h.ci
theorem d_orderOf {l : Launch} {D : va_G} {b0 k nb no nc : Nat} {I P X : MI} {J N Y : MJ} {o : Int64} (hlt : l.stackTraces = false) (h : IV k nb no nc I J P N) {x y : Int32} {r : Int32} (he : e_orderOf I x y = none) (hv : r_orderOf I x y = r) : hX l yX5_orderOf wX5_orderOf rX5_orderOf D b0 [.ref (hw_ad b0 0 0), .int x, .int y] I J X Y o none (some (.int r)) I J X Y o := by
  rw [← he, ← hv]; exact m_X5_orderOf hlt h.ci
theorem d_wayOf {l : Launch} {D : va_G} {b0 k nb no nc : Nat} {I P X : MI} {J N Y : MJ} {o : Int64} (hlt : l.stackTraces = false) (h : IV k nb no nc I J P N) {x y : Int32} {r : Int32} (he : e_wayOf I x y = none) (hv : r_wayOf I x y = r) : hX l yX5_wayOf wX5_wayOf rX5_wayOf D b0 [.ref (hw_ad b0 0 0), .int x, .int y] I J X Y o none (some (.int r)) I J X Y o := by
  rw [← he, ← hv]; exact m_X5_wayOf hlt h.ci
theorem ix_y {I : MI} {g n a : Nat} (hc : I g 0 = nI n) (hn : n ≤ 40) (ha : a < n) : sx_ix (nI a) (I g 0) = none := by
  rcases ix_cs (x := nI a) hc hn with ⟨h, _⟩ | ⟨h, _⟩
  · exact h
  · unfold sx_ix at h
    rw [if_neg (nI_pos (by omega)), hc, if_pos (nI_lt ha (by omega))] at h
    cases h
theorem ix_n {I : MI} {g n a : Nat} (hc : I g 0 = nI n) (hn : n ≤ 40) (ha : n ≤ a) (ha2 : a < 100) : sx_ix (nI a) (I g 0) = some eI := by
  unfold sx_ix
  rw [if_neg (nI_pos (by omega)), hc, if_neg (nI_nlt ha (by omega))]
