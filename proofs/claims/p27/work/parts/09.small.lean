/-! loops -/
def lp {σ : Type} (f : Nat → σ → σ) : Nat → Nat → σ → σ
  | 0, _, s => s
  | n + 1, i, s => lp f n (i + 1) (f i s)
theorem lp_back {σ : Type} (f : Nat → σ → σ) (G : Nat → σ → Prop) (Inv : Nat → σ → Prop) (hi : Nat) (stp : ∀ i s, i < hi → Inv i s → G (i + 1) (f i s) → G i s) (inv : ∀ i s, i < hi → Inv i s → Inv (i + 1) (f i s)) : ∀ n i s, i + n = hi → Inv i s → G hi (lp f n i s) → G i s := by
  intro n
  induction n with
  | zero =>
    intro i s h _ g
    have e : i = hi := by omega
    subst e
    exact g
  | succ n ih =>
    intro i s h hs g
    have hlt : i < hi := by omega
    exact stp i s hlt hs (ih (i + 1) (f i s) (by omega) (inv i s hlt hs) g)
theorem lp_inv {σ : Type} (f : Nat → σ → σ) (Inv : Nat → σ → Prop) (hi : Nat) (inv : ∀ i s, i < hi → Inv i s → Inv (i + 1) (f i s)) : ∀ n i s, i + n = hi → Inv i s → Inv hi (lp f n i s) := by
  intro n
  induction n with
  | zero =>
    intro i s h g
    have e : i = hi := by omega
    subst e
    exact g
  | succ n ih =>
    intro i s h hs
    exact ih (i + 1) (f i s) (by omega) (inv i s (by omega) hs)
theorem lp_last {σ : Type} (f : Nat → σ → σ) : ∀ n i s, lp f (n + 1) i s = f (i + n) (lp f n i s) := by
  intro n
  induction n with
  | zero => intro i s; rfl
  | succ n ih =>
    intro i s
    show lp f (n + 1) (i + 1) (f i s) = _
    rw [ih (i + 1) (f i s)]
    have e : i + 1 + n = i + (n + 1) := by omega
    rw [e]
    rfl
def hw_bo (x : Int32) : Prop := x = 0 ∨ x = 1
theorem hw_bon {x : Int32} (h : hw_bo x) : narrow .boolean (.int x) = .int x := by
  rcases h with rfl | rfl <;> decide
theorem hw_bof {x : Int32} (h : hw_bo x) : fits .boolean (.int x) = true := by
  rcases h with rfl | rfl <;> decide
theorem hw_hbo (q : Prop) [Decidable q] : hw_bo (hb q) := by
  unfold hb
  by_cases h : q
  · exact Or.inr (if_pos h)
  · exact Or.inl (if_neg h)
theorem hb_t {q : Prop} [Decidable q] (h : q) : hb q = 1 := if_pos h
theorem hb_f {q : Prop} [Decidable q] (h : ¬ q) : hb q = 0 := if_neg h
section HX
variable {p : Program} {l : Launch} {e : Env} {R : Room} {s : State} {m : MethodId} {args : Array Value} {below : List Frame} {meth : Method} {c : Code} {Q : State → Prop}
variable {D : va_G} {b0 nL : Nat} {xb : Bool} {ka kb : Nat} {pc : Nat} {L L' : List (Nat × Value)} {st : List Value} {cc : ByteArray} {own : String} {I : MI} {J : MJ} {P : MI} {N : MJ} {o : Int64}
theorem hq_alen (C : hw_C p s m args c D b0 cc own nL) {f i Nc Ns : Nat} {v : VF} (hdg : decode cc pc = .ok (.arraylength, 1)) (hkc : hw_kc f = 10) (ho : hw_ob f = false) (hNc : hw_cn f = Nc) (hNs : hw_sz f = Ns) (hi : i < Nc) (k : hw_V p l e R s m args below meth c Q D b0 nL xb ka kb (hw_n o) (pc + 1) L (.int (nI Ns) :: st) v) : hw_V p l e R s m args below meth c Q D b0 nL xb ka kb (hw_n o) pc L (.ref (hw_ad b0 f i) :: st) v := by
  intro H locs ls hH hZ hS hl
  obtain ⟨h1, h2⟩ := hw_nt (o := o) hNc hi
  have h3 := (hH f i h1 h2).2 ho
  rw [hkc, hNs] at h3
  exact W.alen (n := nI Ns) C.1 C.2.1 h3 ((C.2.2.2.2.2.1.2 0 _ rfl).1 _ _) (by rw [arrV_size] <;> rfl) rfl rfl hdg (k H locs ls hH hZ hS hl)
/-- the end of a stretch: the locals in another order, the stores by equal names -/
theorem hq_fin {I' : MI} {J' : MJ} {P' : MI} {N' : MJ} {o' : Int64} (ks : List Nat) (hL : lv_pick L ks = L') (h1 : I = I') (h2 : J = J') (h3 : P = P') (h4 : N = N') (h5 : o = o') (k : hw_V p l e R s m args below meth c Q D b0 nL xb ka kb (hw_n o) pc L' st (hw_vl b0 I' J' P' N' o')) : hw_V p l e R s m args below meth c Q D b0 nL xb ka kb (hw_n o) pc L st (hw_vl b0 I J P N o) := by
  subst h1 h2 h3 h4 h5
  exact hq_perm ks hL k
end HX
def sp_lim (I : MI) (i j : Nat) (fe : Int32) : Int32 := if fe = 0 then I 10 (12 * i + j) else if I 11 (12 * i + j) = 0 then I 10 (12 * i + j) else 2 * I 10 (12 * i + j)
set_option maxHeartbeats 4000000 in
set_option maxRecDepth 100000 in
theorem m_X0_isGood {l : Launch} {D : va_G} {b0 : Nat} {I : MI} {J : MJ} {P : MI} {N : MJ} {o : Int64} {i : Nat} (hi : i < 12) : hM l yX0_isGood cX0_isGood 1 (some .boolean) rX0_isGood D b0 [.ref (hw_ad b0 2 i)] I J P N o (some (.int (hb (I 7 i = 0)))) I J P N o := by
  refine hw_Mof (by decide) [(0, .ref _)] rfl (Nat.le_of_ble_eq_true rfl) ?_
  intro p e s m args below meth c C hr hlk hnm
  refine hq_aload_n (q := 0) C dX0_isGood_0 rfl rfl ?_
  refine hq_getI (f := 2) (g := 7) (Nc := 12) (Ns := 8) C fr_X0_19 dX0_isGood_1 rfl rfl rfl rfl rfl (by decide) (by first | assumption | omega) ?_
  refine hq_if_ne (tgt := 11) C dX0_isGood_4 (by decide) (fun c_4 => ?_) (fun c_4 => ?_)
  · refine hq_iconst (y := 0) C dX0_isGood_11 (by decide) ?_
    exact hq_zret C hr hlk dX0_isGood_12 (by decide) (by simp [hb, c_4]) rfl
  · refine hq_iconst (y := 1) C dX0_isGood_7 (by decide) ?_
    refine hq_goto (tgt := 12) C dX0_isGood_8 (by decide) ?_
    exact hq_zret C hr hlk dX0_isGood_12 (by decide) (by simp [hb, c_4]) rfl
set_option maxHeartbeats 4000000 in
set_option maxRecDepth 100000 in
theorem m_X0_limitNow {l : Launch} {D : va_G} {b0 : Nat} {I : MI} {J : MJ} {P : MI} {N : MJ} {o : Int64} {i j : Nat} {x fe : Int32} (hi : i < 12) (hx : x = nI j) (hj : j < 12) : hM l yX0_limitNow cX0_limitNow 3 (some .int) rX0_limitNow D b0 [.ref (hw_ad b0 2 i), .int x, .int fe] I J P N o (some (.int (sp_lim I i j fe))) I J P N o := by
  refine hw_Mof (by decide) [(0, .ref _), (1, .int _), (2, .int _)] rfl (Nat.le_of_ble_eq_true rfl) ?_
  intro p e s m args below meth c C hr hlk hnm
  refine hq_iload_n (q := 2) C dX0_limitNow_0 rfl rfl ?_
  refine hq_if_eq (tgt := 24) C dX0_limitNow_1 (by decide) (fun c_1 => ?_) (fun c_1 => ?_)
  · refine hq_aload_n (q := 0) C dX0_limitNow_24 rfl rfl ?_
    refine hq_getR (f := 2) (g := 3) (Nc := 12) (Ns := 8) C fr_X0_9 dX0_limitNow_25 rfl rfl rfl rfl rfl (by decide) (by first | assumption | omega) ?_
    refine hq_iload_n (q := 1) C dX0_limitNow_28 rfl rfl ?_
    refine hq_ialdIw (f := 3) (g := 10) (w := 12) (Nc := 12) (Ns := 12) C dX0_limitNow_29 rfl rfl rfl ⟨rfl, by decide⟩ rfl rfl (by first | rfl | assumption) (by first | assumption | omega) (by first | assumption | omega) ?_
    exact hq_iret C hr hlk dX0_limitNow_30 (by simp [sp_lim, c_1]) rfl
  · refine hq_aload_n (q := 0) C dX0_limitNow_4 rfl rfl ?_
    refine hq_getR (f := 2) (g := 4) (Nc := 12) (Ns := 8) C fr_X0_15 dX0_limitNow_5 rfl rfl rfl rfl rfl (by decide) (by first | assumption | omega) ?_
    refine hq_iload_n (q := 1) C dX0_limitNow_8 rfl rfl ?_
    refine hq_zaldIw (f := 4) (g := 11) (w := 12) (Nc := 12) (Ns := 12) C dX0_limitNow_9 rfl rfl rfl ⟨rfl, by decide⟩ rfl rfl (by first | rfl | assumption) (by first | assumption | omega) (by first | assumption | omega) ?_
    refine hq_if_eq (tgt := 24) C dX0_limitNow_10 (by decide) (fun c_10 => ?_) (fun c_10 => ?_)
    · refine hq_aload_n (q := 0) C dX0_limitNow_24 rfl rfl ?_
      refine hq_getR (f := 2) (g := 3) (Nc := 12) (Ns := 8) C fr_X0_9 dX0_limitNow_25 rfl rfl rfl rfl rfl (by decide) (by first | assumption | omega) ?_
      refine hq_iload_n (q := 1) C dX0_limitNow_28 rfl rfl ?_
      refine hq_ialdIw (f := 3) (g := 10) (w := 12) (Nc := 12) (Ns := 12) C dX0_limitNow_29 rfl rfl rfl ⟨rfl, by decide⟩ rfl rfl (by first | rfl | assumption) (by first | assumption | omega) (by first | assumption | omega) ?_
      exact hq_iret C hr hlk dX0_limitNow_30 (by simp [sp_lim, c_1, c_10]) rfl
    · refine hq_iconst (y := 2) C dX0_limitNow_13 (by decide) ?_
      refine hq_aload_n (q := 0) C dX0_limitNow_14 rfl rfl ?_
      refine hq_getR (f := 2) (g := 3) (Nc := 12) (Ns := 8) C fr_X0_9 dX0_limitNow_15 rfl rfl rfl rfl rfl (by decide) (by first | assumption | omega) ?_
      refine hq_iload_n (q := 1) C dX0_limitNow_18 rfl rfl ?_
      refine hq_ialdIw (f := 3) (g := 10) (w := 12) (Nc := 12) (Ns := 12) C dX0_limitNow_19 rfl rfl rfl ⟨rfl, by decide⟩ rfl rfl (by first | rfl | assumption) (by first | assumption | omega) (by first | assumption | omega) ?_
      refine hq_imul C dX0_limitNow_20 ?_
      refine hq_goto (tgt := 30) C dX0_limitNow_21 (by decide) ?_
      exact hq_iret C hr hlk dX0_limitNow_30 (by simp [sp_lim, c_1, c_10]) rfl
def sp_change (J : MJ) (a b : Nat) (x : Int64) : MJ :=
  uJ (uJ J 1 (12 * a + b) (J 1 (12 * a + b) + x)) 1 (12 * b + a) (uJ J 1 (12 * a + b) (J 1 (12 * a + b) + x) 1 (12 * b + a) - x)
def sp_write (J : MJ) (a b : Nat) (x : Int64) : MJ := uJ J 2 (12 * a + b) (J 2 (12 * a + b) + x)
def sp_known (J : MJ) (a b : Nat) (x : Int64) : MJ := sp_write (sp_write (sp_change J a b x) a b x) b a (-x)
set_option maxHeartbeats 4000000 in
set_option maxRecDepth 100000 in
theorem m_X2_change {l : Launch} {D : va_G} {b0 : Nat} {I : MI} {J : MJ} {P : MI} {N : MJ} {o : Int64} {a b : Nat} {x y : Int32} {z : Int64} (hx : x = nI a) (ha : a < 12) (hy : y = nI b) (hb9 : b < 12) : hM l yX2_change cX2_change 5 none rX2_change D b0 [.ref (hw_ad b0 11 0), .int x, .int y, .long z] I J P N o none I (sp_change J a b z) P N o := by
  refine hw_Mof (by decide) [(0, .ref _), (1, .int _), (2, .int _), (3, .long _)] rfl (Nat.le_of_ble_eq_true rfl) ?_
  intro p e s m args below meth c C hr hlk hnm
  refine hq_aload_n (q := 0) C dX2_change_0 rfl rfl ?_
  refine hq_getR (f := 11) (g := 12) (Nc := 1) (Ns := 2) C fr_X2_11 dX2_change_1 rfl rfl rfl rfl rfl (by decide) Nat.one_pos ?_
  refine hq_iload_n (q := 1) C dX2_change_4 rfl rfl ?_
  refine hq_aaldJR0 (f := 12) (g := 13) (Nc := 1) (Ns := 12) C dX2_change_5 rfl rfl rfl rfl rfl rfl (by first | rfl | assumption) (by first | assumption | omega) Nat.one_pos ?_
  refine hq_iload_n (q := 2) C dX2_change_6 rfl rfl ?_
  refine hq_dup2 C dX2_change_7 rfl rfl ?_
  refine hq_laldJw (f := 13) (g := 1) (w := 12) (Nc := 12) (Ns := 12) C dX2_change_8 rfl rfl rfl ⟨rfl, by decide⟩ rfl rfl (by first | rfl | assumption) (by first | assumption | omega) (by first | assumption | omega) ?_
  refine hq_lload_n (q := 3) C dX2_change_9 rfl rfl ?_
  refine hq_ladd C dX2_change_10 ?_
  refine hq_lastJw (f := 13) (g := 1) (w := 12) (Nc := 12) (Ns := 12) C dX2_change_11 rfl rfl rfl ⟨rfl, by decide⟩ rfl rfl (by first | rfl | assumption) (by first | assumption | omega) (by first | assumption | omega) ?_
  refine hq_aload_n (q := 0) C dX2_change_12 rfl rfl ?_
  refine hq_getR (f := 11) (g := 12) (Nc := 1) (Ns := 2) C fr_X2_11 dX2_change_13 rfl rfl rfl rfl rfl (by decide) Nat.one_pos ?_
  refine hq_iload_n (q := 2) C dX2_change_16 rfl rfl ?_
  refine hq_aaldJR0 (f := 12) (g := 13) (Nc := 1) (Ns := 12) C dX2_change_17 rfl rfl rfl rfl rfl rfl (by first | rfl | assumption) (by first | assumption | omega) Nat.one_pos ?_
  refine hq_iload_n (q := 1) C dX2_change_18 rfl rfl ?_
  refine hq_dup2 C dX2_change_19 rfl rfl ?_
  refine hq_laldJw (f := 13) (g := 1) (w := 12) (Nc := 12) (Ns := 12) C dX2_change_20 rfl rfl rfl ⟨rfl, by decide⟩ rfl rfl (by first | rfl | assumption) (by first | assumption | omega) (by first | assumption | omega) ?_
  refine hq_lload_n (q := 3) C dX2_change_21 rfl rfl ?_
  refine hq_lsub C dX2_change_22 ?_
  refine hq_lastJw (f := 13) (g := 1) (w := 12) (Nc := 12) (Ns := 12) C dX2_change_23 rfl rfl rfl ⟨rfl, by decide⟩ rfl rfl (by first | rfl | assumption) (by first | assumption | omega) (by first | assumption | omega) ?_
  exact hq_vret C hr hlk dX2_change_24 rfl
set_option maxHeartbeats 4000000 in
set_option maxRecDepth 100000 in
theorem m_X2_write {l : Launch} {D : va_G} {b0 : Nat} {I : MI} {J : MJ} {P : MI} {N : MJ} {o : Int64} {a b : Nat} {x y : Int32} {z : Int64} (hx : x = nI a) (ha : a < 12) (hy : y = nI b) (hb9 : b < 12) : hM l yX2_write cX2_write 5 none rX2_write D b0 [.ref (hw_ad b0 11 0), .int x, .int y, .long z] I J P N o none I (sp_write J a b z) P N o := by
  refine hw_Mof (by decide) [(0, .ref _), (1, .int _), (2, .int _), (3, .long _)] rfl (Nat.le_of_ble_eq_true rfl) ?_
  intro p e s m args below meth c C hr hlk hnm
  refine hq_aload_n (q := 0) C dX2_write_0 rfl rfl ?_
  refine hq_getR (f := 11) (g := 14) (Nc := 1) (Ns := 2) C fr_X2_16 dX2_write_1 rfl rfl rfl rfl rfl (by decide) Nat.one_pos ?_
  refine hq_iload_n (q := 1) C dX2_write_4 rfl rfl ?_
  refine hq_aaldJR0 (f := 14) (g := 15) (Nc := 1) (Ns := 12) C dX2_write_5 rfl rfl rfl rfl rfl rfl (by first | rfl | assumption) (by first | assumption | omega) Nat.one_pos ?_
  refine hq_iload_n (q := 2) C dX2_write_6 rfl rfl ?_
  refine hq_dup2 C dX2_write_7 rfl rfl ?_
  refine hq_laldJw (f := 15) (g := 2) (w := 12) (Nc := 12) (Ns := 12) C dX2_write_8 rfl rfl rfl ⟨rfl, by decide⟩ rfl rfl (by first | rfl | assumption) (by first | assumption | omega) (by first | assumption | omega) ?_
  refine hq_lload_n (q := 3) C dX2_write_9 rfl rfl ?_
  refine hq_ladd C dX2_write_10 ?_
  refine hq_lastJw (f := 15) (g := 2) (w := 12) (Nc := 12) (Ns := 12) C dX2_write_11 rfl rfl rfl ⟨rfl, by decide⟩ rfl rfl (by first | rfl | assumption) (by first | assumption | omega) (by first | assumption | omega) ?_
  exact hq_vret C hr hlk dX2_write_12 rfl
set_option maxHeartbeats 4000000 in
set_option maxRecDepth 100000 in
theorem m_X2_changeKnown {l : Launch} {D : va_G} {b0 : Nat} {I : MI} {J : MJ} {P : MI} {N : MJ} {o : Int64} {a b : Nat} {x y : Int32} {z : Int64} (hx : x = nI a) (ha : a < 12) (hy : y = nI b) (hb9 : b < 12) : hM l yX2_changeKnown cX2_changeKnown 5 none rX2_changeKnown D b0 [.ref (hw_ad b0 11 0), .int x, .int y, .long z] I J P N o none I (sp_known J a b z) P N o := by
  refine hw_Mof (by decide) [(0, .ref _), (1, .int _), (2, .int _), (3, .long _)] rfl (Nat.le_of_ble_eq_true rfl) ?_
  intro p e s m args below meth c C hr hlk hnm
  refine hq_aload_n (q := 0) C dX2_changeKnown_0 rfl rfl ?_
  refine hq_iload_n (q := 1) C dX2_changeKnown_1 rfl rfl ?_
  refine hq_iload_n (q := 2) C dX2_changeKnown_2 rfl rfl ?_
  refine hq_lload_n (q := 3) C dX2_changeKnown_3 rfl rfl ?_
  refine hq_cVv (As := [.int _, .int _, .long _]) (rm := rX2_change) (f := 11) (Nc := 1) C (m_X2_change (by first | rfl | assumption) (by first | assumption | omega) (by first | rfl | assumption) (by first | assumption | omega)) wv_X2_change ml_X2_19 rfl rfl rfl Nat.one_pos rfl rfl rfl rfl ⟨Nat.le_of_ble_eq_true rfl, Nat.le_of_ble_eq_true rfl⟩ (Nat.le_of_ble_eq_true rfl) ⟨Nat.le_of_ble_eq_true rfl, Nat.le_of_ble_eq_true rfl⟩ dX2_changeKnown_4 ?_
  refine hq_aload_n (q := 0) C dX2_changeKnown_7 rfl rfl ?_
  refine hq_iload_n (q := 1) C dX2_changeKnown_8 rfl rfl ?_
  refine hq_iload_n (q := 2) C dX2_changeKnown_9 rfl rfl ?_
  refine hq_lload_n (q := 3) C dX2_changeKnown_10 rfl rfl ?_
  refine hq_cVv (As := [.int _, .int _, .long _]) (rm := rX2_write) (f := 11) (Nc := 1) C (m_X2_write (by first | rfl | assumption) (by first | assumption | omega) (by first | rfl | assumption) (by first | assumption | omega)) wv_X2_write ml_X2_23 rfl rfl rfl Nat.one_pos rfl rfl rfl rfl ⟨Nat.le_of_ble_eq_true rfl, Nat.le_of_ble_eq_true rfl⟩ (Nat.le_of_ble_eq_true rfl) ⟨Nat.le_of_ble_eq_true rfl, Nat.le_of_ble_eq_true rfl⟩ dX2_changeKnown_11 ?_
  refine hq_aload_n (q := 0) C dX2_changeKnown_14 rfl rfl ?_
  refine hq_iload_n (q := 2) C dX2_changeKnown_15 rfl rfl ?_
  refine hq_iload_n (q := 1) C dX2_changeKnown_16 rfl rfl ?_
  refine hq_lload_n (q := 3) C dX2_changeKnown_17 rfl rfl ?_
  refine hq_lneg C dX2_changeKnown_18 ?_
  refine hq_cVv (As := [.int _, .int _, .long _]) (rm := rX2_write) (f := 11) (Nc := 1) C (m_X2_write (by first | rfl | assumption) (by first | assumption | omega) (by first | rfl | assumption) (by first | assumption | omega)) wv_X2_write ml_X2_23 rfl rfl rfl Nat.one_pos rfl rfl rfl rfl ⟨Nat.le_of_ble_eq_true rfl, Nat.le_of_ble_eq_true rfl⟩ (Nat.le_of_ble_eq_true rfl) ⟨Nat.le_of_ble_eq_true rfl, Nat.le_of_ble_eq_true rfl⟩ dX2_changeKnown_19 ?_
  exact hq_vret C hr hlk dX2_changeKnown_22 rfl
set_option maxHeartbeats 4000000 in
set_option maxRecDepth 100000 in
theorem m_X3_firstBroker {l : Launch} {D : va_G} {b0 : Nat} {I : MI} {J : MJ} {P : MI} {N : MJ} {o : Int64} {i : Nat} (hi : i < 40) : hM l yX3_firstBroker cX3_firstBroker 1 (some .int) rX3_firstBroker D b0 [.ref (hw_ad b0 6 i)] I J P N o (some (.int (I 20 (12 * i + 0)))) I J P N o := by
  refine hw_Mof (by decide) [(0, .ref _)] rfl (Nat.le_of_ble_eq_true rfl) ?_
  intro p e s m args below meth c C hr hlk hnm
  refine hq_aload_n (q := 0) C dX3_firstBroker_0 rfl rfl ?_
  refine hq_getR (f := 6) (g := 7) (Nc := 40) (Ns := 10) C fr_X3_9 dX3_firstBroker_1 rfl rfl rfl rfl rfl (by decide) (by first | assumption | omega) ?_
  refine hq_iconst (y := 0) C dX3_firstBroker_4 (by decide) ?_
  refine hq_ialdIw (f := 7) (a := 0) (g := 20) (w := 12) (Nc := 40) (Ns := 12) C dX3_firstBroker_5 rfl rfl rfl ⟨rfl, by decide⟩ rfl rfl rfl (by decide) (by first | assumption | omega) ?_
  exact hq_iret C hr hlk dX3_firstBroker_6 rfl rfl
set_option maxHeartbeats 4000000 in
set_option maxRecDepth 100000 in
theorem m_X3_lastBroker {l : Launch} {D : va_G} {b0 : Nat} {I : MI} {J : MJ} {P : MI} {N : MJ} {o : Int64} {i n : Nat} (hi : i < 40) (hn : I 19 i = nI (n + 1)) (hn2 : n < 12) : hM l yX3_lastBroker cX3_lastBroker 1 (some .int) rX3_lastBroker D b0 [.ref (hw_ad b0 6 i)] I J P N o (some (.int (I 20 (12 * i + n)))) I J P N o := by
  refine hw_Mof (by decide) [(0, .ref _)] rfl (Nat.le_of_ble_eq_true rfl) ?_
  intro p e s m args below meth c C hr hlk hnm
  refine hq_aload_n (q := 0) C dX3_lastBroker_0 rfl rfl ?_
  refine hq_getI (f := 6) (g := 19) (Nc := 40) (Ns := 10) C fr_X3_18 dX3_lastBroker_1 rfl rfl rfl rfl rfl (by decide) (by first | assumption | omega) ?_
  refine hq_if_le (tgt := 33) C dX3_lastBroker_4 (by decide) (fun c_4 => absurd c_4 (by rw [hn]; exact nI_nle (Nat.succ_pos n) (by omega))) (fun c_4 => ?_)
  refine hq_aload_n (q := 0) C dX3_lastBroker_7 rfl rfl ?_
  refine hq_getI (f := 6) (g := 19) (Nc := 40) (Ns := 10) C fr_X3_18 dX3_lastBroker_8 rfl rfl rfl rfl rfl (by decide) (by first | assumption | omega) ?_
  refine hq_aload_n (q := 0) C dX3_lastBroker_11 rfl rfl ?_
  refine hq_getR (f := 6) (g := 7) (Nc := 40) (Ns := 10) C fr_X3_9 dX3_lastBroker_12 rfl rfl rfl rfl rfl (by decide) (by first | assumption | omega) ?_
  refine hq_alen (f := 7) (Nc := 40) (Ns := 12) C dX3_lastBroker_15 rfl rfl rfl rfl (by first | assumption | omega) ?_
  refine hq_icmp_gt (tgt := 33) C dX3_lastBroker_16 (by decide) (fun c_16 => absurd c_16 (by rw [hn]; exact nI_nlt (by omega) (by omega))) (fun c_16 => ?_)
  refine hq_aload_n (q := 0) C dX3_lastBroker_19 rfl rfl ?_
  refine hq_getR (f := 6) (g := 7) (Nc := 40) (Ns := 10) C fr_X3_9 dX3_lastBroker_20 rfl rfl rfl rfl rfl (by decide) (by first | assumption | omega) ?_
  refine hq_aload_n (q := 0) C dX3_lastBroker_23 rfl rfl ?_
  refine hq_getI (f := 6) (g := 19) (Nc := 40) (Ns := 10) C fr_X3_18 dX3_lastBroker_24 rfl rfl rfl rfl rfl (by decide) (by first | assumption | omega) ?_
  refine hq_iconst (y := 1) C dX3_lastBroker_27 (by decide) ?_
  refine hq_isub C dX3_lastBroker_28 ?_
  refine hq_ialdIw (f := 7) (a := n) (g := 20) (w := 12) (Nc := 40) (Ns := 12) C dX3_lastBroker_29 rfl rfl rfl ⟨rfl, by decide⟩ rfl rfl (by rw [hn]; exact nI_pred n) (by first | assumption | omega) (by first | assumption | omega) ?_
  refine hq_goto (tgt := 39) C dX3_lastBroker_30 (by decide) ?_
  exact hq_iret C hr hlk dX3_lastBroker_39 rfl rfl
set_option maxHeartbeats 4000000 in
set_option maxRecDepth 100000 in
theorem m_X3_brokerAt_in {l : Launch} {D : va_G} {b0 : Nat} {I : MI} {J : MJ} {P : MI} {N : MJ} {o : Int64} {i n k : Nat} {x : Int32} (hi : i < 40) (hn : I 19 i = nI n) (hn2 : n ≤ 12) (hx : x = nI k) (hk : k < n) : hM l yX3_brokerAt cX3_brokerAt 2 (some .int) rX3_brokerAt D b0 [.ref (hw_ad b0 6 i), .int x] I J P N o (some (.int (I 20 (12 * i + k)))) I J P N o := by
  refine hw_Mof (by decide) [(0, .ref _), (1, .int _)] rfl (Nat.le_of_ble_eq_true rfl) ?_
  intro p e s m args below meth c C hr hlk hnm
  refine hq_iload_n (q := 1) C dX3_brokerAt_0 rfl rfl ?_
  refine hq_if_lt (tgt := 30) C dX3_brokerAt_1 (by decide) (fun c_1 => absurd c_1 (by rw [hx]; exact nI_pos (by omega))) (fun c_1 => ?_)
  refine hq_iload_n (q := 1) C dX3_brokerAt_4 rfl rfl ?_
  refine hq_aload_n (q := 0) C dX3_brokerAt_5 rfl rfl ?_
  refine hq_getI (f := 6) (g := 19) (Nc := 40) (Ns := 10) C fr_X3_18 dX3_brokerAt_6 rfl rfl rfl rfl rfl (by decide) (by first | assumption | omega) ?_
  refine hq_icmp_ge (tgt := 30) C dX3_brokerAt_9 (by decide) (fun c_9 => absurd c_9 (by rw [hn, hx]; exact nI_ge hk (by omega))) (fun c_9 => ?_)
  refine hq_iload_n (q := 1) C dX3_brokerAt_12 rfl rfl ?_
  refine hq_aload_n (q := 0) C dX3_brokerAt_13 rfl rfl ?_
  refine hq_getR (f := 6) (g := 7) (Nc := 40) (Ns := 10) C fr_X3_9 dX3_brokerAt_14 rfl rfl rfl rfl rfl (by decide) (by first | assumption | omega) ?_
  refine hq_alen (f := 7) (Nc := 40) (Ns := 12) C dX3_brokerAt_17 rfl rfl rfl rfl (by first | assumption | omega) ?_
  refine hq_icmp_ge (tgt := 30) C dX3_brokerAt_18 (by decide) (fun c_18 => absurd c_18 (by rw [hx]; exact nI_ge (a := k) (b := 12) (by omega) (by decide))) (fun c_18 => ?_)
  refine hq_aload_n (q := 0) C dX3_brokerAt_21 rfl rfl ?_
  refine hq_getR (f := 6) (g := 7) (Nc := 40) (Ns := 10) C fr_X3_9 dX3_brokerAt_22 rfl rfl rfl rfl rfl (by decide) (by first | assumption | omega) ?_
  refine hq_iload_n (q := 1) C dX3_brokerAt_25 rfl rfl ?_
  refine hq_ialdIw (f := 7) (a := k) (g := 20) (w := 12) (Nc := 40) (Ns := 12) C dX3_brokerAt_26 rfl rfl rfl ⟨rfl, by decide⟩ rfl rfl hx (by omega) (by first | assumption | omega) ?_
  refine hq_goto (tgt := 31) C dX3_brokerAt_27 (by decide) ?_
  exact hq_iret C hr hlk dX3_brokerAt_31 rfl rfl
set_option maxHeartbeats 4000000 in
set_option maxRecDepth 100000 in
theorem m_X3_brokerAt_out {l : Launch} {D : va_G} {b0 : Nat} {I : MI} {J : MJ} {P : MI} {N : MJ} {o : Int64} {i n : Nat} {x : Int32} (hi : i < 40) (hn : I 19 i = nI n) (hx : x < 0 ∨ nI n ≤ x) : hM l yX3_brokerAt cX3_brokerAt 2 (some .int) rX3_brokerAt D b0 [.ref (hw_ad b0 6 i), .int x] I J P N o (some (.int (-1))) I J P N o := by
  refine hw_Mof (by decide) [(0, .ref _), (1, .int _)] rfl (Nat.le_of_ble_eq_true rfl) ?_
  intro p e s m args below meth c C hr hlk hnm
  refine hq_iload_n (q := 1) C dX3_brokerAt_0 rfl rfl ?_
  refine hq_if_lt (tgt := 30) C dX3_brokerAt_1 (by decide) (fun c_1 => ?_) (fun c_1 => ?_)
  · refine hq_iconst (y := -1) C dX3_brokerAt_30 (by decide) ?_
    exact hq_iret C hr hlk dX3_brokerAt_31 rfl rfl
  · refine hq_iload_n (q := 1) C dX3_brokerAt_4 rfl rfl ?_
    refine hq_aload_n (q := 0) C dX3_brokerAt_5 rfl rfl ?_
    refine hq_getI (f := 6) (g := 19) (Nc := 40) (Ns := 10) C fr_X3_18 dX3_brokerAt_6 rfl rfl rfl rfl rfl (by decide) (by first | assumption | omega) ?_
    refine hq_icmp_ge (tgt := 30) C dX3_brokerAt_9 (by decide) (fun c_9 => ?_) (fun c_9 => absurd (by rw [hn]; exact hx.resolve_left c_1) c_9)
    refine hq_iconst (y := -1) C dX3_brokerAt_30 (by decide) ?_
    exact hq_iret C hr hlk dX3_brokerAt_31 rfl rfl
set_option maxHeartbeats 4000000 in
set_option maxRecDepth 100000 in
theorem m_X3_isOpen {l : Launch} {D : va_G} {b0 : Nat} {I : MI} {J : MJ} {P : MI} {N : MJ} {o : Int64} {i : Nat} (hi : i < 40) : hM l yX3_isOpen cX3_isOpen 1 (some .boolean) rX3_isOpen D b0 [.ref (hw_ad b0 6 i)] I J P N o (some (.int (hb (I 16 i = 0 ∨ I 16 i = 1)))) I J P N o := by
  refine hw_Mof (by decide) [(0, .ref _)] rfl (Nat.le_of_ble_eq_true rfl) ?_
  intro p e s m args below meth c C hr hlk hnm
  refine hq_aload_n (q := 0) C dX3_isOpen_0 rfl rfl ?_
  refine hq_getI (f := 6) (g := 16) (Nc := 40) (Ns := 10) C fr_X3_22 dX3_isOpen_1 rfl rfl rfl rfl rfl (by decide) (by first | assumption | omega) ?_
  refine hq_if_eq (tgt := 15) C dX3_isOpen_4 (by decide) (fun c_4 => ?_) (fun c_4 => ?_)
  · refine hq_iconst (y := 1) C dX3_isOpen_15 (by decide) ?_
    refine hq_goto (tgt := 20) C dX3_isOpen_16 (by decide) ?_
    exact hq_zret C hr hlk dX3_isOpen_20 (by decide) (by simp [hb, c_4]) rfl
  · refine hq_aload_n (q := 0) C dX3_isOpen_7 rfl rfl ?_
    refine hq_getI (f := 6) (g := 16) (Nc := 40) (Ns := 10) C fr_X3_22 dX3_isOpen_8 rfl rfl rfl rfl rfl (by decide) (by first | assumption | omega) ?_
    refine hq_iconst (y := 1) C dX3_isOpen_11 (by decide) ?_
    refine hq_icmp_ne (tgt := 19) C dX3_isOpen_12 (by decide) (fun c_12 => ?_) (fun c_12 => ?_)
    · refine hq_iconst (y := 0) C dX3_isOpen_19 (by decide) ?_
      exact hq_zret C hr hlk dX3_isOpen_20 (by decide) (by simp [hb, c_4, c_12]) rfl
    · refine hq_iconst (y := 1) C dX3_isOpen_15 (by decide) ?_
      refine hq_goto (tgt := 20) C dX3_isOpen_16 (by decide) ?_
      exact hq_zret C hr hlk dX3_isOpen_20 (by decide) (by simp [hb, c_4, c_12]) rfl
def an (q : Nat → Bool) : Nat → Nat → Bool
  | 0, _ => false
  | n + 1, i => q i || an q n (i + 1)
set_option maxHeartbeats 4000000 in
set_option maxRecDepth 100000 in
theorem m_X3_isStillToPass {l : Launch} {D : va_G} {b0 : Nat} {I : MI} {J : MJ} {P : MI} {N : MJ} {o : Int64} {i n q : Nat} {x : Int32} (hi : i < 40) (hn : I 19 i = nI n) (hn2 : n ≤ 12) (hq9 : I 17 i = nI q) (hqn : q < n) : hM l yX3_isStillToPass cX3_isStillToPass 3 (some .boolean) rX3_isStillToPass D b0 [.ref (hw_ad b0 6 i), .int x] I J P N o (some (.int (hb (an (fun k => decide (I 20 (12 * i + k) = x)) (n - (q + 1)) (q + 1) = true)))) I J P N o := by
  refine hw_Mof (by decide) [(0, .ref _), (1, .int _)] rfl (Nat.le_of_ble_eq_true rfl) ?_
  intro p e s m args below meth c C hr hlk hnm
  refine hq_aload_n (q := 0) C dX3_isStillToPass_0 rfl rfl ?_
  refine hq_getI (f := 6) (g := 17) (Nc := 40) (Ns := 10) C fr_X3_25 dX3_isStillToPass_1 rfl rfl rfl rfl rfl (by decide) (by first | assumption | omega) ?_
  refine hq_iconst (y := 1) C dX3_isStillToPass_4 (by decide) ?_
  refine hq_iadd C dX3_isStillToPass_5 ?_
  refine hq_st (st' := [.int (nI (q + 1))]) (by rw [hq9]; exact congrArg (fun z => [Value.int z]) (nI_1 q)) ?_
  refine hq_istore_n (L' := [(2, .int _), (0, .ref _), (1, .int _)]) C dX3_isStillToPass_6 rfl (by decide) rfl ?_
  have key : ∀ (r k : Nat), k + r = n → hw_V p l e rX3_isStillToPass s m args below meth c (MQ below (hw_Q D b0 false (hw_n o) (some (.int (hb (an (fun k => decide (I 20 (12 * i + k) = x)) r k = true)))) (hw_vl b0 I J P N o)) args s 0 0 (fun q => b0 ≤ q)) D b0 3 false 0 0 (hw_n o) 7 [(2, .int (nI k)), (0, .ref (hw_ad b0 6 i)), (1, .int x)] [] (hw_vl b0 I J P N o) := by
    intro r
    induction r with
    | zero =>
      intro k hk
      refine hq_iload_n (q := 0) C dX3_isStillToPass_7 rfl rfl ?_
      refine hq_aload_n (q := 1) C dX3_isStillToPass_8 rfl rfl ?_
      refine hq_getI (f := 6) (g := 19) (Nc := 40) (Ns := 10) C fr_X3_18 dX3_isStillToPass_9 rfl rfl rfl rfl rfl (by decide) (by first | assumption | omega) ?_
      refine hq_icmp_ge (tgt := 33) C dX3_isStillToPass_12 (by decide) (fun c_12 => ?_) (fun c_12 => absurd (by rw [hn]; exact nI_le (by omega) (by omega)) c_12)
      refine hq_iconst (y := 0) C dX3_isStillToPass_33 (by decide) ?_
      exact hq_zret C hr hlk dX3_isStillToPass_34 (by decide) rfl rfl
    | succ r ih =>
      intro k hk
      have hk2 : k < 12 := by omega
      refine hq_iload_n (q := 0) C dX3_isStillToPass_7 rfl rfl ?_
      refine hq_aload_n (q := 1) C dX3_isStillToPass_8 rfl rfl ?_
      refine hq_getI (f := 6) (g := 19) (Nc := 40) (Ns := 10) C fr_X3_18 dX3_isStillToPass_9 rfl rfl rfl rfl rfl (by decide) (by first | assumption | omega) ?_
      refine hq_icmp_ge (tgt := 33) C dX3_isStillToPass_12 (by decide) (fun c_12 => absurd c_12 (by rw [hn]; exact nI_ge (by omega) (by omega))) (fun c_12 => ?_)
      refine hq_aload_n (q := 1) C dX3_isStillToPass_15 rfl rfl ?_
      refine hq_getR (f := 6) (g := 7) (Nc := 40) (Ns := 10) C fr_X3_9 dX3_isStillToPass_16 rfl rfl rfl rfl rfl (by decide) (by first | assumption | omega) ?_
      refine hq_iload_n (q := 0) C dX3_isStillToPass_19 rfl rfl ?_
      refine hq_ialdIw (f := 7) (g := 20) (w := 12) (Nc := 40) (Ns := 12) C dX3_isStillToPass_20 rfl rfl rfl ⟨rfl, by decide⟩ rfl rfl (by first | rfl | assumption) (by first | assumption | omega) (by first | assumption | omega) ?_
      refine hq_iload_n (q := 2) C dX3_isStillToPass_21 rfl rfl ?_
      refine hq_icmp_ne (tgt := 27) C dX3_isStillToPass_22 (by decide) (fun c_22 => ?_) (fun c_22 => ?_)
      · refine hq_iinc (q := 0) (y := nI (_ + 1)) (L' := [(2, .int _), (0, .ref _), (1, .int _)]) C dX3_isStillToPass_27 rfl (hw_inc _) (by decide) rfl ?_
        refine hq_goto (tgt := 7) C dX3_isStillToPass_30 (by decide) ?_
        rw [show an (fun k => decide (I 20 (12 * i + k) = x)) (r + 1) k = an (fun k => decide (I 20 (12 * i + k) = x)) r (k + 1) from by simp [an, c_22]]
        refine hq_perm [0, 1, 2] (L' := [(2, .int (nI (k + 1))), (0, .ref (hw_ad b0 6 i)), (1, .int x)]) rfl ?_
        exact ih (k + 1) (by omega)
      · refine hq_iconst (y := 1) C dX3_isStillToPass_25 (by decide) ?_
        exact hq_zret C hr hlk dX3_isStillToPass_26 (by decide) (by simp [an, hb, c_22]) rfl
  refine hq_perm [0, 1, 2] (L' := [(2, .int (nI (q + 1))), (0, .ref (hw_ad b0 6 i)), (1, .int x)]) rfl ?_
  exact key (n - (q + 1)) (q + 1) (by omega)
def sf_take (i q : Nat) (k : Nat) (I : MI) : MI :=
  uI (uI I 20 (12 * i + (q + k)) (I 36 k)) 21 (12 * i + (q + k)) (if uI I 20 (12 * i + (q + k)) (I 36 k) 37 0 ≤ nI k + 1 then 0 else uI I 20 (12 * i + (q + k)) (I 36 k) 12 i + uI I 20 (12 * i + (q + k)) (I 36 k) 34 ((uI I 20 (12 * i + (q + k)) (I 36 k) 36 (k + 1)).toNatClampNeg))
def sp_take (I : MI) (i q n : Nat) : MI := uI (lp (sf_take i q) n 0 I) 19 i (nI (q + n))
theorem sf_take_ne {i q k : Nat} {I : MI} {g : Nat} (h1 : g ≠ 20) (h2 : g ≠ 21) (j : Nat) : sf_take i q k I g j = I g j := by
  simp [sf_take, uI, h1, h2]
set_option maxHeartbeats 4000000 in
set_option maxRecDepth 100000 in
theorem m_X3_takeWay {l : Launch} {D : va_G} {b0 : Nat} {I : MI} {J : MJ} {P : MI} {N : MJ} {o : Int64} {i q n : Nat} {x : Int32} (hi : i < 40) (hx : x = nI q) (hqn : q + n ≤ 12) (hn : I 37 0 = nI n) (hp : ∀ k, k < n → ∃ b, b < 12 ∧ I 36 k = nI b) : hM l yX3_takeWay cX3_takeWay 5 none rX3_takeWay D b0 [.ref (hw_ad b0 6 i), .ref (hw_ad b0 16 0), .int x] I J P N o none (sp_take I i q n) J P N o := by
  refine hw_Mof (by decide) [(0, .ref _), (1, .ref _), (2, .int _)] rfl (Nat.le_of_ble_eq_true rfl) ?_
  intro p e s m args below meth c C hr hlk hnm
  refine hq_iconst (y := 0) C dX3_takeWay_0 (by decide) ?_
  refine hq_istore_n (L' := [(3, .int _), (0, .ref _), (1, .ref _), (2, .int _)]) C dX3_takeWay_1 rfl (by decide) rfl ?_
  refine hq_iconst (y := 0) C dX3_takeWay_2 (by decide) ?_
  refine hq_istore (L' := [(4, .int _), (3, .int _), (0, .ref _), (1, .ref _), (2, .int _)]) C dX3_takeWay_3 (by decide) rfl ?_
  have hstep : ∀ (k : Nat) (σ : MI), k < n → (σ 37 0 = nI n ∧ ∀ k, k < n → ∃ b, b < 12 ∧ σ 36 k = nI b) → (sf_take i q k σ 37 0 = nI n ∧ ∀ j, j < n → ∃ b, b < 12 ∧ sf_take i q k σ 36 j = nI b) := fun k σ _ h => ⟨by rw [sf_take_ne (by decide) (by decide)]; exact h.1, fun j hj => by rw [sf_take_ne (by decide) (by decide)]; exact h.2 j hj⟩
  refine hq_perm [0, 1, 2, 3, 4] (L' := [(4, .int (nI 0)), (3, .int (nI 0)), (0, .ref (hw_ad b0 6 i)), (1, .ref (hw_ad b0 16 0)), (2, .int x)]) rfl ?_
  refine lp_back (sf_take i q) (fun (k9 : Nat) (σ : MI) => hw_V p l e rX3_takeWay s m args below meth c (MQ below (hw_Q D b0 false (hw_n o) none (hw_vl b0 (sp_take I i q n) J P N o)) args s 0 0 (fun q => b0 ≤ q)) D b0 5 false 0 0 (hw_n o) 5 [(4, .int (nI k9)), (3, .int (nI k9)), (0, .ref (hw_ad b0 6 i)), (1, .ref (hw_ad b0 16 0)), (2, .int x)] [] (hw_vl b0 σ J P N o)) (fun _ σ => σ 37 0 = nI n ∧ ∀ k, k < n → ∃ b, b < 12 ∧ σ 36 k = nI b) n ?_ hstep n 0 I (by omega) ⟨hn, hp⟩ ?_
  · intro k9 σ hi hinv k
    have hlt : ¬ uI σ 20 (12 * i + (q + k9)) (σ 36 k9) 37 0 ≤ nI k9 + 1 → k9 + 1 < 12 := fun z => by
        rcases Nat.lt_or_ge (k9 + 1) n with y9 | y9
        · omega
        · exact absurd (by rw [show uI σ 20 (12 * i + (q + k9)) (σ 36 k9) 37 0 = nI n from hinv.1, nI_1]; exact nI_le y9 (by omega)) z
    have hlt2 : ¬ uI σ 20 (12 * i + (q + k9)) (σ 36 k9) 37 0 ≤ nI k9 + 1 → k9 + 1 < n := fun z => by
        rcases Nat.lt_or_ge (k9 + 1) n with y9 | y9
        · exact y9
        · exact absurd (by rw [show uI σ 20 (12 * i + (q + k9)) (σ 36 k9) 37 0 = nI n from hinv.1, nI_1]; exact nI_le y9 (by omega)) z
    have hpx : ¬ uI σ 20 (12 * i + (q + k9)) (σ 36 k9) 37 0 ≤ nI k9 + 1 → uI σ 20 (12 * i + (q + k9)) (σ 36 k9) 36 (k9 + 1) = nI ((uI σ 20 (12 * i + (q + k9)) (σ 36 k9) 36 (k9 + 1)).toNatClampNeg) := fun z => by
        obtain ⟨b, hb1, hb2⟩ := hinv.2 (k9 + 1) (hlt2 z)
        rw [show uI σ 20 (12 * i + (q + k9)) (σ 36 k9) 36 (k9 + 1) = nI b from hb2, nI_clamp (by omega)]
    have hpb : ¬ uI σ 20 (12 * i + (q + k9)) (σ 36 k9) 37 0 ≤ nI k9 + 1 → (uI σ 20 (12 * i + (q + k9)) (σ 36 k9) 36 (k9 + 1)).toNatClampNeg < 12 := fun z => by
        obtain ⟨b, hb1, hb2⟩ := hinv.2 (k9 + 1) (hlt2 z)
        rw [show uI σ 20 (12 * i + (q + k9)) (σ 36 k9) 36 (k9 + 1) = nI b from hb2, nI_clamp (by omega)]
        exact hb1
    refine hq_iload (q := 0) C dX3_takeWay_5 rfl ?_
    refine hq_aload_n (q := 3) C dX3_takeWay_7 rfl rfl ?_
    refine hq_getI (f := 16) (g := 37) (Nc := 1) (Ns := 11) C fr_X3_28 dX3_takeWay_8 rfl rfl rfl rfl rfl (by decide) Nat.one_pos ?_
    refine hq_icmp_ge (tgt := 94) C dX3_takeWay_11 (by decide) (fun c_11 => absurd c_11 (by rw [hinv.1]; exact nI_ge hi (by omega))) (fun c_11 => ?_)
    refine hq_iload_n (q := 4) C dX3_takeWay_14 rfl rfl ?_
    refine hq_iload (q := 0) C dX3_takeWay_15 rfl ?_
    refine hq_iadd C dX3_takeWay_17 ?_
    refine hq_aload_n (q := 2) C dX3_takeWay_18 rfl rfl ?_
    refine hq_getR (f := 6) (g := 7) (Nc := 40) (Ns := 10) C fr_X3_9 dX3_takeWay_19 rfl rfl rfl rfl rfl (by decide) (by first | assumption | omega) ?_
    refine hq_alen (f := 7) (Nc := 40) (Ns := 12) C dX3_takeWay_22 rfl rfl rfl rfl (by first | assumption | omega) ?_
    refine hq_icmp_ge (tgt := 94) C dX3_takeWay_23 (by decide) (fun c_23 => absurd c_23 (by rw [hx, nI_add]; exact nI_ge (a := q + k9) (b := 12) (by omega) (by decide))) (fun c_23 => ?_)
    refine hq_aload_n (q := 2) C dX3_takeWay_26 rfl rfl ?_
    refine hq_getR (f := 6) (g := 7) (Nc := 40) (Ns := 10) C fr_X3_9 dX3_takeWay_27 rfl rfl rfl rfl rfl (by decide) (by first | assumption | omega) ?_
    refine hq_iload_n (q := 4) C dX3_takeWay_30 rfl rfl ?_
    refine hq_iload (q := 0) C dX3_takeWay_31 rfl ?_
    refine hq_iadd C dX3_takeWay_33 ?_
    refine hq_aload_n (q := 3) C dX3_takeWay_34 rfl rfl ?_
    refine hq_getR (f := 16) (g := 22) (Nc := 1) (Ns := 11) C fr_X3_31 dX3_takeWay_35 rfl rfl rfl rfl rfl (by decide) Nat.one_pos ?_
    refine hq_iload (q := 0) C dX3_takeWay_38 rfl ?_
    refine hq_ialdI0 (f := 22) (a := k9) (g := 36) (Nc := 1) (Ns := 12) C dX3_takeWay_40 rfl rfl rfl rfl rfl rfl rfl (by omega) Nat.one_pos ?_
    refine hq_iastIw (f := 7) (a := q + k9) (g := 20) (w := 12) (Nc := 40) (Ns := 12) C dX3_takeWay_41 rfl rfl rfl ⟨rfl, by decide⟩ rfl rfl (by rw [hx, nI_add]) (by omega) (by first | assumption | omega) ?_
    refine hq_aload_n (q := 2) C dX3_takeWay_42 rfl rfl ?_
    refine hq_getR (f := 6) (g := 8) (Nc := 40) (Ns := 10) C fr_X3_15 dX3_takeWay_43 rfl rfl rfl rfl rfl (by decide) (by first | assumption | omega) ?_
    refine hq_iload_n (q := 4) C dX3_takeWay_46 rfl rfl ?_
    refine hq_iload (q := 0) C dX3_takeWay_47 rfl ?_
    refine hq_iadd C dX3_takeWay_49 ?_
    refine hq_iload (q := 0) C dX3_takeWay_50 rfl ?_
    refine hq_iconst (y := 1) C dX3_takeWay_52 (by decide) ?_
    refine hq_iadd C dX3_takeWay_53 ?_
    refine hq_aload_n (q := 3) C dX3_takeWay_54 rfl rfl ?_
    refine hq_getI (f := 16) (g := 37) (Nc := 1) (Ns := 11) C fr_X3_28 dX3_takeWay_55 rfl rfl rfl rfl rfl (by decide) Nat.one_pos ?_
    refine hq_icmp_ge (tgt := 83) C dX3_takeWay_58 (by decide) (fun c_58 => ?_) (fun c_58 => ?_)
    · refine hq_iconst (y := 0) C dX3_takeWay_83 (by decide) ?_
      refine hq_iastIw (f := 8) (a := q + k9) (g := 21) (w := 12) (Nc := 40) (Ns := 12) C dX3_takeWay_84 rfl rfl rfl ⟨rfl, by decide⟩ rfl rfl (by rw [hx, nI_add]) (by omega) (by first | assumption | omega) ?_
      refine hq_iinc (q := 1) (y := nI (_ + 1)) (L' := [(3, .int _), (4, .int _), (0, .ref _), (1, .ref _), (2, .int _)]) C dX3_takeWay_85 rfl (hw_inc _) (by decide) rfl ?_
      refine hq_iinc (q := 1) (y := nI (_ + 1)) (L' := [(4, .int _), (3, .int _), (0, .ref _), (1, .ref _), (2, .int _)]) C dX3_takeWay_88 rfl (hw_inc _) (by decide) rfl ?_
      refine hq_goto (tgt := 5) C dX3_takeWay_91 (by decide) ?_
      exact hq_fin [0, 1, 2, 3, 4] (by first | rfl | (simp only [sf_take, c_23, c_58, ↓reduceIte, not_true_eq_false, not_false_eq_true]; rfl) | simp [lv_pick, sf_take, c_23, c_58]) (by first | rfl | (simp only [sf_take, c_23, c_58, ↓reduceIte, not_true_eq_false, not_false_eq_true]; done) | (simp only [sf_take, c_23, c_58, ↓reduceIte, not_true_eq_false, not_false_eq_true]; rfl) | simp [sf_take, c_23, c_58]) (by first | rfl | (simp only [sf_take, c_23, c_58, ↓reduceIte, not_true_eq_false, not_false_eq_true]; done) | (simp only [sf_take, c_23, c_58, ↓reduceIte, not_true_eq_false, not_false_eq_true]; rfl) | simp [sf_take, c_23, c_58]) (by first | rfl | (simp only [sf_take, c_23, c_58, ↓reduceIte, not_true_eq_false, not_false_eq_true]; done) | (simp only [sf_take, c_23, c_58, ↓reduceIte, not_true_eq_false, not_false_eq_true]; rfl) | simp [sf_take, c_23, c_58]) (by first | rfl | (simp only [sf_take, c_23, c_58, ↓reduceIte, not_true_eq_false, not_false_eq_true]; done) | (simp only [sf_take, c_23, c_58, ↓reduceIte, not_true_eq_false, not_false_eq_true]; rfl) | simp [sf_take, c_23, c_58]) (by first | rfl | (simp only [sf_take, c_23, c_58, ↓reduceIte, not_true_eq_false, not_false_eq_true]; done) | (simp only [sf_take, c_23, c_58, ↓reduceIte, not_true_eq_false, not_false_eq_true]; rfl) | simp [sf_take, c_23, c_58]) k
    · refine hq_aload_n (q := 2) C dX3_takeWay_61 rfl rfl ?_
      refine hq_getI (f := 6) (g := 12) (Nc := 40) (Ns := 10) C fr_X3_34 dX3_takeWay_62 rfl rfl rfl rfl rfl (by decide) (by first | assumption | omega) ?_
      refine hq_aload_n (q := 3) C dX3_takeWay_65 rfl rfl ?_
      refine hq_getR (f := 16) (g := 20) (Nc := 1) (Ns := 11) C fr_X3_37 dX3_takeWay_66 rfl rfl rfl rfl rfl (by decide) Nat.one_pos ?_
      refine hq_aload_n (q := 3) C dX3_takeWay_69 rfl rfl ?_
      refine hq_getR (f := 16) (g := 22) (Nc := 1) (Ns := 11) C fr_X3_31 dX3_takeWay_70 rfl rfl rfl rfl rfl (by decide) Nat.one_pos ?_
      refine hq_iload (q := 0) C dX3_takeWay_73 rfl ?_
      refine hq_iconst (y := 1) C dX3_takeWay_75 (by decide) ?_
      refine hq_iadd C dX3_takeWay_76 ?_
      refine hq_ialdI0 (f := 22) (a := k9 + 1) (g := 36) (Nc := 1) (Ns := 12) C dX3_takeWay_77 rfl rfl rfl rfl rfl rfl (nI_1 k9) (hlt c_58) Nat.one_pos ?_
      refine hq_ialdI0 (f := 20) (g := 34) (Nc := 1) (Ns := 12) C dX3_takeWay_78 rfl rfl rfl rfl rfl rfl (hpx c_58) (hpb c_58) Nat.one_pos ?_
      refine hq_iadd C dX3_takeWay_79 ?_
      refine hq_goto (tgt := 84) C dX3_takeWay_80 (by decide) ?_
      refine hq_iastIw (f := 8) (a := q + k9) (g := 21) (w := 12) (Nc := 40) (Ns := 12) C dX3_takeWay_84 rfl rfl rfl ⟨rfl, by decide⟩ rfl rfl (by rw [hx, nI_add]) (by omega) (by first | assumption | omega) ?_
      refine hq_iinc (q := 1) (y := nI (_ + 1)) (L' := [(3, .int _), (4, .int _), (0, .ref _), (1, .ref _), (2, .int _)]) C dX3_takeWay_85 rfl (hw_inc _) (by decide) rfl ?_
      refine hq_iinc (q := 1) (y := nI (_ + 1)) (L' := [(4, .int _), (3, .int _), (0, .ref _), (1, .ref _), (2, .int _)]) C dX3_takeWay_88 rfl (hw_inc _) (by decide) rfl ?_
      refine hq_goto (tgt := 5) C dX3_takeWay_91 (by decide) ?_
      exact hq_fin [0, 1, 2, 3, 4] (by first | rfl | (simp only [sf_take, c_23, c_58, ↓reduceIte, not_true_eq_false, not_false_eq_true]; rfl) | simp [lv_pick, sf_take, c_23, c_58]) (by first | rfl | (simp only [sf_take, c_23, c_58, ↓reduceIte, not_true_eq_false, not_false_eq_true]; done) | (simp only [sf_take, c_23, c_58, ↓reduceIte, not_true_eq_false, not_false_eq_true]; rfl) | simp [sf_take, c_23, c_58]) (by first | rfl | (simp only [sf_take, c_23, c_58, ↓reduceIte, not_true_eq_false, not_false_eq_true]; done) | (simp only [sf_take, c_23, c_58, ↓reduceIte, not_true_eq_false, not_false_eq_true]; rfl) | simp [sf_take, c_23, c_58]) (by first | rfl | (simp only [sf_take, c_23, c_58, ↓reduceIte, not_true_eq_false, not_false_eq_true]; done) | (simp only [sf_take, c_23, c_58, ↓reduceIte, not_true_eq_false, not_false_eq_true]; rfl) | simp [sf_take, c_23, c_58]) (by first | rfl | (simp only [sf_take, c_23, c_58, ↓reduceIte, not_true_eq_false, not_false_eq_true]; done) | (simp only [sf_take, c_23, c_58, ↓reduceIte, not_true_eq_false, not_false_eq_true]; rfl) | simp [sf_take, c_23, c_58]) (by first | rfl | (simp only [sf_take, c_23, c_58, ↓reduceIte, not_true_eq_false, not_false_eq_true]; done) | (simp only [sf_take, c_23, c_58, ↓reduceIte, not_true_eq_false, not_false_eq_true]; rfl) | simp [sf_take, c_23, c_58]) k
  · refine hq_iload (q := 0) C dX3_takeWay_5 rfl ?_
    refine hq_aload_n (q := 3) C dX3_takeWay_7 rfl rfl ?_
    refine hq_getI (f := 16) (g := 37) (Nc := 1) (Ns := 11) C fr_X3_28 dX3_takeWay_8 rfl rfl rfl rfl rfl (by decide) Nat.one_pos ?_
    refine hq_icmp_ge (tgt := 94) C dX3_takeWay_11 (by decide) (fun c_11 => ?_) (fun c_11 => absurd (by rw [(lp_inv (sf_take i q) (fun _ σ => σ 37 0 = nI n ∧ ∀ k, k < n → ∃ b, b < 12 ∧ σ 36 k = nI b) n hstep n 0 I (by omega) ⟨hn, hp⟩).1]; exact nI_le (Nat.le_refl n) (by omega)) c_11)
    refine hq_aload_n (q := 2) C dX3_takeWay_94 rfl rfl ?_
    refine hq_iload_n (q := 4) C dX3_takeWay_95 rfl rfl ?_
    refine hq_iload_n (q := 1) C dX3_takeWay_96 rfl rfl ?_
    refine hq_iadd C dX3_takeWay_97 ?_
    refine hq_st (st' := [.int (nI (q + n)), .ref (hw_ad b0 6 i)]) (by rw [hx]; exact congrArg (fun z => [Value.int z, _]) (nI_add q n)) ?_
    refine hq_putI (f := 6) (g := 19) (Nc := 40) (Ns := 10) C fl_X3_18 dX3_takeWay_98 rfl rfl rfl rfl rfl (by decide) (by first | assumption | omega) rfl rfl ?_
    exact hq_vret C hr hlk dX3_takeWay_101 rfl
