/-! loops -/
def lp {σ : Type} (f : Nat → σ → σ) : Nat → Nat → σ → σ
  | 0, _, s => s
  | n + 1, i, s => lp f n (i + 1) (f i s)
theorem lp_back {σ : Type} (f : Nat → σ → σ) (G : Nat → σ → Prop) (Inv : Nat → σ → Prop) (hi : Nat) (stp : ∀ i s, i < hi → Inv i s → G (i + 1) (f i s) → G i s) (inv : ∀ i s, i < hi → Inv i s → Inv (i + 1) (f i s)) : ∀ n i s, i + n = hi → Inv i s → G hi (lp f n i s) → G i s := by
  intro n
  induction n with
  | zero =>
    intro i s h _ g
    have e : i = hi := by omega
    subst e
    exact g
  | succ n ih =>
    intro i s h hs g
    have hlt : i < hi := by omega
    exact stp i s hlt hs (ih (i + 1) (f i s) (by omega) (inv i s hlt hs) g)
theorem lp_inv {σ : Type} (f : Nat → σ → σ) (Inv : Nat → σ → Prop) (hi : Nat) (inv : ∀ i s, i < hi → Inv i s → Inv (i + 1) (f i s)) : ∀ n i s, i + n = hi → Inv i s → Inv hi (lp f n i s) := by
  intro n
  induction n with
  | zero =>
    intro i s h g
    have e : i = hi := by omega
    subst e
    exact g
  | succ n ih =>
    intro i s h hs
    exact ih (i + 1) (f i s) (by omega) (inv i s (by omega) hs)
theorem lp_last {σ : Type} (f : Nat → σ → σ) : ∀ n i s, lp f (n + 1) i s = f (i + n) (lp f n i s) := by
  intro n
  induction n with
  | zero => intro i s; rfl
  | succ n ih =>
    intro i s
    show lp f (n + 1) (i + 1) (f i s) = _
    rw [ih (i + 1) (f i s)]
    have e : i + 1 + n = i + (n + 1) := by omega
    rw [e]
    rfl
def hw_bo (x : Int32) : Prop := x = 0 ∨ x = 1
theorem hw_bon {x : Int32} (h : hw_bo x) : narrow .boolean (.int x) = .int x := by
  rcases h with rfl | rfl <;> decide
theorem hw_bof {x : Int32} (h : hw_bo x) : fits .boolean (.int x) = true := by
  rcases h with rfl | rfl <;> decide
theorem hw_hbo (q : Prop) [Decidable q] : hw_bo (hb q) := by
  unfold hb
  by_cases h : q
  · exact Or.inr (if_pos h)
  · exact Or.inl (if_neg h)
theorem hb_t {q : Prop} [Decidable q] (h : q) : hb q = 1 := if_pos h
theorem hb_f {q : Prop} [Decidable q] (h : ¬ q) : hb q = 0 := if_neg h
section HX
variable {p : Program} {l : Launch} {e : Env} {R : Room} {s : State} {m : MethodId} {args : Array Value} {below : List Frame} {meth : Method} {c : Code} {Q : State → Prop}
variable {D : va_G} {b0 nL : Nat} {xb : Bool} {ka kb : Nat} {pc : Nat} {L L' : List (Nat × Value)} {st : List Value} {cc : ByteArray} {own : String} {I : MI} {J : MJ} {P : MI} {N : MJ} {o : Int64}
theorem hq_alen (C : hw_C p s m args c D b0 cc own nL) {f i Nc Ns : Nat} {v : VF} (hdg : decode cc pc = .ok (.arraylength, 1)) (hkc : hw_kc f = 10) (ho : hw_ob f = false) (hNc : hw_cnt f = Nc) (hNs : hw_sz f = Ns) (hi : i < Nc) (k : hw_V p l e R s m args below meth c Q D b0 nL xb ka kb 271 (pc + 1) L (.int (nI Ns) :: st) v) : hw_V p l e R s m args below meth c Q D b0 nL xb ka kb 271 pc L (.ref (hw_ad b0 f i) :: st) v := by
  intro H locs ls hH hZ hS hl
  obtain ⟨h1, h2⟩ := hw_nt hNc hi
  have h3 := (hH f i h1 h2).2 ho
  rw [hkc, hNs] at h3
  exact W.alen (n := nI Ns) C.1 C.2.1 h3 ((C.2.2.2.2.2.1.2 0 _ rfl).1 _ _) (by rw [arrV_size] <;> rfl) rfl rfl hdg (k H locs ls hH hZ hS hl)
/-- the end of a stretch: the locals in another order, the stores by equal names -/
theorem hq_fin {I' : MI} {J' : MJ} {P' : MI} {N' : MJ} {o' : Int64} (ks : List Nat) (hL : lv_pick L ks = L') (h1 : I = I') (h2 : J = J') (h3 : P = P') (h4 : N = N') (h5 : o = o') (k : hw_V p l e R s m args below meth c Q D b0 nL xb ka kb 271 pc L' st (hw_vl b0 I' J' P' N' o')) : hw_V p l e R s m args below meth c Q D b0 nL xb ka kb 271 pc L st (hw_vl b0 I J P N o) := by
  subst h1 h2 h3 h4 h5
  exact hq_perm ks hL k
end HX
def sp_lim (I : MI) (i j : Nat) (fe : Int32) : Int32 := if fe = 0 then I 10 (12 * i + j) else if I 11 (12 * i + j) = 0 then I 10 (12 * i + j) else 2 * I 10 (12 * i + j)
set_option maxHeartbeats 4000000 in
set_option maxRecDepth 100000 in
theorem m_X0_isGood {l : Launch} {D : va_G} {b0 : Nat} {I : MI} {J : MJ} {P : MI} {N : MJ} {o : Int64} {i : Nat} (hi : i < 12) : hM l yX0_isGood cX0_isGood 1 (some .boolean) rX0_isGood D b0 [.ref (hw_ad b0 2 i)] I J P N o (some (.int (hb (I 7 i = 0)))) I J P N o := by
  refine hw_Mof (by decide) [(0, .ref _)] rfl (Nat.le_of_ble_eq_true rfl) ?_
  intro p e s m args below meth c C hr hlk hnm
  refine hq_aload_n (q := 0) C dX0_isGood_0 rfl rfl ?_
  refine hq_getI (f := 2) (g := 7) (Nc := 12) (Ns := 8) C fr_X0_19 dX0_isGood_1 rfl rfl rfl rfl rfl (by decide) (by first | assumption | omega) ?_
  refine hq_if_ne (tgt := 11) C dX0_isGood_4 (by decide) (fun c_4 => ?_) (fun c_4 => ?_)
  · refine hq_iconst (y := 0) C dX0_isGood_11 (by decide) ?_
    exact hq_zret C hr hlk dX0_isGood_12 (by decide) (by simp [hb, c_4]) rfl
  · refine hq_iconst (y := 1) C dX0_isGood_7 (by decide) ?_
    refine hq_goto (tgt := 12) C dX0_isGood_8 (by decide) ?_
    exact hq_zret C hr hlk dX0_isGood_12 (by decide) (by simp [hb, c_4]) rfl
set_option maxHeartbeats 4000000 in
set_option maxRecDepth 100000 in
theorem m_X0_limitNow {l : Launch} {D : va_G} {b0 : Nat} {I : MI} {J : MJ} {P : MI} {N : MJ} {o : Int64} {i j : Nat} {x fe : Int32} (hi : i < 12) (hx : x = nI j) (hj : j < 12) : hM l yX0_limitNow cX0_limitNow 3 (some .int) rX0_limitNow D b0 [.ref (hw_ad b0 2 i), .int x, .int fe] I J P N o (some (.int (sp_lim I i j fe))) I J P N o := by
  refine hw_Mof (by decide) [(0, .ref _), (1, .int _), (2, .int _)] rfl (Nat.le_of_ble_eq_true rfl) ?_
  intro p e s m args below meth c C hr hlk hnm
  refine hq_iload_n (q := 2) C dX0_limitNow_0 rfl rfl ?_
  refine hq_if_eq (tgt := 24) C dX0_limitNow_1 (by decide) (fun c_1 => ?_) (fun c_1 => ?_)
  · refine hq_aload_n (q := 0) C dX0_limitNow_24 rfl rfl ?_
    refine hq_getR (f := 2) (g := 3) (Nc := 12) (Ns := 8) C fr_X0_9 dX0_limitNow_25 rfl rfl rfl rfl rfl (by decide) (by first | assumption | omega) ?_
    refine hq_iload_n (q := 1) C dX0_limitNow_28 rfl rfl ?_
    refine hq_ialdIw (f := 3) (g := 10) (w := 12) (Nc := 12) (Ns := 12) C dX0_limitNow_29 rfl rfl rfl ⟨rfl, by decide⟩ rfl rfl (by first | rfl | assumption) (by first | assumption | omega) (by first | assumption | omega) ?_
    exact hq_iret C hr hlk dX0_limitNow_30 (by simp [sp_lim, c_1]) rfl
  · refine hq_aload_n (q := 0) C dX0_limitNow_4 rfl rfl ?_
    refine hq_getR (f := 2) (g := 4) (Nc := 12) (Ns := 8) C fr_X0_15 dX0_limitNow_5 rfl rfl rfl rfl rfl (by decide) (by first | assumption | omega) ?_
    refine hq_iload_n (q := 1) C dX0_limitNow_8 rfl rfl ?_
    refine hq_zaldIw (f := 4) (g := 11) (w := 12) (Nc := 12) (Ns := 12) C dX0_limitNow_9 rfl rfl rfl ⟨rfl, by decide⟩ rfl rfl (by first | rfl | assumption) (by first | assumption | omega) (by first | assumption | omega) ?_
    refine hq_if_eq (tgt := 24) C dX0_limitNow_10 (by decide) (fun c_10 => ?_) (fun c_10 => ?_)
    · refine hq_aload_n (q := 0) C dX0_limitNow_24 rfl rfl ?_
      refine hq_getR (f := 2) (g := 3) (Nc := 12) (Ns := 8) C fr_X0_9 dX0_limitNow_25 rfl rfl rfl rfl rfl (by decide) (by first | assumption | omega) ?_
      refine hq_iload_n (q := 1) C dX0_limitNow_28 rfl rfl ?_
      refine hq_ialdIw (f := 3) (g := 10) (w := 12) (Nc := 12) (Ns := 12) C dX0_limitNow_29 rfl rfl rfl ⟨rfl, by decide⟩ rfl rfl (by first | rfl | assumption) (by first | assumption | omega) (by first | assumption | omega) ?_
      exact hq_iret C hr hlk dX0_limitNow_30 (by simp [sp_lim, c_1, c_10]) rfl
    · refine hq_iconst (y := 2) C dX0_limitNow_13 (by decide) ?_
      refine hq_aload_n (q := 0) C dX0_limitNow_14 rfl rfl ?_
      refine hq_getR (f := 2) (g := 3) (Nc := 12) (Ns := 8) C fr_X0_9 dX0_limitNow_15 rfl rfl rfl rfl rfl (by decide) (by first | assumption | omega) ?_
      refine hq_iload_n (q := 1) C dX0_limitNow_18 rfl rfl ?_
      refine hq_ialdIw (f := 3) (g := 10) (w := 12) (Nc := 12) (Ns := 12) C dX0_limitNow_19 rfl rfl rfl ⟨rfl, by decide⟩ rfl rfl (by first | rfl | assumption) (by first | assumption | omega) (by first | assumption | omega) ?_
      refine hq_imul C dX0_limitNow_20 ?_
      refine hq_goto (tgt := 30) C dX0_limitNow_21 (by decide) ?_
      exact hq_iret C hr hlk dX0_limitNow_30 (by simp [sp_lim, c_1, c_10]) rfl
def sp_change (J : MJ) (a b : Nat) (x : Int64) : MJ :=
  uJ (uJ J 1 (12 * a + b) (J 1 (12 * a + b) + x)) 1 (12 * b + a) (uJ J 1 (12 * a + b) (J 1 (12 * a + b) + x) 1 (12 * b + a) - x)
def sp_write (J : MJ) (a b : Nat) (x : Int64) : MJ := uJ J 2 (12 * a + b) (J 2 (12 * a + b) + x)
def sp_known (J : MJ) (a b : Nat) (x : Int64) : MJ := sp_write (sp_write (sp_change J a b x) a b x) b a (-x)
set_option maxHeartbeats 4000000 in
set_option maxRecDepth 100000 in
theorem m_X2_change {l : Launch} {D : va_G} {b0 : Nat} {I : MI} {J : MJ} {P : MI} {N : MJ} {o : Int64} {a b : Nat} {x y : Int32} {z : Int64} (hx : x = nI a) (ha : a < 12) (hy : y = nI b) (hb9 : b < 12) : hM l yX2_change cX2_change 5 none rX2_change D b0 [.ref (hw_ad b0 11 0), .int x, .int y, .long z] I J P N o none I (sp_change J a b z) P N o := by
  refine hw_Mof (by decide) [(0, .ref _), (1, .int _), (2, .int _), (3, .long _)] rfl (Nat.le_of_ble_eq_true rfl) ?_
  intro p e s m args below meth c C hr hlk hnm
  refine hq_aload_n (q := 0) C dX2_change_0 rfl rfl ?_
  refine hq_getR (f := 11) (g := 12) (Nc := 1) (Ns := 2) C fr_X2_11 dX2_change_1 rfl rfl rfl rfl rfl (by decide) Nat.one_pos ?_
  refine hq_iload_n (q := 1) C dX2_change_4 rfl rfl ?_
  refine hq_aaldJR0 (f := 12) (g := 13) (Nc := 1) (Ns := 12) C dX2_change_5 rfl rfl rfl rfl rfl rfl (by first | rfl | assumption) (by first | assumption | omega) Nat.one_pos ?_
  refine hq_iload_n (q := 2) C dX2_change_6 rfl rfl ?_
  refine hq_dup2 C dX2_change_7 rfl rfl ?_
  refine hq_laldJw (f := 13) (g := 1) (w := 12) (Nc := 12) (Ns := 12) C dX2_change_8 rfl rfl rfl ⟨rfl, by decide⟩ rfl rfl (by first | rfl | assumption) (by first | assumption | omega) (by first | assumption | omega) ?_
  refine hq_lload_n (q := 3) C dX2_change_9 rfl rfl ?_
  refine hq_ladd C dX2_change_10 ?_
  refine hq_lastJw (f := 13) (g := 1) (w := 12) (Nc := 12) (Ns := 12) C dX2_change_11 rfl rfl rfl ⟨rfl, by decide⟩ rfl rfl (by first | rfl | assumption) (by first | assumption | omega) (by first | assumption | omega) ?_
  refine hq_aload_n (q := 0) C dX2_change_12 rfl rfl ?_
  refine hq_getR (f := 11) (g := 12) (Nc := 1) (Ns := 2) C fr_X2_11 dX2_change_13 rfl rfl rfl rfl rfl (by decide) Nat.one_pos ?_
  refine hq_iload_n (q := 2) C dX2_change_16 rfl rfl ?_
  refine hq_aaldJR0 (f := 12) (g := 13) (Nc := 1) (Ns := 12) C dX2_change_17 rfl rfl rfl rfl rfl rfl (by first | rfl | assumption) (by first | assumption | omega) Nat.one_pos ?_
  refine hq_iload_n (q := 1) C dX2_change_18 rfl rfl ?_
  refine hq_dup2 C dX2_change_19 rfl rfl ?_
  refine hq_laldJw (f := 13) (g := 1) (w := 12) (Nc := 12) (Ns := 12) C dX2_change_20 rfl rfl rfl ⟨rfl, by decide⟩ rfl rfl (by first | rfl | assumption) (by first | assumption | omega) (by first | assumption | omega) ?_
  refine hq_lload_n (q := 3) C dX2_change_21 rfl rfl ?_
  refine hq_lsub C dX2_change_22 ?_
  refine hq_lastJw (f := 13) (g := 1) (w := 12) (Nc := 12) (Ns := 12) C dX2_change_23 rfl rfl rfl ⟨rfl, by decide⟩ rfl rfl (by first | rfl | assumption) (by first | assumption | omega) (by first | assumption | omega) ?_
  exact hq_vret C hr hlk dX2_change_24 rfl
set_option maxHeartbeats 4000000 in
set_option maxRecDepth 100000 in
theorem m_X2_write {l : Launch} {D : va_G} {b0 : Nat} {I : MI} {J : MJ} {P : MI} {N : MJ} {o : Int64} {a b : Nat} {x y : Int32} {z : Int64} (hx : x = nI a) (ha : a < 12) (hy : y = nI b) (hb9 : b < 12) : hM l yX2_write cX2_write 5 none rX2_write D b0 [.ref (hw_ad b0 11 0), .int x, .int y, .long z] I J P N o none I (sp_write J a b z) P N o := by
  refine hw_Mof (by decide) [(0, .ref _), (1, .int _), (2, .int _), (3, .long _)] rfl (Nat.le_of_ble_eq_true rfl) ?_
  intro p e s m args below meth c C hr hlk hnm
  refine hq_aload_n (q := 0) C dX2_write_0 rfl rfl ?_
  refine hq_getR (f := 11) (g := 14) (Nc := 1) (Ns := 2) C fr_X2_16 dX2_write_1 rfl rfl rfl rfl rfl (by decide) Nat.one_pos ?_
  refine hq_iload_n (q := 1) C dX2_write_4 rfl rfl ?_
  refine hq_aaldJR0 (f := 14) (g := 15) (Nc := 1) (Ns := 12) C dX2_write_5 rfl rfl rfl rfl rfl rfl (by first | rfl | assumption) (by first | assumption | omega) Nat.one_pos ?_
  refine hq_iload_n (q := 2) C dX2_write_6 rfl rfl ?_
  refine hq_dup2 C dX2_write_7 rfl rfl ?_
  refine hq_laldJw (f := 15) (g := 2) (w := 12) (Nc := 12) (Ns := 12) C dX2_write_8 rfl rfl rfl ⟨rfl, by decide⟩ rfl rfl (by first | rfl | assumption) (by first | assumption | omega) (by first | assumption | omega) ?_
  refine hq_lload_n (q := 3) C dX2_write_9 rfl rfl ?_
  refine hq_ladd C dX2_write_10 ?_
  refine hq_lastJw (f := 15) (g := 2) (w := 12) (Nc := 12) (Ns := 12) C dX2_write_11 rfl rfl rfl ⟨rfl, by decide⟩ rfl rfl (by first | rfl | assumption) (by first | assumption | omega) (by first | assumption | omega) ?_
  exact hq_vret C hr hlk dX2_write_12 rfl
set_option maxHeartbeats 4000000 in
set_option maxRecDepth 100000 in
theorem m_X2_changeKnown {l : Launch} {D : va_G} {b0 : Nat} {I : MI} {J : MJ} {P : MI} {N : MJ} {o : Int64} {a b : Nat} {x y : Int32} {z : Int64} (hx : x = nI a) (ha : a < 12) (hy : y = nI b) (hb9 : b < 12) : hM l yX2_changeKnown cX2_changeKnown 5 none rX2_changeKnown D b0 [.ref (hw_ad b0 11 0), .int x, .int y, .long z] I J P N o none I (sp_known J a b z) P N o := by
  refine hw_Mof (by decide) [(0, .ref _), (1, .int _), (2, .int _), (3, .long _)] rfl (Nat.le_of_ble_eq_true rfl) ?_
  intro p e s m args below meth c C hr hlk hnm
  refine hq_aload_n (q := 0) C dX2_changeKnown_0 rfl rfl ?_
  refine hq_iload_n (q := 1) C dX2_changeKnown_1 rfl rfl ?_
  refine hq_iload_n (q := 2) C dX2_changeKnown_2 rfl rfl ?_
  refine hq_lload_n (q := 3) C dX2_changeKnown_3 rfl rfl ?_
  refine hq_cVv (As := [.int _, .int _, .long _]) (rm := rX2_change) (f := 11) (Nc := 1) C (m_X2_change (by first | rfl | assumption) (by first | assumption | omega) (by first | rfl | assumption) (by first | assumption | omega)) wv_X2_change ml_X2_19 rfl rfl rfl Nat.one_pos rfl rfl rfl rfl ⟨Nat.le_of_ble_eq_true rfl, Nat.le_of_ble_eq_true rfl⟩ (Nat.le_of_ble_eq_true rfl) ⟨Nat.le_of_ble_eq_true rfl, Nat.le_of_ble_eq_true rfl⟩ dX2_changeKnown_4 ?_
  refine hq_aload_n (q := 0) C dX2_changeKnown_7 rfl rfl ?_
  refine hq_iload_n (q := 1) C dX2_changeKnown_8 rfl rfl ?_
  refine hq_iload_n (q := 2) C dX2_changeKnown_9 rfl rfl ?_
  refine hq_lload_n (q := 3) C dX2_changeKnown_10 rfl rfl ?_
  refine hq_cVv (As := [.int _, .int _, .long _]) (rm := rX2_write) (f := 11) (Nc := 1) C (m_X2_write (by first | rfl | assumption) (by first | assumption | omega) (by first | rfl | assumption) (by first | assumption | omega)) wv_X2_write ml_X2_23 rfl rfl rfl Nat.one_pos rfl rfl rfl rfl ⟨Nat.le_of_ble_eq_true rfl, Nat.le_of_ble_eq_true rfl⟩ (Nat.le_of_ble_eq_true rfl) ⟨Nat.le_of_ble_eq_true rfl, Nat.le_of_ble_eq_true rfl⟩ dX2_changeKnown_11 ?_
  refine hq_aload_n (q := 0) C dX2_changeKnown_14 rfl rfl ?_
  refine hq_iload_n (q := 2) C dX2_changeKnown_15 rfl rfl ?_
  refine hq_iload_n (q := 1) C dX2_changeKnown_16 rfl rfl ?_
  refine hq_lload_n (q := 3) C dX2_changeKnown_17 rfl rfl ?_
  refine hq_lneg C dX2_changeKnown_18 ?_
  refine hq_cVv (As := [.int _, .int _, .long _]) (rm := rX2_write) (f := 11) (Nc := 1) C (m_X2_write (by first | rfl | assumption) (by first | assumption | omega) (by first | rfl | assumption) (by first | assumption | omega)) wv_X2_write ml_X2_23 rfl rfl rfl Nat.one_pos rfl rfl rfl rfl ⟨Nat.le_of_ble_eq_true rfl, Nat.le_of_ble_eq_true rfl⟩ (Nat.le_of_ble_eq_true rfl) ⟨Nat.le_of_ble_eq_true rfl, Nat.le_of_ble_eq_true rfl⟩ dX2_changeKnown_19 ?_
  exact hq_vret C hr hlk dX2_changeKnown_22 rfl
set_option maxHeartbeats 4000000 in
set_option maxRecDepth 100000 in
theorem m_X3_firstBroker {l : Launch} {D : va_G} {b0 : Nat} {I : MI} {J : MJ} {P : MI} {N : MJ} {o : Int64} {i : Nat} (hi : i < 40) : hM l yX3_firstBroker cX3_firstBroker 1 (some .int) rX3_firstBroker D b0 [.ref (hw_ad b0 6 i)] I J P N o (some (.int (I 20 (12 * i + 0)))) I J P N o := by
  refine hw_Mof (by decide) [(0, .ref _)] rfl (Nat.le_of_ble_eq_true rfl) ?_
  intro p e s m args below meth c C hr hlk hnm
  refine hq_aload_n (q := 0) C dX3_firstBroker_0 rfl rfl ?_
  refine hq_getR (f := 6) (g := 7) (Nc := 40) (Ns := 10) C fr_X3_9 dX3_firstBroker_1 rfl rfl rfl rfl rfl (by decide) (by first | assumption | omega) ?_
  refine hq_iconst (y := 0) C dX3_firstBroker_4 (by decide) ?_
  refine hq_ialdIw (f := 7) (a := 0) (g := 20) (w := 12) (Nc := 40) (Ns := 12) C dX3_firstBroker_5 rfl rfl rfl ⟨rfl, by decide⟩ rfl rfl rfl (by decide) (by first | assumption | omega) ?_
  exact hq_iret C hr hlk dX3_firstBroker_6 rfl rfl
set_option maxHeartbeats 4000000 in
set_option maxRecDepth 100000 in
theorem m_X3_lastBroker {l : Launch} {D : va_G} {b0 : Nat} {I : MI} {J : MJ} {P : MI} {N : MJ} {o : Int64} {i n : Nat} (hi : i < 40) (hn : I 19 i = nI (n + 1)) (hn2 : n < 12) : hM l yX3_lastBroker cX3_lastBroker 1 (some .int) rX3_lastBroker D b0 [.ref (hw_ad b0 6 i)] I J P N o (some (.int (I 20 (12 * i + n)))) I J P N o := by
  refine hw_Mof (by decide) [(0, .ref _)] rfl (Nat.le_of_ble_eq_true rfl) ?_
  intro p e s m args below meth c C hr hlk hnm
  refine hq_aload_n (q := 0) C dX3_lastBroker_0 rfl rfl ?_
  refine hq_getI (f := 6) (g := 19) (Nc := 40) (Ns := 10) C fr_X3_18 dX3_lastBroker_1 rfl rfl rfl rfl rfl (by decide) (by first | assumption | omega) ?_
  refine hq_if_le (tgt := 33) C dX3_lastBroker_4 (by decide) (fun c_4 => absurd c_4 (by rw [hn]; exact nI_nle (Nat.succ_pos n) (by omega))) (fun c_4 => ?_)
  refine hq_aload_n (q := 0) C dX3_lastBroker_7 rfl rfl ?_
  refine hq_getI (f := 6) (g := 19) (Nc := 40) (Ns := 10) C fr_X3_18 dX3_lastBroker_8 rfl rfl rfl rfl rfl (by decide) (by first | assumption | omega) ?_
  refine hq_aload_n (q := 0) C dX3_lastBroker_11 rfl rfl ?_
  refine hq_getR (f := 6) (g := 7) (Nc := 40) (Ns := 10) C fr_X3_9 dX3_lastBroker_12 rfl rfl rfl rfl rfl (by decide) (by first | assumption | omega) ?_
  refine hq_alen (f := 7) (Nc := 40) (Ns := 12) C dX3_lastBroker_15 rfl rfl rfl rfl (by first | assumption | omega) ?_
  refine hq_icmp_gt (tgt := 33) C dX3_lastBroker_16 (by decide) (fun c_16 => absurd c_16 (by rw [hn]; exact nI_nlt (by omega) (by omega))) (fun c_16 => ?_)
  refine hq_aload_n (q := 0) C dX3_lastBroker_19 rfl rfl ?_
  refine hq_getR (f := 6) (g := 7) (Nc := 40) (Ns := 10) C fr_X3_9 dX3_lastBroker_20 rfl rfl rfl rfl rfl (by decide) (by first | assumption | omega) ?_
  refine hq_aload_n (q := 0) C dX3_lastBroker_23 rfl rfl ?_
  refine hq_getI (f := 6) (g := 19) (Nc := 40) (Ns := 10) C fr_X3_18 dX3_lastBroker_24 rfl rfl rfl rfl rfl (by decide) (by first | assumption | omega) ?_
  refine hq_iconst (y := 1) C dX3_lastBroker_27 (by decide) ?_
  refine hq_isub C dX3_lastBroker_28 ?_
  refine hq_ialdIw (f := 7) (a := n) (g := 20) (w := 12) (Nc := 40) (Ns := 12) C dX3_lastBroker_29 rfl rfl rfl ⟨rfl, by decide⟩ rfl rfl (by rw [hn]; exact nI_pred n) (by first | assumption | omega) (by first | assumption | omega) ?_
  refine hq_goto (tgt := 39) C dX3_lastBroker_30 (by decide) ?_
  exact hq_iret C hr hlk dX3_lastBroker_39 rfl rfl
