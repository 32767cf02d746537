/-! order, fetch, pass, and the questions -/
theorem fw_bo (I : MI) (J : MJ) (a b : Nat) (x : Int32) : hw_bo (sp_fw I J a b x).1 := sp_find_bo _ _ _ _
theorem sx_st_0 : sx_st 0 = some eS := rfl
theorem sx_st_1 : sx_st 1 = none := rfl
theorem tell_ne {I : MI} {t g j : Nat} {x : Int32} (h : g ≠ 29) : sp_tell I t x g j = I g j := by
  unfold sp_tell
  split
  · rfl
  · simp [uI, h]
theorem sx_st_n {x : Int32} (h : sx_st x = none) : ¬ x = 0 := fun z => by rw [z] at h; simp [sx_st] at h
def e6_order (I : MI) (x y z w v : Int32) : Option String := hx_or (sx_ix w 20) (hx_or (sx_two I x y) (hx_or (sx_rg z 1 1000000) (hx_or (sx_rg v 0 9999) (hx_or (sx_st (if 40 ≤ I 1 0 then 0 else 1)) (sx_st (if I 30 (tn w) = 0 then 1 else 0))))))
def e_order (I : MI) (J : MJ) (x y z w v : Int32) : Option String := hx_or (e6_order I x y z w v) (sx_st (sp_fw I J (tn x) (tn y) z).1)
def x_order (I : MI) (J : MJ) (x y z w v : Int32) : MI := if e6_order I x y z w v = none then (sp_fw I J (tn x) (tn y) z).2 else I
def g_order (K : MI) (z : Int32) : Int32 := z + (if 0 < tn (K 37 0) then K 34 (tn (K 36 0)) else 0)
def i0_order (K : MI) (z v : Int32) (n : Nat) : MI := uI (uI (uI (uI (uI K 12 n z) 13 n v) 15 n (K 3 0)) 16 n 0) 14 n (g_order K z)
def i1_order (K : MI) (z v : Int32) (n : Nat) : MI := sp_take (i0_order K z v n) n 0 (tn (K 37 0))
def i2_order (K : MI) (x z v : Int32) (n : Nat) : MI := uI (sp_tell (i1_order K z v n) (tn (K 5 (tn x))) z) 1 0 (nI (n + 1))
def j_order (K : MI) (J : MJ) (x z v : Int32) (n : Nat) : MJ := lp (sf_la (i1_order K z v n) n) (tn (K 37 0) - 1 - 0) 0 (uJ J 0 (tn x) (J 0 (tn x) + (i1_order K z v n 14 n).toInt64))
set_option maxHeartbeats 4000000 in
set_option maxRecDepth 100000 in
theorem m_X5_order {l : Launch} {D : va_G} {b0 : Nat} {I : MI} {J : MJ} {P : MI} {N : MJ} {o : Int64} (hlt : l.stackTraces = false) {x y z w v : Int32} {nb no nc : Nat} {B : Int} (h : hw_ci I J nb no nc B) (hfr : hw_fr I no nc) (hB : B ≤ 4611686018427387904) : hXe l yX5_order wX5_order rX5_order D b0 [.ref (hw_ad b0 0 0), .int x, .int y, .int z, .int w, .int v] I J P N o (e_order I J x y z w v) (hw_vl b0 (x_order I J x y z w v) J P N o) (some (.int (nI no))) (i2_order (sp_fw I J (tn x) (tn y) z).2 x z v no) (j_order (sp_fw I J (tn x) (tn y) z).2 J x z v no) P N o := by
  have hbc := h.1.1.1
  have hnb := h.1.1.2
  have hoc := h.1.2.1.1
  have hno := h.1.2.1.2
  have hcc := h.1.2.2.1.1
  have hnc := h.1.2.2.1.2
  refine hw_MXeof (by decide) [(0, .ref _), (1, .int _), (2, .int _), (3, .int _), (4, .int _), (5, .int _)] rfl (Nat.le_of_ble_eq_true rfl) ?_
  intro p e s m args below meth c C hr hlk ht
  refine hq_iload (q := 4) C dX5_order_0 rfl ?_
  refine hq_bipush (y := 20) C dX5_order_2 (by decide) ?_
  refine hq_cSXv (As := [.int _, .int _]) (rm := rX5_requireIndex) (Cn := "") C (m_X5_requireIndex hlt) ws_X5_requireIndex ml_X5_58 rfl rfl rfl rfl ⟨Nat.le_of_ble_eq_true rfl, Nat.le_of_ble_eq_true rfl⟩ (Nat.le_of_ble_eq_true rfl) ⟨Nat.le_of_ble_eq_true rfl, Nat.le_of_ble_eq_true rfl⟩ dX5_order_4 (fun n_4 => ?_) (fun E x_4 => hq_out ht hlk (by simp [hx_or, sx_st_0, sx_st_1, e_order, e6_order, x_4]) (by simp [x_order, hx_or, sx_st_0, sx_st_1, e_order, e6_order, x_4]) (Nat.le_of_ble_eq_true rfl) (Nat.le_of_ble_eq_true rfl))
  obtain ⟨hw, hwb⟩ := sx_ix_n (n := 20) (by omega) n_4
  refine hq_aload_n (q := 0) C dX5_order_7 rfl rfl ?_
  refine hq_iload_n (q := 1) C dX5_order_8 rfl rfl ?_
  refine hq_iload_n (q := 2) C dX5_order_9 rfl rfl ?_
  refine hq_cVXv (As := [.int _, .int _]) (rm := rX5_requireTwoBrokers) (f := 0) (Nc := 1) C (m_X5_requireTwoBrokers hlt) wv_X5_requireTwoBrokers ml_X5_84 rfl rfl rfl Nat.one_pos rfl rfl rfl rfl ⟨Nat.le_of_ble_eq_true rfl, Nat.le_of_ble_eq_true rfl⟩ (Nat.le_of_ble_eq_true rfl) ⟨Nat.le_of_ble_eq_true rfl, Nat.le_of_ble_eq_true rfl⟩ dX5_order_10 (fun n_10 => ?_) (fun E x_10 => hq_out ht hlk (by simp [hx_or, sx_st_0, sx_st_1, e_order, e6_order, n_4, x_10]) (by simp [x_order, hx_or, sx_st_0, sx_st_1, e_order, e6_order, n_4, x_10]) (Nat.le_of_ble_eq_true rfl) (Nat.le_of_ble_eq_true rfl))
  obtain ⟨⟨hx, hxb⟩, ⟨hy, hyb⟩, hxy⟩ := sx_two_n hbc (by omega) n_10
  refine hq_iload_n (q := 3) C dX5_order_13 rfl rfl ?_
  refine hq_iconst (y := 1) C dX5_order_14 (by decide) ?_
  refine hq_ldc C wc_X5_50 dX5_order_15 ?_
  refine hq_cSXv (As := [.int _, .int _, .int _]) (rm := rX5_requireRange) (Cn := "") C (m_X5_requireRange hlt) ws_X5_requireRange ml_X5_62 rfl rfl rfl rfl ⟨Nat.le_of_ble_eq_true rfl, Nat.le_of_ble_eq_true rfl⟩ (Nat.le_of_ble_eq_true rfl) ⟨Nat.le_of_ble_eq_true rfl, Nat.le_of_ble_eq_true rfl⟩ dX5_order_17 (fun n_17 => ?_) (fun E x_17 => hq_out ht hlk (by simp [hx_or, sx_st_0, sx_st_1, e_order, e6_order, n_4, n_10, x_17]) (by simp [x_order, hx_or, sx_st_0, sx_st_1, e_order, e6_order, n_4, n_10, x_17]) (Nat.le_of_ble_eq_true rfl) (Nat.le_of_ble_eq_true rfl))
  obtain ⟨hz, hz1, hz2⟩ := sx_rg_1 (n := 1000000) (by decide) (by omega) n_17
  have hne : tn x ≠ tn y := fun z => hxy (by rw [hx, hy, z])
  have hfw := fw_spec (J := J) hbc hnb (show tn x < 12 by omega) (show tn y < 12 by omega) hne hz2 h.2.2.1 (h.2.2.2.mono hB)
  rw [← hz] at hfw
  obtain ⟨hoth, hfw⟩ := hfw
  refine hq_iload (q := 5) C dX5_order_20 rfl ?_
  refine hq_iconst (y := 0) C dX5_order_22 (by decide) ?_
  refine hq_sipush (y := 9999) C dX5_order_23 (by decide) ?_
  refine hq_cSXv (As := [.int _, .int _, .int _]) (rm := rX5_requireRange) (Cn := "") C (m_X5_requireRange hlt) ws_X5_requireRange ml_X5_62 rfl rfl rfl rfl ⟨Nat.le_of_ble_eq_true rfl, Nat.le_of_ble_eq_true rfl⟩ (Nat.le_of_ble_eq_true rfl) ⟨Nat.le_of_ble_eq_true rfl, Nat.le_of_ble_eq_true rfl⟩ dX5_order_26 (fun n_26 => ?_) (fun E x_26 => hq_out ht hlk (by simp [hx_or, sx_st_0, sx_st_1, e_order, e6_order, n_4, n_10, n_17, x_26]) (by simp [x_order, hx_or, sx_st_0, sx_st_1, e_order, e6_order, n_4, n_10, n_17, x_26]) (Nat.le_of_ble_eq_true rfl) (Nat.le_of_ble_eq_true rfl))
  refine hq_aload_n (q := 0) C dX5_order_29 rfl rfl ?_
  refine hq_getI (f := 0) (g := 1) (Nc := 1) (Ns := 14) C fr_X5_124 dX5_order_30 rfl rfl rfl rfl rfl (by decide) Nat.one_pos ?_
  refine hq_bipush (y := 40) C dX5_order_33 (by decide) ?_
  refine hq_icmp_ge (tgt := 42) C dX5_order_35 (by decide) (fun c_35 => ?_) (fun c_35 => ?_)
  · refine hq_iconst (y := 0) C dX5_order_42 (by decide) ?_
    exact hq_cSXv (As := [.int _]) (rm := rX5_requireState) (Cn := "") C (m_X5_requireState hlt) ws_X5_requireState ml_X5_70 rfl rfl rfl rfl ⟨Nat.le_of_ble_eq_true rfl, Nat.le_of_ble_eq_true rfl⟩ (Nat.le_of_ble_eq_true rfl) ⟨Nat.le_of_ble_eq_true rfl, Nat.le_of_ble_eq_true rfl⟩ dX5_order_43 (fun n_43 => absurd n_43 (by simp [sx_st])) (fun E x_43 => hq_out ht hlk (by simpa [hx_or, sx_st_0, sx_st_1, e_order, e6_order, sx_st, n_4, n_10, n_17, n_26, c_35] using x_43) (by simp [x_order, hx_or, sx_st_0, sx_st_1, e_order, e6_order, n_4, n_10, n_17, n_26, c_35, sx_st]) (Nat.le_of_ble_eq_true rfl) (Nat.le_of_ble_eq_true rfl))
  · refine hq_iconst (y := 1) C dX5_order_38 (by decide) ?_
    refine hq_goto (tgt := 43) C dX5_order_39 (by decide) ?_
    refine hq_cSXv (As := [.int _]) (rm := rX5_requireState) (Cn := "") C (m_X5_requireState hlt) ws_X5_requireState ml_X5_70 rfl rfl rfl rfl ⟨Nat.le_of_ble_eq_true rfl, Nat.le_of_ble_eq_true rfl⟩ (Nat.le_of_ble_eq_true rfl) ⟨Nat.le_of_ble_eq_true rfl, Nat.le_of_ble_eq_true rfl⟩ dX5_order_43 (fun _ => ?_) (fun E x_43 => absurd x_43 (by simp [sx_st]))
    have h40 : no < 40 := by rcases Nat.lt_or_ge no 40 with z | z; exact z; exact absurd (by rw [hoc]; exact nI_le z (by omega) : (40 : Int32) ≤ I 1 0) c_35
    refine hq_aload_n (q := 0) C dX5_order_46 rfl rfl ?_
    refine hq_getR (f := 0) (g := 25) (Nc := 1) (Ns := 14) C fr_X5_54 dX5_order_47 rfl rfl rfl rfl rfl (by decide) Nat.one_pos ?_
    refine hq_iload (q := 4) C dX5_order_50 rfl ?_
    refine hq_zaldI0 (f := 25) (a := tn w) (g := 30) (Nc := 1) (Ns := 20) C dX5_order_52 rfl rfl rfl rfl rfl rfl hw hwb Nat.one_pos ?_
    refine hq_if_ne (tgt := 60) C dX5_order_53 (by decide) (fun c_53 => ?_) (fun c_53 => ?_)
    · refine hq_iconst (y := 0) C dX5_order_60 (by decide) ?_
      exact hq_cSXv (As := [.int _]) (rm := rX5_requireState) (Cn := "") C (m_X5_requireState hlt) ws_X5_requireState ml_X5_70 rfl rfl rfl rfl ⟨Nat.le_of_ble_eq_true rfl, Nat.le_of_ble_eq_true rfl⟩ (Nat.le_of_ble_eq_true rfl) ⟨Nat.le_of_ble_eq_true rfl, Nat.le_of_ble_eq_true rfl⟩ dX5_order_61 (fun n_61 => absurd n_61 (by simp [sx_st])) (fun E x_61 => hq_out ht hlk (by simpa [hx_or, sx_st_0, sx_st_1, e_order, e6_order, sx_st, n_4, n_10, n_17, n_26, c_35, c_53] using x_61) (by simp [x_order, hx_or, sx_st_0, sx_st_1, e_order, e6_order, n_4, n_10, n_17, n_26, c_35, c_53, sx_st]) (Nat.le_of_ble_eq_true rfl) (Nat.le_of_ble_eq_true rfl))
    · refine hq_iconst (y := 1) C dX5_order_56 (by decide) ?_
      refine hq_goto (tgt := 61) C dX5_order_57 (by decide) ?_
      refine hq_cSXv (As := [.int _]) (rm := rX5_requireState) (Cn := "") C (m_X5_requireState hlt) ws_X5_requireState ml_X5_70 rfl rfl rfl rfl ⟨Nat.le_of_ble_eq_true rfl, Nat.le_of_ble_eq_true rfl⟩ (Nat.le_of_ble_eq_true rfl) ⟨Nat.le_of_ble_eq_true rfl, Nat.le_of_ble_eq_true rfl⟩ dX5_order_61 (fun _ => ?_) (fun E x_61 => absurd x_61 (by simp [sx_st]))
      refine hq_aload_n (q := 0) C dX5_order_64 rfl rfl ?_
      refine hq_iload_n (q := 1) C dX5_order_65 rfl rfl ?_
      refine hq_iload_n (q := 2) C dX5_order_66 rfl rfl ?_
      refine hq_iload_n (q := 3) C dX5_order_67 rfl rfl ?_
      refine hq_cVr (As := [.int _, .int _, .int _]) (rm := rX5_findWay) (f := 0) (Nc := 1) C (m_X5_findWay h.1.2.2.2.1 hx (by omega) hy (by omega)) wv_X5_findWay ml_X5_127 rfl rfl rfl Nat.one_pos rfl rfl rfl rfl ⟨Nat.le_of_ble_eq_true rfl, Nat.le_of_ble_eq_true rfl⟩ (Nat.le_of_ble_eq_true rfl) ⟨Nat.le_of_ble_eq_true rfl, Nat.le_of_ble_eq_true rfl⟩ dX5_order_68 ?_
      generalize hKK : sp_fw I J (tn x) (tn y) z = KK at hoth hfw ⊢
      refine hq_cSXv (As := [.int _]) (rm := rX5_requireState) (Cn := "") C (m_X5_requireState hlt) ws_X5_requireState ml_X5_70 rfl rfl rfl rfl ⟨Nat.le_of_ble_eq_true rfl, Nat.le_of_ble_eq_true rfl⟩ (Nat.le_of_ble_eq_true rfl) ⟨Nat.le_of_ble_eq_true rfl, Nat.le_of_ble_eq_true rfl⟩ dX5_order_71 (fun n_71 => ?_) (fun E x_71 => hq_out ht hlk (by simp [hx_or, sx_st_0, sx_st_1, e_order, e6_order, hKK, n_4, n_10, n_17, n_26, c_35, c_53, x_71]) (by simp [hx_or, sx_st_0, sx_st_1, x_order, e6_order, hKK, n_4, n_10, n_17, n_26, c_35, c_53]) (Nat.le_of_ble_eq_true rfl) (Nat.le_of_ble_eq_true rfl))
      rcases hfw with q | ⟨q, n, pp, b1, b2, b3, b4, b5, b6⟩
      · exact absurd q (sx_st_n n_71)
      have eK1 : KK.2 1 0 = nI no := (hoth 1 0 (by omega)).trans hoc
      have em : tn (KK.2 37 0) = n + 1 := by rw [b3]; exact nI_clamp (by omega)
      obtain ⟨w1, w2, w3, w4⟩ := take_new (K := i0_order KK.2 z v no) (i := no) (p := pp) b3 b2 b1 ((hoth 17 no (by omega)).trans (hfr.1 no (Nat.le_refl _) h40).1) (fun k hk => ⟨(b6 k hk).1, (b6 k hk).2.1, (b6 k hk).2.2.1⟩)
      obtain ⟨tx, tx8, htx⟩ := h.1.2.2.2.2.1 (tn x) (by omega)
      have etx : KK.2 5 (tn x) = nI (tn (KK.2 5 (tn x))) := by rw [hoth 5 _ (by omega), htx]; exact (congrArg nI (nI_clamp (by omega))).symm
      have etx8 : tn (KK.2 5 (tn x)) < 8 := by rw [hoth 5 _ (by omega), htx]; show (nI tx).toNatClampNeg < 8; rw [nI_clamp (by omega)]; exact tx8
      have e5 : i1_order KK.2 z v no 5 (tn x) = KK.2 5 (tn x) := take_ne (by decide) (by decide) (by decide) _
      have e1 : i1_order KK.2 z v no 1 0 = nI no := (take_ne (by decide) (by decide) (by decide) _).trans eK1
      have w1m : hw_wy (i1_order KK.2 z v no) no (tn (KK.2 37 0) - 1) := by unfold i1_order; rw [em]; exact w1
      have w2m : i1_order KK.2 z v no 17 no = nI 0 := by unfold i1_order; rw [em]; exact w2
      have e1n : sp_tell (i1_order KK.2 z v no) (tn (KK.2 5 (tn x))) z 1 0 + 1 = nI (no + 1) := by rw [tell_ne (by decide), e1]; exact nI_1 _
      have hp9 : ∀ k, k < tn (KK.2 37 0) → ∃ b, b < 12 ∧ KK.2 36 k = nI b := fun k hk => by rw [em] at hk; exact ⟨pp k, (b6 k (by omega)).1, (b6 k (by omega)).2.1⟩
      have b3m : KK.2 37 0 = nI (tn (KK.2 37 0)) := by rw [em]; exact b3
      refine hq_aload_n (q := 0) C dX5_order_74 rfl rfl ?_
      refine hq_getR (f := 0) (g := 5) (Nc := 1) (Ns := 14) C fr_X5_18 dX5_order_75 rfl rfl rfl rfl rfl (by decide) Nat.one_pos ?_
      refine hq_aload_n (q := 0) C dX5_order_78 rfl rfl ?_
      refine hq_getI (f := 0) (g := 1) (Nc := 1) (Ns := 14) C fr_X5_124 dX5_order_79 rfl rfl rfl rfl rfl (by decide) Nat.one_pos ?_
      refine hq_aaldOR0 (f := 5) (a := no) (g := 6) (Nc := 1) (Ns := 40) C dX5_order_82 rfl rfl rfl rfl rfl rfl eK1 h40 Nat.one_pos ?_
      refine hq_astore (L' := [(6, .ref _), (0, .ref _), (1, .int _), (2, .int _), (3, .int _), (4, .int _), (5, .int _)]) C dX5_order_83 (by decide) rfl ?_
      refine hq_aload (q := 0) C dX5_order_85 rfl ?_
      refine hq_iload_n (q := 4) C dX5_order_87 rfl rfl ?_
      refine hq_putI (f := 6) (g := 12) (Nc := 40) (Ns := 10) C fl_X5_131 dX5_order_88 rfl rfl rfl rfl rfl (by decide) (by first | assumption | omega) rfl rfl ?_
      refine hq_aload (q := 0) C dX5_order_91 rfl ?_
      refine hq_iload (q := 6) C dX5_order_93 rfl ?_
      refine hq_putI (f := 6) (g := 13) (Nc := 40) (Ns := 10) C fl_X5_134 dX5_order_95 rfl rfl rfl rfl rfl (by decide) (by first | assumption | omega) rfl rfl ?_
      refine hq_aload (q := 0) C dX5_order_98 rfl ?_
      refine hq_aload_n (q := 1) C dX5_order_100 rfl rfl ?_
      refine hq_getI (f := 0) (g := 3) (Nc := 1) (Ns := 14) C fr_X5_112 dX5_order_101 rfl rfl rfl rfl rfl (by decide) Nat.one_pos ?_
      refine hq_putI (f := 6) (g := 15) (Nc := 40) (Ns := 10) C fl_X5_137 dX5_order_104 rfl rfl rfl rfl rfl (by decide) (by first | assumption | omega) rfl rfl ?_
      refine hq_aload (q := 0) C dX5_order_107 rfl ?_
      refine hq_iconst (y := 0) C dX5_order_109 (by decide) ?_
      refine hq_putI (f := 6) (g := 16) (Nc := 40) (Ns := 10) C fl_X5_140 dX5_order_110 rfl rfl rfl rfl rfl (by decide) (by first | assumption | omega) rfl rfl ?_
      refine hq_aload (q := 0) C dX5_order_113 rfl ?_
      refine hq_iload_n (q := 4) C dX5_order_115 rfl rfl ?_
      refine hq_aload_n (q := 1) C dX5_order_116 rfl rfl ?_
      refine hq_getR (f := 0) (g := 16) (Nc := 1) (Ns := 14) C fr_X5_42 dX5_order_117 rfl rfl rfl rfl rfl (by decide) Nat.one_pos ?_
      refine hq_cVr (As := []) (rm := rX4_allFees) (f := 16) (Nc := 1) C (m_X4_allFees (n := tn (KK.2 37 0)) b3m (by omega) hp9) wv_X4_allFees ml_X5_141 rfl rfl rfl Nat.one_pos rfl rfl rfl rfl ⟨Nat.le_of_ble_eq_true rfl, Nat.le_of_ble_eq_true rfl⟩ (Nat.le_of_ble_eq_true rfl) ⟨Nat.le_of_ble_eq_true rfl, Nat.le_of_ble_eq_true rfl⟩ dX5_order_120 ?_
      refine hq_iadd C dX5_order_123 ?_
      refine hq_putI (f := 6) (g := 14) (Nc := 40) (Ns := 10) C fl_X5_145 dX5_order_124 rfl rfl rfl rfl rfl (by decide) (by first | assumption | omega) rfl rfl ?_
      refine hq_aload (q := 0) C dX5_order_127 rfl ?_
      refine hq_aload_n (q := 1) C dX5_order_129 rfl rfl ?_
      refine hq_getR (f := 0) (g := 16) (Nc := 1) (Ns := 14) C fr_X5_42 dX5_order_130 rfl rfl rfl rfl rfl (by decide) Nat.one_pos ?_
      refine hq_iconst (y := 0) C dX5_order_133 (by decide) ?_
      refine hq_cVv (As := [.ref _, .int _]) (rm := rX3_takeWay) (f := 6) (Nc := 40) C (m_X3_takeWay (q := 0) (n := tn (KK.2 37 0)) h40 rfl (by omega) b3m hp9) wv_X3_takeWay ml_X5_148 rfl rfl rfl (by first | assumption | omega) rfl rfl rfl rfl ⟨Nat.le_of_ble_eq_true rfl, Nat.le_of_ble_eq_true rfl⟩ (Nat.le_of_ble_eq_true rfl) ⟨Nat.le_of_ble_eq_true rfl, Nat.le_of_ble_eq_true rfl⟩ dX5_order_134 ?_
      refine hq_aload_n (q := 1) C dX5_order_137 rfl rfl ?_
      refine hq_getR (f := 0) (g := 1) (Nc := 1) (Ns := 14) C fr_X5_11 dX5_order_138 rfl rfl rfl rfl rfl (by decide) Nat.one_pos ?_
      refine hq_iload_n (q := 2) C dX5_order_141 rfl rfl ?_
      refine hq_aaldBR0 (f := 1) (a := tn x) (g := 2) (Nc := 1) (Ns := 12) C dX5_order_142 rfl rfl rfl rfl rfl rfl hx (by omega) Nat.one_pos ?_
      refine hq_dup C dX5_order_143 rfl ?_
      refine hq_getJ (f := 2) (g := 0) (Nc := 12) (Ns := 8) C fr_X5_77 dX5_order_144 rfl rfl rfl rfl rfl (by decide) (by first | assumption | omega) ?_
      refine hq_aload (q := 0) C dX5_order_147 rfl ?_
      refine hq_getI (f := 6) (g := 14) (Nc := 40) (Ns := 10) C fr_X5_145 dX5_order_149 rfl rfl rfl rfl rfl (by decide) (by first | assumption | omega) ?_
      refine hq_i2l C dX5_order_152 ?_
      refine hq_ladd C dX5_order_153 ?_
      refine hq_putJ (f := 2) (g := 0) (Nc := 12) (Ns := 8) C fl_X5_77 dX5_order_154 rfl rfl rfl rfl rfl (by decide) (by first | assumption | omega) rfl rfl ?_
      refine hq_aload_n (q := 1) C dX5_order_157 rfl rfl ?_
      refine hq_aload (q := 0) C dX5_order_158 rfl ?_
      refine hq_cVv (As := [.ref _]) (rm := rX5_letArise) (f := 0) (Nc := 1) C (m_X5_letArise (n := tn (KK.2 37 0) - 1) (q := 0) h40 w1m w2m (Nat.zero_le _)) wv_X5_letArise ml_X5_152 rfl rfl rfl Nat.one_pos rfl rfl rfl rfl ⟨Nat.le_of_ble_eq_true rfl, Nat.le_of_ble_eq_true rfl⟩ (Nat.le_of_ble_eq_true rfl) ⟨Nat.le_of_ble_eq_true rfl, Nat.le_of_ble_eq_true rfl⟩ dX5_order_160 ?_
      refine hq_aload_n (q := 1) C dX5_order_163 rfl rfl ?_
      refine hq_aload_n (q := 1) C dX5_order_164 rfl rfl ?_
      refine hq_getR (f := 0) (g := 1) (Nc := 1) (Ns := 14) C fr_X5_11 dX5_order_165 rfl rfl rfl rfl rfl (by decide) Nat.one_pos ?_
      refine hq_iload_n (q := 2) C dX5_order_168 rfl rfl ?_
      refine hq_aaldBR0 (f := 1) (a := tn x) (g := 2) (Nc := 1) (Ns := 12) C dX5_order_169 rfl rfl rfl rfl rfl rfl hx (by omega) Nat.one_pos ?_
      refine hq_getI (f := 2) (g := 5) (Nc := 12) (Ns := 8) C fr_X5_74 dX5_order_170 rfl rfl rfl rfl rfl (by decide) (by first | assumption | omega) ?_
      refine hq_iload_n (q := 4) C dX5_order_173 rfl rfl ?_
      refine hq_cVv (As := [.int _, .int _]) (rm := rX5_tellTown) (f := 0) (Nc := 1) C (m_X5_tellTown (t := tn (KK.2 5 (tn x))) (e5.trans etx) etx8) wv_X5_tellTown ml_X5_156 rfl rfl rfl Nat.one_pos rfl rfl rfl rfl ⟨Nat.le_of_ble_eq_true rfl, Nat.le_of_ble_eq_true rfl⟩ (Nat.le_of_ble_eq_true rfl) ⟨Nat.le_of_ble_eq_true rfl, Nat.le_of_ble_eq_true rfl⟩ dX5_order_174 ?_
      refine hq_aload_n (q := 1) C dX5_order_177 rfl rfl ?_
      refine hq_dup C dX5_order_178 rfl ?_
      refine hq_getI (f := 0) (g := 1) (Nc := 1) (Ns := 14) C fr_X5_124 dX5_order_179 rfl rfl rfl rfl rfl (by decide) Nat.one_pos ?_
      refine hq_iconst (y := 1) C dX5_order_182 (by decide) ?_
      refine hq_iadd C dX5_order_183 ?_
      refine hq_putI (f := 0) (g := 1) (Nc := 1) (Ns := 14) C fl_X5_124 dX5_order_184 rfl rfl rfl rfl rfl (by decide) Nat.one_pos rfl rfl ?_
      refine hq_aload_n (q := 1) C dX5_order_187 rfl rfl ?_
      refine hq_getI (f := 0) (g := 1) (Nc := 1) (Ns := 14) C fr_X5_124 dX5_order_188 rfl rfl rfl rfl rfl (by decide) Nat.one_pos ?_
      refine hq_iconst (y := 1) C dX5_order_191 (by decide) ?_
      refine hq_isub C dX5_order_192 ?_
      exact hq_iretX C hr hlk dX5_order_193 (by simp [hx_or, sx_st_0, sx_st_1, e_order, e6_order, hKK, n_4, n_10, n_17, n_26, n_71, c_35, c_53]) (by show sp_tell (i1_order KK.2 z v no) (tn (KK.2 5 (tn x))) z 1 0 + 1 - 1 = nI no; rw [e1n]; exact nI_pred _) (by unfold i2_order; rw [← e1n]; rfl) (Nat.le_of_ble_eq_true rfl) (Nat.le_of_ble_eq_true rfl)
def e_fetch (I : MI) (J : MJ) (x y : Int32) : Option String := hx_or (sx_ix x (I 1 0)) (hx_or (sx_rg y 0 9999) (hx_or (sx_st (if ¬ I 16 (tn x) = 1 then 0 else 1)) (sx_st (if hb (I 7 (hw_at I (tn x) (hw_ln I (tn x))) = 0) = 0 then 0 else if lg_cmp (J 0 (hw_at I (tn x) (hw_ln I (tn x)))) (I 12 (tn x)).toInt64 < 0 then 0 else 1))))
def i_fetch (I : MI) (x : Int32) : MI := uI I 18 (tn x) (I 18 (tn x) + 1)
def s_fetch (I : MI) (J : MJ) (x y : Int32) : Int32 × MI × MJ := if y = I 13 (tn x) then (2, uI I 16 (tn x) 2, uJ J 0 (hw_at I (tn x) (hw_ln I (tn x))) (J 0 (hw_at I (tn x) (hw_ln I (tn x))) - (I 12 (tn x)).toInt64)) else (if i_fetch I x 18 (tn x) < 3 then (I 16 (tn x), i_fetch I x, J) else (sp_ef (i_fetch I x) (tn x) 16 (tn x), sp_ef (i_fetch I x) (tn x), lp (sf_tb (i_fetch I x) (tn x)) (hw_ln I (tn x) - 0) 0 J))
set_option maxHeartbeats 4000000 in
set_option maxRecDepth 100000 in
theorem m_X5_fetch {l : Launch} {D : va_G} {b0 : Nat} {I : MI} {J : MJ} {P : MI} {N : MJ} {o : Int64} (hlt : l.stackTraces = false) {x y : Int32} {nb no nc : Nat} {B : Int} (h : hw_ci I J nb no nc B) : hX l yX5_fetch wX5_fetch rX5_fetch D b0 [.ref (hw_ad b0 0 0), .int x, .int y] I J P N o (e_fetch I J x y) (some (.int (s_fetch I J x y).1)) (s_fetch I J x y).2.1 (s_fetch I J x y).2.2 P N o := by
  have hbc := h.1.1.1
  have hnb := h.1.1.2
  have hoc := h.1.2.1.1
  have hno := h.1.2.1.2
  have hcc := h.1.2.2.1.1
  have hnc := h.1.2.2.1.2
  refine hw_MXof (by decide) [(0, .ref _), (1, .int _), (2, .int _)] rfl (Nat.le_of_ble_eq_true rfl) ?_
  intro p e s m args below meth c C hr hlk ht
  refine hq_iload_n (q := 1) C dX5_fetch_0 rfl rfl ?_
  refine hq_aload_n (q := 0) C dX5_fetch_1 rfl rfl ?_
  refine hq_getI (f := 0) (g := 1) (Nc := 1) (Ns := 14) C fr_X5_124 dX5_fetch_2 rfl rfl rfl rfl rfl (by decide) Nat.one_pos ?_
  refine hq_cSXv (As := [.int _, .int _]) (rm := rX5_requireIndex) (Cn := "") C (m_X5_requireIndex hlt) ws_X5_requireIndex ml_X5_58 rfl rfl rfl rfl ⟨Nat.le_of_ble_eq_true rfl, Nat.le_of_ble_eq_true rfl⟩ (Nat.le_of_ble_eq_true rfl) ⟨Nat.le_of_ble_eq_true rfl, Nat.le_of_ble_eq_true rfl⟩ dX5_fetch_5 (fun n_5 => ?_) (fun E x_5 => hq_out ht hlk (by simp [hx_or, sx_st_0, sx_st_1, e_fetch, x_5]) rfl (Nat.le_of_ble_eq_true rfl) (Nat.le_of_ble_eq_true rfl))
  obtain ⟨hx, hxb⟩ := sx_ix_i hoc (by omega) n_5
  have hx40 : tn x < 40 := by omega
  have hwy := (h.1.2.2.2.2.2.1 (tn x) hxb).1
  have hla := hwy.2.2 _ (Nat.le_refl _)
  have hlb : hw_at I (tn x) (hw_ln I (tn x)) < 12 := hla.b
  refine hq_iload_n (q := 2) C dX5_fetch_8 rfl rfl ?_
  refine hq_iconst (y := 0) C dX5_fetch_9 (by decide) ?_
  refine hq_sipush (y := 9999) C dX5_fetch_10 (by decide) ?_
  refine hq_cSXv (As := [.int _, .int _, .int _]) (rm := rX5_requireRange) (Cn := "") C (m_X5_requireRange hlt) ws_X5_requireRange ml_X5_62 rfl rfl rfl rfl ⟨Nat.le_of_ble_eq_true rfl, Nat.le_of_ble_eq_true rfl⟩ (Nat.le_of_ble_eq_true rfl) ⟨Nat.le_of_ble_eq_true rfl, Nat.le_of_ble_eq_true rfl⟩ dX5_fetch_13 (fun n_13 => ?_) (fun E x_13 => hq_out ht hlk (by simp [hx_or, sx_st_0, sx_st_1, e_fetch, n_5, x_13]) rfl (Nat.le_of_ble_eq_true rfl) (Nat.le_of_ble_eq_true rfl))
  refine hq_aload_n (q := 0) C dX5_fetch_16 rfl rfl ?_
  refine hq_getR (f := 0) (g := 5) (Nc := 1) (Ns := 14) C fr_X5_18 dX5_fetch_17 rfl rfl rfl rfl rfl (by decide) Nat.one_pos ?_
  refine hq_iload_n (q := 1) C dX5_fetch_20 rfl rfl ?_
  refine hq_aaldOR0 (f := 5) (a := tn x) (g := 6) (Nc := 1) (Ns := 40) C dX5_fetch_21 rfl rfl rfl rfl rfl rfl hx (by omega) Nat.one_pos ?_
  refine hq_astore_n (L' := [(3, .ref _), (0, .ref _), (1, .int _), (2, .int _)]) C dX5_fetch_22 rfl (by decide) rfl ?_
  refine hq_aload_n (q := 1) C dX5_fetch_23 rfl rfl ?_
  refine hq_getR (f := 0) (g := 1) (Nc := 1) (Ns := 14) C fr_X5_11 dX5_fetch_24 rfl rfl rfl rfl rfl (by decide) Nat.one_pos ?_
  refine hq_aload_n (q := 0) C dX5_fetch_27 rfl rfl ?_
  refine hq_cVr (As := []) (rm := rX3_lastBroker) (f := 6) (Nc := 40) C (m_X3_lastBroker (n := hw_ln I (tn x)) hx40 hwy.2.1 hwy.1) wv_X3_lastBroker ml_X5_159 rfl rfl rfl (by first | assumption | omega) rfl rfl rfl rfl ⟨Nat.le_of_ble_eq_true rfl, Nat.le_of_ble_eq_true rfl⟩ (Nat.le_of_ble_eq_true rfl) ⟨Nat.le_of_ble_eq_true rfl, Nat.le_of_ble_eq_true rfl⟩ dX5_fetch_28 ?_
  refine hq_aaldBR0 (f := 1) (a := hw_at I (tn x) (hw_ln I (tn x))) (g := 2) (Nc := 1) (Ns := 12) C dX5_fetch_31 rfl rfl rfl rfl rfl rfl hla.x hla.b Nat.one_pos ?_
  refine hq_astore (L' := [(4, .ref _), (3, .ref _), (0, .ref _), (1, .int _), (2, .int _)]) C dX5_fetch_32 (by decide) rfl ?_
  refine hq_aload_n (q := 1) C dX5_fetch_34 rfl rfl ?_
  refine hq_getI (f := 6) (g := 16) (Nc := 40) (Ns := 10) C fr_X5_140 dX5_fetch_35 rfl rfl rfl rfl rfl (by decide) (by first | assumption | omega) ?_
  refine hq_iconst (y := 1) C dX5_fetch_38 (by decide) ?_
  refine hq_icmp_ne (tgt := 46) C dX5_fetch_39 (by decide) (fun c_39 => ?_) (fun c_39 => ?_)
  · refine hq_iconst (y := 0) C dX5_fetch_46 (by decide) ?_
    exact hq_cSXv (As := [.int _]) (rm := rX5_requireState) (Cn := "") C (m_X5_requireState hlt) ws_X5_requireState ml_X5_70 rfl rfl rfl rfl ⟨Nat.le_of_ble_eq_true rfl, Nat.le_of_ble_eq_true rfl⟩ (Nat.le_of_ble_eq_true rfl) ⟨Nat.le_of_ble_eq_true rfl, Nat.le_of_ble_eq_true rfl⟩ dX5_fetch_47 (fun n_47 => absurd n_47 (by simp [sx_st])) (fun E x_47 => hq_out ht hlk (by simpa [hx_or, sx_st_0, sx_st_1, e_fetch, sx_st, n_5, n_13, c_39] using x_47) rfl (Nat.le_of_ble_eq_true rfl) (Nat.le_of_ble_eq_true rfl))
  · refine hq_iconst (y := 1) C dX5_fetch_42 (by decide) ?_
    refine hq_goto (tgt := 47) C dX5_fetch_43 (by decide) ?_
    refine hq_cSXv (As := [.int _]) (rm := rX5_requireState) (Cn := "") C (m_X5_requireState hlt) ws_X5_requireState ml_X5_70 rfl rfl rfl rfl ⟨Nat.le_of_ble_eq_true rfl, Nat.le_of_ble_eq_true rfl⟩ (Nat.le_of_ble_eq_true rfl) ⟨Nat.le_of_ble_eq_true rfl, Nat.le_of_ble_eq_true rfl⟩ dX5_fetch_47 (fun _ => ?_) (fun E x_47 => absurd x_47 (by simp [sx_st]))
    refine hq_aload (q := 0) C dX5_fetch_50 rfl ?_
    refine hq_cVr (As := []) (rm := rX0_isGood) (f := 2) (Nc := 12) C (m_X0_isGood (by first | assumption | omega)) wv_X0_isGood ml_X5_108 rfl rfl rfl (by first | assumption | omega) rfl rfl rfl rfl ⟨Nat.le_of_ble_eq_true rfl, Nat.le_of_ble_eq_true rfl⟩ (Nat.le_of_ble_eq_true rfl) ⟨Nat.le_of_ble_eq_true rfl, Nat.le_of_ble_eq_true rfl⟩ dX5_fetch_52 ?_
    refine hq_if_eq (tgt := 76) C dX5_fetch_55 (by decide) (fun c_55 => ?_) (fun c_55 => ?_)
    · refine hq_iconst (y := 0) C dX5_fetch_76 (by decide) ?_
      exact hq_cSXv (As := [.int _]) (rm := rX5_requireState) (Cn := "") C (m_X5_requireState hlt) ws_X5_requireState ml_X5_70 rfl rfl rfl rfl ⟨Nat.le_of_ble_eq_true rfl, Nat.le_of_ble_eq_true rfl⟩ (Nat.le_of_ble_eq_true rfl) ⟨Nat.le_of_ble_eq_true rfl, Nat.le_of_ble_eq_true rfl⟩ dX5_fetch_77 (fun n_77 => absurd n_77 (by simp [sx_st])) (fun E x_77 => hq_out ht hlk (by simpa [hx_or, sx_st_0, sx_st_1, e_fetch, sx_st, n_5, n_13, c_39, c_55] using x_77) rfl (Nat.le_of_ble_eq_true rfl) (Nat.le_of_ble_eq_true rfl))
    · refine hq_aload (q := 0) C dX5_fetch_58 rfl ?_
      refine hq_getJ (f := 2) (g := 0) (Nc := 12) (Ns := 8) C fr_X5_77 dX5_fetch_60 rfl rfl rfl rfl rfl (by decide) (by first | assumption | omega) ?_
      refine hq_aload_n (q := 1) C dX5_fetch_63 rfl rfl ?_
      refine hq_getI (f := 6) (g := 12) (Nc := 40) (Ns := 10) C fr_X5_131 dX5_fetch_64 rfl rfl rfl rfl rfl (by decide) (by first | assumption | omega) ?_
      refine hq_i2l C dX5_fetch_67 ?_
      refine hq_lcmp C dX5_fetch_68 ?_
      refine hq_if_lt (tgt := 76) C dX5_fetch_69 (by decide) (fun c_69 => ?_) (fun c_69 => ?_)
      · refine hq_iconst (y := 0) C dX5_fetch_76 (by decide) ?_
        exact hq_cSXv (As := [.int _]) (rm := rX5_requireState) (Cn := "") C (m_X5_requireState hlt) ws_X5_requireState ml_X5_70 rfl rfl rfl rfl ⟨Nat.le_of_ble_eq_true rfl, Nat.le_of_ble_eq_true rfl⟩ (Nat.le_of_ble_eq_true rfl) ⟨Nat.le_of_ble_eq_true rfl, Nat.le_of_ble_eq_true rfl⟩ dX5_fetch_77 (fun n_77 => absurd n_77 (by simp [sx_st])) (fun E x_77 => hq_out ht hlk (by simpa [hx_or, sx_st_0, sx_st_1, e_fetch, sx_st, n_5, n_13, c_39, c_55, c_69] using x_77) rfl (Nat.le_of_ble_eq_true rfl) (Nat.le_of_ble_eq_true rfl))
      · refine hq_iconst (y := 1) C dX5_fetch_72 (by decide) ?_
        refine hq_goto (tgt := 77) C dX5_fetch_73 (by decide) ?_
        refine hq_cSXv (As := [.int _]) (rm := rX5_requireState) (Cn := "") C (m_X5_requireState hlt) ws_X5_requireState ml_X5_70 rfl rfl rfl rfl ⟨Nat.le_of_ble_eq_true rfl, Nat.le_of_ble_eq_true rfl⟩ (Nat.le_of_ble_eq_true rfl) ⟨Nat.le_of_ble_eq_true rfl, Nat.le_of_ble_eq_true rfl⟩ dX5_fetch_77 (fun _ => ?_) (fun E x_77 => absurd x_77 (by simp [sx_st]))
        refine hq_iload_n (q := 4) C dX5_fetch_80 rfl rfl ?_
        refine hq_aload_n (q := 1) C dX5_fetch_81 rfl rfl ?_
        refine hq_getI (f := 6) (g := 13) (Nc := 40) (Ns := 10) C fr_X5_134 dX5_fetch_82 rfl rfl rfl rfl rfl (by decide) (by first | assumption | omega) ?_
        refine hq_icmp_ne (tgt := 110) C dX5_fetch_85 (by decide) (fun c_85 => ?_) (fun c_85 => ?_)
        · refine hq_aload_n (q := 1) C dX5_fetch_110 rfl rfl ?_
          refine hq_dup C dX5_fetch_111 rfl ?_
          refine hq_getI (f := 6) (g := 18) (Nc := 40) (Ns := 10) C fr_X5_162 dX5_fetch_112 rfl rfl rfl rfl rfl (by decide) (by first | assumption | omega) ?_
          refine hq_iconst (y := 1) C dX5_fetch_115 (by decide) ?_
          refine hq_iadd C dX5_fetch_116 ?_
          refine hq_putI (f := 6) (g := 18) (Nc := 40) (Ns := 10) C fl_X5_162 dX5_fetch_117 rfl rfl rfl rfl rfl (by decide) (by first | assumption | omega) rfl rfl ?_
          refine hq_aload_n (q := 1) C dX5_fetch_120 rfl rfl ?_
          refine hq_getI (f := 6) (g := 18) (Nc := 40) (Ns := 10) C fr_X5_162 dX5_fetch_121 rfl rfl rfl rfl rfl (by decide) (by first | assumption | omega) ?_
          refine hq_iconst (y := 3) C dX5_fetch_124 (by decide) ?_
          refine hq_icmp_lt (tgt := 133) C dX5_fetch_125 (by decide) (fun c_125 => ?_) (fun c_125 => ?_)
          · refine hq_aload_n (q := 1) C dX5_fetch_133 rfl rfl ?_
            refine hq_getI (f := 6) (g := 16) (Nc := 40) (Ns := 10) C fr_X5_140 dX5_fetch_134 rfl rfl rfl rfl rfl (by decide) (by first | assumption | omega) ?_
            exact hq_iretX C hr hlk dX5_fetch_137 (by simp [hx_or, sx_st_0, sx_st_1, e_fetch, n_5, n_13, c_39, c_55, c_69]) (by rw [show s_fetch I J x y = _ from ((if_neg c_85).trans (if_pos c_125))]; try rfl) (by rw [show s_fetch I J x y = _ from ((if_neg c_85).trans (if_pos c_125))]; try rfl) (Nat.le_of_ble_eq_true rfl) (Nat.le_of_ble_eq_true rfl)
          · refine hq_aload_n (q := 2) C dX5_fetch_128 rfl rfl ?_
            refine hq_aload_n (q := 1) C dX5_fetch_129 rfl rfl ?_
            refine hq_cVv (As := [.ref _]) (rm := rX5_goBack) (f := 0) (Nc := 1) C (m_X5_goBack (n := hw_ln I (tn x)) hx40 hwy) wv_X5_goBack ml_X5_165 rfl rfl rfl Nat.one_pos rfl rfl rfl rfl ⟨Nat.le_of_ble_eq_true rfl, Nat.le_of_ble_eq_true rfl⟩ (Nat.le_of_ble_eq_true rfl) ⟨Nat.le_of_ble_eq_true rfl, Nat.le_of_ble_eq_true rfl⟩ dX5_fetch_130 ?_
            refine hq_aload_n (q := 1) C dX5_fetch_133 rfl rfl ?_
            refine hq_getI (f := 6) (g := 16) (Nc := 40) (Ns := 10) C fr_X5_140 dX5_fetch_134 rfl rfl rfl rfl rfl (by decide) (by first | assumption | omega) ?_
            exact hq_iretX C hr hlk dX5_fetch_137 (by simp [hx_or, sx_st_0, sx_st_1, e_fetch, n_5, n_13, c_39, c_55, c_69]) (by rw [show s_fetch I J x y = _ from ((if_neg c_85).trans (if_neg c_125))]; try rfl) (by rw [show s_fetch I J x y = _ from ((if_neg c_85).trans (if_neg c_125))]; try rfl) (Nat.le_of_ble_eq_true rfl) (Nat.le_of_ble_eq_true rfl)
        · refine hq_aload (q := 0) C dX5_fetch_88 rfl ?_
          refine hq_dup C dX5_fetch_90 rfl ?_
          refine hq_getJ (f := 2) (g := 0) (Nc := 12) (Ns := 8) C fr_X5_77 dX5_fetch_91 rfl rfl rfl rfl rfl (by decide) (by first | assumption | omega) ?_
          refine hq_aload_n (q := 1) C dX5_fetch_94 rfl rfl ?_
          refine hq_getI (f := 6) (g := 12) (Nc := 40) (Ns := 10) C fr_X5_131 dX5_fetch_95 rfl rfl rfl rfl rfl (by decide) (by first | assumption | omega) ?_
          refine hq_i2l C dX5_fetch_98 ?_
          refine hq_lsub C dX5_fetch_99 ?_
          refine hq_putJ (f := 2) (g := 0) (Nc := 12) (Ns := 8) C fl_X5_77 dX5_fetch_100 rfl rfl rfl rfl rfl (by decide) (by first | assumption | omega) rfl rfl ?_
          refine hq_aload_n (q := 1) C dX5_fetch_103 rfl rfl ?_
          refine hq_iconst (y := 2) C dX5_fetch_104 (by decide) ?_
          refine hq_putI (f := 6) (g := 16) (Nc := 40) (Ns := 10) C fl_X5_140 dX5_fetch_105 rfl rfl rfl rfl rfl (by decide) (by first | assumption | omega) rfl rfl ?_
          refine hq_iconst (y := 2) C dX5_fetch_108 (by decide) ?_
          exact hq_iretX C hr hlk dX5_fetch_109 (by simp [hx_or, sx_st_0, sx_st_1, e_fetch, n_5, n_13, c_39, c_55, c_69]) (by rw [show s_fetch I J x y = _ from (if_pos c_85)]; try rfl) (by rw [show s_fetch I J x y = _ from (if_pos c_85)]; try rfl) (Nat.le_of_ble_eq_true rfl) (Nat.le_of_ble_eq_true rfl)
def e_pass (x : Int32) : Option String := sx_rg x 1 500
def sf_ps (nb no nc : Nat) (_ : Nat) (σ : MI × MJ) : MI × MJ := sp_ph σ.1 σ.2 nb no nc
def s_pass (I : MI) (J : MJ) (x : Int32) (nb no nc : Nat) : MI × MJ := lp (sf_ps nb no nc) (tn x) 0 (I, J)
set_option maxHeartbeats 4000000 in
set_option maxRecDepth 100000 in
theorem m_X5_pass {l : Launch} {D : va_G} {b0 : Nat} {I : MI} {J : MJ} {P : MI} {N : MJ} {o : Int64} (hlt : l.stackTraces = false) {x : Int32} {nb no nc : Nat} {B : Int} (h : hw_ci I J nb no nc B) : hX l yX5_pass wX5_pass rX5_pass D b0 [.ref (hw_ad b0 0 0), .int x] I J P N o (e_pass x) (some (.int ((s_pass I J x nb no nc).1 3 0))) (s_pass I J x nb no nc).1 (s_pass I J x nb no nc).2 P N o := by
  have hbc := h.1.1.1
  have hnb := h.1.1.2
  have hoc := h.1.2.1.1
  have hno := h.1.2.1.2
  have hcc := h.1.2.2.1.1
  have hnc := h.1.2.2.1.2
  refine hw_MXof (by decide) [(0, .ref _), (1, .int _)] rfl (Nat.le_of_ble_eq_true rfl) ?_
  intro p e s m args below meth c C hr hlk ht
  refine hq_iload_n (q := 1) C dX5_pass_0 rfl rfl ?_
  refine hq_iconst (y := 1) C dX5_pass_1 (by decide) ?_
  refine hq_sipush (y := 500) C dX5_pass_2 (by decide) ?_
  refine hq_cSXv (As := [.int _, .int _, .int _]) (rm := rX5_requireRange) (Cn := "") C (m_X5_requireRange hlt) ws_X5_requireRange ml_X5_62 rfl rfl rfl rfl ⟨Nat.le_of_ble_eq_true rfl, Nat.le_of_ble_eq_true rfl⟩ (Nat.le_of_ble_eq_true rfl) ⟨Nat.le_of_ble_eq_true rfl, Nat.le_of_ble_eq_true rfl⟩ dX5_pass_5 (fun n_5 => ?_) (fun E x_5 => hq_out ht hlk x_5 rfl (Nat.le_of_ble_eq_true rfl) (Nat.le_of_ble_eq_true rfl))
  obtain ⟨hx, hx1, hx5⟩ := sx_rg_1 (n := 500) (by decide) (by omega) n_5
  refine hq_iconst (y := 0) C dX5_pass_8 (by decide) ?_
  refine hq_istore_n (L' := [(2, .int _), (0, .ref _), (1, .int _)]) C dX5_pass_9 rfl (by decide) rfl ?_
  refine hq_perm [0, 1, 2] (L' := [(2, .int (nI 0)), (0, .ref (hw_ad b0 0 0)), (1, .int x)]) rfl ?_
  refine lp_back (sf_ps nb no nc) (fun (k9 : Nat) (σ : MI × MJ) => hw_V p l e rX5_pass s m args below meth c (vx_MQ below (hw_QX D b0 (hw_n o) (e_pass x) (some (.int ((s_pass I J x nb no nc).1 3 0))) (hw_vl b0 (s_pass I J x nb no nc).1 (s_pass I J x nb no nc).2 P N o)) (hw_XC D b0 (hw_n o) (e_pass x) (hw_vl b0 I J P N o)) args s rX5_pass.cells rX5_pass.slots (fun q => b0 ≤ q)) D b0 3 false (0 + rX5_requireRange.cells) (0 + rX5_requireRange.slots) (hw_n o) 10 [(2, .int (nI k9)), (0, .ref (hw_ad b0 0 0)), (1, .int x)] [] (hw_vl b0 σ.1 σ.2 P N o)) (fun _ σ => hw_iv σ.1 nb no nc) (tn x) ?_ (fun i σ _ hs => sp_ph_iv hs) (tn x) 0 (I, J) (by omega) h.1 ?_
  · intro k9 σ hi hinv k
    have hi9 := hi
    refine hq_iload_n (q := 0) C dX5_pass_10 rfl rfl ?_
    refine hq_iload_n (q := 2) C dX5_pass_11 rfl rfl ?_
    refine hq_icmp_ge (tgt := 25) C dX5_pass_12 (by decide) (fun c_12 => absurd c_12 (by rw [hx]; exact nI_ge hi9 (by omega))) (fun c_12 => ?_)
    refine hq_aload_n (q := 1) C dX5_pass_15 rfl rfl ?_
    refine hq_cVv (As := []) (rm := rX5_passHour) (f := 0) (Nc := 1) C (m_X5_passHour hinv) wv_X5_passHour ml_X5_168 rfl rfl rfl Nat.one_pos rfl rfl rfl rfl ⟨Nat.le_of_ble_eq_true rfl, Nat.le_of_ble_eq_true rfl⟩ (Nat.le_of_ble_eq_true rfl) ⟨Nat.le_of_ble_eq_true rfl, Nat.le_of_ble_eq_true rfl⟩ dX5_pass_16 ?_
    refine hq_iinc (q := 0) (y := nI (_ + 1)) (L' := [(2, .int _), (0, .ref _), (1, .int _)]) C dX5_pass_19 rfl (hw_inc _) (by decide) rfl ?_
    refine hq_goto (tgt := 10) C dX5_pass_22 (by decide) ?_
    exact hq_fin [0, 1, 2] rfl rfl rfl rfl rfl rfl k
  · refine hq_iload_n (q := 0) C dX5_pass_10 rfl rfl ?_
    refine hq_iload_n (q := 2) C dX5_pass_11 rfl rfl ?_
    refine hq_icmp_ge (tgt := 25) C dX5_pass_12 (by decide) (fun c_12 => ?_) (fun c_12 => absurd (Eq.subst (motive := fun z => z ≤ nI (tn x)) hx.symm (nI_le (Nat.le_refl _) (by omega))) c_12)
    refine hq_aload_n (q := 1) C dX5_pass_25 rfl rfl ?_
    refine hq_getI (f := 0) (g := 3) (Nc := 1) (Ns := 14) C fr_X5_112 dX5_pass_26 rfl rfl rfl rfl rfl (by decide) Nat.one_pos ?_
    exact hq_iretX C hr hlk dX5_pass_29 n_5 rfl rfl (Nat.le_of_ble_eq_true rfl) (Nat.le_of_ble_eq_true rfl)
theorem sx_rg_c {x M : Int32} {n : Nat} (hM : M.toInt = n) (hn : n < 2 ^ 31) (h : sx_rg x 0 M = none) : ∃ j : Nat, j ≤ n ∧ x = nI j := by
  obtain ⟨h1, h2⟩ := sx_rg_n hM hn h
  exact ⟨_, h2, h1⟩
theorem rg_3 {x : Int32} (h : sx_rg x 0 3 = none) : x = 0 ∨ x = 1 ∨ x = 2 ∨ x = 3 := by
  obtain ⟨j, h1, h2⟩ := sx_rg_c (n := 3) (by decide) (by omega) h
  rcases (show j = 0 ∨ j = 1 ∨ j = 2 ∨ j = 3 by omega) with q | q | q | q <;> subst q <;> subst h2 <;> decide
theorem rg_5 {x : Int32} (h : sx_rg x 0 5 = none) : x = 0 ∨ x = 1 ∨ x = 2 ∨ x = 3 ∨ x = 4 ∨ x = 5 := by
  obtain ⟨j, h1, h2⟩ := sx_rg_c (n := 5) (by decide) (by omega) h
  rcases (show j = 0 ∨ j = 1 ∨ j = 2 ∨ j = 3 ∨ j = 4 ∨ j = 5 by omega) with q | q | q | q | q | q <;> subst q <;> subst h2 <;> decide
theorem rg_7 {x : Int32} (h : sx_rg x 0 7 = none) : x = 0 ∨ x = 1 ∨ x = 2 ∨ x = 3 ∨ x = 4 ∨ x = 5 ∨ x = 6 ∨ x = 7 := by
  obtain ⟨j, h1, h2⟩ := sx_rg_c (n := 7) (by decide) (by omega) h
  rcases (show j = 0 ∨ j = 1 ∨ j = 2 ∨ j = 3 ∨ j = 4 ∨ j = 5 ∨ j = 6 ∨ j = 7 by omega) with q | q | q | q | q | q | q | q <;> subst q <;> subst h2 <;> decide
def e_brokerOf (I : MI) (x y : Int32) : Option String := hx_or (sx_ix x (I 0 0)) (sx_rg y 0 3)
def r_brokerOf (I : MI) (J : MJ) (x y : Int32) (nb : Nat) : Int64 := if y = 0 then (I 7 (tn x)).toInt64 else if y = 1 then J 0 (tn x) else if y = 2 then (I 5 (tn x)).toInt64 else lp (sf_wo J (tn x)) nb 0 (J 0 (tn x))
set_option maxHeartbeats 4000000 in
set_option maxRecDepth 100000 in
theorem m_X5_brokerOf {l : Launch} {D : va_G} {b0 : Nat} {I : MI} {J : MJ} {P : MI} {N : MJ} {o : Int64} (hlt : l.stackTraces = false) {x y : Int32} {nb no nc : Nat} {B : Int} (h : hw_ci I J nb no nc B) : hX l yX5_brokerOf wX5_brokerOf rX5_brokerOf D b0 [.ref (hw_ad b0 0 0), .int x, .int y] I J P N o (e_brokerOf I x y) (some (.long (r_brokerOf I J x y nb))) I J P N o := by
  have hbc := h.1.1.1
  have hnb := h.1.1.2
  have hoc := h.1.2.1.1
  have hno := h.1.2.1.2
  have hcc := h.1.2.2.1.1
  have hnc := h.1.2.2.1.2
  refine hw_MXof (by decide) [(0, .ref _), (1, .int _), (2, .int _)] rfl (Nat.le_of_ble_eq_true rfl) ?_
  intro p e s m args below meth c C hr hlk ht
  refine hq_iload_n (q := 1) C dX5_brokerOf_0 rfl rfl ?_
  refine hq_aload_n (q := 0) C dX5_brokerOf_1 rfl rfl ?_
  refine hq_getI (f := 0) (g := 0) (Nc := 1) (Ns := 14) C fr_X5_66 dX5_brokerOf_2 rfl rfl rfl rfl rfl (by decide) Nat.one_pos ?_
  refine hq_cSXv (As := [.int _, .int _]) (rm := rX5_requireIndex) (Cn := "") C (m_X5_requireIndex hlt) ws_X5_requireIndex ml_X5_58 rfl rfl rfl rfl ⟨Nat.le_of_ble_eq_true rfl, Nat.le_of_ble_eq_true rfl⟩ (Nat.le_of_ble_eq_true rfl) ⟨Nat.le_of_ble_eq_true rfl, Nat.le_of_ble_eq_true rfl⟩ dX5_brokerOf_5 (fun n_5 => ?_) (fun E x_5 => hq_out ht hlk (by simp [hx_or, e_brokerOf, x_5]) rfl (Nat.le_of_ble_eq_true rfl) (Nat.le_of_ble_eq_true rfl))
  obtain ⟨hx, hxb⟩ := sx_ix_i hbc (by omega) n_5
  refine hq_iload_n (q := 2) C dX5_brokerOf_8 rfl rfl ?_
  refine hq_iconst (y := 0) C dX5_brokerOf_9 (by decide) ?_
  refine hq_iconst (y := 3) C dX5_brokerOf_10 (by decide) ?_
  refine hq_cSXv (As := [.int _, .int _, .int _]) (rm := rX5_requireRange) (Cn := "") C (m_X5_requireRange hlt) ws_X5_requireRange ml_X5_62 rfl rfl rfl rfl ⟨Nat.le_of_ble_eq_true rfl, Nat.le_of_ble_eq_true rfl⟩ (Nat.le_of_ble_eq_true rfl) ⟨Nat.le_of_ble_eq_true rfl, Nat.le_of_ble_eq_true rfl⟩ dX5_brokerOf_11 (fun n_11 => ?_) (fun E x_11 => hq_out ht hlk (by simp [hx_or, e_brokerOf, n_5, x_11]) rfl (Nat.le_of_ble_eq_true rfl) (Nat.le_of_ble_eq_true rfl))
  refine hq_iload_n (q := 2) C dX5_brokerOf_14 rfl rfl ?_
  rcases rg_3 n_11 with q | q | q | q
  all_goals subst q
  · refine hq_tsIn (tgt := 40) C dX5_brokerOf_15 (by decide) (by decide) rfl (by decide) ?_
    refine hq_aload_n (q := 0) C dX5_brokerOf_40 rfl rfl ?_
    refine hq_getR (f := 0) (g := 1) (Nc := 1) (Ns := 14) C fr_X5_11 dX5_brokerOf_41 rfl rfl rfl rfl rfl (by decide) Nat.one_pos ?_
    refine hq_iload_n (q := 1) C dX5_brokerOf_44 rfl rfl ?_
    refine hq_aaldBR0 (f := 1) (g := 2) (Nc := 1) (Ns := 12) C dX5_brokerOf_45 rfl rfl rfl rfl rfl rfl (by first | rfl | assumption) (by first | assumption | omega) Nat.one_pos ?_
    refine hq_getI (f := 2) (g := 7) (Nc := 12) (Ns := 8) C fr_X5_97 dX5_brokerOf_46 rfl rfl rfl rfl rfl (by decide) (by first | assumption | omega) ?_
    refine hq_i2l C dX5_brokerOf_49 ?_
    exact hq_lretX C hr hlk dX5_brokerOf_50 (by first | (simp [hx_or, e_brokerOf, n_5, n_11]; done) | simp [hx_or, e_brokerOf, sx_st, n_5, n_11]) (by simp [r_brokerOf]) rfl (Nat.le_of_ble_eq_true rfl) (Nat.le_of_ble_eq_true rfl)
  · refine hq_tsIn (tgt := 51) C dX5_brokerOf_15 (by decide) (by decide) rfl (by decide) ?_
    refine hq_aload_n (q := 0) C dX5_brokerOf_51 rfl rfl ?_
    refine hq_getR (f := 0) (g := 1) (Nc := 1) (Ns := 14) C fr_X5_11 dX5_brokerOf_52 rfl rfl rfl rfl rfl (by decide) Nat.one_pos ?_
    refine hq_iload_n (q := 1) C dX5_brokerOf_55 rfl rfl ?_
    refine hq_aaldBR0 (f := 1) (g := 2) (Nc := 1) (Ns := 12) C dX5_brokerOf_56 rfl rfl rfl rfl rfl rfl (by first | rfl | assumption) (by first | assumption | omega) Nat.one_pos ?_
    refine hq_getJ (f := 2) (g := 0) (Nc := 12) (Ns := 8) C fr_X5_77 dX5_brokerOf_57 rfl rfl rfl rfl rfl (by decide) (by first | assumption | omega) ?_
    exact hq_lretX C hr hlk dX5_brokerOf_60 (by first | (simp [hx_or, e_brokerOf, n_5, n_11]; done) | simp [hx_or, e_brokerOf, sx_st, n_5, n_11]) (by simp [r_brokerOf]) rfl (Nat.le_of_ble_eq_true rfl) (Nat.le_of_ble_eq_true rfl)
  · refine hq_tsIn (tgt := 61) C dX5_brokerOf_15 (by decide) (by decide) rfl (by decide) ?_
    refine hq_aload_n (q := 0) C dX5_brokerOf_61 rfl rfl ?_
    refine hq_getR (f := 0) (g := 1) (Nc := 1) (Ns := 14) C fr_X5_11 dX5_brokerOf_62 rfl rfl rfl rfl rfl (by decide) Nat.one_pos ?_
    refine hq_iload_n (q := 1) C dX5_brokerOf_65 rfl rfl ?_
    refine hq_aaldBR0 (f := 1) (g := 2) (Nc := 1) (Ns := 12) C dX5_brokerOf_66 rfl rfl rfl rfl rfl rfl (by first | rfl | assumption) (by first | assumption | omega) Nat.one_pos ?_
    refine hq_getI (f := 2) (g := 5) (Nc := 12) (Ns := 8) C fr_X5_74 dX5_brokerOf_67 rfl rfl rfl rfl rfl (by decide) (by first | assumption | omega) ?_
    refine hq_i2l C dX5_brokerOf_70 ?_
    exact hq_lretX C hr hlk dX5_brokerOf_71 (by first | (simp [hx_or, e_brokerOf, n_5, n_11]; done) | simp [hx_or, e_brokerOf, sx_st, n_5, n_11]) (by simp [r_brokerOf]) rfl (Nat.le_of_ble_eq_true rfl) (Nat.le_of_ble_eq_true rfl)
  · refine hq_tsOut (tgt := 72) C dX5_brokerOf_15 (by decide) (by decide) ?_
    refine hq_aload_n (q := 0) C dX5_brokerOf_72 rfl rfl ?_
    refine hq_iload_n (q := 1) C dX5_brokerOf_73 rfl rfl ?_
    refine hq_cVr (As := [.int _]) (rm := rX5_worthOf) (f := 0) (Nc := 1) C (m_X5_worthOf hbc hnb hx (by omega)) wv_X5_worthOf ml_X5_202 rfl rfl rfl Nat.one_pos rfl rfl rfl rfl ⟨Nat.le_of_ble_eq_true rfl, Nat.le_of_ble_eq_true rfl⟩ (Nat.le_of_ble_eq_true rfl) ⟨Nat.le_of_ble_eq_true rfl, Nat.le_of_ble_eq_true rfl⟩ dX5_brokerOf_74 ?_
    exact hq_lretX C hr hlk dX5_brokerOf_77 (by first | (simp [hx_or, e_brokerOf, n_5, n_11]; done) | simp [hx_or, e_brokerOf, sx_st, n_5, n_11]) (by simp [r_brokerOf]) rfl (Nat.le_of_ble_eq_true rfl) (Nat.le_of_ble_eq_true rfl)
def e_debt (I : MI) (x y : Int32) : Option String := hx_or (sx_ix x (I 0 0)) (sx_ix y (I 0 0))
def r_debt (J : MJ) (x y z : Int32) : Int64 := if z = 0 then J 1 (12 * tn x + tn y) else J 2 (12 * tn x + tn y)
set_option maxHeartbeats 4000000 in
set_option maxRecDepth 100000 in
theorem m_X5_debt {l : Launch} {D : va_G} {b0 : Nat} {I : MI} {J : MJ} {P : MI} {N : MJ} {o : Int64} (hlt : l.stackTraces = false) {x y z : Int32} {nb no nc : Nat} {B : Int} (h : hw_ci I J nb no nc B) : hX l yX5_debt wX5_debt rX5_debt D b0 [.ref (hw_ad b0 0 0), .int x, .int y, .int z] I J P N o (e_debt I x y) (some (.long (r_debt J x y z))) I J P N o := by
  have hbc := h.1.1.1
  have hnb := h.1.1.2
  have hoc := h.1.2.1.1
  have hno := h.1.2.1.2
  have hcc := h.1.2.2.1.1
  have hnc := h.1.2.2.1.2
  refine hw_MXof (by decide) [(0, .ref _), (1, .int _), (2, .int _), (3, .int _)] rfl (Nat.le_of_ble_eq_true rfl) ?_
  intro p e s m args below meth c C hr hlk ht
  refine hq_iload_n (q := 1) C dX5_debt_0 rfl rfl ?_
  refine hq_aload_n (q := 0) C dX5_debt_1 rfl rfl ?_
  refine hq_getI (f := 0) (g := 0) (Nc := 1) (Ns := 14) C fr_X5_66 dX5_debt_2 rfl rfl rfl rfl rfl (by decide) Nat.one_pos ?_
  refine hq_cSXv (As := [.int _, .int _]) (rm := rX5_requireIndex) (Cn := "") C (m_X5_requireIndex hlt) ws_X5_requireIndex ml_X5_58 rfl rfl rfl rfl ⟨Nat.le_of_ble_eq_true rfl, Nat.le_of_ble_eq_true rfl⟩ (Nat.le_of_ble_eq_true rfl) ⟨Nat.le_of_ble_eq_true rfl, Nat.le_of_ble_eq_true rfl⟩ dX5_debt_5 (fun n_5 => ?_) (fun E x_5 => hq_out ht hlk (by simp [hx_or, e_debt, x_5]) rfl (Nat.le_of_ble_eq_true rfl) (Nat.le_of_ble_eq_true rfl))
  obtain ⟨hx, hxb⟩ := sx_ix_i hbc (by omega) n_5
  refine hq_iload_n (q := 2) C dX5_debt_8 rfl rfl ?_
  refine hq_aload_n (q := 0) C dX5_debt_9 rfl rfl ?_
  refine hq_getI (f := 0) (g := 0) (Nc := 1) (Ns := 14) C fr_X5_66 dX5_debt_10 rfl rfl rfl rfl rfl (by decide) Nat.one_pos ?_
  refine hq_cSXv (As := [.int _, .int _]) (rm := rX5_requireIndex) (Cn := "") C (m_X5_requireIndex hlt) ws_X5_requireIndex ml_X5_58 rfl rfl rfl rfl ⟨Nat.le_of_ble_eq_true rfl, Nat.le_of_ble_eq_true rfl⟩ (Nat.le_of_ble_eq_true rfl) ⟨Nat.le_of_ble_eq_true rfl, Nat.le_of_ble_eq_true rfl⟩ dX5_debt_13 (fun n_13 => ?_) (fun E x_13 => hq_out ht hlk (by simp [hx_or, e_debt, n_5, x_13]) rfl (Nat.le_of_ble_eq_true rfl) (Nat.le_of_ble_eq_true rfl))
  obtain ⟨hy, hyb⟩ := sx_ix_i hbc (by omega) n_13
  refine hq_iload_n (q := 3) C dX5_debt_16 rfl rfl ?_
  refine hq_if_eq (tgt := 34) C dX5_debt_17 (by decide) (fun c_17 => ?_) (fun c_17 => ?_)
  · refine hq_aload_n (q := 0) C dX5_debt_34 rfl rfl ?_
    refine hq_getR (f := 0) (g := 11) (Nc := 1) (Ns := 14) C fr_X5_33 dX5_debt_35 rfl rfl rfl rfl rfl (by decide) Nat.one_pos ?_
    refine hq_getR (f := 11) (g := 12) (Nc := 1) (Ns := 2) C fr_X5_171 dX5_debt_38 rfl rfl rfl rfl rfl (by decide) Nat.one_pos ?_
    refine hq_iload_n (q := 1) C dX5_debt_41 rfl rfl ?_
    refine hq_aaldJR0 (f := 12) (a := tn x) (g := 13) (Nc := 1) (Ns := 12) C dX5_debt_42 rfl rfl rfl rfl rfl rfl hx (by omega) Nat.one_pos ?_
    refine hq_iload_n (q := 2) C dX5_debt_43 rfl rfl ?_
    refine hq_laldJw (f := 13) (a := tn y) (g := 1) (w := 12) (Nc := 12) (Ns := 12) C dX5_debt_44 rfl rfl rfl ⟨rfl, by decide⟩ rfl rfl hy (by omega) (by first | assumption | omega) ?_
    exact hq_lretX C hr hlk dX5_debt_45 (by first | (simp [hx_or, e_debt, n_5, n_13, c_17]; done) | simp [hx_or, e_debt, sx_st, n_5, n_13, c_17]) (by simp [r_debt, c_17]) rfl (Nat.le_of_ble_eq_true rfl) (Nat.le_of_ble_eq_true rfl)
  · refine hq_aload_n (q := 0) C dX5_debt_20 rfl rfl ?_
    refine hq_getR (f := 0) (g := 11) (Nc := 1) (Ns := 14) C fr_X5_33 dX5_debt_21 rfl rfl rfl rfl rfl (by decide) Nat.one_pos ?_
    refine hq_getR (f := 11) (g := 14) (Nc := 1) (Ns := 2) C fr_X5_206 dX5_debt_24 rfl rfl rfl rfl rfl (by decide) Nat.one_pos ?_
    refine hq_iload_n (q := 1) C dX5_debt_27 rfl rfl ?_
    refine hq_aaldJR0 (f := 14) (a := tn x) (g := 15) (Nc := 1) (Ns := 12) C dX5_debt_28 rfl rfl rfl rfl rfl rfl hx (by omega) Nat.one_pos ?_
    refine hq_iload_n (q := 2) C dX5_debt_29 rfl rfl ?_
    refine hq_laldJw (f := 15) (a := tn y) (g := 2) (w := 12) (Nc := 12) (Ns := 12) C dX5_debt_30 rfl rfl rfl ⟨rfl, by decide⟩ rfl rfl hy (by omega) (by first | assumption | omega) ?_
    refine hq_goto (tgt := 45) C dX5_debt_31 (by decide) ?_
    exact hq_lretX C hr hlk dX5_debt_45 (by first | (simp [hx_or, e_debt, n_5, n_13, c_17]; done) | simp [hx_or, e_debt, sx_st, n_5, n_13, c_17]) (by simp [r_debt, c_17]) rfl (Nat.le_of_ble_eq_true rfl) (Nat.le_of_ble_eq_true rfl)
def r_agree (J : MJ) (x y : Int32) : Int32 := if lg_cmp (J 2 (12 * tn x + tn y)) (-J 2 (12 * tn y + tn x)) = 0 then 1 else 0
set_option maxHeartbeats 4000000 in
set_option maxRecDepth 100000 in
theorem m_X5_agree {l : Launch} {D : va_G} {b0 : Nat} {I : MI} {J : MJ} {P : MI} {N : MJ} {o : Int64} (hlt : l.stackTraces = false) {x y : Int32} {nb no nc : Nat} {B : Int} (h : hw_ci I J nb no nc B) : hX l yX5_agree wX5_agree rX5_agree D b0 [.ref (hw_ad b0 0 0), .int x, .int y] I J P N o (e_debt I x y) (some (.int (r_agree J x y))) I J P N o := by
  have hbc := h.1.1.1
  have hnb := h.1.1.2
  have hoc := h.1.2.1.1
  have hno := h.1.2.1.2
  have hcc := h.1.2.2.1.1
  have hnc := h.1.2.2.1.2
  refine hw_MXof (by decide) [(0, .ref _), (1, .int _), (2, .int _)] rfl (Nat.le_of_ble_eq_true rfl) ?_
  intro p e s m args below meth c C hr hlk ht
  refine hq_iload_n (q := 1) C dX5_agree_0 rfl rfl ?_
  refine hq_aload_n (q := 0) C dX5_agree_1 rfl rfl ?_
  refine hq_getI (f := 0) (g := 0) (Nc := 1) (Ns := 14) C fr_X5_66 dX5_agree_2 rfl rfl rfl rfl rfl (by decide) Nat.one_pos ?_
  refine hq_cSXv (As := [.int _, .int _]) (rm := rX5_requireIndex) (Cn := "") C (m_X5_requireIndex hlt) ws_X5_requireIndex ml_X5_58 rfl rfl rfl rfl ⟨Nat.le_of_ble_eq_true rfl, Nat.le_of_ble_eq_true rfl⟩ (Nat.le_of_ble_eq_true rfl) ⟨Nat.le_of_ble_eq_true rfl, Nat.le_of_ble_eq_true rfl⟩ dX5_agree_5 (fun n_5 => ?_) (fun E x_5 => hq_out ht hlk (by simp [hx_or, e_debt, x_5]) rfl (Nat.le_of_ble_eq_true rfl) (Nat.le_of_ble_eq_true rfl))
  obtain ⟨hx, hxb⟩ := sx_ix_i hbc (by omega) n_5
  refine hq_iload_n (q := 2) C dX5_agree_8 rfl rfl ?_
  refine hq_aload_n (q := 0) C dX5_agree_9 rfl rfl ?_
  refine hq_getI (f := 0) (g := 0) (Nc := 1) (Ns := 14) C fr_X5_66 dX5_agree_10 rfl rfl rfl rfl rfl (by decide) Nat.one_pos ?_
  refine hq_cSXv (As := [.int _, .int _]) (rm := rX5_requireIndex) (Cn := "") C (m_X5_requireIndex hlt) ws_X5_requireIndex ml_X5_58 rfl rfl rfl rfl ⟨Nat.le_of_ble_eq_true rfl, Nat.le_of_ble_eq_true rfl⟩ (Nat.le_of_ble_eq_true rfl) ⟨Nat.le_of_ble_eq_true rfl, Nat.le_of_ble_eq_true rfl⟩ dX5_agree_13 (fun n_13 => ?_) (fun E x_13 => hq_out ht hlk (by simp [hx_or, e_debt, n_5, x_13]) rfl (Nat.le_of_ble_eq_true rfl) (Nat.le_of_ble_eq_true rfl))
  obtain ⟨hy, hyb⟩ := sx_ix_i hbc (by omega) n_13
  refine hq_aload_n (q := 0) C dX5_agree_16 rfl rfl ?_
  refine hq_getR (f := 0) (g := 11) (Nc := 1) (Ns := 14) C fr_X5_33 dX5_agree_17 rfl rfl rfl rfl rfl (by decide) Nat.one_pos ?_
  refine hq_getR (f := 11) (g := 14) (Nc := 1) (Ns := 2) C fr_X5_206 dX5_agree_20 rfl rfl rfl rfl rfl (by decide) Nat.one_pos ?_
  refine hq_iload_n (q := 1) C dX5_agree_23 rfl rfl ?_
  refine hq_aaldJR0 (f := 14) (a := tn x) (g := 15) (Nc := 1) (Ns := 12) C dX5_agree_24 rfl rfl rfl rfl rfl rfl hx (by omega) Nat.one_pos ?_
  refine hq_iload_n (q := 2) C dX5_agree_25 rfl rfl ?_
  refine hq_laldJw (f := 15) (a := tn y) (g := 2) (w := 12) (Nc := 12) (Ns := 12) C dX5_agree_26 rfl rfl rfl ⟨rfl, by decide⟩ rfl rfl hy (by omega) (by first | assumption | omega) ?_
  refine hq_aload_n (q := 0) C dX5_agree_27 rfl rfl ?_
  refine hq_getR (f := 0) (g := 11) (Nc := 1) (Ns := 14) C fr_X5_33 dX5_agree_28 rfl rfl rfl rfl rfl (by decide) Nat.one_pos ?_
  refine hq_getR (f := 11) (g := 14) (Nc := 1) (Ns := 2) C fr_X5_206 dX5_agree_31 rfl rfl rfl rfl rfl (by decide) Nat.one_pos ?_
  refine hq_iload_n (q := 2) C dX5_agree_34 rfl rfl ?_
  refine hq_aaldJR0 (f := 14) (a := tn y) (g := 15) (Nc := 1) (Ns := 12) C dX5_agree_35 rfl rfl rfl rfl rfl rfl hy (by omega) Nat.one_pos ?_
  refine hq_iload_n (q := 1) C dX5_agree_36 rfl rfl ?_
  refine hq_laldJw (f := 15) (a := tn x) (g := 2) (w := 12) (Nc := 12) (Ns := 12) C dX5_agree_37 rfl rfl rfl ⟨rfl, by decide⟩ rfl rfl hx (by omega) (by first | assumption | omega) ?_
  refine hq_lneg C dX5_agree_38 ?_
  refine hq_lcmp C dX5_agree_39 ?_
  refine hq_if_ne (tgt := 47) C dX5_agree_40 (by decide) (fun c_40 => ?_) (fun c_40 => ?_)
  · refine hq_iconst (y := 0) C dX5_agree_47 (by decide) ?_
    exact hq_zretX C hr hlk dX5_agree_48 (by first | (simp [hx_or, e_debt, n_5, n_13, c_40]; done) | simp [hx_or, e_debt, sx_st, n_5, n_13, c_40]) (by decide) (by simp [r_agree, c_40]) rfl (Nat.le_of_ble_eq_true rfl) (Nat.le_of_ble_eq_true rfl)
  · refine hq_iconst (y := 1) C dX5_agree_43 (by decide) ?_
    refine hq_goto (tgt := 48) C dX5_agree_44 (by decide) ?_
    exact hq_zretX C hr hlk dX5_agree_48 (by first | (simp [hx_or, e_debt, n_5, n_13, c_40]; done) | simp [hx_or, e_debt, sx_st, n_5, n_13, c_40]) (by decide) (by simp [r_agree, c_40]) rfl (Nat.le_of_ble_eq_true rfl) (Nat.le_of_ble_eq_true rfl)
def e_orderOf (I : MI) (x y : Int32) : Option String := hx_or (sx_ix x (I 1 0)) (sx_rg y 0 5)
def r_orderOf (I : MI) (x y : Int32) : Int32 := if y = 0 then I 16 (tn x) else if y = 1 then I 12 (tn x) else if y = 2 then I 14 (tn x) else if y = 3 then I 17 (tn x) else if y = 4 then I 18 (tn x) else I 15 (tn x)
set_option maxHeartbeats 4000000 in
set_option maxRecDepth 100000 in
theorem m_X5_orderOf {l : Launch} {D : va_G} {b0 : Nat} {I : MI} {J : MJ} {P : MI} {N : MJ} {o : Int64} (hlt : l.stackTraces = false) {x y : Int32} {nb no nc : Nat} {B : Int} (h : hw_ci I J nb no nc B) : hX l yX5_orderOf wX5_orderOf rX5_orderOf D b0 [.ref (hw_ad b0 0 0), .int x, .int y] I J P N o (e_orderOf I x y) (some (.int (r_orderOf I x y))) I J P N o := by
  have hbc := h.1.1.1
  have hnb := h.1.1.2
  have hoc := h.1.2.1.1
  have hno := h.1.2.1.2
  have hcc := h.1.2.2.1.1
  have hnc := h.1.2.2.1.2
  refine hw_MXof (by decide) [(0, .ref _), (1, .int _), (2, .int _)] rfl (Nat.le_of_ble_eq_true rfl) ?_
  intro p e s m args below meth c C hr hlk ht
  refine hq_iload_n (q := 1) C dX5_orderOf_0 rfl rfl ?_
  refine hq_aload_n (q := 0) C dX5_orderOf_1 rfl rfl ?_
  refine hq_getI (f := 0) (g := 1) (Nc := 1) (Ns := 14) C fr_X5_124 dX5_orderOf_2 rfl rfl rfl rfl rfl (by decide) Nat.one_pos ?_
  refine hq_cSXv (As := [.int _, .int _]) (rm := rX5_requireIndex) (Cn := "") C (m_X5_requireIndex hlt) ws_X5_requireIndex ml_X5_58 rfl rfl rfl rfl ⟨Nat.le_of_ble_eq_true rfl, Nat.le_of_ble_eq_true rfl⟩ (Nat.le_of_ble_eq_true rfl) ⟨Nat.le_of_ble_eq_true rfl, Nat.le_of_ble_eq_true rfl⟩ dX5_orderOf_5 (fun n_5 => ?_) (fun E x_5 => hq_out ht hlk (by simp [hx_or, e_orderOf, x_5]) rfl (Nat.le_of_ble_eq_true rfl) (Nat.le_of_ble_eq_true rfl))
  obtain ⟨hx, hxb⟩ := sx_ix_i hoc (by omega) n_5
  have hx40 : tn x < 40 := by omega
  refine hq_iload_n (q := 2) C dX5_orderOf_8 rfl rfl ?_
  refine hq_iconst (y := 0) C dX5_orderOf_9 (by decide) ?_
  refine hq_iconst (y := 5) C dX5_orderOf_10 (by decide) ?_
  refine hq_cSXv (As := [.int _, .int _, .int _]) (rm := rX5_requireRange) (Cn := "") C (m_X5_requireRange hlt) ws_X5_requireRange ml_X5_62 rfl rfl rfl rfl ⟨Nat.le_of_ble_eq_true rfl, Nat.le_of_ble_eq_true rfl⟩ (Nat.le_of_ble_eq_true rfl) ⟨Nat.le_of_ble_eq_true rfl, Nat.le_of_ble_eq_true rfl⟩ dX5_orderOf_11 (fun n_11 => ?_) (fun E x_11 => hq_out ht hlk (by simp [hx_or, e_orderOf, n_5, x_11]) rfl (Nat.le_of_ble_eq_true rfl) (Nat.le_of_ble_eq_true rfl))
  refine hq_aload_n (q := 0) C dX5_orderOf_14 rfl rfl ?_
  refine hq_getR (f := 0) (g := 5) (Nc := 1) (Ns := 14) C fr_X5_18 dX5_orderOf_15 rfl rfl rfl rfl rfl (by decide) Nat.one_pos ?_
  refine hq_iload_n (q := 1) C dX5_orderOf_18 rfl rfl ?_
  refine hq_aaldOR0 (f := 5) (a := tn x) (g := 6) (Nc := 1) (Ns := 40) C dX5_orderOf_19 rfl rfl rfl rfl rfl rfl hx (by omega) Nat.one_pos ?_
  refine hq_astore_n (L' := [(3, .ref _), (0, .ref _), (1, .int _), (2, .int _)]) C dX5_orderOf_20 rfl (by decide) rfl ?_
  refine hq_iload_n (q := 3) C dX5_orderOf_21 rfl rfl ?_
  rcases rg_5 n_11 with q | q | q | q | q | q
  all_goals subst q
  · refine hq_tsIn (tgt := 56) C dX5_orderOf_22 (by decide) (by decide) rfl (by decide) ?_
    refine hq_aload_n (q := 0) C dX5_orderOf_56 rfl rfl ?_
    refine hq_getI (f := 6) (g := 16) (Nc := 40) (Ns := 10) C fr_X5_140 dX5_orderOf_57 rfl rfl rfl rfl rfl (by decide) (by first | assumption | omega) ?_
    exact hq_iretX C hr hlk dX5_orderOf_60 (by first | (simp [hx_or, e_orderOf, n_5, n_11]; done) | simp [hx_or, e_orderOf, sx_st, n_5, n_11]) (by simp [r_orderOf]) rfl (Nat.le_of_ble_eq_true rfl) (Nat.le_of_ble_eq_true rfl)
  · refine hq_tsIn (tgt := 61) C dX5_orderOf_22 (by decide) (by decide) rfl (by decide) ?_
    refine hq_aload_n (q := 0) C dX5_orderOf_61 rfl rfl ?_
    refine hq_getI (f := 6) (g := 12) (Nc := 40) (Ns := 10) C fr_X5_131 dX5_orderOf_62 rfl rfl rfl rfl rfl (by decide) (by first | assumption | omega) ?_
    exact hq_iretX C hr hlk dX5_orderOf_65 (by first | (simp [hx_or, e_orderOf, n_5, n_11]; done) | simp [hx_or, e_orderOf, sx_st, n_5, n_11]) (by simp [r_orderOf]) rfl (Nat.le_of_ble_eq_true rfl) (Nat.le_of_ble_eq_true rfl)
  · refine hq_tsIn (tgt := 66) C dX5_orderOf_22 (by decide) (by decide) rfl (by decide) ?_
    refine hq_aload_n (q := 0) C dX5_orderOf_66 rfl rfl ?_
    refine hq_getI (f := 6) (g := 14) (Nc := 40) (Ns := 10) C fr_X5_145 dX5_orderOf_67 rfl rfl rfl rfl rfl (by decide) (by first | assumption | omega) ?_
    exact hq_iretX C hr hlk dX5_orderOf_70 (by first | (simp [hx_or, e_orderOf, n_5, n_11]; done) | simp [hx_or, e_orderOf, sx_st, n_5, n_11]) (by simp [r_orderOf]) rfl (Nat.le_of_ble_eq_true rfl) (Nat.le_of_ble_eq_true rfl)
  · refine hq_tsIn (tgt := 71) C dX5_orderOf_22 (by decide) (by decide) rfl (by decide) ?_
    refine hq_aload_n (q := 0) C dX5_orderOf_71 rfl rfl ?_
    refine hq_getI (f := 6) (g := 17) (Nc := 40) (Ns := 10) C fr_X5_221 dX5_orderOf_72 rfl rfl rfl rfl rfl (by decide) (by first | assumption | omega) ?_
    exact hq_iretX C hr hlk dX5_orderOf_75 (by first | (simp [hx_or, e_orderOf, n_5, n_11]; done) | simp [hx_or, e_orderOf, sx_st, n_5, n_11]) (by simp [r_orderOf]) rfl (Nat.le_of_ble_eq_true rfl) (Nat.le_of_ble_eq_true rfl)
  · refine hq_tsIn (tgt := 76) C dX5_orderOf_22 (by decide) (by decide) rfl (by decide) ?_
    refine hq_aload_n (q := 0) C dX5_orderOf_76 rfl rfl ?_
    refine hq_getI (f := 6) (g := 18) (Nc := 40) (Ns := 10) C fr_X5_162 dX5_orderOf_77 rfl rfl rfl rfl rfl (by decide) (by first | assumption | omega) ?_
    exact hq_iretX C hr hlk dX5_orderOf_80 (by first | (simp [hx_or, e_orderOf, n_5, n_11]; done) | simp [hx_or, e_orderOf, sx_st, n_5, n_11]) (by simp [r_orderOf]) rfl (Nat.le_of_ble_eq_true rfl) (Nat.le_of_ble_eq_true rfl)
  · refine hq_tsOut (tgt := 81) C dX5_orderOf_22 (by decide) (by decide) ?_
    refine hq_aload_n (q := 0) C dX5_orderOf_81 rfl rfl ?_
    refine hq_getI (f := 6) (g := 15) (Nc := 40) (Ns := 10) C fr_X5_137 dX5_orderOf_82 rfl rfl rfl rfl rfl (by decide) (by first | assumption | omega) ?_
    exact hq_iretX C hr hlk dX5_orderOf_85 (by first | (simp [hx_or, e_orderOf, n_5, n_11]; done) | simp [hx_or, e_orderOf, sx_st, n_5, n_11]) (by simp [r_orderOf]) rfl (Nat.le_of_ble_eq_true rfl) (Nat.le_of_ble_eq_true rfl)
def e_sum (x : Int32) : Option String := sx_rg x 0 7
def r_sum (I : MI) (J : MJ) (x : Int32) (nb no nc : Nat) : Int64 := if x = 0 then lp (sf_sg I) no 0 0 else if x = 1 then lp (sf_sp I) no 0 0 else if x = 2 then lp (sf_si I 4) no 0 0 else if x = 3 then lp (sf_sr I) nc 0 0 else if x = 4 then J 3 0 else if x = 5 then lp (sf_so I) nc 0 0 else if x = 6 then lp (sf_sc J) nb 0 0 else lp (sf_si I 5) no 0 0
set_option maxHeartbeats 4000000 in
set_option maxRecDepth 100000 in
theorem m_X5_sum {l : Launch} {D : va_G} {b0 : Nat} {I : MI} {J : MJ} {P : MI} {N : MJ} {o : Int64} (hlt : l.stackTraces = false) {x : Int32} {nb no nc : Nat} {B : Int} (h : hw_ci I J nb no nc B) : hX l yX5_sum wX5_sum rX5_sum D b0 [.ref (hw_ad b0 0 0), .int x] I J P N o (e_sum x) (some (.long (r_sum I J x nb no nc))) I J P N o := by
  have hbc := h.1.1.1
  have hnb := h.1.1.2
  have hoc := h.1.2.1.1
  have hno := h.1.2.1.2
  have hcc := h.1.2.2.1.1
  have hnc := h.1.2.2.1.2
  refine hw_MXof (by decide) [(0, .ref _), (1, .int _)] rfl (Nat.le_of_ble_eq_true rfl) ?_
  intro p e s m args below meth c C hr hlk ht
  refine hq_iload_n (q := 1) C dX5_sum_0 rfl rfl ?_
  refine hq_iconst (y := 0) C dX5_sum_1 (by decide) ?_
  refine hq_bipush (y := 7) C dX5_sum_2 (by decide) ?_
  refine hq_cSXv (As := [.int _, .int _, .int _]) (rm := rX5_requireRange) (Cn := "") C (m_X5_requireRange hlt) ws_X5_requireRange ml_X5_62 rfl rfl rfl rfl ⟨Nat.le_of_ble_eq_true rfl, Nat.le_of_ble_eq_true rfl⟩ (Nat.le_of_ble_eq_true rfl) ⟨Nat.le_of_ble_eq_true rfl, Nat.le_of_ble_eq_true rfl⟩ dX5_sum_4 (fun n_4 => ?_) (fun E x_4 => hq_out ht hlk (by simp [hx_or, e_sum, x_4]) rfl (Nat.le_of_ble_eq_true rfl) (Nat.le_of_ble_eq_true rfl))
  refine hq_iload_n (q := 1) C dX5_sum_7 rfl rfl ?_
  rcases rg_7 n_4 with q | q | q | q | q | q | q | q
  all_goals subst q
  · refine hq_tsIn (tgt := 52) C dX5_sum_8 (by decide) (by decide) rfl (by decide) ?_
    refine hq_aload_n (q := 0) C dX5_sum_52 rfl rfl ?_
    refine hq_cVr (As := []) (rm := rX5_sumGiven) (f := 0) (Nc := 1) C (m_X5_sumGiven hoc hno) wv_X5_sumGiven ml_X5_227 rfl rfl rfl Nat.one_pos rfl rfl rfl rfl ⟨Nat.le_of_ble_eq_true rfl, Nat.le_of_ble_eq_true rfl⟩ (Nat.le_of_ble_eq_true rfl) ⟨Nat.le_of_ble_eq_true rfl, Nat.le_of_ble_eq_true rfl⟩ dX5_sum_53 ?_
    exact hq_lretX C hr hlk dX5_sum_56 (by first | (simp [hx_or, e_sum, n_4]; done) | simp [hx_or, e_sum, sx_st, n_4]) (by simp [r_sum]) rfl (Nat.le_of_ble_eq_true rfl) (Nat.le_of_ble_eq_true rfl)
  · refine hq_tsIn (tgt := 57) C dX5_sum_8 (by decide) (by decide) rfl (by decide) ?_
    refine hq_aload_n (q := 0) C dX5_sum_57 rfl rfl ?_
    refine hq_cVr (As := []) (rm := rX5_sumPaidOut) (f := 0) (Nc := 1) C (m_X5_sumPaidOut hoc hno) wv_X5_sumPaidOut ml_X5_231 rfl rfl rfl Nat.one_pos rfl rfl rfl rfl ⟨Nat.le_of_ble_eq_true rfl, Nat.le_of_ble_eq_true rfl⟩ (Nat.le_of_ble_eq_true rfl) ⟨Nat.le_of_ble_eq_true rfl, Nat.le_of_ble_eq_true rfl⟩ dX5_sum_58 ?_
    exact hq_lretX C hr hlk dX5_sum_61 (by first | (simp [hx_or, e_sum, n_4]; done) | simp [hx_or, e_sum, sx_st, n_4]) (by simp [r_sum]) rfl (Nat.le_of_ble_eq_true rfl) (Nat.le_of_ble_eq_true rfl)
  · refine hq_tsIn (tgt := 62) C dX5_sum_8 (by decide) (by decide) rfl (by decide) ?_
    refine hq_aload_n (q := 0) C dX5_sum_62 rfl rfl ?_
    refine hq_iconst (y := 4) C dX5_sum_63 (by decide) ?_
    refine hq_cVr (As := [.int _]) (rm := rX5_sumGivenIn) (f := 0) (Nc := 1) C (m_X5_sumGivenIn hoc hno) wv_X5_sumGivenIn ml_X5_234 rfl rfl rfl Nat.one_pos rfl rfl rfl rfl ⟨Nat.le_of_ble_eq_true rfl, Nat.le_of_ble_eq_true rfl⟩ (Nat.le_of_ble_eq_true rfl) ⟨Nat.le_of_ble_eq_true rfl, Nat.le_of_ble_eq_true rfl⟩ dX5_sum_64 ?_
    exact hq_lretX C hr hlk dX5_sum_67 (by first | (simp [hx_or, e_sum, n_4]; done) | simp [hx_or, e_sum, sx_st, n_4]) (by simp [r_sum]) rfl (Nat.le_of_ble_eq_true rfl) (Nat.le_of_ble_eq_true rfl)
  · refine hq_tsIn (tgt := 68) C dX5_sum_8 (by decide) (by decide) rfl (by decide) ?_
    refine hq_aload_n (q := 0) C dX5_sum_68 rfl rfl ?_
    refine hq_cVr (As := []) (rm := rX5_sumRobbed) (f := 0) (Nc := 1) C (m_X5_sumRobbed hcc hnc) wv_X5_sumRobbed ml_X5_237 rfl rfl rfl Nat.one_pos rfl rfl rfl rfl ⟨Nat.le_of_ble_eq_true rfl, Nat.le_of_ble_eq_true rfl⟩ (Nat.le_of_ble_eq_true rfl) ⟨Nat.le_of_ble_eq_true rfl, Nat.le_of_ble_eq_true rfl⟩ dX5_sum_69 ?_
    exact hq_lretX C hr hlk dX5_sum_72 (by first | (simp [hx_or, e_sum, n_4]; done) | simp [hx_or, e_sum, sx_st, n_4]) (by simp [r_sum]) rfl (Nat.le_of_ble_eq_true rfl) (Nat.le_of_ble_eq_true rfl)
  · refine hq_tsIn (tgt := 73) C dX5_sum_8 (by decide) (by decide) rfl (by decide) ?_
    refine hq_aload_n (q := 0) C dX5_sum_73 rfl rfl ?_
    refine hq_getJ (f := 0) (g := 3) (Nc := 1) (Ns := 14) C fr_X5_121 dX5_sum_74 rfl rfl rfl rfl rfl (by decide) Nat.one_pos ?_
    exact hq_lretX C hr hlk dX5_sum_77 (by first | (simp [hx_or, e_sum, n_4]; done) | simp [hx_or, e_sum, sx_st, n_4]) (by simp [r_sum]) rfl (Nat.le_of_ble_eq_true rfl) (Nat.le_of_ble_eq_true rfl)
  · refine hq_tsIn (tgt := 78) C dX5_sum_8 (by decide) (by decide) rfl (by decide) ?_
    refine hq_aload_n (q := 0) C dX5_sum_78 rfl rfl ?_
    refine hq_cVr (As := []) (rm := rX5_sumOnRoad) (f := 0) (Nc := 1) C (m_X5_sumOnRoad hcc hnc) wv_X5_sumOnRoad ml_X5_240 rfl rfl rfl Nat.one_pos rfl rfl rfl rfl ⟨Nat.le_of_ble_eq_true rfl, Nat.le_of_ble_eq_true rfl⟩ (Nat.le_of_ble_eq_true rfl) ⟨Nat.le_of_ble_eq_true rfl, Nat.le_of_ble_eq_true rfl⟩ dX5_sum_79 ?_
    exact hq_lretX C hr hlk dX5_sum_82 (by first | (simp [hx_or, e_sum, n_4]; done) | simp [hx_or, e_sum, sx_st, n_4]) (by simp [r_sum]) rfl (Nat.le_of_ble_eq_true rfl) (Nat.le_of_ble_eq_true rfl)
  · refine hq_tsIn (tgt := 83) C dX5_sum_8 (by decide) (by decide) rfl (by decide) ?_
    refine hq_aload_n (q := 0) C dX5_sum_83 rfl rfl ?_
    refine hq_cVr (As := []) (rm := rX5_sumCash) (f := 0) (Nc := 1) C (m_X5_sumCash hbc hnb) wv_X5_sumCash ml_X5_243 rfl rfl rfl Nat.one_pos rfl rfl rfl rfl ⟨Nat.le_of_ble_eq_true rfl, Nat.le_of_ble_eq_true rfl⟩ (Nat.le_of_ble_eq_true rfl) ⟨Nat.le_of_ble_eq_true rfl, Nat.le_of_ble_eq_true rfl⟩ dX5_sum_84 ?_
    exact hq_lretX C hr hlk dX5_sum_87 (by first | (simp [hx_or, e_sum, n_4]; done) | simp [hx_or, e_sum, sx_st, n_4]) (by simp [r_sum]) rfl (Nat.le_of_ble_eq_true rfl) (Nat.le_of_ble_eq_true rfl)
  · refine hq_tsOut (tgt := 88) C dX5_sum_8 (by decide) (by decide) ?_
    refine hq_aload_n (q := 0) C dX5_sum_88 rfl rfl ?_
    refine hq_iconst (y := 5) C dX5_sum_89 (by decide) ?_
    refine hq_cVr (As := [.int _]) (rm := rX5_sumGivenIn) (f := 0) (Nc := 1) C (m_X5_sumGivenIn hoc hno) wv_X5_sumGivenIn ml_X5_234 rfl rfl rfl Nat.one_pos rfl rfl rfl rfl ⟨Nat.le_of_ble_eq_true rfl, Nat.le_of_ble_eq_true rfl⟩ (Nat.le_of_ble_eq_true rfl) ⟨Nat.le_of_ble_eq_true rfl, Nat.le_of_ble_eq_true rfl⟩ dX5_sum_90 ?_
    exact hq_lretX C hr hlk dX5_sum_93 (by first | (simp [hx_or, e_sum, n_4]; done) | simp [hx_or, e_sum, sx_st, n_4]) (by simp [r_sum]) rfl (Nat.le_of_ble_eq_true rfl) (Nat.le_of_ble_eq_true rfl)
def e_list (x : Int32) : Option String := sx_ix x 20
def i_list (I : MI) (x : Int32) : MI := uI I 30 (tn x) (if I 30 (tn x) = 0 then 1 else 0)
set_option maxHeartbeats 4000000 in
set_option maxRecDepth 100000 in
theorem m_X5_list {l : Launch} {D : va_G} {b0 : Nat} {I : MI} {J : MJ} {P : MI} {N : MJ} {o : Int64} (hlt : l.stackTraces = false) {x : Int32}  : hX l yX5_list wX5_list rX5_list D b0 [.ref (hw_ad b0 0 0), .int x] I J P N o (e_list x) (some (.int (if I 30 (tn x) = 0 then 1 else 0))) (i_list I x) J P N o := by
  refine hw_MXof (by decide) [(0, .ref _), (1, .int _)] rfl (Nat.le_of_ble_eq_true rfl) ?_
  intro p e s m args below meth c C hr hlk ht
  refine hq_iload_n (q := 1) C dX5_list_0 rfl rfl ?_
  refine hq_bipush (y := 20) C dX5_list_1 (by decide) ?_
  refine hq_cSXv (As := [.int _, .int _]) (rm := rX5_requireIndex) (Cn := "") C (m_X5_requireIndex hlt) ws_X5_requireIndex ml_X5_58 rfl rfl rfl rfl ⟨Nat.le_of_ble_eq_true rfl, Nat.le_of_ble_eq_true rfl⟩ (Nat.le_of_ble_eq_true rfl) ⟨Nat.le_of_ble_eq_true rfl, Nat.le_of_ble_eq_true rfl⟩ dX5_list_3 (fun n_3 => ?_) (fun E x_3 => hq_out ht hlk (by simp [hx_or, e_list, x_3]) rfl (Nat.le_of_ble_eq_true rfl) (Nat.le_of_ble_eq_true rfl))
  obtain ⟨hx, hxb⟩ := sx_ix_n (n := 20) (by omega) n_3
  refine hq_aload_n (q := 0) C dX5_list_6 rfl rfl ?_
  refine hq_getR (f := 0) (g := 25) (Nc := 1) (Ns := 14) C fr_X5_54 dX5_list_7 rfl rfl rfl rfl rfl (by decide) Nat.one_pos ?_
  refine hq_iload_n (q := 1) C dX5_list_10 rfl rfl ?_
  refine hq_aload_n (q := 0) C dX5_list_11 rfl rfl ?_
  refine hq_getR (f := 0) (g := 25) (Nc := 1) (Ns := 14) C fr_X5_54 dX5_list_12 rfl rfl rfl rfl rfl (by decide) Nat.one_pos ?_
  refine hq_iload_n (q := 1) C dX5_list_15 rfl rfl ?_
  refine hq_zaldI0 (f := 25) (a := tn x) (g := 30) (Nc := 1) (Ns := 20) C dX5_list_16 rfl rfl rfl rfl rfl rfl hx hxb Nat.one_pos ?_
  refine hq_if_ne (tgt := 24) C dX5_list_17 (by decide) (fun c_17 => ?_) (fun c_17 => ?_)
  · refine hq_iconst (y := 0) C dX5_list_24 (by decide) ?_
    refine hq_zastI0 (f := 25) (a := tn x) (g := 30) (Nc := 1) (Ns := 20) C dX5_list_25 rfl rfl rfl rfl rfl rfl hx hxb Nat.one_pos (by decide) ?_
    refine hq_aload_n (q := 0) C dX5_list_26 rfl rfl ?_
    refine hq_getR (f := 0) (g := 25) (Nc := 1) (Ns := 14) C fr_X5_54 dX5_list_27 rfl rfl rfl rfl rfl (by decide) Nat.one_pos ?_
    refine hq_iload_n (q := 1) C dX5_list_30 rfl rfl ?_
    refine hq_zaldI0 (f := 25) (a := tn x) (g := 30) (Nc := 1) (Ns := 20) C dX5_list_31 rfl rfl rfl rfl rfl rfl hx hxb Nat.one_pos ?_
    exact hq_zretX C hr hlk dX5_list_32 (by first | (simp [hx_or, e_list, n_3, c_17]; done) | simp [hx_or, e_list, sx_st, n_3, c_17]) (hw_bon (by first | exact Or.inl (if_pos ⟨rfl, rfl⟩) | exact Or.inr (if_pos ⟨rfl, rfl⟩))) (by simp [c_17, uI]) (by simp [i_list, c_17]) (Nat.le_of_ble_eq_true rfl) (Nat.le_of_ble_eq_true rfl)
  · refine hq_iconst (y := 1) C dX5_list_20 (by decide) ?_
    refine hq_goto (tgt := 25) C dX5_list_21 (by decide) ?_
    refine hq_zastI0 (f := 25) (a := tn x) (g := 30) (Nc := 1) (Ns := 20) C dX5_list_25 rfl rfl rfl rfl rfl rfl hx hxb Nat.one_pos (by decide) ?_
    refine hq_aload_n (q := 0) C dX5_list_26 rfl rfl ?_
    refine hq_getR (f := 0) (g := 25) (Nc := 1) (Ns := 14) C fr_X5_54 dX5_list_27 rfl rfl rfl rfl rfl (by decide) Nat.one_pos ?_
    refine hq_iload_n (q := 1) C dX5_list_30 rfl rfl ?_
    refine hq_zaldI0 (f := 25) (a := tn x) (g := 30) (Nc := 1) (Ns := 20) C dX5_list_31 rfl rfl rfl rfl rfl rfl hx hxb Nat.one_pos ?_
    exact hq_zretX C hr hlk dX5_list_32 (by first | (simp [hx_or, e_list, n_3, c_17]; done) | simp [hx_or, e_list, sx_st, n_3, c_17]) (hw_bon (by first | exact Or.inl (if_pos ⟨rfl, rfl⟩) | exact Or.inr (if_pos ⟨rfl, rfl⟩))) (by simp [c_17, uI]) (by simp [i_list, c_17]) (Nat.le_of_ble_eq_true rfl) (Nat.le_of_ble_eq_true rfl)
def e_wayOf (I : MI) (x y : Int32) : Option String := hx_or (sx_ix x (I 1 0)) (sx_pl y)
def r_wayOf (I : MI) (x y : Int32) : Int32 := if I 19 (tn x) ≤ y then -1 else I 20 (12 * tn x + tn y)
theorem sx_pl_n {x : Int32} (h : sx_pl x = none) : x = nI (tn x) := by
  unfold sx_pl at h
  by_cases c : 0 ≤ x
  · have c0 : ¬ x < 0 := fun z => absurd (Int32.lt_of_lt_of_le z c) (Int32.lt_irrefl (a := x))
    obtain ⟨j, j1, j2⟩ := nI_of c0
    subst j2
    rw [show tn (nI j) = j from nI_clamp j1]
  · rw [if_neg c] at h; cases h
theorem m_X3_brokerAt_any {l : Launch} {D : va_G} {b0 : Nat} {I : MI} {J : MJ} {P : MI} {N : MJ} {o : Int64} {i n : Nat} {x : Int32} (hi : i < 40) (hn : I 19 i = nI n) (hn2 : n ≤ 12) (hx : x = nI (tn x)) : hM l yX3_brokerAt cX3_brokerAt 2 (some .int) rX3_brokerAt D b0 [.ref (hw_ad b0 6 i), .int x] I J P N o (some (.int (if I 19 i ≤ x then -1 else I 20 (12 * i + tn x)))) I J P N o := by
  by_cases c : I 19 i ≤ x
  · rw [if_pos c]
    exact m_X3_brokerAt_out hi hn (Or.inr (by rw [← hn]; exact c))
  · rw [if_neg c]
    refine m_X3_brokerAt_in hi hn hn2 hx ?_
    rcases Nat.lt_or_ge (tn x) n with z | z
    · exact z
    · rw [hn, hx] at c
      have h8 := Int32.toInt_lt x
      have h9 : x.toInt.toNat < 2 ^ 31 := by omega
      exact absurd (nI_le z h9) c
set_option maxHeartbeats 4000000 in
set_option maxRecDepth 100000 in
theorem m_X5_wayOf {l : Launch} {D : va_G} {b0 : Nat} {I : MI} {J : MJ} {P : MI} {N : MJ} {o : Int64} (hlt : l.stackTraces = false) {x y : Int32} {nb no nc : Nat} {B : Int} (h : hw_ci I J nb no nc B) : hX l yX5_wayOf wX5_wayOf rX5_wayOf D b0 [.ref (hw_ad b0 0 0), .int x, .int y] I J P N o (e_wayOf I x y) (some (.int (r_wayOf I x y))) I J P N o := by
  have hbc := h.1.1.1
  have hnb := h.1.1.2
  have hoc := h.1.2.1.1
  have hno := h.1.2.1.2
  have hcc := h.1.2.2.1.1
  have hnc := h.1.2.2.1.2
  refine hw_MXof (by decide) [(0, .ref _), (1, .int _), (2, .int _)] rfl (Nat.le_of_ble_eq_true rfl) ?_
  intro p e s m args below meth c C hr hlk ht
  refine hq_iload_n (q := 1) C dX5_wayOf_0 rfl rfl ?_
  refine hq_aload_n (q := 0) C dX5_wayOf_1 rfl rfl ?_
  refine hq_getI (f := 0) (g := 1) (Nc := 1) (Ns := 14) C fr_X5_124 dX5_wayOf_2 rfl rfl rfl rfl rfl (by decide) Nat.one_pos ?_
  refine hq_cSXv (As := [.int _, .int _]) (rm := rX5_requireIndex) (Cn := "") C (m_X5_requireIndex hlt) ws_X5_requireIndex ml_X5_58 rfl rfl rfl rfl ⟨Nat.le_of_ble_eq_true rfl, Nat.le_of_ble_eq_true rfl⟩ (Nat.le_of_ble_eq_true rfl) ⟨Nat.le_of_ble_eq_true rfl, Nat.le_of_ble_eq_true rfl⟩ dX5_wayOf_5 (fun n_5 => ?_) (fun E x_5 => hq_out ht hlk (by simp [hx_or, e_wayOf, x_5]) rfl (Nat.le_of_ble_eq_true rfl) (Nat.le_of_ble_eq_true rfl))
  obtain ⟨hx, hxb⟩ := sx_ix_i hoc (by omega) n_5
  have hx40 : tn x < 40 := by omega
  refine hq_iload_n (q := 2) C dX5_wayOf_8 rfl rfl ?_
  refine hq_cSXv (As := [.int _]) (rm := rX5_requirePlace) (Cn := "") C (m_X5_requirePlace hlt) ws_X5_requirePlace ml_X5_209 rfl rfl rfl rfl ⟨Nat.le_of_ble_eq_true rfl, Nat.le_of_ble_eq_true rfl⟩ (Nat.le_of_ble_eq_true rfl) ⟨Nat.le_of_ble_eq_true rfl, Nat.le_of_ble_eq_true rfl⟩ dX5_wayOf_9 (fun n_9 => ?_) (fun E x_9 => hq_out ht hlk (by simp [hx_or, e_wayOf, n_5, x_9]) rfl (Nat.le_of_ble_eq_true rfl) (Nat.le_of_ble_eq_true rfl))
  have hy := sx_pl_n n_9
  have hwy := (h.1.2.2.2.2.2.1 (tn x) hxb).1
  refine hq_aload_n (q := 0) C dX5_wayOf_12 rfl rfl ?_
  refine hq_getR (f := 0) (g := 5) (Nc := 1) (Ns := 14) C fr_X5_18 dX5_wayOf_13 rfl rfl rfl rfl rfl (by decide) Nat.one_pos ?_
  refine hq_iload_n (q := 1) C dX5_wayOf_16 rfl rfl ?_
  refine hq_aaldOR0 (f := 5) (a := tn x) (g := 6) (Nc := 1) (Ns := 40) C dX5_wayOf_17 rfl rfl rfl rfl rfl rfl hx (by omega) Nat.one_pos ?_
  refine hq_iload_n (q := 2) C dX5_wayOf_18 rfl rfl ?_
  refine hq_cVr (As := [.int _]) (rm := rX3_brokerAt) (f := 6) (Nc := 40) C (m_X3_brokerAt_any hx40 hwy.2.1 (by have := hwy.1; omega) hy) wv_X3_brokerAt ml_X5_218 rfl rfl rfl (by first | assumption | omega) rfl rfl rfl rfl ⟨Nat.le_of_ble_eq_true rfl, Nat.le_of_ble_eq_true rfl⟩ (Nat.le_of_ble_eq_true rfl) ⟨Nat.le_of_ble_eq_true rfl, Nat.le_of_ble_eq_true rfl⟩ dX5_wayOf_19 ?_
  exact hq_iretX C hr hlk dX5_wayOf_22 (by first | (simp [hx_or, e_wayOf, n_5, n_9]; done) | simp [hx_or, e_wayOf, sx_st, n_5, n_9]) rfl rfl (Nat.le_of_ble_eq_true rfl) (Nat.le_of_ble_eq_true rfl)
def e_way (I : MI) (x y z w : Int32) : Option String := hx_or (sx_pl w) (hx_or (sx_two I x y) (sx_rg z 1 1000000))
def r_way (I : MI) (J : MJ) (x y z w : Int32) : Int32 := if (sp_fw I J (tn x) (tn y) z).1 = 0 then -1 else if (sp_fw I J (tn x) (tn y) z).2 37 0 ≤ w then -1 else (sp_fw I J (tn x) (tn y) z).2 36 (tn w)
set_option maxHeartbeats 4000000 in
set_option maxRecDepth 100000 in
theorem m_X5_way {l : Launch} {D : va_G} {b0 : Nat} {I : MI} {J : MJ} {P : MI} {N : MJ} {o : Int64} (hlt : l.stackTraces = false) {x y z w : Int32} {nb no nc : Nat} {B : Int} (h : hw_ci I J nb no nc B) (hB : B ≤ 4611686018427387904) : hX l yX5_way wX5_way rX5_way D b0 [.ref (hw_ad b0 0 0), .int x, .int y, .int z, .int w] I J P N o (e_way I x y z w) (some (.int (r_way I J x y z w))) (sp_fw I J (tn x) (tn y) z).2 J P N o := by
  have hbc := h.1.1.1
  have hnb := h.1.1.2
  have hoc := h.1.2.1.1
  have hno := h.1.2.1.2
  have hcc := h.1.2.2.1.1
  have hnc := h.1.2.2.1.2
  refine hw_MXof (by decide) [(0, .ref _), (1, .int _), (2, .int _), (3, .int _), (4, .int _)] rfl (Nat.le_of_ble_eq_true rfl) ?_
  intro p e s m args below meth c C hr hlk ht
  refine hq_iload (q := 4) C dX5_way_0 rfl ?_
  refine hq_cSXv (As := [.int _]) (rm := rX5_requirePlace) (Cn := "") C (m_X5_requirePlace hlt) ws_X5_requirePlace ml_X5_209 rfl rfl rfl rfl ⟨Nat.le_of_ble_eq_true rfl, Nat.le_of_ble_eq_true rfl⟩ (Nat.le_of_ble_eq_true rfl) ⟨Nat.le_of_ble_eq_true rfl, Nat.le_of_ble_eq_true rfl⟩ dX5_way_2 (fun n_2 => ?_) (fun E x_2 => hq_out ht hlk (by simp [hx_or, e_way, x_2]) rfl (Nat.le_of_ble_eq_true rfl) (Nat.le_of_ble_eq_true rfl))
  have hw := sx_pl_n n_2
  refine hq_aload_n (q := 0) C dX5_way_5 rfl rfl ?_
  refine hq_iload_n (q := 1) C dX5_way_6 rfl rfl ?_
  refine hq_iload_n (q := 2) C dX5_way_7 rfl rfl ?_
  refine hq_cVXv (As := [.int _, .int _]) (rm := rX5_requireTwoBrokers) (f := 0) (Nc := 1) C (m_X5_requireTwoBrokers hlt) wv_X5_requireTwoBrokers ml_X5_84 rfl rfl rfl Nat.one_pos rfl rfl rfl rfl ⟨Nat.le_of_ble_eq_true rfl, Nat.le_of_ble_eq_true rfl⟩ (Nat.le_of_ble_eq_true rfl) ⟨Nat.le_of_ble_eq_true rfl, Nat.le_of_ble_eq_true rfl⟩ dX5_way_8 (fun n_8 => ?_) (fun E x_8 => hq_out ht hlk (by simp [hx_or, e_way, n_2, x_8]) rfl (Nat.le_of_ble_eq_true rfl) (Nat.le_of_ble_eq_true rfl))
  obtain ⟨⟨hx, hxb⟩, ⟨hy, hyb⟩, hxy⟩ := sx_two_n hbc (by omega) n_8
  refine hq_iload_n (q := 3) C dX5_way_11 rfl rfl ?_
  refine hq_iconst (y := 1) C dX5_way_12 (by decide) ?_
  refine hq_ldc C wc_X5_50 dX5_way_13 ?_
  refine hq_cSXv (As := [.int _, .int _, .int _]) (rm := rX5_requireRange) (Cn := "") C (m_X5_requireRange hlt) ws_X5_requireRange ml_X5_62 rfl rfl rfl rfl ⟨Nat.le_of_ble_eq_true rfl, Nat.le_of_ble_eq_true rfl⟩ (Nat.le_of_ble_eq_true rfl) ⟨Nat.le_of_ble_eq_true rfl, Nat.le_of_ble_eq_true rfl⟩ dX5_way_15 (fun n_15 => ?_) (fun E x_15 => hq_out ht hlk (by simp [hx_or, e_way, n_2, n_8, x_15]) rfl (Nat.le_of_ble_eq_true rfl) (Nat.le_of_ble_eq_true rfl))
  obtain ⟨hz, hz1, hz2⟩ := sx_rg_1 (n := 1000000) (by decide) (by omega) n_15
  have hne : tn x ≠ tn y := fun z => hxy (by rw [hx, hy, z])
  have hfw := fw_spec (J := J) hbc hnb (show tn x < 12 by omega) (show tn y < 12 by omega) hne hz2 h.2.2.1 (h.2.2.2.mono hB)
  rw [← hz] at hfw
  obtain ⟨hoth, hfw⟩ := hfw
  refine hq_aload_n (q := 0) C dX5_way_18 rfl rfl ?_
  refine hq_iload_n (q := 1) C dX5_way_19 rfl rfl ?_
  refine hq_iload_n (q := 2) C dX5_way_20 rfl rfl ?_
  refine hq_iload_n (q := 3) C dX5_way_21 rfl rfl ?_
  refine hq_cVr (As := [.int _, .int _, .int _]) (rm := rX5_findWay) (f := 0) (Nc := 1) C (m_X5_findWay h.1.2.2.2.1 hx (by omega) hy (by omega)) wv_X5_findWay ml_X5_127 rfl rfl rfl Nat.one_pos rfl rfl rfl rfl ⟨Nat.le_of_ble_eq_true rfl, Nat.le_of_ble_eq_true rfl⟩ (Nat.le_of_ble_eq_true rfl) ⟨Nat.le_of_ble_eq_true rfl, Nat.le_of_ble_eq_true rfl⟩ dX5_way_22 ?_
  refine hq_if_ne (tgt := 30) C dX5_way_25 (by decide) (fun c_25 => ?_) (fun c_25 => ?_)
  · refine hq_iload (q := 4) C dX5_way_30 rfl ?_
    refine hq_aload_n (q := 0) C dX5_way_32 rfl rfl ?_
    refine hq_getR (f := 0) (g := 16) (Nc := 1) (Ns := 14) C fr_X5_42 dX5_way_33 rfl rfl rfl rfl rfl (by decide) Nat.one_pos ?_
    refine hq_getI (f := 16) (g := 37) (Nc := 1) (Ns := 11) C fr_X5_212 dX5_way_36 rfl rfl rfl rfl rfl (by decide) Nat.one_pos ?_
    refine hq_icmp_ge (tgt := 68) C dX5_way_39 (by decide) (fun c_39 => ?_) (fun c_39 => ?_)
    · refine hq_iconst (y := -1) C dX5_way_68 (by decide) ?_
      exact hq_iretX C hr hlk dX5_way_69 (by simp [hx_or, e_way, n_2, n_8, n_15]) (by rw [show r_way I J x y z w = _ from ((if_neg c_25).trans (if_pos c_39))]; try rfl) rfl (Nat.le_of_ble_eq_true rfl) (Nat.le_of_ble_eq_true rfl)
    · have hwn : tn w < 12 := by
        rcases hfw with q | ⟨q, n, pp, b1, b2, b3, _⟩
        · exact absurd q c_25
        · rw [b3] at c_39
          rcases Nat.lt_or_ge (tn w) (n + 1) with z | z
          · omega
          · exact absurd (by rw [hw]; exact nI_le z (by have h8 := Int32.toInt_lt w; show w.toInt.toNat < 2 ^ 31; omega)) c_39
      refine hq_iload (q := 4) C dX5_way_42 rfl ?_
      refine hq_aload_n (q := 0) C dX5_way_44 rfl rfl ?_
      refine hq_getR (f := 0) (g := 16) (Nc := 1) (Ns := 14) C fr_X5_42 dX5_way_45 rfl rfl rfl rfl rfl (by decide) Nat.one_pos ?_
      refine hq_getR (f := 16) (g := 22) (Nc := 1) (Ns := 11) C fr_X5_215 dX5_way_48 rfl rfl rfl rfl rfl (by decide) Nat.one_pos ?_
      refine hq_alen (f := 22) (Nc := 1) (Ns := 12) C dX5_way_51 rfl rfl rfl rfl Nat.one_pos ?_
      refine hq_icmp_ge (tgt := 68) C dX5_way_52 (by decide) (fun c_52 => absurd c_52 (by rw [hw]; exact nI_ge hwn (by omega))) (fun c_52 => ?_)
      refine hq_aload_n (q := 0) C dX5_way_55 rfl rfl ?_
      refine hq_getR (f := 0) (g := 16) (Nc := 1) (Ns := 14) C fr_X5_42 dX5_way_56 rfl rfl rfl rfl rfl (by decide) Nat.one_pos ?_
      refine hq_getR (f := 16) (g := 22) (Nc := 1) (Ns := 11) C fr_X5_215 dX5_way_59 rfl rfl rfl rfl rfl (by decide) Nat.one_pos ?_
      refine hq_iload (q := 4) C dX5_way_62 rfl ?_
      refine hq_ialdI0 (f := 22) (a := tn w) (g := 36) (Nc := 1) (Ns := 12) C dX5_way_64 rfl rfl rfl rfl rfl rfl hw hwn Nat.one_pos ?_
      refine hq_goto (tgt := 69) C dX5_way_65 (by decide) ?_
      exact hq_iretX C hr hlk dX5_way_69 (by simp [hx_or, e_way, n_2, n_8, n_15]) (by rw [show r_way I J x y z w = _ from ((if_neg c_25).trans (if_neg c_39))]; try rfl) rfl (Nat.le_of_ble_eq_true rfl) (Nat.le_of_ble_eq_true rfl)
  · refine hq_iconst (y := -1) C dX5_way_28 (by decide) ?_
    exact hq_iretX C hr hlk dX5_way_29 (by simp [hx_or, e_way, n_2, n_8, n_15]) (by rw [show r_way I J x y z w = _ from (if_pos c_25)]; try rfl) rfl (Nat.le_of_ble_eq_true rfl) (Nat.le_of_ble_eq_true rfl)
