/-! order, fetch, pass, and the questions -/
theorem fw_bo (I : MI) (J : MJ) (a b : Nat) (x : Int32) : hw_bo (sp_fw I J a b x).1 := sp_find_bo _ _ _ _
theorem sx_st_0 : sx_st 0 = some eS := rfl
theorem sx_st_1 : sx_st 1 = none := rfl
theorem tell_ne {I : MI} {t g j : Nat} {x : Int32} (h : g ≠ 29) : sp_tell I t x g j = I g j := by
  unfold sp_tell
  split
  · rfl
  · simp [uI, h]
theorem sx_st_n {x : Int32} (h : sx_st x = none) : ¬ x = 0 := fun z => by rw [z] at h; simp [sx_st] at h
def e6_order (I : MI) (x y z w v : Int32) : Option String := hx_or (sx_ix w 20) (hx_or (sx_two I x y) (hx_or (sx_rg z 1 1000000) (hx_or (sx_rg v 0 9999) (hx_or (sx_st (if 40 ≤ I 1 0 then 0 else 1)) (sx_st (if I 30 (tn w) = 0 then 1 else 0))))))
def e_order (I : MI) (J : MJ) (x y z w v : Int32) : Option String := hx_or (e6_order I x y z w v) (sx_st (sp_fw I J (tn x) (tn y) z).1)
def x_order (I : MI) (J : MJ) (x y z w v : Int32) : MI := if e6_order I x y z w v = none then (sp_fw I J (tn x) (tn y) z).2 else I
def g_order (K : MI) (z : Int32) : Int32 := z + (if 0 < tn (K 37 0) then K 34 (tn (K 36 0)) else 0)
def i0_order (K : MI) (z v : Int32) (n : Nat) : MI := uI (uI (uI (uI (uI K 12 n z) 13 n v) 15 n (K 3 0)) 16 n 0) 14 n (g_order K z)
def i1_order (K : MI) (z v : Int32) (n : Nat) : MI := sp_take (i0_order K z v n) n 0 (tn (K 37 0))
def i2_order (K : MI) (x z v : Int32) (n : Nat) : MI := uI (sp_tell (i1_order K z v n) (tn (K 5 (tn x))) z) 1 0 (nI (n + 1))
def j_order (K : MI) (J : MJ) (x z v : Int32) (n : Nat) : MJ := lp (sf_la (i1_order K z v n) n) (tn (K 37 0) - 1 - 0) 0 (uJ J 0 (tn x) (J 0 (tn x) + (i1_order K z v n 14 n).toInt64))
set_option maxHeartbeats 4000000 in
set_option maxRecDepth 100000 in
theorem m_X5_order {l : Launch} {D : va_G} {b0 : Nat} {I : MI} {J : MJ} {P : MI} {N : MJ} {o : Int64} (hlt : l.stackTraces = false) {x y z w v : Int32} {nb no nc : Nat} {B : Int} (h : hw_ci I J nb no nc B) (hfr : hw_fr I no nc) (hB : B ≤ 4611686018427387904) : hXe l yX5_order wX5_order rX5_order D b0 [.ref (hw_ad b0 0 0), .int x, .int y, .int z, .int w, .int v] I J P N o (e_order I J x y z w v) (hw_vl b0 (x_order I J x y z w v) J P N o) (some (.int (nI no))) (i2_order (sp_fw I J (tn x) (tn y) z).2 x z v no) (j_order (sp_fw I J (tn x) (tn y) z).2 J x z v no) P N o := by
  have hbc := h.1.1.1
  have hnb := h.1.1.2
  have hoc := h.1.2.1.1
  have hno := h.1.2.1.2
  have hcc := h.1.2.2.1.1
  have hnc := h.1.2.2.1.2
  refine hw_MXeof (by decide) [(0, .ref _), (1, .int _), (2, .int _), (3, .int _), (4, .int _), (5, .int _)] rfl (Nat.le_of_ble_eq_true rfl) ?_
  intro p e s m args below meth c C hr hlk ht
  refine hq_iload (q := 4) C dX5_order_0 rfl ?_
  refine hq_bipush (y := 20) C dX5_order_2 (by decide) ?_
  refine hq_cSXv (As := [.int _, .int _]) (rm := rX5_requireIndex) (Cn := "") C (m_X5_requireIndex hlt) ws_X5_requireIndex ml_X5_58 rfl rfl rfl rfl ⟨Nat.le_of_ble_eq_true rfl, Nat.le_of_ble_eq_true rfl⟩ (Nat.le_of_ble_eq_true rfl) ⟨Nat.le_of_ble_eq_true rfl, Nat.le_of_ble_eq_true rfl⟩ dX5_order_4 (fun n_4 => ?_) (fun E x_4 => hq_out ht hlk (by simp [hx_or, sx_st_0, sx_st_1, e_order, e6_order, x_4]) (by simp [x_order, hx_or, sx_st_0, sx_st_1, e_order, e6_order, x_4]) (Nat.le_of_ble_eq_true rfl) (Nat.le_of_ble_eq_true rfl))
  obtain ⟨hw, hwb⟩ := sx_ix_n (n := 20) (by omega) n_4
  refine hq_aload_n (q := 0) C dX5_order_7 rfl rfl ?_
  refine hq_iload_n (q := 1) C dX5_order_8 rfl rfl ?_
  refine hq_iload_n (q := 2) C dX5_order_9 rfl rfl ?_
  refine hq_cVXv (As := [.int _, .int _]) (rm := rX5_requireTwoBrokers) (f := 0) (Nc := 1) C (m_X5_requireTwoBrokers hlt) wv_X5_requireTwoBrokers ml_X5_84 rfl rfl rfl Nat.one_pos rfl rfl rfl rfl ⟨Nat.le_of_ble_eq_true rfl, Nat.le_of_ble_eq_true rfl⟩ (Nat.le_of_ble_eq_true rfl) ⟨Nat.le_of_ble_eq_true rfl, Nat.le_of_ble_eq_true rfl⟩ dX5_order_10 (fun n_10 => ?_) (fun E x_10 => hq_out ht hlk (by simp [hx_or, sx_st_0, sx_st_1, e_order, e6_order, n_4, x_10]) (by simp [x_order, hx_or, sx_st_0, sx_st_1, e_order, e6_order, n_4, x_10]) (Nat.le_of_ble_eq_true rfl) (Nat.le_of_ble_eq_true rfl))
  obtain ⟨⟨hx, hxb⟩, ⟨hy, hyb⟩, hxy⟩ := sx_two_n hbc (by omega) n_10
  refine hq_iload_n (q := 3) C dX5_order_13 rfl rfl ?_
  refine hq_iconst (y := 1) C dX5_order_14 (by decide) ?_
  refine hq_ldc C wc_X5_50 dX5_order_15 ?_
  refine hq_cSXv (As := [.int _, .int _, .int _]) (rm := rX5_requireRange) (Cn := "") C (m_X5_requireRange hlt) ws_X5_requireRange ml_X5_62 rfl rfl rfl rfl ⟨Nat.le_of_ble_eq_true rfl, Nat.le_of_ble_eq_true rfl⟩ (Nat.le_of_ble_eq_true rfl) ⟨Nat.le_of_ble_eq_true rfl, Nat.le_of_ble_eq_true rfl⟩ dX5_order_17 (fun n_17 => ?_) (fun E x_17 => hq_out ht hlk (by simp [hx_or, sx_st_0, sx_st_1, e_order, e6_order, n_4, n_10, x_17]) (by simp [x_order, hx_or, sx_st_0, sx_st_1, e_order, e6_order, n_4, n_10, x_17]) (Nat.le_of_ble_eq_true rfl) (Nat.le_of_ble_eq_true rfl))
  obtain ⟨hz, hz1, hz2⟩ := sx_rg_1 (n := 1000000) (by decide) (by omega) n_17
  have hne : tn x ≠ tn y := fun z => hxy (by rw [hx, hy, z])
  have hfw := fw_spec (J := J) hbc hnb (show tn x < 12 by omega) (show tn y < 12 by omega) hne hz2 h.2.2.1 (h.2.2.2.mono hB)
  rw [← hz] at hfw
  obtain ⟨hoth, hfw⟩ := hfw
  refine hq_iload (q := 5) C dX5_order_20 rfl ?_
  refine hq_iconst (y := 0) C dX5_order_22 (by decide) ?_
  refine hq_sipush (y := 9999) C dX5_order_23 (by decide) ?_
  refine hq_cSXv (As := [.int _, .int _, .int _]) (rm := rX5_requireRange) (Cn := "") C (m_X5_requireRange hlt) ws_X5_requireRange ml_X5_62 rfl rfl rfl rfl ⟨Nat.le_of_ble_eq_true rfl, Nat.le_of_ble_eq_true rfl⟩ (Nat.le_of_ble_eq_true rfl) ⟨Nat.le_of_ble_eq_true rfl, Nat.le_of_ble_eq_true rfl⟩ dX5_order_26 (fun n_26 => ?_) (fun E x_26 => hq_out ht hlk (by simp [hx_or, sx_st_0, sx_st_1, e_order, e6_order, n_4, n_10, n_17, x_26]) (by simp [x_order, hx_or, sx_st_0, sx_st_1, e_order, e6_order, n_4, n_10, n_17, x_26]) (Nat.le_of_ble_eq_true rfl) (Nat.le_of_ble_eq_true rfl))
  refine hq_aload_n (q := 0) C dX5_order_29 rfl rfl ?_
  refine hq_getI (f := 0) (g := 1) (Nc := 1) (Ns := 14) C fr_X5_124 dX5_order_30 rfl rfl rfl rfl rfl (by decide) Nat.one_pos ?_
  refine hq_bipush (y := 40) C dX5_order_33 (by decide) ?_
  refine hq_icmp_ge (tgt := 42) C dX5_order_35 (by decide) (fun c_35 => ?_) (fun c_35 => ?_)
  · refine hq_iconst (y := 0) C dX5_order_42 (by decide) ?_
    exact hq_cSXv (As := [.int _]) (rm := rX5_requireState) (Cn := "") C (m_X5_requireState hlt) ws_X5_requireState ml_X5_70 rfl rfl rfl rfl ⟨Nat.le_of_ble_eq_true rfl, Nat.le_of_ble_eq_true rfl⟩ (Nat.le_of_ble_eq_true rfl) ⟨Nat.le_of_ble_eq_true rfl, Nat.le_of_ble_eq_true rfl⟩ dX5_order_43 (fun n_43 => absurd n_43 (by simp [sx_st])) (fun E x_43 => hq_out ht hlk (by simpa [hx_or, sx_st_0, sx_st_1, e_order, e6_order, sx_st, n_4, n_10, n_17, n_26, c_35] using x_43) (by simp [x_order, hx_or, sx_st_0, sx_st_1, e_order, e6_order, n_4, n_10, n_17, n_26, c_35, sx_st]) (Nat.le_of_ble_eq_true rfl) (Nat.le_of_ble_eq_true rfl))
  · refine hq_iconst (y := 1) C dX5_order_38 (by decide) ?_
    refine hq_goto (tgt := 43) C dX5_order_39 (by decide) ?_
    refine hq_cSXv (As := [.int _]) (rm := rX5_requireState) (Cn := "") C (m_X5_requireState hlt) ws_X5_requireState ml_X5_70 rfl rfl rfl rfl ⟨Nat.le_of_ble_eq_true rfl, Nat.le_of_ble_eq_true rfl⟩ (Nat.le_of_ble_eq_true rfl) ⟨Nat.le_of_ble_eq_true rfl, Nat.le_of_ble_eq_true rfl⟩ dX5_order_43 (fun _ => ?_) (fun E x_43 => absurd x_43 (by simp [sx_st]))
    have h40 : no < 40 := by rcases Nat.lt_or_ge no 40 with z | z; exact z; exact absurd (by rw [hoc]; exact nI_le z (by omega) : (40 : Int32) ≤ I 1 0) c_35
    refine hq_aload_n (q := 0) C dX5_order_46 rfl rfl ?_
    refine hq_getR (f := 0) (g := 25) (Nc := 1) (Ns := 14) C fr_X5_54 dX5_order_47 rfl rfl rfl rfl rfl (by decide) Nat.one_pos ?_
    refine hq_iload (q := 4) C dX5_order_50 rfl ?_
    refine hq_zaldI0 (f := 25) (a := tn w) (g := 30) (Nc := 1) (Ns := 20) C dX5_order_52 rfl rfl rfl rfl rfl rfl hw hwb Nat.one_pos ?_
    refine hq_if_ne (tgt := 60) C dX5_order_53 (by decide) (fun c_53 => ?_) (fun c_53 => ?_)
    · refine hq_iconst (y := 0) C dX5_order_60 (by decide) ?_
      exact hq_cSXv (As := [.int _]) (rm := rX5_requireState) (Cn := "") C (m_X5_requireState hlt) ws_X5_requireState ml_X5_70 rfl rfl rfl rfl ⟨Nat.le_of_ble_eq_true rfl, Nat.le_of_ble_eq_true rfl⟩ (Nat.le_of_ble_eq_true rfl) ⟨Nat.le_of_ble_eq_true rfl, Nat.le_of_ble_eq_true rfl⟩ dX5_order_61 (fun n_61 => absurd n_61 (by simp [sx_st])) (fun E x_61 => hq_out ht hlk (by simpa [hx_or, sx_st_0, sx_st_1, e_order, e6_order, sx_st, n_4, n_10, n_17, n_26, c_35, c_53] using x_61) (by simp [x_order, hx_or, sx_st_0, sx_st_1, e_order, e6_order, n_4, n_10, n_17, n_26, c_35, c_53, sx_st]) (Nat.le_of_ble_eq_true rfl) (Nat.le_of_ble_eq_true rfl))
    · refine hq_iconst (y := 1) C dX5_order_56 (by decide) ?_
      refine hq_goto (tgt := 61) C dX5_order_57 (by decide) ?_
      refine hq_cSXv (As := [.int _]) (rm := rX5_requireState) (Cn := "") C (m_X5_requireState hlt) ws_X5_requireState ml_X5_70 rfl rfl rfl rfl ⟨Nat.le_of_ble_eq_true rfl, Nat.le_of_ble_eq_true rfl⟩ (Nat.le_of_ble_eq_true rfl) ⟨Nat.le_of_ble_eq_true rfl, Nat.le_of_ble_eq_true rfl⟩ dX5_order_61 (fun _ => ?_) (fun E x_61 => absurd x_61 (by simp [sx_st]))
      refine hq_aload_n (q := 0) C dX5_order_64 rfl rfl ?_
      refine hq_iload_n (q := 1) C dX5_order_65 rfl rfl ?_
      refine hq_iload_n (q := 2) C dX5_order_66 rfl rfl ?_
      refine hq_iload_n (q := 3) C dX5_order_67 rfl rfl ?_
      refine hq_cVr (As := [.int _, .int _, .int _]) (rm := rX5_findWay) (f := 0) (Nc := 1) C (m_X5_findWay h.1.2.2.2.1 hx (by omega) hy (by omega)) wv_X5_findWay ml_X5_127 rfl rfl rfl Nat.one_pos rfl rfl rfl rfl ⟨Nat.le_of_ble_eq_true rfl, Nat.le_of_ble_eq_true rfl⟩ (Nat.le_of_ble_eq_true rfl) ⟨Nat.le_of_ble_eq_true rfl, Nat.le_of_ble_eq_true rfl⟩ dX5_order_68 ?_
      generalize hKK : sp_fw I J (tn x) (tn y) z = KK at hoth hfw ⊢
      refine hq_cSXv (As := [.int _]) (rm := rX5_requireState) (Cn := "") C (m_X5_requireState hlt) ws_X5_requireState ml_X5_70 rfl rfl rfl rfl ⟨Nat.le_of_ble_eq_true rfl, Nat.le_of_ble_eq_true rfl⟩ (Nat.le_of_ble_eq_true rfl) ⟨Nat.le_of_ble_eq_true rfl, Nat.le_of_ble_eq_true rfl⟩ dX5_order_71 (fun n_71 => ?_) (fun E x_71 => hq_out ht hlk (by simp [hx_or, sx_st_0, sx_st_1, e_order, e6_order, hKK, n_4, n_10, n_17, n_26, c_35, c_53, x_71]) (by simp [hx_or, sx_st_0, sx_st_1, x_order, e6_order, hKK, n_4, n_10, n_17, n_26, c_35, c_53]) (Nat.le_of_ble_eq_true rfl) (Nat.le_of_ble_eq_true rfl))
      rcases hfw with q | ⟨q, n, pp, b1, b2, b3, b4, b5, b6⟩
      · exact absurd q (sx_st_n n_71)
      have eK1 : KK.2 1 0 = nI no := (hoth 1 0 (by omega)).trans hoc
      have em : tn (KK.2 37 0) = n + 1 := by rw [b3]; exact nI_clamp (by omega)
      obtain ⟨w1, w2, w3, w4⟩ := take_new (K := i0_order KK.2 z v no) (i := no) (p := pp) b3 b2 b1 ((hoth 17 no (by omega)).trans (hfr.1 no (Nat.le_refl _) h40).1) (fun k hk => ⟨(b6 k hk).1, (b6 k hk).2.1, (b6 k hk).2.2.1⟩)
      obtain ⟨tx, tx8, htx⟩ := h.1.2.2.2.2.1 (tn x) (by omega)
      have etx : KK.2 5 (tn x) = nI (tn (KK.2 5 (tn x))) := by rw [hoth 5 _ (by omega), htx]; exact (congrArg nI (nI_clamp (by omega))).symm
      have etx8 : tn (KK.2 5 (tn x)) < 8 := by rw [hoth 5 _ (by omega), htx]; show (nI tx).toNatClampNeg < 8; rw [nI_clamp (by omega)]; exact tx8
      have e5 : i1_order KK.2 z v no 5 (tn x) = KK.2 5 (tn x) := take_ne (by decide) (by decide) (by decide) _
      have e1 : i1_order KK.2 z v no 1 0 = nI no := (take_ne (by decide) (by decide) (by decide) _).trans eK1
      have w1m : hw_wy (i1_order KK.2 z v no) no (tn (KK.2 37 0) - 1) := by unfold i1_order; rw [em]; exact w1
      have w2m : i1_order KK.2 z v no 17 no = nI 0 := by unfold i1_order; rw [em]; exact w2
      have e1n : sp_tell (i1_order KK.2 z v no) (tn (KK.2 5 (tn x))) z 1 0 + 1 = nI (no + 1) := by rw [tell_ne (by decide), e1]; exact nI_1 _
      have hp9 : ∀ k, k < tn (KK.2 37 0) → ∃ b, b < 12 ∧ KK.2 36 k = nI b := fun k hk => by rw [em] at hk; exact ⟨pp k, (b6 k (by omega)).1, (b6 k (by omega)).2.1⟩
      have b3m : KK.2 37 0 = nI (tn (KK.2 37 0)) := by rw [em]; exact b3
      refine hq_aload_n (q := 0) C dX5_order_74 rfl rfl ?_
      refine hq_getR (f := 0) (g := 5) (Nc := 1) (Ns := 14) C fr_X5_18 dX5_order_75 rfl rfl rfl rfl rfl (by decide) Nat.one_pos ?_
      refine hq_aload_n (q := 0) C dX5_order_78 rfl rfl ?_
      refine hq_getI (f := 0) (g := 1) (Nc := 1) (Ns := 14) C fr_X5_124 dX5_order_79 rfl rfl rfl rfl rfl (by decide) Nat.one_pos ?_
      refine hq_aaldOR0 (f := 5) (a := no) (g := 6) (Nc := 1) (Ns := 40) C dX5_order_82 rfl rfl rfl rfl rfl rfl eK1 h40 Nat.one_pos ?_
      refine hq_astore (L' := [(6, .ref _), (0, .ref _), (1, .int _), (2, .int _), (3, .int _), (4, .int _), (5, .int _)]) C dX5_order_83 (by decide) rfl ?_
      refine hq_aload (q := 0) C dX5_order_85 rfl ?_
      refine hq_iload_n (q := 4) C dX5_order_87 rfl rfl ?_
      refine hq_putI (f := 6) (g := 12) (Nc := 40) (Ns := 10) C fl_X5_131 dX5_order_88 rfl rfl rfl rfl rfl (by decide) (by first | assumption | omega) rfl rfl ?_
      refine hq_aload (q := 0) C dX5_order_91 rfl ?_
      refine hq_iload (q := 6) C dX5_order_93 rfl ?_
      refine hq_putI (f := 6) (g := 13) (Nc := 40) (Ns := 10) C fl_X5_134 dX5_order_95 rfl rfl rfl rfl rfl (by decide) (by first | assumption | omega) rfl rfl ?_
      refine hq_aload (q := 0) C dX5_order_98 rfl ?_
      refine hq_aload_n (q := 1) C dX5_order_100 rfl rfl ?_
      refine hq_getI (f := 0) (g := 3) (Nc := 1) (Ns := 14) C fr_X5_112 dX5_order_101 rfl rfl rfl rfl rfl (by decide) Nat.one_pos ?_
      refine hq_putI (f := 6) (g := 15) (Nc := 40) (Ns := 10) C fl_X5_137 dX5_order_104 rfl rfl rfl rfl rfl (by decide) (by first | assumption | omega) rfl rfl ?_
      refine hq_aload (q := 0) C dX5_order_107 rfl ?_
      refine hq_iconst (y := 0) C dX5_order_109 (by decide) ?_
      refine hq_putI (f := 6) (g := 16) (Nc := 40) (Ns := 10) C fl_X5_140 dX5_order_110 rfl rfl rfl rfl rfl (by decide) (by first | assumption | omega) rfl rfl ?_
      refine hq_aload (q := 0) C dX5_order_113 rfl ?_
      refine hq_iload_n (q := 4) C dX5_order_115 rfl rfl ?_
      refine hq_aload_n (q := 1) C dX5_order_116 rfl rfl ?_
      refine hq_getR (f := 0) (g := 16) (Nc := 1) (Ns := 14) C fr_X5_42 dX5_order_117 rfl rfl rfl rfl rfl (by decide) Nat.one_pos ?_
      refine hq_cVr (As := []) (rm := rX4_allFees) (f := 16) (Nc := 1) C (m_X4_allFees (n := tn (KK.2 37 0)) b3m (by omega) hp9) wv_X4_allFees ml_X5_141 rfl rfl rfl Nat.one_pos rfl rfl rfl rfl ⟨Nat.le_of_ble_eq_true rfl, Nat.le_of_ble_eq_true rfl⟩ (Nat.le_of_ble_eq_true rfl) ⟨Nat.le_of_ble_eq_true rfl, Nat.le_of_ble_eq_true rfl⟩ dX5_order_120 ?_
      refine hq_iadd C dX5_order_123 ?_
      refine hq_putI (f := 6) (g := 14) (Nc := 40) (Ns := 10) C fl_X5_145 dX5_order_124 rfl rfl rfl rfl rfl (by decide) (by first | assumption | omega) rfl rfl ?_
      refine hq_aload (q := 0) C dX5_order_127 rfl ?_
      refine hq_aload_n (q := 1) C dX5_order_129 rfl rfl ?_
      refine hq_getR (f := 0) (g := 16) (Nc := 1) (Ns := 14) C fr_X5_42 dX5_order_130 rfl rfl rfl rfl rfl (by decide) Nat.one_pos ?_
      refine hq_iconst (y := 0) C dX5_order_133 (by decide) ?_
      refine hq_cVv (As := [.ref _, .int _]) (rm := rX3_takeWay) (f := 6) (Nc := 40) C (m_X3_takeWay (q := 0) (n := tn (KK.2 37 0)) h40 rfl (by omega) b3m hp9) wv_X3_takeWay ml_X5_148 rfl rfl rfl (by first | assumption | omega) rfl rfl rfl rfl ⟨Nat.le_of_ble_eq_true rfl, Nat.le_of_ble_eq_true rfl⟩ (Nat.le_of_ble_eq_true rfl) ⟨Nat.le_of_ble_eq_true rfl, Nat.le_of_ble_eq_true rfl⟩ dX5_order_134 ?_
      refine hq_aload_n (q := 1) C dX5_order_137 rfl rfl ?_
      refine hq_getR (f := 0) (g := 1) (Nc := 1) (Ns := 14) C fr_X5_11 dX5_order_138 rfl rfl rfl rfl rfl (by decide) Nat.one_pos ?_
      refine hq_iload_n (q := 2) C dX5_order_141 rfl rfl ?_
      refine hq_aaldBR0 (f := 1) (a := tn x) (g := 2) (Nc := 1) (Ns := 12) C dX5_order_142 rfl rfl rfl rfl rfl rfl hx (by omega) Nat.one_pos ?_
      refine hq_dup C dX5_order_143 rfl ?_
      refine hq_getJ (f := 2) (g := 0) (Nc := 12) (Ns := 8) C fr_X5_77 dX5_order_144 rfl rfl rfl rfl rfl (by decide) (by first | assumption | omega) ?_
      refine hq_aload (q := 0) C dX5_order_147 rfl ?_
      refine hq_getI (f := 6) (g := 14) (Nc := 40) (Ns := 10) C fr_X5_145 dX5_order_149 rfl rfl rfl rfl rfl (by decide) (by first | assumption | omega) ?_
      refine hq_i2l C dX5_order_152 ?_
      refine hq_ladd C dX5_order_153 ?_
      refine hq_putJ (f := 2) (g := 0) (Nc := 12) (Ns := 8) C fl_X5_77 dX5_order_154 rfl rfl rfl rfl rfl (by decide) (by first | assumption | omega) rfl rfl ?_
      refine hq_aload_n (q := 1) C dX5_order_157 rfl rfl ?_
      refine hq_aload (q := 0) C dX5_order_158 rfl ?_
      refine hq_cVv (As := [.ref _]) (rm := rX5_letArise) (f := 0) (Nc := 1) C (m_X5_letArise (n := tn (KK.2 37 0) - 1) (q := 0) h40 w1m w2m (Nat.zero_le _)) wv_X5_letArise ml_X5_152 rfl rfl rfl Nat.one_pos rfl rfl rfl rfl ⟨Nat.le_of_ble_eq_true rfl, Nat.le_of_ble_eq_true rfl⟩ (Nat.le_of_ble_eq_true rfl) ⟨Nat.le_of_ble_eq_true rfl, Nat.le_of_ble_eq_true rfl⟩ dX5_order_160 ?_
      refine hq_aload_n (q := 1) C dX5_order_163 rfl rfl ?_
      refine hq_aload_n (q := 1) C dX5_order_164 rfl rfl ?_
      refine hq_getR (f := 0) (g := 1) (Nc := 1) (Ns := 14) C fr_X5_11 dX5_order_165 rfl rfl rfl rfl rfl (by decide) Nat.one_pos ?_
      refine hq_iload_n (q := 2) C dX5_order_168 rfl rfl ?_
      refine hq_aaldBR0 (f := 1) (a := tn x) (g := 2) (Nc := 1) (Ns := 12) C dX5_order_169 rfl rfl rfl rfl rfl rfl hx (by omega) Nat.one_pos ?_
      refine hq_getI (f := 2) (g := 5) (Nc := 12) (Ns := 8) C fr_X5_74 dX5_order_170 rfl rfl rfl rfl rfl (by decide) (by first | assumption | omega) ?_
      refine hq_iload_n (q := 4) C dX5_order_173 rfl rfl ?_
      refine hq_cVv (As := [.int _, .int _]) (rm := rX5_tellTown) (f := 0) (Nc := 1) C (m_X5_tellTown (t := tn (KK.2 5 (tn x))) (e5.trans etx) etx8) wv_X5_tellTown ml_X5_156 rfl rfl rfl Nat.one_pos rfl rfl rfl rfl ⟨Nat.le_of_ble_eq_true rfl, Nat.le_of_ble_eq_true rfl⟩ (Nat.le_of_ble_eq_true rfl) ⟨Nat.le_of_ble_eq_true rfl, Nat.le_of_ble_eq_true rfl⟩ dX5_order_174 ?_
      refine hq_aload_n (q := 1) C dX5_order_177 rfl rfl ?_
      refine hq_dup C dX5_order_178 rfl ?_
      refine hq_getI (f := 0) (g := 1) (Nc := 1) (Ns := 14) C fr_X5_124 dX5_order_179 rfl rfl rfl rfl rfl (by decide) Nat.one_pos ?_
      refine hq_iconst (y := 1) C dX5_order_182 (by decide) ?_
      refine hq_iadd C dX5_order_183 ?_
      refine hq_putI (f := 0) (g := 1) (Nc := 1) (Ns := 14) C fl_X5_124 dX5_order_184 rfl rfl rfl rfl rfl (by decide) Nat.one_pos rfl rfl ?_
      refine hq_aload_n (q := 1) C dX5_order_187 rfl rfl ?_
      refine hq_getI (f := 0) (g := 1) (Nc := 1) (Ns := 14) C fr_X5_124 dX5_order_188 rfl rfl rfl rfl rfl (by decide) Nat.one_pos ?_
      refine hq_iconst (y := 1) C dX5_order_191 (by decide) ?_
      refine hq_isub C dX5_order_192 ?_
      exact hq_iretX C hr hlk dX5_order_193 (by simp [hx_or, sx_st_0, sx_st_1, e_order, e6_order, hKK, n_4, n_10, n_17, n_26, n_71, c_35, c_53]) (by show sp_tell (i1_order KK.2 z v no) (tn (KK.2 5 (tn x))) z 1 0 + 1 - 1 = nI no; rw [e1n]; exact nI_pred _) (by unfold i2_order; rw [← e1n]; rfl) (Nat.le_of_ble_eq_true rfl) (Nat.le_of_ble_eq_true rfl)
