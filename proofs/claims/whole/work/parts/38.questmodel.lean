/-! the model: the questions, clear, ring -/
def ps_debt (P : MI) (N : MJ) (x y w : Int32) : Int64 × MI × MJ := if sx_br2 P x y = 0 then (0, uI P 40 0 1, N) else if w = 0 then (N 1 (12 * tn x + tn y), uI P 40 0 0, N) else (N 2 (12 * tn x + tn y), uI P 40 0 0, N)
set_option maxHeartbeats 4000000 in
set_option maxRecDepth 100000 in
theorem m_X6_debt {l : Launch} {D : va_G} {b0 : Nat} {I : MI} {J : MJ} {P : MI} {N : MJ} {o : Int64} {x y w : Int32} {nb no nc : Nat} (h : pv_iv P nb no nc) : hM l yX6_debt cX6_debt 4 (some .long) rX6_debt D b0 [.ref (hw_ad b0 26 0), .int x, .int y, .int w] I J P N o (some (.long (ps_debt P N x y w).1)) I J (ps_debt P N x y w).2.1 (ps_debt P N x y w).2.2 o := by
  have hnb := h.1.2
  have hno := h.2.1.2
  have hnc := h.2.2.1.2
  have hbc := h.1.1
  have hoc := h.2.1.1
  have hcc := h.2.2.1.1
  refine hw_Mof (by decide) [(0, .ref _), (1, .int _), (2, .int _), (3, .int _)] rfl (Nat.le_of_ble_eq_true rfl) ?_
  intro p e s m args below meth c C hr hlk hnm
  refine hq_aload_n (q := 0) C dX6_debt_0 rfl rfl ?_
  refine hq_aload_n (q := 0) C dX6_debt_1 rfl rfl ?_
  refine hq_iload_n (q := 1) C dX6_debt_2 rfl rfl ?_
  refine hq_iload_n (q := 2) C dX6_debt_3 rfl rfl ?_
  refine hq_cVr (As := [.int _, .int _]) (rm := rX6_areBrokers) (f := 26) (Nc := 1) C (m_X6_areBrokers) wv_X6_areBrokers ml_X6_127 rfl rfl rfl Nat.one_pos rfl rfl rfl rfl ⟨Nat.le_of_ble_eq_true rfl, Nat.le_of_ble_eq_true rfl⟩ (Nat.le_of_ble_eq_true rfl) ⟨Nat.le_of_ble_eq_true rfl, Nat.le_of_ble_eq_true rfl⟩ dX6_debt_4 ?_
  refine hq_if_eq (tgt := 14) C dX6_debt_7 (by decide) (fun c_7 => ?_) (fun c_7 => ?_)
  · refine hq_iconst (y := 1) C dX6_debt_14 (by decide) ?_
    refine hq_cVr (As := [.int _]) (rm := rX6_goesWell) (f := 26) (Nc := 1) C (m_X6_goesWell) wv_X6_goesWell ml_X6_124 rfl rfl rfl Nat.one_pos rfl rfl rfl rfl ⟨Nat.le_of_ble_eq_true rfl, Nat.le_of_ble_eq_true rfl⟩ (Nat.le_of_ble_eq_true rfl) ⟨Nat.le_of_ble_eq_true rfl, Nat.le_of_ble_eq_true rfl⟩ dX6_debt_15 ?_
    refine hq_if_ne (tgt := 23) C dX6_debt_18 (by decide) (fun c_18 => absurd c_18 (by decide)) (fun _ => ?_)
    refine hq_lconst (y := 0) C dX6_debt_21 rfl ?_
    exact hq_lret C hr hlk dX6_debt_22 (by rw [show (ps_debt P N x y w) = _ from (if_pos c_7)]; first | rfl | exact if_pos ⟨rfl, rfl⟩ | skip) (by rw [show (ps_debt P N x y w) = _ from (if_pos c_7)]; first | rfl | exact if_pos ⟨rfl, rfl⟩ | skip)
  · refine hq_iconst (y := 0) C dX6_debt_10 (by decide) ?_
    refine hq_goto (tgt := 15) C dX6_debt_11 (by decide) ?_
    refine hq_cVr (As := [.int _]) (rm := rX6_goesWell) (f := 26) (Nc := 1) C (m_X6_goesWell) wv_X6_goesWell ml_X6_124 rfl rfl rfl Nat.one_pos rfl rfl rfl rfl ⟨Nat.le_of_ble_eq_true rfl, Nat.le_of_ble_eq_true rfl⟩ (Nat.le_of_ble_eq_true rfl) ⟨Nat.le_of_ble_eq_true rfl, Nat.le_of_ble_eq_true rfl⟩ dX6_debt_15 ?_
    refine hq_if_ne (tgt := 23) C dX6_debt_18 (by decide) (fun _ => ?_) (fun c_18 => absurd c_18 (by decide))
    obtain ⟨⟨hx, hxb⟩, hy, hyb⟩ := br2_n hbc (by omega) c_7
    refine hq_iload_n (q := 3) C dX6_debt_23 rfl rfl ?_
    refine hq_if_eq (tgt := 41) C dX6_debt_24 (by decide) (fun c_24 => ?_) (fun c_24 => ?_)
    · refine hq_aload_n (q := 0) C dX6_debt_41 rfl rfl ?_
      refine hq_getR (f := 26) (g := 35) (Nc := 1) (Ns := 38) C fr_X6_36 dX6_debt_42 rfl rfl rfl rfl rfl (by decide) Nat.one_pos ?_
      refine hq_bipush (y := 12) C dX6_debt_45 (by decide) ?_
      refine hq_iload_n (q := 1) C dX6_debt_47 rfl rfl ?_
      refine hq_imul C dX6_debt_48 ?_
      refine hq_iload_n (q := 2) C dX6_debt_49 rfl rfl ?_
      refine hq_iadd C dX6_debt_50 ?_
      refine hq_laldN0 (f := 35) (a := 12 * tn x + tn y) (g := 1) (Nc := 1) (Ns := 144) C dX6_debt_51 rfl rfl rfl rfl rfl rfl (ix12 hx hy) (by omega) Nat.one_pos ?_
      exact hq_lret C hr hlk dX6_debt_52 (by rw [show (ps_debt P N x y w) = _ from ((if_neg c_7).trans (if_pos c_24))]; first | rfl | exact if_pos ⟨rfl, rfl⟩ | skip) (by rw [show (ps_debt P N x y w) = _ from ((if_neg c_7).trans (if_pos c_24))]; first | rfl | exact if_pos ⟨rfl, rfl⟩ | skip)
    · refine hq_aload_n (q := 0) C dX6_debt_27 rfl rfl ?_
      refine hq_getR (f := 26) (g := 36) (Nc := 1) (Ns := 38) C fr_X6_39 dX6_debt_28 rfl rfl rfl rfl rfl (by decide) Nat.one_pos ?_
      refine hq_bipush (y := 12) C dX6_debt_31 (by decide) ?_
      refine hq_iload_n (q := 1) C dX6_debt_33 rfl rfl ?_
      refine hq_imul C dX6_debt_34 ?_
      refine hq_iload_n (q := 2) C dX6_debt_35 rfl rfl ?_
      refine hq_iadd C dX6_debt_36 ?_
      refine hq_laldN0 (f := 36) (a := 12 * tn x + tn y) (g := 2) (Nc := 1) (Ns := 144) C dX6_debt_37 rfl rfl rfl rfl rfl rfl (ix12 hx hy) (by omega) Nat.one_pos ?_
      refine hq_goto (tgt := 52) C dX6_debt_38 (by decide) ?_
      exact hq_lret C hr hlk dX6_debt_52 (by rw [show (ps_debt P N x y w) = _ from ((if_neg c_7).trans (if_neg c_24))]; first | rfl | exact if_pos ⟨rfl, rfl⟩ | skip) (by rw [show (ps_debt P N x y w) = _ from ((if_neg c_7).trans (if_neg c_24))]; first | rfl | exact if_pos ⟨rfl, rfl⟩ | skip)
def ps_agree (P : MI) (N : MJ) (x y : Int32) : Int32 × MI × MJ := if sx_br2 P x y = 0 then (0, uI P 40 0 1, N) else if ¬ lg_cmp (N 2 (12 * tn x + tn y)) (-N 2 (12 * tn y + tn x)) = 0 then (0, uI P 40 0 0, N) else (1, uI P 40 0 0, N)
set_option maxHeartbeats 4000000 in
set_option maxRecDepth 100000 in
theorem m_X6_agree {l : Launch} {D : va_G} {b0 : Nat} {I : MI} {J : MJ} {P : MI} {N : MJ} {o : Int64} {x y : Int32} {nb no nc : Nat} (h : pv_iv P nb no nc) : hM l yX6_agree cX6_agree 3 (some .boolean) rX6_agree D b0 [.ref (hw_ad b0 26 0), .int x, .int y] I J P N o (some (.int (ps_agree P N x y).1)) I J (ps_agree P N x y).2.1 (ps_agree P N x y).2.2 o := by
  have hnb := h.1.2
  have hno := h.2.1.2
  have hnc := h.2.2.1.2
  have hbc := h.1.1
  have hoc := h.2.1.1
  have hcc := h.2.2.1.1
  refine hw_Mof (by decide) [(0, .ref _), (1, .int _), (2, .int _)] rfl (Nat.le_of_ble_eq_true rfl) ?_
  intro p e s m args below meth c C hr hlk hnm
  refine hq_aload_n (q := 0) C dX6_agree_0 rfl rfl ?_
  refine hq_aload_n (q := 0) C dX6_agree_1 rfl rfl ?_
  refine hq_iload_n (q := 1) C dX6_agree_2 rfl rfl ?_
  refine hq_iload_n (q := 2) C dX6_agree_3 rfl rfl ?_
  refine hq_cVr (As := [.int _, .int _]) (rm := rX6_areBrokers) (f := 26) (Nc := 1) C (m_X6_areBrokers) wv_X6_areBrokers ml_X6_127 rfl rfl rfl Nat.one_pos rfl rfl rfl rfl ⟨Nat.le_of_ble_eq_true rfl, Nat.le_of_ble_eq_true rfl⟩ (Nat.le_of_ble_eq_true rfl) ⟨Nat.le_of_ble_eq_true rfl, Nat.le_of_ble_eq_true rfl⟩ dX6_agree_4 ?_
  refine hq_if_eq (tgt := 14) C dX6_agree_7 (by decide) (fun c_7 => ?_) (fun c_7 => ?_)
  · refine hq_iconst (y := 1) C dX6_agree_14 (by decide) ?_
    refine hq_cVr (As := [.int _]) (rm := rX6_goesWell) (f := 26) (Nc := 1) C (m_X6_goesWell) wv_X6_goesWell ml_X6_124 rfl rfl rfl Nat.one_pos rfl rfl rfl rfl ⟨Nat.le_of_ble_eq_true rfl, Nat.le_of_ble_eq_true rfl⟩ (Nat.le_of_ble_eq_true rfl) ⟨Nat.le_of_ble_eq_true rfl, Nat.le_of_ble_eq_true rfl⟩ dX6_agree_15 ?_
    refine hq_if_eq (tgt := 52) C dX6_agree_18 (by decide) (fun _ => ?_) (fun c_18 => absurd c_18 (by decide))
    refine hq_iconst (y := 0) C dX6_agree_52 (by decide) ?_
    exact hq_zret C hr hlk dX6_agree_53 (by decide) (by rw [show (ps_agree P N x y) = _ from (if_pos c_7)]; first | rfl | exact if_pos ⟨rfl, rfl⟩ | skip) (by rw [show (ps_agree P N x y) = _ from (if_pos c_7)]; first | rfl | exact if_pos ⟨rfl, rfl⟩ | skip)
  · refine hq_iconst (y := 0) C dX6_agree_10 (by decide) ?_
    refine hq_goto (tgt := 15) C dX6_agree_11 (by decide) ?_
    refine hq_cVr (As := [.int _]) (rm := rX6_goesWell) (f := 26) (Nc := 1) C (m_X6_goesWell) wv_X6_goesWell ml_X6_124 rfl rfl rfl Nat.one_pos rfl rfl rfl rfl ⟨Nat.le_of_ble_eq_true rfl, Nat.le_of_ble_eq_true rfl⟩ (Nat.le_of_ble_eq_true rfl) ⟨Nat.le_of_ble_eq_true rfl, Nat.le_of_ble_eq_true rfl⟩ dX6_agree_15 ?_
    refine hq_if_eq (tgt := 52) C dX6_agree_18 (by decide) (fun c_18 => absurd c_18 (by decide)) (fun _ => ?_)
    obtain ⟨⟨hx, hxb⟩, hy, hyb⟩ := br2_n hbc (by omega) c_7
    refine hq_aload_n (q := 0) C dX6_agree_21 rfl rfl ?_
    refine hq_getR (f := 26) (g := 36) (Nc := 1) (Ns := 38) C fr_X6_39 dX6_agree_22 rfl rfl rfl rfl rfl (by decide) Nat.one_pos ?_
    refine hq_bipush (y := 12) C dX6_agree_25 (by decide) ?_
    refine hq_iload_n (q := 1) C dX6_agree_27 rfl rfl ?_
    refine hq_imul C dX6_agree_28 ?_
    refine hq_iload_n (q := 2) C dX6_agree_29 rfl rfl ?_
    refine hq_iadd C dX6_agree_30 ?_
    refine hq_laldN0 (f := 36) (a := 12 * tn x + tn y) (g := 2) (Nc := 1) (Ns := 144) C dX6_agree_31 rfl rfl rfl rfl rfl rfl (ix12 hx hy) (by omega) Nat.one_pos ?_
    refine hq_aload_n (q := 0) C dX6_agree_32 rfl rfl ?_
    refine hq_getR (f := 26) (g := 36) (Nc := 1) (Ns := 38) C fr_X6_39 dX6_agree_33 rfl rfl rfl rfl rfl (by decide) Nat.one_pos ?_
    refine hq_bipush (y := 12) C dX6_agree_36 (by decide) ?_
    refine hq_iload_n (q := 2) C dX6_agree_38 rfl rfl ?_
    refine hq_imul C dX6_agree_39 ?_
    refine hq_iload_n (q := 1) C dX6_agree_40 rfl rfl ?_
    refine hq_iadd C dX6_agree_41 ?_
    refine hq_laldN0 (f := 36) (a := 12 * tn y + tn x) (g := 2) (Nc := 1) (Ns := 144) C dX6_agree_42 rfl rfl rfl rfl rfl rfl (ix12 hy hx) (by omega) Nat.one_pos ?_
    refine hq_lneg C dX6_agree_43 ?_
    refine hq_lcmp C dX6_agree_44 ?_
    refine hq_if_ne (tgt := 52) C dX6_agree_45 (by decide) (fun c_45 => ?_) (fun c_45 => ?_)
    · refine hq_iconst (y := 0) C dX6_agree_52 (by decide) ?_
      exact hq_zret C hr hlk dX6_agree_53 (by decide) (by rw [show (ps_agree P N x y) = _ from ((if_neg c_7).trans (if_pos c_45))]; first | rfl | exact if_pos ⟨rfl, rfl⟩ | skip) (by rw [show (ps_agree P N x y) = _ from ((if_neg c_7).trans (if_pos c_45))]; first | rfl | exact if_pos ⟨rfl, rfl⟩ | skip)
    · refine hq_iconst (y := 1) C dX6_agree_48 (by decide) ?_
      refine hq_goto (tgt := 53) C dX6_agree_49 (by decide) ?_
      exact hq_zret C hr hlk dX6_agree_53 (by decide) (by rw [show (ps_agree P N x y) = _ from ((if_neg c_7).trans (if_neg (fun z9 => z9 c_45)))]; first | rfl | exact if_pos ⟨rfl, rfl⟩ | skip) (by rw [show (ps_agree P N x y) = _ from ((if_neg c_7).trans (if_neg (fun z9 => z9 c_45)))]; first | rfl | exact if_pos ⟨rfl, rfl⟩ | skip)
def ps_wayOf (P : MI) (N : MJ) (x y : Int32) : Int32 × MI × MJ := if sx_in x 0 (P 1 0 - 1) = 0 then (0, uI P 40 0 1, N) else if y < 0 then (0, uI P 40 0 1, N) else if P 19 (tn x) ≤ y then (-1, uI P 40 0 0, N) else (P 20 (12 * tn x + tn y), uI P 40 0 0, N)
set_option maxHeartbeats 4000000 in
set_option maxRecDepth 100000 in
theorem m_X6_wayOf {l : Launch} {D : va_G} {b0 : Nat} {I : MI} {J : MJ} {P : MI} {N : MJ} {o : Int64} {x y : Int32} {nb no nc : Nat} (h : pv_iv P nb no nc) : hM l yX6_wayOf cX6_wayOf 3 (some .int) rX6_wayOf D b0 [.ref (hw_ad b0 26 0), .int x, .int y] I J P N o (some (.int (ps_wayOf P N x y).1)) I J (ps_wayOf P N x y).2.1 (ps_wayOf P N x y).2.2 o := by
  have hnb := h.1.2
  have hno := h.2.1.2
  have hnc := h.2.2.1.2
  have hbc := h.1.1
  have hoc := h.2.1.1
  have hcc := h.2.2.1.1
  refine hw_Mof (by decide) [(0, .ref _), (1, .int _), (2, .int _)] rfl (Nat.le_of_ble_eq_true rfl) ?_
  intro p e s m args below meth c C hr hlk hnm
  refine hq_aload_n (q := 0) C dX6_wayOf_0 rfl rfl ?_
  refine hq_aload_n (q := 0) C dX6_wayOf_1 rfl rfl ?_
  refine hq_iload_n (q := 1) C dX6_wayOf_2 rfl rfl ?_
  refine hq_cVr (As := [.int _]) (rm := rX6_isOrder) (f := 26) (Nc := 1) C (m_X6_isOrder) wv_X6_isOrder ml_X6_197 rfl rfl rfl Nat.one_pos rfl rfl rfl rfl ⟨Nat.le_of_ble_eq_true rfl, Nat.le_of_ble_eq_true rfl⟩ (Nat.le_of_ble_eq_true rfl) ⟨Nat.le_of_ble_eq_true rfl, Nat.le_of_ble_eq_true rfl⟩ dX6_wayOf_3 ?_
  refine hq_if_eq (tgt := 17) C dX6_wayOf_6 (by decide) (fun c_6 => ?_) (fun c_6 => ?_)
  · refine hq_iconst (y := 1) C dX6_wayOf_17 (by decide) ?_
    refine hq_cVr (As := [.int _]) (rm := rX6_goesWell) (f := 26) (Nc := 1) C (m_X6_goesWell) wv_X6_goesWell ml_X6_124 rfl rfl rfl Nat.one_pos rfl rfl rfl rfl ⟨Nat.le_of_ble_eq_true rfl, Nat.le_of_ble_eq_true rfl⟩ (Nat.le_of_ble_eq_true rfl) ⟨Nat.le_of_ble_eq_true rfl, Nat.le_of_ble_eq_true rfl⟩ dX6_wayOf_18 ?_
    refine hq_if_ne (tgt := 26) C dX6_wayOf_21 (by decide) (fun c_21 => absurd c_21 (by decide)) (fun _ => ?_)
    refine hq_iconst (y := 0) C dX6_wayOf_24 (by decide) ?_
    exact hq_iret C hr hlk dX6_wayOf_25 (by rw [show (ps_wayOf P N x y) = _ from (if_pos c_6)]; first | rfl | exact if_pos ⟨rfl, rfl⟩ | skip) (by rw [show (ps_wayOf P N x y) = _ from (if_pos c_6)]; first | rfl | exact if_pos ⟨rfl, rfl⟩ | skip)
  · refine hq_iload_n (q := 2) C dX6_wayOf_9 rfl rfl ?_
    refine hq_if_lt (tgt := 17) C dX6_wayOf_10 (by decide) (fun c_10 => ?_) (fun c_10 => ?_)
    · refine hq_iconst (y := 1) C dX6_wayOf_17 (by decide) ?_
      refine hq_cVr (As := [.int _]) (rm := rX6_goesWell) (f := 26) (Nc := 1) C (m_X6_goesWell) wv_X6_goesWell ml_X6_124 rfl rfl rfl Nat.one_pos rfl rfl rfl rfl ⟨Nat.le_of_ble_eq_true rfl, Nat.le_of_ble_eq_true rfl⟩ (Nat.le_of_ble_eq_true rfl) ⟨Nat.le_of_ble_eq_true rfl, Nat.le_of_ble_eq_true rfl⟩ dX6_wayOf_18 ?_
      refine hq_if_ne (tgt := 26) C dX6_wayOf_21 (by decide) (fun c_21 => absurd c_21 (by decide)) (fun _ => ?_)
      refine hq_iconst (y := 0) C dX6_wayOf_24 (by decide) ?_
      exact hq_iret C hr hlk dX6_wayOf_25 (by rw [show (ps_wayOf P N x y) = _ from ((if_neg c_6).trans (if_pos c_10))]; first | rfl | exact if_pos ⟨rfl, rfl⟩ | skip) (by rw [show (ps_wayOf P N x y) = _ from ((if_neg c_6).trans (if_pos c_10))]; first | rfl | exact if_pos ⟨rfl, rfl⟩ | skip)
    · refine hq_iconst (y := 0) C dX6_wayOf_13 (by decide) ?_
      refine hq_goto (tgt := 18) C dX6_wayOf_14 (by decide) ?_
      refine hq_cVr (As := [.int _]) (rm := rX6_goesWell) (f := 26) (Nc := 1) C (m_X6_goesWell) wv_X6_goesWell ml_X6_124 rfl rfl rfl Nat.one_pos rfl rfl rfl rfl ⟨Nat.le_of_ble_eq_true rfl, Nat.le_of_ble_eq_true rfl⟩ (Nat.le_of_ble_eq_true rfl) ⟨Nat.le_of_ble_eq_true rfl, Nat.le_of_ble_eq_true rfl⟩ dX6_wayOf_18 ?_
      refine hq_if_ne (tgt := 26) C dX6_wayOf_21 (by decide) (fun _ => ?_) (fun c_21 => absurd c_21 (by decide))
      obtain ⟨hx, hxb⟩ := in_n hoc (by omega) c_6
      have hwy := (h.2.2.2.1 (tn x) hxb).1
      have hn12 := hwy.1
      obtain ⟨j9, j1, j2⟩ := nI_of c_10
      have hy : y = nI (tn y) := by rw [j2]; exact congrArg nI (nI_clamp j1).symm
      refine hq_iload_n (q := 2) C dX6_wayOf_26 rfl rfl ?_
      refine hq_aload_n (q := 0) C dX6_wayOf_27 rfl rfl ?_
      refine hq_getR (f := 26) (g := 44) (Nc := 1) (Ns := 38) C fr_X6_63 dX6_wayOf_28 rfl rfl rfl rfl rfl (by decide) Nat.one_pos ?_
      refine hq_iload_n (q := 1) C dX6_wayOf_31 rfl rfl ?_
      refine hq_ialdP0 (f := 44) (a := tn x) (g := 19) (Nc := 1) (Ns := 40) C dX6_wayOf_32 rfl rfl rfl rfl rfl rfl hx (by omega) Nat.one_pos ?_
      refine hq_icmp_ge (tgt := 50) C dX6_wayOf_33 (by decide) (fun c_33 => ?_) (fun c_33 => ?_)
      · refine hq_iconst (y := -1) C dX6_wayOf_50 (by decide) ?_
        exact hq_iret C hr hlk dX6_wayOf_51 (by rw [show (ps_wayOf P N x y) = _ from (((if_neg c_6).trans (if_neg c_10)).trans (if_pos c_33))]; first | rfl | exact if_pos ⟨rfl, rfl⟩ | skip) (by rw [show (ps_wayOf P N x y) = _ from (((if_neg c_6).trans (if_neg c_10)).trans (if_pos c_33))]; first | rfl | exact if_pos ⟨rfl, rfl⟩ | skip)
      · have hy9 : tn y < 12 := by
          rcases Nat.lt_or_ge (tn y) (hw_ln P (tn x) + 1) with z9 | z9
          · omega
          · exact absurd (show P 19 (tn x) ≤ y from by rw [hwy.2.1, hy]; exact nI_le z9 (by rw [j2, show tn (nI j9) = j9 from nI_clamp j1]; exact j1)) c_33
        refine hq_aload_n (q := 0) C dX6_wayOf_36 rfl rfl ?_
        refine hq_getR (f := 26) (g := 45) (Nc := 1) (Ns := 38) C fr_X6_66 dX6_wayOf_37 rfl rfl rfl rfl rfl (by decide) Nat.one_pos ?_
        refine hq_bipush (y := 12) C dX6_wayOf_40 (by decide) ?_
        refine hq_iload_n (q := 1) C dX6_wayOf_42 rfl rfl ?_
        refine hq_imul C dX6_wayOf_43 ?_
        refine hq_iload_n (q := 2) C dX6_wayOf_44 rfl rfl ?_
        refine hq_iadd C dX6_wayOf_45 ?_
        refine hq_ialdP0 (f := 45) (a := 12 * tn x + tn y) (g := 20) (Nc := 1) (Ns := 480) C dX6_wayOf_46 rfl rfl rfl rfl rfl rfl (ix12 hx hy) (by omega) Nat.one_pos ?_
        refine hq_goto (tgt := 51) C dX6_wayOf_47 (by decide) ?_
        exact hq_iret C hr hlk dX6_wayOf_51 (by rw [show (ps_wayOf P N x y) = _ from (((if_neg c_6).trans (if_neg c_10)).trans (if_neg c_33))]; first | rfl | exact if_pos ⟨rfl, rfl⟩ | skip) (by rw [show (ps_wayOf P N x y) = _ from (((if_neg c_6).trans (if_neg c_10)).trans (if_neg c_33))]; first | rfl | exact if_pos ⟨rfl, rfl⟩ | skip)
theorem in_3 {x : Int32} (h : ¬ sx_in x 0 3 = 0) : x = 0 ∨ x = 1 ∨ x = 2 ∨ x = 3 := by
  obtain ⟨h2, h1⟩ := in_c (n := 3) (by decide) (by omega) h
  rcases (show tn x = 0 ∨ tn x = 1 ∨ tn x = 2 ∨ tn x = 3 by omega) with q | q | q | q <;> rw [q] at h2 <;> rw [h2] <;> decide
theorem in_5 {x : Int32} (h : ¬ sx_in x 0 5 = 0) : x = 0 ∨ x = 1 ∨ x = 2 ∨ x = 3 ∨ x = 4 ∨ x = 5 := by
  obtain ⟨h2, h1⟩ := in_c (n := 5) (by decide) (by omega) h
  rcases (show tn x = 0 ∨ tn x = 1 ∨ tn x = 2 ∨ tn x = 3 ∨ tn x = 4 ∨ tn x = 5 by omega) with q | q | q | q | q | q <;> rw [q] at h2 <;> rw [h2] <;> decide
theorem in_7 {x : Int32} (h : ¬ sx_in x 0 7 = 0) : x = 0 ∨ x = 1 ∨ x = 2 ∨ x = 3 ∨ x = 4 ∨ x = 5 ∨ x = 6 ∨ x = 7 := by
  obtain ⟨h2, h1⟩ := in_c (n := 7) (by decide) (by omega) h
  rcases (show tn x = 0 ∨ tn x = 1 ∨ tn x = 2 ∨ tn x = 3 ∨ tn x = 4 ∨ tn x = 5 ∨ tn x = 6 ∨ tn x = 7 by omega) with q | q | q | q | q | q | q | q <;> rw [q] at h2 <;> rw [h2] <;> decide
def pr_orderOf (P : MI) (x y : Int32) : Int32 := if y = 0 then P 16 (tn x) else if y = 1 then P 12 (tn x) else if y = 2 then P 14 (tn x) else if y = 3 then P 17 (tn x) else if y = 4 then P 18 (tn x) else P 15 (tn x)
def ps_orderOf (P : MI) (N : MJ) (x y : Int32) : Int32 × MI × MJ := if sx_in x 0 (P 1 0 - 1) = 0 then (0, uI P 40 0 1, N) else if sx_in y 0 5 = 0 then (0, uI P 40 0 2, N) else (pr_orderOf P x y, uI P 40 0 0, N)
set_option maxHeartbeats 4000000 in
set_option maxRecDepth 100000 in
theorem m_X6_orderOf {l : Launch} {D : va_G} {b0 : Nat} {I : MI} {J : MJ} {P : MI} {N : MJ} {o : Int64} {x y : Int32} {nb no nc : Nat} (h : pv_iv P nb no nc) : hM l yX6_orderOf cX6_orderOf 4 (some .int) rX6_orderOf D b0 [.ref (hw_ad b0 26 0), .int x, .int y] I J P N o (some (.int (ps_orderOf P N x y).1)) I J (ps_orderOf P N x y).2.1 (ps_orderOf P N x y).2.2 o := by
  have hnb := h.1.2
  have hno := h.2.1.2
  have hnc := h.2.2.1.2
  have hbc := h.1.1
  have hoc := h.2.1.1
  have hcc := h.2.2.1.1
  refine hw_Mof (by decide) [(0, .ref _), (1, .int _), (2, .int _)] rfl (Nat.le_of_ble_eq_true rfl) ?_
  intro p e s m args below meth c C hr hlk hnm
  refine hq_aload_n (q := 0) C dX6_orderOf_0 rfl rfl ?_
  refine hq_iload_n (q := 1) C dX6_orderOf_1 rfl rfl ?_
  refine hq_cVr (As := [.int _]) (rm := rX6_isOrder) (f := 26) (Nc := 1) C (m_X6_isOrder) wv_X6_isOrder ml_X6_197 rfl rfl rfl Nat.one_pos rfl rfl rfl rfl ⟨Nat.le_of_ble_eq_true rfl, Nat.le_of_ble_eq_true rfl⟩ (Nat.le_of_ble_eq_true rfl) ⟨Nat.le_of_ble_eq_true rfl, Nat.le_of_ble_eq_true rfl⟩ dX6_orderOf_2 ?_
  refine hq_istore_n (L' := [(3, .int _), (0, .ref _), (1, .int _), (2, .int _)]) C dX6_orderOf_5 rfl (by decide) rfl ?_
  refine hq_aload_n (q := 1) C dX6_orderOf_6 rfl rfl ?_
  refine hq_iload_n (q := 0) C dX6_orderOf_7 rfl rfl ?_
  refine hq_if_ne (tgt := 15) C dX6_orderOf_8 (by decide) (fun c_8 => ?_) (fun c_8 => ?_)
  · refine hq_iload_n (q := 3) C dX6_orderOf_15 rfl rfl ?_
    refine hq_iconst (y := 0) C dX6_orderOf_16 (by decide) ?_
    refine hq_iconst (y := 5) C dX6_orderOf_17 (by decide) ?_
    refine hq_cSr (As := [.int _, .int _, .int _]) (rm := rX6_in) (Cn := "") C (m_X6_in) ws_X6_in ml_X6_116 rfl rfl rfl rfl ⟨Nat.le_of_ble_eq_true rfl, Nat.le_of_ble_eq_true rfl⟩ (Nat.le_of_ble_eq_true rfl) ⟨Nat.le_of_ble_eq_true rfl, Nat.le_of_ble_eq_true rfl⟩ dX6_orderOf_18 ?_
    refine hq_if_eq (tgt := 28) C dX6_orderOf_21 (by decide) (fun c_21 => ?_) (fun c_21 => ?_)
    · refine hq_iconst (y := 2) C dX6_orderOf_28 (by decide) ?_
      refine hq_cVr (As := [.int _]) (rm := rX6_goesWell) (f := 26) (Nc := 1) C (m_X6_goesWell) wv_X6_goesWell ml_X6_124 rfl rfl rfl Nat.one_pos rfl rfl rfl rfl ⟨Nat.le_of_ble_eq_true rfl, Nat.le_of_ble_eq_true rfl⟩ (Nat.le_of_ble_eq_true rfl) ⟨Nat.le_of_ble_eq_true rfl, Nat.le_of_ble_eq_true rfl⟩ dX6_orderOf_29 ?_
      refine hq_if_ne (tgt := 37) C dX6_orderOf_32 (by decide) (fun c_32 => absurd c_32 (by decide)) (fun _ => ?_)
      refine hq_iconst (y := 0) C dX6_orderOf_35 (by decide) ?_
      exact hq_iret C hr hlk dX6_orderOf_36 (by rw [show (ps_orderOf P N x y) = _ from ((if_neg c_8).trans (if_pos c_21))]; first | rfl | exact if_pos ⟨rfl, rfl⟩ | skip) (by rw [show (ps_orderOf P N x y) = _ from ((if_neg c_8).trans (if_pos c_21))]; first | rfl | exact if_pos ⟨rfl, rfl⟩ | skip)
    · refine hq_iconst (y := 0) C dX6_orderOf_24 (by decide) ?_
      refine hq_goto (tgt := 29) C dX6_orderOf_25 (by decide) ?_
      refine hq_cVr (As := [.int _]) (rm := rX6_goesWell) (f := 26) (Nc := 1) C (m_X6_goesWell) wv_X6_goesWell ml_X6_124 rfl rfl rfl Nat.one_pos rfl rfl rfl rfl ⟨Nat.le_of_ble_eq_true rfl, Nat.le_of_ble_eq_true rfl⟩ (Nat.le_of_ble_eq_true rfl) ⟨Nat.le_of_ble_eq_true rfl, Nat.le_of_ble_eq_true rfl⟩ dX6_orderOf_29 ?_
      refine hq_if_ne (tgt := 37) C dX6_orderOf_32 (by decide) (fun _ => ?_) (fun c_32 => absurd c_32 (by decide))
      obtain ⟨hx, hxb⟩ := in_n hoc (by omega) c_8
      refine hq_iload_n (q := 3) C dX6_orderOf_37 rfl rfl ?_
      rcases in_5 c_21 with q | q | q | q | q | q
      all_goals subst q
      · refine hq_tsIn (tgt := 72) C dX6_orderOf_38 (by decide) (by decide) rfl (by decide) ?_
        refine hq_aload_n (q := 1) C dX6_orderOf_72 rfl rfl ?_
        refine hq_getR (f := 26) (g := 37) (Nc := 1) (Ns := 38) C fr_X6_42 dX6_orderOf_73 rfl rfl rfl rfl rfl (by decide) Nat.one_pos ?_
        refine hq_iload_n (q := 2) C dX6_orderOf_76 rfl rfl ?_
        refine hq_ialdP0 (f := 37) (a := tn x) (g := 16) (Nc := 1) (Ns := 40) C dX6_orderOf_77 rfl rfl rfl rfl rfl rfl hx (by omega) Nat.one_pos ?_
        exact hq_iret C hr hlk dX6_orderOf_78 (by rw [show ps_orderOf P N x _ = _ from ((if_neg c_8).trans (if_neg c_21))]; rfl) (by rw [show ps_orderOf P N x _ = _ from ((if_neg c_8).trans (if_neg c_21))])
      · refine hq_tsIn (tgt := 79) C dX6_orderOf_38 (by decide) (by decide) rfl (by decide) ?_
        refine hq_aload_n (q := 1) C dX6_orderOf_79 rfl rfl ?_
        refine hq_getR (f := 26) (g := 38) (Nc := 1) (Ns := 38) C fr_X6_45 dX6_orderOf_80 rfl rfl rfl rfl rfl (by decide) Nat.one_pos ?_
        refine hq_iload_n (q := 2) C dX6_orderOf_83 rfl rfl ?_
        refine hq_ialdP0 (f := 38) (a := tn x) (g := 12) (Nc := 1) (Ns := 40) C dX6_orderOf_84 rfl rfl rfl rfl rfl rfl hx (by omega) Nat.one_pos ?_
        exact hq_iret C hr hlk dX6_orderOf_85 (by rw [show ps_orderOf P N x _ = _ from ((if_neg c_8).trans (if_neg c_21))]; rfl) (by rw [show ps_orderOf P N x _ = _ from ((if_neg c_8).trans (if_neg c_21))])
      · refine hq_tsIn (tgt := 86) C dX6_orderOf_38 (by decide) (by decide) rfl (by decide) ?_
        refine hq_aload_n (q := 1) C dX6_orderOf_86 rfl rfl ?_
        refine hq_getR (f := 26) (g := 39) (Nc := 1) (Ns := 38) C fr_X6_48 dX6_orderOf_87 rfl rfl rfl rfl rfl (by decide) Nat.one_pos ?_
        refine hq_iload_n (q := 2) C dX6_orderOf_90 rfl rfl ?_
        refine hq_ialdP0 (f := 39) (a := tn x) (g := 14) (Nc := 1) (Ns := 40) C dX6_orderOf_91 rfl rfl rfl rfl rfl rfl hx (by omega) Nat.one_pos ?_
        exact hq_iret C hr hlk dX6_orderOf_92 (by rw [show ps_orderOf P N x _ = _ from ((if_neg c_8).trans (if_neg c_21))]; rfl) (by rw [show ps_orderOf P N x _ = _ from ((if_neg c_8).trans (if_neg c_21))])
      · refine hq_tsIn (tgt := 93) C dX6_orderOf_38 (by decide) (by decide) rfl (by decide) ?_
        refine hq_aload_n (q := 1) C dX6_orderOf_93 rfl rfl ?_
        refine hq_getR (f := 26) (g := 43) (Nc := 1) (Ns := 38) C fr_X6_60 dX6_orderOf_94 rfl rfl rfl rfl rfl (by decide) Nat.one_pos ?_
        refine hq_iload_n (q := 2) C dX6_orderOf_97 rfl rfl ?_
        refine hq_ialdP0 (f := 43) (a := tn x) (g := 17) (Nc := 1) (Ns := 40) C dX6_orderOf_98 rfl rfl rfl rfl rfl rfl hx (by omega) Nat.one_pos ?_
        exact hq_iret C hr hlk dX6_orderOf_99 (by rw [show ps_orderOf P N x _ = _ from ((if_neg c_8).trans (if_neg c_21))]; rfl) (by rw [show ps_orderOf P N x _ = _ from ((if_neg c_8).trans (if_neg c_21))])
      · refine hq_tsIn (tgt := 100) C dX6_orderOf_38 (by decide) (by decide) rfl (by decide) ?_
        refine hq_aload_n (q := 1) C dX6_orderOf_100 rfl rfl ?_
        refine hq_getR (f := 26) (g := 41) (Nc := 1) (Ns := 38) C fr_X6_54 dX6_orderOf_101 rfl rfl rfl rfl rfl (by decide) Nat.one_pos ?_
        refine hq_iload_n (q := 2) C dX6_orderOf_104 rfl rfl ?_
        refine hq_ialdP0 (f := 41) (a := tn x) (g := 18) (Nc := 1) (Ns := 40) C dX6_orderOf_105 rfl rfl rfl rfl rfl rfl hx (by omega) Nat.one_pos ?_
        exact hq_iret C hr hlk dX6_orderOf_106 (by rw [show ps_orderOf P N x _ = _ from ((if_neg c_8).trans (if_neg c_21))]; rfl) (by rw [show ps_orderOf P N x _ = _ from ((if_neg c_8).trans (if_neg c_21))])
      · refine hq_tsOut (tgt := 107) C dX6_orderOf_38 (by decide) (by decide) ?_
        refine hq_aload_n (q := 1) C dX6_orderOf_107 rfl rfl ?_
        refine hq_getR (f := 26) (g := 42) (Nc := 1) (Ns := 38) C fr_X6_57 dX6_orderOf_108 rfl rfl rfl rfl rfl (by decide) Nat.one_pos ?_
        refine hq_iload_n (q := 2) C dX6_orderOf_111 rfl rfl ?_
        refine hq_ialdP0 (f := 42) (a := tn x) (g := 15) (Nc := 1) (Ns := 40) C dX6_orderOf_112 rfl rfl rfl rfl rfl rfl hx (by omega) Nat.one_pos ?_
        exact hq_iret C hr hlk dX6_orderOf_113 (by rw [show ps_orderOf P N x _ = _ from ((if_neg c_8).trans (if_neg c_21))]; rfl) (by rw [show ps_orderOf P N x _ = _ from ((if_neg c_8).trans (if_neg c_21))])
  · refine hq_iconst (y := 1) C dX6_orderOf_11 (by decide) ?_
    refine hq_goto (tgt := 29) C dX6_orderOf_12 (by decide) ?_
    refine hq_cVr (As := [.int _]) (rm := rX6_goesWell) (f := 26) (Nc := 1) C (m_X6_goesWell) wv_X6_goesWell ml_X6_124 rfl rfl rfl Nat.one_pos rfl rfl rfl rfl ⟨Nat.le_of_ble_eq_true rfl, Nat.le_of_ble_eq_true rfl⟩ (Nat.le_of_ble_eq_true rfl) ⟨Nat.le_of_ble_eq_true rfl, Nat.le_of_ble_eq_true rfl⟩ dX6_orderOf_29 ?_
    refine hq_if_ne (tgt := 37) C dX6_orderOf_32 (by decide) (fun c_32 => absurd c_32 (by decide)) (fun _ => ?_)
    refine hq_iconst (y := 0) C dX6_orderOf_35 (by decide) ?_
    exact hq_iret C hr hlk dX6_orderOf_36 (by rw [show (ps_orderOf P N x y) = _ from (if_pos c_8)]; first | rfl | exact if_pos ⟨rfl, rfl⟩ | skip) (by rw [show (ps_orderOf P N x y) = _ from (if_pos c_8)]; first | rfl | exact if_pos ⟨rfl, rfl⟩ | skip)
def ps_brokerOf (P : MI) (N : MJ) (x y : Int32) (nb : Nat) : Int64 × MI × MJ := if sx_in x 0 (P 0 0 - 1) = 0 then (0, uI P 40 0 1, N) else if sx_in y 0 3 = 0 then (0, uI P 40 0 2, N) else if ¬ y = 0 then (if ¬ y = 1 then (if ¬ y = 2 then (lp (sf_wo N (tn x)) nb 0 (N 0 (tn x)), uI P 40 0 0, N) else ((P 5 (tn x)).toInt64, uI P 40 0 0, N)) else (N 0 (tn x), uI P 40 0 0, N)) else ((P 7 (tn x)).toInt64, uI P 40 0 0, N)
set_option maxHeartbeats 4000000 in
set_option maxRecDepth 100000 in
theorem m_X6_brokerOf {l : Launch} {D : va_G} {b0 : Nat} {I : MI} {J : MJ} {P : MI} {N : MJ} {o : Int64} {x y : Int32} {nb no nc : Nat} (h : pv_iv P nb no nc) : hM l yX6_brokerOf cX6_brokerOf 7 (some .long) rX6_brokerOf D b0 [.ref (hw_ad b0 26 0), .int x, .int y] I J P N o (some (.long (ps_brokerOf P N x y nb).1)) I J (ps_brokerOf P N x y nb).2.1 (ps_brokerOf P N x y nb).2.2 o := by
  have hbc := h.1.1
  have hnb := h.1.2
  refine hw_Mof (by decide) [(0, .ref _), (1, .int _), (2, .int _)] rfl (Nat.le_of_ble_eq_true rfl) ?_
  intro p e s m args below meth c C hr hlk hnm
  refine hq_aload_n (q := 0) C dX6_brokerOf_0 rfl rfl ?_
  refine hq_iload_n (q := 1) C dX6_brokerOf_1 rfl rfl ?_
  refine hq_cVr (As := [.int _]) (rm := rX6_isBroker) (f := 26) (Nc := 1) C (m_X6_isBroker) wv_X6_isBroker ml_X6_120 rfl rfl rfl Nat.one_pos rfl rfl rfl rfl ⟨Nat.le_of_ble_eq_true rfl, Nat.le_of_ble_eq_true rfl⟩ (Nat.le_of_ble_eq_true rfl) ⟨Nat.le_of_ble_eq_true rfl, Nat.le_of_ble_eq_true rfl⟩ dX6_brokerOf_2 ?_
  refine hq_istore_n (L' := [(3, .int _), (0, .ref _), (1, .int _), (2, .int _)]) C dX6_brokerOf_5 rfl (by decide) rfl ?_
  refine hq_aload_n (q := 1) C dX6_brokerOf_6 rfl rfl ?_
  refine hq_iload_n (q := 0) C dX6_brokerOf_7 rfl rfl ?_
  refine hq_if_ne (tgt := 15) C dX6_brokerOf_8 (by decide) (fun c_8 => ?_) (fun c_8 => ?_)
  · refine hq_iload_n (q := 3) C dX6_brokerOf_15 rfl rfl ?_
    refine hq_iconst (y := 0) C dX6_brokerOf_16 (by decide) ?_
    refine hq_iconst (y := 3) C dX6_brokerOf_17 (by decide) ?_
    refine hq_cSr (As := [.int _, .int _, .int _]) (rm := rX6_in) (Cn := "") C (m_X6_in) ws_X6_in ml_X6_116 rfl rfl rfl rfl ⟨Nat.le_of_ble_eq_true rfl, Nat.le_of_ble_eq_true rfl⟩ (Nat.le_of_ble_eq_true rfl) ⟨Nat.le_of_ble_eq_true rfl, Nat.le_of_ble_eq_true rfl⟩ dX6_brokerOf_18 ?_
    refine hq_if_eq (tgt := 28) C dX6_brokerOf_21 (by decide) (fun c_21 => ?_) (fun c_21 => ?_)
    · refine hq_iconst (y := 2) C dX6_brokerOf_28 (by decide) ?_
      refine hq_cVr (As := [.int _]) (rm := rX6_goesWell) (f := 26) (Nc := 1) C (m_X6_goesWell) wv_X6_goesWell ml_X6_124 rfl rfl rfl Nat.one_pos rfl rfl rfl rfl ⟨Nat.le_of_ble_eq_true rfl, Nat.le_of_ble_eq_true rfl⟩ (Nat.le_of_ble_eq_true rfl) ⟨Nat.le_of_ble_eq_true rfl, Nat.le_of_ble_eq_true rfl⟩ dX6_brokerOf_29 ?_
      refine hq_if_ne (tgt := 37) C dX6_brokerOf_32 (by decide) (fun c_32 => absurd c_32 (by decide)) (fun _ => ?_)
      refine hq_lconst (y := 0) C dX6_brokerOf_35 rfl ?_
      exact hq_lret C hr hlk dX6_brokerOf_36 (by rw [show (ps_brokerOf P N x y nb) = _ from ((if_neg c_8).trans (if_pos c_21))]; first | rfl | exact if_pos ⟨rfl, rfl⟩ | skip) (by rw [show (ps_brokerOf P N x y nb) = _ from ((if_neg c_8).trans (if_pos c_21))]; first | rfl | exact if_pos ⟨rfl, rfl⟩ | skip)
    · refine hq_iconst (y := 0) C dX6_brokerOf_24 (by decide) ?_
      refine hq_goto (tgt := 29) C dX6_brokerOf_25 (by decide) ?_
      refine hq_cVr (As := [.int _]) (rm := rX6_goesWell) (f := 26) (Nc := 1) C (m_X6_goesWell) wv_X6_goesWell ml_X6_124 rfl rfl rfl Nat.one_pos rfl rfl rfl rfl ⟨Nat.le_of_ble_eq_true rfl, Nat.le_of_ble_eq_true rfl⟩ (Nat.le_of_ble_eq_true rfl) ⟨Nat.le_of_ble_eq_true rfl, Nat.le_of_ble_eq_true rfl⟩ dX6_brokerOf_29 ?_
      refine hq_if_ne (tgt := 37) C dX6_brokerOf_32 (by decide) (fun _ => ?_) (fun c_32 => absurd c_32 (by decide))
      obtain ⟨hx, hxb⟩ := in_n hbc (by omega) c_8
      refine hq_aload_n (q := 1) C dX6_brokerOf_37 rfl rfl ?_
      refine hq_getR (f := 26) (g := 28) (Nc := 1) (Ns := 38) C fr_X6_13 dX6_brokerOf_38 rfl rfl rfl rfl rfl (by decide) Nat.one_pos ?_
      refine hq_iload_n (q := 2) C dX6_brokerOf_41 rfl rfl ?_
      refine hq_laldN0 (f := 28) (a := tn x) (g := 0) (Nc := 1) (Ns := 12) C dX6_brokerOf_42 rfl rfl rfl rfl rfl rfl hx (by omega) Nat.one_pos ?_
      refine hq_lstore (L' := [(4, .long _), (3, .int _), (0, .ref _), (1, .int _), (2, .int _)]) C dX6_brokerOf_43 (by decide) rfl ?_
      refine hq_iconst (y := 0) C dX6_brokerOf_45 (by decide) ?_
      refine hq_istore (L' := [(6, .int _), (4, .long _), (3, .int _), (0, .ref _), (1, .int _), (2, .int _)]) C dX6_brokerOf_46 (by decide) rfl ?_
      refine hq_perm [0, 1, 3, 4, 5] (L' := [(6, .int (nI 0)), (4, .long (N 0 (tn x))), (0, .ref (hw_ad b0 26 0)), (1, .int x), (2, .int y)]) rfl ?_
      refine lp_back (sf_wo N (tn x)) (fun (k9 : Nat) (σ : Int64) => hw_V p l e rX6_brokerOf s m args below meth c (MQ below (hw_Q D b0 false 271 (some (.long (ps_brokerOf P N x y nb).1)) (hw_vl b0 I J (ps_brokerOf P N x y nb).2.1 (ps_brokerOf P N x y nb).2.2 o)) args s 0 0 (fun q => b0 ≤ q)) D b0 7 false 0 0 271 48 [(6, .int (nI k9)), (4, .long σ), (0, .ref (hw_ad b0 26 0)), (1, .int x), (2, .int y)] [] (hw_vl b0 I J (uI P 40 0 0) N o)) (fun _ _ => True) nb ?_ (fun _ _ _ _ => trivial) nb 0 (N 0 (tn x)) (by omega) trivial ?_
      · intro k9 σ hi0 hinv0 k0
        refine hq_iload (q := 0) C dX6_brokerOf_48 rfl ?_
        refine hq_aload_n (q := 2) C dX6_brokerOf_50 rfl rfl ?_
        refine hq_getP (f := 26) (g := 0) (Nc := 1) (Ns := 38) C fr_X6_113 dX6_brokerOf_51 rfl rfl rfl rfl rfl (by decide) Nat.one_pos ?_
        refine hq_icmp_ge (tgt := 80) C dX6_brokerOf_54 (by decide) (fun c_54 => absurd c_54 (by rw [show uI P 40 0 0 0 0 = nI nb from hbc]; exact nI_ge hi0 (by omega))) (fun c_54 => ?_)
        refine hq_lload (q := 1) C dX6_brokerOf_57 rfl ?_
        refine hq_aload_n (q := 2) C dX6_brokerOf_59 rfl rfl ?_
        refine hq_getR (f := 26) (g := 35) (Nc := 1) (Ns := 38) C fr_X6_36 dX6_brokerOf_60 rfl rfl rfl rfl rfl (by decide) Nat.one_pos ?_
        refine hq_bipush (y := 12) C dX6_brokerOf_63 (by decide) ?_
        refine hq_iload_n (q := 3) C dX6_brokerOf_65 rfl rfl ?_
        refine hq_imul C dX6_brokerOf_66 ?_
        refine hq_iload (q := 0) C dX6_brokerOf_67 rfl ?_
        refine hq_iadd C dX6_brokerOf_69 ?_
        refine hq_laldN0 (f := 35) (a := 12 * tn x + k9) (g := 1) (Nc := 1) (Ns := 144) C dX6_brokerOf_70 rfl rfl rfl rfl rfl rfl (ix12 hx rfl) (by omega) Nat.one_pos ?_
        refine hq_lsub C dX6_brokerOf_71 ?_
        refine hq_lstore (L' := [(4, .long _), (6, .int _), (0, .ref _), (1, .int _), (2, .int _)]) C dX6_brokerOf_72 (by decide) rfl ?_
        refine hq_iinc (q := 1) (y := nI (_ + 1)) (L' := [(6, .int _), (4, .long _), (0, .ref _), (1, .int _), (2, .int _)]) C dX6_brokerOf_74 rfl (hw_inc _) (by decide) rfl ?_
        refine hq_goto (tgt := 48) C dX6_brokerOf_77 (by decide) ?_
        exact hq_fin [0, 1, 2, 3, 4] (by first | rfl | (simp only [sf_wo, ↓reduceIte, not_true_eq_false, not_false_eq_true]; rfl) | simp [lv_pick, sf_wo]) (by first | rfl | simp [sf_wo]) (by first | rfl | simp [sf_wo]) (by first | rfl | simp [sf_wo]) (by first | rfl | simp [sf_wo]) (by first | rfl | simp [sf_wo]) k0
      · refine hq_iload (q := 0) C dX6_brokerOf_48 rfl ?_
        refine hq_aload_n (q := 2) C dX6_brokerOf_50 rfl rfl ?_
        refine hq_getP (f := 26) (g := 0) (Nc := 1) (Ns := 38) C fr_X6_113 dX6_brokerOf_51 rfl rfl rfl rfl rfl (by decide) Nat.one_pos ?_
        refine hq_icmp_ge (tgt := 80) C dX6_brokerOf_54 (by decide) (fun c_54 => ?_) (fun c_54 => absurd (by rw [show uI P 40 0 0 0 0 = nI nb from hbc]; exact nI_le (Nat.le_refl nb) (by omega)) c_54)
        refine hq_iload_n (q := 4) C dX6_brokerOf_80 rfl rfl ?_
        refine hq_if_ne (tgt := 94) C dX6_brokerOf_81 (by decide) (fun c_81 => ?_) (fun c_81 => ?_)
        · refine hq_iload_n (q := 4) C dX6_brokerOf_94 rfl rfl ?_
          refine hq_iconst (y := 1) C dX6_brokerOf_95 (by decide) ?_
          refine hq_icmp_ne (tgt := 108) C dX6_brokerOf_96 (by decide) (fun c_96 => ?_) (fun c_96 => ?_)
          · refine hq_iload_n (q := 4) C dX6_brokerOf_108 rfl rfl ?_
            refine hq_iconst (y := 2) C dX6_brokerOf_109 (by decide) ?_
            refine hq_icmp_ne (tgt := 123) C dX6_brokerOf_110 (by decide) (fun c_110 => ?_) (fun c_110 => ?_)
            · refine hq_lload (q := 1) C dX6_brokerOf_123 rfl ?_
              exact hq_lret C hr hlk dX6_brokerOf_125 (by rw [show (ps_brokerOf P N x y nb) = _ from (((((if_neg c_8).trans (if_neg c_21)).trans (if_pos c_81)).trans (if_pos c_96)).trans (if_pos c_110))]; try rfl) (by rw [show (ps_brokerOf P N x y nb) = _ from (((((if_neg c_8).trans (if_neg c_21)).trans (if_pos c_81)).trans (if_pos c_96)).trans (if_pos c_110))]; try rfl)
            · refine hq_aload_n (q := 2) C dX6_brokerOf_113 rfl rfl ?_
              refine hq_getR (f := 26) (g := 27) (Nc := 1) (Ns := 38) C fr_X6_7 dX6_brokerOf_114 rfl rfl rfl rfl rfl (by decide) Nat.one_pos ?_
              refine hq_iload_n (q := 3) C dX6_brokerOf_117 rfl rfl ?_
              refine hq_ialdP0 (f := 27) (a := tn x) (g := 5) (Nc := 1) (Ns := 12) C dX6_brokerOf_118 rfl rfl rfl rfl rfl rfl hx (by omega) Nat.one_pos ?_
              refine hq_i2l C dX6_brokerOf_119 ?_
              refine hq_goto (tgt := 125) C dX6_brokerOf_120 (by decide) ?_
              exact hq_lret C hr hlk dX6_brokerOf_125 (by rw [show (ps_brokerOf P N x y nb) = _ from (((((if_neg c_8).trans (if_neg c_21)).trans (if_pos c_81)).trans (if_pos c_96)).trans (if_neg (fun z9 => z9 c_110)))]; try rfl) (by rw [show (ps_brokerOf P N x y nb) = _ from (((((if_neg c_8).trans (if_neg c_21)).trans (if_pos c_81)).trans (if_pos c_96)).trans (if_neg (fun z9 => z9 c_110)))]; try rfl)
          · refine hq_aload_n (q := 2) C dX6_brokerOf_99 rfl rfl ?_
            refine hq_getR (f := 26) (g := 28) (Nc := 1) (Ns := 38) C fr_X6_13 dX6_brokerOf_100 rfl rfl rfl rfl rfl (by decide) Nat.one_pos ?_
            refine hq_iload_n (q := 3) C dX6_brokerOf_103 rfl rfl ?_
            refine hq_laldN0 (f := 28) (a := tn x) (g := 0) (Nc := 1) (Ns := 12) C dX6_brokerOf_104 rfl rfl rfl rfl rfl rfl hx (by omega) Nat.one_pos ?_
            refine hq_goto (tgt := 125) C dX6_brokerOf_105 (by decide) ?_
            exact hq_lret C hr hlk dX6_brokerOf_125 (by rw [show (ps_brokerOf P N x y nb) = _ from ((((if_neg c_8).trans (if_neg c_21)).trans (if_pos c_81)).trans (if_neg (fun z9 => z9 c_96)))]; try rfl) (by rw [show (ps_brokerOf P N x y nb) = _ from ((((if_neg c_8).trans (if_neg c_21)).trans (if_pos c_81)).trans (if_neg (fun z9 => z9 c_96)))]; try rfl)
        · refine hq_aload_n (q := 2) C dX6_brokerOf_84 rfl rfl ?_
          refine hq_getR (f := 26) (g := 30) (Nc := 1) (Ns := 38) C fr_X6_20 dX6_brokerOf_85 rfl rfl rfl rfl rfl (by decide) Nat.one_pos ?_
          refine hq_iload_n (q := 3) C dX6_brokerOf_88 rfl rfl ?_
          refine hq_ialdP0 (f := 30) (a := tn x) (g := 7) (Nc := 1) (Ns := 12) C dX6_brokerOf_89 rfl rfl rfl rfl rfl rfl hx (by omega) Nat.one_pos ?_
          refine hq_i2l C dX6_brokerOf_90 ?_
          refine hq_goto (tgt := 125) C dX6_brokerOf_91 (by decide) ?_
          exact hq_lret C hr hlk dX6_brokerOf_125 (by rw [show (ps_brokerOf P N x y nb) = _ from (((if_neg c_8).trans (if_neg c_21)).trans (if_neg (fun z9 => z9 c_81)))]; try rfl) (by rw [show (ps_brokerOf P N x y nb) = _ from (((if_neg c_8).trans (if_neg c_21)).trans (if_neg (fun z9 => z9 c_81)))]; try rfl)
  · refine hq_iconst (y := 1) C dX6_brokerOf_11 (by decide) ?_
    refine hq_goto (tgt := 29) C dX6_brokerOf_12 (by decide) ?_
    refine hq_cVr (As := [.int _]) (rm := rX6_goesWell) (f := 26) (Nc := 1) C (m_X6_goesWell) wv_X6_goesWell ml_X6_124 rfl rfl rfl Nat.one_pos rfl rfl rfl rfl ⟨Nat.le_of_ble_eq_true rfl, Nat.le_of_ble_eq_true rfl⟩ (Nat.le_of_ble_eq_true rfl) ⟨Nat.le_of_ble_eq_true rfl, Nat.le_of_ble_eq_true rfl⟩ dX6_brokerOf_29 ?_
    refine hq_if_ne (tgt := 37) C dX6_brokerOf_32 (by decide) (fun c_32 => absurd c_32 (by decide)) (fun _ => ?_)
    refine hq_lconst (y := 0) C dX6_brokerOf_35 rfl ?_
    exact hq_lret C hr hlk dX6_brokerOf_36 (by rw [show (ps_brokerOf P N x y nb) = _ from (if_pos c_8)]; first | rfl | exact if_pos ⟨rfl, rfl⟩ | skip) (by rw [show (ps_brokerOf P N x y nb) = _ from (if_pos c_8)]; first | rfl | exact if_pos ⟨rfl, rfl⟩ | skip)
def pc_fin (N : MJ) (a b d : Nat) (m : Int64) : Int64 × MJ := if 0 < lg_cmp m 0 then (m, ps_both (ps_both (ps_both N a b (-m)) b d (-m)) d a (-m)) else (0, N)
def ps_clr (N : MJ) (a b d : Nat) : Int64 × MJ := if 0 ≤ lg_cmp (N 1 (12 * a + b)) (N 1 (12 * b + d)) then (if 0 ≤ lg_cmp (N 1 (12 * d + a)) (N 1 (12 * b + d)) then pc_fin N a b d (N 1 (12 * b + d)) else pc_fin N a b d (N 1 (12 * d + a))) else (if 0 ≤ lg_cmp (N 1 (12 * d + a)) (N 1 (12 * a + b)) then pc_fin N a b d (N 1 (12 * a + b)) else pc_fin N a b d (N 1 (12 * d + a)))
set_option maxHeartbeats 4000000 in
set_option maxRecDepth 100000 in
theorem m_X6_clear {l : Launch} {D : va_G} {b0 : Nat} {I : MI} {J : MJ} {P : MI} {N : MJ} {o : Int64} {a b d : Nat} {x y z : Int32} (hx : x = nI a) (ha : a < 12) (hy : y = nI b) (hb9 : b < 12) (hz : z = nI d) (hd : d < 12) : hM l yX6_clear cX6_clear 12 (some .long) rX6_clear D b0 [.ref (hw_ad b0 26 0), .int x, .int y, .int z] I J P N o (some (.long (ps_clr N a b d).1)) I J P (ps_clr N a b d).2 o := by
  refine hw_Mof (by decide) [(0, .ref _), (1, .int _), (2, .int _), (3, .int _)] rfl (Nat.le_of_ble_eq_true rfl) ?_
  intro p e s m args below meth c C hr hlk hnm
  refine hq_aload_n (q := 0) C dX6_clear_0 rfl rfl ?_
  refine hq_getR (f := 26) (g := 35) (Nc := 1) (Ns := 38) C fr_X6_36 dX6_clear_1 rfl rfl rfl rfl rfl (by decide) Nat.one_pos ?_
  refine hq_bipush (y := 12) C dX6_clear_4 (by decide) ?_
  refine hq_iload_n (q := 1) C dX6_clear_6 rfl rfl ?_
  refine hq_imul C dX6_clear_7 ?_
  refine hq_iload_n (q := 2) C dX6_clear_8 rfl rfl ?_
  refine hq_iadd C dX6_clear_9 ?_
  refine hq_laldN0 (f := 35) (a := 12 * a + b) (g := 1) (Nc := 1) (Ns := 144) C dX6_clear_10 rfl rfl rfl rfl rfl rfl (ix12 hx hy) (by omega) Nat.one_pos ?_
  refine hq_lstore (L' := [(4, .long _), (0, .ref _), (1, .int _), (2, .int _), (3, .int _)]) C dX6_clear_11 (by decide) rfl ?_
  refine hq_aload_n (q := 1) C dX6_clear_13 rfl rfl ?_
  refine hq_getR (f := 26) (g := 35) (Nc := 1) (Ns := 38) C fr_X6_36 dX6_clear_14 rfl rfl rfl rfl rfl (by decide) Nat.one_pos ?_
  refine hq_bipush (y := 12) C dX6_clear_17 (by decide) ?_
  refine hq_iload_n (q := 3) C dX6_clear_19 rfl rfl ?_
  refine hq_imul C dX6_clear_20 ?_
  refine hq_iload_n (q := 4) C dX6_clear_21 rfl rfl ?_
  refine hq_iadd C dX6_clear_22 ?_
  refine hq_laldN0 (f := 35) (a := 12 * b + d) (g := 1) (Nc := 1) (Ns := 144) C dX6_clear_23 rfl rfl rfl rfl rfl rfl (ix12 hy hz) (by omega) Nat.one_pos ?_
  refine hq_lstore (L' := [(6, .long _), (4, .long _), (0, .ref _), (1, .int _), (2, .int _), (3, .int _)]) C dX6_clear_24 (by decide) rfl ?_
  refine hq_aload_n (q := 2) C dX6_clear_26 rfl rfl ?_
  refine hq_getR (f := 26) (g := 35) (Nc := 1) (Ns := 38) C fr_X6_36 dX6_clear_27 rfl rfl rfl rfl rfl (by decide) Nat.one_pos ?_
  refine hq_bipush (y := 12) C dX6_clear_30 (by decide) ?_
  refine hq_iload_n (q := 5) C dX6_clear_32 rfl rfl ?_
  refine hq_imul C dX6_clear_33 ?_
  refine hq_iload_n (q := 3) C dX6_clear_34 rfl rfl ?_
  refine hq_iadd C dX6_clear_35 ?_
  refine hq_laldN0 (f := 35) (a := 12 * d + a) (g := 1) (Nc := 1) (Ns := 144) C dX6_clear_36 rfl rfl rfl rfl rfl rfl (ix12 hz hx) (by omega) Nat.one_pos ?_
  refine hq_lstore (L' := [(8, .long _), (6, .long _), (4, .long _), (0, .ref _), (1, .int _), (2, .int _), (3, .int _)]) C dX6_clear_37 (by decide) rfl ?_
  refine hq_lload (q := 2) C dX6_clear_39 rfl ?_
  refine hq_lload (q := 1) C dX6_clear_41 rfl ?_
  refine hq_lcmp C dX6_clear_43 ?_
  refine hq_if_ge (tgt := 52) C dX6_clear_44 (by decide) (fun c_44 => ?_) (fun c_44 => ?_)
  · refine hq_lload (q := 1) C dX6_clear_52 rfl ?_
    refine hq_lstore (L' := [(10, .long _), (8, .long _), (6, .long _), (4, .long _), (0, .ref _), (1, .int _), (2, .int _), (3, .int _)]) C dX6_clear_54 (by decide) rfl ?_
    refine hq_lload (q := 1) C dX6_clear_56 rfl ?_
    refine hq_lload (q := 0) C dX6_clear_58 rfl ?_
    refine hq_lcmp C dX6_clear_60 ?_
    refine hq_if_ge (tgt := 69) C dX6_clear_61 (by decide) (fun c_61 => ?_) (fun c_61 => ?_)
    · refine hq_lload (q := 0) C dX6_clear_69 rfl ?_
      refine hq_lstore (L' := [(10, .long _), (8, .long _), (6, .long _), (4, .long _), (0, .ref _), (1, .int _), (2, .int _), (3, .int _)]) C dX6_clear_71 (by decide) rfl ?_
      refine hq_lload (q := 0) C dX6_clear_73 rfl ?_
      refine hq_lconst (y := 0) C dX6_clear_75 rfl ?_
      refine hq_lcmp C dX6_clear_76 ?_
      refine hq_if_gt (tgt := 82) C dX6_clear_77 (by decide) (fun c_77 => ?_) (fun c_77 => ?_)
      · refine hq_aload_n (q := 4) C dX6_clear_82 rfl rfl ?_
        refine hq_iload_n (q := 5) C dX6_clear_83 rfl rfl ?_
        refine hq_iload_n (q := 6) C dX6_clear_84 rfl rfl ?_
        refine hq_lload (q := 0) C dX6_clear_85 rfl ?_
        refine hq_lneg C dX6_clear_87 ?_
        refine hq_cVv (As := [.int _, .int _, .long _]) (rm := rX6_oweBoth) (f := 26) (Nc := 1) C (m_X6_oweBoth hx ha hy hb9) wv_X6_oweBoth ml_X6_203 rfl rfl rfl Nat.one_pos rfl rfl rfl rfl ⟨Nat.le_of_ble_eq_true rfl, Nat.le_of_ble_eq_true rfl⟩ (Nat.le_of_ble_eq_true rfl) ⟨Nat.le_of_ble_eq_true rfl, Nat.le_of_ble_eq_true rfl⟩ dX6_clear_88 ?_
        refine hq_aload_n (q := 4) C dX6_clear_91 rfl rfl ?_
        refine hq_iload_n (q := 6) C dX6_clear_92 rfl rfl ?_
        refine hq_iload_n (q := 7) C dX6_clear_93 rfl rfl ?_
        refine hq_lload (q := 0) C dX6_clear_94 rfl ?_
        refine hq_lneg C dX6_clear_96 ?_
        refine hq_cVv (As := [.int _, .int _, .long _]) (rm := rX6_oweBoth) (f := 26) (Nc := 1) C (m_X6_oweBoth hy hb9 hz hd) wv_X6_oweBoth ml_X6_203 rfl rfl rfl Nat.one_pos rfl rfl rfl rfl ⟨Nat.le_of_ble_eq_true rfl, Nat.le_of_ble_eq_true rfl⟩ (Nat.le_of_ble_eq_true rfl) ⟨Nat.le_of_ble_eq_true rfl, Nat.le_of_ble_eq_true rfl⟩ dX6_clear_97 ?_
        refine hq_aload_n (q := 4) C dX6_clear_100 rfl rfl ?_
        refine hq_iload_n (q := 7) C dX6_clear_101 rfl rfl ?_
        refine hq_iload_n (q := 5) C dX6_clear_102 rfl rfl ?_
        refine hq_lload (q := 0) C dX6_clear_103 rfl ?_
        refine hq_lneg C dX6_clear_105 ?_
        refine hq_cVv (As := [.int _, .int _, .long _]) (rm := rX6_oweBoth) (f := 26) (Nc := 1) C (m_X6_oweBoth hz hd hx ha) wv_X6_oweBoth ml_X6_203 rfl rfl rfl Nat.one_pos rfl rfl rfl rfl ⟨Nat.le_of_ble_eq_true rfl, Nat.le_of_ble_eq_true rfl⟩ (Nat.le_of_ble_eq_true rfl) ⟨Nat.le_of_ble_eq_true rfl, Nat.le_of_ble_eq_true rfl⟩ dX6_clear_106 ?_
        refine hq_lload (q := 0) C dX6_clear_109 rfl ?_
        exact hq_lret C hr hlk dX6_clear_111 (by rw [show (ps_clr N a b d) = _ from (((if_pos c_44).trans (if_pos c_61)).trans (if_pos c_77))]; try rfl) (by rw [show (ps_clr N a b d) = _ from (((if_pos c_44).trans (if_pos c_61)).trans (if_pos c_77))]; try rfl)
      · refine hq_lconst (y := 0) C dX6_clear_80 rfl ?_
        exact hq_lret C hr hlk dX6_clear_81 (by rw [show (ps_clr N a b d) = _ from (((if_pos c_44).trans (if_pos c_61)).trans (if_neg c_77))]; try rfl) (by rw [show (ps_clr N a b d) = _ from (((if_pos c_44).trans (if_pos c_61)).trans (if_neg c_77))]; try rfl)
    · refine hq_lload (q := 1) C dX6_clear_64 rfl ?_
      refine hq_goto (tgt := 71) C dX6_clear_66 (by decide) ?_
      refine hq_lstore (L' := [(10, .long _), (8, .long _), (6, .long _), (4, .long _), (0, .ref _), (1, .int _), (2, .int _), (3, .int _)]) C dX6_clear_71 (by decide) rfl ?_
      refine hq_lload (q := 0) C dX6_clear_73 rfl ?_
      refine hq_lconst (y := 0) C dX6_clear_75 rfl ?_
      refine hq_lcmp C dX6_clear_76 ?_
      refine hq_if_gt (tgt := 82) C dX6_clear_77 (by decide) (fun c_77 => ?_) (fun c_77 => ?_)
      · refine hq_aload_n (q := 4) C dX6_clear_82 rfl rfl ?_
        refine hq_iload_n (q := 5) C dX6_clear_83 rfl rfl ?_
        refine hq_iload_n (q := 6) C dX6_clear_84 rfl rfl ?_
        refine hq_lload (q := 0) C dX6_clear_85 rfl ?_
        refine hq_lneg C dX6_clear_87 ?_
        refine hq_cVv (As := [.int _, .int _, .long _]) (rm := rX6_oweBoth) (f := 26) (Nc := 1) C (m_X6_oweBoth hx ha hy hb9) wv_X6_oweBoth ml_X6_203 rfl rfl rfl Nat.one_pos rfl rfl rfl rfl ⟨Nat.le_of_ble_eq_true rfl, Nat.le_of_ble_eq_true rfl⟩ (Nat.le_of_ble_eq_true rfl) ⟨Nat.le_of_ble_eq_true rfl, Nat.le_of_ble_eq_true rfl⟩ dX6_clear_88 ?_
        refine hq_aload_n (q := 4) C dX6_clear_91 rfl rfl ?_
        refine hq_iload_n (q := 6) C dX6_clear_92 rfl rfl ?_
        refine hq_iload_n (q := 7) C dX6_clear_93 rfl rfl ?_
        refine hq_lload (q := 0) C dX6_clear_94 rfl ?_
        refine hq_lneg C dX6_clear_96 ?_
        refine hq_cVv (As := [.int _, .int _, .long _]) (rm := rX6_oweBoth) (f := 26) (Nc := 1) C (m_X6_oweBoth hy hb9 hz hd) wv_X6_oweBoth ml_X6_203 rfl rfl rfl Nat.one_pos rfl rfl rfl rfl ⟨Nat.le_of_ble_eq_true rfl, Nat.le_of_ble_eq_true rfl⟩ (Nat.le_of_ble_eq_true rfl) ⟨Nat.le_of_ble_eq_true rfl, Nat.le_of_ble_eq_true rfl⟩ dX6_clear_97 ?_
        refine hq_aload_n (q := 4) C dX6_clear_100 rfl rfl ?_
        refine hq_iload_n (q := 7) C dX6_clear_101 rfl rfl ?_
        refine hq_iload_n (q := 5) C dX6_clear_102 rfl rfl ?_
        refine hq_lload (q := 0) C dX6_clear_103 rfl ?_
        refine hq_lneg C dX6_clear_105 ?_
        refine hq_cVv (As := [.int _, .int _, .long _]) (rm := rX6_oweBoth) (f := 26) (Nc := 1) C (m_X6_oweBoth hz hd hx ha) wv_X6_oweBoth ml_X6_203 rfl rfl rfl Nat.one_pos rfl rfl rfl rfl ⟨Nat.le_of_ble_eq_true rfl, Nat.le_of_ble_eq_true rfl⟩ (Nat.le_of_ble_eq_true rfl) ⟨Nat.le_of_ble_eq_true rfl, Nat.le_of_ble_eq_true rfl⟩ dX6_clear_106 ?_
        refine hq_lload (q := 0) C dX6_clear_109 rfl ?_
        exact hq_lret C hr hlk dX6_clear_111 (by rw [show (ps_clr N a b d) = _ from (((if_pos c_44).trans (if_neg c_61)).trans (if_pos c_77))]; try rfl) (by rw [show (ps_clr N a b d) = _ from (((if_pos c_44).trans (if_neg c_61)).trans (if_pos c_77))]; try rfl)
      · refine hq_lconst (y := 0) C dX6_clear_80 rfl ?_
        exact hq_lret C hr hlk dX6_clear_81 (by rw [show (ps_clr N a b d) = _ from (((if_pos c_44).trans (if_neg c_61)).trans (if_neg c_77))]; try rfl) (by rw [show (ps_clr N a b d) = _ from (((if_pos c_44).trans (if_neg c_61)).trans (if_neg c_77))]; try rfl)
  · refine hq_lload (q := 2) C dX6_clear_47 rfl ?_
    refine hq_goto (tgt := 54) C dX6_clear_49 (by decide) ?_
    refine hq_lstore (L' := [(10, .long _), (8, .long _), (6, .long _), (4, .long _), (0, .ref _), (1, .int _), (2, .int _), (3, .int _)]) C dX6_clear_54 (by decide) rfl ?_
    refine hq_lload (q := 1) C dX6_clear_56 rfl ?_
    refine hq_lload (q := 0) C dX6_clear_58 rfl ?_
    refine hq_lcmp C dX6_clear_60 ?_
    refine hq_if_ge (tgt := 69) C dX6_clear_61 (by decide) (fun c_61 => ?_) (fun c_61 => ?_)
    · refine hq_lload (q := 0) C dX6_clear_69 rfl ?_
      refine hq_lstore (L' := [(10, .long _), (8, .long _), (6, .long _), (4, .long _), (0, .ref _), (1, .int _), (2, .int _), (3, .int _)]) C dX6_clear_71 (by decide) rfl ?_
      refine hq_lload (q := 0) C dX6_clear_73 rfl ?_
      refine hq_lconst (y := 0) C dX6_clear_75 rfl ?_
      refine hq_lcmp C dX6_clear_76 ?_
      refine hq_if_gt (tgt := 82) C dX6_clear_77 (by decide) (fun c_77 => ?_) (fun c_77 => ?_)
      · refine hq_aload_n (q := 4) C dX6_clear_82 rfl rfl ?_
        refine hq_iload_n (q := 5) C dX6_clear_83 rfl rfl ?_
        refine hq_iload_n (q := 6) C dX6_clear_84 rfl rfl ?_
        refine hq_lload (q := 0) C dX6_clear_85 rfl ?_
        refine hq_lneg C dX6_clear_87 ?_
        refine hq_cVv (As := [.int _, .int _, .long _]) (rm := rX6_oweBoth) (f := 26) (Nc := 1) C (m_X6_oweBoth hx ha hy hb9) wv_X6_oweBoth ml_X6_203 rfl rfl rfl Nat.one_pos rfl rfl rfl rfl ⟨Nat.le_of_ble_eq_true rfl, Nat.le_of_ble_eq_true rfl⟩ (Nat.le_of_ble_eq_true rfl) ⟨Nat.le_of_ble_eq_true rfl, Nat.le_of_ble_eq_true rfl⟩ dX6_clear_88 ?_
        refine hq_aload_n (q := 4) C dX6_clear_91 rfl rfl ?_
        refine hq_iload_n (q := 6) C dX6_clear_92 rfl rfl ?_
        refine hq_iload_n (q := 7) C dX6_clear_93 rfl rfl ?_
        refine hq_lload (q := 0) C dX6_clear_94 rfl ?_
        refine hq_lneg C dX6_clear_96 ?_
        refine hq_cVv (As := [.int _, .int _, .long _]) (rm := rX6_oweBoth) (f := 26) (Nc := 1) C (m_X6_oweBoth hy hb9 hz hd) wv_X6_oweBoth ml_X6_203 rfl rfl rfl Nat.one_pos rfl rfl rfl rfl ⟨Nat.le_of_ble_eq_true rfl, Nat.le_of_ble_eq_true rfl⟩ (Nat.le_of_ble_eq_true rfl) ⟨Nat.le_of_ble_eq_true rfl, Nat.le_of_ble_eq_true rfl⟩ dX6_clear_97 ?_
        refine hq_aload_n (q := 4) C dX6_clear_100 rfl rfl ?_
        refine hq_iload_n (q := 7) C dX6_clear_101 rfl rfl ?_
        refine hq_iload_n (q := 5) C dX6_clear_102 rfl rfl ?_
        refine hq_lload (q := 0) C dX6_clear_103 rfl ?_
        refine hq_lneg C dX6_clear_105 ?_
        refine hq_cVv (As := [.int _, .int _, .long _]) (rm := rX6_oweBoth) (f := 26) (Nc := 1) C (m_X6_oweBoth hz hd hx ha) wv_X6_oweBoth ml_X6_203 rfl rfl rfl Nat.one_pos rfl rfl rfl rfl ⟨Nat.le_of_ble_eq_true rfl, Nat.le_of_ble_eq_true rfl⟩ (Nat.le_of_ble_eq_true rfl) ⟨Nat.le_of_ble_eq_true rfl, Nat.le_of_ble_eq_true rfl⟩ dX6_clear_106 ?_
        refine hq_lload (q := 0) C dX6_clear_109 rfl ?_
        exact hq_lret C hr hlk dX6_clear_111 (by rw [show (ps_clr N a b d) = _ from (((if_neg c_44).trans (if_pos c_61)).trans (if_pos c_77))]; try rfl) (by rw [show (ps_clr N a b d) = _ from (((if_neg c_44).trans (if_pos c_61)).trans (if_pos c_77))]; try rfl)
      · refine hq_lconst (y := 0) C dX6_clear_80 rfl ?_
        exact hq_lret C hr hlk dX6_clear_81 (by rw [show (ps_clr N a b d) = _ from (((if_neg c_44).trans (if_pos c_61)).trans (if_neg c_77))]; try rfl) (by rw [show (ps_clr N a b d) = _ from (((if_neg c_44).trans (if_pos c_61)).trans (if_neg c_77))]; try rfl)
    · refine hq_lload (q := 1) C dX6_clear_64 rfl ?_
      refine hq_goto (tgt := 71) C dX6_clear_66 (by decide) ?_
      refine hq_lstore (L' := [(10, .long _), (8, .long _), (6, .long _), (4, .long _), (0, .ref _), (1, .int _), (2, .int _), (3, .int _)]) C dX6_clear_71 (by decide) rfl ?_
      refine hq_lload (q := 0) C dX6_clear_73 rfl ?_
      refine hq_lconst (y := 0) C dX6_clear_75 rfl ?_
      refine hq_lcmp C dX6_clear_76 ?_
      refine hq_if_gt (tgt := 82) C dX6_clear_77 (by decide) (fun c_77 => ?_) (fun c_77 => ?_)
      · refine hq_aload_n (q := 4) C dX6_clear_82 rfl rfl ?_
        refine hq_iload_n (q := 5) C dX6_clear_83 rfl rfl ?_
        refine hq_iload_n (q := 6) C dX6_clear_84 rfl rfl ?_
        refine hq_lload (q := 0) C dX6_clear_85 rfl ?_
        refine hq_lneg C dX6_clear_87 ?_
        refine hq_cVv (As := [.int _, .int _, .long _]) (rm := rX6_oweBoth) (f := 26) (Nc := 1) C (m_X6_oweBoth hx ha hy hb9) wv_X6_oweBoth ml_X6_203 rfl rfl rfl Nat.one_pos rfl rfl rfl rfl ⟨Nat.le_of_ble_eq_true rfl, Nat.le_of_ble_eq_true rfl⟩ (Nat.le_of_ble_eq_true rfl) ⟨Nat.le_of_ble_eq_true rfl, Nat.le_of_ble_eq_true rfl⟩ dX6_clear_88 ?_
        refine hq_aload_n (q := 4) C dX6_clear_91 rfl rfl ?_
        refine hq_iload_n (q := 6) C dX6_clear_92 rfl rfl ?_
        refine hq_iload_n (q := 7) C dX6_clear_93 rfl rfl ?_
        refine hq_lload (q := 0) C dX6_clear_94 rfl ?_
        refine hq_lneg C dX6_clear_96 ?_
        refine hq_cVv (As := [.int _, .int _, .long _]) (rm := rX6_oweBoth) (f := 26) (Nc := 1) C (m_X6_oweBoth hy hb9 hz hd) wv_X6_oweBoth ml_X6_203 rfl rfl rfl Nat.one_pos rfl rfl rfl rfl ⟨Nat.le_of_ble_eq_true rfl, Nat.le_of_ble_eq_true rfl⟩ (Nat.le_of_ble_eq_true rfl) ⟨Nat.le_of_ble_eq_true rfl, Nat.le_of_ble_eq_true rfl⟩ dX6_clear_97 ?_
        refine hq_aload_n (q := 4) C dX6_clear_100 rfl rfl ?_
        refine hq_iload_n (q := 7) C dX6_clear_101 rfl rfl ?_
        refine hq_iload_n (q := 5) C dX6_clear_102 rfl rfl ?_
        refine hq_lload (q := 0) C dX6_clear_103 rfl ?_
        refine hq_lneg C dX6_clear_105 ?_
        refine hq_cVv (As := [.int _, .int _, .long _]) (rm := rX6_oweBoth) (f := 26) (Nc := 1) C (m_X6_oweBoth hz hd hx ha) wv_X6_oweBoth ml_X6_203 rfl rfl rfl Nat.one_pos rfl rfl rfl rfl ⟨Nat.le_of_ble_eq_true rfl, Nat.le_of_ble_eq_true rfl⟩ (Nat.le_of_ble_eq_true rfl) ⟨Nat.le_of_ble_eq_true rfl, Nat.le_of_ble_eq_true rfl⟩ dX6_clear_106 ?_
        refine hq_lload (q := 0) C dX6_clear_109 rfl ?_
        exact hq_lret C hr hlk dX6_clear_111 (by rw [show (ps_clr N a b d) = _ from (((if_neg c_44).trans (if_neg c_61)).trans (if_pos c_77))]; try rfl) (by rw [show (ps_clr N a b d) = _ from (((if_neg c_44).trans (if_neg c_61)).trans (if_pos c_77))]; try rfl)
      · refine hq_lconst (y := 0) C dX6_clear_80 rfl ?_
        exact hq_lret C hr hlk dX6_clear_81 (by rw [show (ps_clr N a b d) = _ from (((if_neg c_44).trans (if_neg c_61)).trans (if_neg c_77))]; try rfl) (by rw [show (ps_clr N a b d) = _ from (((if_neg c_44).trans (if_neg c_61)).trans (if_neg c_77))]; try rfl)
def pf_r1 (a b d : Nat) (σ : Int64 × MJ) : Int64 × MJ := if nI a = nI b then (σ.1 + 0, σ.2) else if nI b = nI d then (σ.1 + 0, σ.2) else if nI a = nI d then (σ.1 + 0, σ.2) else (σ.1 + (ps_clr σ.2 a b d).1, (ps_clr σ.2 a b d).2)
def pf_r2' (nb a b : Nat) (σ : Int64 × MJ) : Int64 × MJ := lp (pf_r1 a b) nb 0 σ
def pf_r3' (nb a : Nat) (σ : Int64 × MJ) : Int64 × MJ := lp (pf_r2' nb a) nb 0 σ
def ps_ring (N : MJ) (nb : Nat) : Int64 × MJ := lp (pf_r3' nb) nb 0 (0, N)
set_option maxHeartbeats 4000000 in
set_option maxRecDepth 100000 in
theorem m_X6_ring {l : Launch} {D : va_G} {b0 : Nat} {I : MI} {J : MJ} {P : MI} {N : MJ} {o : Int64} {nb : Nat} (hbc : P 0 0 = nI nb) (hnb : nb ≤ 12) : hM l yX6_ring cX6_ring 6 (some .long) rX6_ring D b0 [.ref (hw_ad b0 26 0)] I J P N o (some (.long (ps_ring N nb).1)) I J (uI P 40 0 0) (ps_ring N nb).2 o := by
  refine hw_Mof (by decide) [(0, .ref _)] rfl (Nat.le_of_ble_eq_true rfl) ?_
  intro p e s m args below meth c C hr hlk hnm
  refine hq_aload_n (q := 0) C dX6_ring_0 rfl rfl ?_
  refine hq_iconst (y := 0) C dX6_ring_1 (by decide) ?_
  refine hq_putP (f := 26) (g := 40) (Nc := 1) (Ns := 38) C fl_X6_109 dX6_ring_2 rfl rfl rfl rfl rfl (by decide) Nat.one_pos rfl rfl ?_
  refine hq_lconst (y := 0) C dX6_ring_5 rfl ?_
  refine hq_lstore_n (L' := [(1, .long _), (0, .ref _)]) C dX6_ring_6 rfl (by decide) rfl ?_
  refine hq_iconst (y := 0) C dX6_ring_7 (by decide) ?_
  refine hq_istore_n (L' := [(3, .int _), (1, .long _), (0, .ref _)]) C dX6_ring_8 rfl (by decide) rfl ?_
  refine hq_fin [0, 1, 2] (L' := [(3, .int (nI 0)), (1, .long 0), (0, .ref (hw_ad b0 26 0))]) rfl rfl rfl rfl rfl rfl ?_
  refine lp_back (pf_r3' nb) (fun (a : Nat) (σ1 : Int64 × MJ) => hw_V p l e rX6_ring s m args below meth c (MQ below (hw_Q D b0 false 271 (some (.long (ps_ring N nb).1)) (hw_vl b0 I J (uI P 40 0 0) (ps_ring N nb).2 o)) args s 0 0 (fun q => b0 ≤ q)) D b0 6 false 0 0 271 9 [(3, .int (nI a)), (1, .long σ1.1), (0, .ref (hw_ad b0 26 0))] [] (hw_vl b0 I J (uI P 40 0 0) σ1.2 o)) (fun _ _ => True) nb ?_ (fun _ _ _ _ => trivial) nb 0 (0, N) (by omega) trivial ?_
  · intro a σ1 hi1 hinv1 k1
    refine hq_iload_n (q := 0) C dX6_ring_9 rfl rfl ?_
    refine hq_aload_n (q := 2) C dX6_ring_10 rfl rfl ?_
    refine hq_getP (f := 26) (g := 0) (Nc := 1) (Ns := 38) C fr_X6_113 dX6_ring_11 rfl rfl rfl rfl rfl (by decide) Nat.one_pos ?_
    refine hq_icmp_ge (tgt := 94) C dX6_ring_14 (by decide) (fun c_14 => absurd c_14 (by rw [show uI P 40 0 0 0 0 = nI nb from hbc]; exact nI_ge hi1 (by omega))) (fun c_14 => ?_)
    refine hq_iconst (y := 0) C dX6_ring_17 (by decide) ?_
    refine hq_istore (L' := [(4, .int _), (3, .int _), (1, .long _), (0, .ref _)]) C dX6_ring_18 (by decide) rfl ?_
    refine hq_perm [0, 2, 1, 3] (L' := [(4, .int (nI 0)), (1, .long σ1.1), (3, .int (nI a)), (0, .ref (hw_ad b0 26 0))]) rfl ?_
    refine lp_back (pf_r2' nb a) (fun (b : Nat) (σ2 : Int64 × MJ) => hw_V p l e rX6_ring s m args below meth c (MQ below (hw_Q D b0 false 271 (some (.long (ps_ring N nb).1)) (hw_vl b0 I J (uI P 40 0 0) (ps_ring N nb).2 o)) args s 0 0 (fun q => b0 ≤ q)) D b0 6 false 0 0 271 20 [(4, .int (nI b)), (1, .long σ2.1), (3, .int (nI a)), (0, .ref (hw_ad b0 26 0))] [] (hw_vl b0 I J (uI P 40 0 0) σ2.2 o)) (fun _ _ => True) nb ?_ (fun _ _ _ _ => trivial) nb 0 σ1 (by omega) trivial ?_
    · intro b σ2 hi2 hinv2 k2
      refine hq_iload (q := 0) C dX6_ring_20 rfl ?_
      refine hq_aload_n (q := 3) C dX6_ring_22 rfl rfl ?_
      refine hq_getP (f := 26) (g := 0) (Nc := 1) (Ns := 38) C fr_X6_113 dX6_ring_23 rfl rfl rfl rfl rfl (by decide) Nat.one_pos ?_
      refine hq_icmp_ge (tgt := 88) C dX6_ring_26 (by decide) (fun c_26 => absurd c_26 (by rw [show uI P 40 0 0 0 0 = nI nb from hbc]; exact nI_ge hi2 (by omega))) (fun c_26 => ?_)
      refine hq_iconst (y := 0) C dX6_ring_29 (by decide) ?_
      refine hq_istore (L' := [(5, .int _), (4, .int _), (1, .long _), (3, .int _), (0, .ref _)]) C dX6_ring_30 (by decide) rfl ?_
      refine hq_perm [0, 2, 3, 1, 4] (L' := [(5, .int (nI 0)), (1, .long σ2.1), (3, .int (nI a)), (4, .int (nI b)), (0, .ref (hw_ad b0 26 0))]) rfl ?_
      refine lp_back (pf_r1 a b) (fun (c9 : Nat) (σ3 : Int64 × MJ) => hw_V p l e rX6_ring s m args below meth c (MQ below (hw_Q D b0 false 271 (some (.long (ps_ring N nb).1)) (hw_vl b0 I J (uI P 40 0 0) (ps_ring N nb).2 o)) args s 0 0 (fun q => b0 ≤ q)) D b0 6 false 0 0 271 32 [(5, .int (nI c9)), (1, .long σ3.1), (3, .int (nI a)), (4, .int (nI b)), (0, .ref (hw_ad b0 26 0))] [] (hw_vl b0 I J (uI P 40 0 0) σ3.2 o)) (fun _ _ => True) nb ?_ (fun _ _ _ _ => trivial) nb 0 σ2 (by omega) trivial ?_
      · intro c9 σ3 hi3 hinv3 k3
        refine hq_iload (q := 0) C dX6_ring_32 rfl ?_
        refine hq_aload_n (q := 4) C dX6_ring_34 rfl rfl ?_
        refine hq_getP (f := 26) (g := 0) (Nc := 1) (Ns := 38) C fr_X6_113 dX6_ring_35 rfl rfl rfl rfl rfl (by decide) Nat.one_pos ?_
        refine hq_icmp_ge (tgt := 82) C dX6_ring_38 (by decide) (fun c_38 => absurd c_38 (by rw [show uI P 40 0 0 0 0 = nI nb from hbc]; exact nI_ge hi3 (by omega))) (fun c_38 => ?_)
        refine hq_lload_n (q := 1) C dX6_ring_41 rfl rfl ?_
        refine hq_iload_n (q := 2) C dX6_ring_42 rfl rfl ?_
        refine hq_iload (q := 3) C dX6_ring_43 rfl ?_
        refine hq_icmp_eq (tgt := 73) C dX6_ring_45 (by decide) (fun c_45 => ?_) (fun c_45 => ?_)
        · refine hq_lconst (y := 0) C dX6_ring_73 rfl ?_
          refine hq_ladd C dX6_ring_74 ?_
          refine hq_lstore_n (L' := [(1, .long _), (5, .int _), (3, .int _), (4, .int _), (0, .ref _)]) C dX6_ring_75 rfl (by decide) rfl ?_
          refine hq_iinc (q := 1) (y := nI (_ + 1)) (L' := [(5, .int _), (1, .long _), (3, .int _), (4, .int _), (0, .ref _)]) C dX6_ring_76 rfl (hw_inc _) (by decide) rfl ?_
          refine hq_goto (tgt := 32) C dX6_ring_79 (by decide) ?_
          rw [show pf_r1 a b c9 σ3 = _ from (if_pos c_45)] at k3
          exact hq_fin [0, 1, 2, 3, 4] rfl rfl rfl rfl rfl rfl k3
        · refine hq_iload (q := 3) C dX6_ring_48 rfl ?_
          refine hq_iload (q := 0) C dX6_ring_50 rfl ?_
          refine hq_icmp_eq (tgt := 73) C dX6_ring_52 (by decide) (fun c_52 => ?_) (fun c_52 => ?_)
          · refine hq_lconst (y := 0) C dX6_ring_73 rfl ?_
            refine hq_ladd C dX6_ring_74 ?_
            refine hq_lstore_n (L' := [(1, .long _), (5, .int _), (3, .int _), (4, .int _), (0, .ref _)]) C dX6_ring_75 rfl (by decide) rfl ?_
            refine hq_iinc (q := 1) (y := nI (_ + 1)) (L' := [(5, .int _), (1, .long _), (3, .int _), (4, .int _), (0, .ref _)]) C dX6_ring_76 rfl (hw_inc _) (by decide) rfl ?_
            refine hq_goto (tgt := 32) C dX6_ring_79 (by decide) ?_
            rw [show pf_r1 a b c9 σ3 = _ from ((if_neg c_45).trans (if_pos c_52))] at k3
            exact hq_fin [0, 1, 2, 3, 4] rfl rfl rfl rfl rfl rfl k3
          · refine hq_iload_n (q := 2) C dX6_ring_55 rfl rfl ?_
            refine hq_iload (q := 0) C dX6_ring_56 rfl ?_
            refine hq_icmp_eq (tgt := 73) C dX6_ring_58 (by decide) (fun c_58 => ?_) (fun c_58 => ?_)
            · refine hq_lconst (y := 0) C dX6_ring_73 rfl ?_
              refine hq_ladd C dX6_ring_74 ?_
              refine hq_lstore_n (L' := [(1, .long _), (5, .int _), (3, .int _), (4, .int _), (0, .ref _)]) C dX6_ring_75 rfl (by decide) rfl ?_
              refine hq_iinc (q := 1) (y := nI (_ + 1)) (L' := [(5, .int _), (1, .long _), (3, .int _), (4, .int _), (0, .ref _)]) C dX6_ring_76 rfl (hw_inc _) (by decide) rfl ?_
              refine hq_goto (tgt := 32) C dX6_ring_79 (by decide) ?_
              rw [show pf_r1 a b c9 σ3 = _ from (((if_neg c_45).trans (if_neg c_52)).trans (if_pos c_58))] at k3
              exact hq_fin [0, 1, 2, 3, 4] rfl rfl rfl rfl rfl rfl k3
            · refine hq_aload_n (q := 4) C dX6_ring_61 rfl rfl ?_
              refine hq_iload_n (q := 2) C dX6_ring_62 rfl rfl ?_
              refine hq_iload (q := 3) C dX6_ring_63 rfl ?_
              refine hq_iload (q := 0) C dX6_ring_65 rfl ?_
              refine hq_cVr (As := [.int _, .int _, .int _]) (rm := rX6_clear) (f := 26) (Nc := 1) C (m_X6_clear (a := a) (b := b) (d := c9) rfl (by omega) rfl (by omega) rfl (by omega)) wv_X6_clear ml_X6_216 rfl rfl rfl Nat.one_pos rfl rfl rfl rfl ⟨Nat.le_of_ble_eq_true rfl, Nat.le_of_ble_eq_true rfl⟩ (Nat.le_of_ble_eq_true rfl) ⟨Nat.le_of_ble_eq_true rfl, Nat.le_of_ble_eq_true rfl⟩ dX6_ring_67 ?_
              refine hq_goto (tgt := 74) C dX6_ring_70 (by decide) ?_
              refine hq_ladd C dX6_ring_74 ?_
              refine hq_lstore_n (L' := [(1, .long _), (5, .int _), (3, .int _), (4, .int _), (0, .ref _)]) C dX6_ring_75 rfl (by decide) rfl ?_
              refine hq_iinc (q := 1) (y := nI (_ + 1)) (L' := [(5, .int _), (1, .long _), (3, .int _), (4, .int _), (0, .ref _)]) C dX6_ring_76 rfl (hw_inc _) (by decide) rfl ?_
              refine hq_goto (tgt := 32) C dX6_ring_79 (by decide) ?_
              rw [show pf_r1 a b c9 σ3 = _ from (((if_neg c_45).trans (if_neg c_52)).trans (if_neg c_58))] at k3
              exact hq_fin [0, 1, 2, 3, 4] rfl rfl rfl rfl rfl rfl k3
      · refine hq_iload (q := 0) C dX6_ring_32 rfl ?_
        refine hq_aload_n (q := 4) C dX6_ring_34 rfl rfl ?_
        refine hq_getP (f := 26) (g := 0) (Nc := 1) (Ns := 38) C fr_X6_113 dX6_ring_35 rfl rfl rfl rfl rfl (by decide) Nat.one_pos ?_
        refine hq_icmp_ge (tgt := 82) C dX6_ring_38 (by decide) (fun c_38 => ?_) (fun c_38 => absurd (by rw [show uI P 40 0 0 0 0 = nI nb from hbc]; exact nI_le (Nat.le_refl nb) (by omega)) c_38)
        refine hq_iinc (q := 3) (y := nI (_ + 1)) (L' := [(4, .int _), (5, .int _), (1, .long _), (3, .int _), (0, .ref _)]) C dX6_ring_82 rfl (hw_inc _) (by decide) rfl ?_
        refine hq_goto (tgt := 20) C dX6_ring_85 (by decide) ?_
        exact hq_fin [0, 2, 3, 4] rfl rfl rfl rfl rfl rfl k2
    · refine hq_iload (q := 0) C dX6_ring_20 rfl ?_
      refine hq_aload_n (q := 3) C dX6_ring_22 rfl rfl ?_
      refine hq_getP (f := 26) (g := 0) (Nc := 1) (Ns := 38) C fr_X6_113 dX6_ring_23 rfl rfl rfl rfl rfl (by decide) Nat.one_pos ?_
      refine hq_icmp_ge (tgt := 88) C dX6_ring_26 (by decide) (fun c_26 => ?_) (fun c_26 => absurd (by rw [show uI P 40 0 0 0 0 = nI nb from hbc]; exact nI_le (Nat.le_refl nb) (by omega)) c_26)
      refine hq_iinc (q := 2) (y := nI (_ + 1)) (L' := [(3, .int _), (4, .int _), (1, .long _), (0, .ref _)]) C dX6_ring_88 rfl (hw_inc _) (by decide) rfl ?_
      refine hq_goto (tgt := 9) C dX6_ring_91 (by decide) ?_
      exact hq_fin [0, 2, 3] rfl rfl rfl rfl rfl rfl k1
  · refine hq_iload_n (q := 0) C dX6_ring_9 rfl rfl ?_
    refine hq_aload_n (q := 2) C dX6_ring_10 rfl rfl ?_
    refine hq_getP (f := 26) (g := 0) (Nc := 1) (Ns := 38) C fr_X6_113 dX6_ring_11 rfl rfl rfl rfl rfl (by decide) Nat.one_pos ?_
    refine hq_icmp_ge (tgt := 94) C dX6_ring_14 (by decide) (fun c_14 => ?_) (fun c_14 => absurd (by rw [show uI P 40 0 0 0 0 = nI nb from hbc]; exact nI_le (Nat.le_refl nb) (by omega)) c_14)
    refine hq_lload_n (q := 1) C dX6_ring_94 rfl rfl ?_
    exact hq_lret C hr hlk dX6_ring_95 rfl rfl
