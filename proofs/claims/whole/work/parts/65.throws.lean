/-! the model: order and way that throw before the search -/
set_option maxHeartbeats 4000000 in
set_option maxRecDepth 100000 in
theorem m_X6_order_x {l : Launch} {D : va_G} {b0 : Nat} {I : MI} {J : MJ} {P : MI} {N : MJ} {o : Int64} {x y z w v : Int32} {nb no nc : Nat} (h : pv_iv P nb no nc) (hx9 : sx_br2 P x y = 0 ∨ sx_in w 0 19 = 0 ∨ x = y ∨ sx_in z 1 1000000 = 0 ∨ sx_in v 0 9999 = 0 ∨ 40 ≤ P 1 0 ∨ ¬ P 30 (tn w) = 0) : hM l yX6_order cX6_order 10 (some .int) rX6_order D b0 [.ref (hw_ad b0 26 0), .int x, .int y, .int z, .int w, .int v] I J P N o (some (.int (ps_order P N x y z w v nb no).1)) I J (ps_order P N x y z w v nb no).2.1 (ps_order P N x y z w v nb no).2.2 o := by
  have hnb := h.1.2
  have hno := h.2.1.2
  have hbc := h.1.1
  have hoc := h.2.1.1
  refine hw_Mof (by decide) [(0, .ref _), (1, .int _), (2, .int _), (3, .int _), (4, .int _), (5, .int _)] rfl (Nat.le_of_ble_eq_true rfl) ?_
  intro p e s m args below meth c C hr hlk hnm
  refine hq_aload_n (q := 0) C dX6_order_0 rfl rfl ?_
  refine hq_iload_n (q := 1) C dX6_order_1 rfl rfl ?_
  refine hq_iload_n (q := 2) C dX6_order_2 rfl rfl ?_
  refine hq_cVr (As := [.int _, .int _]) (rm := rX6_areBrokers) (f := 26) (Nc := 1) C (m_X6_areBrokers) wv_X6_areBrokers ml_X6_127 rfl rfl rfl Nat.one_pos rfl rfl rfl rfl ⟨Nat.le_of_ble_eq_true rfl, Nat.le_of_ble_eq_true rfl⟩ (Nat.le_of_ble_eq_true rfl) ⟨Nat.le_of_ble_eq_true rfl, Nat.le_of_ble_eq_true rfl⟩ dX6_order_3 ?_
  refine hq_if_eq (tgt := 24) C dX6_order_6 (by decide) (fun c_6 => ?_) (fun c_6 => ?_)
  · refine hq_iconst (y := 0) C dX6_order_24 (by decide) ?_
    refine hq_istore (L' := [(6, .int _), (0, .ref _), (1, .int _), (2, .int _), (3, .int _), (4, .int _), (5, .int _)]) C dX6_order_25 (by decide) rfl ?_
    refine hq_iload_n (q := 2) C dX6_order_27 rfl rfl ?_
    refine hq_iload_n (q := 3) C dX6_order_28 rfl rfl ?_
    refine hq_icmp_eq (tgt := 58) C dX6_order_29 (by decide) (fun c_29 => ?_) (fun c_29 => ?_)
    · refine hq_iconst (y := 0) C dX6_order_58 (by decide) ?_
      refine hq_istore (L' := [(7, .int _), (6, .int _), (0, .ref _), (1, .int _), (2, .int _), (3, .int _), (4, .int _), (5, .int _)]) C dX6_order_59 (by decide) rfl ?_
      refine hq_iload (q := 1) C dX6_order_61 rfl ?_
      refine hq_if_eq (tgt := 101) C dX6_order_63 (by decide) (fun _ => ?_) (fun c_63 => absurd c_63 (by decide))
      refine hq_iconst (y := 0) C dX6_order_101 (by decide) ?_
      refine hq_istore (L' := [(8, .int _), (7, .int _), (6, .int _), (0, .ref _), (1, .int _), (2, .int _), (3, .int _), (4, .int _), (5, .int _)]) C dX6_order_102 (by decide) rfl ?_
      refine hq_aload_n (q := 3) C dX6_order_104 rfl rfl ?_
      refine hq_iload (q := 2) C dX6_order_105 rfl ?_
      refine hq_if_ne (tgt := 114) C dX6_order_107 (by decide) (fun c_107 => absurd c_107 (by decide)) (fun _ => ?_)
      refine hq_iconst (y := 1) C dX6_order_110 (by decide) ?_
      refine hq_goto (tgt := 133) C dX6_order_111 (by decide) ?_
      refine hq_cVr (As := [.int _]) (rm := rX6_goesWell) (f := 26) (Nc := 1) C (m_X6_goesWell) wv_X6_goesWell ml_X6_124 rfl rfl rfl Nat.one_pos rfl rfl rfl rfl ⟨Nat.le_of_ble_eq_true rfl, Nat.le_of_ble_eq_true rfl⟩ (Nat.le_of_ble_eq_true rfl) ⟨Nat.le_of_ble_eq_true rfl, Nat.le_of_ble_eq_true rfl⟩ dX6_order_133 ?_
      refine hq_if_ne (tgt := 141) C dX6_order_136 (by decide) (fun c_136 => absurd c_136 (by decide)) (fun _ => ?_)
      refine hq_iconst (y := 0) C dX6_order_139 (by decide) ?_
      exact hq_iret C hr hlk dX6_order_140 (by rw [show (ps_order P N x y z w v nb no) = _ from (if_pos c_6)]; first | rfl | exact if_pos ⟨rfl, rfl⟩ | skip) (by rw [show (ps_order P N x y z w v nb no) = _ from (if_pos c_6)]; first | rfl | exact if_pos ⟨rfl, rfl⟩ | skip)
    · refine hq_iload_n (q := 4) C dX6_order_32 rfl rfl ?_
      refine hq_iconst (y := 1) C dX6_order_33 (by decide) ?_
      refine hq_ldc C wc_X6_87 dX6_order_34 ?_
      refine hq_cSr (As := [.int _, .int _, .int _]) (rm := rX6_in) (Cn := "") C (m_X6_in) ws_X6_in ml_X6_116 rfl rfl rfl rfl ⟨Nat.le_of_ble_eq_true rfl, Nat.le_of_ble_eq_true rfl⟩ (Nat.le_of_ble_eq_true rfl) ⟨Nat.le_of_ble_eq_true rfl, Nat.le_of_ble_eq_true rfl⟩ dX6_order_36 ?_
      refine hq_if_eq (tgt := 58) C dX6_order_39 (by decide) (fun c_39 => ?_) (fun c_39 => ?_)
      · refine hq_iconst (y := 0) C dX6_order_58 (by decide) ?_
        refine hq_istore (L' := [(7, .int _), (6, .int _), (0, .ref _), (1, .int _), (2, .int _), (3, .int _), (4, .int _), (5, .int _)]) C dX6_order_59 (by decide) rfl ?_
        refine hq_iload (q := 1) C dX6_order_61 rfl ?_
        refine hq_if_eq (tgt := 101) C dX6_order_63 (by decide) (fun _ => ?_) (fun c_63 => absurd c_63 (by decide))
        refine hq_iconst (y := 0) C dX6_order_101 (by decide) ?_
        refine hq_istore (L' := [(8, .int _), (7, .int _), (6, .int _), (0, .ref _), (1, .int _), (2, .int _), (3, .int _), (4, .int _), (5, .int _)]) C dX6_order_102 (by decide) rfl ?_
        refine hq_aload_n (q := 3) C dX6_order_104 rfl rfl ?_
        refine hq_iload (q := 2) C dX6_order_105 rfl ?_
        refine hq_if_ne (tgt := 114) C dX6_order_107 (by decide) (fun c_107 => absurd c_107 (by decide)) (fun _ => ?_)
        refine hq_iconst (y := 1) C dX6_order_110 (by decide) ?_
        refine hq_goto (tgt := 133) C dX6_order_111 (by decide) ?_
        refine hq_cVr (As := [.int _]) (rm := rX6_goesWell) (f := 26) (Nc := 1) C (m_X6_goesWell) wv_X6_goesWell ml_X6_124 rfl rfl rfl Nat.one_pos rfl rfl rfl rfl ⟨Nat.le_of_ble_eq_true rfl, Nat.le_of_ble_eq_true rfl⟩ (Nat.le_of_ble_eq_true rfl) ⟨Nat.le_of_ble_eq_true rfl, Nat.le_of_ble_eq_true rfl⟩ dX6_order_133 ?_
        refine hq_if_ne (tgt := 141) C dX6_order_136 (by decide) (fun c_136 => absurd c_136 (by decide)) (fun _ => ?_)
        refine hq_iconst (y := 0) C dX6_order_139 (by decide) ?_
        exact hq_iret C hr hlk dX6_order_140 (by rw [show (ps_order P N x y z w v nb no) = _ from (if_pos c_6)]; first | rfl | exact if_pos ⟨rfl, rfl⟩ | skip) (by rw [show (ps_order P N x y z w v nb no) = _ from (if_pos c_6)]; first | rfl | exact if_pos ⟨rfl, rfl⟩ | skip)
      · refine hq_iload (q := 6) C dX6_order_42 rfl ?_
        refine hq_iconst (y := 0) C dX6_order_44 (by decide) ?_
        refine hq_sipush (y := 9999) C dX6_order_45 (by decide) ?_
        refine hq_cSr (As := [.int _, .int _, .int _]) (rm := rX6_in) (Cn := "") C (m_X6_in) ws_X6_in ml_X6_116 rfl rfl rfl rfl ⟨Nat.le_of_ble_eq_true rfl, Nat.le_of_ble_eq_true rfl⟩ (Nat.le_of_ble_eq_true rfl) ⟨Nat.le_of_ble_eq_true rfl, Nat.le_of_ble_eq_true rfl⟩ dX6_order_48 ?_
        refine hq_if_eq (tgt := 58) C dX6_order_51 (by decide) (fun c_51 => ?_) (fun c_51 => ?_)
        · refine hq_iconst (y := 0) C dX6_order_58 (by decide) ?_
          refine hq_istore (L' := [(7, .int _), (6, .int _), (0, .ref _), (1, .int _), (2, .int _), (3, .int _), (4, .int _), (5, .int _)]) C dX6_order_59 (by decide) rfl ?_
          refine hq_iload (q := 1) C dX6_order_61 rfl ?_
          refine hq_if_eq (tgt := 101) C dX6_order_63 (by decide) (fun _ => ?_) (fun c_63 => absurd c_63 (by decide))
          refine hq_iconst (y := 0) C dX6_order_101 (by decide) ?_
          refine hq_istore (L' := [(8, .int _), (7, .int _), (6, .int _), (0, .ref _), (1, .int _), (2, .int _), (3, .int _), (4, .int _), (5, .int _)]) C dX6_order_102 (by decide) rfl ?_
          refine hq_aload_n (q := 3) C dX6_order_104 rfl rfl ?_
          refine hq_iload (q := 2) C dX6_order_105 rfl ?_
          refine hq_if_ne (tgt := 114) C dX6_order_107 (by decide) (fun c_107 => absurd c_107 (by decide)) (fun _ => ?_)
          refine hq_iconst (y := 1) C dX6_order_110 (by decide) ?_
          refine hq_goto (tgt := 133) C dX6_order_111 (by decide) ?_
          refine hq_cVr (As := [.int _]) (rm := rX6_goesWell) (f := 26) (Nc := 1) C (m_X6_goesWell) wv_X6_goesWell ml_X6_124 rfl rfl rfl Nat.one_pos rfl rfl rfl rfl ⟨Nat.le_of_ble_eq_true rfl, Nat.le_of_ble_eq_true rfl⟩ (Nat.le_of_ble_eq_true rfl) ⟨Nat.le_of_ble_eq_true rfl, Nat.le_of_ble_eq_true rfl⟩ dX6_order_133 ?_
          refine hq_if_ne (tgt := 141) C dX6_order_136 (by decide) (fun c_136 => absurd c_136 (by decide)) (fun _ => ?_)
          refine hq_iconst (y := 0) C dX6_order_139 (by decide) ?_
          exact hq_iret C hr hlk dX6_order_140 (by rw [show (ps_order P N x y z w v nb no) = _ from (if_pos c_6)]; first | rfl | exact if_pos ⟨rfl, rfl⟩ | skip) (by rw [show (ps_order P N x y z w v nb no) = _ from (if_pos c_6)]; first | rfl | exact if_pos ⟨rfl, rfl⟩ | skip)
        · refine hq_iconst (y := 1) C dX6_order_54 (by decide) ?_
          refine hq_goto (tgt := 59) C dX6_order_55 (by decide) ?_
          refine hq_istore (L' := [(7, .int _), (6, .int _), (0, .ref _), (1, .int _), (2, .int _), (3, .int _), (4, .int _), (5, .int _)]) C dX6_order_59 (by decide) rfl ?_
          refine hq_iload (q := 1) C dX6_order_61 rfl ?_
          refine hq_if_eq (tgt := 101) C dX6_order_63 (by decide) (fun _ => ?_) (fun c_63 => absurd c_63 (by decide))
          refine hq_iconst (y := 0) C dX6_order_101 (by decide) ?_
          refine hq_istore (L' := [(8, .int _), (7, .int _), (6, .int _), (0, .ref _), (1, .int _), (2, .int _), (3, .int _), (4, .int _), (5, .int _)]) C dX6_order_102 (by decide) rfl ?_
          refine hq_aload_n (q := 3) C dX6_order_104 rfl rfl ?_
          refine hq_iload (q := 2) C dX6_order_105 rfl ?_
          refine hq_if_ne (tgt := 114) C dX6_order_107 (by decide) (fun c_107 => absurd c_107 (by decide)) (fun _ => ?_)
          refine hq_iconst (y := 1) C dX6_order_110 (by decide) ?_
          refine hq_goto (tgt := 133) C dX6_order_111 (by decide) ?_
          refine hq_cVr (As := [.int _]) (rm := rX6_goesWell) (f := 26) (Nc := 1) C (m_X6_goesWell) wv_X6_goesWell ml_X6_124 rfl rfl rfl Nat.one_pos rfl rfl rfl rfl ⟨Nat.le_of_ble_eq_true rfl, Nat.le_of_ble_eq_true rfl⟩ (Nat.le_of_ble_eq_true rfl) ⟨Nat.le_of_ble_eq_true rfl, Nat.le_of_ble_eq_true rfl⟩ dX6_order_133 ?_
          refine hq_if_ne (tgt := 141) C dX6_order_136 (by decide) (fun c_136 => absurd c_136 (by decide)) (fun _ => ?_)
          refine hq_iconst (y := 0) C dX6_order_139 (by decide) ?_
          exact hq_iret C hr hlk dX6_order_140 (by rw [show (ps_order P N x y z w v nb no) = _ from (if_pos c_6)]; first | rfl | exact if_pos ⟨rfl, rfl⟩ | skip) (by rw [show (ps_order P N x y z w v nb no) = _ from (if_pos c_6)]; first | rfl | exact if_pos ⟨rfl, rfl⟩ | skip)
  · refine hq_iload (q := 4) C dX6_order_9 rfl ?_
    refine hq_iconst (y := 0) C dX6_order_11 (by decide) ?_
    refine hq_bipush (y := 19) C dX6_order_12 (by decide) ?_
    refine hq_cSr (As := [.int _, .int _, .int _]) (rm := rX6_in) (Cn := "") C (m_X6_in) ws_X6_in ml_X6_116 rfl rfl rfl rfl ⟨Nat.le_of_ble_eq_true rfl, Nat.le_of_ble_eq_true rfl⟩ (Nat.le_of_ble_eq_true rfl) ⟨Nat.le_of_ble_eq_true rfl, Nat.le_of_ble_eq_true rfl⟩ dX6_order_14 ?_
    refine hq_if_eq (tgt := 24) C dX6_order_17 (by decide) (fun c_17 => ?_) (fun c_17 => ?_)
    · refine hq_iconst (y := 0) C dX6_order_24 (by decide) ?_
      refine hq_istore (L' := [(6, .int _), (0, .ref _), (1, .int _), (2, .int _), (3, .int _), (4, .int _), (5, .int _)]) C dX6_order_25 (by decide) rfl ?_
      refine hq_iload_n (q := 2) C dX6_order_27 rfl rfl ?_
      refine hq_iload_n (q := 3) C dX6_order_28 rfl rfl ?_
      refine hq_icmp_eq (tgt := 58) C dX6_order_29 (by decide) (fun c_29 => ?_) (fun c_29 => ?_)
      · refine hq_iconst (y := 0) C dX6_order_58 (by decide) ?_
        refine hq_istore (L' := [(7, .int _), (6, .int _), (0, .ref _), (1, .int _), (2, .int _), (3, .int _), (4, .int _), (5, .int _)]) C dX6_order_59 (by decide) rfl ?_
        refine hq_iload (q := 1) C dX6_order_61 rfl ?_
        refine hq_if_eq (tgt := 101) C dX6_order_63 (by decide) (fun _ => ?_) (fun c_63 => absurd c_63 (by decide))
        refine hq_iconst (y := 0) C dX6_order_101 (by decide) ?_
        refine hq_istore (L' := [(8, .int _), (7, .int _), (6, .int _), (0, .ref _), (1, .int _), (2, .int _), (3, .int _), (4, .int _), (5, .int _)]) C dX6_order_102 (by decide) rfl ?_
        refine hq_aload_n (q := 3) C dX6_order_104 rfl rfl ?_
        refine hq_iload (q := 2) C dX6_order_105 rfl ?_
        refine hq_if_ne (tgt := 114) C dX6_order_107 (by decide) (fun c_107 => absurd c_107 (by decide)) (fun _ => ?_)
        refine hq_iconst (y := 1) C dX6_order_110 (by decide) ?_
        refine hq_goto (tgt := 133) C dX6_order_111 (by decide) ?_
        refine hq_cVr (As := [.int _]) (rm := rX6_goesWell) (f := 26) (Nc := 1) C (m_X6_goesWell) wv_X6_goesWell ml_X6_124 rfl rfl rfl Nat.one_pos rfl rfl rfl rfl ⟨Nat.le_of_ble_eq_true rfl, Nat.le_of_ble_eq_true rfl⟩ (Nat.le_of_ble_eq_true rfl) ⟨Nat.le_of_ble_eq_true rfl, Nat.le_of_ble_eq_true rfl⟩ dX6_order_133 ?_
        refine hq_if_ne (tgt := 141) C dX6_order_136 (by decide) (fun c_136 => absurd c_136 (by decide)) (fun _ => ?_)
        refine hq_iconst (y := 0) C dX6_order_139 (by decide) ?_
        exact hq_iret C hr hlk dX6_order_140 (by rw [show (ps_order P N x y z w v nb no) = _ from ((if_neg c_6).trans (if_pos c_17))]; first | rfl | exact if_pos ⟨rfl, rfl⟩ | skip) (by rw [show (ps_order P N x y z w v nb no) = _ from ((if_neg c_6).trans (if_pos c_17))]; first | rfl | exact if_pos ⟨rfl, rfl⟩ | skip)
      · refine hq_iload_n (q := 4) C dX6_order_32 rfl rfl ?_
        refine hq_iconst (y := 1) C dX6_order_33 (by decide) ?_
        refine hq_ldc C wc_X6_87 dX6_order_34 ?_
        refine hq_cSr (As := [.int _, .int _, .int _]) (rm := rX6_in) (Cn := "") C (m_X6_in) ws_X6_in ml_X6_116 rfl rfl rfl rfl ⟨Nat.le_of_ble_eq_true rfl, Nat.le_of_ble_eq_true rfl⟩ (Nat.le_of_ble_eq_true rfl) ⟨Nat.le_of_ble_eq_true rfl, Nat.le_of_ble_eq_true rfl⟩ dX6_order_36 ?_
        refine hq_if_eq (tgt := 58) C dX6_order_39 (by decide) (fun c_39 => ?_) (fun c_39 => ?_)
        · refine hq_iconst (y := 0) C dX6_order_58 (by decide) ?_
          refine hq_istore (L' := [(7, .int _), (6, .int _), (0, .ref _), (1, .int _), (2, .int _), (3, .int _), (4, .int _), (5, .int _)]) C dX6_order_59 (by decide) rfl ?_
          refine hq_iload (q := 1) C dX6_order_61 rfl ?_
          refine hq_if_eq (tgt := 101) C dX6_order_63 (by decide) (fun _ => ?_) (fun c_63 => absurd c_63 (by decide))
          refine hq_iconst (y := 0) C dX6_order_101 (by decide) ?_
          refine hq_istore (L' := [(8, .int _), (7, .int _), (6, .int _), (0, .ref _), (1, .int _), (2, .int _), (3, .int _), (4, .int _), (5, .int _)]) C dX6_order_102 (by decide) rfl ?_
          refine hq_aload_n (q := 3) C dX6_order_104 rfl rfl ?_
          refine hq_iload (q := 2) C dX6_order_105 rfl ?_
          refine hq_if_ne (tgt := 114) C dX6_order_107 (by decide) (fun c_107 => absurd c_107 (by decide)) (fun _ => ?_)
          refine hq_iconst (y := 1) C dX6_order_110 (by decide) ?_
          refine hq_goto (tgt := 133) C dX6_order_111 (by decide) ?_
          refine hq_cVr (As := [.int _]) (rm := rX6_goesWell) (f := 26) (Nc := 1) C (m_X6_goesWell) wv_X6_goesWell ml_X6_124 rfl rfl rfl Nat.one_pos rfl rfl rfl rfl ⟨Nat.le_of_ble_eq_true rfl, Nat.le_of_ble_eq_true rfl⟩ (Nat.le_of_ble_eq_true rfl) ⟨Nat.le_of_ble_eq_true rfl, Nat.le_of_ble_eq_true rfl⟩ dX6_order_133 ?_
          refine hq_if_ne (tgt := 141) C dX6_order_136 (by decide) (fun c_136 => absurd c_136 (by decide)) (fun _ => ?_)
          refine hq_iconst (y := 0) C dX6_order_139 (by decide) ?_
          exact hq_iret C hr hlk dX6_order_140 (by rw [show (ps_order P N x y z w v nb no) = _ from ((if_neg c_6).trans (if_pos c_17))]; first | rfl | exact if_pos ⟨rfl, rfl⟩ | skip) (by rw [show (ps_order P N x y z w v nb no) = _ from ((if_neg c_6).trans (if_pos c_17))]; first | rfl | exact if_pos ⟨rfl, rfl⟩ | skip)
        · refine hq_iload (q := 6) C dX6_order_42 rfl ?_
          refine hq_iconst (y := 0) C dX6_order_44 (by decide) ?_
          refine hq_sipush (y := 9999) C dX6_order_45 (by decide) ?_
          refine hq_cSr (As := [.int _, .int _, .int _]) (rm := rX6_in) (Cn := "") C (m_X6_in) ws_X6_in ml_X6_116 rfl rfl rfl rfl ⟨Nat.le_of_ble_eq_true rfl, Nat.le_of_ble_eq_true rfl⟩ (Nat.le_of_ble_eq_true rfl) ⟨Nat.le_of_ble_eq_true rfl, Nat.le_of_ble_eq_true rfl⟩ dX6_order_48 ?_
          refine hq_if_eq (tgt := 58) C dX6_order_51 (by decide) (fun c_51 => ?_) (fun c_51 => ?_)
          · refine hq_iconst (y := 0) C dX6_order_58 (by decide) ?_
            refine hq_istore (L' := [(7, .int _), (6, .int _), (0, .ref _), (1, .int _), (2, .int _), (3, .int _), (4, .int _), (5, .int _)]) C dX6_order_59 (by decide) rfl ?_
            refine hq_iload (q := 1) C dX6_order_61 rfl ?_
            refine hq_if_eq (tgt := 101) C dX6_order_63 (by decide) (fun _ => ?_) (fun c_63 => absurd c_63 (by decide))
            refine hq_iconst (y := 0) C dX6_order_101 (by decide) ?_
            refine hq_istore (L' := [(8, .int _), (7, .int _), (6, .int _), (0, .ref _), (1, .int _), (2, .int _), (3, .int _), (4, .int _), (5, .int _)]) C dX6_order_102 (by decide) rfl ?_
            refine hq_aload_n (q := 3) C dX6_order_104 rfl rfl ?_
            refine hq_iload (q := 2) C dX6_order_105 rfl ?_
            refine hq_if_ne (tgt := 114) C dX6_order_107 (by decide) (fun c_107 => absurd c_107 (by decide)) (fun _ => ?_)
            refine hq_iconst (y := 1) C dX6_order_110 (by decide) ?_
            refine hq_goto (tgt := 133) C dX6_order_111 (by decide) ?_
            refine hq_cVr (As := [.int _]) (rm := rX6_goesWell) (f := 26) (Nc := 1) C (m_X6_goesWell) wv_X6_goesWell ml_X6_124 rfl rfl rfl Nat.one_pos rfl rfl rfl rfl ⟨Nat.le_of_ble_eq_true rfl, Nat.le_of_ble_eq_true rfl⟩ (Nat.le_of_ble_eq_true rfl) ⟨Nat.le_of_ble_eq_true rfl, Nat.le_of_ble_eq_true rfl⟩ dX6_order_133 ?_
            refine hq_if_ne (tgt := 141) C dX6_order_136 (by decide) (fun c_136 => absurd c_136 (by decide)) (fun _ => ?_)
            refine hq_iconst (y := 0) C dX6_order_139 (by decide) ?_
            exact hq_iret C hr hlk dX6_order_140 (by rw [show (ps_order P N x y z w v nb no) = _ from ((if_neg c_6).trans (if_pos c_17))]; first | rfl | exact if_pos ⟨rfl, rfl⟩ | skip) (by rw [show (ps_order P N x y z w v nb no) = _ from ((if_neg c_6).trans (if_pos c_17))]; first | rfl | exact if_pos ⟨rfl, rfl⟩ | skip)
          · refine hq_iconst (y := 1) C dX6_order_54 (by decide) ?_
            refine hq_goto (tgt := 59) C dX6_order_55 (by decide) ?_
            refine hq_istore (L' := [(7, .int _), (6, .int _), (0, .ref _), (1, .int _), (2, .int _), (3, .int _), (4, .int _), (5, .int _)]) C dX6_order_59 (by decide) rfl ?_
            refine hq_iload (q := 1) C dX6_order_61 rfl ?_
            refine hq_if_eq (tgt := 101) C dX6_order_63 (by decide) (fun _ => ?_) (fun c_63 => absurd c_63 (by decide))
            refine hq_iconst (y := 0) C dX6_order_101 (by decide) ?_
            refine hq_istore (L' := [(8, .int _), (7, .int _), (6, .int _), (0, .ref _), (1, .int _), (2, .int _), (3, .int _), (4, .int _), (5, .int _)]) C dX6_order_102 (by decide) rfl ?_
            refine hq_aload_n (q := 3) C dX6_order_104 rfl rfl ?_
            refine hq_iload (q := 2) C dX6_order_105 rfl ?_
            refine hq_if_ne (tgt := 114) C dX6_order_107 (by decide) (fun c_107 => absurd c_107 (by decide)) (fun _ => ?_)
            refine hq_iconst (y := 1) C dX6_order_110 (by decide) ?_
            refine hq_goto (tgt := 133) C dX6_order_111 (by decide) ?_
            refine hq_cVr (As := [.int _]) (rm := rX6_goesWell) (f := 26) (Nc := 1) C (m_X6_goesWell) wv_X6_goesWell ml_X6_124 rfl rfl rfl Nat.one_pos rfl rfl rfl rfl ⟨Nat.le_of_ble_eq_true rfl, Nat.le_of_ble_eq_true rfl⟩ (Nat.le_of_ble_eq_true rfl) ⟨Nat.le_of_ble_eq_true rfl, Nat.le_of_ble_eq_true rfl⟩ dX6_order_133 ?_
            refine hq_if_ne (tgt := 141) C dX6_order_136 (by decide) (fun c_136 => absurd c_136 (by decide)) (fun _ => ?_)
            refine hq_iconst (y := 0) C dX6_order_139 (by decide) ?_
            exact hq_iret C hr hlk dX6_order_140 (by rw [show (ps_order P N x y z w v nb no) = _ from ((if_neg c_6).trans (if_pos c_17))]; first | rfl | exact if_pos ⟨rfl, rfl⟩ | skip) (by rw [show (ps_order P N x y z w v nb no) = _ from ((if_neg c_6).trans (if_pos c_17))]; first | rfl | exact if_pos ⟨rfl, rfl⟩ | skip)
    · refine hq_iconst (y := 1) C dX6_order_20 (by decide) ?_
      refine hq_goto (tgt := 25) C dX6_order_21 (by decide) ?_
      refine hq_istore (L' := [(6, .int _), (0, .ref _), (1, .int _), (2, .int _), (3, .int _), (4, .int _), (5, .int _)]) C dX6_order_25 (by decide) rfl ?_
      refine hq_iload_n (q := 2) C dX6_order_27 rfl rfl ?_
      refine hq_iload_n (q := 3) C dX6_order_28 rfl rfl ?_
      refine hq_icmp_eq (tgt := 58) C dX6_order_29 (by decide) (fun c_29 => ?_) (fun c_29 => ?_)
      · refine hq_iconst (y := 0) C dX6_order_58 (by decide) ?_
        refine hq_istore (L' := [(7, .int _), (6, .int _), (0, .ref _), (1, .int _), (2, .int _), (3, .int _), (4, .int _), (5, .int _)]) C dX6_order_59 (by decide) rfl ?_
        refine hq_iload (q := 1) C dX6_order_61 rfl ?_
        refine hq_if_eq (tgt := 101) C dX6_order_63 (by decide) (fun c_63 => absurd c_63 (by decide)) (fun _ => ?_)
        refine hq_iload (q := 0) C dX6_order_66 rfl ?_
        refine hq_if_eq (tgt := 101) C dX6_order_68 (by decide) (fun _ => ?_) (fun c_68 => absurd c_68 (by decide))
        refine hq_iconst (y := 0) C dX6_order_101 (by decide) ?_
        refine hq_istore (L' := [(8, .int _), (7, .int _), (6, .int _), (0, .ref _), (1, .int _), (2, .int _), (3, .int _), (4, .int _), (5, .int _)]) C dX6_order_102 (by decide) rfl ?_
        refine hq_aload_n (q := 3) C dX6_order_104 rfl rfl ?_
        refine hq_iload (q := 2) C dX6_order_105 rfl ?_
        refine hq_if_ne (tgt := 114) C dX6_order_107 (by decide) (fun _ => ?_) (fun c_107 => absurd c_107 (by decide))
        refine hq_iload (q := 1) C dX6_order_114 rfl ?_
        refine hq_if_ne (tgt := 123) C dX6_order_116 (by decide) (fun c_116 => absurd c_116 (by decide)) (fun _ => ?_)
        refine hq_iconst (y := 2) C dX6_order_119 (by decide) ?_
        refine hq_goto (tgt := 133) C dX6_order_120 (by decide) ?_
        refine hq_cVr (As := [.int _]) (rm := rX6_goesWell) (f := 26) (Nc := 1) C (m_X6_goesWell) wv_X6_goesWell ml_X6_124 rfl rfl rfl Nat.one_pos rfl rfl rfl rfl ⟨Nat.le_of_ble_eq_true rfl, Nat.le_of_ble_eq_true rfl⟩ (Nat.le_of_ble_eq_true rfl) ⟨Nat.le_of_ble_eq_true rfl, Nat.le_of_ble_eq_true rfl⟩ dX6_order_133 ?_
        refine hq_if_ne (tgt := 141) C dX6_order_136 (by decide) (fun c_136 => absurd c_136 (by decide)) (fun _ => ?_)
        refine hq_iconst (y := 0) C dX6_order_139 (by decide) ?_
        exact hq_iret C hr hlk dX6_order_140 (by rw [show (ps_order P N x y z w v nb no) = _ from (((if_neg c_6).trans (if_neg c_17)).trans (if_pos c_29))]; first | rfl | exact if_pos ⟨rfl, rfl⟩ | skip) (by rw [show (ps_order P N x y z w v nb no) = _ from (((if_neg c_6).trans (if_neg c_17)).trans (if_pos c_29))]; first | rfl | exact if_pos ⟨rfl, rfl⟩ | skip)
      · refine hq_iload_n (q := 4) C dX6_order_32 rfl rfl ?_
        refine hq_iconst (y := 1) C dX6_order_33 (by decide) ?_
        refine hq_ldc C wc_X6_87 dX6_order_34 ?_
        refine hq_cSr (As := [.int _, .int _, .int _]) (rm := rX6_in) (Cn := "") C (m_X6_in) ws_X6_in ml_X6_116 rfl rfl rfl rfl ⟨Nat.le_of_ble_eq_true rfl, Nat.le_of_ble_eq_true rfl⟩ (Nat.le_of_ble_eq_true rfl) ⟨Nat.le_of_ble_eq_true rfl, Nat.le_of_ble_eq_true rfl⟩ dX6_order_36 ?_
        refine hq_if_eq (tgt := 58) C dX6_order_39 (by decide) (fun c_39 => ?_) (fun c_39 => ?_)
        · refine hq_iconst (y := 0) C dX6_order_58 (by decide) ?_
          refine hq_istore (L' := [(7, .int _), (6, .int _), (0, .ref _), (1, .int _), (2, .int _), (3, .int _), (4, .int _), (5, .int _)]) C dX6_order_59 (by decide) rfl ?_
          refine hq_iload (q := 1) C dX6_order_61 rfl ?_
          refine hq_if_eq (tgt := 101) C dX6_order_63 (by decide) (fun c_63 => absurd c_63 (by decide)) (fun _ => ?_)
          refine hq_iload (q := 0) C dX6_order_66 rfl ?_
          refine hq_if_eq (tgt := 101) C dX6_order_68 (by decide) (fun _ => ?_) (fun c_68 => absurd c_68 (by decide))
          refine hq_iconst (y := 0) C dX6_order_101 (by decide) ?_
          refine hq_istore (L' := [(8, .int _), (7, .int _), (6, .int _), (0, .ref _), (1, .int _), (2, .int _), (3, .int _), (4, .int _), (5, .int _)]) C dX6_order_102 (by decide) rfl ?_
          refine hq_aload_n (q := 3) C dX6_order_104 rfl rfl ?_
          refine hq_iload (q := 2) C dX6_order_105 rfl ?_
          refine hq_if_ne (tgt := 114) C dX6_order_107 (by decide) (fun _ => ?_) (fun c_107 => absurd c_107 (by decide))
          refine hq_iload (q := 1) C dX6_order_114 rfl ?_
          refine hq_if_ne (tgt := 123) C dX6_order_116 (by decide) (fun c_116 => absurd c_116 (by decide)) (fun _ => ?_)
          refine hq_iconst (y := 2) C dX6_order_119 (by decide) ?_
          refine hq_goto (tgt := 133) C dX6_order_120 (by decide) ?_
          refine hq_cVr (As := [.int _]) (rm := rX6_goesWell) (f := 26) (Nc := 1) C (m_X6_goesWell) wv_X6_goesWell ml_X6_124 rfl rfl rfl Nat.one_pos rfl rfl rfl rfl ⟨Nat.le_of_ble_eq_true rfl, Nat.le_of_ble_eq_true rfl⟩ (Nat.le_of_ble_eq_true rfl) ⟨Nat.le_of_ble_eq_true rfl, Nat.le_of_ble_eq_true rfl⟩ dX6_order_133 ?_
          refine hq_if_ne (tgt := 141) C dX6_order_136 (by decide) (fun c_136 => absurd c_136 (by decide)) (fun _ => ?_)
          refine hq_iconst (y := 0) C dX6_order_139 (by decide) ?_
          exact hq_iret C hr hlk dX6_order_140 (by rw [show (ps_order P N x y z w v nb no) = _ from ((((if_neg c_6).trans (if_neg c_17)).trans (if_neg c_29)).trans (if_pos c_39))]; first | rfl | exact if_pos ⟨rfl, rfl⟩ | skip) (by rw [show (ps_order P N x y z w v nb no) = _ from ((((if_neg c_6).trans (if_neg c_17)).trans (if_neg c_29)).trans (if_pos c_39))]; first | rfl | exact if_pos ⟨rfl, rfl⟩ | skip)
        · refine hq_iload (q := 6) C dX6_order_42 rfl ?_
          refine hq_iconst (y := 0) C dX6_order_44 (by decide) ?_
          refine hq_sipush (y := 9999) C dX6_order_45 (by decide) ?_
          refine hq_cSr (As := [.int _, .int _, .int _]) (rm := rX6_in) (Cn := "") C (m_X6_in) ws_X6_in ml_X6_116 rfl rfl rfl rfl ⟨Nat.le_of_ble_eq_true rfl, Nat.le_of_ble_eq_true rfl⟩ (Nat.le_of_ble_eq_true rfl) ⟨Nat.le_of_ble_eq_true rfl, Nat.le_of_ble_eq_true rfl⟩ dX6_order_48 ?_
          refine hq_if_eq (tgt := 58) C dX6_order_51 (by decide) (fun c_51 => ?_) (fun c_51 => ?_)
          · refine hq_iconst (y := 0) C dX6_order_58 (by decide) ?_
            refine hq_istore (L' := [(7, .int _), (6, .int _), (0, .ref _), (1, .int _), (2, .int _), (3, .int _), (4, .int _), (5, .int _)]) C dX6_order_59 (by decide) rfl ?_
            refine hq_iload (q := 1) C dX6_order_61 rfl ?_
            refine hq_if_eq (tgt := 101) C dX6_order_63 (by decide) (fun c_63 => absurd c_63 (by decide)) (fun _ => ?_)
            refine hq_iload (q := 0) C dX6_order_66 rfl ?_
            refine hq_if_eq (tgt := 101) C dX6_order_68 (by decide) (fun _ => ?_) (fun c_68 => absurd c_68 (by decide))
            refine hq_iconst (y := 0) C dX6_order_101 (by decide) ?_
            refine hq_istore (L' := [(8, .int _), (7, .int _), (6, .int _), (0, .ref _), (1, .int _), (2, .int _), (3, .int _), (4, .int _), (5, .int _)]) C dX6_order_102 (by decide) rfl ?_
            refine hq_aload_n (q := 3) C dX6_order_104 rfl rfl ?_
            refine hq_iload (q := 2) C dX6_order_105 rfl ?_
            refine hq_if_ne (tgt := 114) C dX6_order_107 (by decide) (fun _ => ?_) (fun c_107 => absurd c_107 (by decide))
            refine hq_iload (q := 1) C dX6_order_114 rfl ?_
            refine hq_if_ne (tgt := 123) C dX6_order_116 (by decide) (fun c_116 => absurd c_116 (by decide)) (fun _ => ?_)
            refine hq_iconst (y := 2) C dX6_order_119 (by decide) ?_
            refine hq_goto (tgt := 133) C dX6_order_120 (by decide) ?_
            refine hq_cVr (As := [.int _]) (rm := rX6_goesWell) (f := 26) (Nc := 1) C (m_X6_goesWell) wv_X6_goesWell ml_X6_124 rfl rfl rfl Nat.one_pos rfl rfl rfl rfl ⟨Nat.le_of_ble_eq_true rfl, Nat.le_of_ble_eq_true rfl⟩ (Nat.le_of_ble_eq_true rfl) ⟨Nat.le_of_ble_eq_true rfl, Nat.le_of_ble_eq_true rfl⟩ dX6_order_133 ?_
            refine hq_if_ne (tgt := 141) C dX6_order_136 (by decide) (fun c_136 => absurd c_136 (by decide)) (fun _ => ?_)
            refine hq_iconst (y := 0) C dX6_order_139 (by decide) ?_
            exact hq_iret C hr hlk dX6_order_140 (by rw [show (ps_order P N x y z w v nb no) = _ from (((((if_neg c_6).trans (if_neg c_17)).trans (if_neg c_29)).trans (if_neg c_39)).trans (if_pos c_51))]; first | rfl | exact if_pos ⟨rfl, rfl⟩ | skip) (by rw [show (ps_order P N x y z w v nb no) = _ from (((((if_neg c_6).trans (if_neg c_17)).trans (if_neg c_29)).trans (if_neg c_39)).trans (if_pos c_51))]; first | rfl | exact if_pos ⟨rfl, rfl⟩ | skip)
          · refine hq_iconst (y := 1) C dX6_order_54 (by decide) ?_
            refine hq_goto (tgt := 59) C dX6_order_55 (by decide) ?_
            refine hq_istore (L' := [(7, .int _), (6, .int _), (0, .ref _), (1, .int _), (2, .int _), (3, .int _), (4, .int _), (5, .int _)]) C dX6_order_59 (by decide) rfl ?_
            refine hq_iload (q := 1) C dX6_order_61 rfl ?_
            refine hq_if_eq (tgt := 101) C dX6_order_63 (by decide) (fun c_63 => absurd c_63 (by decide)) (fun _ => ?_)
            refine hq_iload (q := 0) C dX6_order_66 rfl ?_
            refine hq_if_eq (tgt := 101) C dX6_order_68 (by decide) (fun c_68 => absurd c_68 (by decide)) (fun _ => ?_)
            refine hq_aload_n (q := 2) C dX6_order_71 rfl rfl ?_
            refine hq_getP (f := 26) (g := 1) (Nc := 1) (Ns := 38) C fr_X6_181 dX6_order_72 rfl rfl rfl rfl rfl (by decide) Nat.one_pos ?_
            refine hq_bipush (y := 40) C dX6_order_75 (by decide) ?_
            refine hq_icmp_ge (tgt := 101) C dX6_order_77 (by decide) (fun c_77 => ?_) (fun c_77 => ?_)
            · refine hq_iconst (y := 0) C dX6_order_101 (by decide) ?_
              refine hq_istore (L' := [(8, .int _), (7, .int _), (6, .int _), (0, .ref _), (1, .int _), (2, .int _), (3, .int _), (4, .int _), (5, .int _)]) C dX6_order_102 (by decide) rfl ?_
              refine hq_aload_n (q := 3) C dX6_order_104 rfl rfl ?_
              refine hq_iload (q := 2) C dX6_order_105 rfl ?_
              refine hq_if_ne (tgt := 114) C dX6_order_107 (by decide) (fun _ => ?_) (fun c_107 => absurd c_107 (by decide))
              refine hq_iload (q := 1) C dX6_order_114 rfl ?_
              refine hq_if_ne (tgt := 123) C dX6_order_116 (by decide) (fun _ => ?_) (fun c_116 => absurd c_116 (by decide))
              refine hq_iload (q := 0) C dX6_order_123 rfl ?_
              refine hq_if_ne (tgt := 132) C dX6_order_125 (by decide) (fun c_125 => absurd c_125 (by decide)) (fun _ => ?_)
              refine hq_iconst (y := 3) C dX6_order_128 (by decide) ?_
              refine hq_goto (tgt := 133) C dX6_order_129 (by decide) ?_
              refine hq_cVr (As := [.int _]) (rm := rX6_goesWell) (f := 26) (Nc := 1) C (m_X6_goesWell) wv_X6_goesWell ml_X6_124 rfl rfl rfl Nat.one_pos rfl rfl rfl rfl ⟨Nat.le_of_ble_eq_true rfl, Nat.le_of_ble_eq_true rfl⟩ (Nat.le_of_ble_eq_true rfl) ⟨Nat.le_of_ble_eq_true rfl, Nat.le_of_ble_eq_true rfl⟩ dX6_order_133 ?_
              refine hq_if_ne (tgt := 141) C dX6_order_136 (by decide) (fun c_136 => absurd c_136 (by decide)) (fun _ => ?_)
              refine hq_iconst (y := 0) C dX6_order_139 (by decide) ?_
              exact hq_iret C hr hlk dX6_order_140 (by rw [show (ps_order P N x y z w v nb no) = _ from ((((((if_neg c_6).trans (if_neg c_17)).trans (if_neg c_29)).trans (if_neg c_39)).trans (if_neg c_51)).trans (if_pos c_77))]; first | rfl | exact if_pos ⟨rfl, rfl⟩ | skip) (by rw [show (ps_order P N x y z w v nb no) = _ from ((((((if_neg c_6).trans (if_neg c_17)).trans (if_neg c_29)).trans (if_neg c_39)).trans (if_neg c_51)).trans (if_pos c_77))]; first | rfl | exact if_pos ⟨rfl, rfl⟩ | skip)
            · have h40 : no < 40 := by
                rcases Nat.lt_or_ge no 40 with z9 | z9
                · exact z9
                · exact absurd (by rw [hoc]; exact nI_le z9 (by omega) : (40 : Int32) ≤ P 1 0) c_77
              obtain ⟨hwx, hwb⟩ := in_c (n := 19) (by decide) (by omega) c_17
              refine hq_aload_n (q := 2) C dX6_order_80 rfl rfl ?_
              refine hq_getR (f := 26) (g := 54) (Nc := 1) (Ns := 38) C fr_X6_94 dX6_order_81 rfl rfl rfl rfl rfl (by decide) Nat.one_pos ?_
              refine hq_iload (q := 6) C dX6_order_84 rfl ?_
              refine hq_zaldP0 (f := 54) (a := tn w) (g := 30) (Nc := 1) (Ns := 20) C dX6_order_86 rfl rfl rfl rfl rfl rfl hwx (by omega) Nat.one_pos ?_
              refine hq_if_ne (tgt := 101) C dX6_order_87 (by decide) (fun c_87 => ?_) (fun c_87 => ?_)
              · refine hq_iconst (y := 0) C dX6_order_101 (by decide) ?_
                refine hq_istore (L' := [(8, .int _), (7, .int _), (6, .int _), (0, .ref _), (1, .int _), (2, .int _), (3, .int _), (4, .int _), (5, .int _)]) C dX6_order_102 (by decide) rfl ?_
                refine hq_aload_n (q := 3) C dX6_order_104 rfl rfl ?_
                refine hq_iload (q := 2) C dX6_order_105 rfl ?_
                refine hq_if_ne (tgt := 114) C dX6_order_107 (by decide) (fun _ => ?_) (fun c_107 => absurd c_107 (by decide))
                refine hq_iload (q := 1) C dX6_order_114 rfl ?_
                refine hq_if_ne (tgt := 123) C dX6_order_116 (by decide) (fun _ => ?_) (fun c_116 => absurd c_116 (by decide))
                refine hq_iload (q := 0) C dX6_order_123 rfl ?_
                refine hq_if_ne (tgt := 132) C dX6_order_125 (by decide) (fun c_125 => absurd c_125 (by decide)) (fun _ => ?_)
                refine hq_iconst (y := 3) C dX6_order_128 (by decide) ?_
                refine hq_goto (tgt := 133) C dX6_order_129 (by decide) ?_
                refine hq_cVr (As := [.int _]) (rm := rX6_goesWell) (f := 26) (Nc := 1) C (m_X6_goesWell) wv_X6_goesWell ml_X6_124 rfl rfl rfl Nat.one_pos rfl rfl rfl rfl ⟨Nat.le_of_ble_eq_true rfl, Nat.le_of_ble_eq_true rfl⟩ (Nat.le_of_ble_eq_true rfl) ⟨Nat.le_of_ble_eq_true rfl, Nat.le_of_ble_eq_true rfl⟩ dX6_order_133 ?_
                refine hq_if_ne (tgt := 141) C dX6_order_136 (by decide) (fun c_136 => absurd c_136 (by decide)) (fun _ => ?_)
                refine hq_iconst (y := 0) C dX6_order_139 (by decide) ?_
                exact hq_iret C hr hlk dX6_order_140 (by rw [show (ps_order P N x y z w v nb no) = _ from (((((((if_neg c_6).trans (if_neg c_17)).trans (if_neg c_29)).trans (if_neg c_39)).trans (if_neg c_51)).trans (if_neg c_77)).trans (if_pos c_87))]; first | rfl | exact if_pos ⟨rfl, rfl⟩ | skip) (by rw [show (ps_order P N x y z w v nb no) = _ from (((((((if_neg c_6).trans (if_neg c_17)).trans (if_neg c_29)).trans (if_neg c_39)).trans (if_neg c_51)).trans (if_neg c_77)).trans (if_pos c_87))]; first | rfl | exact if_pos ⟨rfl, rfl⟩ | skip)
              · refine hq_aload_n (q := 2) C dX6_order_90 rfl rfl ?_
                exact absurd hx9 (by simp [c_6, c_17, c_29, c_39, c_51, c_77, c_87])
set_option maxHeartbeats 4000000 in
set_option maxRecDepth 100000 in
theorem m_X6_way_x {l : Launch} {D : va_G} {b0 : Nat} {I : MI} {J : MJ} {P : MI} {N : MJ} {o : Int64} {x y z w : Int32} {nb no nc : Nat} (h : pv_iv P nb no nc) (hx9 : sx_br2 P x y = 0 ∨ w < 0 ∨ x = y ∨ sx_in z 1 1000000 = 0) : hM l yX6_way cX6_way 7 (some .int) rX6_way D b0 [.ref (hw_ad b0 26 0), .int x, .int y, .int z, .int w] I J P N o (some (.int (ps_way P N x y z w nb).1)) I J (ps_way P N x y z w nb).2.1 (ps_way P N x y z w nb).2.2 o := by
  have hnb := h.1.2
  have hbc := h.1.1
  refine hw_Mof (by decide) [(0, .ref _), (1, .int _), (2, .int _), (3, .int _), (4, .int _)] rfl (Nat.le_of_ble_eq_true rfl) ?_
  intro p e s m args below meth c C hr hlk hnm
  refine hq_aload_n (q := 0) C dX6_way_0 rfl rfl ?_
  refine hq_iload_n (q := 1) C dX6_way_1 rfl rfl ?_
  refine hq_iload_n (q := 2) C dX6_way_2 rfl rfl ?_
  refine hq_cVr (As := [.int _, .int _]) (rm := rX6_areBrokers) (f := 26) (Nc := 1) C (m_X6_areBrokers) wv_X6_areBrokers ml_X6_127 rfl rfl rfl Nat.one_pos rfl rfl rfl rfl ⟨Nat.le_of_ble_eq_true rfl, Nat.le_of_ble_eq_true rfl⟩ (Nat.le_of_ble_eq_true rfl) ⟨Nat.le_of_ble_eq_true rfl, Nat.le_of_ble_eq_true rfl⟩ dX6_way_3 ?_
  refine hq_if_eq (tgt := 18) C dX6_way_6 (by decide) (fun c_6 => ?_) (fun c_6 => ?_)
  · refine hq_iconst (y := 0) C dX6_way_18 (by decide) ?_
    refine hq_istore (L' := [(5, .int _), (0, .ref _), (1, .int _), (2, .int _), (3, .int _), (4, .int _)]) C dX6_way_19 (by decide) rfl ?_
    refine hq_aload_n (q := 1) C dX6_way_21 rfl rfl ?_
    refine hq_iload (q := 0) C dX6_way_22 rfl ?_
    refine hq_if_ne (tgt := 31) C dX6_way_24 (by decide) (fun c_24 => absurd c_24 (by decide)) (fun _ => ?_)
    refine hq_iconst (y := 1) C dX6_way_27 (by decide) ?_
    refine hq_goto (tgt := 51) C dX6_way_28 (by decide) ?_
    refine hq_cVr (As := [.int _]) (rm := rX6_goesWell) (f := 26) (Nc := 1) C (m_X6_goesWell) wv_X6_goesWell ml_X6_124 rfl rfl rfl Nat.one_pos rfl rfl rfl rfl ⟨Nat.le_of_ble_eq_true rfl, Nat.le_of_ble_eq_true rfl⟩ (Nat.le_of_ble_eq_true rfl) ⟨Nat.le_of_ble_eq_true rfl, Nat.le_of_ble_eq_true rfl⟩ dX6_way_51 ?_
    refine hq_if_ne (tgt := 59) C dX6_way_54 (by decide) (fun c_54 => absurd c_54 (by decide)) (fun _ => ?_)
    refine hq_iconst (y := 0) C dX6_way_57 (by decide) ?_
    exact hq_iret C hr hlk dX6_way_58 (by rw [show (ps_way P N x y z w nb) = _ from (if_pos c_6)]; first | rfl | exact if_pos ⟨rfl, rfl⟩ | skip) (by rw [show (ps_way P N x y z w nb) = _ from (if_pos c_6)]; first | rfl | exact if_pos ⟨rfl, rfl⟩ | skip)
  · refine hq_iload (q := 4) C dX6_way_9 rfl ?_
    refine hq_if_lt (tgt := 18) C dX6_way_11 (by decide) (fun c_11 => ?_) (fun c_11 => ?_)
    · refine hq_iconst (y := 0) C dX6_way_18 (by decide) ?_
      refine hq_istore (L' := [(5, .int _), (0, .ref _), (1, .int _), (2, .int _), (3, .int _), (4, .int _)]) C dX6_way_19 (by decide) rfl ?_
      refine hq_aload_n (q := 1) C dX6_way_21 rfl rfl ?_
      refine hq_iload (q := 0) C dX6_way_22 rfl ?_
      refine hq_if_ne (tgt := 31) C dX6_way_24 (by decide) (fun c_24 => absurd c_24 (by decide)) (fun _ => ?_)
      refine hq_iconst (y := 1) C dX6_way_27 (by decide) ?_
      refine hq_goto (tgt := 51) C dX6_way_28 (by decide) ?_
      refine hq_cVr (As := [.int _]) (rm := rX6_goesWell) (f := 26) (Nc := 1) C (m_X6_goesWell) wv_X6_goesWell ml_X6_124 rfl rfl rfl Nat.one_pos rfl rfl rfl rfl ⟨Nat.le_of_ble_eq_true rfl, Nat.le_of_ble_eq_true rfl⟩ (Nat.le_of_ble_eq_true rfl) ⟨Nat.le_of_ble_eq_true rfl, Nat.le_of_ble_eq_true rfl⟩ dX6_way_51 ?_
      refine hq_if_ne (tgt := 59) C dX6_way_54 (by decide) (fun c_54 => absurd c_54 (by decide)) (fun _ => ?_)
      refine hq_iconst (y := 0) C dX6_way_57 (by decide) ?_
      exact hq_iret C hr hlk dX6_way_58 (by rw [show (ps_way P N x y z w nb) = _ from ((if_neg c_6).trans (if_pos c_11))]; first | rfl | exact if_pos ⟨rfl, rfl⟩ | skip) (by rw [show (ps_way P N x y z w nb) = _ from ((if_neg c_6).trans (if_pos c_11))]; first | rfl | exact if_pos ⟨rfl, rfl⟩ | skip)
    · refine hq_iconst (y := 1) C dX6_way_14 (by decide) ?_
      refine hq_goto (tgt := 19) C dX6_way_15 (by decide) ?_
      refine hq_istore (L' := [(5, .int _), (0, .ref _), (1, .int _), (2, .int _), (3, .int _), (4, .int _)]) C dX6_way_19 (by decide) rfl ?_
      refine hq_aload_n (q := 1) C dX6_way_21 rfl rfl ?_
      refine hq_iload (q := 0) C dX6_way_22 rfl ?_
      refine hq_if_ne (tgt := 31) C dX6_way_24 (by decide) (fun _ => ?_) (fun c_24 => absurd c_24 (by decide))
      refine hq_iload_n (q := 2) C dX6_way_31 rfl rfl ?_
      refine hq_iload_n (q := 3) C dX6_way_32 rfl rfl ?_
      refine hq_icmp_eq (tgt := 50) C dX6_way_33 (by decide) (fun c_33 => ?_) (fun c_33 => ?_)
      · refine hq_iconst (y := 2) C dX6_way_50 (by decide) ?_
        refine hq_cVr (As := [.int _]) (rm := rX6_goesWell) (f := 26) (Nc := 1) C (m_X6_goesWell) wv_X6_goesWell ml_X6_124 rfl rfl rfl Nat.one_pos rfl rfl rfl rfl ⟨Nat.le_of_ble_eq_true rfl, Nat.le_of_ble_eq_true rfl⟩ (Nat.le_of_ble_eq_true rfl) ⟨Nat.le_of_ble_eq_true rfl, Nat.le_of_ble_eq_true rfl⟩ dX6_way_51 ?_
        refine hq_if_ne (tgt := 59) C dX6_way_54 (by decide) (fun c_54 => absurd c_54 (by decide)) (fun _ => ?_)
        refine hq_iconst (y := 0) C dX6_way_57 (by decide) ?_
        exact hq_iret C hr hlk dX6_way_58 (by rw [show (ps_way P N x y z w nb) = _ from (((if_neg c_6).trans (if_neg c_11)).trans (if_pos c_33))]; first | rfl | exact if_pos ⟨rfl, rfl⟩ | skip) (by rw [show (ps_way P N x y z w nb) = _ from (((if_neg c_6).trans (if_neg c_11)).trans (if_pos c_33))]; first | rfl | exact if_pos ⟨rfl, rfl⟩ | skip)
      · refine hq_iload_n (q := 4) C dX6_way_36 rfl rfl ?_
        refine hq_iconst (y := 1) C dX6_way_37 (by decide) ?_
        refine hq_ldc C wc_X6_87 dX6_way_38 ?_
        refine hq_cSr (As := [.int _, .int _, .int _]) (rm := rX6_in) (Cn := "") C (m_X6_in) ws_X6_in ml_X6_116 rfl rfl rfl rfl ⟨Nat.le_of_ble_eq_true rfl, Nat.le_of_ble_eq_true rfl⟩ (Nat.le_of_ble_eq_true rfl) ⟨Nat.le_of_ble_eq_true rfl, Nat.le_of_ble_eq_true rfl⟩ dX6_way_40 ?_
        refine hq_if_eq (tgt := 50) C dX6_way_43 (by decide) (fun c_43 => ?_) (fun c_43 => ?_)
        · refine hq_iconst (y := 2) C dX6_way_50 (by decide) ?_
          refine hq_cVr (As := [.int _]) (rm := rX6_goesWell) (f := 26) (Nc := 1) C (m_X6_goesWell) wv_X6_goesWell ml_X6_124 rfl rfl rfl Nat.one_pos rfl rfl rfl rfl ⟨Nat.le_of_ble_eq_true rfl, Nat.le_of_ble_eq_true rfl⟩ (Nat.le_of_ble_eq_true rfl) ⟨Nat.le_of_ble_eq_true rfl, Nat.le_of_ble_eq_true rfl⟩ dX6_way_51 ?_
          refine hq_if_ne (tgt := 59) C dX6_way_54 (by decide) (fun c_54 => absurd c_54 (by decide)) (fun _ => ?_)
          refine hq_iconst (y := 0) C dX6_way_57 (by decide) ?_
          exact hq_iret C hr hlk dX6_way_58 (by rw [show (ps_way P N x y z w nb) = _ from ((((if_neg c_6).trans (if_neg c_11)).trans (if_neg c_33)).trans (if_pos c_43))]; first | rfl | exact if_pos ⟨rfl, rfl⟩ | skip) (by rw [show (ps_way P N x y z w nb) = _ from ((((if_neg c_6).trans (if_neg c_11)).trans (if_neg c_33)).trans (if_pos c_43))]; first | rfl | exact if_pos ⟨rfl, rfl⟩ | skip)
        · refine hq_iconst (y := 0) C dX6_way_46 (by decide) ?_
          refine hq_goto (tgt := 51) C dX6_way_47 (by decide) ?_
          refine hq_cVr (As := [.int _]) (rm := rX6_goesWell) (f := 26) (Nc := 1) C (m_X6_goesWell) wv_X6_goesWell ml_X6_124 rfl rfl rfl Nat.one_pos rfl rfl rfl rfl ⟨Nat.le_of_ble_eq_true rfl, Nat.le_of_ble_eq_true rfl⟩ (Nat.le_of_ble_eq_true rfl) ⟨Nat.le_of_ble_eq_true rfl, Nat.le_of_ble_eq_true rfl⟩ dX6_way_51 ?_
          refine hq_if_ne (tgt := 59) C dX6_way_54 (by decide) (fun _ => ?_) (fun c_54 => absurd c_54 (by decide))
          refine hq_aload_n (q := 1) C dX6_way_59 rfl rfl ?_
          exact absurd hx9 (by simp [c_6, c_11, c_33, c_43])
