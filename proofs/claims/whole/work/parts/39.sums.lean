/-! the model: way, sum, inquiry -/
def ps_way (P : MI) (N : MJ) (x y z w : Int32) (nb : Nat) : Int32 × MI × MJ := if sx_br2 P x y = 0 then (0, uI P 40 0 1, N) else if w < 0 then (0, uI P 40 0 1, N) else if x = y then (0, uI P 40 0 2, N) else if sx_in z 1 1000000 = 0 then (0, uI P 40 0 2, N)
  else if 0 ≤ lg_cmp ((po_W (uI P 40 0 0) N y z nb).2 5 (tn x)) 1000000000000 then (-1, (po_W (uI P 40 0 0) N y z nb).1, (po_W (uI P 40 0 0) N y z nb).2)
  else if nI (po_n (uI P 40 0 0) N x y z nb + 1) ≤ w then (-1, po_K (uI P 40 0 0) N x y z nb, (po_W (uI P 40 0 0) N y z nb).2) else (po_K (uI P 40 0 0) N x y z nb 43 (tn w), po_K (uI P 40 0 0) N x y z nb, (po_W (uI P 40 0 0) N y z nb).2)
set_option maxHeartbeats 4000000 in
set_option maxRecDepth 100000 in
theorem m_X6_way_a {l : Launch} {D : va_G} {b0 : Nat} {I : MI} {J : MJ} {P : MI} {N : MJ} {o : Int64} {x y z w : Int32} {nb no nc : Nat} (h : pv_iv P nb no nc) (hf : po_far (uI P 40 0 0) N x y z nb) : hM l yX6_way cX6_way 7 (some .int) rX6_way D b0 [.ref (hw_ad b0 26 0), .int x, .int y, .int z, .int w] I J P N o (some (.int (ps_way P N x y z w nb).1)) I J (ps_way P N x y z w nb).2.1 (ps_way P N x y z w nb).2.2 o := by
  have hnb := h.1.2
  have hbc := h.1.1
  refine hw_Mof (by decide) [(0, .ref _), (1, .int _), (2, .int _), (3, .int _), (4, .int _)] rfl (Nat.le_of_ble_eq_true rfl) ?_
  intro p e s m args below meth c C hr hlk hnm
  refine hq_aload_n (q := 0) C dX6_way_0 rfl rfl ?_
  refine hq_iload_n (q := 1) C dX6_way_1 rfl rfl ?_
  refine hq_iload_n (q := 2) C dX6_way_2 rfl rfl ?_
  refine hq_cVr (As := [.int _, .int _]) (rm := rX6_areBrokers) (f := 26) (Nc := 1) C (m_X6_areBrokers) wv_X6_areBrokers ml_X6_127 rfl rfl rfl Nat.one_pos rfl rfl rfl rfl ⟨Nat.le_of_ble_eq_true rfl, Nat.le_of_ble_eq_true rfl⟩ (Nat.le_of_ble_eq_true rfl) ⟨Nat.le_of_ble_eq_true rfl, Nat.le_of_ble_eq_true rfl⟩ dX6_way_3 ?_
  refine hq_if_eq (tgt := 18) C dX6_way_6 (by decide) (fun c_6 => ?_) (fun c_6 => ?_)
  · refine hq_iconst (y := 0) C dX6_way_18 (by decide) ?_
    refine hq_istore (L' := [(5, .int _), (0, .ref _), (1, .int _), (2, .int _), (3, .int _), (4, .int _)]) C dX6_way_19 (by decide) rfl ?_
    refine hq_aload_n (q := 1) C dX6_way_21 rfl rfl ?_
    refine hq_iload (q := 0) C dX6_way_22 rfl ?_
    refine hq_if_ne (tgt := 31) C dX6_way_24 (by decide) (fun c_24 => absurd c_24 (by decide)) (fun _ => ?_)
    refine hq_iconst (y := 1) C dX6_way_27 (by decide) ?_
    refine hq_goto (tgt := 51) C dX6_way_28 (by decide) ?_
    refine hq_cVr (As := [.int _]) (rm := rX6_goesWell) (f := 26) (Nc := 1) C (m_X6_goesWell) wv_X6_goesWell ml_X6_124 rfl rfl rfl Nat.one_pos rfl rfl rfl rfl ⟨Nat.le_of_ble_eq_true rfl, Nat.le_of_ble_eq_true rfl⟩ (Nat.le_of_ble_eq_true rfl) ⟨Nat.le_of_ble_eq_true rfl, Nat.le_of_ble_eq_true rfl⟩ dX6_way_51 ?_
    refine hq_if_ne (tgt := 59) C dX6_way_54 (by decide) (fun c_54 => absurd c_54 (by decide)) (fun _ => ?_)
    refine hq_iconst (y := 0) C dX6_way_57 (by decide) ?_
    exact hq_iret C hr hlk dX6_way_58 (by rw [show (ps_way P N x y z w nb) = _ from (if_pos c_6)]; first | rfl | exact if_pos ⟨rfl, rfl⟩ | skip) (by rw [show (ps_way P N x y z w nb) = _ from (if_pos c_6)]; first | rfl | exact if_pos ⟨rfl, rfl⟩ | skip)
  · refine hq_iload (q := 4) C dX6_way_9 rfl ?_
    refine hq_if_lt (tgt := 18) C dX6_way_11 (by decide) (fun c_11 => ?_) (fun c_11 => ?_)
    · refine hq_iconst (y := 0) C dX6_way_18 (by decide) ?_
      refine hq_istore (L' := [(5, .int _), (0, .ref _), (1, .int _), (2, .int _), (3, .int _), (4, .int _)]) C dX6_way_19 (by decide) rfl ?_
      refine hq_aload_n (q := 1) C dX6_way_21 rfl rfl ?_
      refine hq_iload (q := 0) C dX6_way_22 rfl ?_
      refine hq_if_ne (tgt := 31) C dX6_way_24 (by decide) (fun c_24 => absurd c_24 (by decide)) (fun _ => ?_)
      refine hq_iconst (y := 1) C dX6_way_27 (by decide) ?_
      refine hq_goto (tgt := 51) C dX6_way_28 (by decide) ?_
      refine hq_cVr (As := [.int _]) (rm := rX6_goesWell) (f := 26) (Nc := 1) C (m_X6_goesWell) wv_X6_goesWell ml_X6_124 rfl rfl rfl Nat.one_pos rfl rfl rfl rfl ⟨Nat.le_of_ble_eq_true rfl, Nat.le_of_ble_eq_true rfl⟩ (Nat.le_of_ble_eq_true rfl) ⟨Nat.le_of_ble_eq_true rfl, Nat.le_of_ble_eq_true rfl⟩ dX6_way_51 ?_
      refine hq_if_ne (tgt := 59) C dX6_way_54 (by decide) (fun c_54 => absurd c_54 (by decide)) (fun _ => ?_)
      refine hq_iconst (y := 0) C dX6_way_57 (by decide) ?_
      exact hq_iret C hr hlk dX6_way_58 (by rw [show (ps_way P N x y z w nb) = _ from ((if_neg c_6).trans (if_pos c_11))]; first | rfl | exact if_pos ⟨rfl, rfl⟩ | skip) (by rw [show (ps_way P N x y z w nb) = _ from ((if_neg c_6).trans (if_pos c_11))]; first | rfl | exact if_pos ⟨rfl, rfl⟩ | skip)
    · refine hq_iconst (y := 1) C dX6_way_14 (by decide) ?_
      refine hq_goto (tgt := 19) C dX6_way_15 (by decide) ?_
      refine hq_istore (L' := [(5, .int _), (0, .ref _), (1, .int _), (2, .int _), (3, .int _), (4, .int _)]) C dX6_way_19 (by decide) rfl ?_
      refine hq_aload_n (q := 1) C dX6_way_21 rfl rfl ?_
      refine hq_iload (q := 0) C dX6_way_22 rfl ?_
      refine hq_if_ne (tgt := 31) C dX6_way_24 (by decide) (fun _ => ?_) (fun c_24 => absurd c_24 (by decide))
      refine hq_iload_n (q := 2) C dX6_way_31 rfl rfl ?_
      refine hq_iload_n (q := 3) C dX6_way_32 rfl rfl ?_
      refine hq_icmp_eq (tgt := 50) C dX6_way_33 (by decide) (fun c_33 => ?_) (fun c_33 => ?_)
      · refine hq_iconst (y := 2) C dX6_way_50 (by decide) ?_
        refine hq_cVr (As := [.int _]) (rm := rX6_goesWell) (f := 26) (Nc := 1) C (m_X6_goesWell) wv_X6_goesWell ml_X6_124 rfl rfl rfl Nat.one_pos rfl rfl rfl rfl ⟨Nat.le_of_ble_eq_true rfl, Nat.le_of_ble_eq_true rfl⟩ (Nat.le_of_ble_eq_true rfl) ⟨Nat.le_of_ble_eq_true rfl, Nat.le_of_ble_eq_true rfl⟩ dX6_way_51 ?_
        refine hq_if_ne (tgt := 59) C dX6_way_54 (by decide) (fun c_54 => absurd c_54 (by decide)) (fun _ => ?_)
        refine hq_iconst (y := 0) C dX6_way_57 (by decide) ?_
        exact hq_iret C hr hlk dX6_way_58 (by rw [show (ps_way P N x y z w nb) = _ from (((if_neg c_6).trans (if_neg c_11)).trans (if_pos c_33))]; first | rfl | exact if_pos ⟨rfl, rfl⟩ | skip) (by rw [show (ps_way P N x y z w nb) = _ from (((if_neg c_6).trans (if_neg c_11)).trans (if_pos c_33))]; first | rfl | exact if_pos ⟨rfl, rfl⟩ | skip)
      · refine hq_iload_n (q := 4) C dX6_way_36 rfl rfl ?_
        refine hq_iconst (y := 1) C dX6_way_37 (by decide) ?_
        refine hq_ldc C wc_X6_87 dX6_way_38 ?_
        refine hq_cSr (As := [.int _, .int _, .int _]) (rm := rX6_in) (Cn := "") C (m_X6_in) ws_X6_in ml_X6_116 rfl rfl rfl rfl ⟨Nat.le_of_ble_eq_true rfl, Nat.le_of_ble_eq_true rfl⟩ (Nat.le_of_ble_eq_true rfl) ⟨Nat.le_of_ble_eq_true rfl, Nat.le_of_ble_eq_true rfl⟩ dX6_way_40 ?_
        refine hq_if_eq (tgt := 50) C dX6_way_43 (by decide) (fun c_43 => ?_) (fun c_43 => ?_)
        · refine hq_iconst (y := 2) C dX6_way_50 (by decide) ?_
          refine hq_cVr (As := [.int _]) (rm := rX6_goesWell) (f := 26) (Nc := 1) C (m_X6_goesWell) wv_X6_goesWell ml_X6_124 rfl rfl rfl Nat.one_pos rfl rfl rfl rfl ⟨Nat.le_of_ble_eq_true rfl, Nat.le_of_ble_eq_true rfl⟩ (Nat.le_of_ble_eq_true rfl) ⟨Nat.le_of_ble_eq_true rfl, Nat.le_of_ble_eq_true rfl⟩ dX6_way_51 ?_
          refine hq_if_ne (tgt := 59) C dX6_way_54 (by decide) (fun c_54 => absurd c_54 (by decide)) (fun _ => ?_)
          refine hq_iconst (y := 0) C dX6_way_57 (by decide) ?_
          exact hq_iret C hr hlk dX6_way_58 (by rw [show (ps_way P N x y z w nb) = _ from ((((if_neg c_6).trans (if_neg c_11)).trans (if_neg c_33)).trans (if_pos c_43))]; first | rfl | exact if_pos ⟨rfl, rfl⟩ | skip) (by rw [show (ps_way P N x y z w nb) = _ from ((((if_neg c_6).trans (if_neg c_11)).trans (if_neg c_33)).trans (if_pos c_43))]; first | rfl | exact if_pos ⟨rfl, rfl⟩ | skip)
        · refine hq_iconst (y := 0) C dX6_way_46 (by decide) ?_
          refine hq_goto (tgt := 51) C dX6_way_47 (by decide) ?_
          refine hq_cVr (As := [.int _]) (rm := rX6_goesWell) (f := 26) (Nc := 1) C (m_X6_goesWell) wv_X6_goesWell ml_X6_124 rfl rfl rfl Nat.one_pos rfl rfl rfl rfl ⟨Nat.le_of_ble_eq_true rfl, Nat.le_of_ble_eq_true rfl⟩ (Nat.le_of_ble_eq_true rfl) ⟨Nat.le_of_ble_eq_true rfl, Nat.le_of_ble_eq_true rfl⟩ dX6_way_51 ?_
          refine hq_if_ne (tgt := 59) C dX6_way_54 (by decide) (fun _ => ?_) (fun c_54 => absurd c_54 (by decide))
          obtain ⟨⟨hx, hxb⟩, hy, hyb⟩ := br2_n hbc (by omega) c_6
          refine hq_aload_n (q := 1) C dX6_way_59 rfl rfl ?_
          refine hq_iload_n (q := 2) C dX6_way_60 rfl rfl ?_
          refine hq_iload_n (q := 3) C dX6_way_61 rfl rfl ?_
          refine hq_iload_n (q := 4) C dX6_way_62 rfl rfl ?_
          refine hq_iconst (y := 0) C dX6_way_63 (by decide) ?_
          refine hq_cVr (As := [.int _, .int _, .int _, .int _]) (rm := rX6_findWay) (f := 26) (Nc := 1) C (m_X6_findWay_a (P := uI P 40 0 0) (nb := nb) (a := tn x) hbc hnb hx (by omega) hf) wv_X6_findWay ml_X6_170 rfl rfl rfl Nat.one_pos rfl rfl rfl rfl ⟨Nat.le_of_ble_eq_true rfl, Nat.le_of_ble_eq_true rfl⟩ (Nat.le_of_ble_eq_true rfl) ⟨Nat.le_of_ble_eq_true rfl, Nat.le_of_ble_eq_true rfl⟩ dX6_way_64 ?_
          refine hq_istore (L' := [(6, .int _), (5, .int _), (0, .ref _), (1, .int _), (2, .int _), (3, .int _), (4, .int _)]) C dX6_way_67 (by decide) rfl ?_
          have h0w : 0 ≤ w := Int32.not_lt.mp c_11
          refine hq_iload (q := 6) C dX6_way_69 rfl ?_
          refine hq_iload (q := 0) C dX6_way_71 rfl ?_
          refine hq_icmp_ge (tgt := 86) C dX6_way_73 (by decide) (fun c_73 => ?_) (fun c_73 => absurd h0w c_73)
          refine hq_iconst (y := -1) C dX6_way_86 (by decide) ?_
          exact hq_iret C hr hlk dX6_way_87 (by rw [show (ps_way P N x y z w nb) = _ from (((((if_neg c_6).trans (if_neg c_11)).trans (if_neg c_33)).trans (if_neg c_43)).trans (if_pos hf))]; try rfl) (by rw [show (ps_way P N x y z w nb) = _ from (((((if_neg c_6).trans (if_neg c_11)).trans (if_neg c_33)).trans (if_neg c_43)).trans (if_pos hf))]; try rfl)
set_option maxHeartbeats 4000000 in
set_option maxRecDepth 100000 in
theorem m_X6_way_b {l : Launch} {D : va_G} {b0 : Nat} {I : MI} {J : MJ} {P : MI} {N : MJ} {o : Int64} {x y z w : Int32} {nb no nc : Nat} (h : pv_iv P nb no nc) (hw : po_way (uI P 40 0 0) N x y z nb) : hM l yX6_way cX6_way 7 (some .int) rX6_way D b0 [.ref (hw_ad b0 26 0), .int x, .int y, .int z, .int w] I J P N o (some (.int (ps_way P N x y z w nb).1)) I J (ps_way P N x y z w nb).2.1 (ps_way P N x y z w nb).2.2 o := by
  have hnb := h.1.2
  have hbc := h.1.1
  have hnf : ¬ po_far (uI P 40 0 0) N x y z nb := fun z9 => absurd hw.1 (fun y9 => absurd z9 (Int32.not_le.mpr y9))
  refine hw_Mof (by decide) [(0, .ref _), (1, .int _), (2, .int _), (3, .int _), (4, .int _)] rfl (Nat.le_of_ble_eq_true rfl) ?_
  intro p e s m args below meth c C hr hlk hnm
  refine hq_aload_n (q := 0) C dX6_way_0 rfl rfl ?_
  refine hq_iload_n (q := 1) C dX6_way_1 rfl rfl ?_
  refine hq_iload_n (q := 2) C dX6_way_2 rfl rfl ?_
  refine hq_cVr (As := [.int _, .int _]) (rm := rX6_areBrokers) (f := 26) (Nc := 1) C (m_X6_areBrokers) wv_X6_areBrokers ml_X6_127 rfl rfl rfl Nat.one_pos rfl rfl rfl rfl ⟨Nat.le_of_ble_eq_true rfl, Nat.le_of_ble_eq_true rfl⟩ (Nat.le_of_ble_eq_true rfl) ⟨Nat.le_of_ble_eq_true rfl, Nat.le_of_ble_eq_true rfl⟩ dX6_way_3 ?_
  refine hq_if_eq (tgt := 18) C dX6_way_6 (by decide) (fun c_6 => ?_) (fun c_6 => ?_)
  · refine hq_iconst (y := 0) C dX6_way_18 (by decide) ?_
    refine hq_istore (L' := [(5, .int _), (0, .ref _), (1, .int _), (2, .int _), (3, .int _), (4, .int _)]) C dX6_way_19 (by decide) rfl ?_
    refine hq_aload_n (q := 1) C dX6_way_21 rfl rfl ?_
    refine hq_iload (q := 0) C dX6_way_22 rfl ?_
    refine hq_if_ne (tgt := 31) C dX6_way_24 (by decide) (fun c_24 => absurd c_24 (by decide)) (fun _ => ?_)
    refine hq_iconst (y := 1) C dX6_way_27 (by decide) ?_
    refine hq_goto (tgt := 51) C dX6_way_28 (by decide) ?_
    refine hq_cVr (As := [.int _]) (rm := rX6_goesWell) (f := 26) (Nc := 1) C (m_X6_goesWell) wv_X6_goesWell ml_X6_124 rfl rfl rfl Nat.one_pos rfl rfl rfl rfl ⟨Nat.le_of_ble_eq_true rfl, Nat.le_of_ble_eq_true rfl⟩ (Nat.le_of_ble_eq_true rfl) ⟨Nat.le_of_ble_eq_true rfl, Nat.le_of_ble_eq_true rfl⟩ dX6_way_51 ?_
    refine hq_if_ne (tgt := 59) C dX6_way_54 (by decide) (fun c_54 => absurd c_54 (by decide)) (fun _ => ?_)
    refine hq_iconst (y := 0) C dX6_way_57 (by decide) ?_
    exact hq_iret C hr hlk dX6_way_58 (by rw [show (ps_way P N x y z w nb) = _ from (if_pos c_6)]; first | rfl | exact if_pos ⟨rfl, rfl⟩ | skip) (by rw [show (ps_way P N x y z w nb) = _ from (if_pos c_6)]; first | rfl | exact if_pos ⟨rfl, rfl⟩ | skip)
  · refine hq_iload (q := 4) C dX6_way_9 rfl ?_
    refine hq_if_lt (tgt := 18) C dX6_way_11 (by decide) (fun c_11 => ?_) (fun c_11 => ?_)
    · refine hq_iconst (y := 0) C dX6_way_18 (by decide) ?_
      refine hq_istore (L' := [(5, .int _), (0, .ref _), (1, .int _), (2, .int _), (3, .int _), (4, .int _)]) C dX6_way_19 (by decide) rfl ?_
      refine hq_aload_n (q := 1) C dX6_way_21 rfl rfl ?_
      refine hq_iload (q := 0) C dX6_way_22 rfl ?_
      refine hq_if_ne (tgt := 31) C dX6_way_24 (by decide) (fun c_24 => absurd c_24 (by decide)) (fun _ => ?_)
      refine hq_iconst (y := 1) C dX6_way_27 (by decide) ?_
      refine hq_goto (tgt := 51) C dX6_way_28 (by decide) ?_
      refine hq_cVr (As := [.int _]) (rm := rX6_goesWell) (f := 26) (Nc := 1) C (m_X6_goesWell) wv_X6_goesWell ml_X6_124 rfl rfl rfl Nat.one_pos rfl rfl rfl rfl ⟨Nat.le_of_ble_eq_true rfl, Nat.le_of_ble_eq_true rfl⟩ (Nat.le_of_ble_eq_true rfl) ⟨Nat.le_of_ble_eq_true rfl, Nat.le_of_ble_eq_true rfl⟩ dX6_way_51 ?_
      refine hq_if_ne (tgt := 59) C dX6_way_54 (by decide) (fun c_54 => absurd c_54 (by decide)) (fun _ => ?_)
      refine hq_iconst (y := 0) C dX6_way_57 (by decide) ?_
      exact hq_iret C hr hlk dX6_way_58 (by rw [show (ps_way P N x y z w nb) = _ from ((if_neg c_6).trans (if_pos c_11))]; first | rfl | exact if_pos ⟨rfl, rfl⟩ | skip) (by rw [show (ps_way P N x y z w nb) = _ from ((if_neg c_6).trans (if_pos c_11))]; first | rfl | exact if_pos ⟨rfl, rfl⟩ | skip)
    · refine hq_iconst (y := 1) C dX6_way_14 (by decide) ?_
      refine hq_goto (tgt := 19) C dX6_way_15 (by decide) ?_
      refine hq_istore (L' := [(5, .int _), (0, .ref _), (1, .int _), (2, .int _), (3, .int _), (4, .int _)]) C dX6_way_19 (by decide) rfl ?_
      refine hq_aload_n (q := 1) C dX6_way_21 rfl rfl ?_
      refine hq_iload (q := 0) C dX6_way_22 rfl ?_
      refine hq_if_ne (tgt := 31) C dX6_way_24 (by decide) (fun _ => ?_) (fun c_24 => absurd c_24 (by decide))
      refine hq_iload_n (q := 2) C dX6_way_31 rfl rfl ?_
      refine hq_iload_n (q := 3) C dX6_way_32 rfl rfl ?_
      refine hq_icmp_eq (tgt := 50) C dX6_way_33 (by decide) (fun c_33 => ?_) (fun c_33 => ?_)
      · refine hq_iconst (y := 2) C dX6_way_50 (by decide) ?_
        refine hq_cVr (As := [.int _]) (rm := rX6_goesWell) (f := 26) (Nc := 1) C (m_X6_goesWell) wv_X6_goesWell ml_X6_124 rfl rfl rfl Nat.one_pos rfl rfl rfl rfl ⟨Nat.le_of_ble_eq_true rfl, Nat.le_of_ble_eq_true rfl⟩ (Nat.le_of_ble_eq_true rfl) ⟨Nat.le_of_ble_eq_true rfl, Nat.le_of_ble_eq_true rfl⟩ dX6_way_51 ?_
        refine hq_if_ne (tgt := 59) C dX6_way_54 (by decide) (fun c_54 => absurd c_54 (by decide)) (fun _ => ?_)
        refine hq_iconst (y := 0) C dX6_way_57 (by decide) ?_
        exact hq_iret C hr hlk dX6_way_58 (by rw [show (ps_way P N x y z w nb) = _ from (((if_neg c_6).trans (if_neg c_11)).trans (if_pos c_33))]; first | rfl | exact if_pos ⟨rfl, rfl⟩ | skip) (by rw [show (ps_way P N x y z w nb) = _ from (((if_neg c_6).trans (if_neg c_11)).trans (if_pos c_33))]; first | rfl | exact if_pos ⟨rfl, rfl⟩ | skip)
      · refine hq_iload_n (q := 4) C dX6_way_36 rfl rfl ?_
        refine hq_iconst (y := 1) C dX6_way_37 (by decide) ?_
        refine hq_ldc C wc_X6_87 dX6_way_38 ?_
        refine hq_cSr (As := [.int _, .int _, .int _]) (rm := rX6_in) (Cn := "") C (m_X6_in) ws_X6_in ml_X6_116 rfl rfl rfl rfl ⟨Nat.le_of_ble_eq_true rfl, Nat.le_of_ble_eq_true rfl⟩ (Nat.le_of_ble_eq_true rfl) ⟨Nat.le_of_ble_eq_true rfl, Nat.le_of_ble_eq_true rfl⟩ dX6_way_40 ?_
        refine hq_if_eq (tgt := 50) C dX6_way_43 (by decide) (fun c_43 => ?_) (fun c_43 => ?_)
        · refine hq_iconst (y := 2) C dX6_way_50 (by decide) ?_
          refine hq_cVr (As := [.int _]) (rm := rX6_goesWell) (f := 26) (Nc := 1) C (m_X6_goesWell) wv_X6_goesWell ml_X6_124 rfl rfl rfl Nat.one_pos rfl rfl rfl rfl ⟨Nat.le_of_ble_eq_true rfl, Nat.le_of_ble_eq_true rfl⟩ (Nat.le_of_ble_eq_true rfl) ⟨Nat.le_of_ble_eq_true rfl, Nat.le_of_ble_eq_true rfl⟩ dX6_way_51 ?_
          refine hq_if_ne (tgt := 59) C dX6_way_54 (by decide) (fun c_54 => absurd c_54 (by decide)) (fun _ => ?_)
          refine hq_iconst (y := 0) C dX6_way_57 (by decide) ?_
          exact hq_iret C hr hlk dX6_way_58 (by rw [show (ps_way P N x y z w nb) = _ from ((((if_neg c_6).trans (if_neg c_11)).trans (if_neg c_33)).trans (if_pos c_43))]; first | rfl | exact if_pos ⟨rfl, rfl⟩ | skip) (by rw [show (ps_way P N x y z w nb) = _ from ((((if_neg c_6).trans (if_neg c_11)).trans (if_neg c_33)).trans (if_pos c_43))]; first | rfl | exact if_pos ⟨rfl, rfl⟩ | skip)
        · refine hq_iconst (y := 0) C dX6_way_46 (by decide) ?_
          refine hq_goto (tgt := 51) C dX6_way_47 (by decide) ?_
          refine hq_cVr (As := [.int _]) (rm := rX6_goesWell) (f := 26) (Nc := 1) C (m_X6_goesWell) wv_X6_goesWell ml_X6_124 rfl rfl rfl Nat.one_pos rfl rfl rfl rfl ⟨Nat.le_of_ble_eq_true rfl, Nat.le_of_ble_eq_true rfl⟩ (Nat.le_of_ble_eq_true rfl) ⟨Nat.le_of_ble_eq_true rfl, Nat.le_of_ble_eq_true rfl⟩ dX6_way_51 ?_
          refine hq_if_ne (tgt := 59) C dX6_way_54 (by decide) (fun _ => ?_) (fun c_54 => absurd c_54 (by decide))
          obtain ⟨⟨hx, hxb⟩, hy, hyb⟩ := br2_n hbc (by omega) c_6
          refine hq_aload_n (q := 1) C dX6_way_59 rfl rfl ?_
          refine hq_iload_n (q := 2) C dX6_way_60 rfl rfl ?_
          refine hq_iload_n (q := 3) C dX6_way_61 rfl rfl ?_
          refine hq_iload_n (q := 4) C dX6_way_62 rfl rfl ?_
          refine hq_iconst (y := 0) C dX6_way_63 (by decide) ?_
          refine hq_cVr (As := [.int _, .int _, .int _, .int _]) (rm := rX6_findWay) (f := 26) (Nc := 1) C (m_X6_findWay_b (P := uI P 40 0 0) (nb := nb) (a := tn x) (t := tn y) (n9 := po_n (uI P 40 0 0) N x y z nb) (pp := po_p (uI P 40 0 0) N x y z nb) hbc hnb hx (by omega) hy (by omega) hw.1 hw.2.2.1 rfl hw.2.2.2.1 hw.2.2.2.2) wv_X6_findWay ml_X6_170 rfl rfl rfl Nat.one_pos rfl rfl rfl rfl ⟨Nat.le_of_ble_eq_true rfl, Nat.le_of_ble_eq_true rfl⟩ (Nat.le_of_ble_eq_true rfl) ⟨Nat.le_of_ble_eq_true rfl, Nat.le_of_ble_eq_true rfl⟩ dX6_way_64 ?_
          refine hq_istore (L' := [(6, .int _), (5, .int _), (0, .ref _), (1, .int _), (2, .int _), (3, .int _), (4, .int _)]) C dX6_way_67 (by decide) rfl ?_
          refine hq_iload (q := 6) C dX6_way_69 rfl ?_
          refine hq_iload (q := 0) C dX6_way_71 rfl ?_
          refine hq_icmp_ge (tgt := 86) C dX6_way_73 (by decide) (fun c_73 => ?_) (fun c_73 => ?_)
          · refine hq_iconst (y := -1) C dX6_way_86 (by decide) ?_
            exact hq_iret C hr hlk dX6_way_87 (by rw [show (ps_way P N x y z w nb) = _ from ((((((if_neg c_6).trans (if_neg c_11)).trans (if_neg c_33)).trans (if_neg c_43)).trans (if_neg hnf)).trans (if_pos c_73))]; try rfl) (by rw [show (ps_way P N x y z w nb) = _ from ((((((if_neg c_6).trans (if_neg c_11)).trans (if_neg c_33)).trans (if_neg c_43)).trans (if_neg hnf)).trans (if_pos c_73))]; try rfl)
          · obtain ⟨j9, j1, j2⟩ := nI_of c_11
            have hww : w = nI (tn w) := by rw [j2]; exact congrArg nI (nI_clamp j1).symm
            have hw12 : tn w < 12 := by
              have hn9 := hw.2.2.1
              rcases Nat.lt_or_ge (tn w) (po_n (uI P 40 0 0) N x y z nb + 1) with z9 | z9
              · omega
              · exact absurd (show nI (po_n (uI P 40 0 0) N x y z nb + 1) ≤ w from by rw [hww]; exact nI_le z9 (by rw [j2, show tn (nI j9) = j9 from nI_clamp j1]; exact j1)) c_73
            refine hq_aload_n (q := 2) C dX6_way_76 rfl rfl ?_
            refine hq_getR (f := 26) (g := 58) (Nc := 1) (Ns := 38) C fr_X6_106 dX6_way_77 rfl rfl rfl rfl rfl (by decide) Nat.one_pos ?_
            refine hq_iload (q := 6) C dX6_way_80 rfl ?_
            refine hq_ialdP0 (f := 58) (a := tn w) (g := 43) (Nc := 1) (Ns := 12) C dX6_way_82 rfl rfl rfl rfl rfl rfl hww hw12 Nat.one_pos ?_
            refine hq_goto (tgt := 87) C dX6_way_83 (by decide) ?_
            exact hq_iret C hr hlk dX6_way_87 (by rw [show (ps_way P N x y z w nb) = _ from ((((((if_neg c_6).trans (if_neg c_11)).trans (if_neg c_33)).trans (if_neg c_43)).trans (if_neg hnf)).trans (if_neg c_73))]; try rfl) (by rw [show (ps_way P N x y z w nb) = _ from ((((((if_neg c_6).trans (if_neg c_11)).trans (if_neg c_33)).trans (if_neg c_43)).trans (if_neg hnf)).trans (if_neg c_73))]; try rfl)
def pf_so (P : MI) (i : Nat) (s : Int64) : Int64 := if P 41 i = 0 then s + (P 24 i).toInt64 else s + 0
def pf_sc (N : MJ) (i : Nat) (s : Int64) : Int64 := s + N 0 i
def pf_sl (P : MI) (i : Nat) (s : Int64) : Int64 := if ¬ P 16 i = 5 then s + 0 else s + (P 14 i).toInt64
def pr_sum (P : MI) (N : MJ) (x : Int32) (nb no nc : Nat) : Int64 := if x = 0 then N 4 0 else if x = 1 then N 4 1 else if x = 2 then N 4 2 else if x = 3 then N 4 3 else if x = 4 then N 4 4 else if x = 5 then lp (pf_so P) nc 0 0 else if x = 6 then lp (pf_sc N) nb 0 0 else lp (pf_sl P) no 0 0
set_option maxHeartbeats 4000000 in
set_option maxRecDepth 100000 in
theorem m_X6_sum_0 {l : Launch} {D : va_G} {b0 : Nat} {I : MI} {J : MJ} {P : MI} {N : MJ} {o : Int64} {nb no nc : Nat} (h : pv_iv P nb no nc) : hM l yX6_sum cX6_sum 5 (some .long) rX6_sum D b0 [.ref (hw_ad b0 26 0), .int 0] I J P N o (some (.long (N 4 0))) I J (uI P 40 0 0) N o := by
  have hnb := h.1.2
  have hno := h.2.1.2
  have hnc := h.2.2.1.2
  have hbc := h.1.1
  have hoc := h.2.1.1
  have hcc := h.2.2.1.1
  refine hw_Mof (by decide) [(0, .ref _), (1, .int _)] rfl (Nat.le_of_ble_eq_true rfl) ?_
  intro p e s m args below meth c C hr hlk hnm
  refine hq_aload_n (q := 0) C dX6_sum_0 rfl rfl ?_
  refine hq_iload_n (q := 1) C dX6_sum_1 rfl rfl ?_
  refine hq_iconst (y := 0) C dX6_sum_2 (by decide) ?_
  refine hq_bipush (y := 7) C dX6_sum_3 (by decide) ?_
  refine hq_cSr (As := [.int _, .int _, .int _]) (rm := rX6_in) (Cn := "") C (m_X6_in) ws_X6_in ml_X6_116 rfl rfl rfl rfl ⟨Nat.le_of_ble_eq_true rfl, Nat.le_of_ble_eq_true rfl⟩ (Nat.le_of_ble_eq_true rfl) ⟨Nat.le_of_ble_eq_true rfl, Nat.le_of_ble_eq_true rfl⟩ dX6_sum_5 ?_
  refine hq_if_eq (tgt := 15) C dX6_sum_8 (by decide) (fun c_8 => absurd c_8 (by decide)) (fun c_8 => ?_)
  refine hq_iconst (y := 0) C dX6_sum_11 (by decide) ?_
  refine hq_goto (tgt := 16) C dX6_sum_12 (by decide) ?_
  refine hq_cVr (As := [.int _]) (rm := rX6_goesWell) (f := 26) (Nc := 1) C (m_X6_goesWell) wv_X6_goesWell ml_X6_124 rfl rfl rfl Nat.one_pos rfl rfl rfl rfl ⟨Nat.le_of_ble_eq_true rfl, Nat.le_of_ble_eq_true rfl⟩ (Nat.le_of_ble_eq_true rfl) ⟨Nat.le_of_ble_eq_true rfl, Nat.le_of_ble_eq_true rfl⟩ dX6_sum_16 ?_
  refine hq_if_ne (tgt := 24) C dX6_sum_19 (by decide) (fun _ => ?_) (fun c_19 => absurd c_19 (by decide))
  refine hq_iload_n (q := 1) C dX6_sum_24 rfl rfl ?_
  refine hq_iconst (y := 5) C dX6_sum_25 (by decide) ?_
  refine hq_icmp_ge (tgt := 38) C dX6_sum_26 (by decide) (fun c_26 => absurd c_26 (by decide)) (fun _ => ?_)
  refine hq_aload_n (q := 0) C dX6_sum_29 rfl rfl ?_
  refine hq_getR (f := 26) (g := 55) (Nc := 1) (Ns := 38) C fr_X6_97 dX6_sum_30 rfl rfl rfl rfl rfl (by decide) Nat.one_pos ?_
  refine hq_iload_n (q := 1) C dX6_sum_33 rfl rfl ?_
  refine hq_laldN0 (f := 55) (a := 0) (g := 4) (Nc := 1) (Ns := 5) C dX6_sum_34 rfl rfl rfl rfl rfl rfl rfl (by decide) Nat.one_pos ?_
  refine hq_goto (tgt := 39) C dX6_sum_35 (by decide) ?_
  refine hq_lstore_n (L' := [(2, .long _), (0, .ref _), (1, .int _)]) C dX6_sum_39 rfl (by decide) rfl ?_
  refine hq_iconst (y := 0) C dX6_sum_40 (by decide) ?_
  refine hq_istore (L' := [(4, .int _), (2, .long _), (0, .ref _), (1, .int _)]) C dX6_sum_41 (by decide) rfl ?_
  refine hq_iload (q := 0) C dX6_sum_43 rfl ?_
  refine hq_aload_n (q := 2) C dX6_sum_45 rfl rfl ?_
  refine hq_getP (f := 26) (g := 2) (Nc := 1) (Ns := 38) C fr_X6_200 dX6_sum_46 rfl rfl rfl rfl rfl (by decide) Nat.one_pos ?_
  refine hq_icmp_ge (tgt := 88) C dX6_sum_49 (by decide) (fun c_49 => ?_) (fun c_49 => ?_)
  · refine hq_iconst (y := 0) C dX6_sum_88 (by decide) ?_
    refine hq_istore (L' := [(4, .int _), (2, .long _), (0, .ref _), (1, .int _)]) C dX6_sum_89 (by decide) rfl ?_
    refine hq_iload (q := 0) C dX6_sum_91 rfl ?_
    refine hq_aload_n (q := 2) C dX6_sum_93 rfl rfl ?_
    refine hq_getP (f := 26) (g := 0) (Nc := 1) (Ns := 38) C fr_X6_113 dX6_sum_94 rfl rfl rfl rfl rfl (by decide) Nat.one_pos ?_
    refine hq_icmp_ge (tgt := 122) C dX6_sum_97 (by decide) (fun c_97 => ?_) (fun c_97 => ?_)
    · refine hq_iconst (y := 0) C dX6_sum_122 (by decide) ?_
      refine hq_istore (L' := [(4, .int _), (2, .long _), (0, .ref _), (1, .int _)]) C dX6_sum_123 (by decide) rfl ?_
      refine hq_iload (q := 0) C dX6_sum_125 rfl ?_
      refine hq_aload_n (q := 2) C dX6_sum_127 rfl rfl ?_
      refine hq_getP (f := 26) (g := 1) (Nc := 1) (Ns := 38) C fr_X6_181 dX6_sum_128 rfl rfl rfl rfl rfl (by decide) Nat.one_pos ?_
      refine hq_icmp_ge (tgt := 172) C dX6_sum_131 (by decide) (fun c_131 => ?_) (fun c_131 => ?_)
      · refine hq_lload_n (q := 1) C dX6_sum_172 rfl rfl ?_
        exact hq_lret C hr hlk dX6_sum_173 rfl rfl
      · refine hq_iload_n (q := 3) C dX6_sum_134 rfl rfl ?_
        refine hq_bipush (y := 7) C dX6_sum_135 (by decide) ?_
        refine hq_icmp_ne (tgt := 172) C dX6_sum_137 (by decide) (fun _ => ?_) (fun c_137 => absurd c_137 (by decide))
        refine hq_lload_n (q := 1) C dX6_sum_172 rfl rfl ?_
        exact hq_lret C hr hlk dX6_sum_173 rfl rfl
    · refine hq_iload_n (q := 3) C dX6_sum_100 rfl rfl ?_
      refine hq_bipush (y := 6) C dX6_sum_101 (by decide) ?_
      refine hq_icmp_ne (tgt := 122) C dX6_sum_103 (by decide) (fun _ => ?_) (fun c_103 => absurd c_103 (by decide))
      refine hq_iconst (y := 0) C dX6_sum_122 (by decide) ?_
      refine hq_istore (L' := [(4, .int _), (2, .long _), (0, .ref _), (1, .int _)]) C dX6_sum_123 (by decide) rfl ?_
      refine hq_iload (q := 0) C dX6_sum_125 rfl ?_
      refine hq_aload_n (q := 2) C dX6_sum_127 rfl rfl ?_
      refine hq_getP (f := 26) (g := 1) (Nc := 1) (Ns := 38) C fr_X6_181 dX6_sum_128 rfl rfl rfl rfl rfl (by decide) Nat.one_pos ?_
      refine hq_icmp_ge (tgt := 172) C dX6_sum_131 (by decide) (fun c_131 => ?_) (fun c_131 => ?_)
      · refine hq_lload_n (q := 1) C dX6_sum_172 rfl rfl ?_
        exact hq_lret C hr hlk dX6_sum_173 rfl rfl
      · refine hq_iload_n (q := 3) C dX6_sum_134 rfl rfl ?_
        refine hq_bipush (y := 7) C dX6_sum_135 (by decide) ?_
        refine hq_icmp_ne (tgt := 172) C dX6_sum_137 (by decide) (fun _ => ?_) (fun c_137 => absurd c_137 (by decide))
        refine hq_lload_n (q := 1) C dX6_sum_172 rfl rfl ?_
        exact hq_lret C hr hlk dX6_sum_173 rfl rfl
  · refine hq_iload_n (q := 3) C dX6_sum_52 rfl rfl ?_
    refine hq_iconst (y := 5) C dX6_sum_53 (by decide) ?_
    refine hq_icmp_ne (tgt := 88) C dX6_sum_54 (by decide) (fun _ => ?_) (fun c_54 => absurd c_54 (by decide))
    refine hq_iconst (y := 0) C dX6_sum_88 (by decide) ?_
    refine hq_istore (L' := [(4, .int _), (2, .long _), (0, .ref _), (1, .int _)]) C dX6_sum_89 (by decide) rfl ?_
    refine hq_iload (q := 0) C dX6_sum_91 rfl ?_
    refine hq_aload_n (q := 2) C dX6_sum_93 rfl rfl ?_
    refine hq_getP (f := 26) (g := 0) (Nc := 1) (Ns := 38) C fr_X6_113 dX6_sum_94 rfl rfl rfl rfl rfl (by decide) Nat.one_pos ?_
    refine hq_icmp_ge (tgt := 122) C dX6_sum_97 (by decide) (fun c_97 => ?_) (fun c_97 => ?_)
    · refine hq_iconst (y := 0) C dX6_sum_122 (by decide) ?_
      refine hq_istore (L' := [(4, .int _), (2, .long _), (0, .ref _), (1, .int _)]) C dX6_sum_123 (by decide) rfl ?_
      refine hq_iload (q := 0) C dX6_sum_125 rfl ?_
      refine hq_aload_n (q := 2) C dX6_sum_127 rfl rfl ?_
      refine hq_getP (f := 26) (g := 1) (Nc := 1) (Ns := 38) C fr_X6_181 dX6_sum_128 rfl rfl rfl rfl rfl (by decide) Nat.one_pos ?_
      refine hq_icmp_ge (tgt := 172) C dX6_sum_131 (by decide) (fun c_131 => ?_) (fun c_131 => ?_)
      · refine hq_lload_n (q := 1) C dX6_sum_172 rfl rfl ?_
        exact hq_lret C hr hlk dX6_sum_173 rfl rfl
      · refine hq_iload_n (q := 3) C dX6_sum_134 rfl rfl ?_
        refine hq_bipush (y := 7) C dX6_sum_135 (by decide) ?_
        refine hq_icmp_ne (tgt := 172) C dX6_sum_137 (by decide) (fun _ => ?_) (fun c_137 => absurd c_137 (by decide))
        refine hq_lload_n (q := 1) C dX6_sum_172 rfl rfl ?_
        exact hq_lret C hr hlk dX6_sum_173 rfl rfl
    · refine hq_iload_n (q := 3) C dX6_sum_100 rfl rfl ?_
      refine hq_bipush (y := 6) C dX6_sum_101 (by decide) ?_
      refine hq_icmp_ne (tgt := 122) C dX6_sum_103 (by decide) (fun _ => ?_) (fun c_103 => absurd c_103 (by decide))
      refine hq_iconst (y := 0) C dX6_sum_122 (by decide) ?_
      refine hq_istore (L' := [(4, .int _), (2, .long _), (0, .ref _), (1, .int _)]) C dX6_sum_123 (by decide) rfl ?_
      refine hq_iload (q := 0) C dX6_sum_125 rfl ?_
      refine hq_aload_n (q := 2) C dX6_sum_127 rfl rfl ?_
      refine hq_getP (f := 26) (g := 1) (Nc := 1) (Ns := 38) C fr_X6_181 dX6_sum_128 rfl rfl rfl rfl rfl (by decide) Nat.one_pos ?_
      refine hq_icmp_ge (tgt := 172) C dX6_sum_131 (by decide) (fun c_131 => ?_) (fun c_131 => ?_)
      · refine hq_lload_n (q := 1) C dX6_sum_172 rfl rfl ?_
        exact hq_lret C hr hlk dX6_sum_173 rfl rfl
      · refine hq_iload_n (q := 3) C dX6_sum_134 rfl rfl ?_
        refine hq_bipush (y := 7) C dX6_sum_135 (by decide) ?_
        refine hq_icmp_ne (tgt := 172) C dX6_sum_137 (by decide) (fun _ => ?_) (fun c_137 => absurd c_137 (by decide))
        refine hq_lload_n (q := 1) C dX6_sum_172 rfl rfl ?_
        exact hq_lret C hr hlk dX6_sum_173 rfl rfl
set_option maxHeartbeats 4000000 in
set_option maxRecDepth 100000 in
theorem m_X6_sum_1 {l : Launch} {D : va_G} {b0 : Nat} {I : MI} {J : MJ} {P : MI} {N : MJ} {o : Int64} {nb no nc : Nat} (h : pv_iv P nb no nc) : hM l yX6_sum cX6_sum 5 (some .long) rX6_sum D b0 [.ref (hw_ad b0 26 0), .int 1] I J P N o (some (.long (N 4 1))) I J (uI P 40 0 0) N o := by
  have hnb := h.1.2
  have hno := h.2.1.2
  have hnc := h.2.2.1.2
  have hbc := h.1.1
  have hoc := h.2.1.1
  have hcc := h.2.2.1.1
  refine hw_Mof (by decide) [(0, .ref _), (1, .int _)] rfl (Nat.le_of_ble_eq_true rfl) ?_
  intro p e s m args below meth c C hr hlk hnm
  refine hq_aload_n (q := 0) C dX6_sum_0 rfl rfl ?_
  refine hq_iload_n (q := 1) C dX6_sum_1 rfl rfl ?_
  refine hq_iconst (y := 0) C dX6_sum_2 (by decide) ?_
  refine hq_bipush (y := 7) C dX6_sum_3 (by decide) ?_
  refine hq_cSr (As := [.int _, .int _, .int _]) (rm := rX6_in) (Cn := "") C (m_X6_in) ws_X6_in ml_X6_116 rfl rfl rfl rfl ⟨Nat.le_of_ble_eq_true rfl, Nat.le_of_ble_eq_true rfl⟩ (Nat.le_of_ble_eq_true rfl) ⟨Nat.le_of_ble_eq_true rfl, Nat.le_of_ble_eq_true rfl⟩ dX6_sum_5 ?_
  refine hq_if_eq (tgt := 15) C dX6_sum_8 (by decide) (fun c_8 => absurd c_8 (by decide)) (fun c_8 => ?_)
  refine hq_iconst (y := 0) C dX6_sum_11 (by decide) ?_
  refine hq_goto (tgt := 16) C dX6_sum_12 (by decide) ?_
  refine hq_cVr (As := [.int _]) (rm := rX6_goesWell) (f := 26) (Nc := 1) C (m_X6_goesWell) wv_X6_goesWell ml_X6_124 rfl rfl rfl Nat.one_pos rfl rfl rfl rfl ⟨Nat.le_of_ble_eq_true rfl, Nat.le_of_ble_eq_true rfl⟩ (Nat.le_of_ble_eq_true rfl) ⟨Nat.le_of_ble_eq_true rfl, Nat.le_of_ble_eq_true rfl⟩ dX6_sum_16 ?_
  refine hq_if_ne (tgt := 24) C dX6_sum_19 (by decide) (fun _ => ?_) (fun c_19 => absurd c_19 (by decide))
  refine hq_iload_n (q := 1) C dX6_sum_24 rfl rfl ?_
  refine hq_iconst (y := 5) C dX6_sum_25 (by decide) ?_
  refine hq_icmp_ge (tgt := 38) C dX6_sum_26 (by decide) (fun c_26 => absurd c_26 (by decide)) (fun _ => ?_)
  refine hq_aload_n (q := 0) C dX6_sum_29 rfl rfl ?_
  refine hq_getR (f := 26) (g := 55) (Nc := 1) (Ns := 38) C fr_X6_97 dX6_sum_30 rfl rfl rfl rfl rfl (by decide) Nat.one_pos ?_
  refine hq_iload_n (q := 1) C dX6_sum_33 rfl rfl ?_
  refine hq_laldN0 (f := 55) (a := 1) (g := 4) (Nc := 1) (Ns := 5) C dX6_sum_34 rfl rfl rfl rfl rfl rfl rfl (by decide) Nat.one_pos ?_
  refine hq_goto (tgt := 39) C dX6_sum_35 (by decide) ?_
  refine hq_lstore_n (L' := [(2, .long _), (0, .ref _), (1, .int _)]) C dX6_sum_39 rfl (by decide) rfl ?_
  refine hq_iconst (y := 0) C dX6_sum_40 (by decide) ?_
  refine hq_istore (L' := [(4, .int _), (2, .long _), (0, .ref _), (1, .int _)]) C dX6_sum_41 (by decide) rfl ?_
  refine hq_iload (q := 0) C dX6_sum_43 rfl ?_
  refine hq_aload_n (q := 2) C dX6_sum_45 rfl rfl ?_
  refine hq_getP (f := 26) (g := 2) (Nc := 1) (Ns := 38) C fr_X6_200 dX6_sum_46 rfl rfl rfl rfl rfl (by decide) Nat.one_pos ?_
  refine hq_icmp_ge (tgt := 88) C dX6_sum_49 (by decide) (fun c_49 => ?_) (fun c_49 => ?_)
  · refine hq_iconst (y := 0) C dX6_sum_88 (by decide) ?_
    refine hq_istore (L' := [(4, .int _), (2, .long _), (0, .ref _), (1, .int _)]) C dX6_sum_89 (by decide) rfl ?_
    refine hq_iload (q := 0) C dX6_sum_91 rfl ?_
    refine hq_aload_n (q := 2) C dX6_sum_93 rfl rfl ?_
    refine hq_getP (f := 26) (g := 0) (Nc := 1) (Ns := 38) C fr_X6_113 dX6_sum_94 rfl rfl rfl rfl rfl (by decide) Nat.one_pos ?_
    refine hq_icmp_ge (tgt := 122) C dX6_sum_97 (by decide) (fun c_97 => ?_) (fun c_97 => ?_)
    · refine hq_iconst (y := 0) C dX6_sum_122 (by decide) ?_
      refine hq_istore (L' := [(4, .int _), (2, .long _), (0, .ref _), (1, .int _)]) C dX6_sum_123 (by decide) rfl ?_
      refine hq_iload (q := 0) C dX6_sum_125 rfl ?_
      refine hq_aload_n (q := 2) C dX6_sum_127 rfl rfl ?_
      refine hq_getP (f := 26) (g := 1) (Nc := 1) (Ns := 38) C fr_X6_181 dX6_sum_128 rfl rfl rfl rfl rfl (by decide) Nat.one_pos ?_
      refine hq_icmp_ge (tgt := 172) C dX6_sum_131 (by decide) (fun c_131 => ?_) (fun c_131 => ?_)
      · refine hq_lload_n (q := 1) C dX6_sum_172 rfl rfl ?_
        exact hq_lret C hr hlk dX6_sum_173 rfl rfl
      · refine hq_iload_n (q := 3) C dX6_sum_134 rfl rfl ?_
        refine hq_bipush (y := 7) C dX6_sum_135 (by decide) ?_
        refine hq_icmp_ne (tgt := 172) C dX6_sum_137 (by decide) (fun _ => ?_) (fun c_137 => absurd c_137 (by decide))
        refine hq_lload_n (q := 1) C dX6_sum_172 rfl rfl ?_
        exact hq_lret C hr hlk dX6_sum_173 rfl rfl
    · refine hq_iload_n (q := 3) C dX6_sum_100 rfl rfl ?_
      refine hq_bipush (y := 6) C dX6_sum_101 (by decide) ?_
      refine hq_icmp_ne (tgt := 122) C dX6_sum_103 (by decide) (fun _ => ?_) (fun c_103 => absurd c_103 (by decide))
      refine hq_iconst (y := 0) C dX6_sum_122 (by decide) ?_
      refine hq_istore (L' := [(4, .int _), (2, .long _), (0, .ref _), (1, .int _)]) C dX6_sum_123 (by decide) rfl ?_
      refine hq_iload (q := 0) C dX6_sum_125 rfl ?_
      refine hq_aload_n (q := 2) C dX6_sum_127 rfl rfl ?_
      refine hq_getP (f := 26) (g := 1) (Nc := 1) (Ns := 38) C fr_X6_181 dX6_sum_128 rfl rfl rfl rfl rfl (by decide) Nat.one_pos ?_
      refine hq_icmp_ge (tgt := 172) C dX6_sum_131 (by decide) (fun c_131 => ?_) (fun c_131 => ?_)
      · refine hq_lload_n (q := 1) C dX6_sum_172 rfl rfl ?_
        exact hq_lret C hr hlk dX6_sum_173 rfl rfl
      · refine hq_iload_n (q := 3) C dX6_sum_134 rfl rfl ?_
        refine hq_bipush (y := 7) C dX6_sum_135 (by decide) ?_
        refine hq_icmp_ne (tgt := 172) C dX6_sum_137 (by decide) (fun _ => ?_) (fun c_137 => absurd c_137 (by decide))
        refine hq_lload_n (q := 1) C dX6_sum_172 rfl rfl ?_
        exact hq_lret C hr hlk dX6_sum_173 rfl rfl
  · refine hq_iload_n (q := 3) C dX6_sum_52 rfl rfl ?_
    refine hq_iconst (y := 5) C dX6_sum_53 (by decide) ?_
    refine hq_icmp_ne (tgt := 88) C dX6_sum_54 (by decide) (fun _ => ?_) (fun c_54 => absurd c_54 (by decide))
    refine hq_iconst (y := 0) C dX6_sum_88 (by decide) ?_
    refine hq_istore (L' := [(4, .int _), (2, .long _), (0, .ref _), (1, .int _)]) C dX6_sum_89 (by decide) rfl ?_
    refine hq_iload (q := 0) C dX6_sum_91 rfl ?_
    refine hq_aload_n (q := 2) C dX6_sum_93 rfl rfl ?_
    refine hq_getP (f := 26) (g := 0) (Nc := 1) (Ns := 38) C fr_X6_113 dX6_sum_94 rfl rfl rfl rfl rfl (by decide) Nat.one_pos ?_
    refine hq_icmp_ge (tgt := 122) C dX6_sum_97 (by decide) (fun c_97 => ?_) (fun c_97 => ?_)
    · refine hq_iconst (y := 0) C dX6_sum_122 (by decide) ?_
      refine hq_istore (L' := [(4, .int _), (2, .long _), (0, .ref _), (1, .int _)]) C dX6_sum_123 (by decide) rfl ?_
      refine hq_iload (q := 0) C dX6_sum_125 rfl ?_
      refine hq_aload_n (q := 2) C dX6_sum_127 rfl rfl ?_
      refine hq_getP (f := 26) (g := 1) (Nc := 1) (Ns := 38) C fr_X6_181 dX6_sum_128 rfl rfl rfl rfl rfl (by decide) Nat.one_pos ?_
      refine hq_icmp_ge (tgt := 172) C dX6_sum_131 (by decide) (fun c_131 => ?_) (fun c_131 => ?_)
      · refine hq_lload_n (q := 1) C dX6_sum_172 rfl rfl ?_
        exact hq_lret C hr hlk dX6_sum_173 rfl rfl
      · refine hq_iload_n (q := 3) C dX6_sum_134 rfl rfl ?_
        refine hq_bipush (y := 7) C dX6_sum_135 (by decide) ?_
        refine hq_icmp_ne (tgt := 172) C dX6_sum_137 (by decide) (fun _ => ?_) (fun c_137 => absurd c_137 (by decide))
        refine hq_lload_n (q := 1) C dX6_sum_172 rfl rfl ?_
        exact hq_lret C hr hlk dX6_sum_173 rfl rfl
    · refine hq_iload_n (q := 3) C dX6_sum_100 rfl rfl ?_
      refine hq_bipush (y := 6) C dX6_sum_101 (by decide) ?_
      refine hq_icmp_ne (tgt := 122) C dX6_sum_103 (by decide) (fun _ => ?_) (fun c_103 => absurd c_103 (by decide))
      refine hq_iconst (y := 0) C dX6_sum_122 (by decide) ?_
      refine hq_istore (L' := [(4, .int _), (2, .long _), (0, .ref _), (1, .int _)]) C dX6_sum_123 (by decide) rfl ?_
      refine hq_iload (q := 0) C dX6_sum_125 rfl ?_
      refine hq_aload_n (q := 2) C dX6_sum_127 rfl rfl ?_
      refine hq_getP (f := 26) (g := 1) (Nc := 1) (Ns := 38) C fr_X6_181 dX6_sum_128 rfl rfl rfl rfl rfl (by decide) Nat.one_pos ?_
      refine hq_icmp_ge (tgt := 172) C dX6_sum_131 (by decide) (fun c_131 => ?_) (fun c_131 => ?_)
      · refine hq_lload_n (q := 1) C dX6_sum_172 rfl rfl ?_
        exact hq_lret C hr hlk dX6_sum_173 rfl rfl
      · refine hq_iload_n (q := 3) C dX6_sum_134 rfl rfl ?_
        refine hq_bipush (y := 7) C dX6_sum_135 (by decide) ?_
        refine hq_icmp_ne (tgt := 172) C dX6_sum_137 (by decide) (fun _ => ?_) (fun c_137 => absurd c_137 (by decide))
        refine hq_lload_n (q := 1) C dX6_sum_172 rfl rfl ?_
        exact hq_lret C hr hlk dX6_sum_173 rfl rfl
set_option maxHeartbeats 4000000 in
set_option maxRecDepth 100000 in
theorem m_X6_sum_2 {l : Launch} {D : va_G} {b0 : Nat} {I : MI} {J : MJ} {P : MI} {N : MJ} {o : Int64} {nb no nc : Nat} (h : pv_iv P nb no nc) : hM l yX6_sum cX6_sum 5 (some .long) rX6_sum D b0 [.ref (hw_ad b0 26 0), .int 2] I J P N o (some (.long (N 4 2))) I J (uI P 40 0 0) N o := by
  have hnb := h.1.2
  have hno := h.2.1.2
  have hnc := h.2.2.1.2
  have hbc := h.1.1
  have hoc := h.2.1.1
  have hcc := h.2.2.1.1
  refine hw_Mof (by decide) [(0, .ref _), (1, .int _)] rfl (Nat.le_of_ble_eq_true rfl) ?_
  intro p e s m args below meth c C hr hlk hnm
  refine hq_aload_n (q := 0) C dX6_sum_0 rfl rfl ?_
  refine hq_iload_n (q := 1) C dX6_sum_1 rfl rfl ?_
  refine hq_iconst (y := 0) C dX6_sum_2 (by decide) ?_
  refine hq_bipush (y := 7) C dX6_sum_3 (by decide) ?_
  refine hq_cSr (As := [.int _, .int _, .int _]) (rm := rX6_in) (Cn := "") C (m_X6_in) ws_X6_in ml_X6_116 rfl rfl rfl rfl ⟨Nat.le_of_ble_eq_true rfl, Nat.le_of_ble_eq_true rfl⟩ (Nat.le_of_ble_eq_true rfl) ⟨Nat.le_of_ble_eq_true rfl, Nat.le_of_ble_eq_true rfl⟩ dX6_sum_5 ?_
  refine hq_if_eq (tgt := 15) C dX6_sum_8 (by decide) (fun c_8 => absurd c_8 (by decide)) (fun c_8 => ?_)
  refine hq_iconst (y := 0) C dX6_sum_11 (by decide) ?_
  refine hq_goto (tgt := 16) C dX6_sum_12 (by decide) ?_
  refine hq_cVr (As := [.int _]) (rm := rX6_goesWell) (f := 26) (Nc := 1) C (m_X6_goesWell) wv_X6_goesWell ml_X6_124 rfl rfl rfl Nat.one_pos rfl rfl rfl rfl ⟨Nat.le_of_ble_eq_true rfl, Nat.le_of_ble_eq_true rfl⟩ (Nat.le_of_ble_eq_true rfl) ⟨Nat.le_of_ble_eq_true rfl, Nat.le_of_ble_eq_true rfl⟩ dX6_sum_16 ?_
  refine hq_if_ne (tgt := 24) C dX6_sum_19 (by decide) (fun _ => ?_) (fun c_19 => absurd c_19 (by decide))
  refine hq_iload_n (q := 1) C dX6_sum_24 rfl rfl ?_
  refine hq_iconst (y := 5) C dX6_sum_25 (by decide) ?_
  refine hq_icmp_ge (tgt := 38) C dX6_sum_26 (by decide) (fun c_26 => absurd c_26 (by decide)) (fun _ => ?_)
  refine hq_aload_n (q := 0) C dX6_sum_29 rfl rfl ?_
  refine hq_getR (f := 26) (g := 55) (Nc := 1) (Ns := 38) C fr_X6_97 dX6_sum_30 rfl rfl rfl rfl rfl (by decide) Nat.one_pos ?_
  refine hq_iload_n (q := 1) C dX6_sum_33 rfl rfl ?_
  refine hq_laldN0 (f := 55) (a := 2) (g := 4) (Nc := 1) (Ns := 5) C dX6_sum_34 rfl rfl rfl rfl rfl rfl rfl (by decide) Nat.one_pos ?_
  refine hq_goto (tgt := 39) C dX6_sum_35 (by decide) ?_
  refine hq_lstore_n (L' := [(2, .long _), (0, .ref _), (1, .int _)]) C dX6_sum_39 rfl (by decide) rfl ?_
  refine hq_iconst (y := 0) C dX6_sum_40 (by decide) ?_
  refine hq_istore (L' := [(4, .int _), (2, .long _), (0, .ref _), (1, .int _)]) C dX6_sum_41 (by decide) rfl ?_
  refine hq_iload (q := 0) C dX6_sum_43 rfl ?_
  refine hq_aload_n (q := 2) C dX6_sum_45 rfl rfl ?_
  refine hq_getP (f := 26) (g := 2) (Nc := 1) (Ns := 38) C fr_X6_200 dX6_sum_46 rfl rfl rfl rfl rfl (by decide) Nat.one_pos ?_
  refine hq_icmp_ge (tgt := 88) C dX6_sum_49 (by decide) (fun c_49 => ?_) (fun c_49 => ?_)
  · refine hq_iconst (y := 0) C dX6_sum_88 (by decide) ?_
    refine hq_istore (L' := [(4, .int _), (2, .long _), (0, .ref _), (1, .int _)]) C dX6_sum_89 (by decide) rfl ?_
    refine hq_iload (q := 0) C dX6_sum_91 rfl ?_
    refine hq_aload_n (q := 2) C dX6_sum_93 rfl rfl ?_
    refine hq_getP (f := 26) (g := 0) (Nc := 1) (Ns := 38) C fr_X6_113 dX6_sum_94 rfl rfl rfl rfl rfl (by decide) Nat.one_pos ?_
    refine hq_icmp_ge (tgt := 122) C dX6_sum_97 (by decide) (fun c_97 => ?_) (fun c_97 => ?_)
    · refine hq_iconst (y := 0) C dX6_sum_122 (by decide) ?_
      refine hq_istore (L' := [(4, .int _), (2, .long _), (0, .ref _), (1, .int _)]) C dX6_sum_123 (by decide) rfl ?_
      refine hq_iload (q := 0) C dX6_sum_125 rfl ?_
      refine hq_aload_n (q := 2) C dX6_sum_127 rfl rfl ?_
      refine hq_getP (f := 26) (g := 1) (Nc := 1) (Ns := 38) C fr_X6_181 dX6_sum_128 rfl rfl rfl rfl rfl (by decide) Nat.one_pos ?_
      refine hq_icmp_ge (tgt := 172) C dX6_sum_131 (by decide) (fun c_131 => ?_) (fun c_131 => ?_)
      · refine hq_lload_n (q := 1) C dX6_sum_172 rfl rfl ?_
        exact hq_lret C hr hlk dX6_sum_173 rfl rfl
      · refine hq_iload_n (q := 3) C dX6_sum_134 rfl rfl ?_
        refine hq_bipush (y := 7) C dX6_sum_135 (by decide) ?_
        refine hq_icmp_ne (tgt := 172) C dX6_sum_137 (by decide) (fun _ => ?_) (fun c_137 => absurd c_137 (by decide))
        refine hq_lload_n (q := 1) C dX6_sum_172 rfl rfl ?_
        exact hq_lret C hr hlk dX6_sum_173 rfl rfl
    · refine hq_iload_n (q := 3) C dX6_sum_100 rfl rfl ?_
      refine hq_bipush (y := 6) C dX6_sum_101 (by decide) ?_
      refine hq_icmp_ne (tgt := 122) C dX6_sum_103 (by decide) (fun _ => ?_) (fun c_103 => absurd c_103 (by decide))
      refine hq_iconst (y := 0) C dX6_sum_122 (by decide) ?_
      refine hq_istore (L' := [(4, .int _), (2, .long _), (0, .ref _), (1, .int _)]) C dX6_sum_123 (by decide) rfl ?_
      refine hq_iload (q := 0) C dX6_sum_125 rfl ?_
      refine hq_aload_n (q := 2) C dX6_sum_127 rfl rfl ?_
      refine hq_getP (f := 26) (g := 1) (Nc := 1) (Ns := 38) C fr_X6_181 dX6_sum_128 rfl rfl rfl rfl rfl (by decide) Nat.one_pos ?_
      refine hq_icmp_ge (tgt := 172) C dX6_sum_131 (by decide) (fun c_131 => ?_) (fun c_131 => ?_)
      · refine hq_lload_n (q := 1) C dX6_sum_172 rfl rfl ?_
        exact hq_lret C hr hlk dX6_sum_173 rfl rfl
      · refine hq_iload_n (q := 3) C dX6_sum_134 rfl rfl ?_
        refine hq_bipush (y := 7) C dX6_sum_135 (by decide) ?_
        refine hq_icmp_ne (tgt := 172) C dX6_sum_137 (by decide) (fun _ => ?_) (fun c_137 => absurd c_137 (by decide))
        refine hq_lload_n (q := 1) C dX6_sum_172 rfl rfl ?_
        exact hq_lret C hr hlk dX6_sum_173 rfl rfl
  · refine hq_iload_n (q := 3) C dX6_sum_52 rfl rfl ?_
    refine hq_iconst (y := 5) C dX6_sum_53 (by decide) ?_
    refine hq_icmp_ne (tgt := 88) C dX6_sum_54 (by decide) (fun _ => ?_) (fun c_54 => absurd c_54 (by decide))
    refine hq_iconst (y := 0) C dX6_sum_88 (by decide) ?_
    refine hq_istore (L' := [(4, .int _), (2, .long _), (0, .ref _), (1, .int _)]) C dX6_sum_89 (by decide) rfl ?_
    refine hq_iload (q := 0) C dX6_sum_91 rfl ?_
    refine hq_aload_n (q := 2) C dX6_sum_93 rfl rfl ?_
    refine hq_getP (f := 26) (g := 0) (Nc := 1) (Ns := 38) C fr_X6_113 dX6_sum_94 rfl rfl rfl rfl rfl (by decide) Nat.one_pos ?_
    refine hq_icmp_ge (tgt := 122) C dX6_sum_97 (by decide) (fun c_97 => ?_) (fun c_97 => ?_)
    · refine hq_iconst (y := 0) C dX6_sum_122 (by decide) ?_
      refine hq_istore (L' := [(4, .int _), (2, .long _), (0, .ref _), (1, .int _)]) C dX6_sum_123 (by decide) rfl ?_
      refine hq_iload (q := 0) C dX6_sum_125 rfl ?_
      refine hq_aload_n (q := 2) C dX6_sum_127 rfl rfl ?_
      refine hq_getP (f := 26) (g := 1) (Nc := 1) (Ns := 38) C fr_X6_181 dX6_sum_128 rfl rfl rfl rfl rfl (by decide) Nat.one_pos ?_
      refine hq_icmp_ge (tgt := 172) C dX6_sum_131 (by decide) (fun c_131 => ?_) (fun c_131 => ?_)
      · refine hq_lload_n (q := 1) C dX6_sum_172 rfl rfl ?_
        exact hq_lret C hr hlk dX6_sum_173 rfl rfl
      · refine hq_iload_n (q := 3) C dX6_sum_134 rfl rfl ?_
        refine hq_bipush (y := 7) C dX6_sum_135 (by decide) ?_
        refine hq_icmp_ne (tgt := 172) C dX6_sum_137 (by decide) (fun _ => ?_) (fun c_137 => absurd c_137 (by decide))
        refine hq_lload_n (q := 1) C dX6_sum_172 rfl rfl ?_
        exact hq_lret C hr hlk dX6_sum_173 rfl rfl
    · refine hq_iload_n (q := 3) C dX6_sum_100 rfl rfl ?_
      refine hq_bipush (y := 6) C dX6_sum_101 (by decide) ?_
      refine hq_icmp_ne (tgt := 122) C dX6_sum_103 (by decide) (fun _ => ?_) (fun c_103 => absurd c_103 (by decide))
      refine hq_iconst (y := 0) C dX6_sum_122 (by decide) ?_
      refine hq_istore (L' := [(4, .int _), (2, .long _), (0, .ref _), (1, .int _)]) C dX6_sum_123 (by decide) rfl ?_
      refine hq_iload (q := 0) C dX6_sum_125 rfl ?_
      refine hq_aload_n (q := 2) C dX6_sum_127 rfl rfl ?_
      refine hq_getP (f := 26) (g := 1) (Nc := 1) (Ns := 38) C fr_X6_181 dX6_sum_128 rfl rfl rfl rfl rfl (by decide) Nat.one_pos ?_
      refine hq_icmp_ge (tgt := 172) C dX6_sum_131 (by decide) (fun c_131 => ?_) (fun c_131 => ?_)
      · refine hq_lload_n (q := 1) C dX6_sum_172 rfl rfl ?_
        exact hq_lret C hr hlk dX6_sum_173 rfl rfl
      · refine hq_iload_n (q := 3) C dX6_sum_134 rfl rfl ?_
        refine hq_bipush (y := 7) C dX6_sum_135 (by decide) ?_
        refine hq_icmp_ne (tgt := 172) C dX6_sum_137 (by decide) (fun _ => ?_) (fun c_137 => absurd c_137 (by decide))
        refine hq_lload_n (q := 1) C dX6_sum_172 rfl rfl ?_
        exact hq_lret C hr hlk dX6_sum_173 rfl rfl
set_option maxHeartbeats 4000000 in
set_option maxRecDepth 100000 in
theorem m_X6_sum_3 {l : Launch} {D : va_G} {b0 : Nat} {I : MI} {J : MJ} {P : MI} {N : MJ} {o : Int64} {nb no nc : Nat} (h : pv_iv P nb no nc) : hM l yX6_sum cX6_sum 5 (some .long) rX6_sum D b0 [.ref (hw_ad b0 26 0), .int 3] I J P N o (some (.long (N 4 3))) I J (uI P 40 0 0) N o := by
  have hnb := h.1.2
  have hno := h.2.1.2
  have hnc := h.2.2.1.2
  have hbc := h.1.1
  have hoc := h.2.1.1
  have hcc := h.2.2.1.1
  refine hw_Mof (by decide) [(0, .ref _), (1, .int _)] rfl (Nat.le_of_ble_eq_true rfl) ?_
  intro p e s m args below meth c C hr hlk hnm
  refine hq_aload_n (q := 0) C dX6_sum_0 rfl rfl ?_
  refine hq_iload_n (q := 1) C dX6_sum_1 rfl rfl ?_
  refine hq_iconst (y := 0) C dX6_sum_2 (by decide) ?_
  refine hq_bipush (y := 7) C dX6_sum_3 (by decide) ?_
  refine hq_cSr (As := [.int _, .int _, .int _]) (rm := rX6_in) (Cn := "") C (m_X6_in) ws_X6_in ml_X6_116 rfl rfl rfl rfl ⟨Nat.le_of_ble_eq_true rfl, Nat.le_of_ble_eq_true rfl⟩ (Nat.le_of_ble_eq_true rfl) ⟨Nat.le_of_ble_eq_true rfl, Nat.le_of_ble_eq_true rfl⟩ dX6_sum_5 ?_
  refine hq_if_eq (tgt := 15) C dX6_sum_8 (by decide) (fun c_8 => absurd c_8 (by decide)) (fun c_8 => ?_)
  refine hq_iconst (y := 0) C dX6_sum_11 (by decide) ?_
  refine hq_goto (tgt := 16) C dX6_sum_12 (by decide) ?_
  refine hq_cVr (As := [.int _]) (rm := rX6_goesWell) (f := 26) (Nc := 1) C (m_X6_goesWell) wv_X6_goesWell ml_X6_124 rfl rfl rfl Nat.one_pos rfl rfl rfl rfl ⟨Nat.le_of_ble_eq_true rfl, Nat.le_of_ble_eq_true rfl⟩ (Nat.le_of_ble_eq_true rfl) ⟨Nat.le_of_ble_eq_true rfl, Nat.le_of_ble_eq_true rfl⟩ dX6_sum_16 ?_
  refine hq_if_ne (tgt := 24) C dX6_sum_19 (by decide) (fun _ => ?_) (fun c_19 => absurd c_19 (by decide))
  refine hq_iload_n (q := 1) C dX6_sum_24 rfl rfl ?_
  refine hq_iconst (y := 5) C dX6_sum_25 (by decide) ?_
  refine hq_icmp_ge (tgt := 38) C dX6_sum_26 (by decide) (fun c_26 => absurd c_26 (by decide)) (fun _ => ?_)
  refine hq_aload_n (q := 0) C dX6_sum_29 rfl rfl ?_
  refine hq_getR (f := 26) (g := 55) (Nc := 1) (Ns := 38) C fr_X6_97 dX6_sum_30 rfl rfl rfl rfl rfl (by decide) Nat.one_pos ?_
  refine hq_iload_n (q := 1) C dX6_sum_33 rfl rfl ?_
  refine hq_laldN0 (f := 55) (a := 3) (g := 4) (Nc := 1) (Ns := 5) C dX6_sum_34 rfl rfl rfl rfl rfl rfl rfl (by decide) Nat.one_pos ?_
  refine hq_goto (tgt := 39) C dX6_sum_35 (by decide) ?_
  refine hq_lstore_n (L' := [(2, .long _), (0, .ref _), (1, .int _)]) C dX6_sum_39 rfl (by decide) rfl ?_
  refine hq_iconst (y := 0) C dX6_sum_40 (by decide) ?_
  refine hq_istore (L' := [(4, .int _), (2, .long _), (0, .ref _), (1, .int _)]) C dX6_sum_41 (by decide) rfl ?_
  refine hq_iload (q := 0) C dX6_sum_43 rfl ?_
  refine hq_aload_n (q := 2) C dX6_sum_45 rfl rfl ?_
  refine hq_getP (f := 26) (g := 2) (Nc := 1) (Ns := 38) C fr_X6_200 dX6_sum_46 rfl rfl rfl rfl rfl (by decide) Nat.one_pos ?_
  refine hq_icmp_ge (tgt := 88) C dX6_sum_49 (by decide) (fun c_49 => ?_) (fun c_49 => ?_)
  · refine hq_iconst (y := 0) C dX6_sum_88 (by decide) ?_
    refine hq_istore (L' := [(4, .int _), (2, .long _), (0, .ref _), (1, .int _)]) C dX6_sum_89 (by decide) rfl ?_
    refine hq_iload (q := 0) C dX6_sum_91 rfl ?_
    refine hq_aload_n (q := 2) C dX6_sum_93 rfl rfl ?_
    refine hq_getP (f := 26) (g := 0) (Nc := 1) (Ns := 38) C fr_X6_113 dX6_sum_94 rfl rfl rfl rfl rfl (by decide) Nat.one_pos ?_
    refine hq_icmp_ge (tgt := 122) C dX6_sum_97 (by decide) (fun c_97 => ?_) (fun c_97 => ?_)
    · refine hq_iconst (y := 0) C dX6_sum_122 (by decide) ?_
      refine hq_istore (L' := [(4, .int _), (2, .long _), (0, .ref _), (1, .int _)]) C dX6_sum_123 (by decide) rfl ?_
      refine hq_iload (q := 0) C dX6_sum_125 rfl ?_
      refine hq_aload_n (q := 2) C dX6_sum_127 rfl rfl ?_
      refine hq_getP (f := 26) (g := 1) (Nc := 1) (Ns := 38) C fr_X6_181 dX6_sum_128 rfl rfl rfl rfl rfl (by decide) Nat.one_pos ?_
      refine hq_icmp_ge (tgt := 172) C dX6_sum_131 (by decide) (fun c_131 => ?_) (fun c_131 => ?_)
      · refine hq_lload_n (q := 1) C dX6_sum_172 rfl rfl ?_
        exact hq_lret C hr hlk dX6_sum_173 rfl rfl
      · refine hq_iload_n (q := 3) C dX6_sum_134 rfl rfl ?_
        refine hq_bipush (y := 7) C dX6_sum_135 (by decide) ?_
        refine hq_icmp_ne (tgt := 172) C dX6_sum_137 (by decide) (fun _ => ?_) (fun c_137 => absurd c_137 (by decide))
        refine hq_lload_n (q := 1) C dX6_sum_172 rfl rfl ?_
        exact hq_lret C hr hlk dX6_sum_173 rfl rfl
    · refine hq_iload_n (q := 3) C dX6_sum_100 rfl rfl ?_
      refine hq_bipush (y := 6) C dX6_sum_101 (by decide) ?_
      refine hq_icmp_ne (tgt := 122) C dX6_sum_103 (by decide) (fun _ => ?_) (fun c_103 => absurd c_103 (by decide))
      refine hq_iconst (y := 0) C dX6_sum_122 (by decide) ?_
      refine hq_istore (L' := [(4, .int _), (2, .long _), (0, .ref _), (1, .int _)]) C dX6_sum_123 (by decide) rfl ?_
      refine hq_iload (q := 0) C dX6_sum_125 rfl ?_
      refine hq_aload_n (q := 2) C dX6_sum_127 rfl rfl ?_
      refine hq_getP (f := 26) (g := 1) (Nc := 1) (Ns := 38) C fr_X6_181 dX6_sum_128 rfl rfl rfl rfl rfl (by decide) Nat.one_pos ?_
      refine hq_icmp_ge (tgt := 172) C dX6_sum_131 (by decide) (fun c_131 => ?_) (fun c_131 => ?_)
      · refine hq_lload_n (q := 1) C dX6_sum_172 rfl rfl ?_
        exact hq_lret C hr hlk dX6_sum_173 rfl rfl
      · refine hq_iload_n (q := 3) C dX6_sum_134 rfl rfl ?_
        refine hq_bipush (y := 7) C dX6_sum_135 (by decide) ?_
        refine hq_icmp_ne (tgt := 172) C dX6_sum_137 (by decide) (fun _ => ?_) (fun c_137 => absurd c_137 (by decide))
        refine hq_lload_n (q := 1) C dX6_sum_172 rfl rfl ?_
        exact hq_lret C hr hlk dX6_sum_173 rfl rfl
  · refine hq_iload_n (q := 3) C dX6_sum_52 rfl rfl ?_
    refine hq_iconst (y := 5) C dX6_sum_53 (by decide) ?_
    refine hq_icmp_ne (tgt := 88) C dX6_sum_54 (by decide) (fun _ => ?_) (fun c_54 => absurd c_54 (by decide))
    refine hq_iconst (y := 0) C dX6_sum_88 (by decide) ?_
    refine hq_istore (L' := [(4, .int _), (2, .long _), (0, .ref _), (1, .int _)]) C dX6_sum_89 (by decide) rfl ?_
    refine hq_iload (q := 0) C dX6_sum_91 rfl ?_
    refine hq_aload_n (q := 2) C dX6_sum_93 rfl rfl ?_
    refine hq_getP (f := 26) (g := 0) (Nc := 1) (Ns := 38) C fr_X6_113 dX6_sum_94 rfl rfl rfl rfl rfl (by decide) Nat.one_pos ?_
    refine hq_icmp_ge (tgt := 122) C dX6_sum_97 (by decide) (fun c_97 => ?_) (fun c_97 => ?_)
    · refine hq_iconst (y := 0) C dX6_sum_122 (by decide) ?_
      refine hq_istore (L' := [(4, .int _), (2, .long _), (0, .ref _), (1, .int _)]) C dX6_sum_123 (by decide) rfl ?_
      refine hq_iload (q := 0) C dX6_sum_125 rfl ?_
      refine hq_aload_n (q := 2) C dX6_sum_127 rfl rfl ?_
      refine hq_getP (f := 26) (g := 1) (Nc := 1) (Ns := 38) C fr_X6_181 dX6_sum_128 rfl rfl rfl rfl rfl (by decide) Nat.one_pos ?_
      refine hq_icmp_ge (tgt := 172) C dX6_sum_131 (by decide) (fun c_131 => ?_) (fun c_131 => ?_)
      · refine hq_lload_n (q := 1) C dX6_sum_172 rfl rfl ?_
        exact hq_lret C hr hlk dX6_sum_173 rfl rfl
      · refine hq_iload_n (q := 3) C dX6_sum_134 rfl rfl ?_
        refine hq_bipush (y := 7) C dX6_sum_135 (by decide) ?_
        refine hq_icmp_ne (tgt := 172) C dX6_sum_137 (by decide) (fun _ => ?_) (fun c_137 => absurd c_137 (by decide))
        refine hq_lload_n (q := 1) C dX6_sum_172 rfl rfl ?_
        exact hq_lret C hr hlk dX6_sum_173 rfl rfl
    · refine hq_iload_n (q := 3) C dX6_sum_100 rfl rfl ?_
      refine hq_bipush (y := 6) C dX6_sum_101 (by decide) ?_
      refine hq_icmp_ne (tgt := 122) C dX6_sum_103 (by decide) (fun _ => ?_) (fun c_103 => absurd c_103 (by decide))
      refine hq_iconst (y := 0) C dX6_sum_122 (by decide) ?_
      refine hq_istore (L' := [(4, .int _), (2, .long _), (0, .ref _), (1, .int _)]) C dX6_sum_123 (by decide) rfl ?_
      refine hq_iload (q := 0) C dX6_sum_125 rfl ?_
      refine hq_aload_n (q := 2) C dX6_sum_127 rfl rfl ?_
      refine hq_getP (f := 26) (g := 1) (Nc := 1) (Ns := 38) C fr_X6_181 dX6_sum_128 rfl rfl rfl rfl rfl (by decide) Nat.one_pos ?_
      refine hq_icmp_ge (tgt := 172) C dX6_sum_131 (by decide) (fun c_131 => ?_) (fun c_131 => ?_)
      · refine hq_lload_n (q := 1) C dX6_sum_172 rfl rfl ?_
        exact hq_lret C hr hlk dX6_sum_173 rfl rfl
      · refine hq_iload_n (q := 3) C dX6_sum_134 rfl rfl ?_
        refine hq_bipush (y := 7) C dX6_sum_135 (by decide) ?_
        refine hq_icmp_ne (tgt := 172) C dX6_sum_137 (by decide) (fun _ => ?_) (fun c_137 => absurd c_137 (by decide))
        refine hq_lload_n (q := 1) C dX6_sum_172 rfl rfl ?_
        exact hq_lret C hr hlk dX6_sum_173 rfl rfl
set_option maxHeartbeats 4000000 in
set_option maxRecDepth 100000 in
theorem m_X6_sum_4 {l : Launch} {D : va_G} {b0 : Nat} {I : MI} {J : MJ} {P : MI} {N : MJ} {o : Int64} {nb no nc : Nat} (h : pv_iv P nb no nc) : hM l yX6_sum cX6_sum 5 (some .long) rX6_sum D b0 [.ref (hw_ad b0 26 0), .int 4] I J P N o (some (.long (N 4 4))) I J (uI P 40 0 0) N o := by
  have hnb := h.1.2
  have hno := h.2.1.2
  have hnc := h.2.2.1.2
  have hbc := h.1.1
  have hoc := h.2.1.1
  have hcc := h.2.2.1.1
  refine hw_Mof (by decide) [(0, .ref _), (1, .int _)] rfl (Nat.le_of_ble_eq_true rfl) ?_
  intro p e s m args below meth c C hr hlk hnm
  refine hq_aload_n (q := 0) C dX6_sum_0 rfl rfl ?_
  refine hq_iload_n (q := 1) C dX6_sum_1 rfl rfl ?_
  refine hq_iconst (y := 0) C dX6_sum_2 (by decide) ?_
  refine hq_bipush (y := 7) C dX6_sum_3 (by decide) ?_
  refine hq_cSr (As := [.int _, .int _, .int _]) (rm := rX6_in) (Cn := "") C (m_X6_in) ws_X6_in ml_X6_116 rfl rfl rfl rfl ⟨Nat.le_of_ble_eq_true rfl, Nat.le_of_ble_eq_true rfl⟩ (Nat.le_of_ble_eq_true rfl) ⟨Nat.le_of_ble_eq_true rfl, Nat.le_of_ble_eq_true rfl⟩ dX6_sum_5 ?_
  refine hq_if_eq (tgt := 15) C dX6_sum_8 (by decide) (fun c_8 => absurd c_8 (by decide)) (fun c_8 => ?_)
  refine hq_iconst (y := 0) C dX6_sum_11 (by decide) ?_
  refine hq_goto (tgt := 16) C dX6_sum_12 (by decide) ?_
  refine hq_cVr (As := [.int _]) (rm := rX6_goesWell) (f := 26) (Nc := 1) C (m_X6_goesWell) wv_X6_goesWell ml_X6_124 rfl rfl rfl Nat.one_pos rfl rfl rfl rfl ⟨Nat.le_of_ble_eq_true rfl, Nat.le_of_ble_eq_true rfl⟩ (Nat.le_of_ble_eq_true rfl) ⟨Nat.le_of_ble_eq_true rfl, Nat.le_of_ble_eq_true rfl⟩ dX6_sum_16 ?_
  refine hq_if_ne (tgt := 24) C dX6_sum_19 (by decide) (fun _ => ?_) (fun c_19 => absurd c_19 (by decide))
  refine hq_iload_n (q := 1) C dX6_sum_24 rfl rfl ?_
  refine hq_iconst (y := 5) C dX6_sum_25 (by decide) ?_
  refine hq_icmp_ge (tgt := 38) C dX6_sum_26 (by decide) (fun c_26 => absurd c_26 (by decide)) (fun _ => ?_)
  refine hq_aload_n (q := 0) C dX6_sum_29 rfl rfl ?_
  refine hq_getR (f := 26) (g := 55) (Nc := 1) (Ns := 38) C fr_X6_97 dX6_sum_30 rfl rfl rfl rfl rfl (by decide) Nat.one_pos ?_
  refine hq_iload_n (q := 1) C dX6_sum_33 rfl rfl ?_
  refine hq_laldN0 (f := 55) (a := 4) (g := 4) (Nc := 1) (Ns := 5) C dX6_sum_34 rfl rfl rfl rfl rfl rfl rfl (by decide) Nat.one_pos ?_
  refine hq_goto (tgt := 39) C dX6_sum_35 (by decide) ?_
  refine hq_lstore_n (L' := [(2, .long _), (0, .ref _), (1, .int _)]) C dX6_sum_39 rfl (by decide) rfl ?_
  refine hq_iconst (y := 0) C dX6_sum_40 (by decide) ?_
  refine hq_istore (L' := [(4, .int _), (2, .long _), (0, .ref _), (1, .int _)]) C dX6_sum_41 (by decide) rfl ?_
  refine hq_iload (q := 0) C dX6_sum_43 rfl ?_
  refine hq_aload_n (q := 2) C dX6_sum_45 rfl rfl ?_
  refine hq_getP (f := 26) (g := 2) (Nc := 1) (Ns := 38) C fr_X6_200 dX6_sum_46 rfl rfl rfl rfl rfl (by decide) Nat.one_pos ?_
  refine hq_icmp_ge (tgt := 88) C dX6_sum_49 (by decide) (fun c_49 => ?_) (fun c_49 => ?_)
  · refine hq_iconst (y := 0) C dX6_sum_88 (by decide) ?_
    refine hq_istore (L' := [(4, .int _), (2, .long _), (0, .ref _), (1, .int _)]) C dX6_sum_89 (by decide) rfl ?_
    refine hq_iload (q := 0) C dX6_sum_91 rfl ?_
    refine hq_aload_n (q := 2) C dX6_sum_93 rfl rfl ?_
    refine hq_getP (f := 26) (g := 0) (Nc := 1) (Ns := 38) C fr_X6_113 dX6_sum_94 rfl rfl rfl rfl rfl (by decide) Nat.one_pos ?_
    refine hq_icmp_ge (tgt := 122) C dX6_sum_97 (by decide) (fun c_97 => ?_) (fun c_97 => ?_)
    · refine hq_iconst (y := 0) C dX6_sum_122 (by decide) ?_
      refine hq_istore (L' := [(4, .int _), (2, .long _), (0, .ref _), (1, .int _)]) C dX6_sum_123 (by decide) rfl ?_
      refine hq_iload (q := 0) C dX6_sum_125 rfl ?_
      refine hq_aload_n (q := 2) C dX6_sum_127 rfl rfl ?_
      refine hq_getP (f := 26) (g := 1) (Nc := 1) (Ns := 38) C fr_X6_181 dX6_sum_128 rfl rfl rfl rfl rfl (by decide) Nat.one_pos ?_
      refine hq_icmp_ge (tgt := 172) C dX6_sum_131 (by decide) (fun c_131 => ?_) (fun c_131 => ?_)
      · refine hq_lload_n (q := 1) C dX6_sum_172 rfl rfl ?_
        exact hq_lret C hr hlk dX6_sum_173 rfl rfl
      · refine hq_iload_n (q := 3) C dX6_sum_134 rfl rfl ?_
        refine hq_bipush (y := 7) C dX6_sum_135 (by decide) ?_
        refine hq_icmp_ne (tgt := 172) C dX6_sum_137 (by decide) (fun _ => ?_) (fun c_137 => absurd c_137 (by decide))
        refine hq_lload_n (q := 1) C dX6_sum_172 rfl rfl ?_
        exact hq_lret C hr hlk dX6_sum_173 rfl rfl
    · refine hq_iload_n (q := 3) C dX6_sum_100 rfl rfl ?_
      refine hq_bipush (y := 6) C dX6_sum_101 (by decide) ?_
      refine hq_icmp_ne (tgt := 122) C dX6_sum_103 (by decide) (fun _ => ?_) (fun c_103 => absurd c_103 (by decide))
      refine hq_iconst (y := 0) C dX6_sum_122 (by decide) ?_
      refine hq_istore (L' := [(4, .int _), (2, .long _), (0, .ref _), (1, .int _)]) C dX6_sum_123 (by decide) rfl ?_
      refine hq_iload (q := 0) C dX6_sum_125 rfl ?_
      refine hq_aload_n (q := 2) C dX6_sum_127 rfl rfl ?_
      refine hq_getP (f := 26) (g := 1) (Nc := 1) (Ns := 38) C fr_X6_181 dX6_sum_128 rfl rfl rfl rfl rfl (by decide) Nat.one_pos ?_
      refine hq_icmp_ge (tgt := 172) C dX6_sum_131 (by decide) (fun c_131 => ?_) (fun c_131 => ?_)
      · refine hq_lload_n (q := 1) C dX6_sum_172 rfl rfl ?_
        exact hq_lret C hr hlk dX6_sum_173 rfl rfl
      · refine hq_iload_n (q := 3) C dX6_sum_134 rfl rfl ?_
        refine hq_bipush (y := 7) C dX6_sum_135 (by decide) ?_
        refine hq_icmp_ne (tgt := 172) C dX6_sum_137 (by decide) (fun _ => ?_) (fun c_137 => absurd c_137 (by decide))
        refine hq_lload_n (q := 1) C dX6_sum_172 rfl rfl ?_
        exact hq_lret C hr hlk dX6_sum_173 rfl rfl
  · refine hq_iload_n (q := 3) C dX6_sum_52 rfl rfl ?_
    refine hq_iconst (y := 5) C dX6_sum_53 (by decide) ?_
    refine hq_icmp_ne (tgt := 88) C dX6_sum_54 (by decide) (fun _ => ?_) (fun c_54 => absurd c_54 (by decide))
    refine hq_iconst (y := 0) C dX6_sum_88 (by decide) ?_
    refine hq_istore (L' := [(4, .int _), (2, .long _), (0, .ref _), (1, .int _)]) C dX6_sum_89 (by decide) rfl ?_
    refine hq_iload (q := 0) C dX6_sum_91 rfl ?_
    refine hq_aload_n (q := 2) C dX6_sum_93 rfl rfl ?_
    refine hq_getP (f := 26) (g := 0) (Nc := 1) (Ns := 38) C fr_X6_113 dX6_sum_94 rfl rfl rfl rfl rfl (by decide) Nat.one_pos ?_
    refine hq_icmp_ge (tgt := 122) C dX6_sum_97 (by decide) (fun c_97 => ?_) (fun c_97 => ?_)
    · refine hq_iconst (y := 0) C dX6_sum_122 (by decide) ?_
      refine hq_istore (L' := [(4, .int _), (2, .long _), (0, .ref _), (1, .int _)]) C dX6_sum_123 (by decide) rfl ?_
      refine hq_iload (q := 0) C dX6_sum_125 rfl ?_
      refine hq_aload_n (q := 2) C dX6_sum_127 rfl rfl ?_
      refine hq_getP (f := 26) (g := 1) (Nc := 1) (Ns := 38) C fr_X6_181 dX6_sum_128 rfl rfl rfl rfl rfl (by decide) Nat.one_pos ?_
      refine hq_icmp_ge (tgt := 172) C dX6_sum_131 (by decide) (fun c_131 => ?_) (fun c_131 => ?_)
      · refine hq_lload_n (q := 1) C dX6_sum_172 rfl rfl ?_
        exact hq_lret C hr hlk dX6_sum_173 rfl rfl
      · refine hq_iload_n (q := 3) C dX6_sum_134 rfl rfl ?_
        refine hq_bipush (y := 7) C dX6_sum_135 (by decide) ?_
        refine hq_icmp_ne (tgt := 172) C dX6_sum_137 (by decide) (fun _ => ?_) (fun c_137 => absurd c_137 (by decide))
        refine hq_lload_n (q := 1) C dX6_sum_172 rfl rfl ?_
        exact hq_lret C hr hlk dX6_sum_173 rfl rfl
    · refine hq_iload_n (q := 3) C dX6_sum_100 rfl rfl ?_
      refine hq_bipush (y := 6) C dX6_sum_101 (by decide) ?_
      refine hq_icmp_ne (tgt := 122) C dX6_sum_103 (by decide) (fun _ => ?_) (fun c_103 => absurd c_103 (by decide))
      refine hq_iconst (y := 0) C dX6_sum_122 (by decide) ?_
      refine hq_istore (L' := [(4, .int _), (2, .long _), (0, .ref _), (1, .int _)]) C dX6_sum_123 (by decide) rfl ?_
      refine hq_iload (q := 0) C dX6_sum_125 rfl ?_
      refine hq_aload_n (q := 2) C dX6_sum_127 rfl rfl ?_
      refine hq_getP (f := 26) (g := 1) (Nc := 1) (Ns := 38) C fr_X6_181 dX6_sum_128 rfl rfl rfl rfl rfl (by decide) Nat.one_pos ?_
      refine hq_icmp_ge (tgt := 172) C dX6_sum_131 (by decide) (fun c_131 => ?_) (fun c_131 => ?_)
      · refine hq_lload_n (q := 1) C dX6_sum_172 rfl rfl ?_
        exact hq_lret C hr hlk dX6_sum_173 rfl rfl
      · refine hq_iload_n (q := 3) C dX6_sum_134 rfl rfl ?_
        refine hq_bipush (y := 7) C dX6_sum_135 (by decide) ?_
        refine hq_icmp_ne (tgt := 172) C dX6_sum_137 (by decide) (fun _ => ?_) (fun c_137 => absurd c_137 (by decide))
        refine hq_lload_n (q := 1) C dX6_sum_172 rfl rfl ?_
        exact hq_lret C hr hlk dX6_sum_173 rfl rfl
set_option maxHeartbeats 4000000 in
set_option maxRecDepth 100000 in
theorem m_X6_sum_5 {l : Launch} {D : va_G} {b0 : Nat} {I : MI} {J : MJ} {P : MI} {N : MJ} {o : Int64} {nb no nc : Nat} (h : pv_iv P nb no nc) : hM l yX6_sum cX6_sum 5 (some .long) rX6_sum D b0 [.ref (hw_ad b0 26 0), .int 5] I J P N o (some (.long (lp (pf_so P) nc 0 0))) I J (uI P 40 0 0) N o := by
  have hnb := h.1.2
  have hno := h.2.1.2
  have hnc := h.2.2.1.2
  have hbc := h.1.1
  have hoc := h.2.1.1
  have hcc := h.2.2.1.1
  refine hw_Mof (by decide) [(0, .ref _), (1, .int _)] rfl (Nat.le_of_ble_eq_true rfl) ?_
  intro p e s m args below meth c C hr hlk hnm
  refine hq_aload_n (q := 0) C dX6_sum_0 rfl rfl ?_
  refine hq_iload_n (q := 1) C dX6_sum_1 rfl rfl ?_
  refine hq_iconst (y := 0) C dX6_sum_2 (by decide) ?_
  refine hq_bipush (y := 7) C dX6_sum_3 (by decide) ?_
  refine hq_cSr (As := [.int _, .int _, .int _]) (rm := rX6_in) (Cn := "") C (m_X6_in) ws_X6_in ml_X6_116 rfl rfl rfl rfl ⟨Nat.le_of_ble_eq_true rfl, Nat.le_of_ble_eq_true rfl⟩ (Nat.le_of_ble_eq_true rfl) ⟨Nat.le_of_ble_eq_true rfl, Nat.le_of_ble_eq_true rfl⟩ dX6_sum_5 ?_
  refine hq_if_eq (tgt := 15) C dX6_sum_8 (by decide) (fun c_8 => absurd c_8 (by decide)) (fun c_8 => ?_)
  refine hq_iconst (y := 0) C dX6_sum_11 (by decide) ?_
  refine hq_goto (tgt := 16) C dX6_sum_12 (by decide) ?_
  refine hq_cVr (As := [.int _]) (rm := rX6_goesWell) (f := 26) (Nc := 1) C (m_X6_goesWell) wv_X6_goesWell ml_X6_124 rfl rfl rfl Nat.one_pos rfl rfl rfl rfl ⟨Nat.le_of_ble_eq_true rfl, Nat.le_of_ble_eq_true rfl⟩ (Nat.le_of_ble_eq_true rfl) ⟨Nat.le_of_ble_eq_true rfl, Nat.le_of_ble_eq_true rfl⟩ dX6_sum_16 ?_
  refine hq_if_ne (tgt := 24) C dX6_sum_19 (by decide) (fun _ => ?_) (fun c_19 => absurd c_19 (by decide))
  refine hq_iload_n (q := 1) C dX6_sum_24 rfl rfl ?_
  refine hq_iconst (y := 5) C dX6_sum_25 (by decide) ?_
  refine hq_icmp_ge (tgt := 38) C dX6_sum_26 (by decide) (fun _ => ?_) (fun c_26 => absurd c_26 (by decide))
  refine hq_lconst (y := 0) C dX6_sum_38 rfl ?_
  refine hq_lstore_n (L' := [(2, .long _), (0, .ref _), (1, .int _)]) C dX6_sum_39 rfl (by decide) rfl ?_
  refine hq_iconst (y := 0) C dX6_sum_40 (by decide) ?_
  refine hq_istore (L' := [(4, .int _), (2, .long _), (0, .ref _), (1, .int _)]) C dX6_sum_41 (by decide) rfl ?_
  refine hq_perm [0, 1, 2, 3] (L' := [(4, .int (nI 0)), (2, .long 0), (0, .ref (hw_ad b0 26 0)), (1, .int 5)]) rfl ?_
  refine lp_back (pf_so P) (fun (k9 : Nat) (σ : Int64) => hw_V p l e rX6_sum s m args below meth c (MQ below (hw_Q D b0 false 271 (some (.long (lp (pf_so P) nc 0 0))) (hw_vl b0 I J (uI P 40 0 0) N o)) args s 0 0 (fun q => b0 ≤ q)) D b0 5 false 0 0 271 43 [(4, .int (nI k9)), (2, .long σ), (0, .ref (hw_ad b0 26 0)), (1, .int 5)] [] (hw_vl b0 I J (uI P 40 0 0) N o)) (fun _ _ => True) nc ?_ (fun _ _ _ _ => trivial) nc 0 0 (by omega) trivial ?_
  · intro k9 σ hi0 hinv0 k0
    refine hq_iload (q := 0) C dX6_sum_43 rfl ?_
    refine hq_aload_n (q := 2) C dX6_sum_45 rfl rfl ?_
    refine hq_getP (f := 26) (g := 2) (Nc := 1) (Ns := 38) C fr_X6_200 dX6_sum_46 rfl rfl rfl rfl rfl (by decide) Nat.one_pos ?_
    refine hq_icmp_ge (tgt := 88) C dX6_sum_49 (by decide) (fun c_49 => absurd c_49 (by rw [show uI P 40 0 0 2 0 = nI nc from hcc]; exact nI_ge hi0 (by omega))) (fun c_49 => ?_)
    refine hq_iload_n (q := 3) C dX6_sum_52 rfl rfl ?_
    refine hq_iconst (y := 5) C dX6_sum_53 (by decide) ?_
    refine hq_icmp_ne (tgt := 88) C dX6_sum_54 (by decide) (fun c_54 => absurd c_54 (by decide)) (fun _ => ?_)
    refine hq_lload_n (q := 1) C dX6_sum_57 rfl rfl ?_
    refine hq_aload_n (q := 2) C dX6_sum_58 rfl rfl ?_
    refine hq_getR (f := 26) (g := 51) (Nc := 1) (Ns := 38) C fr_X6_84 dX6_sum_59 rfl rfl rfl rfl rfl (by decide) Nat.one_pos ?_
    refine hq_iload (q := 0) C dX6_sum_62 rfl ?_
    refine hq_zaldP0 (f := 51) (a := k9) (g := 41) (Nc := 1) (Ns := 41) C dX6_sum_64 rfl rfl rfl rfl rfl rfl rfl (by omega) Nat.one_pos ?_
    refine hq_if_eq (tgt := 72) C dX6_sum_65 (by decide) (fun c_65 => ?_) (fun c_65 => ?_)
    · refine hq_aload_n (q := 2) C dX6_sum_72 rfl rfl ?_
      refine hq_getR (f := 26) (g := 47) (Nc := 1) (Ns := 38) C fr_X6_72 dX6_sum_73 rfl rfl rfl rfl rfl (by decide) Nat.one_pos ?_
      refine hq_iload (q := 0) C dX6_sum_76 rfl ?_
      refine hq_ialdP0 (f := 47) (a := k9) (g := 24) (Nc := 1) (Ns := 41) C dX6_sum_78 rfl rfl rfl rfl rfl rfl rfl (by omega) Nat.one_pos ?_
      refine hq_i2l C dX6_sum_79 ?_
      refine hq_ladd C dX6_sum_80 ?_
      refine hq_lstore_n (L' := [(2, .long _), (4, .int _), (0, .ref _), (1, .int _)]) C dX6_sum_81 rfl (by decide) rfl ?_
      refine hq_iinc (q := 1) (y := nI (_ + 1)) (L' := [(4, .int _), (2, .long _), (0, .ref _), (1, .int _)]) C dX6_sum_82 rfl (hw_inc _) (by decide) rfl ?_
      refine hq_goto (tgt := 43) C dX6_sum_85 (by decide) ?_
      rw [show pf_so P k9 σ = _ from (if_pos c_65)] at k0
      exact hq_fin [0, 1, 2, 3] rfl rfl rfl rfl rfl rfl k0
    · refine hq_lconst (y := 0) C dX6_sum_68 rfl ?_
      refine hq_goto (tgt := 80) C dX6_sum_69 (by decide) ?_
      refine hq_ladd C dX6_sum_80 ?_
      refine hq_lstore_n (L' := [(2, .long _), (4, .int _), (0, .ref _), (1, .int _)]) C dX6_sum_81 rfl (by decide) rfl ?_
      refine hq_iinc (q := 1) (y := nI (_ + 1)) (L' := [(4, .int _), (2, .long _), (0, .ref _), (1, .int _)]) C dX6_sum_82 rfl (hw_inc _) (by decide) rfl ?_
      refine hq_goto (tgt := 43) C dX6_sum_85 (by decide) ?_
      rw [show pf_so P k9 σ = _ from (if_neg c_65)] at k0
      exact hq_fin [0, 1, 2, 3] rfl rfl rfl rfl rfl rfl k0
  · refine hq_iload (q := 0) C dX6_sum_43 rfl ?_
    refine hq_aload_n (q := 2) C dX6_sum_45 rfl rfl ?_
    refine hq_getP (f := 26) (g := 2) (Nc := 1) (Ns := 38) C fr_X6_200 dX6_sum_46 rfl rfl rfl rfl rfl (by decide) Nat.one_pos ?_
    refine hq_icmp_ge (tgt := 88) C dX6_sum_49 (by decide) (fun c_49 => ?_) (fun c_49 => absurd (by rw [show uI P 40 0 0 2 0 = nI nc from hcc]; exact nI_le (Nat.le_refl _) (by omega)) c_49)
    refine hq_iconst (y := 0) C dX6_sum_88 (by decide) ?_
    refine hq_istore (L' := [(4, .int _), (2, .long _), (0, .ref _), (1, .int _)]) C dX6_sum_89 (by decide) rfl ?_
    refine hq_iload (q := 0) C dX6_sum_91 rfl ?_
    refine hq_aload_n (q := 2) C dX6_sum_93 rfl rfl ?_
    refine hq_getP (f := 26) (g := 0) (Nc := 1) (Ns := 38) C fr_X6_113 dX6_sum_94 rfl rfl rfl rfl rfl (by decide) Nat.one_pos ?_
    refine hq_icmp_ge (tgt := 122) C dX6_sum_97 (by decide) (fun c_97 => ?_) (fun c_97 => ?_)
    · refine hq_iconst (y := 0) C dX6_sum_122 (by decide) ?_
      refine hq_istore (L' := [(4, .int _), (2, .long _), (0, .ref _), (1, .int _)]) C dX6_sum_123 (by decide) rfl ?_
      refine hq_iload (q := 0) C dX6_sum_125 rfl ?_
      refine hq_aload_n (q := 2) C dX6_sum_127 rfl rfl ?_
      refine hq_getP (f := 26) (g := 1) (Nc := 1) (Ns := 38) C fr_X6_181 dX6_sum_128 rfl rfl rfl rfl rfl (by decide) Nat.one_pos ?_
      refine hq_icmp_ge (tgt := 172) C dX6_sum_131 (by decide) (fun c_131 => ?_) (fun c_131 => ?_)
      · refine hq_lload_n (q := 1) C dX6_sum_172 rfl rfl ?_
        exact hq_lret C hr hlk dX6_sum_173 rfl rfl
      · refine hq_iload_n (q := 3) C dX6_sum_134 rfl rfl ?_
        refine hq_bipush (y := 7) C dX6_sum_135 (by decide) ?_
        refine hq_icmp_ne (tgt := 172) C dX6_sum_137 (by decide) (fun _ => ?_) (fun c_137 => absurd c_137 (by decide))
        refine hq_lload_n (q := 1) C dX6_sum_172 rfl rfl ?_
        exact hq_lret C hr hlk dX6_sum_173 rfl rfl
    · refine hq_iload_n (q := 3) C dX6_sum_100 rfl rfl ?_
      refine hq_bipush (y := 6) C dX6_sum_101 (by decide) ?_
      refine hq_icmp_ne (tgt := 122) C dX6_sum_103 (by decide) (fun _ => ?_) (fun c_103 => absurd c_103 (by decide))
      refine hq_iconst (y := 0) C dX6_sum_122 (by decide) ?_
      refine hq_istore (L' := [(4, .int _), (2, .long _), (0, .ref _), (1, .int _)]) C dX6_sum_123 (by decide) rfl ?_
      refine hq_iload (q := 0) C dX6_sum_125 rfl ?_
      refine hq_aload_n (q := 2) C dX6_sum_127 rfl rfl ?_
      refine hq_getP (f := 26) (g := 1) (Nc := 1) (Ns := 38) C fr_X6_181 dX6_sum_128 rfl rfl rfl rfl rfl (by decide) Nat.one_pos ?_
      refine hq_icmp_ge (tgt := 172) C dX6_sum_131 (by decide) (fun c_131 => ?_) (fun c_131 => ?_)
      · refine hq_lload_n (q := 1) C dX6_sum_172 rfl rfl ?_
        exact hq_lret C hr hlk dX6_sum_173 rfl rfl
      · refine hq_iload_n (q := 3) C dX6_sum_134 rfl rfl ?_
        refine hq_bipush (y := 7) C dX6_sum_135 (by decide) ?_
        refine hq_icmp_ne (tgt := 172) C dX6_sum_137 (by decide) (fun _ => ?_) (fun c_137 => absurd c_137 (by decide))
        refine hq_lload_n (q := 1) C dX6_sum_172 rfl rfl ?_
        exact hq_lret C hr hlk dX6_sum_173 rfl rfl
set_option maxHeartbeats 4000000 in
set_option maxRecDepth 100000 in
theorem m_X6_sum_6 {l : Launch} {D : va_G} {b0 : Nat} {I : MI} {J : MJ} {P : MI} {N : MJ} {o : Int64} {nb no nc : Nat} (h : pv_iv P nb no nc) : hM l yX6_sum cX6_sum 5 (some .long) rX6_sum D b0 [.ref (hw_ad b0 26 0), .int 6] I J P N o (some (.long (lp (pf_sc N) nb 0 0))) I J (uI P 40 0 0) N o := by
  have hnb := h.1.2
  have hno := h.2.1.2
  have hnc := h.2.2.1.2
  have hbc := h.1.1
  have hoc := h.2.1.1
  have hcc := h.2.2.1.1
  refine hw_Mof (by decide) [(0, .ref _), (1, .int _)] rfl (Nat.le_of_ble_eq_true rfl) ?_
  intro p e s m args below meth c C hr hlk hnm
  refine hq_aload_n (q := 0) C dX6_sum_0 rfl rfl ?_
  refine hq_iload_n (q := 1) C dX6_sum_1 rfl rfl ?_
  refine hq_iconst (y := 0) C dX6_sum_2 (by decide) ?_
  refine hq_bipush (y := 7) C dX6_sum_3 (by decide) ?_
  refine hq_cSr (As := [.int _, .int _, .int _]) (rm := rX6_in) (Cn := "") C (m_X6_in) ws_X6_in ml_X6_116 rfl rfl rfl rfl ⟨Nat.le_of_ble_eq_true rfl, Nat.le_of_ble_eq_true rfl⟩ (Nat.le_of_ble_eq_true rfl) ⟨Nat.le_of_ble_eq_true rfl, Nat.le_of_ble_eq_true rfl⟩ dX6_sum_5 ?_
  refine hq_if_eq (tgt := 15) C dX6_sum_8 (by decide) (fun c_8 => absurd c_8 (by decide)) (fun c_8 => ?_)
  refine hq_iconst (y := 0) C dX6_sum_11 (by decide) ?_
  refine hq_goto (tgt := 16) C dX6_sum_12 (by decide) ?_
  refine hq_cVr (As := [.int _]) (rm := rX6_goesWell) (f := 26) (Nc := 1) C (m_X6_goesWell) wv_X6_goesWell ml_X6_124 rfl rfl rfl Nat.one_pos rfl rfl rfl rfl ⟨Nat.le_of_ble_eq_true rfl, Nat.le_of_ble_eq_true rfl⟩ (Nat.le_of_ble_eq_true rfl) ⟨Nat.le_of_ble_eq_true rfl, Nat.le_of_ble_eq_true rfl⟩ dX6_sum_16 ?_
  refine hq_if_ne (tgt := 24) C dX6_sum_19 (by decide) (fun _ => ?_) (fun c_19 => absurd c_19 (by decide))
  refine hq_iload_n (q := 1) C dX6_sum_24 rfl rfl ?_
  refine hq_iconst (y := 5) C dX6_sum_25 (by decide) ?_
  refine hq_icmp_ge (tgt := 38) C dX6_sum_26 (by decide) (fun _ => ?_) (fun c_26 => absurd c_26 (by decide))
  refine hq_lconst (y := 0) C dX6_sum_38 rfl ?_
  refine hq_lstore_n (L' := [(2, .long _), (0, .ref _), (1, .int _)]) C dX6_sum_39 rfl (by decide) rfl ?_
  refine hq_iconst (y := 0) C dX6_sum_40 (by decide) ?_
  refine hq_istore (L' := [(4, .int _), (2, .long _), (0, .ref _), (1, .int _)]) C dX6_sum_41 (by decide) rfl ?_
  refine hq_iload (q := 0) C dX6_sum_43 rfl ?_
  refine hq_aload_n (q := 2) C dX6_sum_45 rfl rfl ?_
  refine hq_getP (f := 26) (g := 2) (Nc := 1) (Ns := 38) C fr_X6_200 dX6_sum_46 rfl rfl rfl rfl rfl (by decide) Nat.one_pos ?_
  refine hq_icmp_ge (tgt := 88) C dX6_sum_49 (by decide) (fun c_49 => ?_) (fun c_49 => ?_)
  · refine hq_iconst (y := 0) C dX6_sum_88 (by decide) ?_
    refine hq_istore (L' := [(4, .int _), (2, .long _), (0, .ref _), (1, .int _)]) C dX6_sum_89 (by decide) rfl ?_
    refine hq_perm [0, 1, 2, 3] (L' := [(4, .int (nI 0)), (2, .long 0), (0, .ref (hw_ad b0 26 0)), (1, .int 6)]) rfl ?_
    refine lp_back (pf_sc N) (fun (k9 : Nat) (σ : Int64) => hw_V p l e rX6_sum s m args below meth c (MQ below (hw_Q D b0 false 271 (some (.long (lp (pf_sc N) nb 0 0))) (hw_vl b0 I J (uI P 40 0 0) N o)) args s 0 0 (fun q => b0 ≤ q)) D b0 5 false 0 0 271 91 [(4, .int (nI k9)), (2, .long σ), (0, .ref (hw_ad b0 26 0)), (1, .int 6)] [] (hw_vl b0 I J (uI P 40 0 0) N o)) (fun _ _ => True) nb ?_ (fun _ _ _ _ => trivial) nb 0 0 (by omega) trivial ?_
    · intro k9 σ hi0 hinv0 k0
      refine hq_iload (q := 0) C dX6_sum_91 rfl ?_
      refine hq_aload_n (q := 2) C dX6_sum_93 rfl rfl ?_
      refine hq_getP (f := 26) (g := 0) (Nc := 1) (Ns := 38) C fr_X6_113 dX6_sum_94 rfl rfl rfl rfl rfl (by decide) Nat.one_pos ?_
      refine hq_icmp_ge (tgt := 122) C dX6_sum_97 (by decide) (fun c_97 => absurd c_97 (by rw [show uI P 40 0 0 0 0 = nI nb from hbc]; exact nI_ge hi0 (by omega))) (fun c_97 => ?_)
      refine hq_iload_n (q := 3) C dX6_sum_100 rfl rfl ?_
      refine hq_bipush (y := 6) C dX6_sum_101 (by decide) ?_
      refine hq_icmp_ne (tgt := 122) C dX6_sum_103 (by decide) (fun c_103 => absurd c_103 (by decide)) (fun _ => ?_)
      refine hq_lload_n (q := 1) C dX6_sum_106 rfl rfl ?_
      refine hq_aload_n (q := 2) C dX6_sum_107 rfl rfl ?_
      refine hq_getR (f := 26) (g := 28) (Nc := 1) (Ns := 38) C fr_X6_13 dX6_sum_108 rfl rfl rfl rfl rfl (by decide) Nat.one_pos ?_
      refine hq_iload (q := 0) C dX6_sum_111 rfl ?_
      refine hq_laldN0 (f := 28) (a := k9) (g := 0) (Nc := 1) (Ns := 12) C dX6_sum_113 rfl rfl rfl rfl rfl rfl rfl (by omega) Nat.one_pos ?_
      refine hq_ladd C dX6_sum_114 ?_
      refine hq_lstore_n (L' := [(2, .long _), (4, .int _), (0, .ref _), (1, .int _)]) C dX6_sum_115 rfl (by decide) rfl ?_
      refine hq_iinc (q := 1) (y := nI (_ + 1)) (L' := [(4, .int _), (2, .long _), (0, .ref _), (1, .int _)]) C dX6_sum_116 rfl (hw_inc _) (by decide) rfl ?_
      refine hq_goto (tgt := 91) C dX6_sum_119 (by decide) ?_
      exact hq_fin [0, 1, 2, 3] rfl rfl rfl rfl rfl rfl k0
    · refine hq_iload (q := 0) C dX6_sum_91 rfl ?_
      refine hq_aload_n (q := 2) C dX6_sum_93 rfl rfl ?_
      refine hq_getP (f := 26) (g := 0) (Nc := 1) (Ns := 38) C fr_X6_113 dX6_sum_94 rfl rfl rfl rfl rfl (by decide) Nat.one_pos ?_
      refine hq_icmp_ge (tgt := 122) C dX6_sum_97 (by decide) (fun c_97 => ?_) (fun c_97 => absurd (by rw [show uI P 40 0 0 0 0 = nI nb from hbc]; exact nI_le (Nat.le_refl _) (by omega)) c_97)
      refine hq_iconst (y := 0) C dX6_sum_122 (by decide) ?_
      refine hq_istore (L' := [(4, .int _), (2, .long _), (0, .ref _), (1, .int _)]) C dX6_sum_123 (by decide) rfl ?_
      refine hq_iload (q := 0) C dX6_sum_125 rfl ?_
      refine hq_aload_n (q := 2) C dX6_sum_127 rfl rfl ?_
      refine hq_getP (f := 26) (g := 1) (Nc := 1) (Ns := 38) C fr_X6_181 dX6_sum_128 rfl rfl rfl rfl rfl (by decide) Nat.one_pos ?_
      refine hq_icmp_ge (tgt := 172) C dX6_sum_131 (by decide) (fun c_131 => ?_) (fun c_131 => ?_)
      · refine hq_lload_n (q := 1) C dX6_sum_172 rfl rfl ?_
        exact hq_lret C hr hlk dX6_sum_173 rfl rfl
      · refine hq_iload_n (q := 3) C dX6_sum_134 rfl rfl ?_
        refine hq_bipush (y := 7) C dX6_sum_135 (by decide) ?_
        refine hq_icmp_ne (tgt := 172) C dX6_sum_137 (by decide) (fun _ => ?_) (fun c_137 => absurd c_137 (by decide))
        refine hq_lload_n (q := 1) C dX6_sum_172 rfl rfl ?_
        exact hq_lret C hr hlk dX6_sum_173 rfl rfl
  · refine hq_iload_n (q := 3) C dX6_sum_52 rfl rfl ?_
    refine hq_iconst (y := 5) C dX6_sum_53 (by decide) ?_
    refine hq_icmp_ne (tgt := 88) C dX6_sum_54 (by decide) (fun _ => ?_) (fun c_54 => absurd c_54 (by decide))
    refine hq_iconst (y := 0) C dX6_sum_88 (by decide) ?_
    refine hq_istore (L' := [(4, .int _), (2, .long _), (0, .ref _), (1, .int _)]) C dX6_sum_89 (by decide) rfl ?_
    refine hq_perm [0, 1, 2, 3] (L' := [(4, .int (nI 0)), (2, .long 0), (0, .ref (hw_ad b0 26 0)), (1, .int 6)]) rfl ?_
    refine lp_back (pf_sc N) (fun (k9 : Nat) (σ : Int64) => hw_V p l e rX6_sum s m args below meth c (MQ below (hw_Q D b0 false 271 (some (.long (lp (pf_sc N) nb 0 0))) (hw_vl b0 I J (uI P 40 0 0) N o)) args s 0 0 (fun q => b0 ≤ q)) D b0 5 false 0 0 271 91 [(4, .int (nI k9)), (2, .long σ), (0, .ref (hw_ad b0 26 0)), (1, .int 6)] [] (hw_vl b0 I J (uI P 40 0 0) N o)) (fun _ _ => True) nb ?_ (fun _ _ _ _ => trivial) nb 0 0 (by omega) trivial ?_
    · intro k9 σ hi0 hinv0 k0
      refine hq_iload (q := 0) C dX6_sum_91 rfl ?_
      refine hq_aload_n (q := 2) C dX6_sum_93 rfl rfl ?_
      refine hq_getP (f := 26) (g := 0) (Nc := 1) (Ns := 38) C fr_X6_113 dX6_sum_94 rfl rfl rfl rfl rfl (by decide) Nat.one_pos ?_
      refine hq_icmp_ge (tgt := 122) C dX6_sum_97 (by decide) (fun c_97 => absurd c_97 (by rw [show uI P 40 0 0 0 0 = nI nb from hbc]; exact nI_ge hi0 (by omega))) (fun c_97 => ?_)
      refine hq_iload_n (q := 3) C dX6_sum_100 rfl rfl ?_
      refine hq_bipush (y := 6) C dX6_sum_101 (by decide) ?_
      refine hq_icmp_ne (tgt := 122) C dX6_sum_103 (by decide) (fun c_103 => absurd c_103 (by decide)) (fun _ => ?_)
      refine hq_lload_n (q := 1) C dX6_sum_106 rfl rfl ?_
      refine hq_aload_n (q := 2) C dX6_sum_107 rfl rfl ?_
      refine hq_getR (f := 26) (g := 28) (Nc := 1) (Ns := 38) C fr_X6_13 dX6_sum_108 rfl rfl rfl rfl rfl (by decide) Nat.one_pos ?_
      refine hq_iload (q := 0) C dX6_sum_111 rfl ?_
      refine hq_laldN0 (f := 28) (a := k9) (g := 0) (Nc := 1) (Ns := 12) C dX6_sum_113 rfl rfl rfl rfl rfl rfl rfl (by omega) Nat.one_pos ?_
      refine hq_ladd C dX6_sum_114 ?_
      refine hq_lstore_n (L' := [(2, .long _), (4, .int _), (0, .ref _), (1, .int _)]) C dX6_sum_115 rfl (by decide) rfl ?_
      refine hq_iinc (q := 1) (y := nI (_ + 1)) (L' := [(4, .int _), (2, .long _), (0, .ref _), (1, .int _)]) C dX6_sum_116 rfl (hw_inc _) (by decide) rfl ?_
      refine hq_goto (tgt := 91) C dX6_sum_119 (by decide) ?_
      exact hq_fin [0, 1, 2, 3] rfl rfl rfl rfl rfl rfl k0
    · refine hq_iload (q := 0) C dX6_sum_91 rfl ?_
      refine hq_aload_n (q := 2) C dX6_sum_93 rfl rfl ?_
      refine hq_getP (f := 26) (g := 0) (Nc := 1) (Ns := 38) C fr_X6_113 dX6_sum_94 rfl rfl rfl rfl rfl (by decide) Nat.one_pos ?_
      refine hq_icmp_ge (tgt := 122) C dX6_sum_97 (by decide) (fun c_97 => ?_) (fun c_97 => absurd (by rw [show uI P 40 0 0 0 0 = nI nb from hbc]; exact nI_le (Nat.le_refl _) (by omega)) c_97)
      refine hq_iconst (y := 0) C dX6_sum_122 (by decide) ?_
      refine hq_istore (L' := [(4, .int _), (2, .long _), (0, .ref _), (1, .int _)]) C dX6_sum_123 (by decide) rfl ?_
      refine hq_iload (q := 0) C dX6_sum_125 rfl ?_
      refine hq_aload_n (q := 2) C dX6_sum_127 rfl rfl ?_
      refine hq_getP (f := 26) (g := 1) (Nc := 1) (Ns := 38) C fr_X6_181 dX6_sum_128 rfl rfl rfl rfl rfl (by decide) Nat.one_pos ?_
      refine hq_icmp_ge (tgt := 172) C dX6_sum_131 (by decide) (fun c_131 => ?_) (fun c_131 => ?_)
      · refine hq_lload_n (q := 1) C dX6_sum_172 rfl rfl ?_
        exact hq_lret C hr hlk dX6_sum_173 rfl rfl
      · refine hq_iload_n (q := 3) C dX6_sum_134 rfl rfl ?_
        refine hq_bipush (y := 7) C dX6_sum_135 (by decide) ?_
        refine hq_icmp_ne (tgt := 172) C dX6_sum_137 (by decide) (fun _ => ?_) (fun c_137 => absurd c_137 (by decide))
        refine hq_lload_n (q := 1) C dX6_sum_172 rfl rfl ?_
        exact hq_lret C hr hlk dX6_sum_173 rfl rfl
set_option maxHeartbeats 4000000 in
set_option maxRecDepth 100000 in
theorem m_X6_sum_7 {l : Launch} {D : va_G} {b0 : Nat} {I : MI} {J : MJ} {P : MI} {N : MJ} {o : Int64} {nb no nc : Nat} (h : pv_iv P nb no nc) : hM l yX6_sum cX6_sum 5 (some .long) rX6_sum D b0 [.ref (hw_ad b0 26 0), .int 7] I J P N o (some (.long (lp (pf_sl P) no 0 0))) I J (uI P 40 0 0) N o := by
  have hnb := h.1.2
  have hno := h.2.1.2
  have hnc := h.2.2.1.2
  have hbc := h.1.1
  have hoc := h.2.1.1
  have hcc := h.2.2.1.1
  refine hw_Mof (by decide) [(0, .ref _), (1, .int _)] rfl (Nat.le_of_ble_eq_true rfl) ?_
  intro p e s m args below meth c C hr hlk hnm
  refine hq_aload_n (q := 0) C dX6_sum_0 rfl rfl ?_
  refine hq_iload_n (q := 1) C dX6_sum_1 rfl rfl ?_
  refine hq_iconst (y := 0) C dX6_sum_2 (by decide) ?_
  refine hq_bipush (y := 7) C dX6_sum_3 (by decide) ?_
  refine hq_cSr (As := [.int _, .int _, .int _]) (rm := rX6_in) (Cn := "") C (m_X6_in) ws_X6_in ml_X6_116 rfl rfl rfl rfl ⟨Nat.le_of_ble_eq_true rfl, Nat.le_of_ble_eq_true rfl⟩ (Nat.le_of_ble_eq_true rfl) ⟨Nat.le_of_ble_eq_true rfl, Nat.le_of_ble_eq_true rfl⟩ dX6_sum_5 ?_
  refine hq_if_eq (tgt := 15) C dX6_sum_8 (by decide) (fun c_8 => absurd c_8 (by decide)) (fun c_8 => ?_)
  refine hq_iconst (y := 0) C dX6_sum_11 (by decide) ?_
  refine hq_goto (tgt := 16) C dX6_sum_12 (by decide) ?_
  refine hq_cVr (As := [.int _]) (rm := rX6_goesWell) (f := 26) (Nc := 1) C (m_X6_goesWell) wv_X6_goesWell ml_X6_124 rfl rfl rfl Nat.one_pos rfl rfl rfl rfl ⟨Nat.le_of_ble_eq_true rfl, Nat.le_of_ble_eq_true rfl⟩ (Nat.le_of_ble_eq_true rfl) ⟨Nat.le_of_ble_eq_true rfl, Nat.le_of_ble_eq_true rfl⟩ dX6_sum_16 ?_
  refine hq_if_ne (tgt := 24) C dX6_sum_19 (by decide) (fun _ => ?_) (fun c_19 => absurd c_19 (by decide))
  refine hq_iload_n (q := 1) C dX6_sum_24 rfl rfl ?_
  refine hq_iconst (y := 5) C dX6_sum_25 (by decide) ?_
  refine hq_icmp_ge (tgt := 38) C dX6_sum_26 (by decide) (fun _ => ?_) (fun c_26 => absurd c_26 (by decide))
  refine hq_lconst (y := 0) C dX6_sum_38 rfl ?_
  refine hq_lstore_n (L' := [(2, .long _), (0, .ref _), (1, .int _)]) C dX6_sum_39 rfl (by decide) rfl ?_
  refine hq_iconst (y := 0) C dX6_sum_40 (by decide) ?_
  refine hq_istore (L' := [(4, .int _), (2, .long _), (0, .ref _), (1, .int _)]) C dX6_sum_41 (by decide) rfl ?_
  refine hq_iload (q := 0) C dX6_sum_43 rfl ?_
  refine hq_aload_n (q := 2) C dX6_sum_45 rfl rfl ?_
  refine hq_getP (f := 26) (g := 2) (Nc := 1) (Ns := 38) C fr_X6_200 dX6_sum_46 rfl rfl rfl rfl rfl (by decide) Nat.one_pos ?_
  refine hq_icmp_ge (tgt := 88) C dX6_sum_49 (by decide) (fun c_49 => ?_) (fun c_49 => ?_)
  · refine hq_iconst (y := 0) C dX6_sum_88 (by decide) ?_
    refine hq_istore (L' := [(4, .int _), (2, .long _), (0, .ref _), (1, .int _)]) C dX6_sum_89 (by decide) rfl ?_
    refine hq_iload (q := 0) C dX6_sum_91 rfl ?_
    refine hq_aload_n (q := 2) C dX6_sum_93 rfl rfl ?_
    refine hq_getP (f := 26) (g := 0) (Nc := 1) (Ns := 38) C fr_X6_113 dX6_sum_94 rfl rfl rfl rfl rfl (by decide) Nat.one_pos ?_
    refine hq_icmp_ge (tgt := 122) C dX6_sum_97 (by decide) (fun c_97 => ?_) (fun c_97 => ?_)
    · refine hq_iconst (y := 0) C dX6_sum_122 (by decide) ?_
      refine hq_istore (L' := [(4, .int _), (2, .long _), (0, .ref _), (1, .int _)]) C dX6_sum_123 (by decide) rfl ?_
      refine hq_perm [0, 1, 2, 3] (L' := [(4, .int (nI 0)), (2, .long 0), (0, .ref (hw_ad b0 26 0)), (1, .int 7)]) rfl ?_
      refine lp_back (pf_sl P) (fun (k9 : Nat) (σ : Int64) => hw_V p l e rX6_sum s m args below meth c (MQ below (hw_Q D b0 false 271 (some (.long (lp (pf_sl P) no 0 0))) (hw_vl b0 I J (uI P 40 0 0) N o)) args s 0 0 (fun q => b0 ≤ q)) D b0 5 false 0 0 271 125 [(4, .int (nI k9)), (2, .long σ), (0, .ref (hw_ad b0 26 0)), (1, .int 7)] [] (hw_vl b0 I J (uI P 40 0 0) N o)) (fun _ _ => True) no ?_ (fun _ _ _ _ => trivial) no 0 0 (by omega) trivial ?_
      · intro k9 σ hi0 hinv0 k0
        refine hq_iload (q := 0) C dX6_sum_125 rfl ?_
        refine hq_aload_n (q := 2) C dX6_sum_127 rfl rfl ?_
        refine hq_getP (f := 26) (g := 1) (Nc := 1) (Ns := 38) C fr_X6_181 dX6_sum_128 rfl rfl rfl rfl rfl (by decide) Nat.one_pos ?_
        refine hq_icmp_ge (tgt := 172) C dX6_sum_131 (by decide) (fun c_131 => absurd c_131 (by rw [show uI P 40 0 0 1 0 = nI no from hoc]; exact nI_ge hi0 (by omega))) (fun c_131 => ?_)
        refine hq_iload_n (q := 3) C dX6_sum_134 rfl rfl ?_
        refine hq_bipush (y := 7) C dX6_sum_135 (by decide) ?_
        refine hq_icmp_ne (tgt := 172) C dX6_sum_137 (by decide) (fun c_137 => absurd c_137 (by decide)) (fun _ => ?_)
        refine hq_lload_n (q := 1) C dX6_sum_140 rfl rfl ?_
        refine hq_aload_n (q := 2) C dX6_sum_141 rfl rfl ?_
        refine hq_getR (f := 26) (g := 37) (Nc := 1) (Ns := 38) C fr_X6_42 dX6_sum_142 rfl rfl rfl rfl rfl (by decide) Nat.one_pos ?_
        refine hq_iload (q := 0) C dX6_sum_145 rfl ?_
        refine hq_ialdP0 (f := 37) (a := k9) (g := 16) (Nc := 1) (Ns := 40) C dX6_sum_147 rfl rfl rfl rfl rfl rfl rfl (by omega) Nat.one_pos ?_
        refine hq_iconst (y := 5) C dX6_sum_148 (by decide) ?_
        refine hq_icmp_ne (tgt := 163) C dX6_sum_149 (by decide) (fun c_149 => ?_) (fun c_149 => ?_)
        · refine hq_lconst (y := 0) C dX6_sum_163 rfl ?_
          refine hq_ladd C dX6_sum_164 ?_
          refine hq_lstore_n (L' := [(2, .long _), (4, .int _), (0, .ref _), (1, .int _)]) C dX6_sum_165 rfl (by decide) rfl ?_
          refine hq_iinc (q := 1) (y := nI (_ + 1)) (L' := [(4, .int _), (2, .long _), (0, .ref _), (1, .int _)]) C dX6_sum_166 rfl (hw_inc _) (by decide) rfl ?_
          refine hq_goto (tgt := 125) C dX6_sum_169 (by decide) ?_
          rw [show pf_sl P k9 σ = _ from (if_pos c_149)] at k0
          exact hq_fin [0, 1, 2, 3] rfl rfl rfl rfl rfl rfl k0
        · refine hq_aload_n (q := 2) C dX6_sum_152 rfl rfl ?_
          refine hq_getR (f := 26) (g := 39) (Nc := 1) (Ns := 38) C fr_X6_48 dX6_sum_153 rfl rfl rfl rfl rfl (by decide) Nat.one_pos ?_
          refine hq_iload (q := 0) C dX6_sum_156 rfl ?_
          refine hq_ialdP0 (f := 39) (a := k9) (g := 14) (Nc := 1) (Ns := 40) C dX6_sum_158 rfl rfl rfl rfl rfl rfl rfl (by omega) Nat.one_pos ?_
          refine hq_i2l C dX6_sum_159 ?_
          refine hq_goto (tgt := 164) C dX6_sum_160 (by decide) ?_
          refine hq_ladd C dX6_sum_164 ?_
          refine hq_lstore_n (L' := [(2, .long _), (4, .int _), (0, .ref _), (1, .int _)]) C dX6_sum_165 rfl (by decide) rfl ?_
          refine hq_iinc (q := 1) (y := nI (_ + 1)) (L' := [(4, .int _), (2, .long _), (0, .ref _), (1, .int _)]) C dX6_sum_166 rfl (hw_inc _) (by decide) rfl ?_
          refine hq_goto (tgt := 125) C dX6_sum_169 (by decide) ?_
          rw [show pf_sl P k9 σ = _ from (if_neg (fun z9 => z9 c_149))] at k0
          exact hq_fin [0, 1, 2, 3] rfl rfl rfl rfl rfl rfl k0
      · refine hq_iload (q := 0) C dX6_sum_125 rfl ?_
        refine hq_aload_n (q := 2) C dX6_sum_127 rfl rfl ?_
        refine hq_getP (f := 26) (g := 1) (Nc := 1) (Ns := 38) C fr_X6_181 dX6_sum_128 rfl rfl rfl rfl rfl (by decide) Nat.one_pos ?_
        refine hq_icmp_ge (tgt := 172) C dX6_sum_131 (by decide) (fun c_131 => ?_) (fun c_131 => absurd (by rw [show uI P 40 0 0 1 0 = nI no from hoc]; exact nI_le (Nat.le_refl _) (by omega)) c_131)
        refine hq_lload_n (q := 1) C dX6_sum_172 rfl rfl ?_
        exact hq_lret C hr hlk dX6_sum_173 rfl rfl
    · refine hq_iload_n (q := 3) C dX6_sum_100 rfl rfl ?_
      refine hq_bipush (y := 6) C dX6_sum_101 (by decide) ?_
      refine hq_icmp_ne (tgt := 122) C dX6_sum_103 (by decide) (fun _ => ?_) (fun c_103 => absurd c_103 (by decide))
      refine hq_iconst (y := 0) C dX6_sum_122 (by decide) ?_
      refine hq_istore (L' := [(4, .int _), (2, .long _), (0, .ref _), (1, .int _)]) C dX6_sum_123 (by decide) rfl ?_
      refine hq_perm [0, 1, 2, 3] (L' := [(4, .int (nI 0)), (2, .long 0), (0, .ref (hw_ad b0 26 0)), (1, .int 7)]) rfl ?_
      refine lp_back (pf_sl P) (fun (k9 : Nat) (σ : Int64) => hw_V p l e rX6_sum s m args below meth c (MQ below (hw_Q D b0 false 271 (some (.long (lp (pf_sl P) no 0 0))) (hw_vl b0 I J (uI P 40 0 0) N o)) args s 0 0 (fun q => b0 ≤ q)) D b0 5 false 0 0 271 125 [(4, .int (nI k9)), (2, .long σ), (0, .ref (hw_ad b0 26 0)), (1, .int 7)] [] (hw_vl b0 I J (uI P 40 0 0) N o)) (fun _ _ => True) no ?_ (fun _ _ _ _ => trivial) no 0 0 (by omega) trivial ?_
      · intro k9 σ hi0 hinv0 k0
        refine hq_iload (q := 0) C dX6_sum_125 rfl ?_
        refine hq_aload_n (q := 2) C dX6_sum_127 rfl rfl ?_
        refine hq_getP (f := 26) (g := 1) (Nc := 1) (Ns := 38) C fr_X6_181 dX6_sum_128 rfl rfl rfl rfl rfl (by decide) Nat.one_pos ?_
        refine hq_icmp_ge (tgt := 172) C dX6_sum_131 (by decide) (fun c_131 => absurd c_131 (by rw [show uI P 40 0 0 1 0 = nI no from hoc]; exact nI_ge hi0 (by omega))) (fun c_131 => ?_)
        refine hq_iload_n (q := 3) C dX6_sum_134 rfl rfl ?_
        refine hq_bipush (y := 7) C dX6_sum_135 (by decide) ?_
        refine hq_icmp_ne (tgt := 172) C dX6_sum_137 (by decide) (fun c_137 => absurd c_137 (by decide)) (fun _ => ?_)
        refine hq_lload_n (q := 1) C dX6_sum_140 rfl rfl ?_
        refine hq_aload_n (q := 2) C dX6_sum_141 rfl rfl ?_
        refine hq_getR (f := 26) (g := 37) (Nc := 1) (Ns := 38) C fr_X6_42 dX6_sum_142 rfl rfl rfl rfl rfl (by decide) Nat.one_pos ?_
        refine hq_iload (q := 0) C dX6_sum_145 rfl ?_
        refine hq_ialdP0 (f := 37) (a := k9) (g := 16) (Nc := 1) (Ns := 40) C dX6_sum_147 rfl rfl rfl rfl rfl rfl rfl (by omega) Nat.one_pos ?_
        refine hq_iconst (y := 5) C dX6_sum_148 (by decide) ?_
        refine hq_icmp_ne (tgt := 163) C dX6_sum_149 (by decide) (fun c_149 => ?_) (fun c_149 => ?_)
        · refine hq_lconst (y := 0) C dX6_sum_163 rfl ?_
          refine hq_ladd C dX6_sum_164 ?_
          refine hq_lstore_n (L' := [(2, .long _), (4, .int _), (0, .ref _), (1, .int _)]) C dX6_sum_165 rfl (by decide) rfl ?_
          refine hq_iinc (q := 1) (y := nI (_ + 1)) (L' := [(4, .int _), (2, .long _), (0, .ref _), (1, .int _)]) C dX6_sum_166 rfl (hw_inc _) (by decide) rfl ?_
          refine hq_goto (tgt := 125) C dX6_sum_169 (by decide) ?_
          rw [show pf_sl P k9 σ = _ from (if_pos c_149)] at k0
          exact hq_fin [0, 1, 2, 3] rfl rfl rfl rfl rfl rfl k0
        · refine hq_aload_n (q := 2) C dX6_sum_152 rfl rfl ?_
          refine hq_getR (f := 26) (g := 39) (Nc := 1) (Ns := 38) C fr_X6_48 dX6_sum_153 rfl rfl rfl rfl rfl (by decide) Nat.one_pos ?_
          refine hq_iload (q := 0) C dX6_sum_156 rfl ?_
          refine hq_ialdP0 (f := 39) (a := k9) (g := 14) (Nc := 1) (Ns := 40) C dX6_sum_158 rfl rfl rfl rfl rfl rfl rfl (by omega) Nat.one_pos ?_
          refine hq_i2l C dX6_sum_159 ?_
          refine hq_goto (tgt := 164) C dX6_sum_160 (by decide) ?_
          refine hq_ladd C dX6_sum_164 ?_
          refine hq_lstore_n (L' := [(2, .long _), (4, .int _), (0, .ref _), (1, .int _)]) C dX6_sum_165 rfl (by decide) rfl ?_
          refine hq_iinc (q := 1) (y := nI (_ + 1)) (L' := [(4, .int _), (2, .long _), (0, .ref _), (1, .int _)]) C dX6_sum_166 rfl (hw_inc _) (by decide) rfl ?_
          refine hq_goto (tgt := 125) C dX6_sum_169 (by decide) ?_
          rw [show pf_sl P k9 σ = _ from (if_neg (fun z9 => z9 c_149))] at k0
          exact hq_fin [0, 1, 2, 3] rfl rfl rfl rfl rfl rfl k0
      · refine hq_iload (q := 0) C dX6_sum_125 rfl ?_
        refine hq_aload_n (q := 2) C dX6_sum_127 rfl rfl ?_
        refine hq_getP (f := 26) (g := 1) (Nc := 1) (Ns := 38) C fr_X6_181 dX6_sum_128 rfl rfl rfl rfl rfl (by decide) Nat.one_pos ?_
        refine hq_icmp_ge (tgt := 172) C dX6_sum_131 (by decide) (fun c_131 => ?_) (fun c_131 => absurd (by rw [show uI P 40 0 0 1 0 = nI no from hoc]; exact nI_le (Nat.le_refl _) (by omega)) c_131)
        refine hq_lload_n (q := 1) C dX6_sum_172 rfl rfl ?_
        exact hq_lret C hr hlk dX6_sum_173 rfl rfl
  · refine hq_iload_n (q := 3) C dX6_sum_52 rfl rfl ?_
    refine hq_iconst (y := 5) C dX6_sum_53 (by decide) ?_
    refine hq_icmp_ne (tgt := 88) C dX6_sum_54 (by decide) (fun _ => ?_) (fun c_54 => absurd c_54 (by decide))
    refine hq_iconst (y := 0) C dX6_sum_88 (by decide) ?_
    refine hq_istore (L' := [(4, .int _), (2, .long _), (0, .ref _), (1, .int _)]) C dX6_sum_89 (by decide) rfl ?_
    refine hq_iload (q := 0) C dX6_sum_91 rfl ?_
    refine hq_aload_n (q := 2) C dX6_sum_93 rfl rfl ?_
    refine hq_getP (f := 26) (g := 0) (Nc := 1) (Ns := 38) C fr_X6_113 dX6_sum_94 rfl rfl rfl rfl rfl (by decide) Nat.one_pos ?_
    refine hq_icmp_ge (tgt := 122) C dX6_sum_97 (by decide) (fun c_97 => ?_) (fun c_97 => ?_)
    · refine hq_iconst (y := 0) C dX6_sum_122 (by decide) ?_
      refine hq_istore (L' := [(4, .int _), (2, .long _), (0, .ref _), (1, .int _)]) C dX6_sum_123 (by decide) rfl ?_
      refine hq_perm [0, 1, 2, 3] (L' := [(4, .int (nI 0)), (2, .long 0), (0, .ref (hw_ad b0 26 0)), (1, .int 7)]) rfl ?_
      refine lp_back (pf_sl P) (fun (k9 : Nat) (σ : Int64) => hw_V p l e rX6_sum s m args below meth c (MQ below (hw_Q D b0 false 271 (some (.long (lp (pf_sl P) no 0 0))) (hw_vl b0 I J (uI P 40 0 0) N o)) args s 0 0 (fun q => b0 ≤ q)) D b0 5 false 0 0 271 125 [(4, .int (nI k9)), (2, .long σ), (0, .ref (hw_ad b0 26 0)), (1, .int 7)] [] (hw_vl b0 I J (uI P 40 0 0) N o)) (fun _ _ => True) no ?_ (fun _ _ _ _ => trivial) no 0 0 (by omega) trivial ?_
      · intro k9 σ hi0 hinv0 k0
        refine hq_iload (q := 0) C dX6_sum_125 rfl ?_
        refine hq_aload_n (q := 2) C dX6_sum_127 rfl rfl ?_
        refine hq_getP (f := 26) (g := 1) (Nc := 1) (Ns := 38) C fr_X6_181 dX6_sum_128 rfl rfl rfl rfl rfl (by decide) Nat.one_pos ?_
        refine hq_icmp_ge (tgt := 172) C dX6_sum_131 (by decide) (fun c_131 => absurd c_131 (by rw [show uI P 40 0 0 1 0 = nI no from hoc]; exact nI_ge hi0 (by omega))) (fun c_131 => ?_)
        refine hq_iload_n (q := 3) C dX6_sum_134 rfl rfl ?_
        refine hq_bipush (y := 7) C dX6_sum_135 (by decide) ?_
        refine hq_icmp_ne (tgt := 172) C dX6_sum_137 (by decide) (fun c_137 => absurd c_137 (by decide)) (fun _ => ?_)
        refine hq_lload_n (q := 1) C dX6_sum_140 rfl rfl ?_
        refine hq_aload_n (q := 2) C dX6_sum_141 rfl rfl ?_
        refine hq_getR (f := 26) (g := 37) (Nc := 1) (Ns := 38) C fr_X6_42 dX6_sum_142 rfl rfl rfl rfl rfl (by decide) Nat.one_pos ?_
        refine hq_iload (q := 0) C dX6_sum_145 rfl ?_
        refine hq_ialdP0 (f := 37) (a := k9) (g := 16) (Nc := 1) (Ns := 40) C dX6_sum_147 rfl rfl rfl rfl rfl rfl rfl (by omega) Nat.one_pos ?_
        refine hq_iconst (y := 5) C dX6_sum_148 (by decide) ?_
        refine hq_icmp_ne (tgt := 163) C dX6_sum_149 (by decide) (fun c_149 => ?_) (fun c_149 => ?_)
        · refine hq_lconst (y := 0) C dX6_sum_163 rfl ?_
          refine hq_ladd C dX6_sum_164 ?_
          refine hq_lstore_n (L' := [(2, .long _), (4, .int _), (0, .ref _), (1, .int _)]) C dX6_sum_165 rfl (by decide) rfl ?_
          refine hq_iinc (q := 1) (y := nI (_ + 1)) (L' := [(4, .int _), (2, .long _), (0, .ref _), (1, .int _)]) C dX6_sum_166 rfl (hw_inc _) (by decide) rfl ?_
          refine hq_goto (tgt := 125) C dX6_sum_169 (by decide) ?_
          rw [show pf_sl P k9 σ = _ from (if_pos c_149)] at k0
          exact hq_fin [0, 1, 2, 3] rfl rfl rfl rfl rfl rfl k0
        · refine hq_aload_n (q := 2) C dX6_sum_152 rfl rfl ?_
          refine hq_getR (f := 26) (g := 39) (Nc := 1) (Ns := 38) C fr_X6_48 dX6_sum_153 rfl rfl rfl rfl rfl (by decide) Nat.one_pos ?_
          refine hq_iload (q := 0) C dX6_sum_156 rfl ?_
          refine hq_ialdP0 (f := 39) (a := k9) (g := 14) (Nc := 1) (Ns := 40) C dX6_sum_158 rfl rfl rfl rfl rfl rfl rfl (by omega) Nat.one_pos ?_
          refine hq_i2l C dX6_sum_159 ?_
          refine hq_goto (tgt := 164) C dX6_sum_160 (by decide) ?_
          refine hq_ladd C dX6_sum_164 ?_
          refine hq_lstore_n (L' := [(2, .long _), (4, .int _), (0, .ref _), (1, .int _)]) C dX6_sum_165 rfl (by decide) rfl ?_
          refine hq_iinc (q := 1) (y := nI (_ + 1)) (L' := [(4, .int _), (2, .long _), (0, .ref _), (1, .int _)]) C dX6_sum_166 rfl (hw_inc _) (by decide) rfl ?_
          refine hq_goto (tgt := 125) C dX6_sum_169 (by decide) ?_
          rw [show pf_sl P k9 σ = _ from (if_neg (fun z9 => z9 c_149))] at k0
          exact hq_fin [0, 1, 2, 3] rfl rfl rfl rfl rfl rfl k0
      · refine hq_iload (q := 0) C dX6_sum_125 rfl ?_
        refine hq_aload_n (q := 2) C dX6_sum_127 rfl rfl ?_
        refine hq_getP (f := 26) (g := 1) (Nc := 1) (Ns := 38) C fr_X6_181 dX6_sum_128 rfl rfl rfl rfl rfl (by decide) Nat.one_pos ?_
        refine hq_icmp_ge (tgt := 172) C dX6_sum_131 (by decide) (fun c_131 => ?_) (fun c_131 => absurd (by rw [show uI P 40 0 0 1 0 = nI no from hoc]; exact nI_le (Nat.le_refl _) (by omega)) c_131)
        refine hq_lload_n (q := 1) C dX6_sum_172 rfl rfl ?_
        exact hq_lret C hr hlk dX6_sum_173 rfl rfl
    · refine hq_iload_n (q := 3) C dX6_sum_100 rfl rfl ?_
      refine hq_bipush (y := 6) C dX6_sum_101 (by decide) ?_
      refine hq_icmp_ne (tgt := 122) C dX6_sum_103 (by decide) (fun _ => ?_) (fun c_103 => absurd c_103 (by decide))
      refine hq_iconst (y := 0) C dX6_sum_122 (by decide) ?_
      refine hq_istore (L' := [(4, .int _), (2, .long _), (0, .ref _), (1, .int _)]) C dX6_sum_123 (by decide) rfl ?_
      refine hq_perm [0, 1, 2, 3] (L' := [(4, .int (nI 0)), (2, .long 0), (0, .ref (hw_ad b0 26 0)), (1, .int 7)]) rfl ?_
      refine lp_back (pf_sl P) (fun (k9 : Nat) (σ : Int64) => hw_V p l e rX6_sum s m args below meth c (MQ below (hw_Q D b0 false 271 (some (.long (lp (pf_sl P) no 0 0))) (hw_vl b0 I J (uI P 40 0 0) N o)) args s 0 0 (fun q => b0 ≤ q)) D b0 5 false 0 0 271 125 [(4, .int (nI k9)), (2, .long σ), (0, .ref (hw_ad b0 26 0)), (1, .int 7)] [] (hw_vl b0 I J (uI P 40 0 0) N o)) (fun _ _ => True) no ?_ (fun _ _ _ _ => trivial) no 0 0 (by omega) trivial ?_
      · intro k9 σ hi0 hinv0 k0
        refine hq_iload (q := 0) C dX6_sum_125 rfl ?_
        refine hq_aload_n (q := 2) C dX6_sum_127 rfl rfl ?_
        refine hq_getP (f := 26) (g := 1) (Nc := 1) (Ns := 38) C fr_X6_181 dX6_sum_128 rfl rfl rfl rfl rfl (by decide) Nat.one_pos ?_
        refine hq_icmp_ge (tgt := 172) C dX6_sum_131 (by decide) (fun c_131 => absurd c_131 (by rw [show uI P 40 0 0 1 0 = nI no from hoc]; exact nI_ge hi0 (by omega))) (fun c_131 => ?_)
        refine hq_iload_n (q := 3) C dX6_sum_134 rfl rfl ?_
        refine hq_bipush (y := 7) C dX6_sum_135 (by decide) ?_
        refine hq_icmp_ne (tgt := 172) C dX6_sum_137 (by decide) (fun c_137 => absurd c_137 (by decide)) (fun _ => ?_)
        refine hq_lload_n (q := 1) C dX6_sum_140 rfl rfl ?_
        refine hq_aload_n (q := 2) C dX6_sum_141 rfl rfl ?_
        refine hq_getR (f := 26) (g := 37) (Nc := 1) (Ns := 38) C fr_X6_42 dX6_sum_142 rfl rfl rfl rfl rfl (by decide) Nat.one_pos ?_
        refine hq_iload (q := 0) C dX6_sum_145 rfl ?_
        refine hq_ialdP0 (f := 37) (a := k9) (g := 16) (Nc := 1) (Ns := 40) C dX6_sum_147 rfl rfl rfl rfl rfl rfl rfl (by omega) Nat.one_pos ?_
        refine hq_iconst (y := 5) C dX6_sum_148 (by decide) ?_
        refine hq_icmp_ne (tgt := 163) C dX6_sum_149 (by decide) (fun c_149 => ?_) (fun c_149 => ?_)
        · refine hq_lconst (y := 0) C dX6_sum_163 rfl ?_
          refine hq_ladd C dX6_sum_164 ?_
          refine hq_lstore_n (L' := [(2, .long _), (4, .int _), (0, .ref _), (1, .int _)]) C dX6_sum_165 rfl (by decide) rfl ?_
          refine hq_iinc (q := 1) (y := nI (_ + 1)) (L' := [(4, .int _), (2, .long _), (0, .ref _), (1, .int _)]) C dX6_sum_166 rfl (hw_inc _) (by decide) rfl ?_
          refine hq_goto (tgt := 125) C dX6_sum_169 (by decide) ?_
          rw [show pf_sl P k9 σ = _ from (if_pos c_149)] at k0
          exact hq_fin [0, 1, 2, 3] rfl rfl rfl rfl rfl rfl k0
        · refine hq_aload_n (q := 2) C dX6_sum_152 rfl rfl ?_
          refine hq_getR (f := 26) (g := 39) (Nc := 1) (Ns := 38) C fr_X6_48 dX6_sum_153 rfl rfl rfl rfl rfl (by decide) Nat.one_pos ?_
          refine hq_iload (q := 0) C dX6_sum_156 rfl ?_
          refine hq_ialdP0 (f := 39) (a := k9) (g := 14) (Nc := 1) (Ns := 40) C dX6_sum_158 rfl rfl rfl rfl rfl rfl rfl (by omega) Nat.one_pos ?_
          refine hq_i2l C dX6_sum_159 ?_
          refine hq_goto (tgt := 164) C dX6_sum_160 (by decide) ?_
          refine hq_ladd C dX6_sum_164 ?_
          refine hq_lstore_n (L' := [(2, .long _), (4, .int _), (0, .ref _), (1, .int _)]) C dX6_sum_165 rfl (by decide) rfl ?_
          refine hq_iinc (q := 1) (y := nI (_ + 1)) (L' := [(4, .int _), (2, .long _), (0, .ref _), (1, .int _)]) C dX6_sum_166 rfl (hw_inc _) (by decide) rfl ?_
          refine hq_goto (tgt := 125) C dX6_sum_169 (by decide) ?_
          rw [show pf_sl P k9 σ = _ from (if_neg (fun z9 => z9 c_149))] at k0
          exact hq_fin [0, 1, 2, 3] rfl rfl rfl rfl rfl rfl k0
      · refine hq_iload (q := 0) C dX6_sum_125 rfl ?_
        refine hq_aload_n (q := 2) C dX6_sum_127 rfl rfl ?_
        refine hq_getP (f := 26) (g := 1) (Nc := 1) (Ns := 38) C fr_X6_181 dX6_sum_128 rfl rfl rfl rfl rfl (by decide) Nat.one_pos ?_
        refine hq_icmp_ge (tgt := 172) C dX6_sum_131 (by decide) (fun c_131 => ?_) (fun c_131 => absurd (by rw [show uI P 40 0 0 1 0 = nI no from hoc]; exact nI_le (Nat.le_refl _) (by omega)) c_131)
        refine hq_lload_n (q := 1) C dX6_sum_172 rfl rfl ?_
        exact hq_lret C hr hlk dX6_sum_173 rfl rfl
set_option maxHeartbeats 4000000 in
set_option maxRecDepth 100000 in
theorem m_X6_sum_x {l : Launch} {D : va_G} {b0 : Nat} {I : MI} {J : MJ} {P : MI} {N : MJ} {o : Int64} {x : Int32} (hno9 : sx_in x 0 7 = 0) : hM l yX6_sum cX6_sum 5 (some .long) rX6_sum D b0 [.ref (hw_ad b0 26 0), .int x] I J P N o (some (.long 0)) I J (uI P 40 0 1) N o := by
  refine hw_Mof (by decide) [(0, .ref _), (1, .int _)] rfl (Nat.le_of_ble_eq_true rfl) ?_
  intro p e s m args below meth c C hr hlk hnm
  refine hq_aload_n (q := 0) C dX6_sum_0 rfl rfl ?_
  refine hq_iload_n (q := 1) C dX6_sum_1 rfl rfl ?_
  refine hq_iconst (y := 0) C dX6_sum_2 (by decide) ?_
  refine hq_bipush (y := 7) C dX6_sum_3 (by decide) ?_
  refine hq_cSr (As := [.int _, .int _, .int _]) (rm := rX6_in) (Cn := "") C (m_X6_in) ws_X6_in ml_X6_116 rfl rfl rfl rfl ⟨Nat.le_of_ble_eq_true rfl, Nat.le_of_ble_eq_true rfl⟩ (Nat.le_of_ble_eq_true rfl) ⟨Nat.le_of_ble_eq_true rfl, Nat.le_of_ble_eq_true rfl⟩ dX6_sum_5 ?_
  refine hq_if_eq (tgt := 15) C dX6_sum_8 (by decide) (fun c_8 => ?_) (fun c_8 => absurd hno9 c_8)
  refine hq_iconst (y := 1) C dX6_sum_15 (by decide) ?_
  refine hq_cVr (As := [.int _]) (rm := rX6_goesWell) (f := 26) (Nc := 1) C (m_X6_goesWell) wv_X6_goesWell ml_X6_124 rfl rfl rfl Nat.one_pos rfl rfl rfl rfl ⟨Nat.le_of_ble_eq_true rfl, Nat.le_of_ble_eq_true rfl⟩ (Nat.le_of_ble_eq_true rfl) ⟨Nat.le_of_ble_eq_true rfl, Nat.le_of_ble_eq_true rfl⟩ dX6_sum_16 ?_
  refine hq_if_ne (tgt := 24) C dX6_sum_19 (by decide) (fun c_19 => absurd c_19 (by decide)) (fun _ => ?_)
  refine hq_lconst (y := 0) C dX6_sum_22 rfl ?_
  exact hq_lret C hr hlk dX6_sum_23 rfl rfl
def ps_sum (P : MI) (N : MJ) (x : Int32) (nb no nc : Nat) : Int64 × MI × MJ := if sx_in x 0 7 = 0 then (0, uI P 40 0 1, N) else (pr_sum P N x nb no nc, uI P 40 0 0, N)
theorem m_X6_sum {l : Launch} {D : va_G} {b0 : Nat} {I : MI} {J : MJ} {P : MI} {N : MJ} {o : Int64} {x : Int32} {nb no nc : Nat} (h : pv_iv P nb no nc) : hM l yX6_sum cX6_sum 5 (some .long) rX6_sum D b0 [.ref (hw_ad b0 26 0), .int x] I J P N o (some (.long (ps_sum P N x nb no nc).1)) I J (ps_sum P N x nb no nc).2.1 (ps_sum P N x nb no nc).2.2 o := by
  by_cases c : sx_in x 0 7 = 0
  · rw [show ps_sum P N x nb no nc = (0, uI P 40 0 1, N) from if_pos c]
    exact m_X6_sum_x c
  · rw [show ps_sum P N x nb no nc = (pr_sum P N x nb no nc, uI P 40 0 0, N) from if_neg c]
    rcases in_7 c with q | q | q | q | q | q | q | q <;> subst q
    · exact m_X6_sum_0 h
    · exact m_X6_sum_1 h
    · exact m_X6_sum_2 h
    · exact m_X6_sum_3 h
    · exact m_X6_sum_4 h
    · exact m_X6_sum_5 h
    · exact m_X6_sum_6 h
    · exact m_X6_sum_7 h
def pq_1 (P : MI) (i : Nat) (s : Int32) : Int32 := if P 9 i = 0 then s ||| 0 else s ||| ((1 : Int32) <<< (nI i &&& 31))
def pq_2 (N : MJ) (a b : Nat) (s : Int32) : Int32 := if ¬ (s >>> (nI a &&& 31)) &&& 1 = 1 then s ||| 0 else if lg_cmp (N 2 (12 * a + b)) 0 = 0 then s ||| 0 else s ||| ((1 : Int32) <<< (nI b &&& 31))
def pq_3 (N : MJ) (nb a : Nat) (s : Int32) : Int32 := lp (pq_2 N a) nb 0 s
def pq_4 (N : MJ) (nb _j : Nat) (s : Int32) : Int32 := lp (pq_3 N nb) nb 0 s
def ps_inq (P : MI) (N : MJ) (nb : Nat) : Int32 := lp (pq_4 N nb) nb 0 (lp (pq_1 P) nb 0 0)
set_option maxHeartbeats 4000000 in
set_option maxRecDepth 100000 in
theorem m_X6_inquiry {l : Launch} {D : va_G} {b0 : Nat} {I : MI} {J : MJ} {P : MI} {N : MJ} {o : Int64} {nb : Nat} (hbc : P 0 0 = nI nb) (hnb : nb ≤ 12) : hM l yX6_inquiry cX6_inquiry 5 (some .int) rX6_inquiry D b0 [.ref (hw_ad b0 26 0)] I J P N o (some (.int (ps_inq P N nb))) I J (uI P 40 0 0) N o := by
  refine hw_Mof (by decide) [(0, .ref _)] rfl (Nat.le_of_ble_eq_true rfl) ?_
  intro p e s m args below meth c C hr hlk hnm
  refine hq_aload_n (q := 0) C dX6_inquiry_0 rfl rfl ?_
  refine hq_iconst (y := 0) C dX6_inquiry_1 (by decide) ?_
  refine hq_putP (f := 26) (g := 40) (Nc := 1) (Ns := 38) C fl_X6_109 dX6_inquiry_2 rfl rfl rfl rfl rfl (by decide) Nat.one_pos rfl rfl ?_
  refine hq_iconst (y := 0) C dX6_inquiry_5 (by decide) ?_
  refine hq_istore_n (L' := [(1, .int _), (0, .ref _)]) C dX6_inquiry_6 rfl (by decide) rfl ?_
  refine hq_iconst (y := 0) C dX6_inquiry_7 (by decide) ?_
  refine hq_istore_n (L' := [(2, .int _), (1, .int _), (0, .ref _)]) C dX6_inquiry_8 rfl (by decide) rfl ?_
  refine hq_perm [0, 1, 2] (L' := [(2, .int (nI 0)), (1, .int 0), (0, .ref (hw_ad b0 26 0))]) rfl ?_
  refine lp_back (pq_1 P) (fun (k9 : Nat) (σ : Int32) => hw_V p l e rX6_inquiry s m args below meth c (MQ below (hw_Q D b0 false 271 (some (.int (ps_inq P N nb))) (hw_vl b0 I J (uI P 40 0 0) N o)) args s 0 0 (fun q => b0 ≤ q)) D b0 5 false 0 0 271 9 [(2, .int (nI k9)), (1, .int σ), (0, .ref (hw_ad b0 26 0))] [] (hw_vl b0 I J (uI P 40 0 0) N o)) (fun _ _ => True) nb ?_ (fun _ _ _ _ => trivial) nb 0 0 (by omega) trivial ?_
  · intro k9 σ hi0 hinv0 k0
    refine hq_iload_n (q := 0) C dX6_inquiry_9 rfl rfl ?_
    refine hq_aload_n (q := 2) C dX6_inquiry_10 rfl rfl ?_
    refine hq_getP (f := 26) (g := 0) (Nc := 1) (Ns := 38) C fr_X6_113 dX6_inquiry_11 rfl rfl rfl rfl rfl (by decide) Nat.one_pos ?_
    refine hq_icmp_ge (tgt := 42) C dX6_inquiry_14 (by decide) (fun c_14 => absurd c_14 (by rw [show uI P 40 0 0 0 0 = nI nb from hbc]; exact nI_ge hi0 (by omega))) (fun c_14 => ?_)
    refine hq_iload_n (q := 1) C dX6_inquiry_17 rfl rfl ?_
    refine hq_aload_n (q := 2) C dX6_inquiry_18 rfl rfl ?_
    refine hq_getR (f := 26) (g := 32) (Nc := 1) (Ns := 38) C fr_X6_26 dX6_inquiry_19 rfl rfl rfl rfl rfl (by decide) Nat.one_pos ?_
    refine hq_iload_n (q := 0) C dX6_inquiry_22 rfl rfl ?_
    refine hq_zaldP0 (f := 32) (a := k9) (g := 9) (Nc := 1) (Ns := 12) C dX6_inquiry_23 rfl rfl rfl rfl rfl rfl rfl (by omega) Nat.one_pos ?_
    refine hq_if_eq (tgt := 33) C dX6_inquiry_24 (by decide) (fun c_24 => ?_) (fun c_24 => ?_)
    · refine hq_iconst (y := 0) C dX6_inquiry_33 (by decide) ?_
      refine hq_ior C dX6_inquiry_34 ?_
      refine hq_istore_n (L' := [(1, .int _), (2, .int _), (0, .ref _)]) C dX6_inquiry_35 rfl (by decide) rfl ?_
      refine hq_iinc (q := 1) (y := nI (_ + 1)) (L' := [(2, .int _), (1, .int _), (0, .ref _)]) C dX6_inquiry_36 rfl (hw_inc _) (by decide) rfl ?_
      refine hq_goto (tgt := 9) C dX6_inquiry_39 (by decide) ?_
      rw [show pq_1 P k9 σ = _ from (if_pos c_24)] at k0
      exact hq_fin [0, 1, 2] rfl rfl rfl rfl rfl rfl k0
    · refine hq_iconst (y := 1) C dX6_inquiry_27 (by decide) ?_
      refine hq_iload_n (q := 0) C dX6_inquiry_28 rfl rfl ?_
      refine hq_ishl C dX6_inquiry_29 ?_
      refine hq_goto (tgt := 34) C dX6_inquiry_30 (by decide) ?_
      refine hq_ior C dX6_inquiry_34 ?_
      refine hq_istore_n (L' := [(1, .int _), (2, .int _), (0, .ref _)]) C dX6_inquiry_35 rfl (by decide) rfl ?_
      refine hq_iinc (q := 1) (y := nI (_ + 1)) (L' := [(2, .int _), (1, .int _), (0, .ref _)]) C dX6_inquiry_36 rfl (hw_inc _) (by decide) rfl ?_
      refine hq_goto (tgt := 9) C dX6_inquiry_39 (by decide) ?_
      rw [show pq_1 P k9 σ = _ from (if_neg c_24)] at k0
      exact hq_fin [0, 1, 2] rfl rfl rfl rfl rfl rfl k0
  · refine hq_iload_n (q := 0) C dX6_inquiry_9 rfl rfl ?_
    refine hq_aload_n (q := 2) C dX6_inquiry_10 rfl rfl ?_
    refine hq_getP (f := 26) (g := 0) (Nc := 1) (Ns := 38) C fr_X6_113 dX6_inquiry_11 rfl rfl rfl rfl rfl (by decide) Nat.one_pos ?_
    refine hq_icmp_ge (tgt := 42) C dX6_inquiry_14 (by decide) (fun c_14 => ?_) (fun c_14 => absurd (by rw [show uI P 40 0 0 0 0 = nI nb from hbc]; exact nI_le (Nat.le_refl nb) (by omega)) c_14)
    refine hq_iconst (y := 0) C dX6_inquiry_42 (by decide) ?_
    refine hq_istore_n (L' := [(2, .int _), (1, .int _), (0, .ref _)]) C dX6_inquiry_43 rfl (by decide) rfl ?_
    refine hq_perm [0, 1, 2] (L' := [(2, .int (nI 0)), (1, .int (lp (pq_1 P) nb 0 0)), (0, .ref (hw_ad b0 26 0))]) rfl ?_
    refine lp_back (pq_4 N nb) (fun (r9 : Nat) (σ1 : Int32) => hw_V p l e rX6_inquiry s m args below meth c (MQ below (hw_Q D b0 false 271 (some (.int (ps_inq P N nb))) (hw_vl b0 I J (uI P 40 0 0) N o)) args s 0 0 (fun q => b0 ≤ q)) D b0 5 false 0 0 271 44 [(2, .int (nI r9)), (1, .int σ1), (0, .ref (hw_ad b0 26 0))] [] (hw_vl b0 I J (uI P 40 0 0) N o)) (fun _ _ => True) nb ?_ (fun _ _ _ _ => trivial) nb 0 (lp (pq_1 P) nb 0 0) (by omega) trivial ?_
    · intro r9 σ1 hi1 hinv1 k1
      refine hq_iload_n (q := 0) C dX6_inquiry_44 rfl rfl ?_
      refine hq_aload_n (q := 2) C dX6_inquiry_45 rfl rfl ?_
      refine hq_getP (f := 26) (g := 0) (Nc := 1) (Ns := 38) C fr_X6_113 dX6_inquiry_46 rfl rfl rfl rfl rfl (by decide) Nat.one_pos ?_
      refine hq_icmp_ge (tgt := 129) C dX6_inquiry_49 (by decide) (fun c_49 => absurd c_49 (by rw [show uI P 40 0 0 0 0 = nI nb from hbc]; exact nI_ge hi1 (by omega))) (fun c_49 => ?_)
      refine hq_iconst (y := 0) C dX6_inquiry_52 (by decide) ?_
      refine hq_istore_n (L' := [(3, .int _), (2, .int _), (1, .int _), (0, .ref _)]) C dX6_inquiry_53 rfl (by decide) rfl ?_
      refine hq_perm [0, 2, 1, 3] (L' := [(3, .int (nI 0)), (1, .int σ1), (2, .int (nI r9)), (0, .ref (hw_ad b0 26 0))]) rfl ?_
      refine lp_back (pq_3 N nb) (fun (a : Nat) (σ2 : Int32) => hw_V p l e rX6_inquiry s m args below meth c (MQ below (hw_Q D b0 false 271 (some (.int (ps_inq P N nb))) (hw_vl b0 I J (uI P 40 0 0) N o)) args s 0 0 (fun q => b0 ≤ q)) D b0 5 false 0 0 271 54 [(3, .int (nI a)), (1, .int σ2), (2, .int (nI r9)), (0, .ref (hw_ad b0 26 0))] [] (hw_vl b0 I J (uI P 40 0 0) N o)) (fun _ _ => True) nb ?_ (fun _ _ _ _ => trivial) nb 0 σ1 (by omega) trivial ?_
      · intro a σ2 hi2 hinv2 k2
        refine hq_iload_n (q := 0) C dX6_inquiry_54 rfl rfl ?_
        refine hq_aload_n (q := 3) C dX6_inquiry_55 rfl rfl ?_
        refine hq_getP (f := 26) (g := 0) (Nc := 1) (Ns := 38) C fr_X6_113 dX6_inquiry_56 rfl rfl rfl rfl rfl (by decide) Nat.one_pos ?_
        refine hq_icmp_ge (tgt := 123) C dX6_inquiry_59 (by decide) (fun c_59 => absurd c_59 (by rw [show uI P 40 0 0 0 0 = nI nb from hbc]; exact nI_ge hi2 (by omega))) (fun c_59 => ?_)
        refine hq_iconst (y := 0) C dX6_inquiry_62 (by decide) ?_
        refine hq_istore (L' := [(4, .int _), (3, .int _), (1, .int _), (2, .int _), (0, .ref _)]) C dX6_inquiry_63 (by decide) rfl ?_
        refine hq_perm [0, 2, 1, 3, 4] (L' := [(4, .int (nI 0)), (1, .int σ2), (3, .int (nI a)), (2, .int (nI r9)), (0, .ref (hw_ad b0 26 0))]) rfl ?_
        refine lp_back (pq_2 N a) (fun (b : Nat) (σ3 : Int32) => hw_V p l e rX6_inquiry s m args below meth c (MQ below (hw_Q D b0 false 271 (some (.int (ps_inq P N nb))) (hw_vl b0 I J (uI P 40 0 0) N o)) args s 0 0 (fun q => b0 ≤ q)) D b0 5 false 0 0 271 65 [(4, .int (nI b)), (1, .int σ3), (3, .int (nI a)), (2, .int (nI r9)), (0, .ref (hw_ad b0 26 0))] [] (hw_vl b0 I J (uI P 40 0 0) N o)) (fun _ _ => True) nb ?_ (fun _ _ _ _ => trivial) nb 0 σ2 (by omega) trivial ?_
        · intro b σ3 hi3 hinv3 k3
          refine hq_iload (q := 0) C dX6_inquiry_65 rfl ?_
          refine hq_aload_n (q := 4) C dX6_inquiry_67 rfl rfl ?_
          refine hq_getP (f := 26) (g := 0) (Nc := 1) (Ns := 38) C fr_X6_113 dX6_inquiry_68 rfl rfl rfl rfl rfl (by decide) Nat.one_pos ?_
          refine hq_icmp_ge (tgt := 117) C dX6_inquiry_71 (by decide) (fun c_71 => absurd c_71 (by rw [show uI P 40 0 0 0 0 = nI nb from hbc]; exact nI_ge hi3 (by omega))) (fun c_71 => ?_)
          refine hq_iload_n (q := 1) C dX6_inquiry_74 rfl rfl ?_
          refine hq_iload_n (q := 1) C dX6_inquiry_75 rfl rfl ?_
          refine hq_iload_n (q := 2) C dX6_inquiry_76 rfl rfl ?_
          refine hq_ishr C dX6_inquiry_77 ?_
          refine hq_iconst (y := 1) C dX6_inquiry_78 (by decide) ?_
          refine hq_iand C dX6_inquiry_79 ?_
          refine hq_iconst (y := 1) C dX6_inquiry_80 (by decide) ?_
          refine hq_icmp_ne (tgt := 108) C dX6_inquiry_81 (by decide) (fun c_81 => ?_) (fun c_81 => ?_)
          · refine hq_iconst (y := 0) C dX6_inquiry_108 (by decide) ?_
            refine hq_ior C dX6_inquiry_109 ?_
            refine hq_istore_n (L' := [(1, .int _), (4, .int _), (3, .int _), (2, .int _), (0, .ref _)]) C dX6_inquiry_110 rfl (by decide) rfl ?_
            refine hq_iinc (q := 1) (y := nI (_ + 1)) (L' := [(4, .int _), (1, .int _), (3, .int _), (2, .int _), (0, .ref _)]) C dX6_inquiry_111 rfl (hw_inc _) (by decide) rfl ?_
            refine hq_goto (tgt := 65) C dX6_inquiry_114 (by decide) ?_
            rw [show pq_2 N a b σ3 = _ from (if_pos c_81)] at k3
            exact hq_fin [0, 1, 2, 3, 4] rfl rfl rfl rfl rfl rfl k3
          · refine hq_aload_n (q := 4) C dX6_inquiry_84 rfl rfl ?_
            refine hq_getR (f := 26) (g := 36) (Nc := 1) (Ns := 38) C fr_X6_39 dX6_inquiry_85 rfl rfl rfl rfl rfl (by decide) Nat.one_pos ?_
            refine hq_bipush (y := 12) C dX6_inquiry_88 (by decide) ?_
            refine hq_iload_n (q := 2) C dX6_inquiry_90 rfl rfl ?_
            refine hq_imul C dX6_inquiry_91 ?_
            refine hq_iload (q := 0) C dX6_inquiry_92 rfl ?_
            refine hq_iadd C dX6_inquiry_94 ?_
            refine hq_laldN0 (f := 36) (a := 12 * a + b) (g := 2) (Nc := 1) (Ns := 144) C dX6_inquiry_95 rfl rfl rfl rfl rfl rfl (ix12 rfl rfl) (by omega) Nat.one_pos ?_
            refine hq_lconst (y := 0) C dX6_inquiry_96 rfl ?_
            refine hq_lcmp C dX6_inquiry_97 ?_
            refine hq_if_eq (tgt := 108) C dX6_inquiry_98 (by decide) (fun c_98 => ?_) (fun c_98 => ?_)
            · refine hq_iconst (y := 0) C dX6_inquiry_108 (by decide) ?_
              refine hq_ior C dX6_inquiry_109 ?_
              refine hq_istore_n (L' := [(1, .int _), (4, .int _), (3, .int _), (2, .int _), (0, .ref _)]) C dX6_inquiry_110 rfl (by decide) rfl ?_
              refine hq_iinc (q := 1) (y := nI (_ + 1)) (L' := [(4, .int _), (1, .int _), (3, .int _), (2, .int _), (0, .ref _)]) C dX6_inquiry_111 rfl (hw_inc _) (by decide) rfl ?_
              refine hq_goto (tgt := 65) C dX6_inquiry_114 (by decide) ?_
              rw [show pq_2 N a b σ3 = _ from ((if_neg (fun z9 => z9 c_81)).trans (if_pos c_98))] at k3
              exact hq_fin [0, 1, 2, 3, 4] rfl rfl rfl rfl rfl rfl k3
            · refine hq_iconst (y := 1) C dX6_inquiry_101 (by decide) ?_
              refine hq_iload (q := 0) C dX6_inquiry_102 rfl ?_
              refine hq_ishl C dX6_inquiry_104 ?_
              refine hq_goto (tgt := 109) C dX6_inquiry_105 (by decide) ?_
              refine hq_ior C dX6_inquiry_109 ?_
              refine hq_istore_n (L' := [(1, .int _), (4, .int _), (3, .int _), (2, .int _), (0, .ref _)]) C dX6_inquiry_110 rfl (by decide) rfl ?_
              refine hq_iinc (q := 1) (y := nI (_ + 1)) (L' := [(4, .int _), (1, .int _), (3, .int _), (2, .int _), (0, .ref _)]) C dX6_inquiry_111 rfl (hw_inc _) (by decide) rfl ?_
              refine hq_goto (tgt := 65) C dX6_inquiry_114 (by decide) ?_
              rw [show pq_2 N a b σ3 = _ from ((if_neg (fun z9 => z9 c_81)).trans (if_neg c_98))] at k3
              exact hq_fin [0, 1, 2, 3, 4] rfl rfl rfl rfl rfl rfl k3
        · refine hq_iload (q := 0) C dX6_inquiry_65 rfl ?_
          refine hq_aload_n (q := 4) C dX6_inquiry_67 rfl rfl ?_
          refine hq_getP (f := 26) (g := 0) (Nc := 1) (Ns := 38) C fr_X6_113 dX6_inquiry_68 rfl rfl rfl rfl rfl (by decide) Nat.one_pos ?_
          refine hq_icmp_ge (tgt := 117) C dX6_inquiry_71 (by decide) (fun c_71 => ?_) (fun c_71 => absurd (by rw [show uI P 40 0 0 0 0 = nI nb from hbc]; exact nI_le (Nat.le_refl nb) (by omega)) c_71)
          refine hq_iinc (q := 2) (y := nI (_ + 1)) (L' := [(3, .int _), (4, .int _), (1, .int _), (2, .int _), (0, .ref _)]) C dX6_inquiry_117 rfl (hw_inc _) (by decide) rfl ?_
          refine hq_goto (tgt := 54) C dX6_inquiry_120 (by decide) ?_
          exact hq_fin [0, 2, 3, 4] rfl rfl rfl rfl rfl rfl k2
      · refine hq_iload_n (q := 0) C dX6_inquiry_54 rfl rfl ?_
        refine hq_aload_n (q := 3) C dX6_inquiry_55 rfl rfl ?_
        refine hq_getP (f := 26) (g := 0) (Nc := 1) (Ns := 38) C fr_X6_113 dX6_inquiry_56 rfl rfl rfl rfl rfl (by decide) Nat.one_pos ?_
        refine hq_icmp_ge (tgt := 123) C dX6_inquiry_59 (by decide) (fun c_59 => ?_) (fun c_59 => absurd (by rw [show uI P 40 0 0 0 0 = nI nb from hbc]; exact nI_le (Nat.le_refl nb) (by omega)) c_59)
        refine hq_iinc (q := 2) (y := nI (_ + 1)) (L' := [(2, .int _), (3, .int _), (1, .int _), (0, .ref _)]) C dX6_inquiry_123 rfl (hw_inc _) (by decide) rfl ?_
        refine hq_goto (tgt := 44) C dX6_inquiry_126 (by decide) ?_
        exact hq_fin [0, 2, 3] rfl rfl rfl rfl rfl rfl k1
    · refine hq_iload_n (q := 0) C dX6_inquiry_44 rfl rfl ?_
      refine hq_aload_n (q := 2) C dX6_inquiry_45 rfl rfl ?_
      refine hq_getP (f := 26) (g := 0) (Nc := 1) (Ns := 38) C fr_X6_113 dX6_inquiry_46 rfl rfl rfl rfl rfl (by decide) Nat.one_pos ?_
      refine hq_icmp_ge (tgt := 129) C dX6_inquiry_49 (by decide) (fun c_49 => ?_) (fun c_49 => absurd (by rw [show uI P 40 0 0 0 0 = nI nb from hbc]; exact nI_le (Nat.le_refl nb) (by omega)) c_49)
      refine hq_iload_n (q := 1) C dX6_inquiry_129 rfl rfl ?_
      exact hq_iret C hr hlk dX6_inquiry_130 rfl rfl
